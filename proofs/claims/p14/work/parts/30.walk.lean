/-! THE WALK: what the mini-machine runs to its end, the machine runs to its end, with the same answer and memory. -/
def mq_oS (o : mq_O) : mq_S := match o with
  | .inl (_, _, _, S) => S
  | .inr (.inl (_, S)) => S
  | .inr (.inr (.inl (_, S))) => S
  | .inr (.inr (.inr (_, _, _, _, _, S))) => S
def mq_le (S S' : mq_S) : Prop := S.2.1 ≤ S'.2.1 ∧ S.2.2 ≤ S'.2.2
theorem mq_le_rfl {S : mq_S} : mq_le S S := ⟨Nat.le_refl _, Nat.le_refl _⟩
theorem mq_le_trans {S S1 S2 : mq_S} (h : mq_le S S1) (h' : mq_le S1 S2) : mq_le S S2 := ⟨Nat.le_trans h.1 h'.1, Nat.le_trans h.2 h'.2⟩
set_option maxHeartbeats 4000000 in
theorem mq_ops_le : ∀ f ∈ mq_ops, ∀ (ns : List Nat) (cs : List Int) (L : mq_L) (st : List Value) (S : mq_S) (o : mq_O), f ns cs L st S = some o → mq_le S (mq_oS o) := by
  intro f hf
  unfold mq_ops at hf
  simp only [List.mem_cons, List.not_mem_nil, or_false] at hf
  repeat' (rcases hf with hf | hf)
  all_goals
    intro ns cs L st S o h
    simp only [mq_o_iconst, mq_o_lconst, mq_o_iload, mq_o_lload, mq_o_aload, mq_o_istore, mq_o_lstore, mq_o_astore, mq_o_iinc, mq_bi, mq_bd, mq_bl, mq_sl, mq_ui, mq_ul, mq_o_lcmp, mq_o_dup, mq_o_pop, mq_o_dup_x1, mq_o_dup_x2, mq_o_dup2, mq_if1, mq_if2, mq_o_goto, mq_o_switch, mq_o_get, mq_o_put, mq_o_gets, mq_o_new, mq_o_newarr, mq_o_alen, mq_o_ald, mq_o_ast, mq_o_static, mq_o_virtual, mq_o_object, mq_o_min, mq_o_max, mq_o_copy, mq_o_ret, mq_o_retv, mq_o_throw] at h
    repeat' (split at h)
    all_goals first
      | (cases h; done)
      | (cases h; exact mq_le_rfl)
      | (cases h; exact ⟨Nat.le_succ _, Nat.le_add_right _ _⟩)
theorem mq_ex_le {o : mq_P} {L : mq_L} {st : List Value} {S : mq_S} {x : mq_O} (h : mq_ex o L st S = some x) : mq_le S (mq_oS x) := by
  unfold mq_ex at h
  split at h
  next f hf => exact mq_ops_le f (List.mem_of_getElem? hf) _ _ _ _ _ _ h
  · cases h
theorem mq_stp_le {P : List mq_T} {k pc : Nat} {L : mq_L} {st : List Value} {S : mq_S} {x : mq_O} (h : mq_stp P k pc L st S = some x) : mq_le S (mq_oS x) := by
  unfold mq_stp at h
  split at h
  · exact mq_ex_le h
  · cases h
theorem mq_run_le (P : List mq_T) : ∀ (n d k pc : Nat) (L : mq_L) (st : List Value) (S : mq_S) (r : mq_A), mq_run P n d k pc L st S = some r → mq_le S r.2 := by
  intro n
  induction n with
  | zero => intro d k pc L st S r h; simp [mq_run] at h
  | succ n ih =>
    intro d k pc L st S r h
    rw [mq_run] at h
    cases hs : mq_stp P k pc L st S with
    | none => rw [hs] at h; cases h
    | some o =>
      rw [hs] at h
      have h0 := mq_stp_le hs
      rcases o with ⟨pc', L', st', S'⟩ | ⟨v, S'⟩ | ⟨a, S'⟩ | ⟨j, as, pc', L', st', S'⟩
      · exact mq_le_trans h0 (ih _ _ _ _ _ _ _ h)
      · cases h; exact h0
      · cases h; exact h0
      · cases d with
        | zero => cases h
        | succ d' =>
          simp only at h
          cases hc : mq_run P n d' j 0 (mq_en P j as) [] S' with
          | none => rw [hc] at h; cases h
          | some x =>
            rw [hc] at h
            have h1 := mq_le_trans h0 (ih _ _ _ _ _ _ _ hc)
            obtain ⟨v | a, S1⟩ := x
            · exact mq_le_trans h1 (ih _ _ _ _ _ _ _ h)
            · simp only at h
              cases hh : mq_hd P k pc (S1.1 a).1 with
              | none =>
                rw [hh] at h
                obtain ⟨-, rfl⟩ := mq_if h
                exact h1
              | some q => rw [hh] at h; exact mq_le_trans h1 (ih _ _ _ _ _ _ _ h)
def mq_mlk (TT : List Cond) (own : String) (index : Nat) (y : MethodName) : Prop := Cond.methodLink own index y ∈ TT ∨ ∃ host, Cond.methodLinkNest own index y host ∈ TT
/-- what is known of a call -/
def mq_fcall (cl : List vw_C) (TT : List Cond) (Nms : List mq_Nm) (N : mq_Nm) (pc : Nat) (o : mq_P) : Prop :=
  (∃ j Nj index n ns, decode N.2.1 pc = .ok (.invokestatic index, 3) ∧ Nms[j]? = some Nj ∧ mq_mlk TT N.1.cls index Nj.1 ∧ Cond.static Nj.1 ∈ TT ∧ Cond.initialized Nj.1.cls ∈ TT ∧ mq_cw Nj ∈ TT ∧ mq_pl Nj n = true ∧ o = (60, (pc + 3) :: j :: n :: Nj.2.2.1 :: ns, [])) ∨
  (∃ j Nj index n ci r ns, decode N.2.1 pc = .ok (.invokevirtual index, 3) ∧ Nms[j]? = some Nj ∧ mq_mlk TT N.1.cls index Nj.1 ∧ Cond.instanceMethod Nj.1 ∈ TT ∧ cl[ci]? = some r ∧ ci < 60 ∧ Cond.selects r.1 Nj.1 Nj.1 ∈ TT ∧ mq_cw Nj ∈ TT ∧ mq_pl Nj n = true ∧ o = (61, (pc + 3) :: j :: n :: ci :: Nj.2.2.1 :: ns, [])) ∨
  (∃ j Nj index n ci ns, decode N.2.1 pc = .ok (.invokespecial index, 3) ∧ Nms[j]? = some Nj ∧ mq_mlk TT N.1.cls index Nj.1 ∧ Cond.instanceMethod Nj.1 ∈ TT ∧ Nj.1.name = "<init>" ∧ Nj.2.2.2.2 = [] ∧ Nj.2.2.2.1 = none ∧ mq_cw Nj ∈ TT ∧ mq_pl Nj n = true ∧ o = (61, (pc + 3) :: j :: n :: ci :: Nj.2.2.1 :: ns, []))
def mq_fret (N : mq_Nm) (pc : Nat) (o : mq_P) : Prop :=
  (decode N.2.1 pc = .ok (.return_, 1) ∧ N.2.2.2.1 = none ∧ o = (66, [], [])) ∨
  (decode N.2.1 pc = .ok (.ireturn, 1) ∧ N.2.2.2.1 = some .int ∧ o = (67, [0], [])) ∨
  (decode N.2.1 pc = .ok (.ireturn, 1) ∧ N.2.2.2.1 = some .boolean ∧ o = (67, [1], [])) ∨
  (decode N.2.1 pc = .ok (.lreturn, 1) ∧ N.2.2.2.1 = some .long ∧ o = (67, [2], [])) ∨
  (decode N.2.1 pc = .ok (.areturn, 1) ∧ (∃ rt, N.2.2.2.1 = some rt ∧ ((∃ n, rt = .object n) ∨ ∃ t, rt = .array t)) ∧ o = (67, [3], []))
section MQR
variable {p : Program} {l : Launch} {e : Env} {R : Room} {s : State} {m : MethodId} {args : Array Value} {below : List Frame} {meth : Method} {c : Code} {H : Heap} {locs : List Loc} {cells slots : Nat} {Q : State → Prop}
theorem mq_W_mono {Q' : State → Prop} {g : JFrame} (h : W p l e R s m args below meth c H locs cells slots Q g) (hq : ∀ t, Q t → Q' t) : W p l e R s m args below meth c H locs cells slots Q' g := by
  intro T hT X
  obtain ⟨t, a, b⟩ := h T hT X
  exact ⟨t, a, hq t b⟩
theorem mq_fin_of {cl : List vw_C} {G : mq_G} {v : Option Value} {S : mq_S} {t : State} (h : MQ below (fun _ _ o t => o = .returned (v.map (mq_v (mq_f G))) ∧ t.heap = H) args s cells slots (fun q => G.2.2.2 ≤ q) t) (hok : mq_ok cl G S s H) (hS : va_S (fun q => G.2.2.2 ≤ q) s.heap H locs) : mq_fin cl G below s cells slots (.inl v) S t := by
  obtain ⟨o, h1, h2, ⟨rfl, h4⟩, Lw, ⟨h5, h6, h7⟩, h8⟩ := h
  exact ⟨h1, h2, h6, ⟨Lw, h7, h8⟩, by rw [h4]; exact hok, hS.F h4⟩
/-- a method's end -/
theorem mq_w_ret {cl : List vw_C} {TT : List Cond} {Zs : List (Nat × String × String × String)} {ks : List Nat} {N : mq_Nm} {G : mq_G} (hst : mq_St cl TT Zs ks N G p s m args meth c) {S S' : mq_S} (hok : mq_ok cl G S s H) (hS : va_S (fun q => G.2.2.2 ≤ q) s.heap H locs) {L : mq_L} {ls : Array Slot} {pc : Nat} {o : mq_P} (hf : mq_fret N pc o) {st : List Value} {v : Option Value} (he : mq_ex o L st S = some (.inr (.inl (v, S')))) (hR1 : cells ≤ R.cells) (hR2 : slots ≤ R.slots) :
    W p l e R s m args below meth c H locs cells slots (mq_fin cl G below s R.cells R.slots (.inl v) S') (F0 m pc ls (st.map (mq_v (mq_f G)))) := by
  obtain ⟨hx, hN, hts, hK, hh0, hZs⟩ := hst
  obtain ⟨hn1, hn2, hn3, hb, hml, hret, hlocks, hhd, hsig⟩ := hN
  refine W.widen hR1 hR2 ?_
  have inv : ∀ {t : Nat}, mq_o_retv [t] [] L st S = some (.inr (.inl (v, S'))) → ∃ w, st = [w] ∧ mq_fit t w = true ∧ v = some w ∧ S' = S := by
    intro t h
    unfold mq_o_retv at h
    split at h
    next e1 =>
      cases e1
      obtain ⟨hc, h2⟩ := mq_if h
      cases h2
      exact ⟨_, rfl, hc, rfl, rfl⟩
    · cases h
  rcases hf with ⟨hd, hr, rfl⟩ | ⟨hd, hr, rfl⟩ | ⟨hd, hr, rfl⟩ | ⟨hd, hr, rfl⟩ | ⟨hd, ⟨rt, hr, hrt⟩, rfl⟩
  · have h' : mq_o_ret [] [] L st S = some (.inr (.inl (v, S'))) := he
    unfold mq_o_ret at h'
    split at h'
    · cases h'
      exact mq_W_mono (W.vret (Qc := fun _ _ o t => o = .returned (none : Option Value) ∧ t.heap = H) (free := fun q => G.2.2.2 ≤ q) hx hb (hret.trans hr) (fun t ht _ => ⟨rfl, ht⟩) hS.2.2 hd) (fun t h => mq_fin_of (v := none) h hok hS)
    · cases h'
  · obtain ⟨w, rfl, hw, rfl, rfl⟩ := inv he
    obtain ⟨x, rfl⟩ := mq_fit_0 hw
    exact mq_W_mono (W.iret (Qc := fun _ _ o t => o = .returned (some (Value.int x)) ∧ t.heap = H) (free := fun q => G.2.2.2 ≤ q) hx hb (hret.trans hr) (fun t ht _ => ⟨rfl, ht⟩) hS.2.2 hd) (fun t h => mq_fin_of (v := some (.int x)) h hok hS)
  · obtain ⟨w, rfl, hw, rfl, rfl⟩ := inv he
    obtain ⟨x, rfl, h01⟩ := mq_fit_1 hw
    exact mq_W_mono (W.zret (Qc := fun _ _ o t => o = .returned (some (Value.int x)) ∧ t.heap = H) (free := fun q => G.2.2.2 ≤ q) hx hb (hret.trans hr) (by rcases h01 with rfl | rfl <;> decide) (fun t ht _ => ⟨rfl, ht⟩) hS.2.2 hd) (fun t h => mq_fin_of (v := some (.int x)) h hok hS)
  · obtain ⟨w, rfl, hw, rfl, rfl⟩ := inv he
    obtain ⟨x, rfl⟩ := mq_fit_2 hw
    exact mq_W_mono (W.lret (Qc := fun _ _ o t => o = .returned (some (Value.long x)) ∧ t.heap = H) (free := fun q => G.2.2.2 ≤ q) hx hb (hret.trans hr) (fun t ht _ => ⟨rfl, ht⟩) hS.2.2 hd) (fun t h => mq_fin_of (v := some (.long x)) h hok hS)
  · obtain ⟨w, rfl, hw, rfl, rfl⟩ := inv he
    obtain ⟨x, rfl⟩ := mq_fit_3 hw
    exact mq_W_mono (W.aret (v := .ref (mq_f G x)) (Qc := fun _ _ o t => o = .returned (some (Value.ref (mq_f G x))) ∧ t.heap = H) (free := fun q => G.2.2.2 ≤ q) hx hb (hret.trans hr) hrt (Or.inr ⟨_, rfl⟩) (fun t ht _ => ⟨rfl, ht⟩) hS.2.2 hd) (fun t h => mq_fin_of (v := some (.ref x)) h hok hS)
end MQR
