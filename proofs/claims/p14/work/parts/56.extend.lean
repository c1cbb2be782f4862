/-! A run that never looks at the old arrays: the same with any old arrays. -/
def mq_oset (o : mq_O) (T : mq_S) : mq_O := match o with
  | .inl (n, L, st, _) => .inl (n, L, st, T)
  | .inr (.inl (v, _)) => .inr (.inl (v, T))
  | .inr (.inr (.inl (a, _))) => .inr (.inr (.inl (a, T)))
  | .inr (.inr (.inr (j, as, n, L, st, _))) => .inr (.inr (.inr (j, as, n, L, st, T)))
def mq_o8 (n0 : Nat) (o : mq_O) : Prop := match o with
  | .inr (.inr (.inl (a, S))) => n0 ≤ a ∧ a < S.2.1
  | _ => True
/-- T is S, but for what lies below n0 (there B), and what isn't made yet -/
def mq_xt (n0 : Nat) (B : Nat → mq_C) (S T : mq_S) : Prop := T.2 = S.2 ∧ n0 ≤ S.2.1 ∧ (∀ a, n0 ≤ a → a < S.2.1 → T.1 a = S.1 a) ∧ (∀ a, a < n0 ∨ S.2.1 ≤ a → S.1 a = (999, [])) ∧ ∀ a, a < n0 → T.1 a = B a
theorem mq_xt_up {n0 : Nat} {B : Nat → mq_C} {S T : mq_S} (h : mq_xt n0 B S T) {a u : Nat} {c : mq_C} (ha : n0 ≤ a) (hz : a < S.2.1) : mq_xt n0 B (va_up S.1 a c, S.2.1, u) (va_up T.1 a c, S.2.1, u) := by
  obtain ⟨h1, h2, h3, h4, h5⟩ := h
  refine ⟨rfl, h2, fun b hb hb2 => ?_, fun b hb => ?_, fun b hb => ?_⟩
  · show va_up T.1 a c b = va_up S.1 a c b
    by_cases e : b = a
    · rw [e, va_up_self, va_up_self]
    · rw [va_up_ne _ _ e, va_up_ne _ _ e]; exact h3 b hb hb2
  · have hb' : b < n0 ∨ S.2.1 ≤ b := hb
    show va_up S.1 a c b = (999, [])
    rw [va_up_ne _ _ (by omega)]; exact h4 b hb
  · show va_up T.1 a c b = B b
    rw [va_up_ne _ _ (by omega)]; exact h5 b hb
theorem mq_xt_push {n0 : Nat} {B : Nat → mq_C} {S T : mq_S} (h : mq_xt n0 B S T) {u : Nat} {c : mq_C} : mq_xt n0 B (va_up S.1 S.2.1 c, S.2.1 + 1, u) (va_up T.1 S.2.1 c, S.2.1 + 1, u) := by
  obtain ⟨h1, h2, h3, h4, h5⟩ := h
  refine ⟨rfl, Nat.le_succ_of_le h2, fun b hb hb2 => ?_, fun b hb => ?_, fun b hb => ?_⟩
  · have hb3 : b < S.2.1 + 1 := hb2
    show va_up T.1 S.2.1 c b = va_up S.1 S.2.1 c b
    by_cases e : b = S.2.1
    · rw [e, va_up_self, va_up_self]
    · rw [va_up_ne _ _ e, va_up_ne _ _ e]; exact h3 b hb (by omega)
  · have hb' : b < n0 ∨ S.2.1 + 1 ≤ b := hb
    show va_up S.1 S.2.1 c b = (999, [])
    rw [va_up_ne _ _ (by omega)]; exact h4 b (by omega)
  · show va_up T.1 S.2.1 c b = B b
    rw [va_up_ne _ _ (by omega)]; exact h5 b hb
theorem mq_xt_in {n0 : Nat} {B : Nat → mq_C} {S T : mq_S} (h : mq_xt n0 B S T) {a : Nat} (hk : S.1 a ≠ (999, [])) : n0 ≤ a ∧ a < S.2.1 ∧ T.1 a = S.1 a := by
  have h8 : ¬ (a < n0 ∨ S.2.1 ≤ a) := fun hlt => hk (h.2.2.2.1 a hlt)
  have h9 : n0 ≤ a ∧ a < S.2.1 := by omega
  exact ⟨h9.1, h9.2, h.2.2.1 a h9.1 h9.2⟩
theorem mq_xt_k {n0 : Nat} {B : Nat → mq_C} {S T : mq_S} (h : mq_xt n0 B S T) {a : Nat} (hk : (S.1 a).1 ≠ 999) : n0 ≤ a ∧ a < S.2.1 ∧ T.1 a = S.1 a := mq_xt_in h (fun e => hk (by rw [e]))
theorem mq_xt_c {n0 : Nat} {B : Nat → mq_C} {S T : mq_S} (h : mq_xt n0 B S T) {a j : Nat} (hk : j < (S.1 a).2.length) : n0 ≤ a ∧ a < S.2.1 ∧ T.1 a = S.1 a := mq_xt_in h (fun e => by rw [e] at hk; exact absurd hk (Nat.not_lt_zero _))
def mq_xf (f : mq_E) : Prop := ∀ (n0 : Nat) (B : Nat → mq_C) (ns : List Nat) (cs : List Int) (L : mq_L) (st : List Value) (S : mq_S) (o : mq_O), ns[3]? ≠ some 999 → ns[1]? ≠ some 1069 → f ns cs L st S = some o → ∀ T, mq_xt n0 B S T → ∃ T', f ns cs L st T = some (mq_oset o T') ∧ mq_xt n0 B (mq_oS o) T' ∧ mq_o8 n0 o
theorem mq_xf_get : mq_xf mq_o_get := by
  intro n0 B ns cs L st S o h999 h1069 h T hx
  unfold mq_o_get at h
  split at h
  next n ci k q a r =>
    split at h
    next hc =>
      split at h
      next v hv =>
        cases h
        have e := (mq_xt_c hx (List.getElem?_eq_some_iff.mp hv).1).2.2
        refine ⟨T, ?_, hx, trivial⟩
        show (if (T.1 a).1 = ci then _ else none) = _
        rw [e, if_pos hc, hv]
        rfl
      · cases h
    · cases h
  · cases h
theorem mq_xf_put : mq_xf mq_o_put := by
  intro n0 B ns cs L st S o h999 h1069 h T hx
  unfold mq_o_put at h
  split at h
  next n ci k t q v a r =>
    split at h
    next hc =>
      cases h
      obtain ⟨h8, hz8, e⟩ := mq_xt_c hx hc.2.1
      refine ⟨(va_up T.1 a (ci, (S.1 a).2.set k v), S.2.1, S.2.2), ?_, mq_xt_up hx h8 hz8, trivial⟩
      show (if (T.1 a).1 = ci ∧ k < (T.1 a).2.length ∧ mq_fit t v = true then _ else none) = _
      rw [e, if_pos hc, hx.1]
      rfl
    · cases h
  · cases h
theorem mq_xf_new : mq_xf mq_o_new := by
  intro n0 B ns cs L st S o h999 h1069 h T hx
  unfold mq_o_new at h
  split at h
  next n ci w ts =>
    cases h
    refine ⟨(va_up T.1 S.2.1 (ci, ts.map mq_dv), S.2.1 + 1, S.2.2 + ts.length), ?_, mq_xt_push hx, trivial⟩
    show mq_nx n L (.ref T.2.1 :: st) (va_up T.1 T.2.1 (ci, ts.map mq_dv), T.2.1 + 1, T.2.2 + ts.length) = _
    rw [hx.1]
    rfl
  · cases h
theorem mq_xf_newarr : mq_xf mq_o_newarr := by
  intro n0 B ns cs L st S o h999 h1069 h T hx
  unfold mq_o_newarr at h
  split at h
  next n kind q c r =>
    split at h
    · cases h
    next hc =>
      cases h
      refine ⟨(va_up T.1 S.2.1 (kind, List.replicate c.toNatClampNeg (mq_av kind)), S.2.1 + 1, S.2.2 + c.toNatClampNeg), ?_, mq_xt_push hx, trivial⟩
      show (if c < 0 ∨ 1000000 < c.toNatClampNeg then none else mq_nx n L (.ref T.2.1 :: r) (va_up T.1 T.2.1 (kind, List.replicate c.toNatClampNeg (mq_av kind)), T.2.1 + 1, T.2.2 + c.toNatClampNeg)) = _
      rw [if_neg hc, hx.1]
      rfl
  · cases h
theorem mq_xf_alen : mq_xf mq_o_alen := by
  intro n0 B ns cs L st S o h999 h1069 h T hx
  unfold mq_o_alen at h
  split at h
  next n a r =>
    split at h
    next hc =>
      cases h
      have e := (mq_xt_k hx (a := a) (fun e9 => by rw [e9] at hc; cases hc)).2.2
      refine ⟨T, ?_, hx, trivial⟩
      show (if mq_isarr (T.1 a).1 = true then _ else none) = _
      rw [e, if_pos hc]
      rfl
    · cases h
  · cases h
theorem mq_xf_ald : mq_xf mq_o_ald := by
  intro n0 B ns cs L st S o h999 h1069 h T hx
  unfold mq_o_ald at h
  split at h
  next n kind i a r =>
    split at h
    next hc =>
      split at h
      next v hv =>
        obtain ⟨hf, e9⟩ := mq_if h
        cases e9
        have e := (mq_xt_c hx (List.getElem?_eq_some_iff.mp hv).1).2.2
        refine ⟨T, ?_, hx, trivial⟩
        show (if ((T.1 a).1 = kind ∨ (kind = 64 ∧ (T.1 a).1 = 60)) ∧ ¬ i < 0 then _ else none) = _
        rw [e, if_pos hc, hv]
        show (if mq_fit (if kind = 66 then 2 else if kind < 70 then 0 else 3) v = true then _ else none) = _
        rw [if_pos hf]
        rfl
      · cases h
    · cases h
  · cases h
theorem mq_xf_ast : mq_xf mq_o_ast := by
  intro n0 B ns cs L st S o h999 h1069 h T hx
  unfold mq_o_ast at h
  split at h
  next n kind v i a r =>
    split at h
    next hc =>
      cases h
      obtain ⟨h8, hz8, e⟩ := mq_xt_c hx hc.2.2.1
      have hk : kind < 70 ∨ mq_rk T.1 kind v = true := by
        rcases hc.2.2.2.2 with hk | hk
        · exact Or.inl hk
        · refine Or.inr ?_
          unfold mq_rk at hk ⊢
          cases v with
          | ref b =>
            simp only [decide_eq_true_eq] at hk ⊢
            have hb : (S.1 b).1 ≠ 999 := fun e9 => h1069 (by rw [e9] at hk; rw [← hk]; rfl)
            rw [(mq_xt_k hx hb).2.2]
            exact hk
          | _ => cases hk
      refine ⟨(va_up T.1 a (kind, (S.1 a).2.set i.toNatClampNeg v), S.2.1, S.2.2), ?_, mq_xt_up hx h8 hz8, trivial⟩
      show (if (T.1 a).1 = kind ∧ ¬ i < 0 ∧ i.toNatClampNeg < (T.1 a).2.length ∧ mq_fit (mq_ak kind) v = true ∧ (kind < 70 ∨ mq_rk T.1 kind v = true) then _ else none) = _
      rw [e, if_pos ⟨hc.1, hc.2.1, hc.2.2.1, hc.2.2.2.1, hk⟩, hx.1]
      rfl
    · cases h
  · cases h
theorem mq_xf_virtual : mq_xf mq_o_virtual := by
  intro n0 B ns cs L st S o h999 h1069 h T hx
  unfold mq_o_virtual at h
  split at h
  next n j c ci mx q =>
    split at h
    next b r hd =>
      split at h
      next hc =>
        cases h
        have e := (mq_xt_k hx (a := b) (fun e9 => h999 (by rw [← hc.1, e9]; rfl))).2.2
        refine ⟨T, ?_, hx, trivial⟩
        show (match st.drop c with
          | .ref b :: r => if (T.1 b).1 = ci ∧ mq_wt r ≤ 8 ∧ (mq_sp (.ref b :: (st.take c).reverse)).length ≤ mx then (some (Sum.inr (Sum.inr (Sum.inr (j, .ref b :: (st.take c).reverse, n, L, r, T)))) : Option mq_O) else none
          | _ => none) = _
        rw [hd]
        show (if (T.1 b).1 = ci ∧ _ then _ else none) = _
        rw [e, if_pos hc]
        rfl
      · cases h
    · cases h
  · cases h
theorem mq_xf_copy : mq_xf mq_o_copy := by
  intro n0 B ns cs L st S o h999 h1069 h T hx
  unfold mq_o_copy at h
  split at h
  next n q c dp b sp a r =>
    split at h
    next hc =>
      cases h
      have ea := (mq_xt_k hx (a := a) (fun e9 => by rw [e9] at hc; exact absurd hc.2.1 (by decide))).2.2
      obtain ⟨h8, hz8, eb⟩ := mq_xt_k hx (a := b) (fun e9 => by rw [e9] at hc; exact absurd hc.2.2.1 (by decide))
      refine ⟨(va_up T.1 b (64, mq_cpy (S.1 a).2 (S.1 b).2 sp.toNatClampNeg dp.toNatClampNeg c.toNatClampNeg), S.2.1, S.2.2), ?_, mq_xt_up hx h8 hz8, trivial⟩
      show (if mq_wt r ≤ 8 ∧ (T.1 a).1 = 64 ∧ (T.1 b).1 = 64 ∧ ¬ c < 0 ∧ ¬ dp < 0 ∧ ¬ sp < 0 ∧ sp.toNatClampNeg + c.toNatClampNeg ≤ (T.1 a).2.length ∧ dp.toNatClampNeg + c.toNatClampNeg ≤ (T.1 b).2.length then
        mq_nx n L r (va_up T.1 b (64, mq_cpy (T.1 a).2 (T.1 b).2 sp.toNatClampNeg dp.toNatClampNeg c.toNatClampNeg), T.2.1, T.2.2) else none) = _
      rw [ea, eb, if_pos hc, hx.1]
      rfl
    · cases h
  · cases h
theorem mq_xf_throw : mq_xf mq_o_throw := by
  intro n0 B ns cs L st S o h999 h1069 h T hx
  unfold mq_o_throw at h
  split at h
  next e q =>
    split at h
    next hc =>
      cases h
      refine ⟨(va_up T.1 S.2.1 (e, []), S.2.1 + 1, S.2.2 + 6), ?_, mq_xt_push hx, hx.2.1, Nat.lt_succ_self _⟩
      show (if mq_wt st ≤ 8 then (some (Sum.inr (Sum.inr (Sum.inl (T.2.1, (va_up T.1 T.2.1 (e, []), T.2.1 + 1, T.2.2 + 6))))) : Option mq_O) else none) = _
      rw [if_pos hc, hx.1]
      rfl
    · cases h
  · cases h
set_option maxHeartbeats 8000000 in
theorem mq_ops_xf : ∀ f ∈ mq_ops, mq_xf f := by
  intro f hf
  unfold mq_ops at hf
  simp only [List.mem_cons, List.not_mem_nil, or_false] at hf
  repeat' (rcases hf with hf | hf)
  all_goals first
    | exact mq_xf_get
    | exact mq_xf_put
    | exact mq_xf_new
    | exact mq_xf_newarr
    | exact mq_xf_alen
    | exact mq_xf_ald
    | exact mq_xf_ast
    | exact mq_xf_virtual
    | exact mq_xf_copy
    | exact mq_xf_throw
    | (intro n0 B ns cs L st S o h999 h1069 h T hx
       simp only [mq_o_iconst, mq_o_lconst, mq_o_iload, mq_o_lload, mq_o_aload, mq_o_istore, mq_o_lstore, mq_o_astore, mq_o_iinc, mq_bi, mq_bd, mq_bl, mq_sl, mq_ui, mq_ul, mq_o_lcmp, mq_o_dup, mq_o_pop, mq_o_dup_x1, mq_o_dup_x2, mq_o_dup2, mq_if1, mq_if2, mq_o_goto, mq_o_switch, mq_o_gets, mq_o_static, mq_o_object, mq_o_min, mq_o_max, mq_o_ret, mq_o_retv] at h ⊢
       repeat' (split at h)
       all_goals first
         | (cases h; done)
         | (cases h; exact ⟨T, rfl, hx, trivial⟩)
         | (cases h; refine ⟨T, ?_, hx, trivial⟩; simp only [*]; rfl)
         | (cases h; refine ⟨T, ?_, hx, trivial⟩; simp [*, mq_oset]))
def mq_P9 (P : List mq_T) : Bool := P.all fun t => t.2.2.all fun x => decide (x.2.2.1[3]? ≠ some 999) && decide (x.2.2.1[1]? ≠ some 1069)
theorem mq_stp_xt {n0 : Nat} {B : Nat → mq_C} {P : List mq_T} (h9 : mq_P9 P = true) {k pc : Nat} {L : mq_L} {st : List Value} {S T : mq_S} {o : mq_O} (h : mq_stp P k pc L st S = some o) (hx : mq_xt n0 B S T) : ∃ T', mq_stp P k pc L st T = some (mq_oset o T') ∧ mq_xt n0 B (mq_oS o) T' ∧ mq_o8 n0 o := by
  unfold mq_stp at h ⊢
  cases ha : mq_at P k pc with
  | none => rw [ha] at h; cases h
  | some op =>
    rw [ha] at h
    have hm : op.2.1[3]? ≠ some 999 ∧ op.2.1[1]? ≠ some 1069 := by
      unfold mq_at at ha
      cases hP : P[k]? with
      | none => rw [hP] at ha; cases ha
      | some t =>
        rw [hP] at ha
        have h1 := List.all_eq_true.mp (List.all_eq_true.mp h9 t (List.mem_of_getElem? hP)) _ (mq_lookup_mem _ ha)
        rw [Bool.and_eq_true, decide_eq_true_eq, decide_eq_true_eq] at h1
        exact h1
    have h2 : mq_ex op L st S = some o := h
    show ∃ T', mq_ex op L st T = some (mq_oset o T') ∧ _
    unfold mq_ex at h2 ⊢
    cases hf : mq_ops[op.1]? with
    | none => rw [hf] at h2; cases h2
    | some f =>
      rw [hf] at h2
      exact mq_ops_xf f (List.mem_of_getElem? hf) n0 B _ _ _ _ _ _ hm.1 hm.2 h2 T hx
theorem mq_run_xt {n0 : Nat} {B : Nat → mq_C} {P : List mq_T} (h9 : mq_P9 P = true) : ∀ (n d k pc : Nat) (L : mq_L) (st : List Value) (S T : mq_S) (r : Option Value ⊕ Nat) (S' : mq_S), mq_run P n d k pc L st S = some (r, S') → mq_xt n0 B S T → ∃ T', mq_run P n d k pc L st T = some (r, T') ∧ mq_xt n0 B S' T' ∧ ∀ a, r = .inr a → n0 ≤ a ∧ a < S'.2.1 := by
  intro n
  induction n with
  | zero => intro d k pc L st S T r S' h; simp [mq_run] at h
  | succ n ih =>
    intro d k pc L st S T r S' h hx
    rw [mq_run] at h ⊢
    cases hs : mq_stp P k pc L st S with
    | none => rw [hs] at h; cases h
    | some o =>
      rw [hs] at h
      obtain ⟨T1, e1, x1, o8⟩ := mq_stp_xt h9 hs hx
      rw [e1]
      rcases o with ⟨pc', L', st', S1⟩ | ⟨v, S1⟩ | ⟨a, S1⟩ | ⟨j, as, pc', L', st', S1⟩
      · exact ih _ _ _ _ _ _ _ _ _ h x1
      · cases h
        exact ⟨T1, rfl, x1, fun a e => by cases e⟩
      · cases h
        exact ⟨T1, rfl, x1, fun a e => by cases e; exact o8⟩
      · cases d with
        | zero => cases h
        | succ d' =>
          simp only [mq_oset] at h ⊢
          cases hc : mq_run P n d' j 0 (mq_en P j as) [] S1 with
          | none => rw [hc] at h; cases h
          | some x =>
            rw [hc] at h
            obtain ⟨rc, S2⟩ := x
            obtain ⟨T2, e2, x2, g8⟩ := ih _ _ _ _ _ _ _ _ _ hc x1
            rw [e2]
            cases rc with
            | inl v => exact ih _ _ _ _ _ _ _ _ _ h x2
            | inr a =>
              have ea : T2.1 a = S2.1 a := x2.2.2.1 a (g8 a rfl).1 (g8 a rfl).2
              simp only [ea] at h ⊢
              cases hh : mq_hd P k pc (S2.1 a).1 with
              | none =>
                rw [hh] at h
                obtain ⟨h1, h2⟩ := mq_if h
                cases h2
                simp only [hh]
                rw [if_pos h1]
                exact ⟨T2, rfl, x2, g8⟩
              | some q =>
                rw [hh] at h
                simp only [hh]
                exact ih _ _ _ _ _ _ _ _ _ h x2
set_option maxRecDepth 100000 in
theorem mq_PP9 : mq_P9 mq_PP = true := by decide +kernel
