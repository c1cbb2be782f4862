/-! A run changes only cells that its arguments reach (for methods that make nothing and throw nothing). -/
section HRE
variable (A : Nat → Prop)
def hy_I (L : mq_L) (st : List Value) (M : Nat → mq_C) : Prop := (∀ b, some (.ref b) ∈ L → A b) ∧ (∀ b, .ref b ∈ st → A b) ∧ ∀ a, A a → ∀ b, .ref b ∈ (M a).2 → A b
def hy_O (M : Nat → mq_C) (out : mq_O) : Prop := match out with
  | .inl (_, L', st', S') => hy_I A L' st' S'.1 ∧ ∀ a, ¬ A a → S'.1 a = M a
  | .inr (.inl (v, S')) => (∀ b, v = some (.ref b) → A b) ∧ S'.1 = M
  | .inr (.inr (.inl _)) => False
  | .inr (.inr (.inr (_, as, _, L', st', S'))) => hy_I A L' st' S'.1 ∧ (∀ b, .ref b ∈ as → A b) ∧ S'.1 = M
def hy_op (f : mq_E) : Prop := ∀ ns cs L st S out, f ns cs L st S = some out → hy_I A L st S.1 → hy_O A S.1 out
theorem hy_c {st : List Value} {v : Value} (h : ∀ b, .ref b ∈ st → A b) (hv : ∀ b, v = .ref b → A b) : ∀ b, .ref b ∈ v :: st → A b := by
  intro b hb
  rcases List.mem_cons.mp hb with h1 | h1
  · exact hv b h1.symm
  · exact h b h1
theorem hy_t {st : List Value} {v : Value} (h : ∀ b, .ref b ∈ v :: st → A b) : ∀ b, .ref b ∈ st → A b := fun b hb => h b (List.mem_cons_of_mem _ hb)
theorem hy_i {x : Int32} : ∀ b, Value.int x = .ref b → A b := fun b h => by cases h
theorem hy_set {L : mq_L} {i : Nat} {v : Value} {L' : mq_L} (hs : mq_set1 L i v = some L') (h : ∀ b, some (.ref b) ∈ L → A b) (hv : ∀ b, v = .ref b → A b) : ∀ b, some (.ref b) ∈ L' → A b := by
  unfold mq_set1 at hs
  split at hs
  · cases hs
  · cases hs
    intro b hb
    rcases List.mem_or_eq_of_mem_set hb with h1 | h1
    · exact h b h1
    · exact hv b (Option.some.inj h1).symm
theorem hy_iconst : hy_op A mq_o_iconst := by
  intro ns cs L st S out h hi
  unfold mq_o_iconst at h
  split at h
  · cases h
    exact ⟨⟨hi.1, hy_c A hi.2.1 (hy_i A), hi.2.2⟩, fun _ _ => rfl⟩
  · cases h
theorem hy_iload : hy_op A mq_o_iload := by
  intro ns cs L st S out h hi
  unfold mq_o_iload at h
  split at h
  · split at h
    · cases h
      exact ⟨⟨hi.1, hy_c A hi.2.1 (hy_i A), hi.2.2⟩, fun _ _ => rfl⟩
    · cases h
  · cases h
theorem hy_aload : hy_op A mq_o_aload := by
  intro ns cs L st S out h hi
  unfold mq_o_aload at h
  split at h
  · split at h
    · next x hx =>
      cases h
      refine ⟨⟨hi.1, hy_c A hi.2.1 ?_, hi.2.2⟩, fun _ _ => rfl⟩
      intro b hb
      cases hb
      exact hi.1 _ (List.mem_of_getElem? hx)
    · cases h
  · cases h
theorem hy_istore : hy_op A mq_o_istore := by
  intro ns cs L st S out h hi
  unfold mq_o_istore at h
  split at h
  · split at h
    · next L' hs =>
      cases h
      exact ⟨⟨hy_set A hs hi.1 (hy_i A), hy_t A hi.2.1, hi.2.2⟩, fun _ _ => rfl⟩
    · cases h
  · cases h
theorem hy_iinc : hy_op A mq_o_iinc := by
  intro ns cs L st S out h hi
  unfold mq_o_iinc at h
  split at h
  · split at h
    · split at h
      · next L' hs =>
        cases h
        exact ⟨⟨hy_set A hs hi.1 (hy_i A), hi.2.1, hi.2.2⟩, fun _ _ => rfl⟩
      · cases h
    · cases h
  · cases h
theorem hy_bi (f : Int32 → Int32 → Int32) : hy_op A (mq_bi f) := by
  intro ns cs L st S out h hi
  unfold mq_bi at h
  split at h
  · cases h
    exact ⟨⟨hi.1, hy_c A (hy_t A (hy_t A hi.2.1)) (hy_i A), hi.2.2⟩, fun _ _ => rfl⟩
  · cases h
theorem hy_if1 (f : Int32 → Bool) : hy_op A (mq_if1 f) := by
  intro ns cs L st S out h hi
  unfold mq_if1 at h
  split at h
  · cases h
    exact ⟨⟨hi.1, hy_t A hi.2.1, hi.2.2⟩, fun _ _ => rfl⟩
  · cases h
theorem hy_if2 (f : Int32 → Int32 → Bool) : hy_op A (mq_if2 f) := by
  intro ns cs L st S out h hi
  unfold mq_if2 at h
  split at h
  · cases h
    exact ⟨⟨hi.1, hy_t A (hy_t A hi.2.1), hi.2.2⟩, fun _ _ => rfl⟩
  · cases h
theorem hy_goto : hy_op A mq_o_goto := by
  intro ns cs L st S out h hi
  unfold mq_o_goto at h
  split at h
  · cases h
    exact ⟨hi, fun _ _ => rfl⟩
  · cases h
theorem hy_get : hy_op A mq_o_get := by
  intro ns cs L st S out h hi
  unfold mq_o_get at h
  split at h
  · next a r =>
    split at h
    · split at h
      · next v hv =>
        cases h
        refine ⟨⟨hi.1, hy_c A (hy_t A hi.2.1) ?_, hi.2.2⟩, fun _ _ => rfl⟩
        intro b hb
        subst hb
        exact hi.2.2 _ (hi.2.1 _ (List.mem_cons_self ..)) b (List.mem_of_getElem? hv)
      · cases h
    · cases h
  · cases h
theorem hy_up {M : Nat → mq_C} {a kd k : Nat} {v : Value} (ha : A a) (hc : ∀ a, A a → ∀ b, .ref b ∈ (M a).2 → A b) (hv : ∀ b, v = .ref b → A b) : (∀ a', A a' → ∀ b, .ref b ∈ (va_up M a (kd, (M a).2.set k v) a').2 → A b) ∧ ∀ a', ¬ A a' → va_up M a (kd, (M a).2.set k v) a' = M a' := by
  constructor
  · intro a' ha' b hb
    by_cases e : a' = a
    · subst e
      rw [va_up_self] at hb
      rcases List.mem_or_eq_of_mem_set hb with h1 | h1
      · exact hc a' ha' b h1
      · exact hv b h1.symm
    · rw [va_up_ne _ _ e] at hb
      exact hc a' ha' b hb
  · intro a' ha'
    refine va_up_ne _ _ ?_
    rintro rfl
    exact ha' ha
theorem hy_put : hy_op A mq_o_put := by
  intro ns cs L st S out h hi
  unfold mq_o_put at h
  split at h
  · next v a r =>
    split at h
    · cases h
      have ha : A a := hi.2.1 _ (List.mem_cons_of_mem _ (List.mem_cons_self ..))
      obtain ⟨q1, q2⟩ := hy_up A (k := _) (kd := _) ha hi.2.2 (v := v) (fun b hb => hi.2.1 b (by rw [hb]; exact List.mem_cons_self ..))
      exact ⟨⟨hi.1, hy_t A (hy_t A hi.2.1), q1⟩, q2⟩
    · cases h
  · cases h
theorem hy_ald : hy_op A mq_o_ald := by
  intro ns cs L st S out h hi
  unfold mq_o_ald at h
  split at h
  · next i a r =>
    split at h
    · split at h
      · next v hv =>
        obtain ⟨_, h⟩ := mq_if h
        cases h
        refine ⟨⟨hi.1, hy_c A (hy_t A (hy_t A hi.2.1)) ?_, hi.2.2⟩, fun _ _ => rfl⟩
        intro b hb
        subst hb
        exact hi.2.2 _ (hi.2.1 _ (List.mem_cons_of_mem _ (List.mem_cons_self ..))) b (List.mem_of_getElem? hv)
      · cases h
    · cases h
  · cases h
theorem hy_ast : hy_op A mq_o_ast := by
  intro ns cs L st S out h hi
  unfold mq_o_ast at h
  split at h
  · next v i a r =>
    split at h
    · cases h
      have ha : A a := hi.2.1 _ (List.mem_cons_of_mem _ (List.mem_cons_of_mem _ (List.mem_cons_self ..)))
      obtain ⟨q1, q2⟩ := hy_up A (k := _) (kd := _) ha hi.2.2 (v := v) (fun b hb => hi.2.1 b (by rw [hb]; exact List.mem_cons_self ..))
      exact ⟨⟨hi.1, hy_t A (hy_t A (hy_t A hi.2.1)), q1⟩, q2⟩
    · cases h
  · cases h
theorem hy_static : hy_op A mq_o_static := by
  intro ns cs L st S out h hi
  unfold mq_o_static at h
  split at h
  · split at h
    · cases h
      refine ⟨⟨hi.1, fun b hb => hi.2.1 b (List.mem_of_mem_drop hb), hi.2.2⟩, fun b hb => hi.2.1 b (List.mem_of_mem_take (List.mem_reverse.mp hb)), rfl⟩
    · cases h
  · cases h
theorem hy_virtual : hy_op A mq_o_virtual := by
  intro ns cs L st S out h hi
  unfold mq_o_virtual at h
  split at h
  · split at h
    · next b r hd =>
      split at h
      · cases h
        have hsub : ∀ v ∈ Value.ref b :: r, v ∈ st := fun v hv => List.mem_of_mem_drop (by rw [hd]; exact hv)
        refine ⟨⟨hi.1, fun c hc => hi.2.1 c (hsub _ (List.mem_cons_of_mem _ hc)), hi.2.2⟩, fun c hc => ?_, rfl⟩
        rcases List.mem_cons.mp hc with h1 | h1
        · exact hi.2.1 c (hsub _ (by rw [h1]; exact List.mem_cons_self ..))
        · exact hi.2.1 c (List.mem_of_mem_take (List.mem_reverse.mp h1))
      · cases h
    · cases h
  · cases h
theorem hy_retv : hy_op A mq_o_retv := by
  intro ns cs L st S out h hi
  unfold mq_o_retv at h
  split at h
  · split at h
    · cases h
      refine ⟨fun b hb => hi.2.1 b ?_, rfl⟩
      rw [Option.some.inj hb]
      exact List.mem_cons_self ..
    · cases h
  · cases h
def hy_ok (o : Nat) : Bool := [0, 2, 4, 5, 8, 9, 10, 11, 12, 38, 39, 44, 45, 46, 47, 48, 49, 50, 52, 53, 58, 59, 60, 61, 67].elem o
theorem hy_ops {o : Nat} {f : mq_E} (ho : hy_ok o = true) (hf : mq_ops[o]? = some f) : hy_op A f := by
  have h := List.elem_iff.mp ho
  simp only [List.mem_cons, List.not_mem_nil, or_false] at h
  rcases h with rfl | rfl | rfl | rfl | rfl | rfl | rfl | rfl | rfl | rfl | rfl | rfl | rfl | rfl | rfl | rfl | rfl | rfl | rfl | rfl | rfl | rfl | rfl | rfl | rfl <;> cases hf
  · exact hy_iconst A
  · exact hy_iload A
  · exact hy_aload A
  · exact hy_istore A
  · exact hy_iinc A
  · exact hy_bi A _
  · exact hy_bi A _
  · exact hy_bi A _
  · exact hy_bi A _
  · exact hy_if1 A _
  · exact hy_if1 A _
  · exact hy_if2 A _
  · exact hy_if2 A _
  · exact hy_if2 A _
  · exact hy_if2 A _
  · exact hy_if2 A _
  · exact hy_if2 A _
  · exact hy_goto A
  · exact hy_get A
  · exact hy_put A
  · exact hy_ald A
  · exact hy_ast A
  · exact hy_static A
  · exact hy_virtual A
  · exact hy_retv A
/-- methods whose instructions are such, and call each other alone -/
def hy_ms (Ks : List Nat) : Bool := Ks.all fun k => match mq_PP[k]? with
  | some t => t.2.2.all fun x => bif hy_ok x.2.1 then (match x.2.1, x.2.2.1 with
    | 60, _ :: j :: _ => Ks.elem j
    | 61, _ :: j :: _ => Ks.elem j
    | 60, _ => false
    | 61, _ => false
    | _, _ => true) else false
  | none => false
theorem hy_lk {pc : Nat} {o : mq_P} : ∀ l : List (Nat × mq_P), l.lookup pc = some o → ∃ x ∈ l, x.2 = o := by
  intro l
  induction l with
  | nil => intro h; cases h
  | cons a l ih =>
    intro h
    rw [List.lookup_cons] at h
    split at h
    · cases h
      exact ⟨a, List.mem_cons_self .., rfl⟩
    · obtain ⟨x, hx, e⟩ := ih h
      exact ⟨x, List.mem_cons_of_mem _ hx, e⟩
theorem hy_at {Ks : List Nat} (hk : hy_ms Ks = true) {k pc : Nat} {o : mq_P} (h1 : k ∈ Ks) (h : mq_at mq_PP k pc = some o) : hy_ok o.1 = true ∧ (∀ n j r, o.2.1 = n :: j :: r → o.1 = 60 ∨ o.1 = 61 → j ∈ Ks) := by
  have h2 := List.all_eq_true.mp hk k h1
  unfold mq_at at h
  split at h
  · next t ht =>
    rw [ht] at h2
    obtain ⟨x, hx, rfl⟩ := hy_lk _ h
    obtain ⟨h3, h4⟩ := mz_bif (List.all_eq_true.mp h2 x hx)
    refine ⟨h3, fun n j r e1 e2 => ?_⟩
    rw [e1] at h4
    rcases e2 with e2 | e2
    · rw [e2] at h4
      exact List.elem_iff.mp h4
    · rw [e2] at h4
      exact List.elem_iff.mp h4
  · cases h
theorem hy_en {j : Nat} {as : List Value} (h : ∀ b, .ref b ∈ as → A b) : ∀ b, some (.ref b) ∈ mq_en mq_PP j as → A b := by
  intro b hb
  unfold mq_en at hb
  split at hb
  · rcases List.mem_append.mp hb with h1 | h1
    · unfold mq_sp at h1
      obtain ⟨v, hv, h2⟩ := List.mem_flatMap.mp h1
      split at h2
      · rcases List.mem_cons.mp h2 with h3 | h3
        · exact h b (by rw [Option.some.inj h3]; exact hv)
        · rw [List.mem_singleton] at h3
          cases h3
      · rw [List.mem_singleton] at h2
        exact h b (by rw [Option.some.inj h2]; exact hv)
    · rw [List.mem_replicate] at h1
      cases h1.2
  · cases hb
theorem hy_callee {o : mq_P} {L : mq_L} {st : List Value} {S : mq_S} {j pc' : Nat} {as : List Value} {L' : mq_L} {st' : List Value} {S' : mq_S} (hok : hy_ok o.1 = true) (h : mq_ex o L st S = some (.inr (.inr (.inr (j, as, pc', L', st', S'))))) : (o.1 = 60 ∨ o.1 = 61) ∧ ∃ n r, o.2.1 = n :: j :: r := by
  obtain ⟨o1, ns, cs⟩ := o
  have h9 := List.elem_iff.mp hok
  simp only [List.mem_cons, List.not_mem_nil, or_false] at h9
  unfold mq_ex at h
  rcases h9 with rfl | rfl | rfl | rfl | rfl | rfl | rfl | rfl | rfl | rfl | rfl | rfl | rfl | rfl | rfl | rfl | rfl | rfl | rfl | rfl | rfl | rfl | rfl | rfl | rfl
  case inr.inr.inr.inr.inr.inr.inr.inr.inr.inr.inr.inr.inr.inr.inr.inr.inr.inr.inr.inr.inr.inr.inl =>
    have h : mq_o_static ns cs L st S = _ := h
    unfold mq_o_static at h
    split at h
    · split at h
      · cases h
        exact ⟨.inl rfl, _, _, rfl⟩
      · cases h
    · cases h
  case inr.inr.inr.inr.inr.inr.inr.inr.inr.inr.inr.inr.inr.inr.inr.inr.inr.inr.inr.inr.inr.inr.inr.inl =>
    have h : mq_o_virtual ns cs L st S = _ := h
    unfold mq_o_virtual at h
    split at h
    · split at h
      · split at h
        · cases h
          exact ⟨.inr rfl, _, _, rfl⟩
        · cases h
      · cases h
    · cases h
  all_goals
    exfalso
    first
    | (have h : mq_o_iconst ns cs L st S = _ := h; unfold mq_o_iconst at h; split at h <;> cases h)
    | (have h : mq_o_iload ns cs L st S = _ := h; unfold mq_o_iload at h; split at h <;> (try split at h) <;> cases h)
    | (have h : mq_o_aload ns cs L st S = _ := h; unfold mq_o_aload at h; split at h <;> (try split at h) <;> cases h)
    | (have h : mq_o_istore ns cs L st S = _ := h; unfold mq_o_istore at h; split at h <;> (try split at h) <;> cases h)
    | (have h : mq_o_iinc ns cs L st S = _ := h; unfold mq_o_iinc at h; split at h <;> (try split at h) <;> (try split at h) <;> cases h)
    | (have h : mq_bi _ ns cs L st S = _ := h; unfold mq_bi at h; split at h <;> cases h)
    | (have h : mq_if1 _ ns cs L st S = _ := h; unfold mq_if1 at h; split at h <;> cases h)
    | (have h : mq_if2 _ ns cs L st S = _ := h; unfold mq_if2 at h; split at h <;> cases h)
    | (have h : mq_o_goto ns cs L st S = _ := h; unfold mq_o_goto at h; split at h <;> cases h)
    | (have h : mq_o_get ns cs L st S = _ := h; unfold mq_o_get at h; split at h <;> (try split at h) <;> (try split at h) <;> cases h)
    | (have h : mq_o_put ns cs L st S = _ := h; unfold mq_o_put at h; split at h <;> (try split at h) <;> cases h)
    | (have h : mq_o_ald ns cs L st S = _ := h; unfold mq_o_ald at h; split at h <;> (try split at h) <;> (try split at h) <;> first | cases h | (obtain ⟨_, h⟩ := mq_if h; cases h))
    | (have h : mq_o_ast ns cs L st S = _ := h; unfold mq_o_ast at h; split at h <;> (try split at h) <;> cases h)
    | (have h : mq_o_retv ns cs L st S = _ := h; unfold mq_o_retv at h; split at h <;> (try split at h) <;> cases h)
theorem hy_run {Ks : List Nat} (hk : hy_ms Ks = true) : ∀ (n d k pc : Nat) (L : mq_L) (st : List Value) (S : mq_S) (r : mq_A), k ∈ Ks → hy_I A L st S.1 → mq_run mq_PP n d k pc L st S = some r → ∃ v, r.1 = .inl v ∧ (∀ b, v = some (.ref b) → A b) ∧ (∀ a, A a → ∀ b, .ref b ∈ (r.2.1 a).2 → A b) ∧ ∀ a, ¬ A a → r.2.1 a = S.1 a := by
  intro n
  induction n with
  | zero => intro d k pc L st S r _ _ h; simp [mq_run] at h
  | succ n ih =>
    intro d k pc L st S r hm hi h
    rw [mq_run] at h
    cases hs : mq_stp mq_PP k pc L st S with
    | none => rw [hs] at h; cases h
    | some out =>
      rw [hs] at h
      have hs' := hs
      unfold mq_stp at hs'
      split at hs'
      · next o ho =>
        obtain ⟨q1, q2⟩ := hy_at hk hm ho
        have hs2 := hs'
        unfold mq_ex at hs'
        split at hs'
        · next f hf =>
          have hO := hy_ops A q1 hf _ _ _ _ _ _ hs' hi
          rcases out with ⟨pc', L', st', S'⟩ | ⟨v, S'⟩ | ⟨a, S'⟩ | ⟨j, as, pc', L', st', S'⟩
          · obtain ⟨v, e1, e2, e3, e4⟩ := ih _ _ _ _ _ _ _ hm hO.1 h
            exact ⟨v, e1, e2, e3, fun a ha => (e4 a ha).trans (hO.2 a ha)⟩
          · cases h
            refine ⟨v, rfl, hO.1, ?_, fun a _ => by show S'.1 a = _; rw [hO.2]⟩
            show ∀ a, A a → ∀ b, Value.ref b ∈ (S'.1 a).2 → A b
            rw [hO.2]
            exact hi.2.2
          · exact hO.elim
          · obtain ⟨e60, n', r', e'⟩ := hy_callee q1 hs2
            have hj := q2 n' j r' e' e60
            cases d with
            | zero => cases h
            | succ d' =>
              simp only at h
              cases hc : mq_run mq_PP n d' j 0 (mq_en mq_PP j as) [] S' with
              | none => rw [hc] at h; cases h
              | some x =>
                rw [hc] at h
                have hcl : ∀ a, A a → ∀ b, Value.ref b ∈ (S'.1 a).2 → A b := hO.1.2.2
                obtain ⟨v, e1, e2, e3, e4⟩ := ih _ _ _ _ _ _ _ hj ⟨hy_en A hO.2.1, fun b hb => (by cases hb), hcl⟩ hc
                obtain ⟨x1, x2⟩ := x
                have e1 : x1 = .inl v := e1
                subst e1
                have h : mq_run mq_PP n (d' + 1) k pc' L' (v.toList ++ st') x2 = some r := h
                have hst : ∀ b, Value.ref b ∈ v.toList ++ st' → A b := by
                  intro b hb
                  rcases List.mem_append.mp hb with h1 | h1
                  · cases v with
                    | none => cases h1
                    | some w =>
                      have h1 : Value.ref b ∈ [w] := h1
                      rw [List.mem_singleton] at h1
                      exact e2 b (by rw [h1])
                  · exact hO.1.2.1 b h1
                obtain ⟨v2, f1, f2, f3, f4⟩ := ih _ _ _ _ _ _ _ hm ⟨hO.1.1, hst, e3⟩ h
                refine ⟨v2, f1, f2, f3, fun a ha => (f4 a ha).trans ((e4 a ha).trans ?_)⟩
                rw [hO.2.2]
        · cases hs'
      · cases hs'
/-- a run that ends with Q has that frame too -/
theorem hy_R {Ks : List Nat} (hk : hy_ms Ks = true) {d k pc : Nat} {L : mq_L} {st : List Value} {S : mq_S} {Q Q' : (Option Value ⊕ Nat) → mq_S → Prop} (hm : k ∈ Ks) (hi : hy_I A L st S.1) (h : mq_R mq_PP d k pc L st S Q) (hq : ∀ r S', Q r S' → (∀ a, ¬ A a → S'.1 a = S.1 a) → Q' r S') : mq_R mq_PP d k pc L st S Q' := by
  obtain ⟨n, r, h1, h2⟩ := h
  obtain ⟨v, _, _, _, e4⟩ := hy_run A hk n d k pc L st S r hm hi h1
  exact ⟨n, r, h1, hq _ _ h2 e4⟩
end HRE
theorem hy_read : hy_ms [58, 59, 60, 61, 24] = true := by decide +kernel
