/-! Both of two ends of one run; a slot that a run does not write. -/
theorem lx_and {d k pc : Nat} {L : mq_L} {st : List Value} {S : mq_S} {Q Q' : (Option Value ⊕ Nat) → mq_S → Prop} (h : mq_R mq_PP d k pc L st S Q) (h' : mq_R mq_PP d k pc L st S Q') : mq_R mq_PP d k pc L st S (fun r S' => Q r S' ∧ Q' r S') := by
  obtain ⟨n, r, h1, h2⟩ := h
  obtain ⟨n', r', h1', h2'⟩ := h'
  have e1 := mq_mono mq_PP h1 (Nat.le_max_left n n')
  have e2 := mq_mono mq_PP h1' (Nat.le_max_right n n')
  rw [e1] at e2
  cases e2
  exact ⟨_, r, h1, h2, h2'⟩
theorem gz_switch : hz_pl mq_o_switch := by
  intro ns cs L st S out h
  unfold mq_o_switch at h
  repeat' split at h
  all_goals first | (cases h; exact .inl ⟨_, _, _, rfl⟩) | (cases h; exact .inr ⟨_, rfl⟩) | cases h
theorem gz_gets : hz_pl mq_o_gets := by
  intro ns cs L st S out h
  unfold mq_o_gets at h
  repeat' split at h
  all_goals first | (cases h; exact .inl ⟨_, _, _, rfl⟩) | (cases h; exact .inr ⟨_, rfl⟩) | cases h
def gz_okp (o : Nat) : Bool := [0, 2, 4, 5, 8, 9, 10, 11, 12, 13, 14, 15, 16, 17, 18, 19, 33, 37, 38, 39, 40, 41, 42, 43, 44, 45, 46, 47, 48, 49, 50, 51, 52, 54, 58, 66, 67].elem o
theorem gz_pls {o : Nat} {f : mq_E} (ho : gz_okp o = true) (hf : mq_ops[o]? = some f) : hz_pl f := by
  have h := List.elem_iff.mp ho
  simp only [List.mem_cons, List.not_mem_nil, or_false] at h
  rcases h with rfl | rfl | rfl | rfl | rfl | rfl | rfl | rfl | rfl | rfl | rfl | rfl | rfl | rfl | rfl | rfl | rfl | rfl | rfl | rfl | rfl | rfl | rfl | rfl | rfl | rfl | rfl | rfl | rfl | rfl | rfl | rfl | rfl | rfl | rfl | rfl | rfl <;> cases hf
  · exact hz_iconst
  · exact hz_iload
  · exact hz_aload
  · exact hz_istore
  · exact hz_iinc
  · exact hz_bi _
  · exact hz_bi _
  · exact hz_bi _
  · exact hz_bi _
  · exact hz_bi _
  · exact hz_bi _
  · exact hz_bi _
  · exact hz_bi _
  · exact hz_bi _
  · exact hz_bd _
  · exact hz_bd _
  · exact hz_dup
  · exact hz_dup2
  · exact hz_if1 _
  · exact hz_if1 _
  · exact hz_if1 _
  · exact hz_if1 _
  · exact hz_if1 _
  · exact hz_if1 _
  · exact hz_if2 _
  · exact hz_if2 _
  · exact hz_if2 _
  · exact hz_if2 _
  · exact hz_if2 _
  · exact hz_if2 _
  · exact hz_goto
  · exact gz_switch
  · exact hz_get
  · exact gz_gets
  · exact hz_ald
  · exact hz_ret
  · exact hz_retv
def gz_ck (A C K : Nat) (Ks : List Nat) (o : mq_P) : Bool := match o.1, o.2.1 with
  | 53, _ :: ci :: k :: _ => !(decide (ci = C) && decide (k = K))
  | 59, [_, kind] => !(decide (kind = C))
  | 60, _ :: j :: _ => Ks.elem j
  | 61, _ :: j :: _ => Ks.elem j
  | o, _ => gz_okp o
def gz_ms (A C K : Nat) (Ks : List Nat) : Bool := Ks.all fun k => match mq_PP[k]? with
  | some t => t.2.2.all fun x => gz_ck A C K Ks x.2
  | none => false
def gz_P (A C K : Nat) (M M' : Nat → mq_C) : Prop := (M' A).1 = C ∧ (M' A).2[K]? = (M A).2[K]?
theorem gz_t {A C K : Nat} {M M' M'' : Nat → mq_C} (h : gz_P A C K M M') (h' : gz_P A C K M' M'') : gz_P A C K M M'' := ⟨h'.1, h'.2.trans h.2⟩
def gz_O (A C K : Nat) (Ks : List Nat) (S : mq_S) (out : mq_O) : Prop := match out with
  | .inl (_, _, _, S') => gz_P A C K S.1 S'.1
  | .inr (.inl (_, S')) => gz_P A C K S.1 S'.1
  | .inr (.inr (.inl _)) => False
  | .inr (.inr (.inr (j, _, _, _, _, S'))) => j ∈ Ks ∧ S' = S
theorem gz_up {A C K : Nat} {M : Nat → mq_C} {a ci k : Nat} {v : Value} (h9 : (M A).1 = C) (hc : (M a).1 = ci) (hn : a = A → k ≠ K) : gz_P A C K M (va_up M a (ci, (M a).2.set k v)) := by
  by_cases e : a = A
  · subst e
    refine ⟨?_, ?_⟩
    · rw [va_up_self]
      exact hc.symm.trans h9
    · rw [va_up_self]
      show ((M a).2.set k v)[K]? = _
      rw [List.getElem?_set_ne (hn rfl)]
  · unfold gz_P
    rw [va_up_ne _ _ (Ne.symm e)]
    exact ⟨h9, rfl⟩
theorem gz_step {A C K : Nat} {Ks : List Nat} {o : mq_P} (hk : gz_ck A C K Ks o = true) {L : mq_L} {st : List Value} {S : mq_S} {out : mq_O} (h : mq_ex o L st S = some out) (h9 : (S.1 A).1 = C) : gz_O A C K Ks S out := by
  obtain ⟨o1, ns, cs⟩ := o
  unfold gz_ck at hk
  split at hk
  · next n ci k r e1 e2 =>
    obtain rfl : o1 = 53 := e1
    obtain rfl : ns = n :: ci :: k :: r := e2
    have h2 : mq_o_put (n :: ci :: k :: r) cs L st S = some out := h
    clear h
    unfold mq_o_put at h2
    split at h2
    · next n' ci' k' t' r' v a s' en =>
      cases en
      split at h2
      · next hc =>
        cases h2
        refine gz_up h9 hc.1 ?_
        intro e1 e2
        have e3 : _ = C := hc.1.symm.trans (by rw [e1]; exact h9)
        rw [decide_eq_true e3, decide_eq_true e2] at hk
        cases hk
      · cases h2
    · cases h2
  · next n kind e1 e2 =>
    obtain rfl : o1 = 59 := e1
    obtain rfl : ns = [n, kind] := e2
    have h2 : mq_o_ast [n, kind] cs L st S = some out := h
    clear h
    unfold mq_o_ast at h2
    split at h2
    · next n' kind' v i a s' en =>
      cases en
      split at h2
      · next hc =>
        cases h2
        refine gz_up h9 hc.1 ?_
        intro e1
        have e3 : _ = C := hc.1.symm.trans (by rw [e1]; exact h9)
        rw [decide_eq_true e3] at hk
        cases hk
      · cases h2
    · cases h2
  · next n j r e1 e2 =>
    obtain rfl : o1 = 60 := e1
    obtain rfl : ns = n :: j :: r := e2
    have h2 : mq_o_static (n :: j :: r) cs L st S = some out := h
    clear h
    unfold mq_o_static at h2
    split at h2
    · next n' j' c' mx' r' en =>
      cases en
      split at h2
      · cases h2
        exact ⟨List.elem_iff.mp hk, rfl⟩
      · cases h2
    · cases h2
  · next n j r e1 e2 =>
    obtain rfl : o1 = 61 := e1
    obtain rfl : ns = n :: j :: r := e2
    have h2 : mq_o_virtual (n :: j :: r) cs L st S = some out := h
    clear h
    unfold mq_o_virtual at h2
    split at h2
    · next n' j' c' ci' mx' r' en =>
      cases en
      split at h2
      · split at h2
        · cases h2
          exact ⟨List.elem_iff.mp hk, rfl⟩
        · cases h2
      · cases h2
    · cases h2
  · unfold mq_ex at h
    split at h
    · next f hf =>
      rcases gz_pls hk hf _ _ _ _ _ _ h with ⟨p, L', st', rfl⟩ | ⟨v, rfl⟩
      · exact ⟨h9, rfl⟩
      · exact ⟨h9, rfl⟩
    · cases h
theorem gz_at {A C K : Nat} {Ks : List Nat} (hk : gz_ms A C K Ks = true) {k pc : Nat} {o : mq_P} (h1 : k ∈ Ks) (h : mq_at mq_PP k pc = some o) : gz_ck A C K Ks o = true := by
  have h2 := List.all_eq_true.mp hk k h1
  unfold mq_at at h
  split at h
  · next t ht =>
    rw [ht] at h2
    obtain ⟨x, hx, rfl⟩ := hy_lk _ h
    exact List.all_eq_true.mp h2 x hx
  · cases h
theorem gz_run {A C K : Nat} {Ks : List Nat} (hk : gz_ms A C K Ks = true) : ∀ (n d k pc : Nat) (L : mq_L) (st : List Value) (S : mq_S) (r : mq_A), k ∈ Ks → (S.1 A).1 = C → mq_run mq_PP n d k pc L st S = some r → ∃ v, r.1 = .inl v ∧ gz_P A C K S.1 r.2.1 := by
  intro n
  induction n with
  | zero => intro d k pc L st S r _ _ h; simp [mq_run] at h
  | succ n ih =>
    intro d k pc L st S r hm hi h
    rw [mq_run] at h
    cases hs : mq_stp mq_PP k pc L st S with
    | none => rw [hs] at h; cases h
    | some out =>
      rw [hs] at h
      unfold mq_stp at hs
      split at hs
      · next o ho =>
        have hO := gz_step (gz_at hk hm ho) hs hi
        rcases out with ⟨pc', L', st', S'⟩ | ⟨v, S'⟩ | ⟨a, S'⟩ | ⟨j, as, pc', L', st', S'⟩
        · have hO : gz_P A C K S.1 S'.1 := hO
          obtain ⟨v, e1, e2⟩ := ih _ _ _ _ _ _ _ hm hO.1 h
          exact ⟨v, e1, gz_t hO e2⟩
        · cases h
          exact ⟨v, rfl, hO⟩
        · exact hO.elim
        · obtain ⟨hj, rfl⟩ : j ∈ Ks ∧ S' = S := hO
          cases d with
          | zero => cases h
          | succ d' =>
            simp only at h
            cases hc : mq_run mq_PP n d' j 0 (mq_en mq_PP j as) [] S' with
            | none => rw [hc] at h; cases h
            | some x =>
              rw [hc] at h
              obtain ⟨v, e1, e2⟩ := ih _ _ _ _ _ _ _ hj hi hc
              obtain ⟨x1, x2⟩ := x
              have e1 : x1 = .inl v := e1
              subst e1
              have e2 : gz_P A C K S'.1 x2.1 := e2
              have h : mq_run mq_PP n (d' + 1) k pc' L' (v.toList ++ st') x2 = some r := h
              obtain ⟨v2, f1, f2⟩ := ih _ _ _ _ _ _ _ hm e2.1 h
              exact ⟨v2, f1, gz_t e2 f2⟩
      · cases hs
/-- a run that ends with Q leaves that slot alone too -/
theorem gz_R {A C K : Nat} {Ks : List Nat} (hk : gz_ms A C K Ks = true) {d k pc : Nat} {L : mq_L} {st : List Value} {M : Nat → mq_C} {z u : Nat} {Q : (Option Value ⊕ Nat) → mq_S → Prop} (hm : k ∈ Ks) (hi : (M A).1 = C) (h : mq_R mq_PP d k pc L st (M, z, u) (fun r S' => hv S'.1 A K = hv M A K → Q r S')) : mq_R mq_PP d k pc L st (M, z, u) Q := by
  obtain ⟨n, r, h1, h2⟩ := h
  obtain ⟨v, _, e4⟩ := gz_run hk n d k pc L st (M, z, u) r hm hi h1
  refine ⟨n, r, h1, h2 ?_⟩
  show hb_w mz_GG ((r.2.1 A).2[K]?) = hb_w mz_GG ((M A).2[K]?)
  rw [e4.2]
