/-! A run of methods that don't write slot 48 of the model leaves it alone. -/
def hz_pl (f : mq_E) : Prop := ∀ ns cs L st S out, f ns cs L st S = some out → (∃ p L' st', out = .inl (p, L', st', S)) ∨ ∃ v, out = .inr (.inl (v, S))
theorem hz_iconst  : hz_pl mq_o_iconst := by
  intro ns cs L st S out h
  unfold mq_o_iconst at h
  repeat' split at h
  all_goals first | (cases h; exact .inl ⟨_, _, _, rfl⟩) | (cases h; exact .inr ⟨_, rfl⟩) | cases h
theorem hz_iload  : hz_pl mq_o_iload := by
  intro ns cs L st S out h
  unfold mq_o_iload at h
  repeat' split at h
  all_goals first | (cases h; exact .inl ⟨_, _, _, rfl⟩) | (cases h; exact .inr ⟨_, rfl⟩) | cases h
theorem hz_aload  : hz_pl mq_o_aload := by
  intro ns cs L st S out h
  unfold mq_o_aload at h
  repeat' split at h
  all_goals first | (cases h; exact .inl ⟨_, _, _, rfl⟩) | (cases h; exact .inr ⟨_, rfl⟩) | cases h
theorem hz_istore  : hz_pl mq_o_istore := by
  intro ns cs L st S out h
  unfold mq_o_istore at h
  repeat' split at h
  all_goals first | (cases h; exact .inl ⟨_, _, _, rfl⟩) | (cases h; exact .inr ⟨_, rfl⟩) | cases h
theorem hz_iinc  : hz_pl mq_o_iinc := by
  intro ns cs L st S out h
  unfold mq_o_iinc at h
  repeat' split at h
  all_goals first | (cases h; exact .inl ⟨_, _, _, rfl⟩) | (cases h; exact .inr ⟨_, rfl⟩) | cases h
theorem hz_bi (f : Int32 → Int32 → Int32) : hz_pl (mq_bi f) := by
  intro ns cs L st S out h
  unfold mq_bi at h
  repeat' split at h
  all_goals first | (cases h; exact .inl ⟨_, _, _, rfl⟩) | (cases h; exact .inr ⟨_, rfl⟩) | cases h
theorem hz_bd (f : Int32 → Int32 → Int32) : hz_pl (mq_bd f) := by
  intro ns cs L st S out h
  unfold mq_bd at h
  repeat' split at h
  all_goals first | (cases h; exact .inl ⟨_, _, _, rfl⟩) | (cases h; exact .inr ⟨_, rfl⟩) | cases h
theorem hz_dup  : hz_pl mq_o_dup := by
  intro ns cs L st S out h
  unfold mq_o_dup at h
  repeat' split at h
  all_goals first | (cases h; exact .inl ⟨_, _, _, rfl⟩) | (cases h; exact .inr ⟨_, rfl⟩) | cases h
theorem hz_dup2  : hz_pl mq_o_dup2 := by
  intro ns cs L st S out h
  unfold mq_o_dup2 at h
  repeat' split at h
  all_goals first | (cases h; exact .inl ⟨_, _, _, rfl⟩) | (cases h; exact .inr ⟨_, rfl⟩) | cases h
theorem hz_if1 (f : Int32 → Bool) : hz_pl (mq_if1 f) := by
  intro ns cs L st S out h
  unfold mq_if1 at h
  repeat' split at h
  all_goals first | (cases h; exact .inl ⟨_, _, _, rfl⟩) | (cases h; exact .inr ⟨_, rfl⟩) | cases h
theorem hz_if2 (f : Int32 → Int32 → Bool) : hz_pl (mq_if2 f) := by
  intro ns cs L st S out h
  unfold mq_if2 at h
  repeat' split at h
  all_goals first | (cases h; exact .inl ⟨_, _, _, rfl⟩) | (cases h; exact .inr ⟨_, rfl⟩) | cases h
theorem hz_goto  : hz_pl mq_o_goto := by
  intro ns cs L st S out h
  unfold mq_o_goto at h
  repeat' split at h
  all_goals first | (cases h; exact .inl ⟨_, _, _, rfl⟩) | (cases h; exact .inr ⟨_, rfl⟩) | cases h
theorem hz_get  : hz_pl mq_o_get := by
  intro ns cs L st S out h
  unfold mq_o_get at h
  repeat' split at h
  all_goals first | (cases h; exact .inl ⟨_, _, _, rfl⟩) | (cases h; exact .inr ⟨_, rfl⟩) | cases h
theorem hz_ald  : hz_pl mq_o_ald := by
  intro ns cs L st S out h
  unfold mq_o_ald at h
  repeat' split at h
  all_goals first | (cases h; exact .inl ⟨_, _, _, rfl⟩) | (cases h; exact .inr ⟨_, rfl⟩) | cases h
theorem hz_ret  : hz_pl mq_o_ret := by
  intro ns cs L st S out h
  unfold mq_o_ret at h
  repeat' split at h
  all_goals first | (cases h; exact .inl ⟨_, _, _, rfl⟩) | (cases h; exact .inr ⟨_, rfl⟩) | cases h
theorem hz_retv  : hz_pl mq_o_retv := by
  intro ns cs L st S out h
  unfold mq_o_retv at h
  repeat' split at h
  all_goals first | (cases h; exact .inl ⟨_, _, _, rfl⟩) | (cases h; exact .inr ⟨_, rfl⟩) | cases h
def hz_okp (o : Nat) : Bool := [0, 2, 4, 5, 8, 9, 10, 11, 12, 13, 14, 15, 16, 17, 18, 19, 33, 37, 38, 39, 40, 41, 42, 43, 44, 45, 46, 47, 48, 49, 50, 52, 58, 66, 67].elem o
theorem hz_pls {o : Nat} {f : mq_E} (ho : hz_okp o = true) (hf : mq_ops[o]? = some f) : hz_pl f := by
  have h := List.elem_iff.mp ho
  simp only [List.mem_cons, List.not_mem_nil, or_false] at h
  rcases h with rfl | rfl | rfl | rfl | rfl | rfl | rfl | rfl | rfl | rfl | rfl | rfl | rfl | rfl | rfl | rfl | rfl | rfl | rfl | rfl | rfl | rfl | rfl | rfl | rfl | rfl | rfl | rfl | rfl | rfl | rfl | rfl | rfl | rfl | rfl <;> cases hf
  · exact hz_iconst
  · exact hz_iload
  · exact hz_aload
  · exact hz_istore
  · exact hz_iinc
  · exact hz_bi _
  · exact hz_bi _
  · exact hz_bi _
  · exact hz_bi _
  · exact hz_bi _
  · exact hz_bi _
  · exact hz_bi _
  · exact hz_bi _
  · exact hz_bi _
  · exact hz_bd _
  · exact hz_bd _
  · exact hz_dup
  · exact hz_dup2
  · exact hz_if1 _
  · exact hz_if1 _
  · exact hz_if1 _
  · exact hz_if1 _
  · exact hz_if1 _
  · exact hz_if1 _
  · exact hz_if2 _
  · exact hz_if2 _
  · exact hz_if2 _
  · exact hz_if2 _
  · exact hz_if2 _
  · exact hz_if2 _
  · exact hz_goto
  · exact hz_get
  · exact hz_ald
  · exact hz_ret
  · exact hz_retv
def hz_ck (Ks : List Nat) (o : mq_P) : Bool := match o.1, o.2.1 with
  | 53, _ :: ci :: k :: _ => !(decide (ci = 9) && decide (k = 48))
  | 59, [_, kind] => !(decide (kind = 9))
  | 60, _ :: j :: _ => Ks.elem j
  | 61, _ :: j :: _ => Ks.elem j
  | o, _ => hz_okp o
def hz_ms (Ks : List Nat) : Bool := Ks.all fun k => match mq_PP[k]? with
  | some t => t.2.2.all fun x => hz_ck Ks x.2
  | none => false
def hz_P (M M' : Nat → mq_C) : Prop := (M' 234).1 = 9 ∧ (M' 234).2[48]? = (M 234).2[48]?
theorem hz_t {M M' M'' : Nat → mq_C} (h : hz_P M M') (h' : hz_P M' M'') : hz_P M M'' := ⟨h'.1, h'.2.trans h.2⟩
def hz_O (Ks : List Nat) (S : mq_S) (out : mq_O) : Prop := match out with
  | .inl (_, _, _, S') => hz_P S.1 S'.1
  | .inr (.inl (_, S')) => hz_P S.1 S'.1
  | .inr (.inr (.inl _)) => False
  | .inr (.inr (.inr (j, _, _, _, _, S'))) => j ∈ Ks ∧ S' = S
theorem hz_up {M : Nat → mq_C} {a ci k : Nat} {v : Value} (h9 : (M 234).1 = 9) (hc : (M a).1 = ci) (hn : a = 234 → k ≠ 48) : hz_P M (va_up M a (ci, (M a).2.set k v)) := by
  by_cases e : a = 234
  · subst e
    refine ⟨?_, ?_⟩
    · rw [va_up_self]
      exact hc.symm.trans h9
    · rw [va_up_self]
      show ((M 234).2.set k v)[48]? = _
      rw [List.getElem?_set_ne (hn rfl)]
  · unfold hz_P
    rw [va_up_ne _ _ (Ne.symm e)]
    exact ⟨h9, rfl⟩
theorem hz_step {Ks : List Nat} {o : mq_P} (hk : hz_ck Ks o = true) {L : mq_L} {st : List Value} {S : mq_S} {out : mq_O} (h : mq_ex o L st S = some out) (h9 : (S.1 234).1 = 9) : hz_O Ks S out := by
  obtain ⟨o1, ns, cs⟩ := o
  unfold hz_ck at hk
  split at hk
  · next n ci k r e1 e2 =>
    obtain rfl : o1 = 53 := e1
    obtain rfl : ns = n :: ci :: k :: r := e2
    have h2 : mq_o_put (n :: ci :: k :: r) cs L st S = some out := h
    clear h
    unfold mq_o_put at h2
    split at h2
    · next n' ci' k' t' r' v a s' en =>
      cases en
      split at h2
      · next hc =>
        cases h2
        refine hz_up h9 hc.1 ?_
        rintro rfl rfl
        rw [decide_eq_true (hc.1.symm.trans h9)] at hk
        cases hk
      · cases h2
    · cases h2
  · next n kind e1 e2 =>
    obtain rfl : o1 = 59 := e1
    obtain rfl : ns = [n, kind] := e2
    have h2 : mq_o_ast [n, kind] cs L st S = some out := h
    clear h
    unfold mq_o_ast at h2
    split at h2
    · next n' kind' v i a s' en =>
      cases en
      split at h2
      · next hc =>
        cases h2
        refine hz_up h9 hc.1 ?_
        rintro rfl
        rw [decide_eq_true (hc.1.symm.trans h9)] at hk
        cases hk
      · cases h2
    · cases h2
  · next n j r e1 e2 =>
    obtain rfl : o1 = 60 := e1
    obtain rfl : ns = n :: j :: r := e2
    have h2 : mq_o_static (n :: j :: r) cs L st S = some out := h
    clear h
    unfold mq_o_static at h2
    split at h2
    · next n' j' c' mx' r' en =>
      cases en
      split at h2
      · cases h2
        exact ⟨List.elem_iff.mp hk, rfl⟩
      · cases h2
    · cases h2
  · next n j r e1 e2 =>
    obtain rfl : o1 = 61 := e1
    obtain rfl : ns = n :: j :: r := e2
    have h2 : mq_o_virtual (n :: j :: r) cs L st S = some out := h
    clear h
    unfold mq_o_virtual at h2
    split at h2
    · next n' j' c' ci' mx' r' en =>
      cases en
      split at h2
      · split at h2
        · cases h2
          exact ⟨List.elem_iff.mp hk, rfl⟩
        · cases h2
      · cases h2
    · cases h2
  · unfold mq_ex at h
    split at h
    · next f hf =>
      rcases hz_pls hk hf _ _ _ _ _ _ h with ⟨p, L', st', rfl⟩ | ⟨v, rfl⟩
      · exact ⟨h9, rfl⟩
      · exact ⟨h9, rfl⟩
    · cases h
theorem hz_at {Ks : List Nat} (hk : hz_ms Ks = true) {k pc : Nat} {o : mq_P} (h1 : k ∈ Ks) (h : mq_at mq_PP k pc = some o) : hz_ck Ks o = true := by
  have h2 := List.all_eq_true.mp hk k h1
  unfold mq_at at h
  split at h
  · next t ht =>
    rw [ht] at h2
    obtain ⟨x, hx, rfl⟩ := hy_lk _ h
    exact List.all_eq_true.mp h2 x hx
  · cases h
theorem hz_run {Ks : List Nat} (hk : hz_ms Ks = true) : ∀ (n d k pc : Nat) (L : mq_L) (st : List Value) (S : mq_S) (r : mq_A), k ∈ Ks → (S.1 234).1 = 9 → mq_run mq_PP n d k pc L st S = some r → ∃ v, r.1 = .inl v ∧ hz_P S.1 r.2.1 := by
  intro n
  induction n with
  | zero => intro d k pc L st S r _ _ h; simp [mq_run] at h
  | succ n ih =>
    intro d k pc L st S r hm hi h
    rw [mq_run] at h
    cases hs : mq_stp mq_PP k pc L st S with
    | none => rw [hs] at h; cases h
    | some out =>
      rw [hs] at h
      unfold mq_stp at hs
      split at hs
      · next o ho =>
        have hO := hz_step (hz_at hk hm ho) hs hi
        rcases out with ⟨pc', L', st', S'⟩ | ⟨v, S'⟩ | ⟨a, S'⟩ | ⟨j, as, pc', L', st', S'⟩
        · have hO : hz_P S.1 S'.1 := hO
          obtain ⟨v, e1, e2⟩ := ih _ _ _ _ _ _ _ hm hO.1 h
          exact ⟨v, e1, hz_t hO e2⟩
        · cases h
          exact ⟨v, rfl, hO⟩
        · exact hO.elim
        · obtain ⟨hj, rfl⟩ : j ∈ Ks ∧ S' = S := hO
          cases d with
          | zero => cases h
          | succ d' =>
            simp only at h
            cases hc : mq_run mq_PP n d' j 0 (mq_en mq_PP j as) [] S' with
            | none => rw [hc] at h; cases h
            | some x =>
              rw [hc] at h
              obtain ⟨v, e1, e2⟩ := ih _ _ _ _ _ _ _ hj hi hc
              obtain ⟨x1, x2⟩ := x
              have e1 : x1 = .inl v := e1
              subst e1
              have e2 : hz_P S'.1 x2.1 := e2
              have h : mq_run mq_PP n (d' + 1) k pc' L' (v.toList ++ st') x2 = some r := h
              obtain ⟨v2, f1, f2⟩ := ih _ _ _ _ _ _ _ hm e2.1 h
              exact ⟨v2, f1, hz_t e2 f2⟩
      · cases hs
/-- a run that ends with Q leaves that slot alone too -/
theorem hz_R {Ks : List Nat} (hk : hz_ms Ks = true) {d k pc : Nat} {L : mq_L} {st : List Value} {M : Nat → mq_C} {z u : Nat} {Q : (Option Value ⊕ Nat) → mq_S → Prop} (hm : k ∈ Ks) (hi : mz_sh mz_GG M) (h : mq_R mq_PP d k pc L st (M, z, u) (fun r S' => hv S'.1 234 48 = hv M 234 48 → Q r S')) : mq_R mq_PP d k pc L st (M, z, u) Q := by
  obtain ⟨n, r, h1, h2⟩ := h
  obtain ⟨v, _, e4⟩ := hz_run hk n d k pc L st (M, z, u) r hm ((hb_kd (a := 234) hi rfl).trans rfl) h1
  refine ⟨n, r, h1, h2 ?_⟩
  show hb_w mz_GG ((r.2.1 234).2[48]?) = hb_w mz_GG ((M 234).2[48]?)
  rw [e4.2]
def hz_Ks : List Nat := [107, 108, 109, 110, 111, 112, 113, 114, 115, 116, 117, 118, 119, 120, 121, 130, 131, 132, 133, 134, 135, 136, 137, 138, 143, 145, 146]
theorem hz_model : hz_ms hz_Ks = true := by decide +kernel
