/-! A run cut into segments: the frames as a list, the memory as a table. -/
abbrev mq_Fr : Type := Nat × Nat × mq_L × List Value
/-- n steps of a stack of frames: where it stands then, or what it answered -/
def mq_ms (P : List mq_T) : Nat → List mq_Fr → mq_S → Option ((List mq_Fr × mq_S) ⊕ (Option Value × mq_S))
  | 0, fs, S => some (.inl (fs, S))
  | n + 1, fs, S => match fs with
    | [] => none
    | (k, pc, L, st) :: r => match mq_stp P k pc L st S with
      | some (.inl (pc', L', st', S')) => mq_ms P n ((k, pc', L', st') :: r) S'
      | some (.inr (.inl (v, S'))) => (match r with
        | [] => some (.inr (v, S'))
        | (k2, pc2, L2, st2) :: r2 => mq_ms P n ((k2, pc2, L2, v.toList ++ st2) :: r2) S')
      | some (.inr (.inr (.inr (j, as, pc', L', st', S')))) => if r.length < 40 then mq_ms P n ((j, 0, mq_en P j as, []) :: (k, pc', L', st') :: r) S' else none
      | _ => none
/-- what is to be done behind a frame's end -/
def mq_ct (P : List mq_T) (d : Nat) (Q : (Option Value ⊕ Nat) → mq_S → Prop) : List mq_Fr → (Option Value ⊕ Nat) → mq_S → Prop
  | [] => Q
  | (k, pc, L, st) :: r => fun x S => match x with
    | .inl v => r.length ≤ d ∧ mq_R P (d - r.length) k pc L (v.toList ++ st) S (mq_ct P d Q r)
    | .inr _ => False
def mq_K (P : List mq_T) (d : Nat) (Q : (Option Value ⊕ Nat) → mq_S → Prop) (fs : List mq_Fr) (S : mq_S) : Prop := match fs with
  | [] => False
  | (k, pc, L, st) :: r => r.length ≤ d ∧ mq_R P (d - r.length) k pc L st S (mq_ct P d Q r)
theorem mq_ms_ok {P : List mq_T} {d : Nat} {Q : (Option Value ⊕ Nat) → mq_S → Prop} : ∀ (n : Nat) (fs : List mq_Fr) (S : mq_S) (x : (List mq_Fr × mq_S) ⊕ (Option Value × mq_S)), mq_ms P n fs S = some x → (match x with
    | .inl (fs', S') => mq_K P d Q fs' S'
    | .inr (v, S') => Q (.inl v) S') → fs.length ≤ 42 → 42 ≤ d → mq_K P d Q fs S := by
  intro n
  induction n with
  | zero => intro fs S x h hx _ _; cases h; exact hx
  | succ n ih =>
    intro fs S x h hx hl hd
    cases fs with
    | nil => cases h
    | cons f r =>
      obtain ⟨k, pc, L, st⟩ := f
      rw [mq_ms] at h
      simp only [List.length_cons] at hl
      refine ⟨by omega, ?_⟩
      rw [mq_R_eq]
      cases hs : mq_stp P k pc L st S with
      | none => rw [hs] at h; cases h
      | some o =>
        rw [hs] at h
        rcases o with ⟨pc', L', st', S'⟩ | ⟨v, S'⟩ | ⟨a, S'⟩ | ⟨j, as, pc', L', st', S'⟩
        · exact (ih _ _ x h hx (by simp only [List.length_cons]; omega) hd).2
        · cases r with
          | nil => cases h; exact hx
          | cons f2 r2 =>
            obtain ⟨k2, pc2, L2, st2⟩ := f2
            simp only [List.length_cons] at hl
            exact ih _ _ x h hx (by simp only [List.length_cons]; omega) hd
        · cases h
        · have h40 : r.length < 40 := Nat.not_le.mp fun q => by
            simp only [if_neg (Nat.not_lt.mpr q)] at h
            cases h
          simp only [if_pos h40] at h
          have h2 := ih _ _ x h hx (by simp only [List.length_cons]; omega) hd
          obtain ⟨g1, g2⟩ := h2
          simp only [List.length_cons] at g1 g2
          have e : d - r.length = (d - (r.length + 1)) + 1 := by omega
          show mq_call P (d - r.length) k pc j as pc' L' st' S' (mq_ct P d Q r)
          rw [e]
          refine mq_R_mono g2 (fun x9 S9 h9 => ?_)
          cases x9 with
          | inl v =>
            show mq_R P (d - (r.length + 1) + 1) k pc' L' (v.toList ++ st') S9 (mq_ct P d Q r)
            rw [← e]
            exact h9.2
          | inr a => exact h9.elim
theorem mq_ms_xt {n0 : Nat} {B : Nat → mq_C} {P : List mq_T} (h9 : mq_P9 P = true) : ∀ (n : Nat) (fs : List mq_Fr) (S T : mq_S) (x : (List mq_Fr × mq_S) ⊕ (Option Value × mq_S)), mq_ms P n fs S = some x → mq_xt n0 B S T → match x with
    | .inl (fs', S') => ∃ T', mq_ms P n fs T = some (.inl (fs', T')) ∧ mq_xt n0 B S' T'
    | .inr (v, S') => ∃ T', mq_ms P n fs T = some (.inr (v, T')) ∧ mq_xt n0 B S' T' := by
  intro n
  induction n with
  | zero => intro fs S T x h hx; cases h; exact ⟨T, rfl, hx⟩
  | succ n ih =>
    intro fs S T x h hx
    cases fs with
    | nil => cases h
    | cons f r =>
      obtain ⟨k, pc, L, st⟩ := f
      rw [mq_ms] at h
      rw [mq_ms]
      cases hs : mq_stp P k pc L st S with
      | none => rw [hs] at h; cases h
      | some o =>
        rw [hs] at h
        obtain ⟨T1, e1, x1, o8⟩ := mq_stp_xt h9 hs hx
        rw [e1]
        rcases o with ⟨pc', L', st', S'⟩ | ⟨v, S'⟩ | ⟨a, S'⟩ | ⟨j, as, pc', L', st', S'⟩
        · exact ih _ _ _ x h x1
        · cases r with
          | nil => cases h; exact ⟨T1, rfl, x1⟩
          | cons f2 r2 => exact ih _ _ _ x h x1
        · cases h
        · by_cases h40 : r.length < 40
          · simp only [if_pos h40] at h
            simp only [mq_oset, if_pos h40]
            exact ih _ _ _ x h x1
          · simp only [if_neg h40] at h
            cases h
/-- a table as a memory, from n0 on -/
def mq_tS (n0 u : Nat) (t : List mq_C) : mq_S := (fun a => if a < n0 then (999, []) else t.getD (a - n0) (999, []), n0 + t.length, u)
def mq_same (z : Nat) (t : List mq_C) (M : Nat → mq_C) : Bool := (List.range t.length).all fun i => decide (M (z + i) = t.getD i (999, []))
/-- a segment: from a table to a table -/
def mq_sg (P : List mq_T) (n n0 u : Nat) (t : List mq_C) (fs fs' : List mq_Fr) (u' : Nat) (t' : List mq_C) : Bool := match mq_ms P n fs (mq_tS n0 u t) with
  | some (.inl (fs9, S')) => decide (fs9 = fs') && decide (S'.2.1 = n0 + t'.length) && decide (S'.2.2 = u') && mq_same n0 t' S'.1
  | _ => false
/-- the last segment: it answers nothing -/
def mq_se (P : List mq_T) (n n0 u : Nat) (t : List mq_C) (fs : List mq_Fr) (u' : Nat) (t' : List mq_C) : Bool := match mq_ms P n fs (mq_tS n0 u t) with
  | some (.inr (none, S')) => decide (S'.2.1 = n0 + t'.length) && decide (S'.2.2 = u') && mq_same n0 t' S'.1
  | _ => false
theorem mq_same_xt {n0 u' : Nat} {B : Nat → mq_C} {t' : List mq_C} {S' T : mq_S} (h1 : S'.2.1 = n0 + t'.length) (h2 : S'.2.2 = u') (h3 : mq_same n0 t' S'.1 = true) (hx : mq_xt n0 B S' T) : mq_xt n0 B (mq_tS n0 u' t') T := by
  obtain ⟨k1, k2, k3, k4, k5⟩ := hx
  refine ⟨?_, Nat.le_add_right _ _, fun a ha hb => ?_, fun a ha => ?_, k5⟩
  · rw [k1]
    exact Prod.ext h1 h2
  · have hb' : a < n0 + t'.length := hb
    rw [k3 a ha (by rw [h1]; exact hb')]
    have h4 := of_decide_eq_true (List.all_eq_true.mp h3 (a - n0) (List.mem_range.mpr (by omega)))
    rw [show n0 + (a - n0) = a by omega] at h4
    show S'.1 a = if a < n0 then (999, []) else t'.getD (a - n0) (999, [])
    rw [if_neg (by omega)]
    exact h4
  · have ha' : a < n0 ∨ n0 + t'.length ≤ a := ha
    show (if a < n0 then (999, []) else t'.getD (a - n0) (999, [])) = ((999, []) : mq_C)
    by_cases e : a < n0
    · rw [if_pos e]
    · rw [if_neg e, List.getD_eq_getElem?_getD, List.getElem?_eq_none (by omega)]
      rfl
theorem mq_sg_ok {n0 d : Nat} {B : Nat → mq_C} {P : List mq_T} (h9 : mq_P9 P = true) {Q : (Option Value ⊕ Nat) → mq_S → Prop} {n u u' : Nat} {t t' : List mq_C} {fs fs' : List mq_Fr} (h : mq_sg P n n0 u t fs fs' u' t' = true) (hl : fs.length ≤ 42) (hd : 42 ≤ d) (k : ∀ T, mq_xt n0 B (mq_tS n0 u' t') T → mq_K P d Q fs' T) : ∀ T, mq_xt n0 B (mq_tS n0 u t) T → mq_K P d Q fs T := by
  intro T hx
  unfold mq_sg at h
  cases hm : mq_ms P n fs (mq_tS n0 u t) with
  | none => rw [hm] at h; cases h
  | some x =>
    rw [hm] at h
    obtain ⟨fs9, S'⟩ | ⟨v, S'⟩ := x
    · simp only [Bool.and_eq_true, decide_eq_true_eq] at h
      obtain ⟨⟨⟨rfl, h1⟩, h2⟩, h3⟩ := h
      obtain ⟨T', e1, x1⟩ := mq_ms_xt h9 n fs _ T _ hm hx
      exact mq_ms_ok n fs T _ e1 (k T' (mq_same_xt h1 h2 h3 x1)) hl hd
    · cases h
theorem mq_se_ok {n0 d : Nat} {B : Nat → mq_C} {P : List mq_T} (h9 : mq_P9 P = true) {Q : (Option Value ⊕ Nat) → mq_S → Prop} {n u u' : Nat} {t t' : List mq_C} {fs : List mq_Fr} (h : mq_se P n n0 u t fs u' t' = true) (hl : fs.length ≤ 42) (hd : 42 ≤ d) (k : ∀ T, mq_xt n0 B (mq_tS n0 u' t') T → Q (.inl none) T) : ∀ T, mq_xt n0 B (mq_tS n0 u t) T → mq_K P d Q fs T := by
  intro T hx
  unfold mq_se at h
  cases hm : mq_ms P n fs (mq_tS n0 u t) with
  | none => rw [hm] at h; cases h
  | some x =>
    rw [hm] at h
    obtain ⟨fs9, S'⟩ | ⟨v, S'⟩ := x
    · cases h
    · cases v with
      | some v => cases h
      | none =>
        simp only [Bool.and_eq_true, decide_eq_true_eq] at h
        obtain ⟨⟨h1, h2⟩, h3⟩ := h
        obtain ⟨T', e1, x1⟩ := mq_ms_xt h9 n fs _ T _ hm hx
        exact mq_ms_ok n fs T _ e1 (k T' (mq_same_xt h1 h2 h3 x1)) hl hd
