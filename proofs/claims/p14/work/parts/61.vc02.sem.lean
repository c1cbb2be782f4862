/-! THE CHECKER: what its states mean. -/
abbrev mz_V : Type := Nat × Nat × mz_E
abbrev mz_K : Type := List mz_V × List mz_V × List mz_E × List mz_E × Nat
abbrev mz_Sp : Type := Nat × Int × Int
/-- kind, length, period, ranges -/
abbrev mz_Ce : Type := Nat × Nat × Nat × List mz_Sp
/-- cells, groups, tracked slots, cells that are left alone, slots that are left alone -/
abbrev mz_G : Type := (Nat → Option mz_Ce) × (Nat → List Nat) × List (Nat × Nat) × (Nat → Bool) × List (Nat × Nat)
section VC
variable (G : mz_G)
def mz_gv (ρ : Nat → Int) (a : mz_V) (v : Value) : Prop := match a.1, v with
  | 0, .int x => x.toInt = mz_ev ρ a.2.2
  | 1, .ref b => b ∈ G.2.1 a.2.1 ∧ ∃ c, G.1 b = some c ∧ (c.2.1 : Int) = mz_ev ρ a.2.2
  | 2, .long x => x.toInt = mz_ev ρ a.2.2
  | 4, .ref _ => True
  | _, _ => False
def mz_go (ρ : Nat → Int) (a : mz_V) (o : Option Value) : Prop := match a.1 with
  | 3 => mq_nl o = true
  | _ => ∃ v, o = some v ∧ mz_gv G ρ a v
def mz_gl (ρ : Nat → Int) : List mz_V → mq_L → Prop
  | [], [] => True
  | a :: as, o :: os => mz_go G ρ a o ∧ mz_gl ρ as os
  | _, _ => False
def mz_gs (ρ : Nat → Int) : List mz_V → List Value → Prop
  | [], [] => True
  | a :: as, o :: os => mz_gv G ρ a o ∧ mz_gs ρ as os
  | _, _ => False
def mz_gt1 (ρ : Nat → Int) (M : Nat → mq_C) (t : Nat × Nat) (e : mz_E) : Prop := match (M t.1).2[t.2]? with
  | some (.int x) => x.toInt = mz_ev ρ e
  | some (.ref b) => ∃ c, G.1 b = some c ∧ (c.2.1 : Int) = mz_ev ρ e
  | _ => False
def mz_gt (ρ : Nat → Int) (M : Nat → mq_C) : List (Nat × Nat) → List mz_E → Prop
  | [], [] => True
  | t :: ts, e :: es => mz_gt1 G ρ M t e ∧ mz_gt ρ M ts es
  | _, _ => False
def mz_ok (sp : mz_Sp) (v : Value) : Prop := match sp.1, v with
  | 0, .int x => sp.2.1 ≤ x.toInt ∧ x.toInt ≤ sp.2.2
  | 1, .ref b => b ∈ G.2.1 sp.2.1.toNat
  | 2, .long _ => True
  | _, _ => False
def mz_at (c : mz_Ce) (i : Nat) : mz_Sp := match c.2.2.1 with
  | 0 => c.2.2.2.getD i (9, 0, 0)
  | p + 1 => c.2.2.2.getD (i % (p + 1)) (9, 0, 0)
def mz_sh (M : Nat → mq_C) : Prop := ∀ a c, G.1 a = some c → (M a).1 = c.1 ∧ (M a).2.length = c.2.1 ∧ ∀ i v, (M a).2[i]? = some v → mz_ok G (mz_at c i) v
def mz_g (ρ : Nat → Int) (k : mz_K) (L : mq_L) (st : List Value) (M : Nat → mq_C) : Prop := mz_gl G ρ k.1 L ∧ mz_gs G ρ k.2.1 st ∧ mz_gt G ρ M G.2.2.1 k.2.2.1 ∧ ∀ f ∈ k.2.2.2.1, 0 ≤ mz_ev ρ f
/-! a new variable -/
def mz_wfl (n : Nat) : List mz_E → Bool
  | [] => true
  | e :: r => bif mz_wf n e.2 then mz_wfl n r else false
def mz_wfv (n : Nat) : List mz_V → Bool
  | [] => true
  | e :: r => bif mz_wf n e.2.2.2 then mz_wfv n r else false
def mz_wfk (n0 : Nat) (k : mz_K) : Bool := bif Nat.ble n0 k.2.2.2.2 then bif mz_wfv k.2.2.2.2 k.1 then bif mz_wfv k.2.2.2.2 k.2.1 then bif mz_wfl k.2.2.2.2 k.2.2.1 then mz_wfl k.2.2.2.2 k.2.2.2.1 else false else false else false else false
theorem mz_bif {a b : Bool} (h : (bif a then b else false) = true) : a = true ∧ b = true := by
  cases a with
  | false => cases h
  | true => exact ⟨rfl, h⟩
theorem mz_wf_e {ρ ρ' : Nat → Int} {n : Nat} (hr : ∀ i, i < n → ρ' i = ρ i) {e : mz_E} (h : mz_wf n e.2 = true) : mz_ev ρ' e = mz_ev ρ e := by
  show e.1 + mz_ev1 ρ' e.2 = e.1 + mz_ev1 ρ e.2
  rw [mz_wf_ev hr _ h]
theorem mz_gv_e {ρ ρ' : Nat → Int} {a : mz_V} {v : Value} (he : mz_ev ρ' a.2.2 = mz_ev ρ a.2.2) (h : mz_gv G ρ a v) : mz_gv G ρ' a v := by
  unfold mz_gv at h ⊢
  rw [he]
  exact h
theorem mz_go_e {ρ ρ' : Nat → Int} {a : mz_V} {v : Option Value} (he : mz_ev ρ' a.2.2 = mz_ev ρ a.2.2) (h : mz_go G ρ a v) : mz_go G ρ' a v := by
  unfold mz_go at h ⊢
  split
  · next e => simp only [e] at h; exact h
  · next e =>
    split at h
    · next e' => exact absurd e' e
    · obtain ⟨w, hw, hv⟩ := h
      exact ⟨w, hw, mz_gv_e G he hv⟩
theorem mz_gl_e {ρ ρ' : Nat → Int} {n : Nat} (hr : ∀ i, i < n → ρ' i = ρ i) : ∀ (as : List mz_V) (os : mq_L), mz_wfv n as = true → mz_gl G ρ as os → mz_gl G ρ' as os := by
  intro as
  induction as with
  | nil => intro os _ h; cases os with
    | nil => exact h
    | cons o os => exact h
  | cons a as ih => intro os hw h; cases os with
    | nil => exact h
    | cons o os =>
      obtain ⟨h1, h2⟩ := mz_bif hw
      exact ⟨mz_go_e G (mz_wf_e hr h1) h.1, ih os h2 h.2⟩
theorem mz_gs_e {ρ ρ' : Nat → Int} {n : Nat} (hr : ∀ i, i < n → ρ' i = ρ i) : ∀ (as : List mz_V) (os : List Value), mz_wfv n as = true → mz_gs G ρ as os → mz_gs G ρ' as os := by
  intro as
  induction as with
  | nil => intro os _ h; cases os with
    | nil => exact h
    | cons o os => exact h
  | cons a as ih => intro os hw h; cases os with
    | nil => exact h
    | cons o os =>
      obtain ⟨h1, h2⟩ := mz_bif hw
      exact ⟨mz_gv_e G (mz_wf_e hr h1) h.1, ih os h2 h.2⟩
theorem mz_gt1_e {ρ ρ' : Nat → Int} {M : Nat → mq_C} {t : Nat × Nat} {e : mz_E} (he : mz_ev ρ' e = mz_ev ρ e) (h : mz_gt1 G ρ M t e) : mz_gt1 G ρ' M t e := by
  unfold mz_gt1 at h ⊢
  rw [he]
  exact h
theorem mz_gt_e {ρ ρ' : Nat → Int} {M : Nat → mq_C} {n : Nat} (hr : ∀ i, i < n → ρ' i = ρ i) : ∀ (ts : List (Nat × Nat)) (es : List mz_E), mz_wfl n es = true → mz_gt G ρ M ts es → mz_gt G ρ' M ts es := by
  intro ts
  induction ts with
  | nil => intro es _ h; cases es with
    | nil => exact h
    | cons o os => exact h
  | cons a as ih => intro es hw h; cases es with
    | nil => exact h
    | cons o os =>
      obtain ⟨h1, h2⟩ := mz_bif hw
      exact ⟨mz_gt1_e G (mz_wf_e hr h1) h.1, ih os h2 h.2⟩
theorem mz_fs_e {ρ ρ' : Nat → Int} {n : Nat} (hr : ∀ i, i < n → ρ' i = ρ i) : ∀ es : List mz_E, mz_wfl n es = true → (∀ f ∈ es, 0 ≤ mz_ev ρ f) → ∀ f ∈ es, 0 ≤ mz_ev ρ' f := by
  intro es
  induction es with
  | nil => intro _ _ f hf; cases hf
  | cons e es ih =>
    intro hw h f hf
    obtain ⟨h1, h2⟩ := mz_bif hw
    rcases List.mem_cons.mp hf with rfl | hf
    · rw [mz_wf_e hr h1]; exact h _ (List.mem_cons_self ..)
    · exact ih h2 (fun f hf => h f (List.mem_cons_of_mem _ hf)) f hf
theorem mz_g_e {ρ ρ' : Nat → Int} {n0 : Nat} {k : mz_K} {L : mq_L} {st : List Value} {M : Nat → mq_C} (hw : mz_wfk n0 k = true) (hr : ∀ i, i < k.2.2.2.2 → ρ' i = ρ i) (h : mz_g G ρ k L st M) : mz_g G ρ' k L st M ∧ n0 ≤ k.2.2.2.2 := by
  obtain ⟨h0, hw⟩ := mz_bif hw
  obtain ⟨h1, hw⟩ := mz_bif hw
  obtain ⟨h2, hw⟩ := mz_bif hw
  obtain ⟨h3, h4⟩ := mz_bif hw
  exact ⟨⟨mz_gl_e G hr _ _ h1 h.1, mz_gs_e G hr _ _ h2 h.2.1, mz_gt_e G hr _ _ h3 h.2.2.1, mz_fs_e hr _ h4 h.2.2.2⟩, Nat.le_of_ble_eq_true h0⟩
/-- what is left alone is the same -/
def mz_same (M M' : Nat → mq_C) : Prop := (∀ a, G.2.2.2.1 a = true → M' a = M a) ∧ ∀ t ∈ G.2.2.2.2, (M' t.1).2[t.2]? = (M t.1).2[t.2]?
theorem mz_same_refl {M : Nat → mq_C} : mz_same G M M := ⟨fun _ _ => rfl, fun _ _ => rfl⟩
theorem mz_same_tr {M M' M'' : Nat → mq_C} (h : mz_same G M M') (h' : mz_same G M' M'') : mz_same G M M'' := ⟨fun a ha => (h'.1 a ha).trans (h.1 a ha), fun t ht => (h'.2 t ht).trans (h.2 t ht)⟩
end VC
