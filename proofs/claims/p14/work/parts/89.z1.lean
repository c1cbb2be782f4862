/-! The memory behind both constructors: its shape, and what holds between calls. -/
def la_M (a : Nat) : mq_C := if a = 1 then (60, mq_MO) else if a < 8 then (999, []) else if a < 234 then mq_ht16.getD (a - 8) (999, []) else mq_mt2.getD (a - 234) (999, [])
def la_okb (sp : mz_Sp) (v : Value) : Bool := match sp.1, v with
  | 0, .int x => decide (sp.2.1 ≤ x.toInt) && decide (x.toInt ≤ sp.2.2)
  | 1, .ref b => (mz_GG.2.1 sp.2.1.toNat).elem b
  | 2, .long _ => true
  | _, _ => false
theorem la_okb_ok {sp : mz_Sp} {v : Value} (h : la_okb sp v = true) : mz_ok mz_GG sp v := by
  unfold la_okb at h
  unfold mz_ok
  split at h
  · next x e1 =>
    rw [e1]
    rw [Bool.and_eq_true] at h
    exact ⟨of_decide_eq_true h.1, of_decide_eq_true h.2⟩
  · next b e1 =>
    rw [e1]
    exact List.elem_iff.mp h
  · next b e1 =>
    rw [e1]
    exact trivial
  · cases h
def la_lst (c : mz_Ce) : Nat → List Value → Bool
  | _, [] => true
  | i, v :: r => bif la_okb (mz_at c i) v then la_lst c (i + 1) r else false
theorem la_lst_ok {c : mz_Ce} : ∀ (l : List Value) (n : Nat), la_lst c n l = true → ∀ i v, l[i]? = some v → la_okb (mz_at c (n + i)) v = true := by
  intro l
  induction l with
  | nil => intro n _ i v h; cases h
  | cons w r ih =>
    intro n h i v hv
    obtain ⟨h1, h2⟩ := mz_bif h
    cases i with
    | zero => cases hv; exact h1
    | succ i =>
      have := ih (n + 1) h2 i v hv
      rw [show n + (i + 1) = n + 1 + i by omega]
      exact this
def la_cell (c : mz_Ce) (x : mq_C) : Bool := Nat.beq x.1 c.1 && Nat.beq x.2.length c.2.1 && la_lst c 0 x.2
def la_all : Bool := (List.range 272).all fun a => match mz_GG.1 a with
  | some c => la_cell c (la_M a)
  | none => true
set_option maxRecDepth 1000000 in
set_option maxHeartbeats 0 in
theorem la_c : la_all = true := by decide +kernel
theorem la_sh {M : Nat → mq_C} (h : ∀ a, a < 271 → (a = 1 ∨ 8 ≤ a) → M a = la_M a) : mz_sh mz_GG M := by
  intro a c hc
  have ha : a < 272 := hb_okG.2.2.2.2 a c hc
  have h1 := List.all_eq_true.mp la_c a (List.mem_range.mpr ha)
  rw [hc] at h1
  have h1 : la_cell c (la_M a) = true := h1
  have hr : a < 271 ∧ (a = 1 ∨ 8 ≤ a) := by
    have k : ∀ i : Fin 272, (mz_GG.1 i.val).isSome = true → i.val < 271 ∧ (i.val = 1 ∨ 8 ≤ i.val) := by decide +kernel
    exact k ⟨a, ha⟩ (by show (mz_GG.1 a).isSome = true; rw [hc]; rfl)
  rw [h a hr.1 hr.2]
  unfold la_cell at h1
  rw [Bool.and_eq_true, Bool.and_eq_true] at h1
  obtain ⟨⟨h2, h3⟩, h4⟩ := h1
  refine ⟨Nat.eq_of_beq_eq_true h2, Nat.eq_of_beq_eq_true h3, fun i v hv => ?_⟩
  have h5 := la_lst_ok _ 0 h4 i v hv
  rw [Nat.zero_add] at h5
  exact la_okb_ok h5
