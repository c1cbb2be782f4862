/-! BY HAND: small helpers. -/
theorem hb_at1 {k n : Nat} {sp : mz_Sp} {i : Nat} : mz_at (k, n, 1, [sp]) i = sp := by
  show [sp].getD (i % 1) (9, 0, 0) = sp
  rw [Nat.mod_one]
  rfl
theorem hb_no0 : ∀ c ∈ mz_Cs, ¬ c.2 < 1 := by decide +kernel
theorem hb_C1 {X : (Nat → mq_C) → Prop} : ∀ c ∈ mz_Cs, c.2 < 1 → mz_Ct mz_GG mq_PP X c.1 c.2 := fun c hc h => absurd h (hb_no0 c hc)
theorem hb_vc {M M' : Nat → mq_C} {a : Nat} (h : M' a = M a) (i : Nat) : hv M' a i = hv M a i := by
  show hb_w mz_GG ((M' a).2[i]?) = hb_w mz_GG ((M a).2[i]?)
  rw [h]
