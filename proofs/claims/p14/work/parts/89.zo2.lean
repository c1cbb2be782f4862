/-! The class's isBody, isApart, readRecord, exactly. -/
/-- record i of the archive at A, as the class keeps it -/
def xcr (M : Nat → mq_C) (A i : Nat) : xRc := (hv M (A + 5) i, hv M (A + 6) i, hv M (A + 7) i, hv M (A + 8) i, hv M (A + 9) i, hv M (A + 10) i)
theorem xcr_c {M M' : Nat → mq_C} {A i : Nat} (h : ∀ b, A + 5 ≤ b → b ≤ A + 10 → hv M' b i = hv M b i) : xcr M' A i = xcr M A i := by
  unfold xcr
  rw [h (A + 5) (by omega) (by omega), h (A + 6) (by omega) (by omega), h (A + 7) (by omega) (by omega), h (A + 8) (by omega) (by omega), h (A + 9) (by omega) (by omega), h (A + 10) (by omega) (by omega)]
