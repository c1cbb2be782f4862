/-! nameSize answers as nameLength does. -/
theorem mq_nm_neg {x : Int32} (h : 2147483648 ≤ mq_un x) : mq_nm x = 0 := by
  have hl := mq_un_lt (x := x)
  have e1 := mq_us_un (x := x)
  have e2 := mq_us_un (x := mq_us x)
  have e3 := mq_us_un (x := mq_us (mq_us x))
  have n0 : ¬ x = 0 := by rw [mq_un0]; omega
  have n1 : ¬ mq_us x = 0 := by rw [mq_un0]; omega
  have n2 : ¬ mq_us (mq_us x) = 0 := by rw [mq_un0]; omega
  have n3 : ¬ mq_us (mq_us (mq_us x)) = 0 := by rw [mq_un0]; omega
  have b3 : ¬ (33 ≤ mq_us (mq_us (mq_us x)) &&& 255 ∧ mq_us (mq_us (mq_us x)) &&& 255 ≤ 126) := by
    intro hb
    have h1 := Int32.le_iff_toInt_le.mp hb.2
    rw [mq_and_ti] at h1
    have e126 : (126 : Int32).toInt = 126 := rfl
    rw [e126] at h1
    omega
  unfold mq_nm
  rw [if_neg n0, if_neg n1, if_neg n2, if_neg n3, if_pos b3]
  split
  · rfl
  · split
    · rfl
    · split <;> rfl
