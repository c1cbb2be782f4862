/-! The check of the law's method, in pieces. -/
set_option maxRecDepth 100000 in
theorem mq_m174a : (List.take 80 (mq_k174.2.2)).all (fun q => decide (q.2.1 = 68) || mq_ck mq_n174 q.1 q.2) = true := by decide +kernel
set_option maxRecDepth 100000 in
theorem mq_m174b : (List.take 80 (List.drop 80 (mq_k174.2.2))).all (fun q => decide (q.2.1 = 68) || mq_ck mq_n174 q.1 q.2) = true := by decide +kernel
set_option maxRecDepth 100000 in
theorem mq_m174c : (List.take 80 (List.drop 80 (List.drop 80 (mq_k174.2.2)))).all (fun q => decide (q.2.1 = 68) || mq_ck mq_n174 q.1 q.2) = true := by decide +kernel
set_option maxRecDepth 100000 in
theorem mq_m174d : (List.take 80 (List.drop 80 (List.drop 80 (List.drop 80 (mq_k174.2.2))))).all (fun q => decide (q.2.1 = 68) || mq_ck mq_n174 q.1 q.2) = true := by decide +kernel
set_option maxRecDepth 100000 in
theorem mq_m174e : (List.take 80 (List.drop 80 (List.drop 80 (List.drop 80 (List.drop 80 (mq_k174.2.2)))))).all (fun q => decide (q.2.1 = 68) || mq_ck mq_n174 q.1 q.2) = true := by decide +kernel
set_option maxRecDepth 100000 in
theorem mq_m174f : (List.drop 80 (List.drop 80 (List.drop 80 (List.drop 80 (List.drop 80 (mq_k174.2.2)))))).all (fun q => decide (q.2.1 = 68) || mq_ck mq_n174 q.1 q.2) = true := by decide +kernel
theorem mq_m174g : (decide (mq_k174.1 = mq_n174.2.2.1) && decide (mq_k174.1 ≤ 40) && (!mq_k174.2.1.isEmpty || mq_n174.2.2.2.2.isEmpty)) = true := by decide +kernel
theorem mq_m174 : mq_mk mq_k174 mq_n174 = true := by
  unfold mq_mk
  rw [mq_m174g, Bool.true_and]
  rw [← List.take_append_drop 80 (mq_k174.2.2), List.all_append, mq_m174a, Bool.true_and]
  rw [← List.take_append_drop 80 (List.drop 80 (mq_k174.2.2)), List.all_append, mq_m174b, Bool.true_and]
  rw [← List.take_append_drop 80 (List.drop 80 (List.drop 80 (mq_k174.2.2))), List.all_append, mq_m174c, Bool.true_and]
  rw [← List.take_append_drop 80 (List.drop 80 (List.drop 80 (List.drop 80 (mq_k174.2.2)))), List.all_append, mq_m174d, Bool.true_and]
  rw [← List.take_append_drop 80 (List.drop 80 (List.drop 80 (List.drop 80 (List.drop 80 (mq_k174.2.2))))), List.all_append, mq_m174e, Bool.true_and]
  exact mq_m174f
