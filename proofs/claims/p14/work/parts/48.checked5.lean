/-! The check of the law's method, in pieces. -/
set_option maxRecDepth 100000 in
theorem mq_m173a : (List.take 80 (mq_k173.2.2)).all (fun q => decide (q.2.1 = 68) || mq_ck mq_n173 q.1 q.2) = true := by decide +kernel
set_option maxRecDepth 100000 in
theorem mq_m173b : (List.take 80 (List.drop 80 (mq_k173.2.2))).all (fun q => decide (q.2.1 = 68) || mq_ck mq_n173 q.1 q.2) = true := by decide +kernel
set_option maxRecDepth 100000 in
theorem mq_m173c : (List.take 80 (List.drop 80 (List.drop 80 (mq_k173.2.2)))).all (fun q => decide (q.2.1 = 68) || mq_ck mq_n173 q.1 q.2) = true := by decide +kernel
set_option maxRecDepth 100000 in
theorem mq_m173d : (List.take 80 (List.drop 80 (List.drop 80 (List.drop 80 (mq_k173.2.2))))).all (fun q => decide (q.2.1 = 68) || mq_ck mq_n173 q.1 q.2) = true := by decide +kernel
set_option maxRecDepth 100000 in
theorem mq_m173e : (List.take 80 (List.drop 80 (List.drop 80 (List.drop 80 (List.drop 80 (mq_k173.2.2)))))).all (fun q => decide (q.2.1 = 68) || mq_ck mq_n173 q.1 q.2) = true := by decide +kernel
set_option maxRecDepth 100000 in
theorem mq_m173f : (List.drop 80 (List.drop 80 (List.drop 80 (List.drop 80 (List.drop 80 (mq_k173.2.2)))))).all (fun q => decide (q.2.1 = 68) || mq_ck mq_n173 q.1 q.2) = true := by decide +kernel
theorem mq_m173g : (decide (mq_k173.1 = mq_n173.2.2.1) && decide (mq_k173.1 ≤ 40) && (!mq_k173.2.1.isEmpty || mq_n173.2.2.2.2.isEmpty)) = true := by decide +kernel
theorem mq_m173 : mq_mk mq_k173 mq_n173 = true := by
  unfold mq_mk
  rw [mq_m173g, Bool.true_and]
  rw [← List.take_append_drop 80 (mq_k173.2.2), List.all_append, mq_m173a, Bool.true_and]
  rw [← List.take_append_drop 80 (List.drop 80 (mq_k173.2.2)), List.all_append, mq_m173b, Bool.true_and]
  rw [← List.take_append_drop 80 (List.drop 80 (List.drop 80 (mq_k173.2.2))), List.all_append, mq_m173c, Bool.true_and]
  rw [← List.take_append_drop 80 (List.drop 80 (List.drop 80 (List.drop 80 (mq_k173.2.2)))), List.all_append, mq_m173d, Bool.true_and]
  rw [← List.take_append_drop 80 (List.drop 80 (List.drop 80 (List.drop 80 (List.drop 80 (mq_k173.2.2))))), List.all_append, mq_m173e, Bool.true_and]
  exact mq_m173f
