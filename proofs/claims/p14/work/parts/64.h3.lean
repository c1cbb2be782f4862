/-! EXACT STEPS: one instruction, its numbers told. -/
section HE
variable {d k pc n z u : Nat} {L : mq_L} {st : List Value} {M : Nat → mq_C} {Q : (Option Value ⊕ Nat) → mq_S → Prop}
theorem he_go {o : mq_P} {pc' : Nat} {L' : mq_L} {st' : List Value} {S' : mq_S} {S : mq_S} (hat : mq_at mq_PP k pc = some o) (he : mq_ex o L st S = some (.inl (pc', L', st', S'))) (h : mq_R mq_PP d k pc' L' st' S' Q) : mq_R mq_PP d k pc L st S Q := by
  rw [mq_R_eq]
  unfold mq_stp
  rw [hat]
  show mq_Y mq_PP d k pc (mq_ex o L st S) Q
  rw [he]
  exact h
theorem he_iconst {c : Int} (hat : mq_at mq_PP k pc = some (0, [n], [c])) (hc : (Int32.ofInt c).toInt = c) (h : ∀ v : Int32, v.toInt = c → mq_R mq_PP d k n L (.int v :: st) (M, z, u) Q) : mq_R mq_PP d k pc L st (M, z, u) Q := he_go hat rfl (h _ hc)
theorem he_iload {i : Nat} {x : Int32} (hat : mq_at mq_PP k pc = some (2, [n, i], [])) (hl : L[i]? = some (some (.int x))) (h : mq_R mq_PP d k n L (.int x :: st) (M, z, u) Q) : mq_R mq_PP d k pc L st (M, z, u) Q := by
  refine he_go hat ?_ h
  show mq_o_iload [n, i] [] L st (M, z, u) = _
  unfold mq_o_iload
  simp only [hl]
theorem he_aload {i x : Nat} (hat : mq_at mq_PP k pc = some (4, [n, i], [])) (hl : L[i]? = some (some (.ref x))) (h : mq_R mq_PP d k n L (.ref x :: st) (M, z, u) Q) : mq_R mq_PP d k pc L st (M, z, u) Q := by
  refine he_go hat ?_ h
  show mq_o_aload [n, i] [] L st (M, z, u) = _
  unfold mq_o_aload
  simp only [hl]
theorem he_istore {i : Nat} {x : Int32} {L' : mq_L} (hat : mq_at mq_PP k pc = some (5, [n, i], [])) (hl : mq_set1 L i (.int x) = some L') (h : mq_R mq_PP d k n L' st (M, z, u) Q) : mq_R mq_PP d k pc L (.int x :: st) (M, z, u) Q := by
  refine he_go hat ?_ h
  show mq_o_istore [n, i] [] L (.int x :: st) (M, z, u) = _
  unfold mq_o_istore
  simp only [hl]
theorem he_astore {i x : Nat} {L' : mq_L} (hat : mq_at mq_PP k pc = some (7, [n, i], [])) (hl : mq_set1 L i (.ref x) = some L') (h : mq_R mq_PP d k n L' st (M, z, u) Q) : mq_R mq_PP d k pc L (.ref x :: st) (M, z, u) Q := by
  refine he_go hat ?_ h
  show mq_o_astore [n, i] [] L (.ref x :: st) (M, z, u) = _
  unfold mq_o_astore
  simp only [hl]
theorem he_add32 {x y : Int32} (h1 : -2147483648 ≤ x.toInt + y.toInt) (h2 : x.toInt + y.toInt ≤ 2147483647) : (x + y).toInt = x.toInt + y.toInt := by
  rw [Int32.toInt_add]
  exact Int.bmod_eq_of_le (by omega) (by omega)
theorem he_sub32 {x y : Int32} (h1 : -2147483648 ≤ x.toInt - y.toInt) (h2 : x.toInt - y.toInt ≤ 2147483647) : (x - y).toInt = x.toInt - y.toInt := by
  rw [Int32.toInt_sub]
  exact Int.bmod_eq_of_le (by omega) (by omega)
theorem he_mul32 {x y : Int32} {p : Int} (hp : x.toInt * y.toInt = p) (h1 : -2147483648 ≤ p) (h2 : p ≤ 2147483647) : (x * y).toInt = p := by
  rw [Int32.toInt_mul, hp]
  exact Int.bmod_eq_of_le (by omega) (by omega)
theorem he_iinc {i : Nat} {c : Int} {x : Int32} {L' : Int32 → mq_L} (hat : mq_at mq_PP k pc = some (8, [n, i], [c])) (hc : (Int32.ofInt c).toInt = c) (hl : L[i]? = some (some (.int x))) (hs : ∀ v : Int32, mq_set1 L i (.int v) = some (L' v)) (h1 : -2147483648 ≤ x.toInt + c) (h2 : x.toInt + c ≤ 2147483647) (h : ∀ v : Int32, v.toInt = x.toInt + c → mq_R mq_PP d k n (L' v) st (M, z, u) Q) : mq_R mq_PP d k pc L st (M, z, u) Q := by
  refine he_go hat (L' := L' (x + Int32.ofInt c)) ?_ (h _ ?_)
  · show mq_o_iinc [n, i] [c] L st (M, z, u) = _
    unfold mq_o_iinc
    simp only [hl, hs]
  · rw [he_add32 (by rw [hc]; exact h1) (by rw [hc]; exact h2), hc]
theorem he_iadd {x y : Int32} (hat : mq_at mq_PP k pc = some (9, [n], [])) (h1 : -2147483648 ≤ x.toInt + y.toInt) (h2 : x.toInt + y.toInt ≤ 2147483647) (h : ∀ v : Int32, v.toInt = x.toInt + y.toInt → mq_R mq_PP d k n L (.int v :: st) (M, z, u) Q) : mq_R mq_PP d k pc L (.int y :: .int x :: st) (M, z, u) Q := he_go hat rfl (h _ (he_add32 h1 h2))
theorem he_isub {x y : Int32} (hat : mq_at mq_PP k pc = some (10, [n], [])) (h1 : -2147483648 ≤ x.toInt - y.toInt) (h2 : x.toInt - y.toInt ≤ 2147483647) (h : ∀ v : Int32, v.toInt = x.toInt - y.toInt → mq_R mq_PP d k n L (.int v :: st) (M, z, u) Q) : mq_R mq_PP d k pc L (.int y :: .int x :: st) (M, z, u) Q := he_go hat rfl (h _ (he_sub32 h1 h2))
theorem he_imul {x y : Int32} {p : Int} (hat : mq_at mq_PP k pc = some (11, [n], [])) (hp : x.toInt * y.toInt = p) (h1 : -2147483648 ≤ p) (h2 : p ≤ 2147483647) (h : ∀ v : Int32, v.toInt = p → mq_R mq_PP d k n L (.int v :: st) (M, z, u) Q) : mq_R mq_PP d k pc L (.int y :: .int x :: st) (M, z, u) Q := he_go hat rfl (h _ (he_mul32 hp h1 h2))
theorem he_any2 {o : Nat} {x y : Int32} {f : Int32 → Int32 → Int32} (hat : mq_at mq_PP k pc = some (o, [n], [])) (ho : mq_ops[o]? = some (mq_bi f)) (h : ∀ v : Int32, mq_R mq_PP d k n L (.int v :: st) (M, z, u) Q) : mq_R mq_PP d k pc L (.int y :: .int x :: st) (M, z, u) Q := by
  refine he_go hat ?_ (h (f x y))
  unfold mq_ex
  simp only [ho]
  rfl
theorem he_dup_i {x : Int32} (hat : mq_at mq_PP k pc = some (33, [n], [])) (h : mq_R mq_PP d k n L (.int x :: .int x :: st) (M, z, u) Q) : mq_R mq_PP d k pc L (.int x :: st) (M, z, u) Q := he_go hat rfl h
theorem he_dup_r {x : Nat} (hat : mq_at mq_PP k pc = some (33, [n], [])) (h : mq_R mq_PP d k n L (.ref x :: .ref x :: st) (M, z, u) Q) : mq_R mq_PP d k pc L (.ref x :: st) (M, z, u) Q := he_go hat rfl h
theorem he_dup2 {x : Int32} {a : Nat} (hat : mq_at mq_PP k pc = some (37, [n], [])) (h : mq_R mq_PP d k n L (.int x :: .ref a :: .int x :: .ref a :: st) (M, z, u) Q) : mq_R mq_PP d k pc L (.int x :: .ref a :: st) (M, z, u) Q := he_go hat rfl h
theorem he_goto {t : Nat} (hat : mq_at mq_PP k pc = some (50, [t], [])) (h : mq_R mq_PP d k t L st (M, z, u) Q) : mq_R mq_PP d k pc L st (M, z, u) Q := he_go hat rfl h
/-- branches: the way that is taken -/
theorem he_b1 {o t t' : Nat} {f : Int32 → Bool} {x : Int32} (hat : mq_at mq_PP k pc = some (o, [n, t], [])) (ho : mq_ops[o]? = some (mq_if1 f)) (ht : (if f x = true then t else n) = t') (h : mq_R mq_PP d k t' L st (M, z, u) Q) : mq_R mq_PP d k pc L (.int x :: st) (M, z, u) Q := by
  refine he_go hat ?_ h
  unfold mq_ex
  simp only [ho]
  show mq_nx (if f x = true then t else n) L st (M, z, u) = _
  rw [ht]
theorem he_b2 {o t t' : Nat} {f : Int32 → Int32 → Bool} {x y : Int32} (hat : mq_at mq_PP k pc = some (o, [n, t], [])) (ho : mq_ops[o]? = some (mq_if2 f)) (ht : (if f x y = true then t else n) = t') (h : mq_R mq_PP d k t' L st (M, z, u) Q) : mq_R mq_PP d k pc L (.int y :: .int x :: st) (M, z, u) Q := by
  refine he_go hat ?_ h
  unfold mq_ex
  simp only [ho]
  show mq_nx (if f x y = true then t else n) L st (M, z, u) = _
  rw [ht]
end HE
theorem he_0 : (0 : Int32).toInt = 0 := rfl
theorem he_eqi {x y : Int32} : (x = y) = (x.toInt = y.toInt) := propext Int32.toInt_inj.symm
theorem he_lti {x y : Int32} : (x < y) = (x.toInt < y.toInt) := propext Int32.lt_iff_toInt_lt
theorem he_lei {x y : Int32} : (x ≤ y) = (x.toInt ≤ y.toInt) := propext Int32.le_iff_toInt_le
section HF
variable {d k pc n t z u : Nat} {L : mq_L} {st : List Value} {M : Nat → mq_C} {Q : (Option Value ⊕ Nat) → mq_S → Prop} {x y : Int32}
theorem he_ifeq_t (hat : mq_at mq_PP k pc = some (38, [n, t], [])) (hc : (x.toInt = 0)) (h : mq_R mq_PP d k t L st (M, z, u) Q) : mq_R mq_PP d k pc L (.int x :: st) (M, z, u) Q := he_b1 hat rfl (by simp only [he_eqi, he_lti, he_lei, he_0, decide_eq_true_eq]; rw [if_pos hc]) h
theorem he_ifeq_f (hat : mq_at mq_PP k pc = some (38, [n, t], [])) (hc : ¬ (x.toInt = 0)) (h : mq_R mq_PP d k n L st (M, z, u) Q) : mq_R mq_PP d k pc L (.int x :: st) (M, z, u) Q := he_b1 hat rfl (by simp only [he_eqi, he_lti, he_lei, he_0, decide_eq_true_eq]; rw [if_neg hc]) h
theorem he_ifne_t (hat : mq_at mq_PP k pc = some (39, [n, t], [])) (hc : (¬ x.toInt = 0)) (h : mq_R mq_PP d k t L st (M, z, u) Q) : mq_R mq_PP d k pc L (.int x :: st) (M, z, u) Q := he_b1 hat rfl (by simp only [he_eqi, he_lti, he_lei, he_0, decide_eq_true_eq]; rw [if_pos hc]) h
theorem he_ifne_f (hat : mq_at mq_PP k pc = some (39, [n, t], [])) (hc : ¬ (¬ x.toInt = 0)) (h : mq_R mq_PP d k n L st (M, z, u) Q) : mq_R mq_PP d k pc L (.int x :: st) (M, z, u) Q := he_b1 hat rfl (by simp only [he_eqi, he_lti, he_lei, he_0, decide_eq_true_eq]; rw [if_neg hc]) h
theorem he_iflt_t (hat : mq_at mq_PP k pc = some (40, [n, t], [])) (hc : (x.toInt < 0)) (h : mq_R mq_PP d k t L st (M, z, u) Q) : mq_R mq_PP d k pc L (.int x :: st) (M, z, u) Q := he_b1 hat rfl (by simp only [he_eqi, he_lti, he_lei, he_0, decide_eq_true_eq]; rw [if_pos hc]) h
theorem he_iflt_f (hat : mq_at mq_PP k pc = some (40, [n, t], [])) (hc : ¬ (x.toInt < 0)) (h : mq_R mq_PP d k n L st (M, z, u) Q) : mq_R mq_PP d k pc L (.int x :: st) (M, z, u) Q := he_b1 hat rfl (by simp only [he_eqi, he_lti, he_lei, he_0, decide_eq_true_eq]; rw [if_neg hc]) h
theorem he_ifge_t (hat : mq_at mq_PP k pc = some (41, [n, t], [])) (hc : (0 ≤ x.toInt)) (h : mq_R mq_PP d k t L st (M, z, u) Q) : mq_R mq_PP d k pc L (.int x :: st) (M, z, u) Q := he_b1 hat rfl (by simp only [he_eqi, he_lti, he_lei, he_0, decide_eq_true_eq]; rw [if_pos hc]) h
theorem he_ifge_f (hat : mq_at mq_PP k pc = some (41, [n, t], [])) (hc : ¬ (0 ≤ x.toInt)) (h : mq_R mq_PP d k n L st (M, z, u) Q) : mq_R mq_PP d k pc L (.int x :: st) (M, z, u) Q := he_b1 hat rfl (by simp only [he_eqi, he_lti, he_lei, he_0, decide_eq_true_eq]; rw [if_neg hc]) h
theorem he_ifgt_t (hat : mq_at mq_PP k pc = some (42, [n, t], [])) (hc : (0 < x.toInt)) (h : mq_R mq_PP d k t L st (M, z, u) Q) : mq_R mq_PP d k pc L (.int x :: st) (M, z, u) Q := he_b1 hat rfl (by simp only [he_eqi, he_lti, he_lei, he_0, decide_eq_true_eq]; rw [if_pos hc]) h
theorem he_ifgt_f (hat : mq_at mq_PP k pc = some (42, [n, t], [])) (hc : ¬ (0 < x.toInt)) (h : mq_R mq_PP d k n L st (M, z, u) Q) : mq_R mq_PP d k pc L (.int x :: st) (M, z, u) Q := he_b1 hat rfl (by simp only [he_eqi, he_lti, he_lei, he_0, decide_eq_true_eq]; rw [if_neg hc]) h
theorem he_ifle_t (hat : mq_at mq_PP k pc = some (43, [n, t], [])) (hc : (x.toInt ≤ 0)) (h : mq_R mq_PP d k t L st (M, z, u) Q) : mq_R mq_PP d k pc L (.int x :: st) (M, z, u) Q := he_b1 hat rfl (by simp only [he_eqi, he_lti, he_lei, he_0, decide_eq_true_eq]; rw [if_pos hc]) h
theorem he_ifle_f (hat : mq_at mq_PP k pc = some (43, [n, t], [])) (hc : ¬ (x.toInt ≤ 0)) (h : mq_R mq_PP d k n L st (M, z, u) Q) : mq_R mq_PP d k pc L (.int x :: st) (M, z, u) Q := he_b1 hat rfl (by simp only [he_eqi, he_lti, he_lei, he_0, decide_eq_true_eq]; rw [if_neg hc]) h
theorem he_cmpeq_t (hat : mq_at mq_PP k pc = some (44, [n, t], [])) (hc : (x.toInt = y.toInt)) (h : mq_R mq_PP d k t L st (M, z, u) Q) : mq_R mq_PP d k pc L (.int y :: .int x :: st) (M, z, u) Q := he_b2 hat rfl (by simp only [he_eqi, he_lti, he_lei, he_0, decide_eq_true_eq]; rw [if_pos hc]) h
theorem he_cmpeq_f (hat : mq_at mq_PP k pc = some (44, [n, t], [])) (hc : ¬ (x.toInt = y.toInt)) (h : mq_R mq_PP d k n L st (M, z, u) Q) : mq_R mq_PP d k pc L (.int y :: .int x :: st) (M, z, u) Q := he_b2 hat rfl (by simp only [he_eqi, he_lti, he_lei, he_0, decide_eq_true_eq]; rw [if_neg hc]) h
theorem he_cmpne_t (hat : mq_at mq_PP k pc = some (45, [n, t], [])) (hc : (¬ x.toInt = y.toInt)) (h : mq_R mq_PP d k t L st (M, z, u) Q) : mq_R mq_PP d k pc L (.int y :: .int x :: st) (M, z, u) Q := he_b2 hat rfl (by simp only [he_eqi, he_lti, he_lei, he_0, decide_eq_true_eq]; rw [if_pos hc]) h
theorem he_cmpne_f (hat : mq_at mq_PP k pc = some (45, [n, t], [])) (hc : ¬ (¬ x.toInt = y.toInt)) (h : mq_R mq_PP d k n L st (M, z, u) Q) : mq_R mq_PP d k pc L (.int y :: .int x :: st) (M, z, u) Q := he_b2 hat rfl (by simp only [he_eqi, he_lti, he_lei, he_0, decide_eq_true_eq]; rw [if_neg hc]) h
theorem he_cmplt_t (hat : mq_at mq_PP k pc = some (46, [n, t], [])) (hc : (x.toInt < y.toInt)) (h : mq_R mq_PP d k t L st (M, z, u) Q) : mq_R mq_PP d k pc L (.int y :: .int x :: st) (M, z, u) Q := he_b2 hat rfl (by simp only [he_eqi, he_lti, he_lei, he_0, decide_eq_true_eq]; rw [if_pos hc]) h
theorem he_cmplt_f (hat : mq_at mq_PP k pc = some (46, [n, t], [])) (hc : ¬ (x.toInt < y.toInt)) (h : mq_R mq_PP d k n L st (M, z, u) Q) : mq_R mq_PP d k pc L (.int y :: .int x :: st) (M, z, u) Q := he_b2 hat rfl (by simp only [he_eqi, he_lti, he_lei, he_0, decide_eq_true_eq]; rw [if_neg hc]) h
theorem he_cmpge_t (hat : mq_at mq_PP k pc = some (47, [n, t], [])) (hc : (y.toInt ≤ x.toInt)) (h : mq_R mq_PP d k t L st (M, z, u) Q) : mq_R mq_PP d k pc L (.int y :: .int x :: st) (M, z, u) Q := he_b2 hat rfl (by simp only [he_eqi, he_lti, he_lei, he_0, decide_eq_true_eq]; rw [if_pos hc]) h
theorem he_cmpge_f (hat : mq_at mq_PP k pc = some (47, [n, t], [])) (hc : ¬ (y.toInt ≤ x.toInt)) (h : mq_R mq_PP d k n L st (M, z, u) Q) : mq_R mq_PP d k pc L (.int y :: .int x :: st) (M, z, u) Q := he_b2 hat rfl (by simp only [he_eqi, he_lti, he_lei, he_0, decide_eq_true_eq]; rw [if_neg hc]) h
theorem he_cmpgt_t (hat : mq_at mq_PP k pc = some (48, [n, t], [])) (hc : (y.toInt < x.toInt)) (h : mq_R mq_PP d k t L st (M, z, u) Q) : mq_R mq_PP d k pc L (.int y :: .int x :: st) (M, z, u) Q := he_b2 hat rfl (by simp only [he_eqi, he_lti, he_lei, he_0, decide_eq_true_eq]; rw [if_pos hc]) h
theorem he_cmpgt_f (hat : mq_at mq_PP k pc = some (48, [n, t], [])) (hc : ¬ (y.toInt < x.toInt)) (h : mq_R mq_PP d k n L st (M, z, u) Q) : mq_R mq_PP d k pc L (.int y :: .int x :: st) (M, z, u) Q := he_b2 hat rfl (by simp only [he_eqi, he_lti, he_lei, he_0, decide_eq_true_eq]; rw [if_neg hc]) h
theorem he_cmple_t (hat : mq_at mq_PP k pc = some (49, [n, t], [])) (hc : (x.toInt ≤ y.toInt)) (h : mq_R mq_PP d k t L st (M, z, u) Q) : mq_R mq_PP d k pc L (.int y :: .int x :: st) (M, z, u) Q := he_b2 hat rfl (by simp only [he_eqi, he_lti, he_lei, he_0, decide_eq_true_eq]; rw [if_pos hc]) h
theorem he_cmple_f (hat : mq_at mq_PP k pc = some (49, [n, t], [])) (hc : ¬ (x.toInt ≤ y.toInt)) (h : mq_R mq_PP d k n L st (M, z, u) Q) : mq_R mq_PP d k pc L (.int y :: .int x :: st) (M, z, u) Q := he_b2 hat rfl (by simp only [he_eqi, he_lti, he_lei, he_0, decide_eq_true_eq]; rw [if_neg hc]) h
theorem he_ret (hat : mq_at mq_PP k pc = some (66, [], [])) (h : Q (.inl none) (M, z, u)) : mq_R mq_PP d k pc L [] (M, z, u) Q := by
  rw [mq_R_eq]
  unfold mq_stp
  rw [hat]
  exact h
theorem he_reti (hat : mq_at mq_PP k pc = some (67, [0], [])) (h : Q (.inl (some (.int x))) (M, z, u)) : mq_R mq_PP d k pc L [.int x] (M, z, u) Q := by
  rw [mq_R_eq]
  unfold mq_stp
  rw [hat]
  exact h
theorem he_retz (hat : mq_at mq_PP k pc = some (67, [1], [])) (hx : x.toInt = 0 ∨ x.toInt = 1) (h : Q (.inl (some (.int x))) (M, z, u)) : mq_R mq_PP d k pc L [.int x] (M, z, u) Q := by
  rw [mq_R_eq]
  unfold mq_stp
  rw [hat]
  show mq_Y mq_PP d k pc (if mq_fit 1 (.int x) = true then _ else none) Q
  rw [if_pos (show mq_fit 1 (.int x) = true from decide_eq_true (by
    rw [he_eqi, he_eqi (y := 1), he_0, show (1 : Int32).toInt = 1 from rfl]
    exact hx))]
  exact h
/-- a field or an element that is a reference -/
def he_isr (a i b : Nat) : Bool := match mz_GG.1 a with
  | some c => bif Nat.blt i c.2.1 then (match mz_at c i with
    | (1, g, _) => decide (mz_GG.2.1 g.toNat = [b])
    | _ => false) else false
  | none => false
theorem he_isr_ok {a i b : Nat} (h : he_isr a i b = true) (hm : mz_sh mz_GG M) : (M a).2[i]? = some (.ref b) := by
  unfold he_isr at h
  split at h
  · next c hc =>
    obtain ⟨m1, m2, m3⟩ := hm a c hc
    obtain ⟨hl, h⟩ := mz_bif h
    have hl' : i < (M a).2.length := by rw [m2]; exact Nat.le_of_ble_eq_true hl
    obtain ⟨w, hw⟩ : ∃ w, (M a).2[i]? = some w := ⟨_, List.getElem?_eq_getElem hl'⟩
    have hok := m3 _ _ hw
    split at h
    · next g w' ha =>
      rw [ha] at hok
      cases w with
      | ref x =>
        have hx : x ∈ mz_GG.2.1 g.toNat := hok
        rw [of_decide_eq_true h] at hx
        rw [hw, List.mem_singleton.mp hx]
      | _ => exact hok.elim
    · cases h
  · cases h
theorem he_getr {ci j a b : Nat} {ns : List Nat} {c : mz_Ce} (hm : mz_sh mz_GG M) (hat : mq_at mq_PP k pc = some (52, n :: ci :: j :: ns, [])) (hc : mz_GG.1 a = some c) (hk : c.1 = ci) (hr : he_isr a j b = true) (h : mq_R mq_PP d k n L (.ref b :: st) (M, z, u) Q) : mq_R mq_PP d k pc L (.ref a :: st) (M, z, u) Q := by
  refine he_go hat ?_ h
  show mq_o_get (n :: ci :: j :: ns) [] L (.ref a :: st) (M, z, u) = _
  unfold mq_o_get
  simp only
  rw [if_pos ((hm a c hc).1.trans hk), he_isr_ok hr hm]
theorem he_aald {kind a b : Nat} {i : Int32} {c : mz_Ce} (hm : mz_sh mz_GG M) (hat : mq_at mq_PP k pc = some (58, [n, kind], [])) (hc : mz_GG.1 a = some c) (hk : c.1 = kind) (hkd : 70 ≤ kind) (h0 : 0 ≤ i.toInt) (hr : he_isr a i.toInt.toNat b = true) (h : mq_R mq_PP d k n L (.ref b :: st) (M, z, u) Q) : mq_R mq_PP d k pc L (.int i :: .ref a :: st) (M, z, u) Q := by
  refine he_go hat ?_ h
  show mq_o_ald [n, kind] [] L (.int i :: .ref a :: st) (M, z, u) = _
  unfold mq_o_ald
  simp only
  have hneg : ¬ i < 0 := by
    rw [he_lti, he_0]
    omega
  rw [if_pos ⟨.inl ((hm a c hc).1.trans hk), hneg⟩, show i.toNatClampNeg = i.toInt.toNat from rfl, he_isr_ok hr hm]
  simp only
  have hf : mq_fit (if kind = 66 then 2 else if kind < 70 then 0 else 3) (.ref b) = true := by
    rw [if_neg (by omega), if_neg (by omega)]
    rfl
  rw [if_pos hf]
end HF
