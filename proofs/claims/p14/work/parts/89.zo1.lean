/-! The class's number, recordNamed, isBody, isApart, exactly. -/
theorem xo_num47_l {d z u n a : Nat} {M : Nat → mq_C} {Q : (Option Value ⊕ Nat) → mq_S → Prop} {x1 x2 : Int32} (hm : mz_sh mz_GG M) (h1 : x1.toInt = (a : Int)) (h2 : x2.toInt = (n : Int)) (hn : n ≤ 4) (ha : a + n ≤ 240) (K : ∀ r : Int32, r.toInt = xs32 (xnN (hv M 48) a n) → Q (.inl (some (.int r))) (M, z, u)) : ∀ (m j : Nat) (v i : Int32), j + m = n → i.toInt = (j : Int) → mz_un v = xnN (hv M 48) a j → mq_R mq_PP d 56 5 [some (.ref 47), some (.int x1), some (.int x2), some (.int v), some (.int i)] [] (M, z, u) Q := by
  intro m
  induction m with
  | zero =>
    intro j v i e1 e2 e3
    refine he_iload (n := 7) (i := 4) (by decide +kernel) rfl ?_
    refine he_iload (n := 8) (i := 2) (by decide +kernel) rfl ?_
    refine he_cmpge_t (n := 11) (t := 35) (by decide +kernel) (by omega) ?_
    refine he_iload (n := 36) (i := 3) (by decide +kernel) rfl ?_
    refine he_reti (by decide +kernel) ?_
    obtain rfl : j = n := by omega
    refine K v ?_
    rw [← e3]
    exact mz_un_ti
  | succ m ih =>
    intro j v i e1 e2 e3
    refine he_iload (n := 7) (i := 4) (by decide +kernel) rfl ?_
    refine he_iload (n := 8) (i := 2) (by decide +kernel) rfl ?_
    refine he_cmpge_f (n := 11) (t := 35) (by decide +kernel) (by omega) ?_
    refine he_iload (n := 12) (i := 3) (by decide +kernel) rfl ?_
    refine he_aload (n := 13) (i := 0) (by decide +kernel) rfl ?_
    refine he_getr (n := 16) (ci := 1) (j := 0) (ns := [1214, 9]) (b := 48) hm (by decide +kernel) rfl rfl (by decide +kernel) ?_
    refine he_iload (n := 17) (i := 1) (by decide +kernel) rfl ?_
    refine he_iload (n := 19) (i := 4) (by decide +kernel) rfl ?_
    refine he_iadd (n := 20) (by decide +kernel) (by omega) (by omega) ?_
    intro v19 hv19
    refine hb_ld (n := 21) (kind := 64) hm (by decide +kernel) rfl rfl (.inl rfl) (by omega) (show _ < (240 : Int) by omega) hb_at1 ?_
    intro v20 hv20 lv20 uv20
    refine he_iconst (n := 23) (c := 8) (by decide +kernel) (by decide) ?_
    intro c21 hc21
    refine he_iload (n := 25) (i := 4) (by decide +kernel) rfl ?_
    refine he_imul (n := 26) (p := 8 * i.toInt) (by decide +kernel) (by rw [hc21]) (by omega) (by omega) ?_
    intro v25 hv25
    refine he_ex2 (o := 15) (n := 27) (by decide +kernel) rfl ?_
    intro v26 hv26
    have ev26 : v26 = v20 <<< (v25 &&& 31) := hv26
    have bv26 := mz_i32 v26
    refine he_ex2 (o := 13) (n := 28) (by decide +kernel) rfl ?_
    intro v27 hv27
    have ev27 : v27 = v ||| v26 := hv27
    have bv27 := mz_i32 v27
    refine he_istore (n := 29) (i := 3) (by decide +kernel) rfl ?_
    refine he_iinc (n := 32) (i := 4) (c := 1) (L' := fun v => [some (.ref (47)), some (.int x1), some (.int x2), some (.int v27), some (.int v)]) (by decide +kernel) (by decide) rfl (fun _ => rfl) (by omega) (by omega) ?_
    intro i29 hi29
    refine he_goto (t := 5) (by decide +kernel) ?_
    have q20 : hv M 48 (a + j) = v20.toInt := by rw [← hv20, show v19.toInt.toNat = a + j by omega]
    have hlt : mz_un v < 2 ^ (8 * j) := by
      rw [e3]
      exact xnN_lt j (fun t ht => (xx_rng (c := _) hm (a := 48) (i := a + t) (lo := 0) (hi := 255) rfl (show a + t < 240 by omega) hb_at1).2)
    refine ih (j + 1) _ _ (by omega) (by omega) ?_
    rw [ev27, ev26, xo_or (k := 8 * j) (by omega) hlt (by omega) (by omega) (by omega), e3, ← q20]
    rfl
theorem xo_num47 {d z u n a : Nat} {M : Nat → mq_C} {Q : (Option Value ⊕ Nat) → mq_S → Prop} {x1 x2 : Int32} (hm : mz_sh mz_GG M) (h1 : x1.toInt = (a : Int)) (h2 : x2.toInt = (n : Int)) (hn : n ≤ 4) (ha : a + n ≤ 240) (K : ∀ r : Int32, r.toInt = xs32 (xnN (hv M 48) a n) → Q (.inl (some (.int r))) (M, z, u)) : mq_R mq_PP d 56 0 [some (.ref 47), some (.int x1), some (.int x2), none, none] [] (M, z, u) Q := by
  refine he_iconst (n := 1) (c := 0) (by decide +kernel) (by decide) ?_
  intro c0 hc0
  refine he_istore (n := 2) (i := 3) (by decide +kernel) rfl ?_
  refine he_iconst (n := 3) (c := 0) (by decide +kernel) (by decide) ?_
  intro c2 hc2
  refine he_istore (n := 5) (i := 4) (by decide +kernel) rfl ?_
  refine xo_num47_l hm h1 h2 hn ha K n 0 _ _ (by omega) (by omega) ?_
  have h9 := mz_un_p (x := c0) (by omega)
  show mz_un c0 = 0
  omega
theorem xo_rn47_l {d z u n : Nat} {M : Nat → mq_C} {Q : (Option Value ⊕ Nat) → mq_S → Prop} {x1 : Int32} (hm : mz_sh mz_GG M) (hn : hv M 47 4 = (n : Int)) (K : ∀ r : Int32, xfs (hv M 52) n x1.toInt r.toInt → Q (.inl (some (.int r))) (M, z, u)) : ∀ (m j : Nat) (i : Int32), j + m = n → i.toInt = (j : Int) → (∀ t, t < j → ¬ hv M 52 t = x1.toInt) → mq_R mq_PP d 51 2 [some (.ref 47), some (.int x1), some (.int i)] [] (M, z, u) Q := by
  intro m
  induction m with
  | zero =>
    intro j i e1 e2 e3
    refine he_iload (n := 3) (i := 2) (by decide +kernel) rfl ?_
    refine he_aload (n := 4) (i := 0) (by decide +kernel) rfl ?_
    refine hb_gfd (n := 7) (ci := 1) (j := 4) (ns := [1224, 30]) hm (by decide +kernel) rfl rfl (by decide) rfl ?_
    intro v4 hv4 lv4 uv4
    refine he_cmpge_t (n := 10) (t := 28) (by decide +kernel) (by omega) ?_
    refine he_iconst (n := 29) (c := -1) (by decide +kernel) (by decide) ?_
    intro c28 hc28
    refine he_reti (by decide +kernel) ?_
    exact K _ (.inr ⟨by omega, fun t ht => e3 t (by omega)⟩)
  | succ m ih =>
    intro j i e1 e2 e3
    refine he_iload (n := 3) (i := 2) (by decide +kernel) rfl ?_
    refine he_aload (n := 4) (i := 0) (by decide +kernel) rfl ?_
    refine hb_gfd (n := 7) (ci := 1) (j := 4) (ns := [1224, 30]) hm (by decide +kernel) rfl rfl (by decide) rfl ?_
    intro v4 hv4 lv4 uv4
    refine he_cmpge_f (n := 10) (t := 28) (by decide +kernel) (by omega) ?_
    refine he_aload (n := 11) (i := 0) (by decide +kernel) rfl ?_
    refine he_getr (n := 14) (ci := 1) (j := 5) (ns := [1225, 33]) (b := 52) hm (by decide +kernel) rfl rfl (by decide +kernel) ?_
    refine he_iload (n := 15) (i := 2) (by decide +kernel) rfl ?_
    refine hb_ld (n := 16) (kind := 64) hm (by decide +kernel) rfl rfl (.inl rfl) (by omega) (show _ < (6 : Int) by omega) hb_at1 ?_
    intro v15 hv15 lv15 uv15
    refine he_iload (n := 17) (i := 1) (by decide +kernel) rfl ?_
    have q15 : hv M 52 j = v15.toInt := by rw [← hv15, show i.toInt.toNat = j by omega]
    by_cases hc : v15.toInt = x1.toInt
    · skip
      refine he_cmpne_f (n := 20) (t := 22) (by decide +kernel) (by omega) ?_
      refine he_iload (n := 21) (i := 2) (by decide +kernel) rfl ?_
      refine he_reti (by decide +kernel) ?_
      exact K _ (.inl ⟨j, by omega, e2, by rw [q15]; exact hc, e3⟩)
    · skip
      refine he_cmpne_t (n := 20) (t := 22) (by decide +kernel) (by omega) ?_
      refine he_iinc (n := 25) (i := 2) (c := 1) (L' := fun v => [some (.ref (47)), some (.int x1), some (.int v)]) (by decide +kernel) (by decide) rfl (fun _ => rfl) (by omega) (by omega) ?_
      intro i22 hi22
      refine he_goto (t := 2) (by decide +kernel) ?_
      refine ih (j + 1) _ (by omega) (by omega) (fun t ht => ?_)
      by_cases e : t = j
      · rw [e, q15]
        exact hc
      · exact e3 t (by omega)
theorem xo_rn47 {d z u n : Nat} {M : Nat → mq_C} {Q : (Option Value ⊕ Nat) → mq_S → Prop} {x1 : Int32} (hm : mz_sh mz_GG M) (hn : hv M 47 4 = (n : Int)) (K : ∀ r : Int32, xfs (hv M 52) n x1.toInt r.toInt → Q (.inl (some (.int r))) (M, z, u)) : mq_R mq_PP d 51 0 [some (.ref 47), some (.int x1), none] [] (M, z, u) Q := by
  refine he_iconst (n := 1) (c := 0) (by decide +kernel) (by decide) ?_
  intro c0 hc0
  refine he_istore (n := 2) (i := 2) (by decide +kernel) rfl ?_
  exact xo_rn47_l hm hn K n 0 _ (by omega) (by omega) (fun t ht => absurd ht (Nat.not_lt_zero t))
theorem xo_num58_l {d z u n a : Nat} {M : Nat → mq_C} {Q : (Option Value ⊕ Nat) → mq_S → Prop} {x1 x2 : Int32} (hm : mz_sh mz_GG M) (h1 : x1.toInt = (a : Int)) (h2 : x2.toInt = (n : Int)) (hn : n ≤ 4) (ha : a + n ≤ 240) (K : ∀ r : Int32, r.toInt = xs32 (xnN (hv M 59) a n) → Q (.inl (some (.int r))) (M, z, u)) : ∀ (m j : Nat) (v i : Int32), j + m = n → i.toInt = (j : Int) → mz_un v = xnN (hv M 59) a j → mq_R mq_PP d 56 5 [some (.ref 58), some (.int x1), some (.int x2), some (.int v), some (.int i)] [] (M, z, u) Q := by
  intro m
  induction m with
  | zero =>
    intro j v i e1 e2 e3
    refine he_iload (n := 7) (i := 4) (by decide +kernel) rfl ?_
    refine he_iload (n := 8) (i := 2) (by decide +kernel) rfl ?_
    refine he_cmpge_t (n := 11) (t := 35) (by decide +kernel) (by omega) ?_
    refine he_iload (n := 36) (i := 3) (by decide +kernel) rfl ?_
    refine he_reti (by decide +kernel) ?_
    obtain rfl : j = n := by omega
    refine K v ?_
    rw [← e3]
    exact mz_un_ti
  | succ m ih =>
    intro j v i e1 e2 e3
    refine he_iload (n := 7) (i := 4) (by decide +kernel) rfl ?_
    refine he_iload (n := 8) (i := 2) (by decide +kernel) rfl ?_
    refine he_cmpge_f (n := 11) (t := 35) (by decide +kernel) (by omega) ?_
    refine he_iload (n := 12) (i := 3) (by decide +kernel) rfl ?_
    refine he_aload (n := 13) (i := 0) (by decide +kernel) rfl ?_
    refine he_getr (n := 16) (ci := 1) (j := 0) (ns := [1214, 9]) (b := 59) hm (by decide +kernel) rfl rfl (by decide +kernel) ?_
    refine he_iload (n := 17) (i := 1) (by decide +kernel) rfl ?_
    refine he_iload (n := 19) (i := 4) (by decide +kernel) rfl ?_
    refine he_iadd (n := 20) (by decide +kernel) (by omega) (by omega) ?_
    intro v19 hv19
    refine hb_ld (n := 21) (kind := 64) hm (by decide +kernel) rfl rfl (.inl rfl) (by omega) (show _ < (240 : Int) by omega) hb_at1 ?_
    intro v20 hv20 lv20 uv20
    refine he_iconst (n := 23) (c := 8) (by decide +kernel) (by decide) ?_
    intro c21 hc21
    refine he_iload (n := 25) (i := 4) (by decide +kernel) rfl ?_
    refine he_imul (n := 26) (p := 8 * i.toInt) (by decide +kernel) (by rw [hc21]) (by omega) (by omega) ?_
    intro v25 hv25
    refine he_ex2 (o := 15) (n := 27) (by decide +kernel) rfl ?_
    intro v26 hv26
    have ev26 : v26 = v20 <<< (v25 &&& 31) := hv26
    have bv26 := mz_i32 v26
    refine he_ex2 (o := 13) (n := 28) (by decide +kernel) rfl ?_
    intro v27 hv27
    have ev27 : v27 = v ||| v26 := hv27
    have bv27 := mz_i32 v27
    refine he_istore (n := 29) (i := 3) (by decide +kernel) rfl ?_
    refine he_iinc (n := 32) (i := 4) (c := 1) (L' := fun v => [some (.ref (58)), some (.int x1), some (.int x2), some (.int v27), some (.int v)]) (by decide +kernel) (by decide) rfl (fun _ => rfl) (by omega) (by omega) ?_
    intro i29 hi29
    refine he_goto (t := 5) (by decide +kernel) ?_
    have q20 : hv M 59 (a + j) = v20.toInt := by rw [← hv20, show v19.toInt.toNat = a + j by omega]
    have hlt : mz_un v < 2 ^ (8 * j) := by
      rw [e3]
      exact xnN_lt j (fun t ht => (xx_rng (c := _) hm (a := 59) (i := a + t) (lo := 0) (hi := 255) rfl (show a + t < 240 by omega) hb_at1).2)
    refine ih (j + 1) _ _ (by omega) (by omega) ?_
    rw [ev27, ev26, xo_or (k := 8 * j) (by omega) hlt (by omega) (by omega) (by omega), e3, ← q20]
    rfl
theorem xo_num58 {d z u n a : Nat} {M : Nat → mq_C} {Q : (Option Value ⊕ Nat) → mq_S → Prop} {x1 x2 : Int32} (hm : mz_sh mz_GG M) (h1 : x1.toInt = (a : Int)) (h2 : x2.toInt = (n : Int)) (hn : n ≤ 4) (ha : a + n ≤ 240) (K : ∀ r : Int32, r.toInt = xs32 (xnN (hv M 59) a n) → Q (.inl (some (.int r))) (M, z, u)) : mq_R mq_PP d 56 0 [some (.ref 58), some (.int x1), some (.int x2), none, none] [] (M, z, u) Q := by
  refine he_iconst (n := 1) (c := 0) (by decide +kernel) (by decide) ?_
  intro c0 hc0
  refine he_istore (n := 2) (i := 3) (by decide +kernel) rfl ?_
  refine he_iconst (n := 3) (c := 0) (by decide +kernel) (by decide) ?_
  intro c2 hc2
  refine he_istore (n := 5) (i := 4) (by decide +kernel) rfl ?_
  refine xo_num58_l hm h1 h2 hn ha K n 0 _ _ (by omega) (by omega) ?_
  have h9 := mz_un_p (x := c0) (by omega)
  show mz_un c0 = 0
  omega
theorem xo_rn58_l {d z u n : Nat} {M : Nat → mq_C} {Q : (Option Value ⊕ Nat) → mq_S → Prop} {x1 : Int32} (hm : mz_sh mz_GG M) (hn : hv M 58 4 = (n : Int)) (K : ∀ r : Int32, xfs (hv M 63) n x1.toInt r.toInt → Q (.inl (some (.int r))) (M, z, u)) : ∀ (m j : Nat) (i : Int32), j + m = n → i.toInt = (j : Int) → (∀ t, t < j → ¬ hv M 63 t = x1.toInt) → mq_R mq_PP d 51 2 [some (.ref 58), some (.int x1), some (.int i)] [] (M, z, u) Q := by
  intro m
  induction m with
  | zero =>
    intro j i e1 e2 e3
    refine he_iload (n := 3) (i := 2) (by decide +kernel) rfl ?_
    refine he_aload (n := 4) (i := 0) (by decide +kernel) rfl ?_
    refine hb_gfd (n := 7) (ci := 1) (j := 4) (ns := [1224, 30]) hm (by decide +kernel) rfl rfl (by decide) rfl ?_
    intro v4 hv4 lv4 uv4
    refine he_cmpge_t (n := 10) (t := 28) (by decide +kernel) (by omega) ?_
    refine he_iconst (n := 29) (c := -1) (by decide +kernel) (by decide) ?_
    intro c28 hc28
    refine he_reti (by decide +kernel) ?_
    exact K _ (.inr ⟨by omega, fun t ht => e3 t (by omega)⟩)
  | succ m ih =>
    intro j i e1 e2 e3
    refine he_iload (n := 3) (i := 2) (by decide +kernel) rfl ?_
    refine he_aload (n := 4) (i := 0) (by decide +kernel) rfl ?_
    refine hb_gfd (n := 7) (ci := 1) (j := 4) (ns := [1224, 30]) hm (by decide +kernel) rfl rfl (by decide) rfl ?_
    intro v4 hv4 lv4 uv4
    refine he_cmpge_f (n := 10) (t := 28) (by decide +kernel) (by omega) ?_
    refine he_aload (n := 11) (i := 0) (by decide +kernel) rfl ?_
    refine he_getr (n := 14) (ci := 1) (j := 5) (ns := [1225, 33]) (b := 63) hm (by decide +kernel) rfl rfl (by decide +kernel) ?_
    refine he_iload (n := 15) (i := 2) (by decide +kernel) rfl ?_
    refine hb_ld (n := 16) (kind := 64) hm (by decide +kernel) rfl rfl (.inl rfl) (by omega) (show _ < (6 : Int) by omega) hb_at1 ?_
    intro v15 hv15 lv15 uv15
    refine he_iload (n := 17) (i := 1) (by decide +kernel) rfl ?_
    have q15 : hv M 63 j = v15.toInt := by rw [← hv15, show i.toInt.toNat = j by omega]
    by_cases hc : v15.toInt = x1.toInt
    · skip
      refine he_cmpne_f (n := 20) (t := 22) (by decide +kernel) (by omega) ?_
      refine he_iload (n := 21) (i := 2) (by decide +kernel) rfl ?_
      refine he_reti (by decide +kernel) ?_
      exact K _ (.inl ⟨j, by omega, e2, by rw [q15]; exact hc, e3⟩)
    · skip
      refine he_cmpne_t (n := 20) (t := 22) (by decide +kernel) (by omega) ?_
      refine he_iinc (n := 25) (i := 2) (c := 1) (L' := fun v => [some (.ref (58)), some (.int x1), some (.int v)]) (by decide +kernel) (by decide) rfl (fun _ => rfl) (by omega) (by omega) ?_
      intro i22 hi22
      refine he_goto (t := 2) (by decide +kernel) ?_
      refine ih (j + 1) _ (by omega) (by omega) (fun t ht => ?_)
      by_cases e : t = j
      · rw [e, q15]
        exact hc
      · exact e3 t (by omega)
theorem xo_rn58 {d z u n : Nat} {M : Nat → mq_C} {Q : (Option Value ⊕ Nat) → mq_S → Prop} {x1 : Int32} (hm : mz_sh mz_GG M) (hn : hv M 58 4 = (n : Int)) (K : ∀ r : Int32, xfs (hv M 63) n x1.toInt r.toInt → Q (.inl (some (.int r))) (M, z, u)) : mq_R mq_PP d 51 0 [some (.ref 58), some (.int x1), none] [] (M, z, u) Q := by
  refine he_iconst (n := 1) (c := 0) (by decide +kernel) (by decide) ?_
  intro c0 hc0
  refine he_istore (n := 2) (i := 2) (by decide +kernel) rfl ?_
  exact xo_rn58_l hm hn K n 0 _ (by omega) (by omega) (fun t ht => absurd ht (Nat.not_lt_zero t))
theorem xo_num69_l {d z u n a : Nat} {M : Nat → mq_C} {Q : (Option Value ⊕ Nat) → mq_S → Prop} {x1 x2 : Int32} (hm : mz_sh mz_GG M) (h1 : x1.toInt = (a : Int)) (h2 : x2.toInt = (n : Int)) (hn : n ≤ 4) (ha : a + n ≤ 240) (K : ∀ r : Int32, r.toInt = xs32 (xnN (hv M 70) a n) → Q (.inl (some (.int r))) (M, z, u)) : ∀ (m j : Nat) (v i : Int32), j + m = n → i.toInt = (j : Int) → mz_un v = xnN (hv M 70) a j → mq_R mq_PP d 56 5 [some (.ref 69), some (.int x1), some (.int x2), some (.int v), some (.int i)] [] (M, z, u) Q := by
  intro m
  induction m with
  | zero =>
    intro j v i e1 e2 e3
    refine he_iload (n := 7) (i := 4) (by decide +kernel) rfl ?_
    refine he_iload (n := 8) (i := 2) (by decide +kernel) rfl ?_
    refine he_cmpge_t (n := 11) (t := 35) (by decide +kernel) (by omega) ?_
    refine he_iload (n := 36) (i := 3) (by decide +kernel) rfl ?_
    refine he_reti (by decide +kernel) ?_
    obtain rfl : j = n := by omega
    refine K v ?_
    rw [← e3]
    exact mz_un_ti
  | succ m ih =>
    intro j v i e1 e2 e3
    refine he_iload (n := 7) (i := 4) (by decide +kernel) rfl ?_
    refine he_iload (n := 8) (i := 2) (by decide +kernel) rfl ?_
    refine he_cmpge_f (n := 11) (t := 35) (by decide +kernel) (by omega) ?_
    refine he_iload (n := 12) (i := 3) (by decide +kernel) rfl ?_
    refine he_aload (n := 13) (i := 0) (by decide +kernel) rfl ?_
    refine he_getr (n := 16) (ci := 1) (j := 0) (ns := [1214, 9]) (b := 70) hm (by decide +kernel) rfl rfl (by decide +kernel) ?_
    refine he_iload (n := 17) (i := 1) (by decide +kernel) rfl ?_
    refine he_iload (n := 19) (i := 4) (by decide +kernel) rfl ?_
    refine he_iadd (n := 20) (by decide +kernel) (by omega) (by omega) ?_
    intro v19 hv19
    refine hb_ld (n := 21) (kind := 64) hm (by decide +kernel) rfl rfl (.inl rfl) (by omega) (show _ < (240 : Int) by omega) hb_at1 ?_
    intro v20 hv20 lv20 uv20
    refine he_iconst (n := 23) (c := 8) (by decide +kernel) (by decide) ?_
    intro c21 hc21
    refine he_iload (n := 25) (i := 4) (by decide +kernel) rfl ?_
    refine he_imul (n := 26) (p := 8 * i.toInt) (by decide +kernel) (by rw [hc21]) (by omega) (by omega) ?_
    intro v25 hv25
    refine he_ex2 (o := 15) (n := 27) (by decide +kernel) rfl ?_
    intro v26 hv26
    have ev26 : v26 = v20 <<< (v25 &&& 31) := hv26
    have bv26 := mz_i32 v26
    refine he_ex2 (o := 13) (n := 28) (by decide +kernel) rfl ?_
    intro v27 hv27
    have ev27 : v27 = v ||| v26 := hv27
    have bv27 := mz_i32 v27
    refine he_istore (n := 29) (i := 3) (by decide +kernel) rfl ?_
    refine he_iinc (n := 32) (i := 4) (c := 1) (L' := fun v => [some (.ref (69)), some (.int x1), some (.int x2), some (.int v27), some (.int v)]) (by decide +kernel) (by decide) rfl (fun _ => rfl) (by omega) (by omega) ?_
    intro i29 hi29
    refine he_goto (t := 5) (by decide +kernel) ?_
    have q20 : hv M 70 (a + j) = v20.toInt := by rw [← hv20, show v19.toInt.toNat = a + j by omega]
    have hlt : mz_un v < 2 ^ (8 * j) := by
      rw [e3]
      exact xnN_lt j (fun t ht => (xx_rng (c := _) hm (a := 70) (i := a + t) (lo := 0) (hi := 255) rfl (show a + t < 240 by omega) hb_at1).2)
    refine ih (j + 1) _ _ (by omega) (by omega) ?_
    rw [ev27, ev26, xo_or (k := 8 * j) (by omega) hlt (by omega) (by omega) (by omega), e3, ← q20]
    rfl
theorem xo_num69 {d z u n a : Nat} {M : Nat → mq_C} {Q : (Option Value ⊕ Nat) → mq_S → Prop} {x1 x2 : Int32} (hm : mz_sh mz_GG M) (h1 : x1.toInt = (a : Int)) (h2 : x2.toInt = (n : Int)) (hn : n ≤ 4) (ha : a + n ≤ 240) (K : ∀ r : Int32, r.toInt = xs32 (xnN (hv M 70) a n) → Q (.inl (some (.int r))) (M, z, u)) : mq_R mq_PP d 56 0 [some (.ref 69), some (.int x1), some (.int x2), none, none] [] (M, z, u) Q := by
  refine he_iconst (n := 1) (c := 0) (by decide +kernel) (by decide) ?_
  intro c0 hc0
  refine he_istore (n := 2) (i := 3) (by decide +kernel) rfl ?_
  refine he_iconst (n := 3) (c := 0) (by decide +kernel) (by decide) ?_
  intro c2 hc2
  refine he_istore (n := 5) (i := 4) (by decide +kernel) rfl ?_
  refine xo_num69_l hm h1 h2 hn ha K n 0 _ _ (by omega) (by omega) ?_
  have h9 := mz_un_p (x := c0) (by omega)
  show mz_un c0 = 0
  omega
theorem xo_rn69_l {d z u n : Nat} {M : Nat → mq_C} {Q : (Option Value ⊕ Nat) → mq_S → Prop} {x1 : Int32} (hm : mz_sh mz_GG M) (hn : hv M 69 4 = (n : Int)) (K : ∀ r : Int32, xfs (hv M 74) n x1.toInt r.toInt → Q (.inl (some (.int r))) (M, z, u)) : ∀ (m j : Nat) (i : Int32), j + m = n → i.toInt = (j : Int) → (∀ t, t < j → ¬ hv M 74 t = x1.toInt) → mq_R mq_PP d 51 2 [some (.ref 69), some (.int x1), some (.int i)] [] (M, z, u) Q := by
  intro m
  induction m with
  | zero =>
    intro j i e1 e2 e3
    refine he_iload (n := 3) (i := 2) (by decide +kernel) rfl ?_
    refine he_aload (n := 4) (i := 0) (by decide +kernel) rfl ?_
    refine hb_gfd (n := 7) (ci := 1) (j := 4) (ns := [1224, 30]) hm (by decide +kernel) rfl rfl (by decide) rfl ?_
    intro v4 hv4 lv4 uv4
    refine he_cmpge_t (n := 10) (t := 28) (by decide +kernel) (by omega) ?_
    refine he_iconst (n := 29) (c := -1) (by decide +kernel) (by decide) ?_
    intro c28 hc28
    refine he_reti (by decide +kernel) ?_
    exact K _ (.inr ⟨by omega, fun t ht => e3 t (by omega)⟩)
  | succ m ih =>
    intro j i e1 e2 e3
    refine he_iload (n := 3) (i := 2) (by decide +kernel) rfl ?_
    refine he_aload (n := 4) (i := 0) (by decide +kernel) rfl ?_
    refine hb_gfd (n := 7) (ci := 1) (j := 4) (ns := [1224, 30]) hm (by decide +kernel) rfl rfl (by decide) rfl ?_
    intro v4 hv4 lv4 uv4
    refine he_cmpge_f (n := 10) (t := 28) (by decide +kernel) (by omega) ?_
    refine he_aload (n := 11) (i := 0) (by decide +kernel) rfl ?_
    refine he_getr (n := 14) (ci := 1) (j := 5) (ns := [1225, 33]) (b := 74) hm (by decide +kernel) rfl rfl (by decide +kernel) ?_
    refine he_iload (n := 15) (i := 2) (by decide +kernel) rfl ?_
    refine hb_ld (n := 16) (kind := 64) hm (by decide +kernel) rfl rfl (.inl rfl) (by omega) (show _ < (6 : Int) by omega) hb_at1 ?_
    intro v15 hv15 lv15 uv15
    refine he_iload (n := 17) (i := 1) (by decide +kernel) rfl ?_
    have q15 : hv M 74 j = v15.toInt := by rw [← hv15, show i.toInt.toNat = j by omega]
    by_cases hc : v15.toInt = x1.toInt
    · skip
      refine he_cmpne_f (n := 20) (t := 22) (by decide +kernel) (by omega) ?_
      refine he_iload (n := 21) (i := 2) (by decide +kernel) rfl ?_
      refine he_reti (by decide +kernel) ?_
      exact K _ (.inl ⟨j, by omega, e2, by rw [q15]; exact hc, e3⟩)
    · skip
      refine he_cmpne_t (n := 20) (t := 22) (by decide +kernel) (by omega) ?_
      refine he_iinc (n := 25) (i := 2) (c := 1) (L' := fun v => [some (.ref (69)), some (.int x1), some (.int v)]) (by decide +kernel) (by decide) rfl (fun _ => rfl) (by omega) (by omega) ?_
      intro i22 hi22
      refine he_goto (t := 2) (by decide +kernel) ?_
      refine ih (j + 1) _ (by omega) (by omega) (fun t ht => ?_)
      by_cases e : t = j
      · rw [e, q15]
        exact hc
      · exact e3 t (by omega)
theorem xo_rn69 {d z u n : Nat} {M : Nat → mq_C} {Q : (Option Value ⊕ Nat) → mq_S → Prop} {x1 : Int32} (hm : mz_sh mz_GG M) (hn : hv M 69 4 = (n : Int)) (K : ∀ r : Int32, xfs (hv M 74) n x1.toInt r.toInt → Q (.inl (some (.int r))) (M, z, u)) : mq_R mq_PP d 51 0 [some (.ref 69), some (.int x1), none] [] (M, z, u) Q := by
  refine he_iconst (n := 1) (c := 0) (by decide +kernel) (by decide) ?_
  intro c0 hc0
  refine he_istore (n := 2) (i := 2) (by decide +kernel) rfl ?_
  exact xo_rn69_l hm hn K n 0 _ (by omega) (by omega) (fun t ht => absurd ht (Nat.not_lt_zero t))
theorem xo_num80_l {d z u n a : Nat} {M : Nat → mq_C} {Q : (Option Value ⊕ Nat) → mq_S → Prop} {x1 x2 : Int32} (hm : mz_sh mz_GG M) (h1 : x1.toInt = (a : Int)) (h2 : x2.toInt = (n : Int)) (hn : n ≤ 4) (ha : a + n ≤ 240) (K : ∀ r : Int32, r.toInt = xs32 (xnN (hv M 81) a n) → Q (.inl (some (.int r))) (M, z, u)) : ∀ (m j : Nat) (v i : Int32), j + m = n → i.toInt = (j : Int) → mz_un v = xnN (hv M 81) a j → mq_R mq_PP d 56 5 [some (.ref 80), some (.int x1), some (.int x2), some (.int v), some (.int i)] [] (M, z, u) Q := by
  intro m
  induction m with
  | zero =>
    intro j v i e1 e2 e3
    refine he_iload (n := 7) (i := 4) (by decide +kernel) rfl ?_
    refine he_iload (n := 8) (i := 2) (by decide +kernel) rfl ?_
    refine he_cmpge_t (n := 11) (t := 35) (by decide +kernel) (by omega) ?_
    refine he_iload (n := 36) (i := 3) (by decide +kernel) rfl ?_
    refine he_reti (by decide +kernel) ?_
    obtain rfl : j = n := by omega
    refine K v ?_
    rw [← e3]
    exact mz_un_ti
  | succ m ih =>
    intro j v i e1 e2 e3
    refine he_iload (n := 7) (i := 4) (by decide +kernel) rfl ?_
    refine he_iload (n := 8) (i := 2) (by decide +kernel) rfl ?_
    refine he_cmpge_f (n := 11) (t := 35) (by decide +kernel) (by omega) ?_
    refine he_iload (n := 12) (i := 3) (by decide +kernel) rfl ?_
    refine he_aload (n := 13) (i := 0) (by decide +kernel) rfl ?_
    refine he_getr (n := 16) (ci := 1) (j := 0) (ns := [1214, 9]) (b := 81) hm (by decide +kernel) rfl rfl (by decide +kernel) ?_
    refine he_iload (n := 17) (i := 1) (by decide +kernel) rfl ?_
    refine he_iload (n := 19) (i := 4) (by decide +kernel) rfl ?_
    refine he_iadd (n := 20) (by decide +kernel) (by omega) (by omega) ?_
    intro v19 hv19
    refine hb_ld (n := 21) (kind := 64) hm (by decide +kernel) rfl rfl (.inl rfl) (by omega) (show _ < (240 : Int) by omega) hb_at1 ?_
    intro v20 hv20 lv20 uv20
    refine he_iconst (n := 23) (c := 8) (by decide +kernel) (by decide) ?_
    intro c21 hc21
    refine he_iload (n := 25) (i := 4) (by decide +kernel) rfl ?_
    refine he_imul (n := 26) (p := 8 * i.toInt) (by decide +kernel) (by rw [hc21]) (by omega) (by omega) ?_
    intro v25 hv25
    refine he_ex2 (o := 15) (n := 27) (by decide +kernel) rfl ?_
    intro v26 hv26
    have ev26 : v26 = v20 <<< (v25 &&& 31) := hv26
    have bv26 := mz_i32 v26
    refine he_ex2 (o := 13) (n := 28) (by decide +kernel) rfl ?_
    intro v27 hv27
    have ev27 : v27 = v ||| v26 := hv27
    have bv27 := mz_i32 v27
    refine he_istore (n := 29) (i := 3) (by decide +kernel) rfl ?_
    refine he_iinc (n := 32) (i := 4) (c := 1) (L' := fun v => [some (.ref (80)), some (.int x1), some (.int x2), some (.int v27), some (.int v)]) (by decide +kernel) (by decide) rfl (fun _ => rfl) (by omega) (by omega) ?_
    intro i29 hi29
    refine he_goto (t := 5) (by decide +kernel) ?_
    have q20 : hv M 81 (a + j) = v20.toInt := by rw [← hv20, show v19.toInt.toNat = a + j by omega]
    have hlt : mz_un v < 2 ^ (8 * j) := by
      rw [e3]
      exact xnN_lt j (fun t ht => (xx_rng (c := _) hm (a := 81) (i := a + t) (lo := 0) (hi := 255) rfl (show a + t < 240 by omega) hb_at1).2)
    refine ih (j + 1) _ _ (by omega) (by omega) ?_
    rw [ev27, ev26, xo_or (k := 8 * j) (by omega) hlt (by omega) (by omega) (by omega), e3, ← q20]
    rfl
theorem xo_num80 {d z u n a : Nat} {M : Nat → mq_C} {Q : (Option Value ⊕ Nat) → mq_S → Prop} {x1 x2 : Int32} (hm : mz_sh mz_GG M) (h1 : x1.toInt = (a : Int)) (h2 : x2.toInt = (n : Int)) (hn : n ≤ 4) (ha : a + n ≤ 240) (K : ∀ r : Int32, r.toInt = xs32 (xnN (hv M 81) a n) → Q (.inl (some (.int r))) (M, z, u)) : mq_R mq_PP d 56 0 [some (.ref 80), some (.int x1), some (.int x2), none, none] [] (M, z, u) Q := by
  refine he_iconst (n := 1) (c := 0) (by decide +kernel) (by decide) ?_
  intro c0 hc0
  refine he_istore (n := 2) (i := 3) (by decide +kernel) rfl ?_
  refine he_iconst (n := 3) (c := 0) (by decide +kernel) (by decide) ?_
  intro c2 hc2
  refine he_istore (n := 5) (i := 4) (by decide +kernel) rfl ?_
  refine xo_num80_l hm h1 h2 hn ha K n 0 _ _ (by omega) (by omega) ?_
  have h9 := mz_un_p (x := c0) (by omega)
  show mz_un c0 = 0
  omega
theorem xo_rn80_l {d z u n : Nat} {M : Nat → mq_C} {Q : (Option Value ⊕ Nat) → mq_S → Prop} {x1 : Int32} (hm : mz_sh mz_GG M) (hn : hv M 80 4 = (n : Int)) (K : ∀ r : Int32, xfs (hv M 85) n x1.toInt r.toInt → Q (.inl (some (.int r))) (M, z, u)) : ∀ (m j : Nat) (i : Int32), j + m = n → i.toInt = (j : Int) → (∀ t, t < j → ¬ hv M 85 t = x1.toInt) → mq_R mq_PP d 51 2 [some (.ref 80), some (.int x1), some (.int i)] [] (M, z, u) Q := by
  intro m
  induction m with
  | zero =>
    intro j i e1 e2 e3
    refine he_iload (n := 3) (i := 2) (by decide +kernel) rfl ?_
    refine he_aload (n := 4) (i := 0) (by decide +kernel) rfl ?_
    refine hb_gfd (n := 7) (ci := 1) (j := 4) (ns := [1224, 30]) hm (by decide +kernel) rfl rfl (by decide) rfl ?_
    intro v4 hv4 lv4 uv4
    refine he_cmpge_t (n := 10) (t := 28) (by decide +kernel) (by omega) ?_
    refine he_iconst (n := 29) (c := -1) (by decide +kernel) (by decide) ?_
    intro c28 hc28
    refine he_reti (by decide +kernel) ?_
    exact K _ (.inr ⟨by omega, fun t ht => e3 t (by omega)⟩)
  | succ m ih =>
    intro j i e1 e2 e3
    refine he_iload (n := 3) (i := 2) (by decide +kernel) rfl ?_
    refine he_aload (n := 4) (i := 0) (by decide +kernel) rfl ?_
    refine hb_gfd (n := 7) (ci := 1) (j := 4) (ns := [1224, 30]) hm (by decide +kernel) rfl rfl (by decide) rfl ?_
    intro v4 hv4 lv4 uv4
    refine he_cmpge_f (n := 10) (t := 28) (by decide +kernel) (by omega) ?_
    refine he_aload (n := 11) (i := 0) (by decide +kernel) rfl ?_
    refine he_getr (n := 14) (ci := 1) (j := 5) (ns := [1225, 33]) (b := 85) hm (by decide +kernel) rfl rfl (by decide +kernel) ?_
    refine he_iload (n := 15) (i := 2) (by decide +kernel) rfl ?_
    refine hb_ld (n := 16) (kind := 64) hm (by decide +kernel) rfl rfl (.inl rfl) (by omega) (show _ < (6 : Int) by omega) hb_at1 ?_
    intro v15 hv15 lv15 uv15
    refine he_iload (n := 17) (i := 1) (by decide +kernel) rfl ?_
    have q15 : hv M 85 j = v15.toInt := by rw [← hv15, show i.toInt.toNat = j by omega]
    by_cases hc : v15.toInt = x1.toInt
    · skip
      refine he_cmpne_f (n := 20) (t := 22) (by decide +kernel) (by omega) ?_
      refine he_iload (n := 21) (i := 2) (by decide +kernel) rfl ?_
      refine he_reti (by decide +kernel) ?_
      exact K _ (.inl ⟨j, by omega, e2, by rw [q15]; exact hc, e3⟩)
    · skip
      refine he_cmpne_t (n := 20) (t := 22) (by decide +kernel) (by omega) ?_
      refine he_iinc (n := 25) (i := 2) (c := 1) (L' := fun v => [some (.ref (80)), some (.int x1), some (.int v)]) (by decide +kernel) (by decide) rfl (fun _ => rfl) (by omega) (by omega) ?_
      intro i22 hi22
      refine he_goto (t := 2) (by decide +kernel) ?_
      refine ih (j + 1) _ (by omega) (by omega) (fun t ht => ?_)
      by_cases e : t = j
      · rw [e, q15]
        exact hc
      · exact e3 t (by omega)
theorem xo_rn80 {d z u n : Nat} {M : Nat → mq_C} {Q : (Option Value ⊕ Nat) → mq_S → Prop} {x1 : Int32} (hm : mz_sh mz_GG M) (hn : hv M 80 4 = (n : Int)) (K : ∀ r : Int32, xfs (hv M 85) n x1.toInt r.toInt → Q (.inl (some (.int r))) (M, z, u)) : mq_R mq_PP d 51 0 [some (.ref 80), some (.int x1), none] [] (M, z, u) Q := by
  refine he_iconst (n := 1) (c := 0) (by decide +kernel) (by decide) ?_
  intro c0 hc0
  refine he_istore (n := 2) (i := 2) (by decide +kernel) rfl ?_
  exact xo_rn80_l hm hn K n 0 _ (by omega) (by omega) (fun t ht => absurd ht (Nat.not_lt_zero t))
