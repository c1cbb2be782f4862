/-! The class's unpacker: fill, isFull, isNoneOrOneOfOneBit. -/
theorem xj_fill_l {d z u fr be : Nat} {Mb : Nat → mq_C} {Q : (Option Value ⊕ Nat) → mq_S → Prop} {x1 x2 x3 : Int32} (h2 : x2.toInt = (be : Int)) (hb : be ≤ 316) (h3 : 0 ≤ x3.toInt ∧ x3.toInt ≤ 15)
    (K : ∀ M' : Nat → mq_C, mz_sh mz_GG M' → (∀ b, b ≠ 11 → M' b = Mb b) → (∀ i, hv M' 11 i = if fr ≤ i ∧ i < be then x3.toInt else hv Mb 11 i) → Q (.inl none) (M', z, u)) : ∀ (m j : Nat) (M : Nat → mq_C) (i4 : Int32), j + m = be → fr ≤ j → i4.toInt = (j : Int) → mz_sh mz_GG M → (∀ b, b ≠ 11 → M b = Mb b) → (∀ i, hv M 11 i = if fr ≤ i ∧ i < j then x3.toInt else hv Mb 11 i) → mq_R mq_PP d 91 3 [some (.ref 11), some (.int x1), some (.int x2), some (.int x3), some (.int i4)] [] (M, z, u) Q := by
  intro m
  induction m with
  | zero =>
    intro j M i4 e1 e0 e2 hm hF hx
    refine he_iload (n := 5) (i := 4) (by decide +kernel) rfl ?_
    refine he_iload (n := 6) (i := 2) (by decide +kernel) rfl ?_
    refine he_cmpge_t (n := 9) (t := 20) (by decide +kernel) (by omega) ?_
    refine he_ret (by decide +kernel) ?_
    obtain rfl : j = be := by omega
    exact K M hm hF hx
  | succ m ih =>
    intro j M i4 e1 e0 e2 hm hF hx
    refine he_iload (n := 5) (i := 4) (by decide +kernel) rfl ?_
    refine he_iload (n := 6) (i := 2) (by decide +kernel) rfl ?_
    refine he_cmpge_f (n := 9) (t := 20) (by decide +kernel) (by omega) ?_
    refine he_aload (n := 10) (i := 0) (by decide +kernel) rfl ?_
    refine he_iload (n := 12) (i := 4) (by decide +kernel) rfl ?_
    refine he_iload (n := 13) (i := 3) (by decide +kernel) rfl ?_
    refine hb_sta (n := 14) (kind := 64) hm (by decide +kernel) rfl rfl (.inl rfl) (by omega) (show _ < (316 : Int) by omega) ?_
    generalize hM1 : hb_set M 11 (i4.toInt.toNat) x3 = M1
    have hm1 : mz_sh mz_GG M1 := by rw [← hM1]; exact hb_set_sh hm rfl hb_at1 (by omega) (by omega)
    have eM1 : ∀ b j, b ≠ 11 ∨ j ≠ i4.toInt.toNat → hv M1 b j = hv M b j := by intro b j h; rw [← hM1]; exact hb_set_n h
    have sM1 : hv M1 11 (i4.toInt.toNat) = x3.toInt := by rw [← hM1]; exact hb_set_v hm rfl (show _ < 316 by omega)
    have wM1 : ∀ b, b ≠ 11 → M1 b = M b := by intro b h; rw [← hM1]; exact hb_set_c h
    refine he_iinc (n := 17) (i := 4) (c := 1) (L' := fun v => [some (.ref (11)), some (.int x1), some (.int x2), some (.int x3), some (.int v)]) (by decide +kernel) (by decide) rfl (fun _ => rfl) (by omega) (by omega) ?_
    intro i14 hi14
    refine he_goto (t := 3) (by decide +kernel) ?_
    refine ih (j + 1) M1 _ (by omega) (by omega) (by omega) hm1 (fun b hb => (wM1 b hb).trans (hF b hb)) (fun i => ?_)
    by_cases hij : i = j
    · rw [hij, show hv M1 11 j = x3.toInt by rw [show j = i4.toInt.toNat by omega]; exact sM1, if_pos ⟨by omega, by omega⟩]
    · rw [eM1 _ _ (.inr (by omega)), hx i]
      by_cases h : fr ≤ i ∧ i < j
      · rw [if_pos h, if_pos ⟨by omega, by omega⟩]
      · rw [if_neg h, if_neg (by omega)]
theorem xj_fill {d z u fr be : Nat} {M : Nat → mq_C} {Q : (Option Value ⊕ Nat) → mq_S → Prop} {x1 x2 x3 : Int32} (hm : mz_sh mz_GG M) (h1 : x1.toInt = (fr : Int)) (h2 : x2.toInt = (be : Int)) (hfb : fr ≤ be) (hb : be ≤ 316) (h3 : 0 ≤ x3.toInt ∧ x3.toInt ≤ 15)
    (K : ∀ M' : Nat → mq_C, mz_sh mz_GG M' → (∀ b, b ≠ 11 → M' b = M b) → (∀ i, hv M' 11 i = if fr ≤ i ∧ i < be then x3.toInt else hv M 11 i) → Q (.inl none) (M', z, u)) : mq_R mq_PP d 91 0 [some (.ref 11), some (.int x1), some (.int x2), some (.int x3), none] [] (M, z, u) Q := by
  refine he_iload (n := 1) (i := 1) (by decide +kernel) rfl ?_
  refine he_istore (n := 3) (i := 4) (by decide +kernel) rfl ?_
  exact xj_fill_l h2 hb h3 K (be - fr) fr M _ (by omega) (Nat.le_refl _) h1 hm (fun _ _ => rfl) (fun i => by rw [if_neg (by omega)])
theorem xj_isFull12 {d z u : Nat} {M : Nat → mq_C} {Q : (Option Value ⊕ Nat) → mq_S → Prop} (hm : mz_sh mz_GG M) (K : ∀ r : Int32, (hv M 12 3 = 32768 → r.toInt = 1) → (¬ hv M 12 3 = 32768 → r.toInt = 0) → Q (.inl (some (.int r))) (M, z, u)) : mq_R mq_PP d 64 0 [some (.ref 12)] [] (M, z, u) Q := by
  refine he_aload (n := 1) (i := 0) (by decide +kernel) rfl ?_
  refine hb_gfd (n := 4) (ci := 3) (j := 3) (ns := [1047, 16]) hm (by decide +kernel) rfl rfl (by decide) rfl ?_
  intro v1 hv1 lv1 uv1
  refine he_iconst (n := 6) (c := 32768) (by decide +kernel) (by decide) ?_
  intro c4 hc4
  by_cases h6 : v1.toInt = 32768
  · skip
    refine he_cmpne_f (n := 9) (t := 13) (by decide +kernel) (by omega) ?_
    refine he_iconst (n := 10) (c := 1) (by decide +kernel) (by decide) ?_
    intro c9 hc9
    refine he_goto (t := 14) (by decide +kernel) ?_
    refine he_retz (by decide +kernel) (by omega) ?_
    exact K _ (fun _ => by omega) (fun h => by omega)
  · skip
    refine he_cmpne_t (n := 9) (t := 13) (by decide +kernel) (by omega) ?_
    refine he_iconst (n := 14) (c := 0) (by decide +kernel) (by decide) ?_
    intro c13 hc13
    refine he_retz (by decide +kernel) (by omega) ?_
    exact K _ (fun h => by omega) (fun _ => by omega)
theorem xj_isFull16 {d z u : Nat} {M : Nat → mq_C} {Q : (Option Value ⊕ Nat) → mq_S → Prop} (hm : mz_sh mz_GG M) (K : ∀ r : Int32, (hv M 16 3 = 32768 → r.toInt = 1) → (¬ hv M 16 3 = 32768 → r.toInt = 0) → Q (.inl (some (.int r))) (M, z, u)) : mq_R mq_PP d 64 0 [some (.ref 16)] [] (M, z, u) Q := by
  refine he_aload (n := 1) (i := 0) (by decide +kernel) rfl ?_
  refine hb_gfd (n := 4) (ci := 3) (j := 3) (ns := [1047, 16]) hm (by decide +kernel) rfl rfl (by decide) rfl ?_
  intro v1 hv1 lv1 uv1
  refine he_iconst (n := 6) (c := 32768) (by decide +kernel) (by decide) ?_
  intro c4 hc4
  by_cases h6 : v1.toInt = 32768
  · skip
    refine he_cmpne_f (n := 9) (t := 13) (by decide +kernel) (by omega) ?_
    refine he_iconst (n := 10) (c := 1) (by decide +kernel) (by decide) ?_
    intro c9 hc9
    refine he_goto (t := 14) (by decide +kernel) ?_
    refine he_retz (by decide +kernel) (by omega) ?_
    exact K _ (fun _ => by omega) (fun h => by omega)
  · skip
    refine he_cmpne_t (n := 9) (t := 13) (by decide +kernel) (by omega) ?_
    refine he_iconst (n := 14) (c := 0) (by decide +kernel) (by decide) ?_
    intro c13 hc13
    refine he_retz (by decide +kernel) (by omega) ?_
    exact K _ (fun h => by omega) (fun _ => by omega)
theorem xj_isFull20 {d z u : Nat} {M : Nat → mq_C} {Q : (Option Value ⊕ Nat) → mq_S → Prop} (hm : mz_sh mz_GG M) (K : ∀ r : Int32, (hv M 20 3 = 32768 → r.toInt = 1) → (¬ hv M 20 3 = 32768 → r.toInt = 0) → Q (.inl (some (.int r))) (M, z, u)) : mq_R mq_PP d 64 0 [some (.ref 20)] [] (M, z, u) Q := by
  refine he_aload (n := 1) (i := 0) (by decide +kernel) rfl ?_
  refine hb_gfd (n := 4) (ci := 3) (j := 3) (ns := [1047, 16]) hm (by decide +kernel) rfl rfl (by decide) rfl ?_
  intro v1 hv1 lv1 uv1
  refine he_iconst (n := 6) (c := 32768) (by decide +kernel) (by decide) ?_
  intro c4 hc4
  by_cases h6 : v1.toInt = 32768
  · skip
    refine he_cmpne_f (n := 9) (t := 13) (by decide +kernel) (by omega) ?_
    refine he_iconst (n := 10) (c := 1) (by decide +kernel) (by decide) ?_
    intro c9 hc9
    refine he_goto (t := 14) (by decide +kernel) ?_
    refine he_retz (by decide +kernel) (by omega) ?_
    exact K _ (fun _ => by omega) (fun h => by omega)
  · skip
    refine he_cmpne_t (n := 9) (t := 13) (by decide +kernel) (by omega) ?_
    refine he_iconst (n := 14) (c := 0) (by decide +kernel) (by decide) ?_
    intro c13 hc13
    refine he_retz (by decide +kernel) (by omega) ?_
    exact K _ (fun h => by omega) (fun _ => by omega)
theorem xj_isNone {d z u : Nat} {M : Nat → mq_C} {Q : (Option Value ⊕ Nat) → mq_S → Prop} (hm : mz_sh mz_GG M) (K : ∀ r : Int32, ((hv M 20 3 = 0 ∨ hv M 20 3 = 16384 ∧ hv M 21 1 = 1) → r.toInt = 1) → (¬ (hv M 20 3 = 0 ∨ hv M 20 3 = 16384 ∧ hv M 21 1 = 1) → r.toInt = 0) → Q (.inl (some (.int r))) (M, z, u)) : mq_R mq_PP d 65 0 [some (.ref 20)] [] (M, z, u) Q := by
  refine he_aload (n := 1) (i := 0) (by decide +kernel) rfl ?_
  refine hb_gfd (n := 4) (ci := 3) (j := 3) (ns := [1047, 16]) hm (by decide +kernel) rfl rfl (by decide) rfl ?_
  intro v1 hv1 lv1 uv1
  by_cases h4 : v1.toInt = 0
  · skip
    refine he_ifeq_t (n := 7) (t := 27) (by decide +kernel) (by omega) ?_
    refine he_iconst (n := 28) (c := 1) (by decide +kernel) (by decide) ?_
    intro c27 hc27
    refine he_goto (t := 32) (by decide +kernel) ?_
    refine he_retz (by decide +kernel) (by omega) ?_
    exact K _ (fun _ => by omega) (fun h => by omega)
  · skip
    refine he_ifeq_f (n := 7) (t := 27) (by decide +kernel) (by omega) ?_
    refine he_aload (n := 8) (i := 0) (by decide +kernel) rfl ?_
    refine hb_gfd (n := 11) (ci := 3) (j := 3) (ns := [1047, 16]) hm (by decide +kernel) rfl rfl (by decide) rfl ?_
    intro v8 hv8 lv8 uv8
    refine he_iconst (n := 14) (c := 16384) (by decide +kernel) (by decide) ?_
    intro c11 hc11
    by_cases h14 : v8.toInt = 16384
    · skip
      refine he_cmpne_f (n := 17) (t := 31) (by decide +kernel) (by omega) ?_
      refine he_aload (n := 18) (i := 0) (by decide +kernel) rfl ?_
      refine he_getr (n := 21) (ci := 3) (j := 0) (ns := [1042, 9]) (b := 21) hm (by decide +kernel) rfl rfl (by decide +kernel) ?_
      refine he_iconst (n := 22) (c := 1) (by decide +kernel) (by decide) ?_
      intro c21 hc21
      refine hb_ld (n := 23) (kind := 64) hm (by decide +kernel) rfl rfl (.inl rfl) (by omega) (show _ < (16 : Int) by omega) hb_at1 ?_
      intro v22 hv22 lv22 uv22
      refine he_iconst (n := 24) (c := 1) (by decide +kernel) (by decide) ?_
      intro c23 hc23
      have e22 : hv M 21 1 = v22.toInt := by rw [← hv22, show c21.toInt.toNat = 1 by omega]
      by_cases h24 : v22.toInt = 1
      · skip
        refine he_cmpne_f (n := 27) (t := 31) (by decide +kernel) (by omega) ?_
        refine he_iconst (n := 28) (c := 1) (by decide +kernel) (by decide) ?_
        intro c27 hc27
        refine he_goto (t := 32) (by decide +kernel) ?_
        refine he_retz (by decide +kernel) (by omega) ?_
        exact K _ (fun _ => by omega) (fun h => by omega)
      · skip
        refine he_cmpne_t (n := 27) (t := 31) (by decide +kernel) (by omega) ?_
        refine he_iconst (n := 32) (c := 0) (by decide +kernel) (by decide) ?_
        intro c31 hc31
        refine he_retz (by decide +kernel) (by omega) ?_
        exact K _ (fun h => by omega) (fun _ => by omega)
    · skip
      refine he_cmpne_t (n := 17) (t := 31) (by decide +kernel) (by omega) ?_
      refine he_iconst (n := 32) (c := 0) (by decide +kernel) (by decide) ?_
      intro c31 hc31
      refine he_retz (by decide +kernel) (by omega) ?_
      exact K _ (fun h => by omega) (fun _ => by omega)
