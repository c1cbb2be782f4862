/-! nameSize answers as nameLength does. -/
theorem mq_c124_dead {d : Nat} {S : mq_S} {Q : (Option Value ⊕ Nat) → mq_S → Prop} {x0 : Int32} (hQ : Q (.inl (some (.int 0))) S) : ∀ (k : Nat) (x n : Int32), mq_un x < 256 ^ k → mq_un x < 2147483648 → mq_R mq_PP d 124 14 [some (.int x0), some (.int n), some (.int 0), some (.int x)] [] S Q := by
  intro k
  induction k with
  | zero =>
    intro x n h1 h2
    have hx : x = 0 := mq_un0.mpr (by rw [Nat.pow_zero] at h1; omega)
    refine mq_c124_turn (.inl rfl) h2 (fun p => ?_) (fun p => absurd hx p)
    rw [if_pos rfl]; exact hQ
  | succ k ih =>
    intro x n h1 h2
    refine mq_c124_turn (.inl rfl) h2 (fun p => ?_) (fun p => ?_)
    · rw [if_pos rfl]; exact hQ
    · rw [if_neg (fun h => absurd h.1 (by decide))]
      refine ih _ _ ?_ ?_
      · rw [mq_us_un]; apply Nat.div_lt_of_lt_mul; rw [Nat.mul_comm, ← Nat.pow_succ]; exact h1
      · rw [mq_us_un]; omega
theorem mq_nm_cases (x : Int32) : mq_nm x = 0 ∨ mq_nm x = 1 ∨ mq_nm x = 2 ∨ mq_nm x = 3 ∨ mq_nm x = 4 := by
  unfold mq_nm
  split
  · exact .inl rfl
  · split
    · exact .inl rfl
    · split
      · exact .inr (.inl rfl)
      · split
        · exact .inl rfl
        · split
          · exact .inr (.inr (.inl rfl))
          · split
            · exact .inl rfl
            · split
              · exact .inr (.inr (.inr (.inl rfl)))
              · split
                · exact .inl rfl
                · exact .inr (.inr (.inr (.inr rfl)))
set_option maxHeartbeats 4000000 in
theorem mq_c124 {d : Nat} {S : mq_S} {Q : (Option Value ⊕ Nat) → mq_S → Prop} {x : Int32} (hQ : Q (.inl (some (.int (mq_nm x)))) S) : mq_R mq_PP d 124 0 [some (.int x), none, none, none] [] S Q := by
  by_cases hz : x ≤ 0
  · have e : mq_nm x = 0 := by
      by_cases h : 2147483648 ≤ mq_un x
      · exact mq_nm_neg h
      · have hx : x = 0 := by
          rw [Int32.le_iff_toInt_le, mq_un_ti (x := x), if_pos (by omega)] at hz
          have e0 : (0 : Int32).toInt = 0 := rfl
          rw [e0] at hz
          exact mq_un0.mpr (by omega)
        rw [hx]; rfl
    rw [e] at hQ
    simp (decide := true) only [q124_0, q124_1, q124_2, q124_3, q124_6, q124_7, q124_10, q124_11, q124_12, q124_13, q124_14, q124_15, q124_18, q124_19, q124_22, q124_23, q124_26, q124_27, q124_29, q124_32, q124_33, q124_36, q124_37, q124_39, q124_42, q124_43, q124_46, q124_47, q124_48, q124_51, q124_52, q124_54, q124_55, q124_59, q124_60, q124_63, q124_64, q124_67, q124_68, mq_x_iconst, mq_x_lconst, mq_x_iload0, mq_x_lload0, mq_x_aload0, mq_x_iload1, mq_x_lload1, mq_x_aload1, mq_x_iload2, mq_x_lload2, mq_x_aload2, mq_x_iload3, mq_x_lload3, mq_x_aload3, mq_x_iload4, mq_x_lload4, mq_x_aload4, mq_x_iload5, mq_x_lload5, mq_x_aload5, mq_x_iload6, mq_x_lload6, mq_x_aload6, mq_x_iload7, mq_x_lload7, mq_x_aload7, mq_x_iload8, mq_x_lload8, mq_x_aload8, mq_x_iload9, mq_x_lload9, mq_x_aload9, mq_x_iload10, mq_x_lload10, mq_x_aload10, mq_x_iload11, mq_x_lload11, mq_x_aload11, mq_x_iload12, mq_x_lload12, mq_x_aload12, mq_x_iload13, mq_x_lload13, mq_x_aload13, mq_x_iload14, mq_x_lload14, mq_x_aload14, mq_x_iload15, mq_x_lload15, mq_x_aload15, mq_x_istore0, mq_x_astore0, mq_x_iinc0, mq_x_istore1, mq_x_astore1, mq_x_iinc1, mq_x_istore2, mq_x_astore2, mq_x_iinc2, mq_x_istore3, mq_x_astore3, mq_x_iinc3, mq_x_istore4, mq_x_astore4, mq_x_iinc4, mq_x_istore5, mq_x_astore5, mq_x_iinc5, mq_x_istore6, mq_x_astore6, mq_x_iinc6, mq_x_istore7, mq_x_astore7, mq_x_iinc7, mq_x_istore8, mq_x_astore8, mq_x_iinc8, mq_x_istore9, mq_x_astore9, mq_x_iinc9, mq_x_istore10, mq_x_astore10, mq_x_iinc10, mq_x_istore11, mq_x_astore11, mq_x_iinc11, mq_x_istore12, mq_x_astore12, mq_x_iinc12, mq_x_istore13, mq_x_astore13, mq_x_iinc13, mq_x_istore14, mq_x_astore14, mq_x_iinc14, mq_x_istore15, mq_x_astore15, mq_x_iinc15, mq_x_iadd, mq_x_isub, mq_x_imul, mq_x_iand, mq_x_ior, mq_x_ixor, mq_x_ishl, mq_x_ishr, mq_x_iushr, mq_x_idiv, mq_x_irem, mq_x_ineg, mq_x_ladd, mq_x_lsub, mq_x_lmul, mq_x_land, mq_x_lor, mq_x_lxor, mq_x_lshl, mq_x_lshr, mq_x_lushr, mq_x_lcmp, mq_x_i2l, mq_x_l2i, mq_x_dup_int, mq_x_pop_int, mq_x_dup_x1_int_int, mq_x_dup2_int_int, mq_x_dup_x1_int_ref, mq_x_dup2_int_ref, mq_x_dup_ref, mq_x_pop_ref, mq_x_dup_x1_ref_int, mq_x_dup2_ref_int, mq_x_dup_x1_ref_ref, mq_x_dup2_ref_ref, mq_x_dup_x2, mq_x_if_eq, mq_x_if_ne, mq_x_if_lt, mq_x_if_ge, mq_x_if_gt, mq_x_if_le, mq_x_icmp_eq, mq_x_icmp_ne, mq_x_icmp_lt, mq_x_icmp_ge, mq_x_icmp_gt, mq_x_icmp_le, mq_x_goto, mq_x_switch, mq_x_gets, mq_x_new, mq_x_newarr, mq_x_ret, mq_x_iret, mq_x_zret, mq_x_lret, mq_x_aret, mq_y_get, mq_y_put, mq_y_ald, mq_y_aldo, mq_y_ast, mq_y_alen, mq_y_s0, mq_y_v0, mq_y_s1, mq_y_v1, mq_y_s2, mq_y_v2, mq_y_s3, mq_y_v3, mq_y_s4, mq_y_v4, mq_y_s5, mq_y_v5, mq_y_s6, mq_y_v6, mq_y_throw, mq_y_afterx, mq_y_cths, mq_y_call, mq_y_after, mq_w0n, mq_w1n, mq_w1i, mq_w1r, mq_w2n, mq_w2i, mq_w2r, mq_w2l, mq_w3n, mq_w3i, mq_w3r, mq_w3l, mq_w4n, mq_w4i, mq_w4r, mq_w4l, mq_w5n, mq_w5i, mq_w5r, mq_w5l, mq_w6n, mq_w6i, mq_w6r, mq_w6l, mq_w7n, mq_w7i, mq_w7r, mq_w7l, mq_w8n, mq_w8i, mq_w8r, mq_w8l, mq_sp_nil, mq_sp_i, mq_sp_r, mq_sp_l, mq_up_s, mq_up_n, mq_up_u, mq_fiti, mq_fitr, mq_fitl, mq_fitb0, mq_fitb1, mq_nln, mq_nli, mq_nlr, mq_nlu, mq_ak64, mq_ak65, mq_ak66, mq_ia64, mq_ia60, mq_ia65, mq_ia66, mq_fk64, mq_fk65, mq_fk66, mq_fk71, mq_fk72, mq_fk75, mq_ltc, mq_hd171, mq_hd172, mq_l64, List.length_cons, List.length_nil, List.getD_cons_zero, List.getD_cons_succ, List.set_cons_zero, List.set_cons_succ, List.length_set, Option.toList_some, Option.toList_none, List.cons_append, List.nil_append, ne_eq, not_false_eq_true, not_true_eq_false, Nat.zero_add, Nat.reduceAdd, Nat.reduceLeDiff, Nat.le_refl, Nat.reduceEqDiff, Nat.reduceLT, Int32.reduceLT, Int32.reduceLE, Int32.reduceOfInt, Int32.reduceAdd, Int32.reduceSub, Int32.reduceMul, Int32.reduceToNatClampNeg, Int32.reduceToInt, Nat.zero_lt_succ, if_true, if_false, true_and, and_true, forall_const, true_or, or_true, false_implies, true_implies, implies_true, not_true, and_self, imp_self, Int32.reduceOfNat, and_imp, Classical.not_not, mq_up_s, mq_ltc, hz, hQ]
  · have hx : mq_un x < 2147483648 := by
      have h9 : 0 ≤ x := by
        rw [Int32.le_iff_toInt_le] at hz ⊢
        omega
      exact mq_un_le.mp h9
    have n0 : ¬ x = 0 := fun h => hz (by rw [h]; decide)
    have hx1 : mq_un (mq_us x) < 2147483648 := by rw [mq_us_un]; omega
    have hx2 : mq_un (mq_us (mq_us x)) < 2147483648 := by rw [mq_us_un]; omega
    have hx3 : mq_un (mq_us (mq_us (mq_us x))) < 2147483648 := by rw [mq_us_un]; omega
    have hx4 : mq_un (mq_us (mq_us (mq_us (mq_us x)))) < 2147483648 := by rw [mq_us_un]; omega
    have h4 : mq_us (mq_us (mq_us (mq_us x))) = 0 := mq_un0.mpr (by rw [mq_us_un, mq_us_un, mq_us_un, mq_us_un]; omega)
    have k4 : ∀ y : Int32, mq_un y < 2147483648 → mq_un y < 256 ^ 4 := fun y hy => Nat.lt_trans hy (by decide)
    unfold mq_nm at hQ
    rw [if_neg n0] at hQ
    simp (decide := true) only [q124_0, q124_1, q124_2, q124_3, q124_6, q124_7, q124_10, q124_11, q124_12, q124_13, mq_x_iconst, mq_x_lconst, mq_x_iload0, mq_x_lload0, mq_x_aload0, mq_x_iload1, mq_x_lload1, mq_x_aload1, mq_x_iload2, mq_x_lload2, mq_x_aload2, mq_x_iload3, mq_x_lload3, mq_x_aload3, mq_x_iload4, mq_x_lload4, mq_x_aload4, mq_x_iload5, mq_x_lload5, mq_x_aload5, mq_x_iload6, mq_x_lload6, mq_x_aload6, mq_x_iload7, mq_x_lload7, mq_x_aload7, mq_x_iload8, mq_x_lload8, mq_x_aload8, mq_x_iload9, mq_x_lload9, mq_x_aload9, mq_x_iload10, mq_x_lload10, mq_x_aload10, mq_x_iload11, mq_x_lload11, mq_x_aload11, mq_x_iload12, mq_x_lload12, mq_x_aload12, mq_x_iload13, mq_x_lload13, mq_x_aload13, mq_x_iload14, mq_x_lload14, mq_x_aload14, mq_x_iload15, mq_x_lload15, mq_x_aload15, mq_x_istore0, mq_x_astore0, mq_x_iinc0, mq_x_istore1, mq_x_astore1, mq_x_iinc1, mq_x_istore2, mq_x_astore2, mq_x_iinc2, mq_x_istore3, mq_x_astore3, mq_x_iinc3, mq_x_istore4, mq_x_astore4, mq_x_iinc4, mq_x_istore5, mq_x_astore5, mq_x_iinc5, mq_x_istore6, mq_x_astore6, mq_x_iinc6, mq_x_istore7, mq_x_astore7, mq_x_iinc7, mq_x_istore8, mq_x_astore8, mq_x_iinc8, mq_x_istore9, mq_x_astore9, mq_x_iinc9, mq_x_istore10, mq_x_astore10, mq_x_iinc10, mq_x_istore11, mq_x_astore11, mq_x_iinc11, mq_x_istore12, mq_x_astore12, mq_x_iinc12, mq_x_istore13, mq_x_astore13, mq_x_iinc13, mq_x_istore14, mq_x_astore14, mq_x_iinc14, mq_x_istore15, mq_x_astore15, mq_x_iinc15, mq_x_iadd, mq_x_isub, mq_x_imul, mq_x_iand, mq_x_ior, mq_x_ixor, mq_x_ishl, mq_x_ishr, mq_x_iushr, mq_x_idiv, mq_x_irem, mq_x_ineg, mq_x_ladd, mq_x_lsub, mq_x_lmul, mq_x_land, mq_x_lor, mq_x_lxor, mq_x_lshl, mq_x_lshr, mq_x_lushr, mq_x_lcmp, mq_x_i2l, mq_x_l2i, mq_x_dup_int, mq_x_pop_int, mq_x_dup_x1_int_int, mq_x_dup2_int_int, mq_x_dup_x1_int_ref, mq_x_dup2_int_ref, mq_x_dup_ref, mq_x_pop_ref, mq_x_dup_x1_ref_int, mq_x_dup2_ref_int, mq_x_dup_x1_ref_ref, mq_x_dup2_ref_ref, mq_x_dup_x2, mq_x_if_eq, mq_x_if_ne, mq_x_if_lt, mq_x_if_ge, mq_x_if_gt, mq_x_if_le, mq_x_icmp_eq, mq_x_icmp_ne, mq_x_icmp_lt, mq_x_icmp_ge, mq_x_icmp_gt, mq_x_icmp_le, mq_x_goto, mq_x_switch, mq_x_gets, mq_x_new, mq_x_newarr, mq_x_ret, mq_x_iret, mq_x_zret, mq_x_lret, mq_x_aret, mq_y_get, mq_y_put, mq_y_ald, mq_y_aldo, mq_y_ast, mq_y_alen, mq_y_s0, mq_y_v0, mq_y_s1, mq_y_v1, mq_y_s2, mq_y_v2, mq_y_s3, mq_y_v3, mq_y_s4, mq_y_v4, mq_y_s5, mq_y_v5, mq_y_s6, mq_y_v6, mq_y_throw, mq_y_afterx, mq_y_cths, mq_y_call, mq_y_after, mq_w0n, mq_w1n, mq_w1i, mq_w1r, mq_w2n, mq_w2i, mq_w2r, mq_w2l, mq_w3n, mq_w3i, mq_w3r, mq_w3l, mq_w4n, mq_w4i, mq_w4r, mq_w4l, mq_w5n, mq_w5i, mq_w5r, mq_w5l, mq_w6n, mq_w6i, mq_w6r, mq_w6l, mq_w7n, mq_w7i, mq_w7r, mq_w7l, mq_w8n, mq_w8i, mq_w8r, mq_w8l, mq_sp_nil, mq_sp_i, mq_sp_r, mq_sp_l, mq_up_s, mq_up_n, mq_up_u, mq_fiti, mq_fitr, mq_fitl, mq_fitb0, mq_fitb1, mq_nln, mq_nli, mq_nlr, mq_nlu, mq_ak64, mq_ak65, mq_ak66, mq_ia64, mq_ia60, mq_ia65, mq_ia66, mq_fk64, mq_fk65, mq_fk66, mq_fk71, mq_fk72, mq_fk75, mq_ltc, mq_hd171, mq_hd172, mq_l64, List.length_cons, List.length_nil, List.getD_cons_zero, List.getD_cons_succ, List.set_cons_zero, List.set_cons_succ, List.length_set, Option.toList_some, Option.toList_none, List.cons_append, List.nil_append, ne_eq, not_false_eq_true, not_true_eq_false, Nat.zero_add, Nat.reduceAdd, Nat.reduceLeDiff, Nat.le_refl, Nat.reduceEqDiff, Nat.reduceLT, Int32.reduceLT, Int32.reduceLE, Int32.reduceOfInt, Int32.reduceAdd, Int32.reduceSub, Int32.reduceMul, Int32.reduceToNatClampNeg, Int32.reduceToInt, Nat.zero_lt_succ, if_true, if_false, true_and, and_true, forall_const, true_or, or_true, false_implies, true_implies, implies_true, not_true, and_self, imp_self, Int32.reduceOfNat, and_imp, Classical.not_not, mq_up_s, mq_ltc, hz]
    refine mq_c124_turn (.inr rfl) hx (fun p => absurd p n0) (fun p => ?_)
    by_cases b0 : 33 ≤ x &&& 255 ∧ x &&& 255 ≤ 126
    · rw [if_pos ⟨rfl, b0⟩]
      rw [if_neg (not_not_intro b0)] at hQ
      rw [show (0 : Int32) + 1 = 1 from by decide]
      refine mq_c124_turn (.inr rfl) hx1 (fun p => ?_) (fun p => ?_)
      · rw [if_pos p] at hQ; rw [if_neg (by decide)]; exact hQ
      rw [if_neg p] at hQ
      by_cases b1 : 33 ≤ mq_us x &&& 255 ∧ mq_us x &&& 255 ≤ 126
      · rw [if_pos ⟨rfl, b1⟩]
        rw [if_neg (not_not_intro b1)] at hQ
        rw [show (1 : Int32) + 1 = 2 from by decide]
        refine mq_c124_turn (.inr rfl) hx2 (fun p => ?_) (fun p => ?_)
        · rw [if_pos p] at hQ; rw [if_neg (by decide)]; exact hQ
        rw [if_neg p] at hQ
        by_cases b2 : 33 ≤ mq_us (mq_us x) &&& 255 ∧ mq_us (mq_us x) &&& 255 ≤ 126
        · rw [if_pos ⟨rfl, b2⟩]
          rw [if_neg (not_not_intro b2)] at hQ
          rw [show (2 : Int32) + 1 = 3 from by decide]
          refine mq_c124_turn (.inr rfl) hx3 (fun p => ?_) (fun p => ?_)
          · rw [if_pos p] at hQ; rw [if_neg (by decide)]; exact hQ
          rw [if_neg p] at hQ
          by_cases b3 : 33 ≤ mq_us (mq_us (mq_us x)) &&& 255 ∧ mq_us (mq_us (mq_us x)) &&& 255 ≤ 126
          · rw [if_pos ⟨rfl, b3⟩]
            rw [if_neg (not_not_intro b3)] at hQ
            rw [show (3 : Int32) + 1 = 4 from by decide]
            refine mq_c124_turn (.inr rfl) hx4 (fun p => ?_) (fun p => absurd h4 p)
            rw [if_neg (by decide)]; exact hQ
          · rw [if_neg (fun h => b3 h.2)]
            rw [if_pos b3] at hQ
            exact mq_c124_dead hQ 4 _ _ (k4 _ hx4) hx4
        · rw [if_neg (fun h => b2 h.2)]
          rw [if_pos b2] at hQ
          exact mq_c124_dead hQ 4 _ _ (k4 _ hx3) hx3
      · rw [if_neg (fun h => b1 h.2)]
        rw [if_pos b1] at hQ
        exact mq_c124_dead hQ 4 _ _ (k4 _ hx2) hx2
    · rw [if_neg (fun h => b0 h.2)]
      rw [if_pos b0] at hQ
      exact mq_c124_dead hQ 4 _ _ (k4 _ hx1) hx1
