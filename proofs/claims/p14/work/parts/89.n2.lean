/-! enter of the model, whole. -/
theorem hn_g0 {M : Nat → mq_C} (n : Nat) : 0 ≤ hb_sum (hn_g M) n := hb_sum_0 n (fun i _ => by
  unfold hn_g
  have := hn_nm (hv M 251 (6 * i))
  split <;> omega)
theorem hn_e64 {d z u : Nat} {Q : (Option Value ⊕ Nat) → mq_S → Prop} {M : Nat → mq_C} {x1 x2 x3 x4 : Int32} (hC : ∀ c ∈ mz_Cs, c.2 < 8 → mz_Ct mz_GG mq_PP HX c.1 c.2) (hd : 8 ≤ d + 1) (hz : 272 ≤ z) (hm : mz_sh mz_GG M) (hx : HX M) (r19 : 0 ≤ hv M 234 19) (r19' : hv M 234 19 ≤ 6) (r17 : 0 ≤ hv M 234 17) (r17' : hv M 234 17 ≤ 240) (r15 : 0 ≤ hv M 234 15) (r15' : hv M 234 15 ≤ 120) (h3 : x3.toInt = hv M 234 17 + 2 + hv M 234 15 + 12 + hb_nm x1.toInt + 4 + hb_sum (hn_g M) 6)
    (K : ∀ (M' : Nat → mq_C) (r : Int32), mz_sh mz_GG M' → HX M' → hn_S M M' → 0 ≤ r.toInt → r.toInt ≤ 1 → Q (.inl (some (.int r))) (M', z, u)) : mq_R mq_PP (d + 1) 124 64 [some (.ref 234), some (.int x1), some (.int x2), some (.int x3), some (.int x4), none, none] [] (M, z, u) Q := by
  have hs0 := hn_g0 (M := M) 6
  have hn0 := hn_nm x1.toInt
  refine he_iload (n := 65) (i := 1) (by decide +kernel) rfl ?_
  refine he_s1 (n := 68) (j := 123) (mx := 4) (ns := [5142, 5143, 1011, 194]) (by decide +kernel) (by decide) (by show 1 ≤ 4; omega) ?_
  rw [mq_e123]
  refine hn_ns ?_
  intro r1 hr1
  show mq_R mq_PP (d + 1) 124 68 _ [.int r1] (M, z, u) Q
  by_cases h68 : r1.toInt = 0
  · skip
    refine he_ifeq_t (n := 71) (t := 97) (by decide +kernel) (by omega) ?_
    refine he_iconst (n := 98) (c := 0) (by decide +kernel) (by decide) ?_
    intro c97 hc97
    refine he_retz (by decide +kernel) (by omega) ?_
    exact K M _ hm hx hn_Sr (by omega) (by omega)
  · skip
    refine he_ifeq_f (n := 71) (t := 97) (by decide +kernel) (by omega) ?_
    refine he_iload (n := 72) (i := 2) (by decide +kernel) rfl ?_
    by_cases h72 : x2.toInt = 0
    · skip
      refine he_ifeq_t (n := 75) (t := 81) (by decide +kernel) (by omega) ?_
      refine he_aload (n := 82) (i := 0) (by decide +kernel) rfl ?_
      refine hb_gfd (n := 85) (ci := 9) (j := 19) (ns := [4196, 197]) hm (by decide +kernel) rfl rfl (by decide) rfl ?_
      intro v82 hv82 lv82 uv82
      refine he_iconst (n := 87) (c := 6) (by decide +kernel) (by decide) ?_
      intro c85 hc85
      by_cases h87 : v82.toInt = c85.toInt
      · skip
        refine he_cmpeq_t (n := 90) (t := 97) (by decide +kernel) (by omega) ?_
        refine he_iconst (n := 98) (c := 0) (by decide +kernel) (by decide) ?_
        intro c97 hc97
        refine he_retz (by decide +kernel) (by omega) ?_
        exact K M _ hm hx hn_Sr (by omega) (by omega)
      · skip
        refine he_cmpeq_f (n := 90) (t := 97) (by decide +kernel) (by omega) ?_
        refine he_iload (n := 91) (i := 3) (by decide +kernel) rfl ?_
        refine he_iconst (n := 94) (c := 240) (by decide +kernel) (by decide) ?_
        intro c91 hc91
        by_cases h94 : x3.toInt ≤ c91.toInt
        · skip
          refine he_cmple_t (n := 97) (t := 99) (by decide +kernel) (by omega) ?_
          exact hn_e99 hC hd hz ⟨hm, hx, hn_Sr, rfl, rfl, rfl, fun _ _ => rfl⟩ (by omega) (by omega) (by omega) (by omega) (by omega) (by omega) (by omega) (by omega) (by omega) K
        · skip
          refine he_cmple_f (n := 97) (t := 99) (by decide +kernel) (by omega) ?_
          refine he_iconst (n := 98) (c := 0) (by decide +kernel) (by decide) ?_
          intro c97 hc97
          refine he_retz (by decide +kernel) (by omega) ?_
          exact K M _ hm hx hn_Sr (by omega) (by omega)
    · skip
      refine he_ifeq_f (n := 75) (t := 81) (by decide +kernel) (by omega) ?_
      refine he_iload (n := 76) (i := 2) (by decide +kernel) rfl ?_
      refine he_iconst (n := 78) (c := 8) (by decide +kernel) (by decide) ?_
      intro c76 hc76
      by_cases h78 : ¬ x2.toInt = c76.toInt
      · skip
        refine he_cmpne_t (n := 81) (t := 97) (by decide +kernel) (by omega) ?_
        refine he_iconst (n := 98) (c := 0) (by decide +kernel) (by decide) ?_
        intro c97 hc97
        refine he_retz (by decide +kernel) (by omega) ?_
        exact K M _ hm hx hn_Sr (by omega) (by omega)
      · skip
        refine he_cmpne_f (n := 81) (t := 97) (by decide +kernel) (by omega) ?_
        refine he_aload (n := 82) (i := 0) (by decide +kernel) rfl ?_
        refine hb_gfd (n := 85) (ci := 9) (j := 19) (ns := [4196, 197]) hm (by decide +kernel) rfl rfl (by decide) rfl ?_
        intro v82 hv82 lv82 uv82
        refine he_iconst (n := 87) (c := 6) (by decide +kernel) (by decide) ?_
        intro c85 hc85
        by_cases h87 : v82.toInt = c85.toInt
        · skip
          refine he_cmpeq_t (n := 90) (t := 97) (by decide +kernel) (by omega) ?_
          refine he_iconst (n := 98) (c := 0) (by decide +kernel) (by decide) ?_
          intro c97 hc97
          refine he_retz (by decide +kernel) (by omega) ?_
          exact K M _ hm hx hn_Sr (by omega) (by omega)
        · skip
          refine he_cmpeq_f (n := 90) (t := 97) (by decide +kernel) (by omega) ?_
          refine he_iload (n := 91) (i := 3) (by decide +kernel) rfl ?_
          refine he_iconst (n := 94) (c := 240) (by decide +kernel) (by decide) ?_
          intro c91 hc91
          by_cases h94 : x3.toInt ≤ c91.toInt
          · skip
            refine he_cmple_t (n := 97) (t := 99) (by decide +kernel) (by omega) ?_
            exact hn_e99 hC hd hz ⟨hm, hx, hn_Sr, rfl, rfl, rfl, fun _ _ => rfl⟩ (by omega) (by omega) (by omega) (by omega) (by omega) (by omega) (by omega) (by omega) (by omega) K
          · skip
            refine he_cmple_f (n := 97) (t := 99) (by decide +kernel) (by omega) ?_
            refine he_iconst (n := 98) (c := 0) (by decide +kernel) (by decide) ?_
            intro c97 hc97
            refine he_retz (by decide +kernel) (by omega) ?_
            exact K M _ hm hx hn_Sr (by omega) (by omega)
theorem hn_e30 {d z u : Nat} {Q : (Option Value ⊕ Nat) → mq_S → Prop} {M : Nat → mq_C} {x1 x2 : Int32} (hC : ∀ c ∈ mz_Cs, c.2 < 8 → mz_Ct mz_GG mq_PP HX c.1 c.2) (hd : 8 ≤ d + 1) (hz : 272 ≤ z) (hm : mz_sh mz_GG M) (hx : HX M) (r19 : 0 ≤ hv M 234 19) (r19' : hv M 234 19 ≤ 6) (r17 : 0 ≤ hv M 234 17) (r17' : hv M 234 17 ≤ 240) (r15 : 0 ≤ hv M 234 15) (r15' : hv M 234 15 ≤ 120)
    (K : ∀ (M' : Nat → mq_C) (r : Int32), mz_sh mz_GG M' → HX M' → hn_S M M' → 0 ≤ r.toInt → r.toInt ≤ 1 → Q (.inl (some (.int r))) (M', z, u)) : ∀ (m : Nat) (x3 x4 : Int32), x4.toInt + (m : Int) = hv M 234 19 → 0 ≤ x4.toInt → x3.toInt = hv M 234 17 + 2 + hv M 234 15 + 12 + hb_nm x1.toInt + 4 + hb_sum (hn_g M) x4.toInt.toNat → x3.toInt ≤ 400 + 16 * x4.toInt → mq_R mq_PP (d + 1) 124 30 [some (.ref 234), some (.int x1), some (.int x2), some (.int x3), some (.int x4), none, none] [] (M, z, u) Q := by
  intro m
  induction m with
  | zero =>
    intro x3 x4 e1 e2 e3 e4
    refine he_iload (n := 32) (i := 4) (by decide +kernel) rfl ?_
    refine he_aload (n := 33) (i := 0) (by decide +kernel) rfl ?_
    refine hb_gfd (n := 36) (ci := 9) (j := 19) (ns := [4196, 197]) hm (by decide +kernel) rfl rfl (by decide) rfl ?_
    intro v33 hv33 lv33 uv33
    refine he_cmpge_t (n := 39) (t := 64) (by decide +kernel) (by omega) ?_
    refine hn_e64 hC hd hz hm hx r19 r19' r17 r17' r15 r15' ?_ K
    rw [e3]
    have t2 := hn_tail (f := hn_g M) (c := x4.toInt.toNat) (fun e he => by unfold hn_g; rw [if_neg (by omega)]) (6 - x4.toInt.toNat)
    rw [show x4.toInt.toNat + (6 - x4.toInt.toNat) = 6 by omega] at t2
    rw [t2]
  | succ m ih =>
    intro x3 x4 e1 e2 e3 e4
    have hs0 := hn_g0 (M := M) x4.toInt.toNat
    have hn0 := hn_nm x1.toInt
    refine he_iload (n := 32) (i := 4) (by decide +kernel) rfl ?_
    refine he_aload (n := 33) (i := 0) (by decide +kernel) rfl ?_
    refine hb_gfd (n := 36) (ci := 9) (j := 19) (ns := [4196, 197]) hm (by decide +kernel) rfl rfl (by decide) rfl ?_
    intro v33 hv33 lv33 uv33
    refine he_cmpge_f (n := 39) (t := 64) (by decide +kernel) (by omega) ?_
    refine he_iload (n := 40) (i := 3) (by decide +kernel) rfl ?_
    refine he_iconst (n := 42) (c := 12) (by decide +kernel) (by decide) ?_
    intro c40 hc40
    refine he_aload (n := 43) (i := 0) (by decide +kernel) rfl ?_
    refine he_getr (n := 46) (ci := 9) (j := 20) (ns := [4197, 59]) (b := 251) hm (by decide +kernel) rfl rfl (by decide +kernel) ?_
    refine he_iconst (n := 48) (c := 6) (by decide +kernel) (by decide) ?_
    intro c46 hc46
    refine he_iload (n := 50) (i := 4) (by decide +kernel) rfl ?_
    refine he_imul (n := 51) (p := 6 * x4.toInt) (by decide +kernel) (by rw [hc46]) (by omega) (by omega) ?_
    intro v50 hv50
    refine hb_ld (n := 52) (kind := 64) hm (by decide +kernel) rfl rfl (.inl rfl) (by omega) (show _ < (36 : Int) by omega) hb_at1 ?_
    intro v51 hv51 lv51 uv51
    refine he_s1 (n := 55) (j := 123) (mx := 4) (ns := [5142, 5143, 1011, 194]) (by decide +kernel) (by show 2 ≤ 8; omega) (by show 1 ≤ 4; omega) ?_
    rw [mq_e123]
    refine hn_ns ?_
    intro r2 hr2
    show mq_R mq_PP (d + 1) 124 55 _ [.int r2, .int c40, .int x3] (M, z, u) Q
    have hr2b := hn_nm v51.toInt
    refine he_iadd (n := 56) (by decide +kernel) (by omega) (by omega) ?_
    intro v55 hv55
    refine he_iadd (n := 57) (by decide +kernel) (by omega) (by omega) ?_
    intro v56 hv56
    refine he_istore (n := 58) (i := 3) (by decide +kernel) rfl ?_
    refine he_iinc (n := 61) (i := 4) (c := 1) (L' := fun v => [some (.ref (234)), some (.int x1), some (.int x2), some (.int v56), some (.int v), none, none]) (by decide +kernel) (by decide) rfl (fun _ => rfl) (by omega) (by omega) ?_
    intro i58 hi58
    refine he_goto (t := 30) (by decide +kernel) ?_
    refine ih _ _ (by omega) (by omega) ?_ (by omega)
    rw [show i58.toInt.toNat = x4.toInt.toNat + 1 by omega]
    have e9 : hb_sum (hn_g M) (x4.toInt.toNat + 1) = hb_sum (hn_g M) x4.toInt.toNat + hn_g M x4.toInt.toNat := rfl
    have e8 : hn_g M x4.toInt.toNat = 12 + hb_nm v51.toInt := by
      unfold hn_g
      rw [if_pos (by omega), ← hv51, show 6 * x4.toInt.toNat = v50.toInt.toNat by omega]
    rw [e9, e8]
    omega
theorem hn_rg {M : Nat → mq_C} (hm : mz_sh mz_GG M) : (0 ≤ hv M 234 19 ∧ hv M 234 19 ≤ 6) ∧ (0 ≤ hv M 234 17 ∧ hv M 234 17 ≤ 240) ∧ (0 ≤ hv M 234 15 ∧ hv M 234 15 ≤ 120) := by
  have key : ∀ (i : Nat) (lo hi : Int), i < 65 → (∀ w, (M 234).2[i]? = some w → mz_ok mz_GG (0, lo, hi) w) → lo ≤ hv M 234 i ∧ hv M 234 i ≤ hi := by
    intro i lo hi hi' hk
    obtain ⟨m1, m2, m3⟩ := hm 234 _ rfl
    have m2 : (M 234).2.length = 65 := m2
    have hl : i < (M 234).2.length := by omega
    have hw : (M 234).2[i]? = some (M 234).2[i] := List.getElem?_eq_getElem hl
    generalize (M 234).2[i] = w at hw
    have hok := hk w hw
    have e : hv M 234 i = hb_w mz_GG (some w) := by show hb_w mz_GG ((M 234).2[i]?) = _; rw [hw]
    rw [e]
    cases w with
    | int v => exact hok
    | _ => exact hok.elim
  obtain ⟨m1, m2, m3⟩ := hm 234 _ rfl
  exact ⟨key 19 0 6 (by decide) (fun w hw => m3 _ _ hw), key 17 0 240 (by decide) (fun w hw => m3 _ _ hw), key 15 0 120 (by decide) (fun w hw => m3 _ _ hw)⟩
theorem hs_menter (hC : ∀ c ∈ mz_Cs, c.2 < 8 → mz_Ct mz_GG mq_PP HX c.1 c.2) : mz_Ct mz_GG mq_PP HX mz_q139 8 := by
  refine hc_menter ?_
  intro d z u M Q x1 x2 hd hz hm hx K
  obtain ⟨d, rfl⟩ : ∃ d', d = d' + 1 := ⟨d - 1, by omega⟩
  refine he_aload (n := 1) (i := 0) (by decide +kernel) rfl ?_
  refine he_iconst (n := 2) (c := 0) (by decide +kernel) (by decide) ?_
  intro c1 hc1
  refine hb_pfd (n := 5) (ci := 9) (j := 0) (t := 0) (ns := [4177, 126]) hm (by decide +kernel) rfl rfl (by decide) (.inl rfl) ?_
  generalize hM1 : hb_set M 234 0 c1 = M1
  have hm1 : mz_sh mz_GG M1 := by rw [← hM1]; exact hb_set_sh hm rfl rfl (by omega) (by omega)
  have eM1 : ∀ b j, b ≠ 234 ∨ j ≠ 0 → hv M1 b j = hv M b j := by intro b j h; rw [← hM1]; exact hb_set_n h
  have sM1 : hv M1 234 0 = c1.toInt := by rw [← hM1]; exact hb_set_v hm rfl (by decide)
  have wM1 : ∀ b, b ≠ 234 → M1 b = M b := by intro b h; rw [← hM1]; exact hb_set_c h
  refine he_aload (n := 6) (i := 0) (by decide +kernel) rfl ?_
  refine hb_gfd (n := 9) (ci := 9) (j := 17) (ns := [4194, 191]) hm1 (by decide +kernel) rfl rfl (by decide) rfl ?_
  intro v6 hv6 lv6 uv6
  refine he_iconst (n := 10) (c := 2) (by decide +kernel) (by decide) ?_
  intro c9 hc9
  refine he_iadd (n := 11) (by decide +kernel) (by omega) (by omega) ?_
  intro v10 hv10
  refine he_aload (n := 12) (i := 0) (by decide +kernel) rfl ?_
  refine hb_gfd (n := 15) (ci := 9) (j := 15) (ns := [4192, 186]) hm1 (by decide +kernel) rfl rfl (by decide) rfl ?_
  intro v12 hv12 lv12 uv12
  refine he_iadd (n := 16) (by decide +kernel) (by omega) (by omega) ?_
  intro v15 hv15
  refine he_iconst (n := 18) (c := 12) (by decide +kernel) (by decide) ?_
  intro c16 hc16
  refine he_iadd (n := 19) (by decide +kernel) (by omega) (by omega) ?_
  intro v18 hv18
  refine he_iload (n := 20) (i := 1) (by decide +kernel) rfl ?_
  have hx1 : HX M1 := fun t => by rw [← hM1]; exact hxk_s (hm_sp t _ _ (by omega)) (hx t)
  have hS1 : hn_S M M1 := hn_S4 (i := 0) (by omega) wM1 eM1
  obtain ⟨⟨r1, r2⟩, ⟨r3, r4⟩, r5, r6⟩ := hn_rg hm1
  refine he_s1 (n := 23) (j := 123) (mx := 4) (ns := [5142, 5143, 1011, 194]) (by decide +kernel) (by show 1 ≤ 8; omega) (by show 1 ≤ 4; omega) ?_
  rw [mq_e123]
  refine hn_ns ?_
  intro r0 hr0
  have hn0 := hn_nm x1.toInt
  show mq_R mq_PP (d + 1) 124 23 _ [.int r0, .int v18] (M1, z, u) Q
  refine he_iadd (n := 24) (by decide +kernel) (by omega) (by omega) ?_
  intro v23 hv23
  refine he_iconst (n := 25) (c := 4) (by decide +kernel) (by decide) ?_
  intro c24 hc24
  refine he_iadd (n := 26) (by decide +kernel) (by omega) (by omega) ?_
  intro v25 hv25
  refine he_istore (n := 27) (i := 3) (by decide +kernel) rfl ?_
  refine he_iconst (n := 28) (c := 0) (by decide +kernel) (by decide) ?_
  intro c27 hc27
  refine he_istore (n := 30) (i := 4) (by decide +kernel) rfl ?_
  refine hn_e30 hC hd hz hm1 hx1 r1 r2 r3 r4 r5 r6 ?_ (hv M1 234 19).toNat _ _ (by omega) (by omega) ?_ (by omega)
  · intro M' r g1 g2 g3 g4 g5
    have hS := hn_St hS1 g3
    exact K M' r g1 g2 hS.1 hS.2.1 hS.2.2 (by omega) (by omega)
  · rw [show c27.toInt.toNat = 0 by omega]
    have e0 : hb_sum (hn_g M1) 0 = 0 := rfl
    rw [e0]
    omega
