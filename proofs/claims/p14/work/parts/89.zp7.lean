/-! finish and spoil of the class leave every archive examined. -/
theorem xEX_k {A B : Nat} {M M' : Nat → mq_C} (hB : B = A + 1) (h : ∀ b, A ≤ b → b ≤ A + 10 → M' b = M b) (g : xEX A (hv M B) (hv M A 1).toNat M) : xEX A (hv M' B) (hv M' A 1).toNat M' := by
  subst hB
  have e1 : hv M' (A + 1) = hv M (A + 1) := funext fun t => hb_vc (h (A + 1) (by omega) (by omega)) t
  have e2 : hv M' A 1 = hv M A 1 := hb_vc (h A (by omega) (by omega)) 1
  rw [e1, e2]
  refine ⟨fun l s hx => ?_, fun hx => ?_⟩
  · obtain ⟨g1, g2, g3, g4, g5, g6⟩ := g.1 l s hx
    refine ⟨?_, ?_, fun i hi => ?_, ?_, ?_, fun i hi => ?_⟩
    · rw [hb_vc (h A (by omega) (by omega))]
      exact g1
    · rw [hb_vc (h A (by omega) (by omega))]
      exact g2
    · rw [xcr_c (M := M) (fun b p q => hb_vc (h b (by omega) (by omega)) i)]
      exact g3 i hi
    · rw [hb_vc (h (A + 2) (by omega) (by omega))]
      exact g4
    · rw [hb_vc (h (A + 2) (by omega) (by omega))]
      exact g5
    · rw [hb_vc (h (A + 3) (by omega) (by omega))]
      exact g6 i hi
  · rw [hb_vc (h A (by omega) (by omega))]
    exact g.2 hx
theorem xEA_k {M M' : Nat → mq_C} (h : ∀ b, 47 ≤ b → b ≤ 90 → M' b = M b) (g : xEA M) : xEA M' := fun s hs => xEX_k (A := 47 + 11 * s) (B := 48 + 11 * s) (by omega) (fun b p q => h b (by omega) (by omega)) (g s hs)
theorem xEA_s {M M' : Nat → mq_C} {s : Nat} (h : ∀ b, 47 ≤ b → b ≤ 90 → (b < 47 + 11 * s ∨ 57 + 11 * s < b) → M' b = M b) (g : xEA M) (g' : xEX (47 + 11 * s) (hv M' (48 + 11 * s)) (hv M' (47 + 11 * s) 1).toNat M') : xEA M' := fun s' hs' => by
  by_cases e : s' = s
  · rw [e]
    exact g'
  · exact xEX_k (A := 47 + 11 * s') (B := 48 + 11 * s') (by omega) (fun b p q => h b (by omega) (by omega) (by omega)) (g s' hs')
theorem xq_spoil0 {d z u : Nat} {M : Nat → mq_C} {Q : (Option Value ⊕ Nat) → mq_S → Prop} {x1 x2 x3 : Int32} (hm : mz_sh mz_GG M) (hMO : M 1 = (60, mq_MO)) (hTL : xT M 24 288 xfL) (hTD : xT M 28 32 xfD) (hE : xEA M) (hs : x1.toInt = 0) (K : ∀ (M' : Nat → mq_C) (r : Int32), xEA M' → Q (.inl (some (.int r))) (M', z, u)) : mq_R mq_PP (d + 8) 4 0 [some (.ref 8), some (.int x1), some (.int x2), some (.int x3)] [] (M, z, u) Q := by
  refine he_aload (n := 1) (i := 0) (by decide +kernel) rfl ?_
  refine he_iload (n := 2) (i := 1) (by decide +kernel) rfl ?_
  refine he_iload (n := 3) (i := 2) (by decide +kernel) rfl ?_
  refine he_v2 (n := 6) (j := 18) (ci := 0) (mx := 3) (ns := [3072, 3074, 25, 133]) (by decide +kernel) ((hb_kd (a := 8) hm rfl).trans rfl) (by show 0 ≤ 8; omega) (by show 3 ≤ 3; omega) ?_
  rw [mq_e18]
  refine xn_isb0 hm hs ?_
  intro r1 ra rb
  show mq_R mq_PP (d + 8) 4 6 _ [.int r1] (M, z, u) Q
  have hl := xx_rng (c := _) hm (a := 47) (i := 1) (lo := 0) (hi := 240) rfl (by decide) rfl
  by_cases hc : (0 ≤ x2.toInt ∧ x2.toInt < hv M 47 1)
  rotate_left
  · have hr1 := rb hc
    refine he_ifeq_t (n := 9) (t := 20) (by decide +kernel) (by omega) ?_
    refine he_iconst (n := 21) (c := 0) (by decide +kernel) (by decide) ?_
    intro c20 hc20
    refine he_retz (by decide +kernel) (by omega) ?_
    exact K M _ hE
  have hr1 := ra hc
  obtain ⟨c1, c2⟩ := id hc
  refine he_ifeq_f (n := 9) (t := 20) (by decide +kernel) (by omega) ?_
  refine he_iload (n := 10) (i := 3) (by decide +kernel) rfl ?_
  by_cases h10 : x3.toInt < 0
  · skip
    refine he_iflt_t (n := 13) (t := 20) (by decide +kernel) (by omega) ?_
    refine he_iconst (n := 21) (c := 0) (by decide +kernel) (by decide) ?_
    intro c20 hc20
    refine he_retz (by decide +kernel) (by omega) ?_
    exact K M _ hE
  · skip
    refine he_iflt_f (n := 13) (t := 20) (by decide +kernel) (by omega) ?_
    refine he_iload (n := 14) (i := 3) (by decide +kernel) rfl ?_
    refine he_iconst (n := 17) (c := 255) (by decide +kernel) (by decide) ?_
    intro c14 hc14
    by_cases h17 : x3.toInt ≤ c14.toInt
    · skip
      refine he_cmple_t (n := 20) (t := 22) (by decide +kernel) (by omega) ?_
      refine he_aload (n := 23) (i := 0) (by decide +kernel) rfl ?_
      refine he_getr (n := 26) (ci := 0) (j := 2) (ns := [2079, 25]) (b := 37) hm (by decide +kernel) rfl rfl (by decide +kernel) ?_
      refine he_iload (n := 27) (i := 1) (by decide +kernel) rfl ?_
      refine he_aald (n := 28) (kind := 71) (b := 47) hm (by decide +kernel) rfl rfl (by decide) (by omega) (by rw [show x1.toInt.toNat = 0 by omega]; decide +kernel) ?_
      refine he_getr (n := 31) (ci := 1) (j := 0) (ns := [1215, 137]) (b := 48) hm (by decide +kernel) rfl rfl (by decide +kernel) ?_
      refine he_iload (n := 32) (i := 2) (by decide +kernel) rfl ?_
      refine he_dup2 (n := 33) (by decide +kernel) ?_
      refine hb_ld (n := 34) (kind := 64) hm (by decide +kernel) rfl rfl (.inl rfl) (by omega) (show _ < (240 : Int) by omega) hb_at1 ?_
      intro v33 hv33 lv33 uv33
      refine he_iload (n := 35) (i := 3) (by decide +kernel) rfl ?_
      refine he_ex2 (o := 14) (n := 36) (by decide +kernel) rfl ?_
      intro v35 hv35
      have ev35 : v35 = v33 ^^^ x3 := hv35
      have bv35 := mz_i32 v35
      have hxr := xx_xor (X := v33) (Y := x3) (by omega) (by omega) (by omega) (by omega)
      rw [← ev35] at hxr
      obtain ⟨xr0, xr1⟩ := hxr
      refine hb_sta (n := 37) (kind := 64) hm (by decide +kernel) rfl rfl (.inl rfl) (by omega) (show _ < (240 : Int) by omega) ?_
      generalize hM1 : hb_set M 48 (x2.toInt.toNat) v35 = M1
      have hm1 : mz_sh mz_GG M1 := by rw [← hM1]; exact hb_set_sh hm rfl hb_at1 (by omega) (by omega)
      have eM1 : ∀ b j, b ≠ 48 ∨ j ≠ x2.toInt.toNat → hv M1 b j = hv M b j := by intro b j h; rw [← hM1]; exact hb_set_n h
      have sM1 : hv M1 48 (x2.toInt.toNat) = v35.toInt := by rw [← hM1]; exact hb_set_v hm rfl (show _ < 240 by omega)
      have wM1 : ∀ b, b ≠ 48 → M1 b = M b := by intro b h; rw [← hM1]; exact hb_set_c h
      refine he_aload (n := 38) (i := 0) (by decide +kernel) rfl ?_
      refine he_getr (n := 41) (ci := 0) (j := 2) (ns := [2079, 25]) (b := 37) hm1 (by decide +kernel) rfl rfl (by decide +kernel) ?_
      refine he_iload (n := 42) (i := 1) (by decide +kernel) rfl ?_
      refine he_aald (n := 43) (kind := 71) (b := 47) hm1 (by decide +kernel) rfl rfl (by decide) (by omega) (by rw [show x1.toInt.toNat = 0 by omega]; decide +kernel) ?_
      refine he_aload (n := 44) (i := 0) (by decide +kernel) rfl ?_
      refine he_getr (n := 47) (ci := 0) (j := 0) (ns := [2077, 12]) (b := 9) hm1 (by decide +kernel) rfl rfl (by decide +kernel) ?_
      have hMO' : M1 1 = (60, mq_MO) := (wM1 1 (by decide)).trans hMO
      have hTL' : xT M1 24 288 xfL := ⟨fun b p q => by rw [hb_vc (wM1 (24 + 1) (by decide))]; exact hTL.1 b p q, fun i p q => by rw [hb_vc (wM1 (24 + 3) (by decide))]; exact hTL.2 i p q⟩
      have hTD' : xT M1 28 32 xfD := ⟨fun b p q => by rw [hb_vc (wM1 (28 + 1) (by decide))]; exact hTD.1 b p q, fun i p q => by rw [hb_vc (wM1 (28 + 3) (by decide))]; exact hTD.2 i p q⟩
      refine he_v1 (n := 50) (j := 48) (ci := 1) (mx := 3) (ns := [3001, 3002, 3003, 129]) (by decide +kernel) ((hb_kd (a := 47) hm1 rfl).trans rfl) (by show 0 ≤ 8; omega) (by show 2 ≤ 3; omega) ?_
      rw [mq_e48]
      refine xo_exam47 (len := (hv M 47 1).toNat) hm1 (by rw [eM1 _ _ (.inl (by decide))]; omega) (by omega) hMO' hTL' hTD' ?_
      intro M4 hm4 w4 l4 hX4
      show mq_R mq_PP (d + 8) 4 50 _ [] (M4, z, u) Q
      refine he_iconst (n := 51) (c := 1) (by decide +kernel) (by decide) ?_
      intro c50 hc50
      refine he_retz (by decide +kernel) (by omega) ?_
      refine K M4 _ (xEA_s (s := 0) (fun b p q o' => by rw [w4 b (by omega) (by omega), wM1 b (by omega)]) hE ?_)
      rw [show hv M4 (48 + 11 * 0) = hv M1 48 from funext fun t => hb_vc (w4 48 (by decide) (by decide)) t, show (hv M4 (47 + 11 * 0) 1).toNat = (hv M 47 1).toNat by show (hv M4 47 1).toNat = _; rw [l4]; omega]
      exact hX4
    · skip
      refine he_cmple_f (n := 20) (t := 22) (by decide +kernel) (by omega) ?_
      refine he_iconst (n := 21) (c := 0) (by decide +kernel) (by decide) ?_
      intro c20 hc20
      refine he_retz (by decide +kernel) (by omega) ?_
      exact K M _ hE
theorem xq_spoil1 {d z u : Nat} {M : Nat → mq_C} {Q : (Option Value ⊕ Nat) → mq_S → Prop} {x1 x2 x3 : Int32} (hm : mz_sh mz_GG M) (hMO : M 1 = (60, mq_MO)) (hTL : xT M 24 288 xfL) (hTD : xT M 28 32 xfD) (hE : xEA M) (hs : x1.toInt = 1) (K : ∀ (M' : Nat → mq_C) (r : Int32), xEA M' → Q (.inl (some (.int r))) (M', z, u)) : mq_R mq_PP (d + 8) 4 0 [some (.ref 8), some (.int x1), some (.int x2), some (.int x3)] [] (M, z, u) Q := by
  refine he_aload (n := 1) (i := 0) (by decide +kernel) rfl ?_
  refine he_iload (n := 2) (i := 1) (by decide +kernel) rfl ?_
  refine he_iload (n := 3) (i := 2) (by decide +kernel) rfl ?_
  refine he_v2 (n := 6) (j := 18) (ci := 0) (mx := 3) (ns := [3072, 3074, 25, 133]) (by decide +kernel) ((hb_kd (a := 8) hm rfl).trans rfl) (by show 0 ≤ 8; omega) (by show 3 ≤ 3; omega) ?_
  rw [mq_e18]
  refine xn_isb1 hm hs ?_
  intro r1 ra rb
  show mq_R mq_PP (d + 8) 4 6 _ [.int r1] (M, z, u) Q
  have hl := xx_rng (c := _) hm (a := 58) (i := 1) (lo := 0) (hi := 240) rfl (by decide) rfl
  by_cases hc : (0 ≤ x2.toInt ∧ x2.toInt < hv M 58 1)
  rotate_left
  · have hr1 := rb hc
    refine he_ifeq_t (n := 9) (t := 20) (by decide +kernel) (by omega) ?_
    refine he_iconst (n := 21) (c := 0) (by decide +kernel) (by decide) ?_
    intro c20 hc20
    refine he_retz (by decide +kernel) (by omega) ?_
    exact K M _ hE
  have hr1 := ra hc
  obtain ⟨c1, c2⟩ := id hc
  refine he_ifeq_f (n := 9) (t := 20) (by decide +kernel) (by omega) ?_
  refine he_iload (n := 10) (i := 3) (by decide +kernel) rfl ?_
  by_cases h10 : x3.toInt < 0
  · skip
    refine he_iflt_t (n := 13) (t := 20) (by decide +kernel) (by omega) ?_
    refine he_iconst (n := 21) (c := 0) (by decide +kernel) (by decide) ?_
    intro c20 hc20
    refine he_retz (by decide +kernel) (by omega) ?_
    exact K M _ hE
  · skip
    refine he_iflt_f (n := 13) (t := 20) (by decide +kernel) (by omega) ?_
    refine he_iload (n := 14) (i := 3) (by decide +kernel) rfl ?_
    refine he_iconst (n := 17) (c := 255) (by decide +kernel) (by decide) ?_
    intro c14 hc14
    by_cases h17 : x3.toInt ≤ c14.toInt
    · skip
      refine he_cmple_t (n := 20) (t := 22) (by decide +kernel) (by omega) ?_
      refine he_aload (n := 23) (i := 0) (by decide +kernel) rfl ?_
      refine he_getr (n := 26) (ci := 0) (j := 2) (ns := [2079, 25]) (b := 37) hm (by decide +kernel) rfl rfl (by decide +kernel) ?_
      refine he_iload (n := 27) (i := 1) (by decide +kernel) rfl ?_
      refine he_aald (n := 28) (kind := 71) (b := 58) hm (by decide +kernel) rfl rfl (by decide) (by omega) (by rw [show x1.toInt.toNat = 1 by omega]; decide +kernel) ?_
      refine he_getr (n := 31) (ci := 1) (j := 0) (ns := [1215, 137]) (b := 59) hm (by decide +kernel) rfl rfl (by decide +kernel) ?_
      refine he_iload (n := 32) (i := 2) (by decide +kernel) rfl ?_
      refine he_dup2 (n := 33) (by decide +kernel) ?_
      refine hb_ld (n := 34) (kind := 64) hm (by decide +kernel) rfl rfl (.inl rfl) (by omega) (show _ < (240 : Int) by omega) hb_at1 ?_
      intro v33 hv33 lv33 uv33
      refine he_iload (n := 35) (i := 3) (by decide +kernel) rfl ?_
      refine he_ex2 (o := 14) (n := 36) (by decide +kernel) rfl ?_
      intro v35 hv35
      have ev35 : v35 = v33 ^^^ x3 := hv35
      have bv35 := mz_i32 v35
      have hxr := xx_xor (X := v33) (Y := x3) (by omega) (by omega) (by omega) (by omega)
      rw [← ev35] at hxr
      obtain ⟨xr0, xr1⟩ := hxr
      refine hb_sta (n := 37) (kind := 64) hm (by decide +kernel) rfl rfl (.inl rfl) (by omega) (show _ < (240 : Int) by omega) ?_
      generalize hM1 : hb_set M 59 (x2.toInt.toNat) v35 = M1
      have hm1 : mz_sh mz_GG M1 := by rw [← hM1]; exact hb_set_sh hm rfl hb_at1 (by omega) (by omega)
      have eM1 : ∀ b j, b ≠ 59 ∨ j ≠ x2.toInt.toNat → hv M1 b j = hv M b j := by intro b j h; rw [← hM1]; exact hb_set_n h
      have sM1 : hv M1 59 (x2.toInt.toNat) = v35.toInt := by rw [← hM1]; exact hb_set_v hm rfl (show _ < 240 by omega)
      have wM1 : ∀ b, b ≠ 59 → M1 b = M b := by intro b h; rw [← hM1]; exact hb_set_c h
      refine he_aload (n := 38) (i := 0) (by decide +kernel) rfl ?_
      refine he_getr (n := 41) (ci := 0) (j := 2) (ns := [2079, 25]) (b := 37) hm1 (by decide +kernel) rfl rfl (by decide +kernel) ?_
      refine he_iload (n := 42) (i := 1) (by decide +kernel) rfl ?_
      refine he_aald (n := 43) (kind := 71) (b := 58) hm1 (by decide +kernel) rfl rfl (by decide) (by omega) (by rw [show x1.toInt.toNat = 1 by omega]; decide +kernel) ?_
      refine he_aload (n := 44) (i := 0) (by decide +kernel) rfl ?_
      refine he_getr (n := 47) (ci := 0) (j := 0) (ns := [2077, 12]) (b := 9) hm1 (by decide +kernel) rfl rfl (by decide +kernel) ?_
      have hMO' : M1 1 = (60, mq_MO) := (wM1 1 (by decide)).trans hMO
      have hTL' : xT M1 24 288 xfL := ⟨fun b p q => by rw [hb_vc (wM1 (24 + 1) (by decide))]; exact hTL.1 b p q, fun i p q => by rw [hb_vc (wM1 (24 + 3) (by decide))]; exact hTL.2 i p q⟩
      have hTD' : xT M1 28 32 xfD := ⟨fun b p q => by rw [hb_vc (wM1 (28 + 1) (by decide))]; exact hTD.1 b p q, fun i p q => by rw [hb_vc (wM1 (28 + 3) (by decide))]; exact hTD.2 i p q⟩
      refine he_v1 (n := 50) (j := 48) (ci := 1) (mx := 3) (ns := [3001, 3002, 3003, 129]) (by decide +kernel) ((hb_kd (a := 58) hm1 rfl).trans rfl) (by show 0 ≤ 8; omega) (by show 2 ≤ 3; omega) ?_
      rw [mq_e48]
      refine xo_exam58 (len := (hv M 58 1).toNat) hm1 (by rw [eM1 _ _ (.inl (by decide))]; omega) (by omega) hMO' hTL' hTD' ?_
      intro M4 hm4 w4 l4 hX4
      show mq_R mq_PP (d + 8) 4 50 _ [] (M4, z, u) Q
      refine he_iconst (n := 51) (c := 1) (by decide +kernel) (by decide) ?_
      intro c50 hc50
      refine he_retz (by decide +kernel) (by omega) ?_
      refine K M4 _ (xEA_s (s := 1) (fun b p q o' => by rw [w4 b (by omega) (by omega), wM1 b (by omega)]) hE ?_)
      rw [show hv M4 (48 + 11 * 1) = hv M1 59 from funext fun t => hb_vc (w4 59 (by decide) (by decide)) t, show (hv M4 (47 + 11 * 1) 1).toNat = (hv M 58 1).toNat by show (hv M4 58 1).toNat = _; rw [l4]; omega]
      exact hX4
    · skip
      refine he_cmple_f (n := 20) (t := 22) (by decide +kernel) (by omega) ?_
      refine he_iconst (n := 21) (c := 0) (by decide +kernel) (by decide) ?_
      intro c20 hc20
      refine he_retz (by decide +kernel) (by omega) ?_
      exact K M _ hE
theorem xq_spoil2 {d z u : Nat} {M : Nat → mq_C} {Q : (Option Value ⊕ Nat) → mq_S → Prop} {x1 x2 x3 : Int32} (hm : mz_sh mz_GG M) (hMO : M 1 = (60, mq_MO)) (hTL : xT M 24 288 xfL) (hTD : xT M 28 32 xfD) (hE : xEA M) (hs : x1.toInt = 2) (K : ∀ (M' : Nat → mq_C) (r : Int32), xEA M' → Q (.inl (some (.int r))) (M', z, u)) : mq_R mq_PP (d + 8) 4 0 [some (.ref 8), some (.int x1), some (.int x2), some (.int x3)] [] (M, z, u) Q := by
  refine he_aload (n := 1) (i := 0) (by decide +kernel) rfl ?_
  refine he_iload (n := 2) (i := 1) (by decide +kernel) rfl ?_
  refine he_iload (n := 3) (i := 2) (by decide +kernel) rfl ?_
  refine he_v2 (n := 6) (j := 18) (ci := 0) (mx := 3) (ns := [3072, 3074, 25, 133]) (by decide +kernel) ((hb_kd (a := 8) hm rfl).trans rfl) (by show 0 ≤ 8; omega) (by show 3 ≤ 3; omega) ?_
  rw [mq_e18]
  refine xn_isb2 hm hs ?_
  intro r1 ra rb
  show mq_R mq_PP (d + 8) 4 6 _ [.int r1] (M, z, u) Q
  have hl := xx_rng (c := _) hm (a := 69) (i := 1) (lo := 0) (hi := 240) rfl (by decide) rfl
  by_cases hc : (0 ≤ x2.toInt ∧ x2.toInt < hv M 69 1)
  rotate_left
  · have hr1 := rb hc
    refine he_ifeq_t (n := 9) (t := 20) (by decide +kernel) (by omega) ?_
    refine he_iconst (n := 21) (c := 0) (by decide +kernel) (by decide) ?_
    intro c20 hc20
    refine he_retz (by decide +kernel) (by omega) ?_
    exact K M _ hE
  have hr1 := ra hc
  obtain ⟨c1, c2⟩ := id hc
  refine he_ifeq_f (n := 9) (t := 20) (by decide +kernel) (by omega) ?_
  refine he_iload (n := 10) (i := 3) (by decide +kernel) rfl ?_
  by_cases h10 : x3.toInt < 0
  · skip
    refine he_iflt_t (n := 13) (t := 20) (by decide +kernel) (by omega) ?_
    refine he_iconst (n := 21) (c := 0) (by decide +kernel) (by decide) ?_
    intro c20 hc20
    refine he_retz (by decide +kernel) (by omega) ?_
    exact K M _ hE
  · skip
    refine he_iflt_f (n := 13) (t := 20) (by decide +kernel) (by omega) ?_
    refine he_iload (n := 14) (i := 3) (by decide +kernel) rfl ?_
    refine he_iconst (n := 17) (c := 255) (by decide +kernel) (by decide) ?_
    intro c14 hc14
    by_cases h17 : x3.toInt ≤ c14.toInt
    · skip
      refine he_cmple_t (n := 20) (t := 22) (by decide +kernel) (by omega) ?_
      refine he_aload (n := 23) (i := 0) (by decide +kernel) rfl ?_
      refine he_getr (n := 26) (ci := 0) (j := 2) (ns := [2079, 25]) (b := 37) hm (by decide +kernel) rfl rfl (by decide +kernel) ?_
      refine he_iload (n := 27) (i := 1) (by decide +kernel) rfl ?_
      refine he_aald (n := 28) (kind := 71) (b := 69) hm (by decide +kernel) rfl rfl (by decide) (by omega) (by rw [show x1.toInt.toNat = 2 by omega]; decide +kernel) ?_
      refine he_getr (n := 31) (ci := 1) (j := 0) (ns := [1215, 137]) (b := 70) hm (by decide +kernel) rfl rfl (by decide +kernel) ?_
      refine he_iload (n := 32) (i := 2) (by decide +kernel) rfl ?_
      refine he_dup2 (n := 33) (by decide +kernel) ?_
      refine hb_ld (n := 34) (kind := 64) hm (by decide +kernel) rfl rfl (.inl rfl) (by omega) (show _ < (240 : Int) by omega) hb_at1 ?_
      intro v33 hv33 lv33 uv33
      refine he_iload (n := 35) (i := 3) (by decide +kernel) rfl ?_
      refine he_ex2 (o := 14) (n := 36) (by decide +kernel) rfl ?_
      intro v35 hv35
      have ev35 : v35 = v33 ^^^ x3 := hv35
      have bv35 := mz_i32 v35
      have hxr := xx_xor (X := v33) (Y := x3) (by omega) (by omega) (by omega) (by omega)
      rw [← ev35] at hxr
      obtain ⟨xr0, xr1⟩ := hxr
      refine hb_sta (n := 37) (kind := 64) hm (by decide +kernel) rfl rfl (.inl rfl) (by omega) (show _ < (240 : Int) by omega) ?_
      generalize hM1 : hb_set M 70 (x2.toInt.toNat) v35 = M1
      have hm1 : mz_sh mz_GG M1 := by rw [← hM1]; exact hb_set_sh hm rfl hb_at1 (by omega) (by omega)
      have eM1 : ∀ b j, b ≠ 70 ∨ j ≠ x2.toInt.toNat → hv M1 b j = hv M b j := by intro b j h; rw [← hM1]; exact hb_set_n h
      have sM1 : hv M1 70 (x2.toInt.toNat) = v35.toInt := by rw [← hM1]; exact hb_set_v hm rfl (show _ < 240 by omega)
      have wM1 : ∀ b, b ≠ 70 → M1 b = M b := by intro b h; rw [← hM1]; exact hb_set_c h
      refine he_aload (n := 38) (i := 0) (by decide +kernel) rfl ?_
      refine he_getr (n := 41) (ci := 0) (j := 2) (ns := [2079, 25]) (b := 37) hm1 (by decide +kernel) rfl rfl (by decide +kernel) ?_
      refine he_iload (n := 42) (i := 1) (by decide +kernel) rfl ?_
      refine he_aald (n := 43) (kind := 71) (b := 69) hm1 (by decide +kernel) rfl rfl (by decide) (by omega) (by rw [show x1.toInt.toNat = 2 by omega]; decide +kernel) ?_
      refine he_aload (n := 44) (i := 0) (by decide +kernel) rfl ?_
      refine he_getr (n := 47) (ci := 0) (j := 0) (ns := [2077, 12]) (b := 9) hm1 (by decide +kernel) rfl rfl (by decide +kernel) ?_
      have hMO' : M1 1 = (60, mq_MO) := (wM1 1 (by decide)).trans hMO
      have hTL' : xT M1 24 288 xfL := ⟨fun b p q => by rw [hb_vc (wM1 (24 + 1) (by decide))]; exact hTL.1 b p q, fun i p q => by rw [hb_vc (wM1 (24 + 3) (by decide))]; exact hTL.2 i p q⟩
      have hTD' : xT M1 28 32 xfD := ⟨fun b p q => by rw [hb_vc (wM1 (28 + 1) (by decide))]; exact hTD.1 b p q, fun i p q => by rw [hb_vc (wM1 (28 + 3) (by decide))]; exact hTD.2 i p q⟩
      refine he_v1 (n := 50) (j := 48) (ci := 1) (mx := 3) (ns := [3001, 3002, 3003, 129]) (by decide +kernel) ((hb_kd (a := 69) hm1 rfl).trans rfl) (by show 0 ≤ 8; omega) (by show 2 ≤ 3; omega) ?_
      rw [mq_e48]
      refine xo_exam69 (len := (hv M 69 1).toNat) hm1 (by rw [eM1 _ _ (.inl (by decide))]; omega) (by omega) hMO' hTL' hTD' ?_
      intro M4 hm4 w4 l4 hX4
      show mq_R mq_PP (d + 8) 4 50 _ [] (M4, z, u) Q
      refine he_iconst (n := 51) (c := 1) (by decide +kernel) (by decide) ?_
      intro c50 hc50
      refine he_retz (by decide +kernel) (by omega) ?_
      refine K M4 _ (xEA_s (s := 2) (fun b p q o' => by rw [w4 b (by omega) (by omega), wM1 b (by omega)]) hE ?_)
      rw [show hv M4 (48 + 11 * 2) = hv M1 70 from funext fun t => hb_vc (w4 70 (by decide) (by decide)) t, show (hv M4 (47 + 11 * 2) 1).toNat = (hv M 69 1).toNat by show (hv M4 69 1).toNat = _; rw [l4]; omega]
      exact hX4
    · skip
      refine he_cmple_f (n := 20) (t := 22) (by decide +kernel) (by omega) ?_
      refine he_iconst (n := 21) (c := 0) (by decide +kernel) (by decide) ?_
      intro c20 hc20
      refine he_retz (by decide +kernel) (by omega) ?_
      exact K M _ hE
theorem xq_spoil3 {d z u : Nat} {M : Nat → mq_C} {Q : (Option Value ⊕ Nat) → mq_S → Prop} {x1 x2 x3 : Int32} (hm : mz_sh mz_GG M) (hMO : M 1 = (60, mq_MO)) (hTL : xT M 24 288 xfL) (hTD : xT M 28 32 xfD) (hE : xEA M) (hs : x1.toInt = 3) (K : ∀ (M' : Nat → mq_C) (r : Int32), xEA M' → Q (.inl (some (.int r))) (M', z, u)) : mq_R mq_PP (d + 8) 4 0 [some (.ref 8), some (.int x1), some (.int x2), some (.int x3)] [] (M, z, u) Q := by
  refine he_aload (n := 1) (i := 0) (by decide +kernel) rfl ?_
  refine he_iload (n := 2) (i := 1) (by decide +kernel) rfl ?_
  refine he_iload (n := 3) (i := 2) (by decide +kernel) rfl ?_
  refine he_v2 (n := 6) (j := 18) (ci := 0) (mx := 3) (ns := [3072, 3074, 25, 133]) (by decide +kernel) ((hb_kd (a := 8) hm rfl).trans rfl) (by show 0 ≤ 8; omega) (by show 3 ≤ 3; omega) ?_
  rw [mq_e18]
  refine xn_isb3 hm hs ?_
  intro r1 ra rb
  show mq_R mq_PP (d + 8) 4 6 _ [.int r1] (M, z, u) Q
  have hl := xx_rng (c := _) hm (a := 80) (i := 1) (lo := 0) (hi := 240) rfl (by decide) rfl
  by_cases hc : (0 ≤ x2.toInt ∧ x2.toInt < hv M 80 1)
  rotate_left
  · have hr1 := rb hc
    refine he_ifeq_t (n := 9) (t := 20) (by decide +kernel) (by omega) ?_
    refine he_iconst (n := 21) (c := 0) (by decide +kernel) (by decide) ?_
    intro c20 hc20
    refine he_retz (by decide +kernel) (by omega) ?_
    exact K M _ hE
  have hr1 := ra hc
  obtain ⟨c1, c2⟩ := id hc
  refine he_ifeq_f (n := 9) (t := 20) (by decide +kernel) (by omega) ?_
  refine he_iload (n := 10) (i := 3) (by decide +kernel) rfl ?_
  by_cases h10 : x3.toInt < 0
  · skip
    refine he_iflt_t (n := 13) (t := 20) (by decide +kernel) (by omega) ?_
    refine he_iconst (n := 21) (c := 0) (by decide +kernel) (by decide) ?_
    intro c20 hc20
    refine he_retz (by decide +kernel) (by omega) ?_
    exact K M _ hE
  · skip
    refine he_iflt_f (n := 13) (t := 20) (by decide +kernel) (by omega) ?_
    refine he_iload (n := 14) (i := 3) (by decide +kernel) rfl ?_
    refine he_iconst (n := 17) (c := 255) (by decide +kernel) (by decide) ?_
    intro c14 hc14
    by_cases h17 : x3.toInt ≤ c14.toInt
    · skip
      refine he_cmple_t (n := 20) (t := 22) (by decide +kernel) (by omega) ?_
      refine he_aload (n := 23) (i := 0) (by decide +kernel) rfl ?_
      refine he_getr (n := 26) (ci := 0) (j := 2) (ns := [2079, 25]) (b := 37) hm (by decide +kernel) rfl rfl (by decide +kernel) ?_
      refine he_iload (n := 27) (i := 1) (by decide +kernel) rfl ?_
      refine he_aald (n := 28) (kind := 71) (b := 80) hm (by decide +kernel) rfl rfl (by decide) (by omega) (by rw [show x1.toInt.toNat = 3 by omega]; decide +kernel) ?_
      refine he_getr (n := 31) (ci := 1) (j := 0) (ns := [1215, 137]) (b := 81) hm (by decide +kernel) rfl rfl (by decide +kernel) ?_
      refine he_iload (n := 32) (i := 2) (by decide +kernel) rfl ?_
      refine he_dup2 (n := 33) (by decide +kernel) ?_
      refine hb_ld (n := 34) (kind := 64) hm (by decide +kernel) rfl rfl (.inl rfl) (by omega) (show _ < (240 : Int) by omega) hb_at1 ?_
      intro v33 hv33 lv33 uv33
      refine he_iload (n := 35) (i := 3) (by decide +kernel) rfl ?_
      refine he_ex2 (o := 14) (n := 36) (by decide +kernel) rfl ?_
      intro v35 hv35
      have ev35 : v35 = v33 ^^^ x3 := hv35
      have bv35 := mz_i32 v35
      have hxr := xx_xor (X := v33) (Y := x3) (by omega) (by omega) (by omega) (by omega)
      rw [← ev35] at hxr
      obtain ⟨xr0, xr1⟩ := hxr
      refine hb_sta (n := 37) (kind := 64) hm (by decide +kernel) rfl rfl (.inl rfl) (by omega) (show _ < (240 : Int) by omega) ?_
      generalize hM1 : hb_set M 81 (x2.toInt.toNat) v35 = M1
      have hm1 : mz_sh mz_GG M1 := by rw [← hM1]; exact hb_set_sh hm rfl hb_at1 (by omega) (by omega)
      have eM1 : ∀ b j, b ≠ 81 ∨ j ≠ x2.toInt.toNat → hv M1 b j = hv M b j := by intro b j h; rw [← hM1]; exact hb_set_n h
      have sM1 : hv M1 81 (x2.toInt.toNat) = v35.toInt := by rw [← hM1]; exact hb_set_v hm rfl (show _ < 240 by omega)
      have wM1 : ∀ b, b ≠ 81 → M1 b = M b := by intro b h; rw [← hM1]; exact hb_set_c h
      refine he_aload (n := 38) (i := 0) (by decide +kernel) rfl ?_
      refine he_getr (n := 41) (ci := 0) (j := 2) (ns := [2079, 25]) (b := 37) hm1 (by decide +kernel) rfl rfl (by decide +kernel) ?_
      refine he_iload (n := 42) (i := 1) (by decide +kernel) rfl ?_
      refine he_aald (n := 43) (kind := 71) (b := 80) hm1 (by decide +kernel) rfl rfl (by decide) (by omega) (by rw [show x1.toInt.toNat = 3 by omega]; decide +kernel) ?_
      refine he_aload (n := 44) (i := 0) (by decide +kernel) rfl ?_
      refine he_getr (n := 47) (ci := 0) (j := 0) (ns := [2077, 12]) (b := 9) hm1 (by decide +kernel) rfl rfl (by decide +kernel) ?_
      have hMO' : M1 1 = (60, mq_MO) := (wM1 1 (by decide)).trans hMO
      have hTL' : xT M1 24 288 xfL := ⟨fun b p q => by rw [hb_vc (wM1 (24 + 1) (by decide))]; exact hTL.1 b p q, fun i p q => by rw [hb_vc (wM1 (24 + 3) (by decide))]; exact hTL.2 i p q⟩
      have hTD' : xT M1 28 32 xfD := ⟨fun b p q => by rw [hb_vc (wM1 (28 + 1) (by decide))]; exact hTD.1 b p q, fun i p q => by rw [hb_vc (wM1 (28 + 3) (by decide))]; exact hTD.2 i p q⟩
      refine he_v1 (n := 50) (j := 48) (ci := 1) (mx := 3) (ns := [3001, 3002, 3003, 129]) (by decide +kernel) ((hb_kd (a := 80) hm1 rfl).trans rfl) (by show 0 ≤ 8; omega) (by show 2 ≤ 3; omega) ?_
      rw [mq_e48]
      refine xo_exam80 (len := (hv M 80 1).toNat) hm1 (by rw [eM1 _ _ (.inl (by decide))]; omega) (by omega) hMO' hTL' hTD' ?_
      intro M4 hm4 w4 l4 hX4
      show mq_R mq_PP (d + 8) 4 50 _ [] (M4, z, u) Q
      refine he_iconst (n := 51) (c := 1) (by decide +kernel) (by decide) ?_
      intro c50 hc50
      refine he_retz (by decide +kernel) (by omega) ?_
      refine K M4 _ (xEA_s (s := 3) (fun b p q o' => by rw [w4 b (by omega) (by omega), wM1 b (by omega)]) hE ?_)
      rw [show hv M4 (48 + 11 * 3) = hv M1 81 from funext fun t => hb_vc (w4 81 (by decide) (by decide)) t, show (hv M4 (47 + 11 * 3) 1).toNat = (hv M 80 1).toNat by show (hv M4 80 1).toNat = _; rw [l4]; omega]
      exact hX4
    · skip
      refine he_cmple_f (n := 20) (t := 22) (by decide +kernel) (by omega) ?_
      refine he_iconst (n := 21) (c := 0) (by decide +kernel) (by decide) ?_
      intro c20 hc20
      refine he_retz (by decide +kernel) (by omega) ?_
      exact K M _ hE
theorem xq_spoil {d z u : Nat} {M : Nat → mq_C} {Q : (Option Value ⊕ Nat) → mq_S → Prop} {x1 x2 x3 : Int32} (hm : mz_sh mz_GG M) (hMO : M 1 = (60, mq_MO)) (hTL : xT M 24 288 xfL) (hTD : xT M 28 32 xfD) (hE : xEA M) (K : ∀ (M' : Nat → mq_C) (r : Int32), xEA M' → Q (.inl (some (.int r))) (M', z, u)) : mq_R mq_PP (d + 8) 4 0 [some (.ref 8), some (.int x1), some (.int x2), some (.int x3)] [] (M, z, u) Q := by
  by_cases h : 0 ≤ x1.toInt ∧ x1.toInt ≤ 3
  · have h4 : x1.toInt = 0 ∨ x1.toInt = 1 ∨ x1.toInt = 2 ∨ x1.toInt = 3 := by omega
    rcases h4 with hs | hs | hs | hs
    · exact xq_spoil0 hm hMO hTL hTD hE hs K
    · exact xq_spoil1 hm hMO hTL hTD hE hs K
    · exact xq_spoil2 hm hMO hTL hTD hE hs K
    · exact xq_spoil3 hm hMO hTL hTD hE hs K
  · exact xn_spoiln hm h (fun r _ => K M r hE)
theorem xq_fin0 {d z u : Nat} {M : Nat → mq_C} {Q : (Option Value ⊕ Nat) → mq_S → Prop} {x1 : Int32} (hm : mz_sh mz_GG M) (b0 : 0 ≤ hv M 33 3) (r0 : 0 ≤ hv M 33 5) (e0 : 0 ≤ hv M 33 6) (e1 : hv M 33 6 ≤ 6) (hr : hv M 33 3 + hv M 33 5 + 4 ≤ 240) (hMO : M 1 = (60, mq_MO)) (hTL : xT M 24 288 xfL) (hTD : xT M 28 32 xfD) (hE : xEA M) (hs : x1.toInt = 0) (K : ∀ (M' : Nat → mq_C) (r : Int32), xEA M' → Q (.inl (some (.int r))) (M', z, u)) : mq_R mq_PP (d + 8) 3 0 [some (.ref 8), some (.int x1)] [] (M, z, u) Q := by
  refine he_iload (n := 1) (i := 1) (by decide +kernel) rfl ?_
  refine he_s1 (n := 4) (j := 17) (mx := 1) (ns := [2234, 2235, 1001, 121]) (by decide +kernel) (by show 0 ≤ 8; omega) (by show 1 ≤ 1; omega) ?_
  rw [mq_e17]
  refine xn_slot ?_
  intro r1 ra rb
  have hr1 := ra ⟨by omega, by omega⟩
  show mq_R mq_PP (d + 8) 3 4 _ [.int r1] (M, z, u) Q
  refine he_ifeq_f (n := 7) (t := 19) (by decide +kernel) (by omega) ?_
  refine he_aload (n := 8) (i := 0) (by decide +kernel) rfl ?_
  refine he_getr (n := 11) (ci := 0) (j := 2) (ns := [2079, 25]) (b := 37) hm (by decide +kernel) rfl rfl (by decide +kernel) ?_
  refine he_iload (n := 12) (i := 1) (by decide +kernel) rfl ?_
  refine he_aald (n := 13) (kind := 71) (b := 47) hm (by decide +kernel) rfl rfl (by decide) (by omega) (by rw [show x1.toInt.toNat = 0 by omega]; decide +kernel) ?_
  refine hb_gfd (n := 16) (ci := 1) (j := 1) (ns := [1218, 124]) hm (by decide +kernel) rfl rfl (by decide) rfl ?_
  intro v13 hv13 lv13 uv13
  by_cases h16 : v13.toInt ≤ 0
  · skip
    refine he_ifle_t (n := 19) (t := 21) (by decide +kernel) (by omega) ?_
    refine he_aload (n := 22) (i := 0) (by decide +kernel) rfl ?_
    refine he_getr (n := 25) (ci := 0) (j := 1) (ns := [2078, 19]) (b := 33) hm (by decide +kernel) rfl rfl (by decide +kernel) ?_
    refine he_aload (n := 26) (i := 0) (by decide +kernel) rfl ?_
    refine he_getr (n := 29) (ci := 0) (j := 2) (ns := [2079, 25]) (b := 37) hm (by decide +kernel) rfl rfl (by decide +kernel) ?_
    refine he_iload (n := 30) (i := 1) (by decide +kernel) rfl ?_
    refine he_aald (n := 31) (kind := 71) (b := 47) hm (by decide +kernel) rfl rfl (by decide) (by omega) (by rw [show x1.toInt.toNat = 0 by omega]; decide +kernel) ?_
    refine he_v1 (n := 34) (j := 80) (ci := 6) (mx := 3) (ns := [2237, 2238, 2239, 125]) (by decide +kernel) ((hb_kd (a := 33) hm rfl).trans rfl) (by decide) (by show 2 ≤ 3; omega) ?_
    rw [mq_e80]
    refine xn_wt0 hm b0 r0 e0 e1 hr ?_
    intro M3 hm3 w3 s3 n3 n5 n6 a3 al by0 by1 q0 q1 q2 q3
    show mq_R mq_PP (d + 8) 3 34 _ [] (M3, z, u) Q
    have hMO' : M3 1 = (60, mq_MO) := (w3 1 (by decide) (by decide) (by decide)).trans hMO
    have hTL' : xT M3 24 288 xfL := ⟨fun b p q => by rw [hb_vc (w3 (24 + 1) (by decide) (by decide) (by decide))]; exact hTL.1 b p q, fun i p q => by rw [hb_vc (w3 (24 + 3) (by decide) (by decide) (by decide))]; exact hTL.2 i p q⟩
    have hTD' : xT M3 28 32 xfD := ⟨fun b p q => by rw [hb_vc (w3 (28 + 1) (by decide) (by decide) (by decide))]; exact hTD.1 b p q, fun i p q => by rw [hb_vc (w3 (28 + 3) (by decide) (by decide) (by decide))]; exact hTD.2 i p q⟩
    refine he_aload (n := 35) (i := 0) (by decide +kernel) rfl ?_
    refine he_getr (n := 38) (ci := 0) (j := 2) (ns := [2079, 25]) (b := 37) hm3 (by decide +kernel) rfl rfl (by decide +kernel) ?_
    refine he_iload (n := 39) (i := 1) (by decide +kernel) rfl ?_
    refine he_aald (n := 40) (kind := 71) (b := 47) hm3 (by decide +kernel) rfl rfl (by decide) (by omega) (by rw [show x1.toInt.toNat = 0 by omega]; decide +kernel) ?_
    refine he_aload (n := 41) (i := 0) (by decide +kernel) rfl ?_
    refine he_getr (n := 44) (ci := 0) (j := 0) (ns := [2077, 12]) (b := 9) hm3 (by decide +kernel) rfl rfl (by decide +kernel) ?_
    refine he_v1 (n := 47) (j := 48) (ci := 1) (mx := 3) (ns := [3001, 3002, 3003, 129]) (by decide +kernel) ((hb_kd (a := 47) hm3 rfl).trans rfl) (by decide) (by show 2 ≤ 3; omega) ?_
    rw [mq_e48]
    refine xo_exam47 (len := (hv M 33 3 + hv M 33 5 + 4).toNat) hm3 (by rw [al]; omega) (by omega) hMO' hTL' hTD' ?_
    intro M4 hm4 w4 l4 hX4
    show mq_R mq_PP (d + 8) 3 47 _ [] (M4, z, u) Q
    refine he_iconst (n := 48) (c := 1) (by decide +kernel) (by decide) ?_
    intro c47 hc47
    refine he_retz (by decide +kernel) (by omega) ?_
    refine K M4 _ (xEA_s (s := 0) (fun b p q o' => by rw [w4 b (by omega) (by omega), w3 b (by omega) (by omega) (by omega)]) hE ?_)
    rw [show hv M4 (48 + 11 * 0) = hv M3 48 from funext fun t => hb_vc (w4 48 (by decide) (by decide)) t, show (hv M4 (47 + 11 * 0) 1).toNat = (hv M 33 3 + hv M 33 5 + 4).toNat by show (hv M4 47 1).toNat = _; rw [l4]; omega]
    exact hX4
  · skip
    refine he_ifle_f (n := 19) (t := 21) (by decide +kernel) (by omega) ?_
    refine he_iconst (n := 20) (c := 0) (by decide +kernel) (by decide) ?_
    intro c19 hc19
    refine he_retz (by decide +kernel) (by omega) ?_
    exact K M _ hE
theorem xq_fin1 {d z u : Nat} {M : Nat → mq_C} {Q : (Option Value ⊕ Nat) → mq_S → Prop} {x1 : Int32} (hm : mz_sh mz_GG M) (b0 : 0 ≤ hv M 33 3) (r0 : 0 ≤ hv M 33 5) (e0 : 0 ≤ hv M 33 6) (e1 : hv M 33 6 ≤ 6) (hr : hv M 33 3 + hv M 33 5 + 4 ≤ 240) (hMO : M 1 = (60, mq_MO)) (hTL : xT M 24 288 xfL) (hTD : xT M 28 32 xfD) (hE : xEA M) (hs : x1.toInt = 1) (K : ∀ (M' : Nat → mq_C) (r : Int32), xEA M' → Q (.inl (some (.int r))) (M', z, u)) : mq_R mq_PP (d + 8) 3 0 [some (.ref 8), some (.int x1)] [] (M, z, u) Q := by
  refine he_iload (n := 1) (i := 1) (by decide +kernel) rfl ?_
  refine he_s1 (n := 4) (j := 17) (mx := 1) (ns := [2234, 2235, 1001, 121]) (by decide +kernel) (by show 0 ≤ 8; omega) (by show 1 ≤ 1; omega) ?_
  rw [mq_e17]
  refine xn_slot ?_
  intro r1 ra rb
  have hr1 := ra ⟨by omega, by omega⟩
  show mq_R mq_PP (d + 8) 3 4 _ [.int r1] (M, z, u) Q
  refine he_ifeq_f (n := 7) (t := 19) (by decide +kernel) (by omega) ?_
  refine he_aload (n := 8) (i := 0) (by decide +kernel) rfl ?_
  refine he_getr (n := 11) (ci := 0) (j := 2) (ns := [2079, 25]) (b := 37) hm (by decide +kernel) rfl rfl (by decide +kernel) ?_
  refine he_iload (n := 12) (i := 1) (by decide +kernel) rfl ?_
  refine he_aald (n := 13) (kind := 71) (b := 58) hm (by decide +kernel) rfl rfl (by decide) (by omega) (by rw [show x1.toInt.toNat = 1 by omega]; decide +kernel) ?_
  refine hb_gfd (n := 16) (ci := 1) (j := 1) (ns := [1218, 124]) hm (by decide +kernel) rfl rfl (by decide) rfl ?_
  intro v13 hv13 lv13 uv13
  by_cases h16 : v13.toInt ≤ 0
  · skip
    refine he_ifle_t (n := 19) (t := 21) (by decide +kernel) (by omega) ?_
    refine he_aload (n := 22) (i := 0) (by decide +kernel) rfl ?_
    refine he_getr (n := 25) (ci := 0) (j := 1) (ns := [2078, 19]) (b := 33) hm (by decide +kernel) rfl rfl (by decide +kernel) ?_
    refine he_aload (n := 26) (i := 0) (by decide +kernel) rfl ?_
    refine he_getr (n := 29) (ci := 0) (j := 2) (ns := [2079, 25]) (b := 37) hm (by decide +kernel) rfl rfl (by decide +kernel) ?_
    refine he_iload (n := 30) (i := 1) (by decide +kernel) rfl ?_
    refine he_aald (n := 31) (kind := 71) (b := 58) hm (by decide +kernel) rfl rfl (by decide) (by omega) (by rw [show x1.toInt.toNat = 1 by omega]; decide +kernel) ?_
    refine he_v1 (n := 34) (j := 80) (ci := 6) (mx := 3) (ns := [2237, 2238, 2239, 125]) (by decide +kernel) ((hb_kd (a := 33) hm rfl).trans rfl) (by decide) (by show 2 ≤ 3; omega) ?_
    rw [mq_e80]
    refine xn_wt1 hm b0 r0 e0 e1 hr ?_
    intro M3 hm3 w3 s3 n3 n5 n6 a3 al by0 by1 q0 q1 q2 q3
    show mq_R mq_PP (d + 8) 3 34 _ [] (M3, z, u) Q
    have hMO' : M3 1 = (60, mq_MO) := (w3 1 (by decide) (by decide) (by decide)).trans hMO
    have hTL' : xT M3 24 288 xfL := ⟨fun b p q => by rw [hb_vc (w3 (24 + 1) (by decide) (by decide) (by decide))]; exact hTL.1 b p q, fun i p q => by rw [hb_vc (w3 (24 + 3) (by decide) (by decide) (by decide))]; exact hTL.2 i p q⟩
    have hTD' : xT M3 28 32 xfD := ⟨fun b p q => by rw [hb_vc (w3 (28 + 1) (by decide) (by decide) (by decide))]; exact hTD.1 b p q, fun i p q => by rw [hb_vc (w3 (28 + 3) (by decide) (by decide) (by decide))]; exact hTD.2 i p q⟩
    refine he_aload (n := 35) (i := 0) (by decide +kernel) rfl ?_
    refine he_getr (n := 38) (ci := 0) (j := 2) (ns := [2079, 25]) (b := 37) hm3 (by decide +kernel) rfl rfl (by decide +kernel) ?_
    refine he_iload (n := 39) (i := 1) (by decide +kernel) rfl ?_
    refine he_aald (n := 40) (kind := 71) (b := 58) hm3 (by decide +kernel) rfl rfl (by decide) (by omega) (by rw [show x1.toInt.toNat = 1 by omega]; decide +kernel) ?_
    refine he_aload (n := 41) (i := 0) (by decide +kernel) rfl ?_
    refine he_getr (n := 44) (ci := 0) (j := 0) (ns := [2077, 12]) (b := 9) hm3 (by decide +kernel) rfl rfl (by decide +kernel) ?_
    refine he_v1 (n := 47) (j := 48) (ci := 1) (mx := 3) (ns := [3001, 3002, 3003, 129]) (by decide +kernel) ((hb_kd (a := 58) hm3 rfl).trans rfl) (by decide) (by show 2 ≤ 3; omega) ?_
    rw [mq_e48]
    refine xo_exam58 (len := (hv M 33 3 + hv M 33 5 + 4).toNat) hm3 (by rw [al]; omega) (by omega) hMO' hTL' hTD' ?_
    intro M4 hm4 w4 l4 hX4
    show mq_R mq_PP (d + 8) 3 47 _ [] (M4, z, u) Q
    refine he_iconst (n := 48) (c := 1) (by decide +kernel) (by decide) ?_
    intro c47 hc47
    refine he_retz (by decide +kernel) (by omega) ?_
    refine K M4 _ (xEA_s (s := 1) (fun b p q o' => by rw [w4 b (by omega) (by omega), w3 b (by omega) (by omega) (by omega)]) hE ?_)
    rw [show hv M4 (48 + 11 * 1) = hv M3 59 from funext fun t => hb_vc (w4 59 (by decide) (by decide)) t, show (hv M4 (47 + 11 * 1) 1).toNat = (hv M 33 3 + hv M 33 5 + 4).toNat by show (hv M4 58 1).toNat = _; rw [l4]; omega]
    exact hX4
  · skip
    refine he_ifle_f (n := 19) (t := 21) (by decide +kernel) (by omega) ?_
    refine he_iconst (n := 20) (c := 0) (by decide +kernel) (by decide) ?_
    intro c19 hc19
    refine he_retz (by decide +kernel) (by omega) ?_
    exact K M _ hE
theorem xq_fin2 {d z u : Nat} {M : Nat → mq_C} {Q : (Option Value ⊕ Nat) → mq_S → Prop} {x1 : Int32} (hm : mz_sh mz_GG M) (b0 : 0 ≤ hv M 33 3) (r0 : 0 ≤ hv M 33 5) (e0 : 0 ≤ hv M 33 6) (e1 : hv M 33 6 ≤ 6) (hr : hv M 33 3 + hv M 33 5 + 4 ≤ 240) (hMO : M 1 = (60, mq_MO)) (hTL : xT M 24 288 xfL) (hTD : xT M 28 32 xfD) (hE : xEA M) (hs : x1.toInt = 2) (K : ∀ (M' : Nat → mq_C) (r : Int32), xEA M' → Q (.inl (some (.int r))) (M', z, u)) : mq_R mq_PP (d + 8) 3 0 [some (.ref 8), some (.int x1)] [] (M, z, u) Q := by
  refine he_iload (n := 1) (i := 1) (by decide +kernel) rfl ?_
  refine he_s1 (n := 4) (j := 17) (mx := 1) (ns := [2234, 2235, 1001, 121]) (by decide +kernel) (by show 0 ≤ 8; omega) (by show 1 ≤ 1; omega) ?_
  rw [mq_e17]
  refine xn_slot ?_
  intro r1 ra rb
  have hr1 := ra ⟨by omega, by omega⟩
  show mq_R mq_PP (d + 8) 3 4 _ [.int r1] (M, z, u) Q
  refine he_ifeq_f (n := 7) (t := 19) (by decide +kernel) (by omega) ?_
  refine he_aload (n := 8) (i := 0) (by decide +kernel) rfl ?_
  refine he_getr (n := 11) (ci := 0) (j := 2) (ns := [2079, 25]) (b := 37) hm (by decide +kernel) rfl rfl (by decide +kernel) ?_
  refine he_iload (n := 12) (i := 1) (by decide +kernel) rfl ?_
  refine he_aald (n := 13) (kind := 71) (b := 69) hm (by decide +kernel) rfl rfl (by decide) (by omega) (by rw [show x1.toInt.toNat = 2 by omega]; decide +kernel) ?_
  refine hb_gfd (n := 16) (ci := 1) (j := 1) (ns := [1218, 124]) hm (by decide +kernel) rfl rfl (by decide) rfl ?_
  intro v13 hv13 lv13 uv13
  by_cases h16 : v13.toInt ≤ 0
  · skip
    refine he_ifle_t (n := 19) (t := 21) (by decide +kernel) (by omega) ?_
    refine he_aload (n := 22) (i := 0) (by decide +kernel) rfl ?_
    refine he_getr (n := 25) (ci := 0) (j := 1) (ns := [2078, 19]) (b := 33) hm (by decide +kernel) rfl rfl (by decide +kernel) ?_
    refine he_aload (n := 26) (i := 0) (by decide +kernel) rfl ?_
    refine he_getr (n := 29) (ci := 0) (j := 2) (ns := [2079, 25]) (b := 37) hm (by decide +kernel) rfl rfl (by decide +kernel) ?_
    refine he_iload (n := 30) (i := 1) (by decide +kernel) rfl ?_
    refine he_aald (n := 31) (kind := 71) (b := 69) hm (by decide +kernel) rfl rfl (by decide) (by omega) (by rw [show x1.toInt.toNat = 2 by omega]; decide +kernel) ?_
    refine he_v1 (n := 34) (j := 80) (ci := 6) (mx := 3) (ns := [2237, 2238, 2239, 125]) (by decide +kernel) ((hb_kd (a := 33) hm rfl).trans rfl) (by decide) (by show 2 ≤ 3; omega) ?_
    rw [mq_e80]
    refine xn_wt2 hm b0 r0 e0 e1 hr ?_
    intro M3 hm3 w3 s3 n3 n5 n6 a3 al by0 by1 q0 q1 q2 q3
    show mq_R mq_PP (d + 8) 3 34 _ [] (M3, z, u) Q
    have hMO' : M3 1 = (60, mq_MO) := (w3 1 (by decide) (by decide) (by decide)).trans hMO
    have hTL' : xT M3 24 288 xfL := ⟨fun b p q => by rw [hb_vc (w3 (24 + 1) (by decide) (by decide) (by decide))]; exact hTL.1 b p q, fun i p q => by rw [hb_vc (w3 (24 + 3) (by decide) (by decide) (by decide))]; exact hTL.2 i p q⟩
    have hTD' : xT M3 28 32 xfD := ⟨fun b p q => by rw [hb_vc (w3 (28 + 1) (by decide) (by decide) (by decide))]; exact hTD.1 b p q, fun i p q => by rw [hb_vc (w3 (28 + 3) (by decide) (by decide) (by decide))]; exact hTD.2 i p q⟩
    refine he_aload (n := 35) (i := 0) (by decide +kernel) rfl ?_
    refine he_getr (n := 38) (ci := 0) (j := 2) (ns := [2079, 25]) (b := 37) hm3 (by decide +kernel) rfl rfl (by decide +kernel) ?_
    refine he_iload (n := 39) (i := 1) (by decide +kernel) rfl ?_
    refine he_aald (n := 40) (kind := 71) (b := 69) hm3 (by decide +kernel) rfl rfl (by decide) (by omega) (by rw [show x1.toInt.toNat = 2 by omega]; decide +kernel) ?_
    refine he_aload (n := 41) (i := 0) (by decide +kernel) rfl ?_
    refine he_getr (n := 44) (ci := 0) (j := 0) (ns := [2077, 12]) (b := 9) hm3 (by decide +kernel) rfl rfl (by decide +kernel) ?_
    refine he_v1 (n := 47) (j := 48) (ci := 1) (mx := 3) (ns := [3001, 3002, 3003, 129]) (by decide +kernel) ((hb_kd (a := 69) hm3 rfl).trans rfl) (by decide) (by show 2 ≤ 3; omega) ?_
    rw [mq_e48]
    refine xo_exam69 (len := (hv M 33 3 + hv M 33 5 + 4).toNat) hm3 (by rw [al]; omega) (by omega) hMO' hTL' hTD' ?_
    intro M4 hm4 w4 l4 hX4
    show mq_R mq_PP (d + 8) 3 47 _ [] (M4, z, u) Q
    refine he_iconst (n := 48) (c := 1) (by decide +kernel) (by decide) ?_
    intro c47 hc47
    refine he_retz (by decide +kernel) (by omega) ?_
    refine K M4 _ (xEA_s (s := 2) (fun b p q o' => by rw [w4 b (by omega) (by omega), w3 b (by omega) (by omega) (by omega)]) hE ?_)
    rw [show hv M4 (48 + 11 * 2) = hv M3 70 from funext fun t => hb_vc (w4 70 (by decide) (by decide)) t, show (hv M4 (47 + 11 * 2) 1).toNat = (hv M 33 3 + hv M 33 5 + 4).toNat by show (hv M4 69 1).toNat = _; rw [l4]; omega]
    exact hX4
  · skip
    refine he_ifle_f (n := 19) (t := 21) (by decide +kernel) (by omega) ?_
    refine he_iconst (n := 20) (c := 0) (by decide +kernel) (by decide) ?_
    intro c19 hc19
    refine he_retz (by decide +kernel) (by omega) ?_
    exact K M _ hE
theorem xq_fin3 {d z u : Nat} {M : Nat → mq_C} {Q : (Option Value ⊕ Nat) → mq_S → Prop} {x1 : Int32} (hm : mz_sh mz_GG M) (b0 : 0 ≤ hv M 33 3) (r0 : 0 ≤ hv M 33 5) (e0 : 0 ≤ hv M 33 6) (e1 : hv M 33 6 ≤ 6) (hr : hv M 33 3 + hv M 33 5 + 4 ≤ 240) (hMO : M 1 = (60, mq_MO)) (hTL : xT M 24 288 xfL) (hTD : xT M 28 32 xfD) (hE : xEA M) (hs : x1.toInt = 3) (K : ∀ (M' : Nat → mq_C) (r : Int32), xEA M' → Q (.inl (some (.int r))) (M', z, u)) : mq_R mq_PP (d + 8) 3 0 [some (.ref 8), some (.int x1)] [] (M, z, u) Q := by
  refine he_iload (n := 1) (i := 1) (by decide +kernel) rfl ?_
  refine he_s1 (n := 4) (j := 17) (mx := 1) (ns := [2234, 2235, 1001, 121]) (by decide +kernel) (by show 0 ≤ 8; omega) (by show 1 ≤ 1; omega) ?_
  rw [mq_e17]
  refine xn_slot ?_
  intro r1 ra rb
  have hr1 := ra ⟨by omega, by omega⟩
  show mq_R mq_PP (d + 8) 3 4 _ [.int r1] (M, z, u) Q
  refine he_ifeq_f (n := 7) (t := 19) (by decide +kernel) (by omega) ?_
  refine he_aload (n := 8) (i := 0) (by decide +kernel) rfl ?_
  refine he_getr (n := 11) (ci := 0) (j := 2) (ns := [2079, 25]) (b := 37) hm (by decide +kernel) rfl rfl (by decide +kernel) ?_
  refine he_iload (n := 12) (i := 1) (by decide +kernel) rfl ?_
  refine he_aald (n := 13) (kind := 71) (b := 80) hm (by decide +kernel) rfl rfl (by decide) (by omega) (by rw [show x1.toInt.toNat = 3 by omega]; decide +kernel) ?_
  refine hb_gfd (n := 16) (ci := 1) (j := 1) (ns := [1218, 124]) hm (by decide +kernel) rfl rfl (by decide) rfl ?_
  intro v13 hv13 lv13 uv13
  by_cases h16 : v13.toInt ≤ 0
  · skip
    refine he_ifle_t (n := 19) (t := 21) (by decide +kernel) (by omega) ?_
    refine he_aload (n := 22) (i := 0) (by decide +kernel) rfl ?_
    refine he_getr (n := 25) (ci := 0) (j := 1) (ns := [2078, 19]) (b := 33) hm (by decide +kernel) rfl rfl (by decide +kernel) ?_
    refine he_aload (n := 26) (i := 0) (by decide +kernel) rfl ?_
    refine he_getr (n := 29) (ci := 0) (j := 2) (ns := [2079, 25]) (b := 37) hm (by decide +kernel) rfl rfl (by decide +kernel) ?_
    refine he_iload (n := 30) (i := 1) (by decide +kernel) rfl ?_
    refine he_aald (n := 31) (kind := 71) (b := 80) hm (by decide +kernel) rfl rfl (by decide) (by omega) (by rw [show x1.toInt.toNat = 3 by omega]; decide +kernel) ?_
    refine he_v1 (n := 34) (j := 80) (ci := 6) (mx := 3) (ns := [2237, 2238, 2239, 125]) (by decide +kernel) ((hb_kd (a := 33) hm rfl).trans rfl) (by decide) (by show 2 ≤ 3; omega) ?_
    rw [mq_e80]
    refine xn_wt3 hm b0 r0 e0 e1 hr ?_
    intro M3 hm3 w3 s3 n3 n5 n6 a3 al by0 by1 q0 q1 q2 q3
    show mq_R mq_PP (d + 8) 3 34 _ [] (M3, z, u) Q
    have hMO' : M3 1 = (60, mq_MO) := (w3 1 (by decide) (by decide) (by decide)).trans hMO
    have hTL' : xT M3 24 288 xfL := ⟨fun b p q => by rw [hb_vc (w3 (24 + 1) (by decide) (by decide) (by decide))]; exact hTL.1 b p q, fun i p q => by rw [hb_vc (w3 (24 + 3) (by decide) (by decide) (by decide))]; exact hTL.2 i p q⟩
    have hTD' : xT M3 28 32 xfD := ⟨fun b p q => by rw [hb_vc (w3 (28 + 1) (by decide) (by decide) (by decide))]; exact hTD.1 b p q, fun i p q => by rw [hb_vc (w3 (28 + 3) (by decide) (by decide) (by decide))]; exact hTD.2 i p q⟩
    refine he_aload (n := 35) (i := 0) (by decide +kernel) rfl ?_
    refine he_getr (n := 38) (ci := 0) (j := 2) (ns := [2079, 25]) (b := 37) hm3 (by decide +kernel) rfl rfl (by decide +kernel) ?_
    refine he_iload (n := 39) (i := 1) (by decide +kernel) rfl ?_
    refine he_aald (n := 40) (kind := 71) (b := 80) hm3 (by decide +kernel) rfl rfl (by decide) (by omega) (by rw [show x1.toInt.toNat = 3 by omega]; decide +kernel) ?_
    refine he_aload (n := 41) (i := 0) (by decide +kernel) rfl ?_
    refine he_getr (n := 44) (ci := 0) (j := 0) (ns := [2077, 12]) (b := 9) hm3 (by decide +kernel) rfl rfl (by decide +kernel) ?_
    refine he_v1 (n := 47) (j := 48) (ci := 1) (mx := 3) (ns := [3001, 3002, 3003, 129]) (by decide +kernel) ((hb_kd (a := 80) hm3 rfl).trans rfl) (by decide) (by show 2 ≤ 3; omega) ?_
    rw [mq_e48]
    refine xo_exam80 (len := (hv M 33 3 + hv M 33 5 + 4).toNat) hm3 (by rw [al]; omega) (by omega) hMO' hTL' hTD' ?_
    intro M4 hm4 w4 l4 hX4
    show mq_R mq_PP (d + 8) 3 47 _ [] (M4, z, u) Q
    refine he_iconst (n := 48) (c := 1) (by decide +kernel) (by decide) ?_
    intro c47 hc47
    refine he_retz (by decide +kernel) (by omega) ?_
    refine K M4 _ (xEA_s (s := 3) (fun b p q o' => by rw [w4 b (by omega) (by omega), w3 b (by omega) (by omega) (by omega)]) hE ?_)
    rw [show hv M4 (48 + 11 * 3) = hv M3 81 from funext fun t => hb_vc (w4 81 (by decide) (by decide)) t, show (hv M4 (47 + 11 * 3) 1).toNat = (hv M 33 3 + hv M 33 5 + 4).toNat by show (hv M4 80 1).toNat = _; rw [l4]; omega]
    exact hX4
  · skip
    refine he_ifle_f (n := 19) (t := 21) (by decide +kernel) (by omega) ?_
    refine he_iconst (n := 20) (c := 0) (by decide +kernel) (by decide) ?_
    intro c19 hc19
    refine he_retz (by decide +kernel) (by omega) ?_
    exact K M _ hE
theorem xq_finish {d z u : Nat} {M : Nat → mq_C} {Q : (Option Value ⊕ Nat) → mq_S → Prop} {x1 : Int32} (hz : 272 ≤ z) (hx : HX M) (hm : mz_sh mz_GG M) (b0 : 0 ≤ hv M 33 3) (r0 : 0 ≤ hv M 33 5) (e0 : 0 ≤ hv M 33 6) (e1 : hv M 33 6 ≤ 6) (hr : hv M 33 3 + hv M 33 5 + 4 ≤ 240) (hMO : M 1 = (60, mq_MO)) (hTL : xT M 24 288 xfL) (hTD : xT M 28 32 xfD) (hE : xEA M) (K : ∀ (M' : Nat → mq_C) (r : Int32), xEA M' → Q (.inl (some (.int r))) (M', z, u)) : mq_R mq_PP (d + 8) 3 0 [some (.ref 8), some (.int x1)] [] (M, z, u) Q := by
  by_cases h : 0 ≤ x1.toInt ∧ x1.toInt ≤ 3
  · have h4 : x1.toInt = 0 ∨ x1.toInt = 1 ∨ x1.toInt = 2 ∨ x1.toInt = 3 := by omega
    rcases h4 with hs | hs | hs | hs
    · exact xq_fin0 hm b0 r0 e0 e1 hr hMO hTL hTD hE hs K
    · exact xq_fin1 hm b0 r0 e0 e1 hr hMO hTL hTD hE hs K
    · exact xq_fin2 hm b0 r0 e0 e1 hr hMO hTL hTD hE hs K
    · exact xq_fin3 hm b0 r0 e0 e1 hr hMO hTL hTD hE hs K
  · exact xn_finn hz hm hx b0 r0 e0 e1 hr h (fun r _ => K M r hE)
