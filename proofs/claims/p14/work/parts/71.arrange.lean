/-! arrange of the model. -/
def ha_B (M0 : Nat → mq_C) (x2 : Int32) (j : Nat) : Int := hv M0 254 (x2.toInt.toNat + j)
def ha_G (M0 : Nat → mq_C) (x2 x3 : Int32) (t : Nat) : Int := hb_occ (ha_B M0 x2) (t + 1) x3.toInt.toNat
theorem ha_g {M0 : Nat → mq_C} {x2 x3 : Int32} (p3 : 0 ≤ x3.toInt) : ∀ j, j ≤ 15 → 0 ≤ hb_sum (ha_G M0 x2 x3) j ∧ hb_sum (ha_G M0 x2 x3) j ≤ x3.toInt := by
  intro j hj
  have h0 : ∀ i, 0 ≤ ha_G M0 x2 x3 i := fun i => hb_cnt_0 _
  have h1 := hb_sum_0 (f := ha_G M0 x2 x3) j (fun i _ => h0 i)
  have h2 := hb_sum_m (f := ha_G M0 x2 x3) (m := j) 15 hj (fun i _ => h0 i)
  have h3 := hb_occ_t (B := ha_B M0 x2) 16 x3.toInt.toNat
  rw [hb_sum_sh] at h3
  have h4 : 0 ≤ hb_occ (ha_B M0 x2) 0 x3.toInt.toNat := hb_cnt_0 _
  have h5 : hb_sum (ha_G M0 x2 x3) 15 = hb_sum (fun t => hb_occ (ha_B M0 x2) (t + 1) x3.toInt.toNat) 15 := rfl
  refine ⟨h1, ?_⟩
  omega
/-- the rows of the other code are the same -/
def ha_F (x1 : Int32) (M0 M : Nat → mq_C) : Prop := hb_only [255, 256] M0 M ∧ ∀ j, (j < 16 * x1.toInt.toNat ∨ 16 * x1.toInt.toNat + 16 ≤ j) → hv M 255 j = hv M0 255 j
theorem ha_sp (k : Nat) (h14 : k ≠ 14) (h15 : k ≠ 15) (a i : Nat) (ha : a = 255 ∨ a = 256) : hsp k a i = false := by
  match k with
  | 0 | 1 | 2 | 3 | 4 | 5 | 6 | 7 | 8 | 9 | 10 | 11 | 12 | 13 | 14 | 15 | 16 | 17 | 18 | 19 | 20 | 21 | 22 | 23 | 24 | 25 | 26 | 27 | 28 | 29 => first | exact absurd rfl h14 | exact absurd rfl h15 | (exact decide_eq_false (by omega))
  | n + 30 => rfl
theorem ha_a {d z u : Nat} {Q : (Option Value ⊕ Nat) → mq_S → Prop} {M0 : Nat → mq_C} {x1 x2 x3 : Int32} (p1 : 0 ≤ x1.toInt) (p2 : x1.toInt ≤ 1) (p3 : 0 ≤ x2.toInt) (p4 : 0 ≤ x3.toInt) (p5 : x2.toInt + x3.toInt ≤ 320) (p6 : x3.toInt ≤ 288) : ∀ (m : Nat) (M : Nat → mq_C) (x4 x5 x6 : Int32), (m : Int) + x6.toInt = 16 → 0 ≤ x6.toInt → x5.toInt = 0 → mz_sh mz_GG M → ha_F x1 M0 M → (∀ j : Nat, (j : Int) < x6.toInt → hv M 255 (16 * x1.toInt.toNat + j) = 0) → (∀ (M' : Nat → mq_C) (y6 : Int32), y6.toInt = 1 → mz_sh mz_GG M' → ha_F x1 M0 M' → (∀ j : Nat, j < 16 → hv M' 255 (16 * x1.toInt.toNat + j) = 0) → mq_R mq_PP d 112 38 [some (.ref 234), some (.int x1), some (.int x2), some (.int x3), some (.int x4), some (.int x5), some (.int y6), none] [] (M', z, u) Q) → mq_R mq_PP d 112 9 [some (.ref 234), some (.int x1), some (.int x2), some (.int x3), some (.int x4), some (.int x5), some (.int x6), none] [] (M, z, u) Q := by
  intro m
  induction m with
  | zero =>
    intro M x4 x5 x6 e1 e2 e3 hm hf hj K
    refine he_iload (n := 11) (i := 6) (by decide +kernel) rfl ?_
    refine he_iconst (n := 13) (c := 16) (by decide +kernel) (by decide) ?_
    intro c11 hc11
    refine he_cmpge_t (n := 16) (t := 35) (by decide +kernel) (by omega) ?_
    refine he_iconst (n := 36) (c := 1) (by decide +kernel) (by decide) ?_
    intro c35 hc35
    refine he_istore (n := 38) (i := 6) (by decide +kernel) rfl ?_
    exact K M c35 hc35 hm hf (fun j hj' => hj j (by omega))
  | succ m ih =>
    intro M x4 x5 x6 e1 e2 e3 hm hf hj K
    refine he_iload (n := 11) (i := 6) (by decide +kernel) rfl ?_
    refine he_iconst (n := 13) (c := 16) (by decide +kernel) (by decide) ?_
    intro c11 hc11
    refine he_cmpge_f (n := 16) (t := 35) (by decide +kernel) (by omega) ?_
    refine he_aload (n := 17) (i := 0) (by decide +kernel) rfl ?_
    refine he_getr (n := 20) (ci := 9) (j := 28) (ns := [4205, 71]) (b := 255) hm (by decide +kernel) rfl rfl (by decide +kernel) ?_
    refine he_iconst (n := 22) (c := 16) (by decide +kernel) (by decide) ?_
    intro c20 hc20
    refine he_iload (n := 23) (i := 1) (by decide +kernel) rfl ?_
    refine he_imul (n := 24) (p := 16 * x1.toInt) (by decide +kernel) (by rw [hc20]) (by omega) (by omega) ?_
    intro v23 hv23
    refine he_iload (n := 26) (i := 6) (by decide +kernel) rfl ?_
    refine he_iadd (n := 27) (by decide +kernel) (by omega) (by omega) ?_
    intro v26 hv26
    refine he_iconst (n := 28) (c := 0) (by decide +kernel) (by decide) ?_
    intro c27 hc27
    refine hb_sta (n := 29) (kind := 64) hm (by decide +kernel) rfl rfl (.inl rfl) (by omega) (show _ < (32 : Int) by omega) ?_
    generalize hM1 : hb_set M 255 (v26.toInt.toNat) c27 = M1
    have hm1 : mz_sh mz_GG M1 := by rw [← hM1]; exact hb_set_sh hm rfl hb_at1 (by omega) (by omega)
    have eM1 : ∀ b j, b ≠ 255 ∨ j ≠ v26.toInt.toNat → hv M1 b j = hv M b j := by intro b j h; rw [← hM1]; exact hb_set_n h
    have sM1 : hv M1 255 (v26.toInt.toNat) = c27.toInt := by rw [← hM1]; exact hb_set_v hm rfl (show _ < 32 by omega)
    have wM1 : ∀ b, b ≠ 255 → M1 b = M b := by intro b h; rw [← hM1]; exact hb_set_c h
    refine he_iinc (n := 32) (i := 6) (c := 1) (L' := fun v => [some (.ref 234), some (.int x1), some (.int x2), some (.int x3), some (.int x4), some (.int x5), some (.int v), none]) (by decide +kernel) (by decide) rfl (fun _ => rfl) (by omega) (by omega) ?_
    intro i29 hi29
    refine he_goto (t := 9) (by decide +kernel) ?_
    refine ih M1 x4 x5 i29 (by omega) (by omega) e3 hm1 ⟨hb_only_s hf.1 (by decide) wM1, fun j hj => ?_⟩ ?_ K
    · rw [eM1 _ _ (.inr (by omega))]
      exact hf.2 j hj
    · intro j hjj
      by_cases e : j = x6.toInt.toNat
      · rw [e, show 16 * x1.toInt.toNat + x6.toInt.toNat = v26.toInt.toNat by omega, sM1]; omega
      · rw [eM1 _ _ (.inr (by omega))]
        exact hj j (by omega)
theorem ha_c {d z u : Nat} {Q : (Option Value ⊕ Nat) → mq_S → Prop} {M0 : Nat → mq_C} {x1 x2 x3 : Int32} (p1 : 0 ≤ x1.toInt) (p2 : x1.toInt ≤ 1) (p3 : 0 ≤ x2.toInt) (p4 : 0 ≤ x3.toInt) (p5 : x2.toInt + x3.toInt ≤ 320) (p6 : x3.toInt ≤ 288) {x6 : Int32} (p7 : 1 ≤ x6.toInt) (p8 : x6.toInt ≤ 15) : ∀ (m : Nat) (M : Nat → mq_C) (x4 x5 x7 : Int32), (m : Int) + x7.toInt = x3.toInt → 0 ≤ x7.toInt → x5.toInt = hb_sum (ha_G M0 x2 x3) (x6.toInt.toNat - 1) + hb_occ (ha_B M0 x2) x6.toInt.toNat x7.toInt.toNat → mz_sh mz_GG M → ha_F x1 M0 M → (∀ j : Nat, 1 ≤ j → (j : Int) < x6.toInt → hv M 255 (16 * x1.toInt.toNat + j) = hb_occ (ha_B M0 x2) j x3.toInt.toNat) → hv M 255 (16 * x1.toInt.toNat + x6.toInt.toNat) = hb_occ (ha_B M0 x2) x6.toInt.toNat x7.toInt.toNat → (∀ j : Nat, x6.toInt < (j : Int) → j < 16 → hv M 255 (16 * x1.toInt.toNat + j) = 0) → (∀ (M' : Nat → mq_C) (y4 y5 y6 y7 : Int32), y6.toInt = x6.toInt + 1 → y5.toInt = hb_sum (ha_G M0 x2 x3) x6.toInt.toNat → mz_sh mz_GG M' → ha_F x1 M0 M' → (∀ j : Nat, 1 ≤ j → (j : Int) < y6.toInt → hv M' 255 (16 * x1.toInt.toNat + j) = hb_occ (ha_B M0 x2) j x3.toInt.toNat) → (∀ j : Nat, y6.toInt ≤ (j : Int) → j < 16 → hv M' 255 (16 * x1.toInt.toNat + j) = 0) → mq_R mq_PP d 112 38 [some (.ref 234), some (.int x1), some (.int x2), some (.int x3), some (.int y4), some (.int y5), some (.int y6), some (.int y7)] [] (M', z, u) Q) → mq_R mq_PP d 112 48 [some (.ref 234), some (.int x1), some (.int x2), some (.int x3), some (.int x4), some (.int x5), some (.int x6), some (.int x7)] [] (M, z, u) Q := by
  have hG : hb_sum (ha_G M0 x2 x3) x6.toInt.toNat = hb_sum (ha_G M0 x2 x3) (x6.toInt.toNat - 1) + hb_occ (ha_B M0 x2) x6.toInt.toNat x3.toInt.toNat := by
    obtain ⟨t, ht⟩ : ∃ t, x6.toInt.toNat = t + 1 := ⟨x6.toInt.toNat - 1, by omega⟩
    rw [ht]
    rfl
  have hg := ha_g (M0 := M0) (x2 := x2) p4 x6.toInt.toNat (by omega)
  have hg' := ha_g (M0 := M0) (x2 := x2) p4 (x6.toInt.toNat - 1) (by omega)
  intro m
  induction m with
  | zero =>
    intro M x4 x5 x7 e1 e2 e3 hm hf i1 i2 i3 K
    refine he_iload (n := 50) (i := 7) (by decide +kernel) rfl ?_
    refine he_iload (n := 51) (i := 3) (by decide +kernel) rfl ?_
    refine he_cmpge_t (n := 54) (t := 120) (by decide +kernel) (by omega) ?_
    refine he_iinc (n := 123) (i := 6) (c := 1) (L' := fun v => [some (.ref 234), some (.int x1), some (.int x2), some (.int x3), some (.int x4), some (.int x5), some (.int v), some (.int x7)]) (by decide +kernel) (by decide) rfl (fun _ => rfl) (by omega) (by omega) ?_
    intro i120 hi120
    refine he_goto (t := 38) (by decide +kernel) ?_
    have e9 : x7.toInt.toNat = x3.toInt.toNat := by omega
    rw [e9] at e3 i2
    refine K M x4 x5 i120 x7 (by omega) (by omega) hm hf ?_ (fun j h1 h2 => i3 j (by omega) h2)
    intro j h1 h2
    by_cases e : j = x6.toInt.toNat
    · rw [e]
      exact i2
    · exact i1 j h1 (by omega)
  | succ m ih =>
    intro M x4 x5 x7 e1 e2 e3 hm hf i1 i2 i3 K
    refine he_iload (n := 50) (i := 7) (by decide +kernel) rfl ?_
    refine he_iload (n := 51) (i := 3) (by decide +kernel) rfl ?_
    refine he_cmpge_f (n := 54) (t := 120) (by decide +kernel) (by omega) ?_
    refine he_aload (n := 55) (i := 0) (by decide +kernel) rfl ?_
    refine he_getr (n := 58) (ci := 9) (j := 27) (ns := [4204, 68]) (b := 254) hm (by decide +kernel) rfl rfl (by decide +kernel) ?_
    refine he_iload (n := 59) (i := 2) (by decide +kernel) rfl ?_
    refine he_iload (n := 61) (i := 7) (by decide +kernel) rfl ?_
    refine he_iadd (n := 62) (by decide +kernel) (by omega) (by omega) ?_
    intro v61 hv61
    refine hb_ld (n := 63) (kind := 64) hm (by decide +kernel) rfl rfl (.inl rfl) (by omega) (show _ < (320 : Int) by omega) hb_at1 ?_
    intro v62 hv62 lv62 uv62
    refine he_iload (n := 65) (i := 6) (by decide +kernel) rfl ?_
    have hBv : ha_B M0 x2 x7.toInt.toNat = v62.toInt := by
      show hv M0 254 (x2.toInt.toNat + x7.toInt.toNat) = _
      rw [← hv62, show v61.toInt.toNat = x2.toInt.toNat + x7.toInt.toNat by omega]
      exact (hb_vc (hf.1 254 (by decide)) _).symm
    have hle : hb_occ (ha_B M0 x2) x6.toInt.toNat x7.toInt.toNat ≤ ((x7.toInt.toNat : Nat) : Int) := hb_cnt_le _ _
    have hge : 0 ≤ hb_occ (ha_B M0 x2) x6.toInt.toNat x7.toInt.toNat := hb_cnt_0 _
    by_cases h65 : v62.toInt = x6.toInt
    · have hoc := hb_occ_m (B := ha_B M0 x2) (b := x6.toInt.toNat) (i := x7.toInt.toNat) (n := x3.toInt.toNat) (by omega) (by rw [hBv]; omega)
      refine he_cmpne_f (n := 68) (t := 114) (by decide +kernel) (by omega) ?_
      refine he_aload (n := 69) (i := 0) (by decide +kernel) rfl ?_
      refine he_getr (n := 72) (ci := 9) (j := 29) (ns := [4206, 74]) (b := 256) hm (by decide +kernel) rfl rfl (by decide +kernel) ?_
      refine he_iconst (n := 75) (c := 320) (by decide +kernel) (by decide) ?_
      intro c72 hc72
      refine he_iload (n := 76) (i := 1) (by decide +kernel) rfl ?_
      refine he_imul (n := 77) (p := 320 * x1.toInt) (by decide +kernel) (by rw [hc72]) (by omega) (by omega) ?_
      intro v76 hv76
      refine he_iload (n := 79) (i := 5) (by decide +kernel) rfl ?_
      refine he_iadd (n := 80) (by decide +kernel) (by omega) (by omega) ?_
      intro v79 hv79
      refine he_iload (n := 82) (i := 7) (by decide +kernel) rfl ?_
      refine hb_sta (n := 83) (kind := 64) hm (by decide +kernel) rfl rfl (.inl rfl) (by omega) (show _ < (640 : Int) by omega) ?_
      generalize hM1 : hb_set M 256 (v79.toInt.toNat) x7 = M1
      have hm1 : mz_sh mz_GG M1 := by rw [← hM1]; exact hb_set_sh hm rfl hb_at1 (by omega) (by omega)
      have eM1 : ∀ b j, b ≠ 256 ∨ j ≠ v79.toInt.toNat → hv M1 b j = hv M b j := by intro b j h; rw [← hM1]; exact hb_set_n h
      have sM1 : hv M1 256 (v79.toInt.toNat) = x7.toInt := by rw [← hM1]; exact hb_set_v hm rfl (show _ < 640 by omega)
      have wM1 : ∀ b, b ≠ 256 → M1 b = M b := by intro b h; rw [← hM1]; exact hb_set_c h
      refine he_iinc (n := 86) (i := 5) (c := 1) (L' := fun v => [some (.ref 234), some (.int x1), some (.int x2), some (.int x3), some (.int x4), some (.int v), some (.int x6), some (.int x7)]) (by decide +kernel) (by decide) rfl (fun _ => rfl) (by omega) (by omega) ?_
      intro i83 hi83
      refine he_aload (n := 87) (i := 0) (by decide +kernel) rfl ?_
      refine he_getr (n := 90) (ci := 9) (j := 28) (ns := [4205, 71]) (b := 255) hm1 (by decide +kernel) rfl rfl (by decide +kernel) ?_
      refine he_iconst (n := 92) (c := 16) (by decide +kernel) (by decide) ?_
      intro c90 hc90
      refine he_iload (n := 93) (i := 1) (by decide +kernel) rfl ?_
      refine he_imul (n := 94) (p := 16 * x1.toInt) (by decide +kernel) (by rw [hc90]) (by omega) (by omega) ?_
      intro v93 hv93
      refine he_iload (n := 96) (i := 6) (by decide +kernel) rfl ?_
      refine he_iadd (n := 97) (by decide +kernel) (by omega) (by omega) ?_
      intro v96 hv96
      refine he_dup2 (n := 98) (by decide +kernel) ?_
      refine hb_ld (n := 99) (kind := 64) hm1 (by decide +kernel) rfl rfl (.inl rfl) (by omega) (show _ < (32 : Int) by omega) hb_at1 ?_
      intro v98 hv98 lv98 uv98
      refine he_iconst (n := 100) (c := 1) (by decide +kernel) (by decide) ?_
      intro c99 hc99
      refine he_iadd (n := 101) (by decide +kernel) (by omega) (by omega) ?_
      intro v100 hv100
      have q9 : v98.toInt = hb_occ (ha_B M0 x2) x6.toInt.toNat x7.toInt.toNat := by
        rw [← hv98, eM1 _ _ (.inl (by decide)), ← i2, show v96.toInt.toNat = 16 * x1.toInt.toNat + x6.toInt.toNat by omega]
      refine hb_sta (n := 102) (kind := 64) hm1 (by decide +kernel) rfl rfl (.inl rfl) (by omega) (show _ < (32 : Int) by omega) ?_
      generalize hM2 : hb_set M1 255 (v96.toInt.toNat) v100 = M2
      have hm2 : mz_sh mz_GG M2 := by rw [← hM2]; exact hb_set_sh hm1 rfl hb_at1 (by omega) (by omega)
      have eM2 : ∀ b j, b ≠ 255 ∨ j ≠ v96.toInt.toNat → hv M2 b j = hv M1 b j := by intro b j h; rw [← hM2]; exact hb_set_n h
      have sM2 : hv M2 255 (v96.toInt.toNat) = v100.toInt := by rw [← hM2]; exact hb_set_v hm1 rfl (show _ < 32 by omega)
      have wM2 : ∀ b, b ≠ 255 → M2 b = M1 b := by intro b h; rw [← hM2]; exact hb_set_c h
      refine he_iload (n := 104) (i := 4) (by decide +kernel) rfl ?_
      refine he_iconst (n := 105) (c := 1) (by decide +kernel) (by decide) ?_
      intro c104 hc104
      refine he_iconst (n := 107) (c := 15) (by decide +kernel) (by decide) ?_
      intro c105 hc105
      refine he_iload (n := 109) (i := 6) (by decide +kernel) rfl ?_
      refine he_isub (n := 110) (by decide +kernel) (by omega) (by omega) ?_
      intro v109 hv109
      refine he_any2 (o := 15) (n := 111) (by decide +kernel) rfl ?_
      intro v110
      have bv110 := mz_i32 v110
      refine he_any2 (o := 9) (n := 112) (by decide +kernel) rfl ?_
      intro v111
      have bv111 := mz_i32 v111
      refine he_istore (n := 114) (i := 4) (by decide +kernel) rfl ?_
      refine he_iinc (n := 117) (i := 7) (c := 1) (L' := fun v => [some (.ref 234), some (.int x1), some (.int x2), some (.int x3), some (.int v111), some (.int i83), some (.int x6), some (.int v)]) (by decide +kernel) (by decide) rfl (fun _ => rfl) (by omega) (by omega) ?_
      intro i114 hi114
      refine he_goto (t := 48) (by decide +kernel) ?_
      have e96 : v96.toInt.toNat = 16 * x1.toInt.toNat + x6.toInt.toNat := by omega
      have hnew : hb_occ (ha_B M0 x2) x6.toInt.toNat (x7.toInt.toNat + 1) = hb_occ (ha_B M0 x2) x6.toInt.toNat x7.toInt.toNat + 1 := by
        rw [hb_occ_s, hBv, if_pos (by omega)]
      refine ih M2 v111 i83 i114 (by omega) (by omega) ?_ hm2 ⟨hb_only_s (hb_only_s hf.1 (by decide) wM1) (by decide) wM2, fun j hj => ?_⟩ ?_ ?_ ?_ K
      · rw [show i114.toInt.toNat = x7.toInt.toNat + 1 by omega, hnew]
        omega
      · rw [eM2 _ _ (.inr (by omega)), eM1 _ _ (.inl (by decide))]
        exact hf.2 j hj
      · intro j h1 h2
        rw [eM2 _ _ (.inr (by omega)), eM1 _ _ (.inl (by decide))]
        exact i1 j h1 h2
      · rw [show i114.toInt.toNat = x7.toInt.toNat + 1 by omega, hnew, ← e96, sM2]
        omega
      · intro j h1 h2
        rw [eM2 _ _ (.inr (by omega)), eM1 _ _ (.inl (by decide))]
        exact i3 j h1 h2
    · skip
      refine he_cmpne_t (n := 68) (t := 114) (by decide +kernel) (by omega) ?_
      refine he_iinc (n := 117) (i := 7) (c := 1) (L' := fun v => [some (.ref 234), some (.int x1), some (.int x2), some (.int x3), some (.int x4), some (.int x5), some (.int x6), some (.int v)]) (by decide +kernel) (by decide) rfl (fun _ => rfl) (by omega) (by omega) ?_
      intro i114 hi114
      refine he_goto (t := 48) (by decide +kernel) ?_
      have hnew : hb_occ (ha_B M0 x2) x6.toInt.toNat (x7.toInt.toNat + 1) = hb_occ (ha_B M0 x2) x6.toInt.toNat x7.toInt.toNat := by
        rw [hb_occ_s, hBv, if_neg (by omega)]
        omega
      have e7 : i114.toInt.toNat = x7.toInt.toNat + 1 := by omega
      refine ih M x4 x5 i114 (by omega) (by omega) ?_ hm hf i1 ?_ i3 K
      · rw [e7, hnew]
        exact e3
      · rw [e7, hnew]
        exact i2
theorem ha_b {d z u : Nat} {Q : (Option Value ⊕ Nat) → mq_S → Prop} {M0 : Nat → mq_C} {x1 x2 x3 : Int32} (p1 : 0 ≤ x1.toInt) (p2 : x1.toInt ≤ 1) (p3 : 0 ≤ x2.toInt) (p4 : 0 ≤ x3.toInt) (p5 : x2.toInt + x3.toInt ≤ 320) (p6 : x3.toInt ≤ 288) : ∀ (m : Nat) (M : Nat → mq_C) (x4 x5 x6 : Int32) (o7 : Option Value), (m : Int) + x6.toInt = 16 → 1 ≤ x6.toInt → x5.toInt = hb_sum (ha_G M0 x2 x3) (x6.toInt.toNat - 1) → mz_sh mz_GG M → ha_F x1 M0 M → (∀ j : Nat, 1 ≤ j → (j : Int) < x6.toInt → hv M 255 (16 * x1.toInt.toNat + j) = hb_occ (ha_B M0 x2) j x3.toInt.toNat) → (∀ j : Nat, x6.toInt ≤ (j : Int) → j < 16 → hv M 255 (16 * x1.toInt.toNat + j) = 0) → (∀ (M' : Nat → mq_C) (y4 y5 y6 : Int32) (o7 : Option Value), 0 ≤ y5.toInt → y5.toInt ≤ 288 → mz_sh mz_GG M' → ha_F x1 M0 M' → (∀ j : Nat, 1 ≤ j → j < 16 → hv M' 255 (16 * x1.toInt.toNat + j) = hb_occ (ha_B M0 x2) j x3.toInt.toNat) → mq_nl o7 = true → mq_R mq_PP d 112 126 [some (.ref 234), some (.int x1), some (.int x2), some (.int x3), some (.int y4), some (.int y5), some (.int y6), o7] [] (M', z, u) Q) → mq_nl o7 = true → mq_R mq_PP d 112 38 [some (.ref 234), some (.int x1), some (.int x2), some (.int x3), some (.int x4), some (.int x5), some (.int x6), o7] [] (M, z, u) Q := by
  intro m
  induction m with
  | zero =>
    intro M x4 x5 x6 o7 e1 e2 e3 hm hf i1 i2 K ho
    have hg := ha_g (M0 := M0) (x2 := x2) p4 (x6.toInt.toNat - 1) (by omega)
    refine he_iload (n := 40) (i := 6) (by decide +kernel) rfl ?_
    refine he_iconst (n := 42) (c := 16) (by decide +kernel) (by decide) ?_
    intro c40 hc40
    refine he_cmpge_t (n := 45) (t := 126) (by decide +kernel) (by omega) ?_
    exact K M x4 x5 x6 o7 (by omega) (by omega) hm hf (fun j h1 h2 => i1 j h1 (by omega)) ho
  | succ m ih =>
    intro M x4 x5 x6 o7 e1 e2 e3 hm hf i1 i2 K ho
    refine he_iload (n := 40) (i := 6) (by decide +kernel) rfl ?_
    refine he_iconst (n := 42) (c := 16) (by decide +kernel) (by decide) ?_
    intro c40 hc40
    refine he_cmpge_f (n := 45) (t := 126) (by decide +kernel) (by omega) ?_
    refine he_iconst (n := 46) (c := 0) (by decide +kernel) (by decide) ?_
    intro c45 hc45
    refine he_istore (n := 48) (i := 7) (by decide +kernel) rfl ?_
    refine ha_c p1 p2 p3 p4 p5 p6 (x6 := x6) (by omega) (by omega) x3.toInt.toNat M x4 x5 c45 (by omega) (by omega) ?_ hm hf i1 ?_ (fun j h1 h2 => i2 j (by omega) h2) ?_
    · rw [show c45.toInt.toNat = 0 by omega, e3]
      show _ = _ + 0
      omega
    · rw [show c45.toInt.toNat = 0 by omega, i2 x6.toInt.toNat (by omega) (by omega)]
      rfl
    · intro M' y4 y5 y6 y7 g1 g2 hm' hf' j1 j2
      refine ih M' y4 y5 y6 _ (by omega) (by omega) ?_ hm' hf' j1 j2 K rfl
      rw [show y6.toInt.toNat - 1 = x6.toInt.toNat by omega]
      exact g2
def ha_e_q : mz_Q := (112, [(1, 234), (0, 0), (0, 0), (0, 0), (0, 0), (0, 0), (0, 0), (3, 0)], [], [], [(0, 0, [(0, [(69, 1)]), (1, [(69, -1)])])], [])
def ha_e_s : List mz_Sp2 := []
def ha_e_h : List mz_H := [(0, 0, []), (0, 0, []), (0, 0, []), (0, 0, []), (0, 0, []), (0, 0, []), (0, 0, []), (0, 0, []), (0, 0, []), (0, 0, []), (0, 0, []), (0, 0, []), (0, 0, []), (0, 0, []), (0, 0, []), (0, 0, []), (0, 0, []), (0, 0, []), (0, 0, []), (0, 0, []), (0, 0, []), (0, 0, []), (0, 0, []), (0, 0, []), (0, 0, []), (0, 0, []), (0, 0, []), (0, 0, []), (255, 0, []), (0, 0, []), (0, 0, []), (0, 0, []), (0, 0, []), (0, 0, []), (0, 0, []), (0, 0, []), (0, 0, []), (0, 0, []), (0, 0, []), (0, 0, []), (0, 0, []), (0, 0, []), (0, 0, [])]
set_option maxRecDepth 100000 in
theorem ha_e_c : mz_blk mz_GG mq_PP mz_Cs ha_e_q 8 1 126 ha_e_s [] 37 ha_e_h = true := by decide +kernel
theorem ha_e {X : (Nat → mq_C) → Prop} (hX : ∀ M M' : Nat → mq_C, mz_same mz_GG M M' → X M → X M') (hC : ∀ c ∈ mz_Cs, c.2 < 1 → mz_Ct mz_GG mq_PP X c.1 c.2) {d z u : Nat} {M : Nat → mq_C} {Q : (Option Value ⊕ Nat) → mq_S → Prop} {x1 : Int32} {x2 : Int32} {x3 : Int32} {x4 : Int32} {x5 : Int32} {x6 : Int32} {o7 : Option Value} (hd : 1 ≤ d) (hz : 272 ≤ z) (hm : mz_sh mz_GG M) (hx : X M) (h0 : mq_nl o7 = true)
    (w0 : ∀ (M' : Nat → mq_C) (r : Int32), mz_sh mz_GG M' → X M' → mz_fr ha_e_q M M' → (∀ a, a < 8 → M' a = M a) → hb_same mz_GG ha_e_q M M' → 0 ≤ r.toInt → 0 ≤ 1 - r.toInt → Q (.inl (some (.int r))) (M', z, u)) : mq_R mq_PP d 112 126 [some (.ref 234), some (.int x1), some (.int x2), some (.int x3), some (.int x4), some (.int x5), some (.int x6), o7] [] (M, z, u) Q := by
  refine hb_blk mz_GG mq_PP X (q := ha_e_q) (nl := 8) (M := M) hb_okG hX hC ha_e_c hz hd (L := [some (.ref 234), some (.int x1), some (.int x2), some (.int x3), some (.int x4), some (.int x5), some (.int x6), o7]) (st := []) (show hb_lk mz_GG ([(1, 234), (0, 0), (0, 0), (0, 0), (0, 0), (0, 0), (0, 0), (3, 0)]) _ from ⟨⟨List.mem_singleton.mpr rfl, rfl⟩, trivial, trivial, trivial, trivial, trivial, trivial, h0, trivial⟩) (show hb_pk mz_GG ([]) _ from trivial) hm hx ?_ ?_ ?_
  · exact hb_nil
  · intro s hs
    cases hs
  · intro r S hpo
    obtain ⟨b1, b2, b3, b4, b5, p, hp, res, hf, hre⟩ := hpo
    rcases List.mem_cons.mp hp with rfl | hp
    · obtain ⟨x, rfl, hr, hz1, hu1⟩ := mz_re_0 mz_GG hre rfl
      obtain ⟨M', z', u'⟩ := S
      cases hz1
      cases hu1
      have r69 : hb_r1 mz_GG ha_e_q (hb_rb mz_GG ha_e_q 8 [some (.ref 234), some (.int x1), some (.int x2), some (.int x3), some (.int x4), some (.int x5), some (.int x6), o7] [] M) M' res 69 = res := rfl
      obtain ⟨f0, hf⟩ := hb_unc hf
      have f0 : 0 ≤ 0 + (1 * res + 0) := f0
      rw [← hr] at f0
      obtain ⟨f1, hf⟩ := hb_unc hf
      have f1 : 0 ≤ 1 + ((-1) * res + 0) := f1
      rw [← hr] at f1
      exact w0 M' x b1 b2 b3 b4 b5 (by have h1 := f0; omega) (by have h1 := f1; omega)
    cases hp

theorem hs_arrange_P : hc_arrange_P := by
  intro d z u M Q x1 x2 x3 hd hz hm hx p1 p2' p3 p4 p5' p6' K
  have p2 : x1.toInt ≤ 1 := by omega
  have p5 : x2.toInt + x3.toInt ≤ 320 := by omega
  have p6 : x3.toInt ≤ 288 := by omega
  refine he_iconst (n := 1) (c := 0) (by decide +kernel) (by decide) ?_
  intro c0 hc0
  refine he_istore (n := 3) (i := 4) (by decide +kernel) rfl ?_
  refine he_iconst (n := 4) (c := 0) (by decide +kernel) (by decide) ?_
  intro c3 hc3
  refine he_istore (n := 6) (i := 5) (by decide +kernel) rfl ?_
  refine he_iconst (n := 7) (c := 0) (by decide +kernel) (by decide) ?_
  intro c6 hc6
  refine he_istore (n := 9) (i := 6) (by decide +kernel) rfl ?_
  refine ha_a (M0 := M) p1 p2 p3 p4 p5 p6 16 M c0 c3 c6 (by omega) (by omega) (by omega) hm ⟨hb_only_r, fun _ _ => rfl⟩ (fun j hj => by omega) ?_
  intro M1 y6 hy6 hm1 hf1 hc1
  refine ha_b (M0 := M) p1 p2 p3 p4 p5 p6 15 M1 _ _ y6 none (by omega) (by omega) ?_ hm1 hf1 (fun j h1 h2 => by omega) (fun j h1 h2 => hc1 j h2) ?_ rfl
  · rw [show y6.toInt.toNat - 1 = 0 by omega]
    show _ = (0 : Int)
    omega
  intro M2 y4 y5 y6' o7 g1 g2 hm2 hf2 hc2 ho7
  have hg := ha_g (M0 := M) (x2 := x2) p4 15 (by omega)
  have hsum : hb_sum (fun l => hv M2 255 (16 * x1.toInt.toNat + (l + 1))) 15 = hb_sum (ha_G M x2 x3) 15 := hb_sum_c 15 (fun i hi => hc2 (i + 1) (by omega) (by omega))
  have hx2 : HX M2 := by
    intro k
    by_cases e14 : k = 14
    · subst e14
      show hx6 0 M2
      by_cases h0 : x1.toInt = 0
      · unfold hx6
        rw [show x1.toInt.toNat = 0 by omega] at hsum
        rw [hsum]
        omega
      · exact hx6_c (fun i h1 h2 => hf2.2 i (by omega)) (hx 14)
    · by_cases e15 : k = 15
      · subst e15
        show hx6 1 M2
        by_cases h0 : x1.toInt = 0
        · exact hx6_c (fun i h1 h2 => hf2.2 i (by omega)) (hx 15)
        · unfold hx6
          rw [show x1.toInt.toNat = 1 by omega] at hsum
          rw [hsum]
          omega
      · refine hb_only_x hf2.1 ?_ (hx k)
        intro a ha i
        simp only [List.mem_cons, List.not_mem_nil, or_false] at ha
        exact ha_sp k e14 e15 a i (by omega)
  refine ha_e HX_same hb_C1 hd hz hm2 hx2 ho7 ?_
  intro M3 r k1 k2 k3 k4 k5 l1 l2
  exact K M3 r k1 k2 (hb_fr_t (q' := ha_e_q) (fun a ha => rfl) (hb_only_fr hf2.1 (by decide)) k3) (fun a ha => (k4 a ha).trans (hb_low hf2.1 (by decide) a ha)) (hb_same_t (q' := ha_e_q) (fun j hj => rfl) (hb_only_same hf2.1 (by decide +kernel)) k5) l1 l2
theorem hs_arrange : mz_Ct mz_GG mq_PP HX mz_q57 1 := hc_arrange hs_arrange_P
