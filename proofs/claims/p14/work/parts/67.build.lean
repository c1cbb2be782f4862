/-! build of the class's codes. -/
theorem hu_sp12 (k : Nat) (hk : k ≠ 0) (a i : Nat) (ha : a ∈ [12, 13, 14, 15]) : hsp k a i = false := by
  simp only [List.mem_cons, List.not_mem_nil, or_false] at ha
  match k with
  | 0 | 1 | 2 | 3 | 4 | 5 | 6 | 7 | 8 | 9 | 10 | 11 | 12 | 13 | 14 | 15 | 16 | 17 | 18 | 19 | 20 | 21 | 22 | 23 | 24 | 25 | 26 | 27 | 28 | 29 => first | exact absurd rfl hk | (exact decide_eq_false (by omega))
  | n + 30 => rfl
theorem hu_a12 {d z u : Nat} {Q : (Option Value ⊕ Nat) → mq_S → Prop} {M0 : Nat → mq_C} {x2 x3 : Int32} : ∀ (m : Nat) (M : Nat → mq_C) (x4 : Int32), (m : Int) + x4.toInt = 16 → 0 ≤ x4.toInt → mz_sh mz_GG M → hb_only [12, 13, 14, 15] M0 M → (∀ j : Nat, (j : Int) < x4.toInt → hv M 13 j = 0) → (∀ (M' : Nat → mq_C) (y4 : Int32), y4.toInt = 0 → mz_sh mz_GG M' → hb_only [12, 13, 14, 15] M0 M' → (∀ j, j < 16 → hv M' 13 j = 0) → mq_R mq_PP d 63 27 [some (.ref 12), some (.ref 11), some (.int x2), some (.int x3), some (.int y4), none] [] (M', z, u) Q) → mq_R mq_PP d 63 3 [some (.ref 12), some (.ref 11), some (.int x2), some (.int x3), some (.int x4), none] [] (M, z, u) Q := by
  intro m
  induction m with
  | zero =>
    intro M x4 e1 e2 hm ho hj K
    refine he_iload (n := 5) (i := 4) (by decide +kernel) rfl ?_
    refine he_iconst (n := 7) (c := 15) (by decide +kernel) (by decide) ?_
    intro c5 hc5
    refine he_cmpgt_t (n := 10) (t := 24) (by decide +kernel) (by omega) ?_
    refine he_iconst (n := 25) (c := 0) (by decide +kernel) (by decide) ?_
    intro c24 hc24
    refine he_istore (n := 27) (i := 4) (by decide +kernel) rfl ?_
    exact K M c24 hc24 hm ho (fun j hj' => hj j (by omega))
  | succ m ih =>
    intro M x4 e1 e2 hm ho hj K
    refine he_iload (n := 5) (i := 4) (by decide +kernel) rfl ?_
    refine he_iconst (n := 7) (c := 15) (by decide +kernel) (by decide) ?_
    intro c5 hc5
    refine he_cmpgt_f (n := 10) (t := 24) (by decide +kernel) (by omega) ?_
    refine he_aload (n := 11) (i := 0) (by decide +kernel) rfl ?_
    refine he_getr (n := 14) (ci := 3) (j := 0) (ns := [1042, 9]) (b := 13) hm (by decide +kernel) rfl rfl (by decide +kernel) ?_
    refine he_iload (n := 16) (i := 4) (by decide +kernel) rfl ?_
    refine he_iconst (n := 17) (c := 0) (by decide +kernel) (by decide) ?_
    intro c16 hc16
    refine hb_sta (n := 18) (kind := 64) hm (by decide +kernel) rfl rfl (.inl rfl) (by omega) (show _ < (16 : Int) by omega) ?_
    generalize hM1 : hb_set M 13 (x4.toInt.toNat) c16 = M1
    have hm1 : mz_sh mz_GG M1 := by rw [← hM1]; exact hb_set_sh hm rfl hb_at1 (by omega) (by omega)
    have eM1 : ∀ b j, b ≠ 13 ∨ j ≠ x4.toInt.toNat → hv M1 b j = hv M b j := by intro b j h; rw [← hM1]; exact hb_set_n h
    have sM1 : hv M1 13 (x4.toInt.toNat) = c16.toInt := by rw [← hM1]; exact hb_set_v hm rfl (show _ < 16 by omega)
    have wM1 : ∀ b, b ≠ 13 → M1 b = M b := by intro b h; rw [← hM1]; exact hb_set_c h
    refine he_iinc (n := 21) (i := 4) (c := 1) (L' := fun v => [some (.ref 12), some (.ref 11), some (.int x2), some (.int x3), some (.int v), none]) (by decide +kernel) (by decide) rfl (fun _ => rfl) (by omega) (by omega) ?_
    intro i18 hi18
    refine he_goto (t := 3) (by decide +kernel) ?_
    refine ih M1 i18 (by omega) (by omega) hm1 (hb_only_s ho (by decide) wM1) ?_ K
    intro j hjj
    by_cases e : j = x4.toInt.toNat
    · rw [e, sM1]; omega
    · rw [eM1 _ _ (.inr e)]
      exact hj j (by omega)
theorem hu_b12 {d z u : Nat} {Q : (Option Value ⊕ Nat) → mq_S → Prop} {M0 : Nat → mq_C} {x2 x3 : Int32} (p2 : 0 ≤ x2.toInt) (p3 : 0 ≤ x3.toInt) (p4 : x2.toInt + x3.toInt ≤ 316) (p5 : x3.toInt ≤ 19) : ∀ (m : Nat) (M : Nat → mq_C) (x4 : Int32), (m : Int) + x4.toInt = x3.toInt → 0 ≤ x4.toInt → mz_sh mz_GG M → hb_only [12, 13, 14, 15] M0 M → (∀ j, j < 16 → hv M 13 j = hb_occ (hu_B M0 x2) j x4.toInt.toNat) → (∀ (M' : Nat → mq_C) (y4 : Int32), mz_sh mz_GG M' → hb_only [12, 13, 14, 15] M0 M' → (∀ j, j < 16 → hv M' 13 j = hb_occ (hu_B M0 x2) j x3.toInt.toNat) → mq_R mq_PP d 63 54 [some (.ref 12), some (.ref 11), some (.int x2), some (.int x3), some (.int y4), none] [] (M', z, u) Q) → mq_R mq_PP d 63 27 [some (.ref 12), some (.ref 11), some (.int x2), some (.int x3), some (.int x4), none] [] (M, z, u) Q := by
  intro m
  induction m with
  | zero =>
    intro M x4 e1 e2 hm ho hj K
    refine he_iload (n := 29) (i := 4) (by decide +kernel) rfl ?_
    refine he_iload (n := 30) (i := 3) (by decide +kernel) rfl ?_
    refine he_cmpge_t (n := 33) (t := 54) (by decide +kernel) (by omega) ?_
    exact K M x4 hm ho (by rw [show x3.toInt.toNat = x4.toInt.toNat by omega]; exact hj)
  | succ m ih =>
    intro M x4 e1 e2 hm ho hj K
    refine he_iload (n := 29) (i := 4) (by decide +kernel) rfl ?_
    refine he_iload (n := 30) (i := 3) (by decide +kernel) rfl ?_
    refine he_cmpge_f (n := 33) (t := 54) (by decide +kernel) (by omega) ?_
    refine he_aload (n := 34) (i := 0) (by decide +kernel) rfl ?_
    refine he_getr (n := 37) (ci := 3) (j := 0) (ns := [1042, 9]) (b := 13) hm (by decide +kernel) rfl rfl (by decide +kernel) ?_
    refine he_aload (n := 38) (i := 1) (by decide +kernel) rfl ?_
    refine he_iload (n := 39) (i := 2) (by decide +kernel) rfl ?_
    refine he_iload (n := 41) (i := 4) (by decide +kernel) rfl ?_
    refine he_iadd (n := 42) (by decide +kernel) (by omega) (by omega) ?_
    intro v41 hv41
    refine hb_ld (n := 43) (kind := 64) hm (by decide +kernel) rfl rfl (.inl rfl) (by omega) (show _ < (316 : Int) by omega) hb_at1 ?_
    intro v42 hv42 lv42 uv42
    have hBv : (hu_B M0 x2) x4.toInt.toNat = v42.toInt := by
      show hv M0 11 (x2.toInt.toNat + x4.toInt.toNat) = _
      rw [← hv42, show v41.toInt.toNat = x2.toInt.toNat + x4.toInt.toNat by omega]
      exact (hb_vc (ho 11 (by decide)) _).symm
    have hoc := hj v42.toInt.toNat (by omega)
    have hle : hb_occ (hu_B M0 x2) v42.toInt.toNat x4.toInt.toNat ≤ ((x4.toInt.toNat : Nat) : Int) := hb_cnt_le _ _
    have hge : 0 ≤ hb_occ (hu_B M0 x2) v42.toInt.toNat x4.toInt.toNat := hb_cnt_0 _
    refine he_dup2 (n := 44) (by decide +kernel) ?_
    refine hb_ld (n := 45) (kind := 64) hm (by decide +kernel) rfl rfl (.inl rfl) (by omega) (show _ < (16 : Int) by omega) hb_at1 ?_
    intro v44 hv44 lv44 uv44
    refine he_iconst (n := 46) (c := 1) (by decide +kernel) (by decide) ?_
    intro c45 hc45
    refine he_iadd (n := 47) (by decide +kernel) (by omega) (by omega) ?_
    intro v46 hv46
    refine hb_sta (n := 48) (kind := 64) hm (by decide +kernel) rfl rfl (.inl rfl) (by omega) (show _ < (16 : Int) by omega) ?_
    generalize hM1 : hb_set M 13 (v42.toInt.toNat) v46 = M1
    have hm1 : mz_sh mz_GG M1 := by rw [← hM1]; exact hb_set_sh hm rfl hb_at1 (by omega) (by omega)
    have eM1 : ∀ b j, b ≠ 13 ∨ j ≠ v42.toInt.toNat → hv M1 b j = hv M b j := by intro b j h; rw [← hM1]; exact hb_set_n h
    have sM1 : hv M1 13 (v42.toInt.toNat) = v46.toInt := by rw [← hM1]; exact hb_set_v hm rfl (show _ < 16 by omega)
    have wM1 : ∀ b, b ≠ 13 → M1 b = M b := by intro b h; rw [← hM1]; exact hb_set_c h
    refine he_iinc (n := 51) (i := 4) (c := 1) (L' := fun v => [some (.ref 12), some (.ref 11), some (.int x2), some (.int x3), some (.int v), none]) (by decide +kernel) (by decide) rfl (fun _ => rfl) (by omega) (by omega) ?_
    intro i48 hi48
    refine he_goto (t := 27) (by decide +kernel) ?_
    refine ih M1 i48 (by omega) (by omega) hm1 (hb_only_s ho (by decide) wM1) ?_ K
    intro j hjj
    rw [show i48.toInt.toNat = x4.toInt.toNat + 1 by omega, hb_occ_s, hBv]
    by_cases e : j = v42.toInt.toNat
    · subst e
      have hcell : hv M 13 v42.toInt.toNat = v44.toInt := hv44
      rw [sM1, ← hoc, hcell, if_pos (by omega)]
      omega
    · rw [eM1 _ _ (.inr e), hj j hjj, if_neg (by omega)]
      omega
theorem hu_g12 {M0 : Nat → mq_C} {x2 x3 : Int32} (p3 : 0 ≤ x3.toInt) : ∀ j, j ≤ 15 → 0 ≤ hb_sum (hu_G M0 x2 x3) j ∧ hb_sum (hu_G M0 x2 x3) j ≤ x3.toInt := by
  intro j hj
  have h0 : ∀ i, 0 ≤ (hu_G M0 x2 x3) i := fun i => hb_cnt_0 _
  have h1 := hb_sum_0 (f := (hu_G M0 x2 x3)) j (fun i _ => h0 i)
  have h2 := hb_sum_m (f := (hu_G M0 x2 x3)) (m := j) 15 hj (fun i _ => h0 i)
  have h3 := hb_occ_t (B := (hu_B M0 x2)) 16 x3.toInt.toNat
  rw [hb_sum_sh] at h3
  have h4 : 0 ≤ hb_occ (hu_B M0 x2) 0 x3.toInt.toNat := hb_cnt_0 _
  have h5 : hb_sum (hu_G M0 x2 x3) 15 = hb_sum (fun t => hb_occ (hu_B M0 x2) (t + 1) x3.toInt.toNat) 15 := rfl
  refine ⟨h1, ?_⟩
  omega
theorem hu_c12 {d z u : Nat} {Q : (Option Value ⊕ Nat) → mq_S → Prop} {M0 : Nat → mq_C} {x2 x3 : Int32} (p2 : 0 ≤ x2.toInt) (p3 : 0 ≤ x3.toInt) (p4 : x2.toInt + x3.toInt ≤ 316) (p5 : x3.toInt ≤ 19) : ∀ (m : Nat) (M : Nat → mq_C) (x4 : Int32), (m : Int) + x4.toInt = 16 → 1 ≤ x4.toInt → mz_sh mz_GG M → hb_only [12, 13, 14, 15] M0 M → (∀ j, j < 16 → hv M 13 j = hb_occ (hu_B M0 x2) j x3.toInt.toNat) → (∀ j : Nat, 1 ≤ j → (j : Int) ≤ x4.toInt → hv M 14 j = hb_sum (hu_G M0 x2 x3) (j - 1)) → (∀ (M' : Nat → mq_C) (y4 : Int32), y4.toInt = 0 → mz_sh mz_GG M' → hb_only [12, 13, 14, 15] M0 M' → (∀ j, j < 16 → hv M' 13 j = hb_occ (hu_B M0 x2) j x3.toInt.toNat) → (∀ j, 1 ≤ j → j < 16 → hv M' 14 j = hb_sum (hu_G M0 x2 x3) (j - 1)) → mq_R mq_PP d 63 131 [some (.ref 12), some (.ref 11), some (.int x2), some (.int x3), some (.int y4), none] [] (M', z, u) Q) → mq_R mq_PP d 63 69 [some (.ref 12), some (.ref 11), some (.int x2), some (.int x3), some (.int x4), none] [] (M, z, u) Q := by
  intro m
  induction m with
  | zero =>
    intro M x4 e1 e2 hm ho hj hn K
    refine he_iload (n := 71) (i := 4) (by decide +kernel) rfl ?_
    refine he_iconst (n := 73) (c := 15) (by decide +kernel) (by decide) ?_
    intro c71 hc71
    refine he_cmpgt_t (n := 76) (t := 128) (by decide +kernel) (by omega) ?_
    refine he_iconst (n := 129) (c := 0) (by decide +kernel) (by decide) ?_
    intro c128 hc128
    refine he_istore (n := 131) (i := 4) (by decide +kernel) rfl ?_
    exact K M c128 hc128 hm ho hj (fun j h1 h2 => hn j h1 (by omega))
  | succ m ih =>
    intro M x4 e1 e2 hm ho hj hn K
    refine he_iload (n := 71) (i := 4) (by decide +kernel) rfl ?_
    refine he_iconst (n := 73) (c := 15) (by decide +kernel) (by decide) ?_
    intro c71 hc71
    refine he_cmpgt_f (n := 76) (t := 128) (by decide +kernel) (by omega) ?_
    refine he_aload (n := 77) (i := 0) (by decide +kernel) rfl ?_
    refine he_dup_r (n := 78) (by decide +kernel) ?_
    refine hb_gfd (n := 81) (ci := 3) (j := 3) (ns := [1047, 16]) hm (by decide +kernel) rfl rfl (by decide) rfl ?_
    intro v78 hv78 lv78 uv78
    refine he_aload (n := 82) (i := 0) (by decide +kernel) rfl ?_
    refine he_getr (n := 85) (ci := 3) (j := 0) (ns := [1042, 9]) (b := 13) hm (by decide +kernel) rfl rfl (by decide +kernel) ?_
    refine he_iload (n := 87) (i := 4) (by decide +kernel) rfl ?_
    refine hb_ld (n := 88) (kind := 64) hm (by decide +kernel) rfl rfl (.inl rfl) (by omega) (show _ < (16 : Int) by omega) hb_at1 ?_
    intro v87 hv87 lv87 uv87
    refine he_iconst (n := 90) (c := 15) (by decide +kernel) (by decide) ?_
    intro c88 hc88
    refine he_iload (n := 92) (i := 4) (by decide +kernel) rfl ?_
    refine he_isub (n := 93) (by decide +kernel) (by omega) (by omega) ?_
    intro v92 hv92
    refine he_any2 (o := 15) (n := 94) (by decide +kernel) rfl ?_
    intro v93
    have bv93 := mz_i32 v93
    refine he_any2 (o := 9) (n := 95) (by decide +kernel) rfl ?_
    intro v94
    have bv94 := mz_i32 v94
    refine hb_pfd (n := 98) (ci := 3) (j := 3) (t := 0) (ns := [1047, 16]) hm (by decide +kernel) rfl rfl (by decide) (.inl rfl) ?_
    generalize hM1 : hb_set M 12 3 v94 = M1
    have hm1 : mz_sh mz_GG M1 := by rw [← hM1]; exact hb_set_sh hm rfl rfl (by omega) (by omega)
    have eM1 : ∀ b j, b ≠ 12 ∨ j ≠ 3 → hv M1 b j = hv M b j := by intro b j h; rw [← hM1]; exact hb_set_n h
    have sM1 : hv M1 12 3 = v94.toInt := by rw [← hM1]; exact hb_set_v hm rfl (by decide)
    have wM1 : ∀ b, b ≠ 12 → M1 b = M b := by intro b h; rw [← hM1]; exact hb_set_c h
    refine he_aload (n := 99) (i := 0) (by decide +kernel) rfl ?_
    refine he_getr (n := 102) (ci := 3) (j := 2) (ns := [1046, 13]) (b := 14) hm1 (by decide +kernel) rfl rfl (by decide +kernel) ?_
    refine he_iload (n := 104) (i := 4) (by decide +kernel) rfl ?_
    refine he_iconst (n := 105) (c := 1) (by decide +kernel) (by decide) ?_
    intro c104 hc104
    refine he_iadd (n := 106) (by decide +kernel) (by omega) (by omega) ?_
    intro v105 hv105
    refine he_aload (n := 107) (i := 0) (by decide +kernel) rfl ?_
    refine he_getr (n := 110) (ci := 3) (j := 2) (ns := [1046, 13]) (b := 14) hm1 (by decide +kernel) rfl rfl (by decide +kernel) ?_
    refine he_iload (n := 112) (i := 4) (by decide +kernel) rfl ?_
    refine hb_ld (n := 113) (kind := 64) hm1 (by decide +kernel) rfl rfl (.inl rfl) (by omega) (show _ < (17 : Int) by omega) hb_at1 ?_
    intro v112 hv112 lv112 uv112
    refine he_aload (n := 114) (i := 0) (by decide +kernel) rfl ?_
    refine he_getr (n := 117) (ci := 3) (j := 0) (ns := [1042, 9]) (b := 13) hm1 (by decide +kernel) rfl rfl (by decide +kernel) ?_
    refine he_iload (n := 119) (i := 4) (by decide +kernel) rfl ?_
    refine hb_ld (n := 120) (kind := 64) hm1 (by decide +kernel) rfl rfl (.inl rfl) (by omega) (show _ < (16 : Int) by omega) hb_at1 ?_
    intro v119 hv119 lv119 uv119
    refine he_iadd (n := 121) (by decide +kernel) (by omega) (by omega) ?_
    intro v120 hv120
    have q1 : v112.toInt = hb_sum (hu_G M0 x2 x3) (x4.toInt.toNat - 1) := by
      rw [← hv112, ← hn x4.toInt.toNat (by omega) (by omega)]
      exact eM1 _ _ (.inl (by decide))
    have q2 : v119.toInt = hb_occ (hu_B M0 x2) x4.toInt.toNat x3.toInt.toNat := by
      rw [← hv119, ← hj x4.toInt.toNat (by omega)]
      exact eM1 _ _ (.inl (by decide))
    have q3 : hb_sum (hu_G M0 x2 x3) x4.toInt.toNat = v112.toInt + v119.toInt := by
      obtain ⟨t, ht⟩ : ∃ t, x4.toInt.toNat = t + 1 := ⟨x4.toInt.toNat - 1, by omega⟩
      rw [q1, q2, ht]
      rfl
    have q4 := hu_g12 (M0 := M0) (x2 := x2) p3 x4.toInt.toNat (by omega)
    refine hb_sta (n := 122) (kind := 64) hm1 (by decide +kernel) rfl rfl (.inl rfl) (by omega) (show _ < (17 : Int) by omega) ?_
    generalize hM2 : hb_set M1 14 (v105.toInt.toNat) v120 = M2
    have hm2 : mz_sh mz_GG M2 := by rw [← hM2]; exact hb_set_sh hm1 rfl hb_at1 (by omega) (by omega)
    have eM2 : ∀ b j, b ≠ 14 ∨ j ≠ v105.toInt.toNat → hv M2 b j = hv M1 b j := by intro b j h; rw [← hM2]; exact hb_set_n h
    have sM2 : hv M2 14 (v105.toInt.toNat) = v120.toInt := by rw [← hM2]; exact hb_set_v hm1 rfl (show _ < 17 by omega)
    have wM2 : ∀ b, b ≠ 14 → M2 b = M1 b := by intro b h; rw [← hM2]; exact hb_set_c h
    refine he_iinc (n := 125) (i := 4) (c := 1) (L' := fun v => [some (.ref 12), some (.ref 11), some (.int x2), some (.int x3), some (.int v), none]) (by decide +kernel) (by decide) rfl (fun _ => rfl) (by omega) (by omega) ?_
    intro i122 hi122
    refine he_goto (t := 69) (by decide +kernel) ?_
    refine ih M2 i122 (by omega) (by omega) hm2 (hb_only_s (hb_only_s ho (by decide) wM1) (by decide) wM2) ?_ ?_ K
    · intro j hjj
      rw [eM2 _ _ (.inl (by decide)), eM1 _ _ (.inl (by decide))]
      exact hj j hjj
    · intro j h1 h2
      by_cases e : j = v105.toInt.toNat
      · rw [e, sM2, show v105.toInt.toNat - 1 = x4.toInt.toNat by omega, q3]
        omega
      · rw [eM2 _ _ (.inr e), eM1 _ _ (.inl (by decide))]
        exact hn j h1 (by omega)
theorem hu_d12 {d z u : Nat} {Q : (Option Value ⊕ Nat) → mq_S → Prop} {M0 : Nat → mq_C} {x2 x3 : Int32} (p2 : 0 ≤ x2.toInt) (p3 : 0 ≤ x3.toInt) (p4 : x2.toInt + x3.toInt ≤ 316) (p5 : x3.toInt ≤ 19) : ∀ (m : Nat) (M : Nat → mq_C) (x4 : Int32) (o5 : Option Value), (m : Int) + x4.toInt = x3.toInt → 0 ≤ x4.toInt → mz_sh mz_GG M → hb_only [12, 13, 14, 15] M0 M → (∀ j, j < 16 → hv M 13 j = hb_occ (hu_B M0 x2) j x3.toInt.toNat) → (∀ j, 1 ≤ j → j < 16 → hv M 14 j = hb_sum (hu_G M0 x2 x3) (j - 1) + hb_occ (hu_B M0 x2) j x4.toInt.toNat) → (∀ (M' : Nat → mq_C), mz_sh mz_GG M' → hb_only [12, 13, 14, 15] M0 M' → (∀ j, j < 16 → hv M' 13 j = hb_occ (hu_B M0 x2) j x3.toInt.toNat) → Q (.inl none) (M', z, u)) → mq_R mq_PP d 63 131 [some (.ref 12), some (.ref 11), some (.int x2), some (.int x3), some (.int x4), o5] [] (M, z, u) Q := by
  intro m
  induction m with
  | zero =>
    intro M x4 o5 e1 e2 hm ho hj hn K
    refine he_iload (n := 133) (i := 4) (by decide +kernel) rfl ?_
    refine he_iload (n := 134) (i := 3) (by decide +kernel) rfl ?_
    refine he_cmpge_t (n := 137) (t := 181) (by decide +kernel) (by omega) ?_
    refine he_ret (by decide +kernel) ?_
    exact K M hm ho hj
  | succ m ih =>
    intro M x4 o5 e1 e2 hm ho hj hn K
    refine he_iload (n := 133) (i := 4) (by decide +kernel) rfl ?_
    refine he_iload (n := 134) (i := 3) (by decide +kernel) rfl ?_
    refine he_cmpge_f (n := 137) (t := 181) (by decide +kernel) (by omega) ?_
    refine he_aload (n := 138) (i := 1) (by decide +kernel) rfl ?_
    refine he_iload (n := 139) (i := 2) (by decide +kernel) rfl ?_
    refine he_iload (n := 141) (i := 4) (by decide +kernel) rfl ?_
    refine he_iadd (n := 142) (by decide +kernel) (by omega) (by omega) ?_
    intro v141 hv141
    refine hb_ld (n := 143) (kind := 64) hm (by decide +kernel) rfl rfl (.inl rfl) (by omega) (show _ < (316 : Int) by omega) hb_at1 ?_
    intro v142 hv142 lv142 uv142
    refine he_istore (n := 145) (i := 5) (by decide +kernel) rfl ?_
    refine he_iload (n := 147) (i := 5) (by decide +kernel) rfl ?_
    have hBv : (hu_B M0 x2) x4.toInt.toNat = v142.toInt := by
      show hv M0 11 (x2.toInt.toNat + x4.toInt.toNat) = _
      rw [← hv142, show v141.toInt.toNat = x2.toInt.toNat + x4.toInt.toNat by omega]
      exact (hb_vc (ho 11 (by decide)) _).symm
    by_cases hz0 : v142.toInt ≤ 0
    · skip
      refine he_ifle_t (n := 150) (t := 175) (by decide +kernel) (by omega) ?_
      refine he_iinc (n := 178) (i := 4) (c := 1) (L' := fun v => [some (.ref 12), some (.ref 11), some (.int x2), some (.int x3), some (.int v), some (.int v142)]) (by decide +kernel) (by decide) rfl (fun _ => rfl) (by omega) (by omega) ?_
      intro i175 hi175
      refine he_goto (t := 131) (by decide +kernel) ?_
      refine ih M i175 _ (by omega) (by omega) hm ho hj ?_ K
      intro j h1 h2
      rw [show i175.toInt.toNat = x4.toInt.toNat + 1 by omega, hb_occ_s, hBv, if_neg (by omega), hn j h1 h2]
      omega
    · skip
      refine he_ifle_f (n := 150) (t := 175) (by decide +kernel) (by omega) ?_
      refine he_aload (n := 151) (i := 0) (by decide +kernel) rfl ?_
      refine he_getr (n := 154) (ci := 3) (j := 1) (ns := [1044, 20]) (b := 15) hm (by decide +kernel) rfl rfl (by decide +kernel) ?_
      refine he_aload (n := 155) (i := 0) (by decide +kernel) rfl ?_
      refine he_getr (n := 158) (ci := 3) (j := 2) (ns := [1046, 13]) (b := 14) hm (by decide +kernel) rfl rfl (by decide +kernel) ?_
      refine he_iload (n := 160) (i := 5) (by decide +kernel) rfl ?_
      refine hb_ld (n := 161) (kind := 64) hm (by decide +kernel) rfl rfl (.inl rfl) (by omega) (show _ < (17 : Int) by omega) hb_at1 ?_
      intro v160 hv160 lv160 uv160
      refine he_iload (n := 163) (i := 4) (by decide +kernel) rfl ?_
      have q1 : v160.toInt = hb_sum (hu_G M0 x2 x3) (v142.toInt.toNat - 1) + hb_occ (hu_B M0 x2) v142.toInt.toNat x4.toInt.toNat := by
        rw [← hv160]
        exact hn v142.toInt.toNat (by omega) (by omega)
      have q2 := hb_occ_m (B := (hu_B M0 x2)) (b := v142.toInt.toNat) (i := x4.toInt.toNat) (n := x3.toInt.toNat) (by omega) (by rw [hBv]; omega)
      have q3 : hb_sum (hu_G M0 x2 x3) v142.toInt.toNat = hb_sum (hu_G M0 x2 x3) (v142.toInt.toNat - 1) + hb_occ (hu_B M0 x2) v142.toInt.toNat x3.toInt.toNat := by
        obtain ⟨t, ht⟩ : ∃ t, v142.toInt.toNat = t + 1 := ⟨v142.toInt.toNat - 1, by omega⟩
        rw [ht]
        rfl
      have q4 := hu_g12 (M0 := M0) (x2 := x2) p3 v142.toInt.toNat (by omega)
      refine hb_sta (n := 164) (kind := 64) hm (by decide +kernel) rfl rfl (.inl rfl) (by omega) (show _ < (19 : Int) by omega) ?_
      generalize hM1 : hb_set M 15 (v160.toInt.toNat) x4 = M1
      have hm1 : mz_sh mz_GG M1 := by rw [← hM1]; exact hb_set_sh hm rfl hb_at1 (by omega) (by omega)
      have eM1 : ∀ b j, b ≠ 15 ∨ j ≠ v160.toInt.toNat → hv M1 b j = hv M b j := by intro b j h; rw [← hM1]; exact hb_set_n h
      have sM1 : hv M1 15 (v160.toInt.toNat) = x4.toInt := by rw [← hM1]; exact hb_set_v hm rfl (show _ < 19 by omega)
      have wM1 : ∀ b, b ≠ 15 → M1 b = M b := by intro b h; rw [← hM1]; exact hb_set_c h
      refine he_aload (n := 165) (i := 0) (by decide +kernel) rfl ?_
      refine he_getr (n := 168) (ci := 3) (j := 2) (ns := [1046, 13]) (b := 14) hm1 (by decide +kernel) rfl rfl (by decide +kernel) ?_
      refine he_iload (n := 170) (i := 5) (by decide +kernel) rfl ?_
      refine he_dup2 (n := 171) (by decide +kernel) ?_
      refine hb_ld (n := 172) (kind := 64) hm1 (by decide +kernel) rfl rfl (.inl rfl) (by omega) (show _ < (17 : Int) by omega) hb_at1 ?_
      intro v171 hv171 lv171 uv171
      refine he_iconst (n := 173) (c := 1) (by decide +kernel) (by decide) ?_
      intro c172 hc172
      refine he_iadd (n := 174) (by decide +kernel) (by omega) (by omega) ?_
      intro v173 hv173
      have q5 : v171.toInt = v160.toInt := by
        rw [← hv171, eM1 _ _ (.inl (by decide))]
        exact hv160
      refine hb_sta (n := 175) (kind := 64) hm1 (by decide +kernel) rfl rfl (.inl rfl) (by omega) (show _ < (17 : Int) by omega) ?_
      generalize hM2 : hb_set M1 14 (v142.toInt.toNat) v173 = M2
      have hm2 : mz_sh mz_GG M2 := by rw [← hM2]; exact hb_set_sh hm1 rfl hb_at1 (by omega) (by omega)
      have eM2 : ∀ b j, b ≠ 14 ∨ j ≠ v142.toInt.toNat → hv M2 b j = hv M1 b j := by intro b j h; rw [← hM2]; exact hb_set_n h
      have sM2 : hv M2 14 (v142.toInt.toNat) = v173.toInt := by rw [← hM2]; exact hb_set_v hm1 rfl (show _ < 17 by omega)
      have wM2 : ∀ b, b ≠ 14 → M2 b = M1 b := by intro b h; rw [← hM2]; exact hb_set_c h
      refine he_iinc (n := 178) (i := 4) (c := 1) (L' := fun v => [some (.ref 12), some (.ref 11), some (.int x2), some (.int x3), some (.int v), some (.int v142)]) (by decide +kernel) (by decide) rfl (fun _ => rfl) (by omega) (by omega) ?_
      intro i175 hi175
      refine he_goto (t := 131) (by decide +kernel) ?_
      refine ih M2 i175 _ (by omega) (by omega) hm2 (hb_only_s (hb_only_s ho (by decide) wM1) (by decide) wM2) ?_ ?_ K
      · intro j hjj
        rw [eM2 _ _ (.inl (by decide)), eM1 _ _ (.inl (by decide))]
        exact hj j hjj
      · intro j h1 h2
        rw [show i175.toInt.toNat = x4.toInt.toNat + 1 by omega, hb_occ_s, hBv]
        by_cases e : j = v142.toInt.toNat
        · rw [e, sM2, if_pos (by omega)]
          omega
        · rw [eM2 _ _ (.inr e), eM1 _ _ (.inl (by decide)), if_neg (by omega), hn j h1 h2]
          omega
theorem hs_build12_P : hc_build12_P := by
  intro d z u M Q x2 x3 hd hz hm hx p2 p3 p4 p5 K
  refine he_iconst (n := 1) (c := 0) (by decide +kernel) (by decide) ?_
  intro c0 hc0
  refine he_istore (n := 3) (i := 4) (by decide +kernel) rfl ?_
  refine hu_a12 (M0 := M) 16 M c0 (by omega) (by omega) hm hb_only_r (fun j hj => by omega) ?_
  intro M1' y4' hy4' hm1 ho1 hc1
  refine hu_b12 (M0 := M) p2 p3 (by omega) (by omega) x3.toInt.toNat M1' y4' (by omega) (by omega) hm1 ho1 ?_ ?_
  · intro j hj
    rw [show y4'.toInt.toNat = 0 by omega, hc1 j hj]
    rfl
  intro M2' y4 hm2 ho2 hc2
  refine he_aload (n := 55) (i := 0) (by decide +kernel) rfl ?_
  refine he_iconst (n := 56) (c := 0) (by decide +kernel) (by decide) ?_
  intro cq55 hcq55
  refine hb_pfd (n := 59) (ci := 3) (j := 3) (t := 0) (ns := [1047, 16]) hm2 (by decide +kernel) rfl rfl (by decide) (.inl rfl) ?_
  generalize hMq1 : hb_set M2' 12 3 cq55 = Mq1
  have hmq1 : mz_sh mz_GG Mq1 := by rw [← hMq1]; exact hb_set_sh hm2 rfl rfl (by omega) (by omega)
  have eMq1 : ∀ b j, b ≠ 12 ∨ j ≠ 3 → hv Mq1 b j = hv M2' b j := by intro b j h; rw [← hMq1]; exact hb_set_n h
  have sMq1 : hv Mq1 12 3 = cq55.toInt := by rw [← hMq1]; exact hb_set_v hm2 rfl (by decide)
  have wMq1 : ∀ b, b ≠ 12 → Mq1 b = M2' b := by intro b h; rw [← hMq1]; exact hb_set_c h
  refine he_aload (n := 60) (i := 0) (by decide +kernel) rfl ?_
  refine he_getr (n := 63) (ci := 3) (j := 2) (ns := [1046, 13]) (b := 14) hmq1 (by decide +kernel) rfl rfl (by decide +kernel) ?_
  refine he_iconst (n := 64) (c := 1) (by decide +kernel) (by decide) ?_
  intro cq63 hcq63
  refine he_iconst (n := 65) (c := 0) (by decide +kernel) (by decide) ?_
  intro cq64 hcq64
  refine hb_sta (n := 66) (kind := 64) hmq1 (by decide +kernel) rfl rfl (.inl rfl) (by omega) (show _ < (17 : Int) by omega) ?_
  generalize hMq2 : hb_set Mq1 14 (cq63.toInt.toNat) cq64 = Mq2
  have hmq2 : mz_sh mz_GG Mq2 := by rw [← hMq2]; exact hb_set_sh hmq1 rfl hb_at1 (by omega) (by omega)
  have eMq2 : ∀ b j, b ≠ 14 ∨ j ≠ cq63.toInt.toNat → hv Mq2 b j = hv Mq1 b j := by intro b j h; rw [← hMq2]; exact hb_set_n h
  have sMq2 : hv Mq2 14 (cq63.toInt.toNat) = cq64.toInt := by rw [← hMq2]; exact hb_set_v hmq1 rfl (show _ < 17 by omega)
  have wMq2 : ∀ b, b ≠ 14 → Mq2 b = Mq1 b := by intro b h; rw [← hMq2]; exact hb_set_c h
  refine he_iconst (n := 67) (c := 1) (by decide +kernel) (by decide) ?_
  intro cq66 hcq66
  refine he_istore (n := 69) (i := 4) (by decide +kernel) rfl ?_
  refine hu_c12 (M0 := M) p2 p3 (by omega) (by omega) 15 Mq2 cq66 (by omega) (by omega) hmq2 (hb_only_s (hb_only_s ho2 (by decide) wMq1) (by decide) wMq2) ?_ ?_ ?_
  · intro j hj
    rw [eMq2 _ _ (.inl (by decide)), eMq1 _ _ (.inl (by decide))]
    exact hc2 j hj
  · intro j h1 h2
    obtain rfl : j = 1 := by omega
    have e9 : cq63.toInt.toNat = 1 := by omega
    rw [e9] at sMq2
    rw [sMq2]
    exact hcq64
  intro M3 y5 hy5 hm3 ho3 hc3 hn3
  refine hu_d12 (M0 := M) p2 p3 (by omega) (by omega) x3.toInt.toNat M3 y5 none (by omega) (by omega) hm3 ho3 hc3 ?_ ?_
  · intro j h1 h2
    rw [show y5.toInt.toNat = 0 by omega, hn3 j h1 h2]
    show _ = _ + 0
    omega
  intro M4 hm4 ho4 hc4
  have hg := hu_g12 (M0 := M) (x2 := x2) p3 15 (by omega)
  refine K M4 hm4 ?_ (hb_only_fr ho4 (by decide)) (fun a ha => ho4 a ?_) (hb_only_same ho4 (by decide +kernel))
  · refine HX_m (p := 0) (fun k hk => hb_only_x ho4 ?_ (hx k)) ?_
    · intro a ha i
      simp only [List.mem_cons, List.not_mem_nil, or_false] at ha
      rcases ha with rfl | rfl | rfl | rfl
      all_goals exact hu_sp12 k hk _ i (by decide)
    · show hb_sum (fun b => hv M4 (12 + 1) (b + 1)) 15 ≤ 19
      rw [hb_sum_c (g := (hu_G M x2 x3)) 15 (fun i hi => hc4 (i + 1) (by omega))]
      omega
  · simp only [List.elem_eq_mem, decide_eq_false_iff_not, List.mem_cons, List.not_mem_nil, or_false]
    omega
theorem hs_build12 : mz_Ct mz_GG mq_PP HX mz_q24 1 := hc_build12 hs_build12_P
theorem hu_sp16 (k : Nat) (hk : k ≠ 1) (a i : Nat) (ha : a ∈ [16, 17, 18, 19]) : hsp k a i = false := by
  simp only [List.mem_cons, List.not_mem_nil, or_false] at ha
  match k with
  | 0 | 1 | 2 | 3 | 4 | 5 | 6 | 7 | 8 | 9 | 10 | 11 | 12 | 13 | 14 | 15 | 16 | 17 | 18 | 19 | 20 | 21 | 22 | 23 | 24 | 25 | 26 | 27 | 28 | 29 => first | exact absurd rfl hk | (exact decide_eq_false (by omega))
  | n + 30 => rfl
theorem hu_a16 {d z u : Nat} {Q : (Option Value ⊕ Nat) → mq_S → Prop} {M0 : Nat → mq_C} {x2 x3 : Int32} : ∀ (m : Nat) (M : Nat → mq_C) (x4 : Int32), (m : Int) + x4.toInt = 16 → 0 ≤ x4.toInt → mz_sh mz_GG M → hb_only [16, 17, 18, 19] M0 M → (∀ j : Nat, (j : Int) < x4.toInt → hv M 17 j = 0) → (∀ (M' : Nat → mq_C) (y4 : Int32), y4.toInt = 0 → mz_sh mz_GG M' → hb_only [16, 17, 18, 19] M0 M' → (∀ j, j < 16 → hv M' 17 j = 0) → mq_R mq_PP d 63 27 [some (.ref 16), some (.ref 11), some (.int x2), some (.int x3), some (.int y4), none] [] (M', z, u) Q) → mq_R mq_PP d 63 3 [some (.ref 16), some (.ref 11), some (.int x2), some (.int x3), some (.int x4), none] [] (M, z, u) Q := by
  intro m
  induction m with
  | zero =>
    intro M x4 e1 e2 hm ho hj K
    refine he_iload (n := 5) (i := 4) (by decide +kernel) rfl ?_
    refine he_iconst (n := 7) (c := 15) (by decide +kernel) (by decide) ?_
    intro c5 hc5
    refine he_cmpgt_t (n := 10) (t := 24) (by decide +kernel) (by omega) ?_
    refine he_iconst (n := 25) (c := 0) (by decide +kernel) (by decide) ?_
    intro c24 hc24
    refine he_istore (n := 27) (i := 4) (by decide +kernel) rfl ?_
    exact K M c24 hc24 hm ho (fun j hj' => hj j (by omega))
  | succ m ih =>
    intro M x4 e1 e2 hm ho hj K
    refine he_iload (n := 5) (i := 4) (by decide +kernel) rfl ?_
    refine he_iconst (n := 7) (c := 15) (by decide +kernel) (by decide) ?_
    intro c5 hc5
    refine he_cmpgt_f (n := 10) (t := 24) (by decide +kernel) (by omega) ?_
    refine he_aload (n := 11) (i := 0) (by decide +kernel) rfl ?_
    refine he_getr (n := 14) (ci := 3) (j := 0) (ns := [1042, 9]) (b := 17) hm (by decide +kernel) rfl rfl (by decide +kernel) ?_
    refine he_iload (n := 16) (i := 4) (by decide +kernel) rfl ?_
    refine he_iconst (n := 17) (c := 0) (by decide +kernel) (by decide) ?_
    intro c16 hc16
    refine hb_sta (n := 18) (kind := 64) hm (by decide +kernel) rfl rfl (.inl rfl) (by omega) (show _ < (16 : Int) by omega) ?_
    generalize hM1 : hb_set M 17 (x4.toInt.toNat) c16 = M1
    have hm1 : mz_sh mz_GG M1 := by rw [← hM1]; exact hb_set_sh hm rfl hb_at1 (by omega) (by omega)
    have eM1 : ∀ b j, b ≠ 17 ∨ j ≠ x4.toInt.toNat → hv M1 b j = hv M b j := by intro b j h; rw [← hM1]; exact hb_set_n h
    have sM1 : hv M1 17 (x4.toInt.toNat) = c16.toInt := by rw [← hM1]; exact hb_set_v hm rfl (show _ < 16 by omega)
    have wM1 : ∀ b, b ≠ 17 → M1 b = M b := by intro b h; rw [← hM1]; exact hb_set_c h
    refine he_iinc (n := 21) (i := 4) (c := 1) (L' := fun v => [some (.ref 16), some (.ref 11), some (.int x2), some (.int x3), some (.int v), none]) (by decide +kernel) (by decide) rfl (fun _ => rfl) (by omega) (by omega) ?_
    intro i18 hi18
    refine he_goto (t := 3) (by decide +kernel) ?_
    refine ih M1 i18 (by omega) (by omega) hm1 (hb_only_s ho (by decide) wM1) ?_ K
    intro j hjj
    by_cases e : j = x4.toInt.toNat
    · rw [e, sM1]; omega
    · rw [eM1 _ _ (.inr e)]
      exact hj j (by omega)
theorem hu_b16 {d z u : Nat} {Q : (Option Value ⊕ Nat) → mq_S → Prop} {M0 : Nat → mq_C} {x2 x3 : Int32} (p2 : 0 ≤ x2.toInt) (p3 : 0 ≤ x3.toInt) (p4 : x2.toInt + x3.toInt ≤ 316) (p5 : x3.toInt ≤ 286) : ∀ (m : Nat) (M : Nat → mq_C) (x4 : Int32), (m : Int) + x4.toInt = x3.toInt → 0 ≤ x4.toInt → mz_sh mz_GG M → hb_only [16, 17, 18, 19] M0 M → (∀ j, j < 16 → hv M 17 j = hb_occ (hu_B M0 x2) j x4.toInt.toNat) → (∀ (M' : Nat → mq_C) (y4 : Int32), mz_sh mz_GG M' → hb_only [16, 17, 18, 19] M0 M' → (∀ j, j < 16 → hv M' 17 j = hb_occ (hu_B M0 x2) j x3.toInt.toNat) → mq_R mq_PP d 63 54 [some (.ref 16), some (.ref 11), some (.int x2), some (.int x3), some (.int y4), none] [] (M', z, u) Q) → mq_R mq_PP d 63 27 [some (.ref 16), some (.ref 11), some (.int x2), some (.int x3), some (.int x4), none] [] (M, z, u) Q := by
  intro m
  induction m with
  | zero =>
    intro M x4 e1 e2 hm ho hj K
    refine he_iload (n := 29) (i := 4) (by decide +kernel) rfl ?_
    refine he_iload (n := 30) (i := 3) (by decide +kernel) rfl ?_
    refine he_cmpge_t (n := 33) (t := 54) (by decide +kernel) (by omega) ?_
    exact K M x4 hm ho (by rw [show x3.toInt.toNat = x4.toInt.toNat by omega]; exact hj)
  | succ m ih =>
    intro M x4 e1 e2 hm ho hj K
    refine he_iload (n := 29) (i := 4) (by decide +kernel) rfl ?_
    refine he_iload (n := 30) (i := 3) (by decide +kernel) rfl ?_
    refine he_cmpge_f (n := 33) (t := 54) (by decide +kernel) (by omega) ?_
    refine he_aload (n := 34) (i := 0) (by decide +kernel) rfl ?_
    refine he_getr (n := 37) (ci := 3) (j := 0) (ns := [1042, 9]) (b := 17) hm (by decide +kernel) rfl rfl (by decide +kernel) ?_
    refine he_aload (n := 38) (i := 1) (by decide +kernel) rfl ?_
    refine he_iload (n := 39) (i := 2) (by decide +kernel) rfl ?_
    refine he_iload (n := 41) (i := 4) (by decide +kernel) rfl ?_
    refine he_iadd (n := 42) (by decide +kernel) (by omega) (by omega) ?_
    intro v41 hv41
    refine hb_ld (n := 43) (kind := 64) hm (by decide +kernel) rfl rfl (.inl rfl) (by omega) (show _ < (316 : Int) by omega) hb_at1 ?_
    intro v42 hv42 lv42 uv42
    have hBv : (hu_B M0 x2) x4.toInt.toNat = v42.toInt := by
      show hv M0 11 (x2.toInt.toNat + x4.toInt.toNat) = _
      rw [← hv42, show v41.toInt.toNat = x2.toInt.toNat + x4.toInt.toNat by omega]
      exact (hb_vc (ho 11 (by decide)) _).symm
    have hoc := hj v42.toInt.toNat (by omega)
    have hle : hb_occ (hu_B M0 x2) v42.toInt.toNat x4.toInt.toNat ≤ ((x4.toInt.toNat : Nat) : Int) := hb_cnt_le _ _
    have hge : 0 ≤ hb_occ (hu_B M0 x2) v42.toInt.toNat x4.toInt.toNat := hb_cnt_0 _
    refine he_dup2 (n := 44) (by decide +kernel) ?_
    refine hb_ld (n := 45) (kind := 64) hm (by decide +kernel) rfl rfl (.inl rfl) (by omega) (show _ < (16 : Int) by omega) hb_at1 ?_
    intro v44 hv44 lv44 uv44
    refine he_iconst (n := 46) (c := 1) (by decide +kernel) (by decide) ?_
    intro c45 hc45
    refine he_iadd (n := 47) (by decide +kernel) (by omega) (by omega) ?_
    intro v46 hv46
    refine hb_sta (n := 48) (kind := 64) hm (by decide +kernel) rfl rfl (.inl rfl) (by omega) (show _ < (16 : Int) by omega) ?_
    generalize hM1 : hb_set M 17 (v42.toInt.toNat) v46 = M1
    have hm1 : mz_sh mz_GG M1 := by rw [← hM1]; exact hb_set_sh hm rfl hb_at1 (by omega) (by omega)
    have eM1 : ∀ b j, b ≠ 17 ∨ j ≠ v42.toInt.toNat → hv M1 b j = hv M b j := by intro b j h; rw [← hM1]; exact hb_set_n h
    have sM1 : hv M1 17 (v42.toInt.toNat) = v46.toInt := by rw [← hM1]; exact hb_set_v hm rfl (show _ < 16 by omega)
    have wM1 : ∀ b, b ≠ 17 → M1 b = M b := by intro b h; rw [← hM1]; exact hb_set_c h
    refine he_iinc (n := 51) (i := 4) (c := 1) (L' := fun v => [some (.ref 16), some (.ref 11), some (.int x2), some (.int x3), some (.int v), none]) (by decide +kernel) (by decide) rfl (fun _ => rfl) (by omega) (by omega) ?_
    intro i48 hi48
    refine he_goto (t := 27) (by decide +kernel) ?_
    refine ih M1 i48 (by omega) (by omega) hm1 (hb_only_s ho (by decide) wM1) ?_ K
    intro j hjj
    rw [show i48.toInt.toNat = x4.toInt.toNat + 1 by omega, hb_occ_s, hBv]
    by_cases e : j = v42.toInt.toNat
    · subst e
      have hcell : hv M 17 v42.toInt.toNat = v44.toInt := hv44
      rw [sM1, ← hoc, hcell, if_pos (by omega)]
      omega
    · rw [eM1 _ _ (.inr e), hj j hjj, if_neg (by omega)]
      omega
theorem hu_g16 {M0 : Nat → mq_C} {x2 x3 : Int32} (p3 : 0 ≤ x3.toInt) : ∀ j, j ≤ 15 → 0 ≤ hb_sum (hu_G M0 x2 x3) j ∧ hb_sum (hu_G M0 x2 x3) j ≤ x3.toInt := by
  intro j hj
  have h0 : ∀ i, 0 ≤ (hu_G M0 x2 x3) i := fun i => hb_cnt_0 _
  have h1 := hb_sum_0 (f := (hu_G M0 x2 x3)) j (fun i _ => h0 i)
  have h2 := hb_sum_m (f := (hu_G M0 x2 x3)) (m := j) 15 hj (fun i _ => h0 i)
  have h3 := hb_occ_t (B := (hu_B M0 x2)) 16 x3.toInt.toNat
  rw [hb_sum_sh] at h3
  have h4 : 0 ≤ hb_occ (hu_B M0 x2) 0 x3.toInt.toNat := hb_cnt_0 _
  have h5 : hb_sum (hu_G M0 x2 x3) 15 = hb_sum (fun t => hb_occ (hu_B M0 x2) (t + 1) x3.toInt.toNat) 15 := rfl
  refine ⟨h1, ?_⟩
  omega
theorem hu_c16 {d z u : Nat} {Q : (Option Value ⊕ Nat) → mq_S → Prop} {M0 : Nat → mq_C} {x2 x3 : Int32} (p2 : 0 ≤ x2.toInt) (p3 : 0 ≤ x3.toInt) (p4 : x2.toInt + x3.toInt ≤ 316) (p5 : x3.toInt ≤ 286) : ∀ (m : Nat) (M : Nat → mq_C) (x4 : Int32), (m : Int) + x4.toInt = 16 → 1 ≤ x4.toInt → mz_sh mz_GG M → hb_only [16, 17, 18, 19] M0 M → (∀ j, j < 16 → hv M 17 j = hb_occ (hu_B M0 x2) j x3.toInt.toNat) → (∀ j : Nat, 1 ≤ j → (j : Int) ≤ x4.toInt → hv M 18 j = hb_sum (hu_G M0 x2 x3) (j - 1)) → (∀ (M' : Nat → mq_C) (y4 : Int32), y4.toInt = 0 → mz_sh mz_GG M' → hb_only [16, 17, 18, 19] M0 M' → (∀ j, j < 16 → hv M' 17 j = hb_occ (hu_B M0 x2) j x3.toInt.toNat) → (∀ j, 1 ≤ j → j < 16 → hv M' 18 j = hb_sum (hu_G M0 x2 x3) (j - 1)) → mq_R mq_PP d 63 131 [some (.ref 16), some (.ref 11), some (.int x2), some (.int x3), some (.int y4), none] [] (M', z, u) Q) → mq_R mq_PP d 63 69 [some (.ref 16), some (.ref 11), some (.int x2), some (.int x3), some (.int x4), none] [] (M, z, u) Q := by
  intro m
  induction m with
  | zero =>
    intro M x4 e1 e2 hm ho hj hn K
    refine he_iload (n := 71) (i := 4) (by decide +kernel) rfl ?_
    refine he_iconst (n := 73) (c := 15) (by decide +kernel) (by decide) ?_
    intro c71 hc71
    refine he_cmpgt_t (n := 76) (t := 128) (by decide +kernel) (by omega) ?_
    refine he_iconst (n := 129) (c := 0) (by decide +kernel) (by decide) ?_
    intro c128 hc128
    refine he_istore (n := 131) (i := 4) (by decide +kernel) rfl ?_
    exact K M c128 hc128 hm ho hj (fun j h1 h2 => hn j h1 (by omega))
  | succ m ih =>
    intro M x4 e1 e2 hm ho hj hn K
    refine he_iload (n := 71) (i := 4) (by decide +kernel) rfl ?_
    refine he_iconst (n := 73) (c := 15) (by decide +kernel) (by decide) ?_
    intro c71 hc71
    refine he_cmpgt_f (n := 76) (t := 128) (by decide +kernel) (by omega) ?_
    refine he_aload (n := 77) (i := 0) (by decide +kernel) rfl ?_
    refine he_dup_r (n := 78) (by decide +kernel) ?_
    refine hb_gfd (n := 81) (ci := 3) (j := 3) (ns := [1047, 16]) hm (by decide +kernel) rfl rfl (by decide) rfl ?_
    intro v78 hv78 lv78 uv78
    refine he_aload (n := 82) (i := 0) (by decide +kernel) rfl ?_
    refine he_getr (n := 85) (ci := 3) (j := 0) (ns := [1042, 9]) (b := 17) hm (by decide +kernel) rfl rfl (by decide +kernel) ?_
    refine he_iload (n := 87) (i := 4) (by decide +kernel) rfl ?_
    refine hb_ld (n := 88) (kind := 64) hm (by decide +kernel) rfl rfl (.inl rfl) (by omega) (show _ < (16 : Int) by omega) hb_at1 ?_
    intro v87 hv87 lv87 uv87
    refine he_iconst (n := 90) (c := 15) (by decide +kernel) (by decide) ?_
    intro c88 hc88
    refine he_iload (n := 92) (i := 4) (by decide +kernel) rfl ?_
    refine he_isub (n := 93) (by decide +kernel) (by omega) (by omega) ?_
    intro v92 hv92
    refine he_any2 (o := 15) (n := 94) (by decide +kernel) rfl ?_
    intro v93
    have bv93 := mz_i32 v93
    refine he_any2 (o := 9) (n := 95) (by decide +kernel) rfl ?_
    intro v94
    have bv94 := mz_i32 v94
    refine hb_pfd (n := 98) (ci := 3) (j := 3) (t := 0) (ns := [1047, 16]) hm (by decide +kernel) rfl rfl (by decide) (.inl rfl) ?_
    generalize hM1 : hb_set M 16 3 v94 = M1
    have hm1 : mz_sh mz_GG M1 := by rw [← hM1]; exact hb_set_sh hm rfl rfl (by omega) (by omega)
    have eM1 : ∀ b j, b ≠ 16 ∨ j ≠ 3 → hv M1 b j = hv M b j := by intro b j h; rw [← hM1]; exact hb_set_n h
    have sM1 : hv M1 16 3 = v94.toInt := by rw [← hM1]; exact hb_set_v hm rfl (by decide)
    have wM1 : ∀ b, b ≠ 16 → M1 b = M b := by intro b h; rw [← hM1]; exact hb_set_c h
    refine he_aload (n := 99) (i := 0) (by decide +kernel) rfl ?_
    refine he_getr (n := 102) (ci := 3) (j := 2) (ns := [1046, 13]) (b := 18) hm1 (by decide +kernel) rfl rfl (by decide +kernel) ?_
    refine he_iload (n := 104) (i := 4) (by decide +kernel) rfl ?_
    refine he_iconst (n := 105) (c := 1) (by decide +kernel) (by decide) ?_
    intro c104 hc104
    refine he_iadd (n := 106) (by decide +kernel) (by omega) (by omega) ?_
    intro v105 hv105
    refine he_aload (n := 107) (i := 0) (by decide +kernel) rfl ?_
    refine he_getr (n := 110) (ci := 3) (j := 2) (ns := [1046, 13]) (b := 18) hm1 (by decide +kernel) rfl rfl (by decide +kernel) ?_
    refine he_iload (n := 112) (i := 4) (by decide +kernel) rfl ?_
    refine hb_ld (n := 113) (kind := 64) hm1 (by decide +kernel) rfl rfl (.inl rfl) (by omega) (show _ < (17 : Int) by omega) hb_at1 ?_
    intro v112 hv112 lv112 uv112
    refine he_aload (n := 114) (i := 0) (by decide +kernel) rfl ?_
    refine he_getr (n := 117) (ci := 3) (j := 0) (ns := [1042, 9]) (b := 17) hm1 (by decide +kernel) rfl rfl (by decide +kernel) ?_
    refine he_iload (n := 119) (i := 4) (by decide +kernel) rfl ?_
    refine hb_ld (n := 120) (kind := 64) hm1 (by decide +kernel) rfl rfl (.inl rfl) (by omega) (show _ < (16 : Int) by omega) hb_at1 ?_
    intro v119 hv119 lv119 uv119
    refine he_iadd (n := 121) (by decide +kernel) (by omega) (by omega) ?_
    intro v120 hv120
    have q1 : v112.toInt = hb_sum (hu_G M0 x2 x3) (x4.toInt.toNat - 1) := by
      rw [← hv112, ← hn x4.toInt.toNat (by omega) (by omega)]
      exact eM1 _ _ (.inl (by decide))
    have q2 : v119.toInt = hb_occ (hu_B M0 x2) x4.toInt.toNat x3.toInt.toNat := by
      rw [← hv119, ← hj x4.toInt.toNat (by omega)]
      exact eM1 _ _ (.inl (by decide))
    have q3 : hb_sum (hu_G M0 x2 x3) x4.toInt.toNat = v112.toInt + v119.toInt := by
      obtain ⟨t, ht⟩ : ∃ t, x4.toInt.toNat = t + 1 := ⟨x4.toInt.toNat - 1, by omega⟩
      rw [q1, q2, ht]
      rfl
    have q4 := hu_g16 (M0 := M0) (x2 := x2) p3 x4.toInt.toNat (by omega)
    refine hb_sta (n := 122) (kind := 64) hm1 (by decide +kernel) rfl rfl (.inl rfl) (by omega) (show _ < (17 : Int) by omega) ?_
    generalize hM2 : hb_set M1 18 (v105.toInt.toNat) v120 = M2
    have hm2 : mz_sh mz_GG M2 := by rw [← hM2]; exact hb_set_sh hm1 rfl hb_at1 (by omega) (by omega)
    have eM2 : ∀ b j, b ≠ 18 ∨ j ≠ v105.toInt.toNat → hv M2 b j = hv M1 b j := by intro b j h; rw [← hM2]; exact hb_set_n h
    have sM2 : hv M2 18 (v105.toInt.toNat) = v120.toInt := by rw [← hM2]; exact hb_set_v hm1 rfl (show _ < 17 by omega)
    have wM2 : ∀ b, b ≠ 18 → M2 b = M1 b := by intro b h; rw [← hM2]; exact hb_set_c h
    refine he_iinc (n := 125) (i := 4) (c := 1) (L' := fun v => [some (.ref 16), some (.ref 11), some (.int x2), some (.int x3), some (.int v), none]) (by decide +kernel) (by decide) rfl (fun _ => rfl) (by omega) (by omega) ?_
    intro i122 hi122
    refine he_goto (t := 69) (by decide +kernel) ?_
    refine ih M2 i122 (by omega) (by omega) hm2 (hb_only_s (hb_only_s ho (by decide) wM1) (by decide) wM2) ?_ ?_ K
    · intro j hjj
      rw [eM2 _ _ (.inl (by decide)), eM1 _ _ (.inl (by decide))]
      exact hj j hjj
    · intro j h1 h2
      by_cases e : j = v105.toInt.toNat
      · rw [e, sM2, show v105.toInt.toNat - 1 = x4.toInt.toNat by omega, q3]
        omega
      · rw [eM2 _ _ (.inr e), eM1 _ _ (.inl (by decide))]
        exact hn j h1 (by omega)
theorem hu_d16 {d z u : Nat} {Q : (Option Value ⊕ Nat) → mq_S → Prop} {M0 : Nat → mq_C} {x2 x3 : Int32} (p2 : 0 ≤ x2.toInt) (p3 : 0 ≤ x3.toInt) (p4 : x2.toInt + x3.toInt ≤ 316) (p5 : x3.toInt ≤ 286) : ∀ (m : Nat) (M : Nat → mq_C) (x4 : Int32) (o5 : Option Value), (m : Int) + x4.toInt = x3.toInt → 0 ≤ x4.toInt → mz_sh mz_GG M → hb_only [16, 17, 18, 19] M0 M → (∀ j, j < 16 → hv M 17 j = hb_occ (hu_B M0 x2) j x3.toInt.toNat) → (∀ j, 1 ≤ j → j < 16 → hv M 18 j = hb_sum (hu_G M0 x2 x3) (j - 1) + hb_occ (hu_B M0 x2) j x4.toInt.toNat) → (∀ (M' : Nat → mq_C), mz_sh mz_GG M' → hb_only [16, 17, 18, 19] M0 M' → (∀ j, j < 16 → hv M' 17 j = hb_occ (hu_B M0 x2) j x3.toInt.toNat) → Q (.inl none) (M', z, u)) → mq_R mq_PP d 63 131 [some (.ref 16), some (.ref 11), some (.int x2), some (.int x3), some (.int x4), o5] [] (M, z, u) Q := by
  intro m
  induction m with
  | zero =>
    intro M x4 o5 e1 e2 hm ho hj hn K
    refine he_iload (n := 133) (i := 4) (by decide +kernel) rfl ?_
    refine he_iload (n := 134) (i := 3) (by decide +kernel) rfl ?_
    refine he_cmpge_t (n := 137) (t := 181) (by decide +kernel) (by omega) ?_
    refine he_ret (by decide +kernel) ?_
    exact K M hm ho hj
  | succ m ih =>
    intro M x4 o5 e1 e2 hm ho hj hn K
    refine he_iload (n := 133) (i := 4) (by decide +kernel) rfl ?_
    refine he_iload (n := 134) (i := 3) (by decide +kernel) rfl ?_
    refine he_cmpge_f (n := 137) (t := 181) (by decide +kernel) (by omega) ?_
    refine he_aload (n := 138) (i := 1) (by decide +kernel) rfl ?_
    refine he_iload (n := 139) (i := 2) (by decide +kernel) rfl ?_
    refine he_iload (n := 141) (i := 4) (by decide +kernel) rfl ?_
    refine he_iadd (n := 142) (by decide +kernel) (by omega) (by omega) ?_
    intro v141 hv141
    refine hb_ld (n := 143) (kind := 64) hm (by decide +kernel) rfl rfl (.inl rfl) (by omega) (show _ < (316 : Int) by omega) hb_at1 ?_
    intro v142 hv142 lv142 uv142
    refine he_istore (n := 145) (i := 5) (by decide +kernel) rfl ?_
    refine he_iload (n := 147) (i := 5) (by decide +kernel) rfl ?_
    have hBv : (hu_B M0 x2) x4.toInt.toNat = v142.toInt := by
      show hv M0 11 (x2.toInt.toNat + x4.toInt.toNat) = _
      rw [← hv142, show v141.toInt.toNat = x2.toInt.toNat + x4.toInt.toNat by omega]
      exact (hb_vc (ho 11 (by decide)) _).symm
    by_cases hz0 : v142.toInt ≤ 0
    · skip
      refine he_ifle_t (n := 150) (t := 175) (by decide +kernel) (by omega) ?_
      refine he_iinc (n := 178) (i := 4) (c := 1) (L' := fun v => [some (.ref 16), some (.ref 11), some (.int x2), some (.int x3), some (.int v), some (.int v142)]) (by decide +kernel) (by decide) rfl (fun _ => rfl) (by omega) (by omega) ?_
      intro i175 hi175
      refine he_goto (t := 131) (by decide +kernel) ?_
      refine ih M i175 _ (by omega) (by omega) hm ho hj ?_ K
      intro j h1 h2
      rw [show i175.toInt.toNat = x4.toInt.toNat + 1 by omega, hb_occ_s, hBv, if_neg (by omega), hn j h1 h2]
      omega
    · skip
      refine he_ifle_f (n := 150) (t := 175) (by decide +kernel) (by omega) ?_
      refine he_aload (n := 151) (i := 0) (by decide +kernel) rfl ?_
      refine he_getr (n := 154) (ci := 3) (j := 1) (ns := [1044, 20]) (b := 19) hm (by decide +kernel) rfl rfl (by decide +kernel) ?_
      refine he_aload (n := 155) (i := 0) (by decide +kernel) rfl ?_
      refine he_getr (n := 158) (ci := 3) (j := 2) (ns := [1046, 13]) (b := 18) hm (by decide +kernel) rfl rfl (by decide +kernel) ?_
      refine he_iload (n := 160) (i := 5) (by decide +kernel) rfl ?_
      refine hb_ld (n := 161) (kind := 64) hm (by decide +kernel) rfl rfl (.inl rfl) (by omega) (show _ < (17 : Int) by omega) hb_at1 ?_
      intro v160 hv160 lv160 uv160
      refine he_iload (n := 163) (i := 4) (by decide +kernel) rfl ?_
      have q1 : v160.toInt = hb_sum (hu_G M0 x2 x3) (v142.toInt.toNat - 1) + hb_occ (hu_B M0 x2) v142.toInt.toNat x4.toInt.toNat := by
        rw [← hv160]
        exact hn v142.toInt.toNat (by omega) (by omega)
      have q2 := hb_occ_m (B := (hu_B M0 x2)) (b := v142.toInt.toNat) (i := x4.toInt.toNat) (n := x3.toInt.toNat) (by omega) (by rw [hBv]; omega)
      have q3 : hb_sum (hu_G M0 x2 x3) v142.toInt.toNat = hb_sum (hu_G M0 x2 x3) (v142.toInt.toNat - 1) + hb_occ (hu_B M0 x2) v142.toInt.toNat x3.toInt.toNat := by
        obtain ⟨t, ht⟩ : ∃ t, v142.toInt.toNat = t + 1 := ⟨v142.toInt.toNat - 1, by omega⟩
        rw [ht]
        rfl
      have q4 := hu_g16 (M0 := M0) (x2 := x2) p3 v142.toInt.toNat (by omega)
      refine hb_sta (n := 164) (kind := 64) hm (by decide +kernel) rfl rfl (.inl rfl) (by omega) (show _ < (286 : Int) by omega) ?_
      generalize hM1 : hb_set M 19 (v160.toInt.toNat) x4 = M1
      have hm1 : mz_sh mz_GG M1 := by rw [← hM1]; exact hb_set_sh hm rfl hb_at1 (by omega) (by omega)
      have eM1 : ∀ b j, b ≠ 19 ∨ j ≠ v160.toInt.toNat → hv M1 b j = hv M b j := by intro b j h; rw [← hM1]; exact hb_set_n h
      have sM1 : hv M1 19 (v160.toInt.toNat) = x4.toInt := by rw [← hM1]; exact hb_set_v hm rfl (show _ < 286 by omega)
      have wM1 : ∀ b, b ≠ 19 → M1 b = M b := by intro b h; rw [← hM1]; exact hb_set_c h
      refine he_aload (n := 165) (i := 0) (by decide +kernel) rfl ?_
      refine he_getr (n := 168) (ci := 3) (j := 2) (ns := [1046, 13]) (b := 18) hm1 (by decide +kernel) rfl rfl (by decide +kernel) ?_
      refine he_iload (n := 170) (i := 5) (by decide +kernel) rfl ?_
      refine he_dup2 (n := 171) (by decide +kernel) ?_
      refine hb_ld (n := 172) (kind := 64) hm1 (by decide +kernel) rfl rfl (.inl rfl) (by omega) (show _ < (17 : Int) by omega) hb_at1 ?_
      intro v171 hv171 lv171 uv171
      refine he_iconst (n := 173) (c := 1) (by decide +kernel) (by decide) ?_
      intro c172 hc172
      refine he_iadd (n := 174) (by decide +kernel) (by omega) (by omega) ?_
      intro v173 hv173
      have q5 : v171.toInt = v160.toInt := by
        rw [← hv171, eM1 _ _ (.inl (by decide))]
        exact hv160
      refine hb_sta (n := 175) (kind := 64) hm1 (by decide +kernel) rfl rfl (.inl rfl) (by omega) (show _ < (17 : Int) by omega) ?_
      generalize hM2 : hb_set M1 18 (v142.toInt.toNat) v173 = M2
      have hm2 : mz_sh mz_GG M2 := by rw [← hM2]; exact hb_set_sh hm1 rfl hb_at1 (by omega) (by omega)
      have eM2 : ∀ b j, b ≠ 18 ∨ j ≠ v142.toInt.toNat → hv M2 b j = hv M1 b j := by intro b j h; rw [← hM2]; exact hb_set_n h
      have sM2 : hv M2 18 (v142.toInt.toNat) = v173.toInt := by rw [← hM2]; exact hb_set_v hm1 rfl (show _ < 17 by omega)
      have wM2 : ∀ b, b ≠ 18 → M2 b = M1 b := by intro b h; rw [← hM2]; exact hb_set_c h
      refine he_iinc (n := 178) (i := 4) (c := 1) (L' := fun v => [some (.ref 16), some (.ref 11), some (.int x2), some (.int x3), some (.int v), some (.int v142)]) (by decide +kernel) (by decide) rfl (fun _ => rfl) (by omega) (by omega) ?_
      intro i175 hi175
      refine he_goto (t := 131) (by decide +kernel) ?_
      refine ih M2 i175 _ (by omega) (by omega) hm2 (hb_only_s (hb_only_s ho (by decide) wM1) (by decide) wM2) ?_ ?_ K
      · intro j hjj
        rw [eM2 _ _ (.inl (by decide)), eM1 _ _ (.inl (by decide))]
        exact hj j hjj
      · intro j h1 h2
        rw [show i175.toInt.toNat = x4.toInt.toNat + 1 by omega, hb_occ_s, hBv]
        by_cases e : j = v142.toInt.toNat
        · rw [e, sM2, if_pos (by omega)]
          omega
        · rw [eM2 _ _ (.inr e), eM1 _ _ (.inl (by decide)), if_neg (by omega), hn j h1 h2]
          omega
theorem hs_build16_P : hc_build16_P := by
  intro d z u M Q x2 x3 hd hz hm hx p2 p3 p4 p5 K
  refine he_iconst (n := 1) (c := 0) (by decide +kernel) (by decide) ?_
  intro c0 hc0
  refine he_istore (n := 3) (i := 4) (by decide +kernel) rfl ?_
  refine hu_a16 (M0 := M) 16 M c0 (by omega) (by omega) hm hb_only_r (fun j hj => by omega) ?_
  intro M1' y4' hy4' hm1 ho1 hc1
  refine hu_b16 (M0 := M) p2 p3 (by omega) (by omega) x3.toInt.toNat M1' y4' (by omega) (by omega) hm1 ho1 ?_ ?_
  · intro j hj
    rw [show y4'.toInt.toNat = 0 by omega, hc1 j hj]
    rfl
  intro M2' y4 hm2 ho2 hc2
  refine he_aload (n := 55) (i := 0) (by decide +kernel) rfl ?_
  refine he_iconst (n := 56) (c := 0) (by decide +kernel) (by decide) ?_
  intro cq55 hcq55
  refine hb_pfd (n := 59) (ci := 3) (j := 3) (t := 0) (ns := [1047, 16]) hm2 (by decide +kernel) rfl rfl (by decide) (.inl rfl) ?_
  generalize hMq1 : hb_set M2' 16 3 cq55 = Mq1
  have hmq1 : mz_sh mz_GG Mq1 := by rw [← hMq1]; exact hb_set_sh hm2 rfl rfl (by omega) (by omega)
  have eMq1 : ∀ b j, b ≠ 16 ∨ j ≠ 3 → hv Mq1 b j = hv M2' b j := by intro b j h; rw [← hMq1]; exact hb_set_n h
  have sMq1 : hv Mq1 16 3 = cq55.toInt := by rw [← hMq1]; exact hb_set_v hm2 rfl (by decide)
  have wMq1 : ∀ b, b ≠ 16 → Mq1 b = M2' b := by intro b h; rw [← hMq1]; exact hb_set_c h
  refine he_aload (n := 60) (i := 0) (by decide +kernel) rfl ?_
  refine he_getr (n := 63) (ci := 3) (j := 2) (ns := [1046, 13]) (b := 18) hmq1 (by decide +kernel) rfl rfl (by decide +kernel) ?_
  refine he_iconst (n := 64) (c := 1) (by decide +kernel) (by decide) ?_
  intro cq63 hcq63
  refine he_iconst (n := 65) (c := 0) (by decide +kernel) (by decide) ?_
  intro cq64 hcq64
  refine hb_sta (n := 66) (kind := 64) hmq1 (by decide +kernel) rfl rfl (.inl rfl) (by omega) (show _ < (17 : Int) by omega) ?_
  generalize hMq2 : hb_set Mq1 18 (cq63.toInt.toNat) cq64 = Mq2
  have hmq2 : mz_sh mz_GG Mq2 := by rw [← hMq2]; exact hb_set_sh hmq1 rfl hb_at1 (by omega) (by omega)
  have eMq2 : ∀ b j, b ≠ 18 ∨ j ≠ cq63.toInt.toNat → hv Mq2 b j = hv Mq1 b j := by intro b j h; rw [← hMq2]; exact hb_set_n h
  have sMq2 : hv Mq2 18 (cq63.toInt.toNat) = cq64.toInt := by rw [← hMq2]; exact hb_set_v hmq1 rfl (show _ < 17 by omega)
  have wMq2 : ∀ b, b ≠ 18 → Mq2 b = Mq1 b := by intro b h; rw [← hMq2]; exact hb_set_c h
  refine he_iconst (n := 67) (c := 1) (by decide +kernel) (by decide) ?_
  intro cq66 hcq66
  refine he_istore (n := 69) (i := 4) (by decide +kernel) rfl ?_
  refine hu_c16 (M0 := M) p2 p3 (by omega) (by omega) 15 Mq2 cq66 (by omega) (by omega) hmq2 (hb_only_s (hb_only_s ho2 (by decide) wMq1) (by decide) wMq2) ?_ ?_ ?_
  · intro j hj
    rw [eMq2 _ _ (.inl (by decide)), eMq1 _ _ (.inl (by decide))]
    exact hc2 j hj
  · intro j h1 h2
    obtain rfl : j = 1 := by omega
    have e9 : cq63.toInt.toNat = 1 := by omega
    rw [e9] at sMq2
    rw [sMq2]
    exact hcq64
  intro M3 y5 hy5 hm3 ho3 hc3 hn3
  refine hu_d16 (M0 := M) p2 p3 (by omega) (by omega) x3.toInt.toNat M3 y5 none (by omega) (by omega) hm3 ho3 hc3 ?_ ?_
  · intro j h1 h2
    rw [show y5.toInt.toNat = 0 by omega, hn3 j h1 h2]
    show _ = _ + 0
    omega
  intro M4 hm4 ho4 hc4
  have hg := hu_g16 (M0 := M) (x2 := x2) p3 15 (by omega)
  refine K M4 hm4 ?_ (hb_only_fr ho4 (by decide)) (fun a ha => ho4 a ?_) (hb_only_same ho4 (by decide +kernel))
  · refine HX_m (p := 1) (fun k hk => hb_only_x ho4 ?_ (hx k)) ?_
    · intro a ha i
      simp only [List.mem_cons, List.not_mem_nil, or_false] at ha
      rcases ha with rfl | rfl | rfl | rfl
      all_goals exact hu_sp16 k hk _ i (by decide)
    · show hb_sum (fun b => hv M4 (16 + 1) (b + 1)) 15 ≤ 286
      rw [hb_sum_c (g := (hu_G M x2 x3)) 15 (fun i hi => hc4 (i + 1) (by omega))]
      omega
  · simp only [List.elem_eq_mem, decide_eq_false_iff_not, List.mem_cons, List.not_mem_nil, or_false]
    omega
theorem hs_build16 : mz_Ct mz_GG mq_PP HX mz_q25 1 := hc_build16 hs_build16_P
theorem hu_sp20 (k : Nat) (hk : k ≠ 2) (a i : Nat) (ha : a ∈ [20, 21, 22, 23]) : hsp k a i = false := by
  simp only [List.mem_cons, List.not_mem_nil, or_false] at ha
  match k with
  | 0 | 1 | 2 | 3 | 4 | 5 | 6 | 7 | 8 | 9 | 10 | 11 | 12 | 13 | 14 | 15 | 16 | 17 | 18 | 19 | 20 | 21 | 22 | 23 | 24 | 25 | 26 | 27 | 28 | 29 => first | exact absurd rfl hk | (exact decide_eq_false (by omega))
  | n + 30 => rfl
theorem hu_a20 {d z u : Nat} {Q : (Option Value ⊕ Nat) → mq_S → Prop} {M0 : Nat → mq_C} {x2 x3 : Int32} : ∀ (m : Nat) (M : Nat → mq_C) (x4 : Int32), (m : Int) + x4.toInt = 16 → 0 ≤ x4.toInt → mz_sh mz_GG M → hb_only [20, 21, 22, 23] M0 M → (∀ j : Nat, (j : Int) < x4.toInt → hv M 21 j = 0) → (∀ (M' : Nat → mq_C) (y4 : Int32), y4.toInt = 0 → mz_sh mz_GG M' → hb_only [20, 21, 22, 23] M0 M' → (∀ j, j < 16 → hv M' 21 j = 0) → mq_R mq_PP d 63 27 [some (.ref 20), some (.ref 11), some (.int x2), some (.int x3), some (.int y4), none] [] (M', z, u) Q) → mq_R mq_PP d 63 3 [some (.ref 20), some (.ref 11), some (.int x2), some (.int x3), some (.int x4), none] [] (M, z, u) Q := by
  intro m
  induction m with
  | zero =>
    intro M x4 e1 e2 hm ho hj K
    refine he_iload (n := 5) (i := 4) (by decide +kernel) rfl ?_
    refine he_iconst (n := 7) (c := 15) (by decide +kernel) (by decide) ?_
    intro c5 hc5
    refine he_cmpgt_t (n := 10) (t := 24) (by decide +kernel) (by omega) ?_
    refine he_iconst (n := 25) (c := 0) (by decide +kernel) (by decide) ?_
    intro c24 hc24
    refine he_istore (n := 27) (i := 4) (by decide +kernel) rfl ?_
    exact K M c24 hc24 hm ho (fun j hj' => hj j (by omega))
  | succ m ih =>
    intro M x4 e1 e2 hm ho hj K
    refine he_iload (n := 5) (i := 4) (by decide +kernel) rfl ?_
    refine he_iconst (n := 7) (c := 15) (by decide +kernel) (by decide) ?_
    intro c5 hc5
    refine he_cmpgt_f (n := 10) (t := 24) (by decide +kernel) (by omega) ?_
    refine he_aload (n := 11) (i := 0) (by decide +kernel) rfl ?_
    refine he_getr (n := 14) (ci := 3) (j := 0) (ns := [1042, 9]) (b := 21) hm (by decide +kernel) rfl rfl (by decide +kernel) ?_
    refine he_iload (n := 16) (i := 4) (by decide +kernel) rfl ?_
    refine he_iconst (n := 17) (c := 0) (by decide +kernel) (by decide) ?_
    intro c16 hc16
    refine hb_sta (n := 18) (kind := 64) hm (by decide +kernel) rfl rfl (.inl rfl) (by omega) (show _ < (16 : Int) by omega) ?_
    generalize hM1 : hb_set M 21 (x4.toInt.toNat) c16 = M1
    have hm1 : mz_sh mz_GG M1 := by rw [← hM1]; exact hb_set_sh hm rfl hb_at1 (by omega) (by omega)
    have eM1 : ∀ b j, b ≠ 21 ∨ j ≠ x4.toInt.toNat → hv M1 b j = hv M b j := by intro b j h; rw [← hM1]; exact hb_set_n h
    have sM1 : hv M1 21 (x4.toInt.toNat) = c16.toInt := by rw [← hM1]; exact hb_set_v hm rfl (show _ < 16 by omega)
    have wM1 : ∀ b, b ≠ 21 → M1 b = M b := by intro b h; rw [← hM1]; exact hb_set_c h
    refine he_iinc (n := 21) (i := 4) (c := 1) (L' := fun v => [some (.ref 20), some (.ref 11), some (.int x2), some (.int x3), some (.int v), none]) (by decide +kernel) (by decide) rfl (fun _ => rfl) (by omega) (by omega) ?_
    intro i18 hi18
    refine he_goto (t := 3) (by decide +kernel) ?_
    refine ih M1 i18 (by omega) (by omega) hm1 (hb_only_s ho (by decide) wM1) ?_ K
    intro j hjj
    by_cases e : j = x4.toInt.toNat
    · rw [e, sM1]; omega
    · rw [eM1 _ _ (.inr e)]
      exact hj j (by omega)
theorem hu_b20 {d z u : Nat} {Q : (Option Value ⊕ Nat) → mq_S → Prop} {M0 : Nat → mq_C} {x2 x3 : Int32} (p2 : 0 ≤ x2.toInt) (p3 : 0 ≤ x3.toInt) (p4 : x2.toInt + x3.toInt ≤ 316) (p5 : x3.toInt ≤ 30) : ∀ (m : Nat) (M : Nat → mq_C) (x4 : Int32), (m : Int) + x4.toInt = x3.toInt → 0 ≤ x4.toInt → mz_sh mz_GG M → hb_only [20, 21, 22, 23] M0 M → (∀ j, j < 16 → hv M 21 j = hb_occ (hu_B M0 x2) j x4.toInt.toNat) → (∀ (M' : Nat → mq_C) (y4 : Int32), mz_sh mz_GG M' → hb_only [20, 21, 22, 23] M0 M' → (∀ j, j < 16 → hv M' 21 j = hb_occ (hu_B M0 x2) j x3.toInt.toNat) → mq_R mq_PP d 63 54 [some (.ref 20), some (.ref 11), some (.int x2), some (.int x3), some (.int y4), none] [] (M', z, u) Q) → mq_R mq_PP d 63 27 [some (.ref 20), some (.ref 11), some (.int x2), some (.int x3), some (.int x4), none] [] (M, z, u) Q := by
  intro m
  induction m with
  | zero =>
    intro M x4 e1 e2 hm ho hj K
    refine he_iload (n := 29) (i := 4) (by decide +kernel) rfl ?_
    refine he_iload (n := 30) (i := 3) (by decide +kernel) rfl ?_
    refine he_cmpge_t (n := 33) (t := 54) (by decide +kernel) (by omega) ?_
    exact K M x4 hm ho (by rw [show x3.toInt.toNat = x4.toInt.toNat by omega]; exact hj)
  | succ m ih =>
    intro M x4 e1 e2 hm ho hj K
    refine he_iload (n := 29) (i := 4) (by decide +kernel) rfl ?_
    refine he_iload (n := 30) (i := 3) (by decide +kernel) rfl ?_
    refine he_cmpge_f (n := 33) (t := 54) (by decide +kernel) (by omega) ?_
    refine he_aload (n := 34) (i := 0) (by decide +kernel) rfl ?_
    refine he_getr (n := 37) (ci := 3) (j := 0) (ns := [1042, 9]) (b := 21) hm (by decide +kernel) rfl rfl (by decide +kernel) ?_
    refine he_aload (n := 38) (i := 1) (by decide +kernel) rfl ?_
    refine he_iload (n := 39) (i := 2) (by decide +kernel) rfl ?_
    refine he_iload (n := 41) (i := 4) (by decide +kernel) rfl ?_
    refine he_iadd (n := 42) (by decide +kernel) (by omega) (by omega) ?_
    intro v41 hv41
    refine hb_ld (n := 43) (kind := 64) hm (by decide +kernel) rfl rfl (.inl rfl) (by omega) (show _ < (316 : Int) by omega) hb_at1 ?_
    intro v42 hv42 lv42 uv42
    have hBv : (hu_B M0 x2) x4.toInt.toNat = v42.toInt := by
      show hv M0 11 (x2.toInt.toNat + x4.toInt.toNat) = _
      rw [← hv42, show v41.toInt.toNat = x2.toInt.toNat + x4.toInt.toNat by omega]
      exact (hb_vc (ho 11 (by decide)) _).symm
    have hoc := hj v42.toInt.toNat (by omega)
    have hle : hb_occ (hu_B M0 x2) v42.toInt.toNat x4.toInt.toNat ≤ ((x4.toInt.toNat : Nat) : Int) := hb_cnt_le _ _
    have hge : 0 ≤ hb_occ (hu_B M0 x2) v42.toInt.toNat x4.toInt.toNat := hb_cnt_0 _
    refine he_dup2 (n := 44) (by decide +kernel) ?_
    refine hb_ld (n := 45) (kind := 64) hm (by decide +kernel) rfl rfl (.inl rfl) (by omega) (show _ < (16 : Int) by omega) hb_at1 ?_
    intro v44 hv44 lv44 uv44
    refine he_iconst (n := 46) (c := 1) (by decide +kernel) (by decide) ?_
    intro c45 hc45
    refine he_iadd (n := 47) (by decide +kernel) (by omega) (by omega) ?_
    intro v46 hv46
    refine hb_sta (n := 48) (kind := 64) hm (by decide +kernel) rfl rfl (.inl rfl) (by omega) (show _ < (16 : Int) by omega) ?_
    generalize hM1 : hb_set M 21 (v42.toInt.toNat) v46 = M1
    have hm1 : mz_sh mz_GG M1 := by rw [← hM1]; exact hb_set_sh hm rfl hb_at1 (by omega) (by omega)
    have eM1 : ∀ b j, b ≠ 21 ∨ j ≠ v42.toInt.toNat → hv M1 b j = hv M b j := by intro b j h; rw [← hM1]; exact hb_set_n h
    have sM1 : hv M1 21 (v42.toInt.toNat) = v46.toInt := by rw [← hM1]; exact hb_set_v hm rfl (show _ < 16 by omega)
    have wM1 : ∀ b, b ≠ 21 → M1 b = M b := by intro b h; rw [← hM1]; exact hb_set_c h
    refine he_iinc (n := 51) (i := 4) (c := 1) (L' := fun v => [some (.ref 20), some (.ref 11), some (.int x2), some (.int x3), some (.int v), none]) (by decide +kernel) (by decide) rfl (fun _ => rfl) (by omega) (by omega) ?_
    intro i48 hi48
    refine he_goto (t := 27) (by decide +kernel) ?_
    refine ih M1 i48 (by omega) (by omega) hm1 (hb_only_s ho (by decide) wM1) ?_ K
    intro j hjj
    rw [show i48.toInt.toNat = x4.toInt.toNat + 1 by omega, hb_occ_s, hBv]
    by_cases e : j = v42.toInt.toNat
    · subst e
      have hcell : hv M 21 v42.toInt.toNat = v44.toInt := hv44
      rw [sM1, ← hoc, hcell, if_pos (by omega)]
      omega
    · rw [eM1 _ _ (.inr e), hj j hjj, if_neg (by omega)]
      omega
theorem hu_g20 {M0 : Nat → mq_C} {x2 x3 : Int32} (p3 : 0 ≤ x3.toInt) : ∀ j, j ≤ 15 → 0 ≤ hb_sum (hu_G M0 x2 x3) j ∧ hb_sum (hu_G M0 x2 x3) j ≤ x3.toInt := by
  intro j hj
  have h0 : ∀ i, 0 ≤ (hu_G M0 x2 x3) i := fun i => hb_cnt_0 _
  have h1 := hb_sum_0 (f := (hu_G M0 x2 x3)) j (fun i _ => h0 i)
  have h2 := hb_sum_m (f := (hu_G M0 x2 x3)) (m := j) 15 hj (fun i _ => h0 i)
  have h3 := hb_occ_t (B := (hu_B M0 x2)) 16 x3.toInt.toNat
  rw [hb_sum_sh] at h3
  have h4 : 0 ≤ hb_occ (hu_B M0 x2) 0 x3.toInt.toNat := hb_cnt_0 _
  have h5 : hb_sum (hu_G M0 x2 x3) 15 = hb_sum (fun t => hb_occ (hu_B M0 x2) (t + 1) x3.toInt.toNat) 15 := rfl
  refine ⟨h1, ?_⟩
  omega
theorem hu_c20 {d z u : Nat} {Q : (Option Value ⊕ Nat) → mq_S → Prop} {M0 : Nat → mq_C} {x2 x3 : Int32} (p2 : 0 ≤ x2.toInt) (p3 : 0 ≤ x3.toInt) (p4 : x2.toInt + x3.toInt ≤ 316) (p5 : x3.toInt ≤ 30) : ∀ (m : Nat) (M : Nat → mq_C) (x4 : Int32), (m : Int) + x4.toInt = 16 → 1 ≤ x4.toInt → mz_sh mz_GG M → hb_only [20, 21, 22, 23] M0 M → (∀ j, j < 16 → hv M 21 j = hb_occ (hu_B M0 x2) j x3.toInt.toNat) → (∀ j : Nat, 1 ≤ j → (j : Int) ≤ x4.toInt → hv M 22 j = hb_sum (hu_G M0 x2 x3) (j - 1)) → (∀ (M' : Nat → mq_C) (y4 : Int32), y4.toInt = 0 → mz_sh mz_GG M' → hb_only [20, 21, 22, 23] M0 M' → (∀ j, j < 16 → hv M' 21 j = hb_occ (hu_B M0 x2) j x3.toInt.toNat) → (∀ j, 1 ≤ j → j < 16 → hv M' 22 j = hb_sum (hu_G M0 x2 x3) (j - 1)) → mq_R mq_PP d 63 131 [some (.ref 20), some (.ref 11), some (.int x2), some (.int x3), some (.int y4), none] [] (M', z, u) Q) → mq_R mq_PP d 63 69 [some (.ref 20), some (.ref 11), some (.int x2), some (.int x3), some (.int x4), none] [] (M, z, u) Q := by
  intro m
  induction m with
  | zero =>
    intro M x4 e1 e2 hm ho hj hn K
    refine he_iload (n := 71) (i := 4) (by decide +kernel) rfl ?_
    refine he_iconst (n := 73) (c := 15) (by decide +kernel) (by decide) ?_
    intro c71 hc71
    refine he_cmpgt_t (n := 76) (t := 128) (by decide +kernel) (by omega) ?_
    refine he_iconst (n := 129) (c := 0) (by decide +kernel) (by decide) ?_
    intro c128 hc128
    refine he_istore (n := 131) (i := 4) (by decide +kernel) rfl ?_
    exact K M c128 hc128 hm ho hj (fun j h1 h2 => hn j h1 (by omega))
  | succ m ih =>
    intro M x4 e1 e2 hm ho hj hn K
    refine he_iload (n := 71) (i := 4) (by decide +kernel) rfl ?_
    refine he_iconst (n := 73) (c := 15) (by decide +kernel) (by decide) ?_
    intro c71 hc71
    refine he_cmpgt_f (n := 76) (t := 128) (by decide +kernel) (by omega) ?_
    refine he_aload (n := 77) (i := 0) (by decide +kernel) rfl ?_
    refine he_dup_r (n := 78) (by decide +kernel) ?_
    refine hb_gfd (n := 81) (ci := 3) (j := 3) (ns := [1047, 16]) hm (by decide +kernel) rfl rfl (by decide) rfl ?_
    intro v78 hv78 lv78 uv78
    refine he_aload (n := 82) (i := 0) (by decide +kernel) rfl ?_
    refine he_getr (n := 85) (ci := 3) (j := 0) (ns := [1042, 9]) (b := 21) hm (by decide +kernel) rfl rfl (by decide +kernel) ?_
    refine he_iload (n := 87) (i := 4) (by decide +kernel) rfl ?_
    refine hb_ld (n := 88) (kind := 64) hm (by decide +kernel) rfl rfl (.inl rfl) (by omega) (show _ < (16 : Int) by omega) hb_at1 ?_
    intro v87 hv87 lv87 uv87
    refine he_iconst (n := 90) (c := 15) (by decide +kernel) (by decide) ?_
    intro c88 hc88
    refine he_iload (n := 92) (i := 4) (by decide +kernel) rfl ?_
    refine he_isub (n := 93) (by decide +kernel) (by omega) (by omega) ?_
    intro v92 hv92
    refine he_any2 (o := 15) (n := 94) (by decide +kernel) rfl ?_
    intro v93
    have bv93 := mz_i32 v93
    refine he_any2 (o := 9) (n := 95) (by decide +kernel) rfl ?_
    intro v94
    have bv94 := mz_i32 v94
    refine hb_pfd (n := 98) (ci := 3) (j := 3) (t := 0) (ns := [1047, 16]) hm (by decide +kernel) rfl rfl (by decide) (.inl rfl) ?_
    generalize hM1 : hb_set M 20 3 v94 = M1
    have hm1 : mz_sh mz_GG M1 := by rw [← hM1]; exact hb_set_sh hm rfl rfl (by omega) (by omega)
    have eM1 : ∀ b j, b ≠ 20 ∨ j ≠ 3 → hv M1 b j = hv M b j := by intro b j h; rw [← hM1]; exact hb_set_n h
    have sM1 : hv M1 20 3 = v94.toInt := by rw [← hM1]; exact hb_set_v hm rfl (by decide)
    have wM1 : ∀ b, b ≠ 20 → M1 b = M b := by intro b h; rw [← hM1]; exact hb_set_c h
    refine he_aload (n := 99) (i := 0) (by decide +kernel) rfl ?_
    refine he_getr (n := 102) (ci := 3) (j := 2) (ns := [1046, 13]) (b := 22) hm1 (by decide +kernel) rfl rfl (by decide +kernel) ?_
    refine he_iload (n := 104) (i := 4) (by decide +kernel) rfl ?_
    refine he_iconst (n := 105) (c := 1) (by decide +kernel) (by decide) ?_
    intro c104 hc104
    refine he_iadd (n := 106) (by decide +kernel) (by omega) (by omega) ?_
    intro v105 hv105
    refine he_aload (n := 107) (i := 0) (by decide +kernel) rfl ?_
    refine he_getr (n := 110) (ci := 3) (j := 2) (ns := [1046, 13]) (b := 22) hm1 (by decide +kernel) rfl rfl (by decide +kernel) ?_
    refine he_iload (n := 112) (i := 4) (by decide +kernel) rfl ?_
    refine hb_ld (n := 113) (kind := 64) hm1 (by decide +kernel) rfl rfl (.inl rfl) (by omega) (show _ < (17 : Int) by omega) hb_at1 ?_
    intro v112 hv112 lv112 uv112
    refine he_aload (n := 114) (i := 0) (by decide +kernel) rfl ?_
    refine he_getr (n := 117) (ci := 3) (j := 0) (ns := [1042, 9]) (b := 21) hm1 (by decide +kernel) rfl rfl (by decide +kernel) ?_
    refine he_iload (n := 119) (i := 4) (by decide +kernel) rfl ?_
    refine hb_ld (n := 120) (kind := 64) hm1 (by decide +kernel) rfl rfl (.inl rfl) (by omega) (show _ < (16 : Int) by omega) hb_at1 ?_
    intro v119 hv119 lv119 uv119
    refine he_iadd (n := 121) (by decide +kernel) (by omega) (by omega) ?_
    intro v120 hv120
    have q1 : v112.toInt = hb_sum (hu_G M0 x2 x3) (x4.toInt.toNat - 1) := by
      rw [← hv112, ← hn x4.toInt.toNat (by omega) (by omega)]
      exact eM1 _ _ (.inl (by decide))
    have q2 : v119.toInt = hb_occ (hu_B M0 x2) x4.toInt.toNat x3.toInt.toNat := by
      rw [← hv119, ← hj x4.toInt.toNat (by omega)]
      exact eM1 _ _ (.inl (by decide))
    have q3 : hb_sum (hu_G M0 x2 x3) x4.toInt.toNat = v112.toInt + v119.toInt := by
      obtain ⟨t, ht⟩ : ∃ t, x4.toInt.toNat = t + 1 := ⟨x4.toInt.toNat - 1, by omega⟩
      rw [q1, q2, ht]
      rfl
    have q4 := hu_g20 (M0 := M0) (x2 := x2) p3 x4.toInt.toNat (by omega)
    refine hb_sta (n := 122) (kind := 64) hm1 (by decide +kernel) rfl rfl (.inl rfl) (by omega) (show _ < (17 : Int) by omega) ?_
    generalize hM2 : hb_set M1 22 (v105.toInt.toNat) v120 = M2
    have hm2 : mz_sh mz_GG M2 := by rw [← hM2]; exact hb_set_sh hm1 rfl hb_at1 (by omega) (by omega)
    have eM2 : ∀ b j, b ≠ 22 ∨ j ≠ v105.toInt.toNat → hv M2 b j = hv M1 b j := by intro b j h; rw [← hM2]; exact hb_set_n h
    have sM2 : hv M2 22 (v105.toInt.toNat) = v120.toInt := by rw [← hM2]; exact hb_set_v hm1 rfl (show _ < 17 by omega)
    have wM2 : ∀ b, b ≠ 22 → M2 b = M1 b := by intro b h; rw [← hM2]; exact hb_set_c h
    refine he_iinc (n := 125) (i := 4) (c := 1) (L' := fun v => [some (.ref 20), some (.ref 11), some (.int x2), some (.int x3), some (.int v), none]) (by decide +kernel) (by decide) rfl (fun _ => rfl) (by omega) (by omega) ?_
    intro i122 hi122
    refine he_goto (t := 69) (by decide +kernel) ?_
    refine ih M2 i122 (by omega) (by omega) hm2 (hb_only_s (hb_only_s ho (by decide) wM1) (by decide) wM2) ?_ ?_ K
    · intro j hjj
      rw [eM2 _ _ (.inl (by decide)), eM1 _ _ (.inl (by decide))]
      exact hj j hjj
    · intro j h1 h2
      by_cases e : j = v105.toInt.toNat
      · rw [e, sM2, show v105.toInt.toNat - 1 = x4.toInt.toNat by omega, q3]
        omega
      · rw [eM2 _ _ (.inr e), eM1 _ _ (.inl (by decide))]
        exact hn j h1 (by omega)
theorem hu_d20 {d z u : Nat} {Q : (Option Value ⊕ Nat) → mq_S → Prop} {M0 : Nat → mq_C} {x2 x3 : Int32} (p2 : 0 ≤ x2.toInt) (p3 : 0 ≤ x3.toInt) (p4 : x2.toInt + x3.toInt ≤ 316) (p5 : x3.toInt ≤ 30) : ∀ (m : Nat) (M : Nat → mq_C) (x4 : Int32) (o5 : Option Value), (m : Int) + x4.toInt = x3.toInt → 0 ≤ x4.toInt → mz_sh mz_GG M → hb_only [20, 21, 22, 23] M0 M → (∀ j, j < 16 → hv M 21 j = hb_occ (hu_B M0 x2) j x3.toInt.toNat) → (∀ j, 1 ≤ j → j < 16 → hv M 22 j = hb_sum (hu_G M0 x2 x3) (j - 1) + hb_occ (hu_B M0 x2) j x4.toInt.toNat) → (∀ (M' : Nat → mq_C), mz_sh mz_GG M' → hb_only [20, 21, 22, 23] M0 M' → (∀ j, j < 16 → hv M' 21 j = hb_occ (hu_B M0 x2) j x3.toInt.toNat) → Q (.inl none) (M', z, u)) → mq_R mq_PP d 63 131 [some (.ref 20), some (.ref 11), some (.int x2), some (.int x3), some (.int x4), o5] [] (M, z, u) Q := by
  intro m
  induction m with
  | zero =>
    intro M x4 o5 e1 e2 hm ho hj hn K
    refine he_iload (n := 133) (i := 4) (by decide +kernel) rfl ?_
    refine he_iload (n := 134) (i := 3) (by decide +kernel) rfl ?_
    refine he_cmpge_t (n := 137) (t := 181) (by decide +kernel) (by omega) ?_
    refine he_ret (by decide +kernel) ?_
    exact K M hm ho hj
  | succ m ih =>
    intro M x4 o5 e1 e2 hm ho hj hn K
    refine he_iload (n := 133) (i := 4) (by decide +kernel) rfl ?_
    refine he_iload (n := 134) (i := 3) (by decide +kernel) rfl ?_
    refine he_cmpge_f (n := 137) (t := 181) (by decide +kernel) (by omega) ?_
    refine he_aload (n := 138) (i := 1) (by decide +kernel) rfl ?_
    refine he_iload (n := 139) (i := 2) (by decide +kernel) rfl ?_
    refine he_iload (n := 141) (i := 4) (by decide +kernel) rfl ?_
    refine he_iadd (n := 142) (by decide +kernel) (by omega) (by omega) ?_
    intro v141 hv141
    refine hb_ld (n := 143) (kind := 64) hm (by decide +kernel) rfl rfl (.inl rfl) (by omega) (show _ < (316 : Int) by omega) hb_at1 ?_
    intro v142 hv142 lv142 uv142
    refine he_istore (n := 145) (i := 5) (by decide +kernel) rfl ?_
    refine he_iload (n := 147) (i := 5) (by decide +kernel) rfl ?_
    have hBv : (hu_B M0 x2) x4.toInt.toNat = v142.toInt := by
      show hv M0 11 (x2.toInt.toNat + x4.toInt.toNat) = _
      rw [← hv142, show v141.toInt.toNat = x2.toInt.toNat + x4.toInt.toNat by omega]
      exact (hb_vc (ho 11 (by decide)) _).symm
    by_cases hz0 : v142.toInt ≤ 0
    · skip
      refine he_ifle_t (n := 150) (t := 175) (by decide +kernel) (by omega) ?_
      refine he_iinc (n := 178) (i := 4) (c := 1) (L' := fun v => [some (.ref 20), some (.ref 11), some (.int x2), some (.int x3), some (.int v), some (.int v142)]) (by decide +kernel) (by decide) rfl (fun _ => rfl) (by omega) (by omega) ?_
      intro i175 hi175
      refine he_goto (t := 131) (by decide +kernel) ?_
      refine ih M i175 _ (by omega) (by omega) hm ho hj ?_ K
      intro j h1 h2
      rw [show i175.toInt.toNat = x4.toInt.toNat + 1 by omega, hb_occ_s, hBv, if_neg (by omega), hn j h1 h2]
      omega
    · skip
      refine he_ifle_f (n := 150) (t := 175) (by decide +kernel) (by omega) ?_
      refine he_aload (n := 151) (i := 0) (by decide +kernel) rfl ?_
      refine he_getr (n := 154) (ci := 3) (j := 1) (ns := [1044, 20]) (b := 23) hm (by decide +kernel) rfl rfl (by decide +kernel) ?_
      refine he_aload (n := 155) (i := 0) (by decide +kernel) rfl ?_
      refine he_getr (n := 158) (ci := 3) (j := 2) (ns := [1046, 13]) (b := 22) hm (by decide +kernel) rfl rfl (by decide +kernel) ?_
      refine he_iload (n := 160) (i := 5) (by decide +kernel) rfl ?_
      refine hb_ld (n := 161) (kind := 64) hm (by decide +kernel) rfl rfl (.inl rfl) (by omega) (show _ < (17 : Int) by omega) hb_at1 ?_
      intro v160 hv160 lv160 uv160
      refine he_iload (n := 163) (i := 4) (by decide +kernel) rfl ?_
      have q1 : v160.toInt = hb_sum (hu_G M0 x2 x3) (v142.toInt.toNat - 1) + hb_occ (hu_B M0 x2) v142.toInt.toNat x4.toInt.toNat := by
        rw [← hv160]
        exact hn v142.toInt.toNat (by omega) (by omega)
      have q2 := hb_occ_m (B := (hu_B M0 x2)) (b := v142.toInt.toNat) (i := x4.toInt.toNat) (n := x3.toInt.toNat) (by omega) (by rw [hBv]; omega)
      have q3 : hb_sum (hu_G M0 x2 x3) v142.toInt.toNat = hb_sum (hu_G M0 x2 x3) (v142.toInt.toNat - 1) + hb_occ (hu_B M0 x2) v142.toInt.toNat x3.toInt.toNat := by
        obtain ⟨t, ht⟩ : ∃ t, v142.toInt.toNat = t + 1 := ⟨v142.toInt.toNat - 1, by omega⟩
        rw [ht]
        rfl
      have q4 := hu_g20 (M0 := M0) (x2 := x2) p3 v142.toInt.toNat (by omega)
      refine hb_sta (n := 164) (kind := 64) hm (by decide +kernel) rfl rfl (.inl rfl) (by omega) (show _ < (30 : Int) by omega) ?_
      generalize hM1 : hb_set M 23 (v160.toInt.toNat) x4 = M1
      have hm1 : mz_sh mz_GG M1 := by rw [← hM1]; exact hb_set_sh hm rfl hb_at1 (by omega) (by omega)
      have eM1 : ∀ b j, b ≠ 23 ∨ j ≠ v160.toInt.toNat → hv M1 b j = hv M b j := by intro b j h; rw [← hM1]; exact hb_set_n h
      have sM1 : hv M1 23 (v160.toInt.toNat) = x4.toInt := by rw [← hM1]; exact hb_set_v hm rfl (show _ < 30 by omega)
      have wM1 : ∀ b, b ≠ 23 → M1 b = M b := by intro b h; rw [← hM1]; exact hb_set_c h
      refine he_aload (n := 165) (i := 0) (by decide +kernel) rfl ?_
      refine he_getr (n := 168) (ci := 3) (j := 2) (ns := [1046, 13]) (b := 22) hm1 (by decide +kernel) rfl rfl (by decide +kernel) ?_
      refine he_iload (n := 170) (i := 5) (by decide +kernel) rfl ?_
      refine he_dup2 (n := 171) (by decide +kernel) ?_
      refine hb_ld (n := 172) (kind := 64) hm1 (by decide +kernel) rfl rfl (.inl rfl) (by omega) (show _ < (17 : Int) by omega) hb_at1 ?_
      intro v171 hv171 lv171 uv171
      refine he_iconst (n := 173) (c := 1) (by decide +kernel) (by decide) ?_
      intro c172 hc172
      refine he_iadd (n := 174) (by decide +kernel) (by omega) (by omega) ?_
      intro v173 hv173
      have q5 : v171.toInt = v160.toInt := by
        rw [← hv171, eM1 _ _ (.inl (by decide))]
        exact hv160
      refine hb_sta (n := 175) (kind := 64) hm1 (by decide +kernel) rfl rfl (.inl rfl) (by omega) (show _ < (17 : Int) by omega) ?_
      generalize hM2 : hb_set M1 22 (v142.toInt.toNat) v173 = M2
      have hm2 : mz_sh mz_GG M2 := by rw [← hM2]; exact hb_set_sh hm1 rfl hb_at1 (by omega) (by omega)
      have eM2 : ∀ b j, b ≠ 22 ∨ j ≠ v142.toInt.toNat → hv M2 b j = hv M1 b j := by intro b j h; rw [← hM2]; exact hb_set_n h
      have sM2 : hv M2 22 (v142.toInt.toNat) = v173.toInt := by rw [← hM2]; exact hb_set_v hm1 rfl (show _ < 17 by omega)
      have wM2 : ∀ b, b ≠ 22 → M2 b = M1 b := by intro b h; rw [← hM2]; exact hb_set_c h
      refine he_iinc (n := 178) (i := 4) (c := 1) (L' := fun v => [some (.ref 20), some (.ref 11), some (.int x2), some (.int x3), some (.int v), some (.int v142)]) (by decide +kernel) (by decide) rfl (fun _ => rfl) (by omega) (by omega) ?_
      intro i175 hi175
      refine he_goto (t := 131) (by decide +kernel) ?_
      refine ih M2 i175 _ (by omega) (by omega) hm2 (hb_only_s (hb_only_s ho (by decide) wM1) (by decide) wM2) ?_ ?_ K
      · intro j hjj
        rw [eM2 _ _ (.inl (by decide)), eM1 _ _ (.inl (by decide))]
        exact hj j hjj
      · intro j h1 h2
        rw [show i175.toInt.toNat = x4.toInt.toNat + 1 by omega, hb_occ_s, hBv]
        by_cases e : j = v142.toInt.toNat
        · rw [e, sM2, if_pos (by omega)]
          omega
        · rw [eM2 _ _ (.inr e), eM1 _ _ (.inl (by decide)), if_neg (by omega), hn j h1 h2]
          omega
theorem hs_build20_P : hc_build20_P := by
  intro d z u M Q x2 x3 hd hz hm hx p2 p3 p4 p5 K
  refine he_iconst (n := 1) (c := 0) (by decide +kernel) (by decide) ?_
  intro c0 hc0
  refine he_istore (n := 3) (i := 4) (by decide +kernel) rfl ?_
  refine hu_a20 (M0 := M) 16 M c0 (by omega) (by omega) hm hb_only_r (fun j hj => by omega) ?_
  intro M1' y4' hy4' hm1 ho1 hc1
  refine hu_b20 (M0 := M) p2 p3 (by omega) (by omega) x3.toInt.toNat M1' y4' (by omega) (by omega) hm1 ho1 ?_ ?_
  · intro j hj
    rw [show y4'.toInt.toNat = 0 by omega, hc1 j hj]
    rfl
  intro M2' y4 hm2 ho2 hc2
  refine he_aload (n := 55) (i := 0) (by decide +kernel) rfl ?_
  refine he_iconst (n := 56) (c := 0) (by decide +kernel) (by decide) ?_
  intro cq55 hcq55
  refine hb_pfd (n := 59) (ci := 3) (j := 3) (t := 0) (ns := [1047, 16]) hm2 (by decide +kernel) rfl rfl (by decide) (.inl rfl) ?_
  generalize hMq1 : hb_set M2' 20 3 cq55 = Mq1
  have hmq1 : mz_sh mz_GG Mq1 := by rw [← hMq1]; exact hb_set_sh hm2 rfl rfl (by omega) (by omega)
  have eMq1 : ∀ b j, b ≠ 20 ∨ j ≠ 3 → hv Mq1 b j = hv M2' b j := by intro b j h; rw [← hMq1]; exact hb_set_n h
  have sMq1 : hv Mq1 20 3 = cq55.toInt := by rw [← hMq1]; exact hb_set_v hm2 rfl (by decide)
  have wMq1 : ∀ b, b ≠ 20 → Mq1 b = M2' b := by intro b h; rw [← hMq1]; exact hb_set_c h
  refine he_aload (n := 60) (i := 0) (by decide +kernel) rfl ?_
  refine he_getr (n := 63) (ci := 3) (j := 2) (ns := [1046, 13]) (b := 22) hmq1 (by decide +kernel) rfl rfl (by decide +kernel) ?_
  refine he_iconst (n := 64) (c := 1) (by decide +kernel) (by decide) ?_
  intro cq63 hcq63
  refine he_iconst (n := 65) (c := 0) (by decide +kernel) (by decide) ?_
  intro cq64 hcq64
  refine hb_sta (n := 66) (kind := 64) hmq1 (by decide +kernel) rfl rfl (.inl rfl) (by omega) (show _ < (17 : Int) by omega) ?_
  generalize hMq2 : hb_set Mq1 22 (cq63.toInt.toNat) cq64 = Mq2
  have hmq2 : mz_sh mz_GG Mq2 := by rw [← hMq2]; exact hb_set_sh hmq1 rfl hb_at1 (by omega) (by omega)
  have eMq2 : ∀ b j, b ≠ 22 ∨ j ≠ cq63.toInt.toNat → hv Mq2 b j = hv Mq1 b j := by intro b j h; rw [← hMq2]; exact hb_set_n h
  have sMq2 : hv Mq2 22 (cq63.toInt.toNat) = cq64.toInt := by rw [← hMq2]; exact hb_set_v hmq1 rfl (show _ < 17 by omega)
  have wMq2 : ∀ b, b ≠ 22 → Mq2 b = Mq1 b := by intro b h; rw [← hMq2]; exact hb_set_c h
  refine he_iconst (n := 67) (c := 1) (by decide +kernel) (by decide) ?_
  intro cq66 hcq66
  refine he_istore (n := 69) (i := 4) (by decide +kernel) rfl ?_
  refine hu_c20 (M0 := M) p2 p3 (by omega) (by omega) 15 Mq2 cq66 (by omega) (by omega) hmq2 (hb_only_s (hb_only_s ho2 (by decide) wMq1) (by decide) wMq2) ?_ ?_ ?_
  · intro j hj
    rw [eMq2 _ _ (.inl (by decide)), eMq1 _ _ (.inl (by decide))]
    exact hc2 j hj
  · intro j h1 h2
    obtain rfl : j = 1 := by omega
    have e9 : cq63.toInt.toNat = 1 := by omega
    rw [e9] at sMq2
    rw [sMq2]
    exact hcq64
  intro M3 y5 hy5 hm3 ho3 hc3 hn3
  refine hu_d20 (M0 := M) p2 p3 (by omega) (by omega) x3.toInt.toNat M3 y5 none (by omega) (by omega) hm3 ho3 hc3 ?_ ?_
  · intro j h1 h2
    rw [show y5.toInt.toNat = 0 by omega, hn3 j h1 h2]
    show _ = _ + 0
    omega
  intro M4 hm4 ho4 hc4
  have hg := hu_g20 (M0 := M) (x2 := x2) p3 15 (by omega)
  refine K M4 hm4 ?_ (hb_only_fr ho4 (by decide)) (fun a ha => ho4 a ?_) (hb_only_same ho4 (by decide +kernel))
  · refine HX_m (p := 2) (fun k hk => hb_only_x ho4 ?_ (hx k)) ?_
    · intro a ha i
      simp only [List.mem_cons, List.not_mem_nil, or_false] at ha
      rcases ha with rfl | rfl | rfl | rfl
      all_goals exact hu_sp20 k hk _ i (by decide)
    · show hb_sum (fun b => hv M4 (20 + 1) (b + 1)) 15 ≤ 30
      rw [hb_sum_c (g := (hu_G M x2 x3)) 15 (fun i hi => hc4 (i + 1) (by omega))]
      omega
  · simp only [List.elem_eq_mem, decide_eq_false_iff_not, List.mem_cons, List.not_mem_nil, or_false]
    omega
theorem hs_build20 : mz_Ct mz_GG mq_PP HX mz_q26 1 := hc_build20 hs_build20_P
