/-! The model's loads: enterLoad, the loop. -/
theorem hm_par {i : Nat} (h : 1 ≤ i) (h' : i ≤ 3) : mz_at (64, 4, 0, [(0, -1, 0), (0, 0, 0), (0, 0, 1), (0, 0, 2)]) i = (0, 0, (i : Int) - 1) := by
  have : i = 1 ∨ i = 2 ∨ i = 3 := by omega
  rcases this with rfl | rfl | rfl <;> rfl
theorem hm_enter {d z u j k n : Nat} {Q : (Option Value ⊕ Nat) → mq_S → Prop} {M : Nat → mq_C} {x1 : Int32} (hC : ∀ c ∈ mz_Cs, c.2 < 14 → mz_Ct mz_GG mq_PP HX c.1 c.2) (hd : 10 ≤ d) (hz : 272 ≤ z) (hm : mz_sh mz_GG M) (hx : HX M) (hj : hv M 234 48 = (j : Int) + 1) (hj1 : j < 139) (p1 : x1.toInt = 12 * (j : Int)) (hk : hv M 267 (12 * j) = (k : Int)) (hn : hv M 267 (12 * j + 1) = (n : Int)) (hk4 : k < 4) (hn32 : n < 32)
    (KF : ∀ M' : Nat → mq_C, mz_sh mz_GG M' → HX M' → hm_rel k j M M' → hv M' 234 48 = (j : Int) → hm_w M' → Q (.inl none) (M', z, u))
    (KP : ∀ (M' : Nat → mq_C) (kp : Nat), mz_sh mz_GG M' → HX M' → hv M 261 (32 * k + n) = -1 → hm_bit (hv M 262 k) n = false → kp < k → hm_F M M' → hv M' 234 48 = (j : Int) + 2 → hv M' 267 (12 * j + 2) = 1 → hv M' 267 (12 * j) = (k : Int) → hv M' 267 (12 * j + 1) = (n : Int) → hv M' 267 (12 * (j + 1)) = (kp : Int) → hv M' 267 (12 * (j + 1) + 2) = 0 → (∀ i, i < 12 * j → hv M' 267 i = hv M 267 i) → Q (.inl none) (M', z, u))
    (KA : ∀ M' : Nat → mq_C, mz_sh mz_GG M' → HX M' → hv M 261 (32 * k + n) = -1 → hm_bit (hv M 262 k) n = false → hm_T j k n M M' → hm_N j M M' → Q (.inl none) (M', z, u)) : mq_R mq_PP (d + 3) 151 0 [some (.ref 234), some (.int x1), none, none] [] (M, z, u) Q := by
  refine he_aload (n := 1) (i := 0) (by decide +kernel) rfl ?_
  refine he_getr (n := 4) (ci := 9) (j := 49) (ns := [4226, 107]) (b := 267) hm (by decide +kernel) rfl rfl (by decide +kernel) ?_
  refine he_iload (n := 5) (i := 1) (by decide +kernel) rfl ?_
  refine hb_ld (n := 6) (kind := 64) hm (by decide +kernel) rfl rfl (.inl rfl) (by omega) (show _ < (1680 : Int) by omega) (hm_f0 (by omega)) ?_
  intro v5 hv5 lv5 uv5
  refine he_istore (n := 7) (i := 2) (by decide +kernel) rfl ?_
  refine he_aload (n := 8) (i := 0) (by decide +kernel) rfl ?_
  refine he_getr (n := 11) (ci := 9) (j := 49) (ns := [4226, 107]) (b := 267) hm (by decide +kernel) rfl rfl (by decide +kernel) ?_
  refine he_iload (n := 12) (i := 1) (by decide +kernel) rfl ?_
  refine he_iconst (n := 13) (c := 1) (by decide +kernel) (by decide) ?_
  intro c12 hc12
  refine he_iadd (n := 14) (by decide +kernel) (by omega) (by omega) ?_
  intro v13 hv13
  refine hb_ld (n := 15) (kind := 64) hm (by decide +kernel) rfl rfl (.inl rfl) (by omega) (show _ < (1680 : Int) by omega) (hm_f1 (by omega)) ?_
  intro v14 hv14 lv14 uv14
  refine he_istore (n := 16) (i := 3) (by decide +kernel) rfl ?_
  refine he_aload (n := 17) (i := 0) (by decide +kernel) rfl ?_
  refine he_getr (n := 20) (ci := 9) (j := 35) (ns := [4212, 89]) (b := 261) hm (by decide +kernel) rfl rfl (by decide +kernel) ?_
  refine he_iconst (n := 22) (c := 32) (by decide +kernel) (by decide) ?_
  intro c20 hc20
  refine he_iload (n := 23) (i := 2) (by decide +kernel) rfl ?_
  refine he_imul (n := 24) (p := 32 * v5.toInt) (by decide +kernel) (by rw [hc20]) (by omega) (by omega) ?_
  intro v23 hv23
  refine he_iload (n := 25) (i := 3) (by decide +kernel) rfl ?_
  refine he_iadd (n := 26) (by decide +kernel) (by omega) (by omega) ?_
  intro v25 hv25
  refine hb_ld (n := 27) (kind := 64) hm (by decide +kernel) rfl rfl (.inl rfl) (by omega) (show _ < (128 : Int) by omega) hb_at1 ?_
  intro v26 hv26 lv26 uv26
  have q5 : v5.toInt = (k : Int) := by rw [← hv5, show x1.toInt.toNat = 12 * j by omega]; exact hk
  have q14 : v14.toInt = (n : Int) := by rw [← hv14, show v13.toInt.toNat = 12 * j + 1 by omega]; exact hn
  by_cases h27 : v26.toInt < 0
  · skip
    have hdf : hv M 261 (32 * k + n) = -1 := by
      rw [show 32 * k + n = v25.toInt.toNat by omega, hv26]
      omega
    refine he_iflt_t (n := 30) (t := 50) (by decide +kernel) (by omega) ?_
    refine he_aload (n := 51) (i := 0) (by decide +kernel) rfl ?_
    refine he_getr (n := 54) (ci := 9) (j := 36) (ns := [4213, 92]) (b := 262) hm (by decide +kernel) rfl rfl (by decide +kernel) ?_
    refine he_iload (n := 55) (i := 2) (by decide +kernel) rfl ?_
    refine hb_ld (n := 56) (kind := 64) hm (by decide +kernel) rfl rfl (.inl rfl) (by omega) (show _ < (4 : Int) by omega) hb_at1 ?_
    intro v55 hv55 lv55 uv55
    refine he_iload (n := 57) (i := 3) (by decide +kernel) rfl ?_
    refine he_ex2 (o := 16) (n := 58) (by decide +kernel) rfl ?_
    intro v57 hv57
    have ev57 : v57 = v55 >>> (v14 &&& 31) := hv57
    have bv57 := mz_i32 v57
    refine he_iconst (n := 59) (c := 1) (by decide +kernel) (by decide) ?_
    intro c58 hc58
    refine he_ex2 (o := 12) (n := 60) (by decide +kernel) rfl ?_
    intro v59 hv59
    have ev59 : v59 = v57 &&& c58 := hv59
    have bv59 := mz_i32 v59
    refine he_iconst (n := 61) (c := 1) (by decide +kernel) (by decide) ?_
    intro c60 hc60
    have hbit := hm_get (x := v55) (n := v14) (by omega) (by omega) hc58 ev57 ev59
    rw [← hv55, show v5.toInt.toNat = k by omega, show v14.toInt.toNat = n by omega] at hbit
    by_cases h61 : ¬ v59.toInt = c60.toInt
    · skip
      have hu : hm_bit (hv M 262 k) n = false := by
        cases hb : hm_bit (hv M 262 k) n with
        | false => rfl
        | true =>
          have := hbit.mpr hb
          omega
      refine he_cmpne_t (n := 64) (t := 74) (by decide +kernel) (by omega) ?_
      refine he_iload (n := 75) (i := 2) (by decide +kernel) rfl ?_
      by_cases h75 : v5.toInt ≤ 0
      · skip
        refine he_ifle_t (n := 78) (t := 101) (by decide +kernel) (by omega) ?_
        refine he_aload (n := 102) (i := 0) (by decide +kernel) rfl ?_
        refine he_iload (n := 103) (i := 1) (by decide +kernel) rfl ?_
        refine he_v1 (n := 106) (j := 152) (ci := 9) (mx := 10) (ns := [6022, 6024, 72, 294]) (by decide +kernel) ((hb_kd (a := 234) hm rfl).trans rfl) (by decide) (by show 2 ≤ 10; omega) ?_
        rw [mq_e152]
        refine hm_take hC hd hz hj1 p1 hk hn hk4 hn32 hdf hu hm hx hj ?_ ?_
        · intro M' g1 g2 g3 g4 g5
          show mq_R mq_PP (d + 3) 151 106 _ [] (M', z, u) Q
          refine he_ret (by decide +kernel) ?_
          exact KF M' g1 g2 g3 g4 g5
        · intro M' g1 g2 g3 g4
          show mq_R mq_PP (d + 3) 151 106 _ [] (M', z, u) Q
          refine he_ret (by decide +kernel) ?_
          exact KA M' g1 g2 hdf hu g3 g4
      · skip
        refine he_ifle_f (n := 78) (t := 101) (by decide +kernel) (by omega) ?_
        refine he_aload (n := 79) (i := 0) (by decide +kernel) rfl ?_
        refine he_getr (n := 82) (ci := 9) (j := 49) (ns := [4226, 107]) (b := 267) hm (by decide +kernel) rfl rfl (by decide +kernel) ?_
        refine he_iload (n := 83) (i := 1) (by decide +kernel) rfl ?_
        refine he_iconst (n := 84) (c := 2) (by decide +kernel) (by decide) ?_
        intro c83 hc83
        refine he_iadd (n := 85) (by decide +kernel) (by omega) (by omega) ?_
        intro v84 hv84
        refine he_iconst (n := 86) (c := 1) (by decide +kernel) (by decide) ?_
        intro c85 hc85
        refine hb_sta (n := 87) (kind := 64) hm (by decide +kernel) rfl rfl (.inl rfl) (by omega) (show _ < (1680 : Int) by omega) ?_
        generalize hM1 : hb_set M 267 (v84.toInt.toNat) c85 = M1
        have hm1 : mz_sh mz_GG M1 := by rw [← hM1]; exact hb_set_sh hm rfl (hm_f2 (by omega)) (by omega) (by omega)
        have eM1 : ∀ b j, b ≠ 267 ∨ j ≠ v84.toInt.toNat → hv M1 b j = hv M b j := by intro b j h; rw [← hM1]; exact hb_set_n h
        have sM1 : hv M1 267 (v84.toInt.toNat) = c85.toInt := by rw [← hM1]; exact hb_set_v hm rfl (show _ < 1680 by omega)
        have wM1 : ∀ b, b ≠ 267 → M1 b = M b := by intro b h; rw [← hM1]; exact hb_set_c h
        refine he_aload (n := 88) (i := 0) (by decide +kernel) rfl ?_
        refine he_aload (n := 89) (i := 0) (by decide +kernel) rfl ?_
        refine he_getr (n := 92) (ci := 9) (j := 31) (ns := [4208, 77]) (b := 257) hm1 (by decide +kernel) rfl rfl (by decide +kernel) ?_
        refine he_iload (n := 93) (i := 2) (by decide +kernel) rfl ?_
        refine hb_ld (n := 94) (kind := 64) hm1 (by decide +kernel) rfl rfl (.inl rfl) (by omega) (show _ < (4 : Int) by omega) (hm_par (by omega) (by omega)) ?_
        intro v93 hv93 lv93 uv93
        refine he_iload (n := 95) (i := 3) (by decide +kernel) rfl ?_
        refine he_v2 (n := 98) (j := 147) (ci := 9) (mx := 4) (ns := [6006, 6008, 68, 287]) (by decide +kernel) ((hb_kd (a := 234) hm1 rfl).trans rfl) (by decide) (by show 3 ≤ 4; omega) ?_
        rw [mq_e147]
        refine hm_begin (j := j + 1) hm1 ?_ (by omega) (by omega) (by omega) (by omega) (by omega) ?_
        · rw [eM1 _ _ (.inl (by decide)), hj]
          omega
        intro M' g1 g2 g3 g4 g5 g6 g7
        show mq_R mq_PP (d + 3) 151 98 _ [] (M', z, u) Q
        refine he_goto (t := 106) (by decide +kernel) ?_
        refine he_ret (by decide +kernel) ?_
        have hx1 : HX M1 := fun t => by rw [← hM1]; exact hxk_s (hm_sp t _ _ (by omega)) (hx t)
        refine KP M' v93.toInt.toNat g1 (hm_Ex g2 hx1) hdf hu (by omega) ⟨fun a _ h1 h2 => (g2.1 a h1 h2).trans (wM1 a h2), fun i h1 h2 h3 h4 => (g2.2 i h1 h2 h3 h4).trans (eM1 _ _ (.inl (by decide)))⟩ (by omega) ?_ ?_ ?_ (by omega) g6 ?_
        · rw [g7 _ (by omega), show 12 * j + 2 = v84.toInt.toNat by omega, sM1]
          omega
        · rw [g7 _ (by omega), eM1 _ _ (.inr (by omega))]
          exact hk
        · rw [g7 _ (by omega), eM1 _ _ (.inr (by omega))]
          exact hn
        · intro i hi
          rw [g7 _ (by omega), eM1 _ _ (.inr (by omega))]
    · skip
      refine he_cmpne_f (n := 64) (t := 74) (by decide +kernel) (by omega) ?_
      refine he_aload (n := 65) (i := 0) (by decide +kernel) rfl ?_
      refine he_iload (n := 66) (i := 1) (by decide +kernel) rfl ?_
      refine he_iconst (n := 68) (c := 6) (by decide +kernel) (by decide) ?_
      intro c66 hc66
      refine he_v2 (n := 71) (j := 149) (ci := 9) (mx := 3) (ns := [6018, 6020, 71, 300]) (by decide +kernel) ((hb_kd (a := 234) hm rfl).trans rfl) (by decide) (by show 3 ≤ 3; omega) ?_
      rw [mq_e149]
      refine hm_fails (d := d + 1) (j := j) hm hj (by omega) (by omega) (by omega) (by omega) ?_
      intro M' g1 g2 g3 g4 g5
      show mq_R mq_PP (d + 3) 151 71 _ [] (M', z, u) Q
      refine he_goto (t := 106) (by decide +kernel) ?_
      refine he_ret (by decide +kernel) ?_
      exact KF M' g1 (hm_Ex g2 hx) (hm_relE g2 (fun i _ => hb_vc g3 i)) g4 (.inr g5)
  · skip
    refine he_iflt_f (n := 30) (t := 50) (by decide +kernel) (by omega) ?_
    refine he_aload (n := 31) (i := 0) (by decide +kernel) rfl ?_
    refine he_aload (n := 32) (i := 0) (by decide +kernel) rfl ?_
    refine he_getr (n := 35) (ci := 9) (j := 35) (ns := [4212, 89]) (b := 261) hm (by decide +kernel) rfl rfl (by decide +kernel) ?_
    refine he_iconst (n := 37) (c := 32) (by decide +kernel) (by decide) ?_
    intro c35 hc35
    refine he_iload (n := 38) (i := 2) (by decide +kernel) rfl ?_
    refine he_imul (n := 39) (p := 32 * v5.toInt) (by decide +kernel) (by rw [hc35]) (by omega) (by omega) ?_
    intro v38 hv38
    refine he_iload (n := 40) (i := 3) (by decide +kernel) rfl ?_
    refine he_iadd (n := 41) (by decide +kernel) (by omega) (by omega) ?_
    intro v40 hv40
    refine hb_ld (n := 42) (kind := 64) hm (by decide +kernel) rfl rfl (.inl rfl) (by omega) (show _ < (128 : Int) by omega) hb_at1 ?_
    intro v41 hv41 lv41 uv41
    refine he_iconst (n := 43) (c := 0) (by decide +kernel) (by decide) ?_
    intro c42 hc42
    refine he_iconst (n := 44) (c := -1) (by decide +kernel) (by decide) ?_
    intro c43 hc43
    refine he_v3 (n := 47) (j := 148) (ci := 9) (mx := 4) (ns := [6014, 6016, 70, 283]) (by decide +kernel) ((hb_kd (a := 234) hm rfl).trans rfl) (by decide) (by show 4 ≤ 4; omega) ?_
    rw [mq_e148]
    have q41 : v41.toInt = v26.toInt := by rw [← hv41, ← hv26]; congr 1; omega
    refine hm_end (j := j) hm hj (by omega) (by omega) (by omega) (by omega) (by omega) (by omega) ?_
    intro M' g1 g2 g3 g4 g5 g6
    show mq_R mq_PP (d + 3) 151 47 _ [] (M', z, u) Q
    refine he_goto (t := 106) (by decide +kernel) ?_
    refine he_ret (by decide +kernel) ?_
    exact KF M' g1 (hm_Ex g2 hx) (hm_relE g2 (fun i _ => hb_vc g3 i)) g4 (.inl ⟨by omega, by omega⟩)
/-- how many are not begun -/
def hm_un (M : Nat → mq_C) : Int := hb_cnt (fun i => !hm_bit (hv M 262 (i / 32)) (i % 32)) 128
theorem hm_un_c {M M' : Nat → mq_C} (h : ∀ i, hv M' 262 i = hv M 262 i) : hm_un M' = hm_un M := hb_cnt_c (fun i _ => by rw [h])
theorem hm_un_0 {M : Nat → mq_C} : 0 ≤ hm_un M := hb_cnt_0 128
theorem hm_un_T {j k n : Nat} {M Mb : Nat → mq_C} (hk : k < 4) (hn : n < 32) (h : hm_T j k n M Mb) : hm_un M = hm_un Mb + 1 := by
  obtain ⟨Ma, a1, a2, a3, a4, a5, a6, a7, a8, a9⟩ := h
  rw [← hm_un_c a1.2.1]
  have e1 : (32 * k + n) / 32 = k := by omega
  have e2 : (32 * k + n) % 32 = n := by omega
  refine hb_cnt_u (k := 32 * k + n) (by omega) ?_ ?_ ?_
  · show (!hm_bit (hv Mb 262 ((32 * k + n) / 32)) ((32 * k + n) % 32)) = false
    rw [e1, e2, a5 n hn, decide_eq_true rfl, Bool.or_true]
    rfl
  · show (!hm_bit (hv Ma 262 ((32 * k + n) / 32)) ((32 * k + n) % 32)) = true
    rw [e1, e2, a2]
    rfl
  · intro i hi hne
    show (!hm_bit (hv Ma 262 (i / 32)) (i % 32)) = (!hm_bit (hv Mb 262 (i / 32)) (i % 32))
    by_cases e : i / 32 = k
    · rw [e, a5 _ (by omega), decide_eq_false (by omega), Bool.or_false]
    · rw [a4 _ e]
theorem hm_un_128 {M : Nat → mq_C} : hm_un M ≤ 128 := by
  have h : ∀ (p : Nat → Bool) (n : Nat), hb_cnt p n ≤ (n : Int) := by
    intro p n
    induction n with
    | zero => exact Int.le_refl _
    | succ n ih =>
      show hb_cnt p n + (if p n = true then 1 else 0) ≤ _
      split <;> omega
  exact h _ 128
def hm_IH (t : Nat) : Prop := ∀ {d z u j k : Nat} {Q : (Option Value ⊕ Nat) → mq_S → Prop} {M : Nat → mq_C} {x1 x2 : Int32} {o3 : Option Value}, 10 ≤ d → 272 ≤ z → mz_sh mz_GG M → HX M → hv M 234 48 = (j : Int) + 1 → hv M 267 (12 * j) = (k : Int) → hv M 267 (12 * j + 2) = 0 → hm_un M + (k : Int) ≤ (t : Int) → j + t ≤ 138 → (∀ (M' : Nat → mq_C) (o3' : Option Value), mz_sh mz_GG M' → HX M' → hm_rel k j M M' → hv M' 234 48 = (j : Int) → hm_w M' → mq_R mq_PP (d + 4) 150 11 [some (.ref 234), some (.int x1), some (.int x2), o3'] [] (M', z, u) Q) → mq_R mq_PP (d + 4) 150 11 [some (.ref 234), some (.int x1), some (.int x2), o3] [] (M, z, u) Q
theorem hm_mid {t d z u j k n : Nat} {Q : (Option Value ⊕ Nat) → mq_S → Prop} {M0 Mt Mb : Nat → mq_C} {x1 x2 : Int32} (IH : hm_IH t) (hd : 10 ≤ d) (hz : 272 ≤ z) (hk4 : k < 4) (hn32 : n < 32) (hjt : j + 1 + t ≤ 138) (hun : hm_un Mb + (k : Int) ≤ (t : Int)) (h0 : hm_rel k j M0 Mt) (hT : hm_T j k n Mt Mb) (hdf : hv Mb 261 (32 * k + n) = -1) (hbt : hm_bit (hv Mb 262 k) n = true)
    (K : ∀ (M' : Nat → mq_C) (o3' : Option Value), mz_sh mz_GG M' → HX M' → hm_rel k j M0 M' → hv M' 234 48 = (j : Int) → hm_w M' → mq_R mq_PP (d + 4) 150 11 [some (.ref 234), some (.int x1), some (.int x2), o3'] [] (M', z, u) Q) : ∀ (m : Nat) (Mc : Nat → mq_C) (o3 : Option Value), mz_sh mz_GG Mc → HX Mc → hm_rel k j Mb Mc → hv Mc 234 48 = (j : Int) + 2 → 4 ≤ hv Mc 267 (12 * j + 2) + (m : Int) → 2 ≤ hv Mc 267 (12 * j + 2) → hv Mc 267 (12 * j + 2) ≤ 4 → hv Mc 267 (12 * j) = (k : Int) → hv Mc 267 (12 * j + 1) = (n : Int) → hv Mc 267 (12 * (j + 1)) = (k : Int) → hv Mc 267 (12 * (j + 1) + 2) = 0 → mq_R mq_PP (d + 4) 150 11 [some (.ref 234), some (.int x1), some (.int x2), o3] [] (Mc, z, u) Q := by
  intro m
  induction m with
  | zero =>
    intro Mc o3 hm hx hR hj hst1 hst2 hst3 hk hn hk' hst'
    refine IH (j := j + 1) (k := k) hd hz hm hx (by omega) hk' hst' (by rw [hm_un_c hR.2.1]; exact hun) (by omega) ?_
    intro M2 o3 hm2 hx2 hR2 hj2 hw2
    have hRb : hm_rel k j Mb M2 := hm_relt (Nat.le_refl _) (by omega) hR hR2
    have f2 : ∀ i, i < 12 * j + 12 → hv M2 267 i = hv Mc 267 i := fun i hi => hR2.2.2.2 i (by omega)
    have g0 := f2 (12 * j) (by omega)
    have g1 := f2 (12 * j + 1) (by omega)
    have g2 := f2 (12 * j + 2) (by omega)
    have hdf2 : hv M2 261 (32 * k + n) = -1 := by rw [hRb.2.2.1 k n hk4 hn32 (.inr hbt)]; exact hdf
    refine he_aload (n := 12) (i := 0) (by decide +kernel) rfl ?_
    refine hb_gfd (n := 15) (ci := 9) (j := 48) (ns := [4225, 271]) hm2 (by decide +kernel) rfl rfl (by decide) rfl ?_
    intro vs12 hvs12 lvs12 uvs12
    refine he_ifle_f (n := 18) (t := 109) (by decide +kernel) (by omega) ?_
    refine he_iconst (n := 20) (c := 12) (by decide +kernel) (by decide) ?_
    intro cs18 hcs18
    refine he_aload (n := 21) (i := 0) (by decide +kernel) rfl ?_
    refine hb_gfd (n := 24) (ci := 9) (j := 48) (ns := [4225, 271]) hm2 (by decide +kernel) rfl rfl (by decide) rfl ?_
    intro vs21 hvs21 lvs21 uvs21
    refine he_iconst (n := 25) (c := 1) (by decide +kernel) (by decide) ?_
    intro cs24 hcs24
    refine he_isub (n := 26) (by decide +kernel) (by omega) (by omega) ?_
    intro vs25 hvs25
    refine he_imul (n := 27) (p := 12 * vs25.toInt) (by decide +kernel) (by rw [hcs18]) (by omega) (by omega) ?_
    intro vs26 hvs26
    refine he_istore (n := 28) (i := 3) (by decide +kernel) rfl ?_
    refine he_aload (n := 29) (i := 0) (by decide +kernel) rfl ?_
    refine he_getr (n := 32) (ci := 9) (j := 49) (ns := [4226, 107]) (b := 267) hm2 (by decide +kernel) rfl rfl (by decide +kernel) ?_
    refine he_iload (n := 33) (i := 3) (by decide +kernel) rfl ?_
    refine he_iconst (n := 34) (c := 2) (by decide +kernel) (by decide) ?_
    intro cs33 hcs33
    refine he_iadd (n := 35) (by decide +kernel) (by omega) (by omega) ?_
    intro vs34 hvs34
    refine hb_ld (n := 36) (kind := 64) hm2 (by decide +kernel) rfl rfl (.inl rfl) (by omega) (show _ < (1680 : Int) by omega) (hm_f2 (by omega)) ?_
    intro vs35 hvs35 lvs35 uvs35
    have qs35 : vs35.toInt = hv M2 267 (12 * j + 2) := by rw [← hvs35, show vs34.toInt.toNat = 12 * j + 2 by omega]
    refine he_ifne_t (n := 39) (t := 47) (by decide +kernel) (by omega) ?_
    refine he_aload (n := 48) (i := 0) (by decide +kernel) rfl ?_
    refine he_getr (n := 51) (ci := 9) (j := 49) (ns := [4226, 107]) (b := 267) hm2 (by decide +kernel) rfl rfl (by decide +kernel) ?_
    refine he_iload (n := 52) (i := 3) (by decide +kernel) rfl ?_
    refine he_iconst (n := 53) (c := 2) (by decide +kernel) (by decide) ?_
    intro cs52 hcs52
    refine he_iadd (n := 54) (by decide +kernel) (by omega) (by omega) ?_
    intro vs53 hvs53
    refine hb_ld (n := 55) (kind := 64) hm2 (by decide +kernel) rfl rfl (.inl rfl) (by omega) (show _ < (1680 : Int) by omega) (hm_f2 (by omega)) ?_
    intro vs54 hvs54 lvs54 uvs54
    have qs54 : vs54.toInt = hv M2 267 (12 * j + 2) := by rw [← hvs54, show vs53.toInt.toNat = 12 * j + 2 by omega]
    refine he_iconst (n := 56) (c := 1) (by decide +kernel) (by decide) ?_
    intro cs55 hcs55
    refine he_cmpne_t (n := 59) (t := 101) (by decide +kernel) (by omega) ?_
    refine he_aload (n := 102) (i := 0) (by decide +kernel) rfl ?_
    refine he_iload (n := 103) (i := 3) (by decide +kernel) rfl ?_
    refine he_v1 (n := 106) (j := 154) (ci := 9) (mx := 9) (ns := [6086, 6088, 87, 297]) (by decide +kernel) ((hb_kd (a := 234) hm2 rfl).trans rfl) (by decide) (by show 2 ≤ 9; omega) ?_
    rw [mq_e154]
    refine hm_settle (d := d + 1) (j := j) (k := k) (n := n) (by omega) hz hm2 hx2 (by omega) (by omega) (by omega) (by omega) (by omega) hk4 hn32 hdf2 (by omega) (by omega) hw2 ?_ ?_
    · intro M' a1 a2 a3 a4 a5
      have := a4.2.2.1
      omega
    · intro M' a1 a2 a3 a4 a5
      show mq_R mq_PP (d + 4) 150 106 _ [] (M', z, u) Q
      refine he_goto (t := 11) (by decide +kernel) ?_
      exact K M' _ a1 a2 (hm_relt (Nat.le_refl _) (Nat.le_refl _) h0 (hm_Tfin hk4 hn32 hT hRb a3 a1)) a4 a5
  | succ m ih =>
    intro Mc o3 hm hx hR hj hst1 hst2 hst3 hk hn hk' hst'
    refine IH (j := j + 1) (k := k) hd hz hm hx (by omega) hk' hst' (by rw [hm_un_c hR.2.1]; exact hun) (by omega) ?_
    intro M2 o3 hm2 hx2 hR2 hj2 hw2
    have hRb : hm_rel k j Mb M2 := hm_relt (Nat.le_refl _) (by omega) hR hR2
    have f2 : ∀ i, i < 12 * j + 12 → hv M2 267 i = hv Mc 267 i := fun i hi => hR2.2.2.2 i (by omega)
    have g0 := f2 (12 * j) (by omega)
    have g1 := f2 (12 * j + 1) (by omega)
    have g2 := f2 (12 * j + 2) (by omega)
    have hdf2 : hv M2 261 (32 * k + n) = -1 := by rw [hRb.2.2.1 k n hk4 hn32 (.inr hbt)]; exact hdf
    refine he_aload (n := 12) (i := 0) (by decide +kernel) rfl ?_
    refine hb_gfd (n := 15) (ci := 9) (j := 48) (ns := [4225, 271]) hm2 (by decide +kernel) rfl rfl (by decide) rfl ?_
    intro vs12 hvs12 lvs12 uvs12
    refine he_ifle_f (n := 18) (t := 109) (by decide +kernel) (by omega) ?_
    refine he_iconst (n := 20) (c := 12) (by decide +kernel) (by decide) ?_
    intro cs18 hcs18
    refine he_aload (n := 21) (i := 0) (by decide +kernel) rfl ?_
    refine hb_gfd (n := 24) (ci := 9) (j := 48) (ns := [4225, 271]) hm2 (by decide +kernel) rfl rfl (by decide) rfl ?_
    intro vs21 hvs21 lvs21 uvs21
    refine he_iconst (n := 25) (c := 1) (by decide +kernel) (by decide) ?_
    intro cs24 hcs24
    refine he_isub (n := 26) (by decide +kernel) (by omega) (by omega) ?_
    intro vs25 hvs25
    refine he_imul (n := 27) (p := 12 * vs25.toInt) (by decide +kernel) (by rw [hcs18]) (by omega) (by omega) ?_
    intro vs26 hvs26
    refine he_istore (n := 28) (i := 3) (by decide +kernel) rfl ?_
    refine he_aload (n := 29) (i := 0) (by decide +kernel) rfl ?_
    refine he_getr (n := 32) (ci := 9) (j := 49) (ns := [4226, 107]) (b := 267) hm2 (by decide +kernel) rfl rfl (by decide +kernel) ?_
    refine he_iload (n := 33) (i := 3) (by decide +kernel) rfl ?_
    refine he_iconst (n := 34) (c := 2) (by decide +kernel) (by decide) ?_
    intro cs33 hcs33
    refine he_iadd (n := 35) (by decide +kernel) (by omega) (by omega) ?_
    intro vs34 hvs34
    refine hb_ld (n := 36) (kind := 64) hm2 (by decide +kernel) rfl rfl (.inl rfl) (by omega) (show _ < (1680 : Int) by omega) (hm_f2 (by omega)) ?_
    intro vs35 hvs35 lvs35 uvs35
    have qs35 : vs35.toInt = hv M2 267 (12 * j + 2) := by rw [← hvs35, show vs34.toInt.toNat = 12 * j + 2 by omega]
    refine he_ifne_t (n := 39) (t := 47) (by decide +kernel) (by omega) ?_
    refine he_aload (n := 48) (i := 0) (by decide +kernel) rfl ?_
    refine he_getr (n := 51) (ci := 9) (j := 49) (ns := [4226, 107]) (b := 267) hm2 (by decide +kernel) rfl rfl (by decide +kernel) ?_
    refine he_iload (n := 52) (i := 3) (by decide +kernel) rfl ?_
    refine he_iconst (n := 53) (c := 2) (by decide +kernel) (by decide) ?_
    intro cs52 hcs52
    refine he_iadd (n := 54) (by decide +kernel) (by omega) (by omega) ?_
    intro vs53 hvs53
    refine hb_ld (n := 55) (kind := 64) hm2 (by decide +kernel) rfl rfl (.inl rfl) (by omega) (show _ < (1680 : Int) by omega) (hm_f2 (by omega)) ?_
    intro vs54 hvs54 lvs54 uvs54
    have qs54 : vs54.toInt = hv M2 267 (12 * j + 2) := by rw [← hvs54, show vs53.toInt.toNat = 12 * j + 2 by omega]
    refine he_iconst (n := 56) (c := 1) (by decide +kernel) (by decide) ?_
    intro cs55 hcs55
    refine he_cmpne_t (n := 59) (t := 101) (by decide +kernel) (by omega) ?_
    refine he_aload (n := 102) (i := 0) (by decide +kernel) rfl ?_
    refine he_iload (n := 103) (i := 3) (by decide +kernel) rfl ?_
    refine he_v1 (n := 106) (j := 154) (ci := 9) (mx := 9) (ns := [6086, 6088, 87, 297]) (by decide +kernel) ((hb_kd (a := 234) hm2 rfl).trans rfl) (by decide) (by show 2 ≤ 9; omega) ?_
    rw [mq_e154]
    refine hm_settle (d := d + 1) (j := j) (k := k) (n := n) (by omega) hz hm2 hx2 (by omega) (by omega) (by omega) (by omega) (by omega) hk4 hn32 hdf2 (by omega) (by omega) hw2 ?_ ?_
    · intro M' a1 a2 a3 a4 a5
      show mq_R mq_PP (d + 4) 150 106 _ [] (M', z, u) Q
      refine he_goto (t := 11) (by decide +kernel) ?_
      obtain ⟨b1, b2, b3, b4, b5, b6, b7, b8⟩ := a4
      exact ih M' _ a1 a2 (hm_relt (Nat.le_refl _) (Nat.le_refl _) hRb (hm_relF a3 b8)) b1 (by omega) b2 b3 (by omega) (by omega) (by omega) b7
    · intro M' a1 a2 a3 a4 a5
      show mq_R mq_PP (d + 4) 150 106 _ [] (M', z, u) Q
      refine he_goto (t := 11) (by decide +kernel) ?_
      exact K M' _ a1 a2 (hm_relt (Nat.le_refl _) (Nat.le_refl _) h0 (hm_Tfin hk4 hn32 hT hRb a3 a1)) a4 a5
theorem hm_step {t : Nat} (hC : ∀ c ∈ mz_Cs, c.2 < 14 → mz_Ct mz_GG mq_PP HX c.1 c.2) (IH : ∀ t', t = t' + 1 → hm_IH t') : hm_IH t := by
  intro d z u j k Q M x1 x2 o3 hd hz hm hx hj hk hst hun hjt K
  have hk4 : k < 4 := by
    have := hm_rng hm (i := 12 * j) (by omega) (hm_f0 (by omega))
    omega
  obtain ⟨n, hn⟩ : ∃ n : Nat, hv M 267 (12 * j + 1) = (n : Int) := by
    have := hm_rng hm (i := 12 * j + 1) (by omega) (hm_f1 (by omega))
    exact ⟨(hv M 267 (12 * j + 1)).toNat, by omega⟩
  have hn32 : n < 32 := by
    have := hm_rng hm (i := 12 * j + 1) (by omega) (hm_f1 (by omega))
    omega
  have hu0 : 0 ≤ hm_un M := hm_un_0
  have mid : ∀ (Mt : Nat → mq_C), hm_rel k j M Mt → hv Mt 261 (32 * k + n) = -1 → hv Mt 267 (12 * j) = (k : Int) → hv Mt 267 (12 * j + 1) = (n : Int) → ∀ (M' : Nat → mq_C) (o3' : Option Value), mz_sh mz_GG M' → HX M' → hm_T j k n Mt M' → hm_N j Mt M' → mq_R mq_PP (d + 4) 150 11 [some (.ref 234), some (.int x1), some (.int x2), o3'] [] (M', z, u) Q := by
    intro Mt hRt hdt hkt hnt M' o3' g1 g2 g3 g4
    have hun' := hm_un_T hk4 hn32 g3
    have hut : hm_un Mt = hm_un M := hm_un_c hRt.2.1
    have hjt' : 0 ≤ hm_un M' := hm_un_0
    obtain ⟨b1, b2, b3, b4, b5, b6, b7, b8⟩ := g4
    obtain ⟨t', ht'⟩ : ∃ t', t = t' + 1 := ⟨t - 1, by omega⟩
    obtain ⟨Ma, a1, a2, a3, a4, a5, a6, a7, a8, a9⟩ := id g3
    have hbt : hm_bit (hv M' 262 k) n = true := by rw [a5 n hn32, decide_eq_true rfl, Bool.or_true]
    have hd2 : hv M' 261 (32 * k + n) = -1 := by rw [a9]; exact hdt
    exact hm_mid (IH t' ht') hd hz hk4 hn32 (by omega) (by omega) hRt g3 hd2 hbt K 2 M' o3' g1 g2 hm_relr b1 (by omega) b2 b3 (by omega) (by omega) (by omega) b7
  refine he_aload (n := 12) (i := 0) (by decide +kernel) rfl ?_
  refine hb_gfd (n := 15) (ci := 9) (j := 48) (ns := [4225, 271]) hm (by decide +kernel) rfl rfl (by decide) rfl ?_
  intro va12 hva12 lva12 uva12
  refine he_ifle_f (n := 18) (t := 109) (by decide +kernel) (by omega) ?_
  refine he_iconst (n := 20) (c := 12) (by decide +kernel) (by decide) ?_
  intro ca18 hca18
  refine he_aload (n := 21) (i := 0) (by decide +kernel) rfl ?_
  refine hb_gfd (n := 24) (ci := 9) (j := 48) (ns := [4225, 271]) hm (by decide +kernel) rfl rfl (by decide) rfl ?_
  intro va21 hva21 lva21 uva21
  refine he_iconst (n := 25) (c := 1) (by decide +kernel) (by decide) ?_
  intro ca24 hca24
  refine he_isub (n := 26) (by decide +kernel) (by omega) (by omega) ?_
  intro va25 hva25
  refine he_imul (n := 27) (p := 12 * va25.toInt) (by decide +kernel) (by rw [hca18]) (by omega) (by omega) ?_
  intro va26 hva26
  refine he_istore (n := 28) (i := 3) (by decide +kernel) rfl ?_
  refine he_aload (n := 29) (i := 0) (by decide +kernel) rfl ?_
  refine he_getr (n := 32) (ci := 9) (j := 49) (ns := [4226, 107]) (b := 267) hm (by decide +kernel) rfl rfl (by decide +kernel) ?_
  refine he_iload (n := 33) (i := 3) (by decide +kernel) rfl ?_
  refine he_iconst (n := 34) (c := 2) (by decide +kernel) (by decide) ?_
  intro ca33 hca33
  refine he_iadd (n := 35) (by decide +kernel) (by omega) (by omega) ?_
  intro va34 hva34
  refine hb_ld (n := 36) (kind := 64) hm (by decide +kernel) rfl rfl (.inl rfl) (by omega) (show _ < (1680 : Int) by omega) (hm_f2 (by omega)) ?_
  intro va35 hva35 lva35 uva35
  have qa35 : va35.toInt = hv M 267 (12 * j + 2) := by rw [← hva35, show va34.toInt.toNat = 12 * j + 2 by omega]
  refine he_ifne_f (n := 39) (t := 47) (by decide +kernel) (by omega) ?_
  refine he_aload (n := 40) (i := 0) (by decide +kernel) rfl ?_
  refine he_iload (n := 41) (i := 3) (by decide +kernel) rfl ?_
  refine he_v1 (n := 44) (j := 151) (ci := 9) (mx := 4) (ns := [6010, 6012, 69, 290]) (by decide +kernel) ((hb_kd (a := 234) hm rfl).trans rfl) (by decide) (by show 2 ≤ 4; omega) ?_
  rw [mq_e151]
  refine hm_enter hC hd hz hm hx hj (by omega) (by omega) hk hn hk4 hn32 ?_ ?_ ?_
  · intro M' g1 g2 g3 g4 g5
    show mq_R mq_PP (d + 4) 150 44 _ [] (M', z, u) Q
    refine he_goto (t := 106) (by decide +kernel) ?_
    refine he_goto (t := 11) (by decide +kernel) ?_
    exact K M' _ g1 g2 g3 g4 g5
  · intro M1 kp g1 g2 hdf hu hkp gF e1 e2 e3 e4 e5 e6 e7
    show mq_R mq_PP (d + 4) 150 44 _ [] (M1, z, u) Q
    refine he_goto (t := 106) (by decide +kernel) ?_
    refine he_goto (t := 11) (by decide +kernel) ?_
    obtain ⟨t', ht'⟩ : ∃ t', t = t' + 1 := ⟨t - 1, by omega⟩
    have hR1 : hm_rel k j M M1 := hm_relF gF e7
    have hu1 : hm_un M1 = hm_un M := hm_un_c hR1.2.1
    refine IH t' ht' (j := j + 1) (k := kp) hd hz g1 g2 (by omega) e5 e6 (by omega) (by omega) ?_
    intro M2 o3 hm2 hx2 hR2 hj2 hw2
    have hRM2 : hm_rel k j M M2 := hm_relt (by omega) (by omega) hR1 hR2
    have f2 : ∀ i, i < 12 * j + 12 → hv M2 267 i = hv M1 267 i := fun i hi => hR2.2.2.2 i (by omega)
    have f20 := f2 (12 * j) (by omega)
    have f21 := f2 (12 * j + 1) (by omega)
    have f22 := f2 (12 * j + 2) (by omega)
    have hdf2 : hv M2 261 (32 * k + n) = -1 := by rw [hR2.2.2.1 k n hk4 hn32 (.inl hkp), hb_vc (gF.1 261 (by decide) (by decide) (by decide))]; exact hdf
    have hu2 : hm_bit (hv M2 262 k) n = false := by rw [hRM2.2.1]; exact hu
    · skip
      refine he_aload (n := 12) (i := 0) (by decide +kernel) rfl ?_
      refine hb_gfd (n := 15) (ci := 9) (j := 48) (ns := [4225, 271]) hm2 (by decide +kernel) rfl rfl (by decide) rfl ?_
      intro vp12 hvp12 lvp12 uvp12
      refine he_ifle_f (n := 18) (t := 109) (by decide +kernel) (by omega) ?_
      refine he_iconst (n := 20) (c := 12) (by decide +kernel) (by decide) ?_
      intro cp18 hcp18
      refine he_aload (n := 21) (i := 0) (by decide +kernel) rfl ?_
      refine hb_gfd (n := 24) (ci := 9) (j := 48) (ns := [4225, 271]) hm2 (by decide +kernel) rfl rfl (by decide) rfl ?_
      intro vp21 hvp21 lvp21 uvp21
      refine he_iconst (n := 25) (c := 1) (by decide +kernel) (by decide) ?_
      intro cp24 hcp24
      refine he_isub (n := 26) (by decide +kernel) (by omega) (by omega) ?_
      intro vp25 hvp25
      refine he_imul (n := 27) (p := 12 * vp25.toInt) (by decide +kernel) (by rw [hcp18]) (by omega) (by omega) ?_
      intro vp26 hvp26
      refine he_istore (n := 28) (i := 3) (by decide +kernel) rfl ?_
      refine he_aload (n := 29) (i := 0) (by decide +kernel) rfl ?_
      refine he_getr (n := 32) (ci := 9) (j := 49) (ns := [4226, 107]) (b := 267) hm2 (by decide +kernel) rfl rfl (by decide +kernel) ?_
      refine he_iload (n := 33) (i := 3) (by decide +kernel) rfl ?_
      refine he_iconst (n := 34) (c := 2) (by decide +kernel) (by decide) ?_
      intro cp33 hcp33
      refine he_iadd (n := 35) (by decide +kernel) (by omega) (by omega) ?_
      intro vp34 hvp34
      refine hb_ld (n := 36) (kind := 64) hm2 (by decide +kernel) rfl rfl (.inl rfl) (by omega) (show _ < (1680 : Int) by omega) (hm_f2 (by omega)) ?_
      intro vp35 hvp35 lvp35 uvp35
      have qp35 : vp35.toInt = hv M2 267 (12 * j + 2) := by rw [← hvp35, show vp34.toInt.toNat = 12 * j + 2 by omega]
      have hw3 := hw2
      unfold hm_w at hw3
      refine he_ifne_t (n := 39) (t := 47) (by decide +kernel) (by omega) ?_
      refine he_aload (n := 48) (i := 0) (by decide +kernel) rfl ?_
      refine he_getr (n := 51) (ci := 9) (j := 49) (ns := [4226, 107]) (b := 267) hm2 (by decide +kernel) rfl rfl (by decide +kernel) ?_
      refine he_iload (n := 52) (i := 3) (by decide +kernel) rfl ?_
      refine he_iconst (n := 53) (c := 2) (by decide +kernel) (by decide) ?_
      intro cp52 hcp52
      refine he_iadd (n := 54) (by decide +kernel) (by omega) (by omega) ?_
      intro vp53 hvp53
      refine hb_ld (n := 55) (kind := 64) hm2 (by decide +kernel) rfl rfl (.inl rfl) (by omega) (show _ < (1680 : Int) by omega) (hm_f2 (by omega)) ?_
      intro vp54 hvp54 lvp54 uvp54
      have qp54 : vp54.toInt = hv M2 267 (12 * j + 2) := by rw [← hvp54, show vp53.toInt.toNat = 12 * j + 2 by omega]
      refine he_iconst (n := 56) (c := 1) (by decide +kernel) (by decide) ?_
      intro cp55 hcp55
      refine he_cmpne_f (n := 59) (t := 101) (by decide +kernel) (by omega) ?_
      refine he_aload (n := 60) (i := 0) (by decide +kernel) rfl ?_
      refine hb_gfd (n := 63) (ci := 9) (j := 51) (ns := [4228, 277]) hm2 (by decide +kernel) rfl rfl (by decide) rfl ?_
      intro vp60 hvp60 lvp60 uvp60
      by_cases h63 : vp60.toInt = 0
      · skip
        refine he_ifeq_t (n := 66) (t := 74) (by decide +kernel) (by omega) ?_
        refine he_aload (n := 75) (i := 0) (by decide +kernel) rfl ?_
        refine he_aload (n := 76) (i := 0) (by decide +kernel) rfl ?_
        refine hb_gfd (n := 79) (ci := 9) (j := 50) (ns := [4227, 274]) hm2 (by decide +kernel) rfl rfl (by decide) rfl ?_
        intro vp76 hvp76 lvp76 uvp76
        refine he_aload (n := 80) (i := 0) (by decide +kernel) rfl ?_
        refine hb_gfd (n := 83) (ci := 9) (j := 51) (ns := [4228, 277]) hm2 (by decide +kernel) rfl rfl (by decide) rfl ?_
        intro vp80 hvp80 lvp80 uvp80
        refine he_aload (n := 84) (i := 0) (by decide +kernel) rfl ?_
        refine hb_gfd (n := 87) (ci := 9) (j := 52) (ns := [4229, 280]) hm2 (by decide +kernel) rfl rfl (by decide) rfl ?_
        intro vp84 hvp84 lvp84 uvp84
        refine he_v3 (n := 90) (j := 148) (ci := 9) (mx := 4) (ns := [6014, 6016, 70, 283]) (by decide +kernel) ((hb_kd (a := 234) hm2 rfl).trans rfl) (by decide) (by show 4 ≤ 4; omega) ?_
        rw [mq_e148]
        refine hm_end (j := j) hm2 (by omega) (by omega) (by omega) (by omega) (by omega) (by omega) (by omega) ?_
        intro M' g1 g2 g3 g4 g5 g6
        show mq_R mq_PP (d + 4) 150 90 _ [] (M', z, u) Q
        refine he_goto (t := 106) (by decide +kernel) ?_
        refine he_goto (t := 11) (by decide +kernel) ?_
        exact K M' _ g1 (hm_Ex g2 hx2) (hm_relt (Nat.le_refl _) (Nat.le_refl _) hRM2 (hm_relE g2 (fun i _ => hb_vc g3 i))) g4 (by unfold hm_w at hw2 ⊢; omega)
      · skip
        refine he_ifeq_f (n := 66) (t := 74) (by decide +kernel) (by omega) ?_
        refine he_aload (n := 67) (i := 0) (by decide +kernel) rfl ?_
        refine hb_gfd (n := 70) (ci := 9) (j := 51) (ns := [4228, 277]) hm2 (by decide +kernel) rfl rfl (by decide) rfl ?_
        intro vp67 hvp67 lvp67 uvp67
        refine he_iconst (n := 71) (c := 2) (by decide +kernel) (by decide) ?_
        intro cp70 hcp70
        by_cases h71 : vp67.toInt ≤ cp70.toInt
        · skip
          refine he_cmple_t (n := 74) (t := 93) (by decide +kernel) (by omega) ?_
          refine he_aload (n := 94) (i := 0) (by decide +kernel) rfl ?_
          refine he_iload (n := 95) (i := 3) (by decide +kernel) rfl ?_
          refine he_v1 (n := 98) (j := 152) (ci := 9) (mx := 10) (ns := [6022, 6024, 72, 294]) (by decide +kernel) ((hb_kd (a := 234) hm2 rfl).trans rfl) (by decide) (by show 2 ≤ 10; omega) ?_
          rw [mq_e152]
          refine hm_take (d := d + 1) (j := j) (k := k) (n := n) hC (by omega) hz (by omega) (by omega) (by omega) (by omega) hk4 hn32 hdf2 hu2 hm2 hx2 (by omega) ?_ ?_
          · intro M' g1 g2 g3 g4 g5
            show mq_R mq_PP (d + 4) 150 98 _ [] (M', z, u) Q
            refine he_goto (t := 106) (by decide +kernel) ?_
            refine he_goto (t := 11) (by decide +kernel) ?_
            exact K M' _ g1 g2 (hm_relt (Nat.le_refl _) (Nat.le_refl _) hRM2 g3) g4 g5
          · intro M' g1 g2 g3 g4
            show mq_R mq_PP (d + 4) 150 98 _ [] (M', z, u) Q
            refine he_goto (t := 106) (by decide +kernel) ?_
            refine he_goto (t := 11) (by decide +kernel) ?_
            exact mid M2 hRM2 hdf2 (by omega) (by omega) M' _ g1 g2 g3 g4
        · skip
          refine he_cmple_f (n := 74) (t := 93) (by decide +kernel) (by omega) ?_
          refine he_aload (n := 75) (i := 0) (by decide +kernel) rfl ?_
          refine he_aload (n := 76) (i := 0) (by decide +kernel) rfl ?_
          refine hb_gfd (n := 79) (ci := 9) (j := 50) (ns := [4227, 274]) hm2 (by decide +kernel) rfl rfl (by decide) rfl ?_
          intro vp76 hvp76 lvp76 uvp76
          refine he_aload (n := 80) (i := 0) (by decide +kernel) rfl ?_
          refine hb_gfd (n := 83) (ci := 9) (j := 51) (ns := [4228, 277]) hm2 (by decide +kernel) rfl rfl (by decide) rfl ?_
          intro vp80 hvp80 lvp80 uvp80
          refine he_aload (n := 84) (i := 0) (by decide +kernel) rfl ?_
          refine hb_gfd (n := 87) (ci := 9) (j := 52) (ns := [4229, 280]) hm2 (by decide +kernel) rfl rfl (by decide) rfl ?_
          intro vp84 hvp84 lvp84 uvp84
          refine he_v3 (n := 90) (j := 148) (ci := 9) (mx := 4) (ns := [6014, 6016, 70, 283]) (by decide +kernel) ((hb_kd (a := 234) hm2 rfl).trans rfl) (by decide) (by show 4 ≤ 4; omega) ?_
          rw [mq_e148]
          refine hm_end (j := j) hm2 (by omega) (by omega) (by omega) (by omega) (by omega) (by omega) (by omega) ?_
          intro M' g1 g2 g3 g4 g5 g6
          show mq_R mq_PP (d + 4) 150 90 _ [] (M', z, u) Q
          refine he_goto (t := 106) (by decide +kernel) ?_
          refine he_goto (t := 11) (by decide +kernel) ?_
          exact K M' _ g1 (hm_Ex g2 hx2) (hm_relt (Nat.le_refl _) (Nat.le_refl _) hRM2 (hm_relE g2 (fun i _ => hb_vc g3 i))) g4 (by unfold hm_w at hw2 ⊢; omega)
  · intro M' g1 g2 hdf hu g3 g4
    show mq_R mq_PP (d + 4) 150 44 _ [] (M', z, u) Q
    refine he_goto (t := 106) (by decide +kernel) ?_
    refine he_goto (t := 11) (by decide +kernel) ?_
    exact mid M hm_relr hdf hk hn M' _ g1 g2 g3 g4
