/-! build of the class's code, exactly. -/
theorem xe_shlk {x s v : Int32} {k : Nat} (hk : k ≤ 15) (h0 : 0 ≤ x.toInt) (h1 : x.toInt ≤ 1024) (hs : s.toInt = (k : Int)) (hv : v = x <<< (s &&& 31)) : v.toInt = x.toInt * 2 ^ k := by
  have hp : 2 ^ k ≤ 2 ^ 15 := Nat.pow_le_pow_right (by decide) hk
  have hp' : (2 : Nat) ^ 15 = 32768 := by decide
  have hm : ((2 ^ k : Nat) : Int) * x.toInt ≤ 32768 * 1024 := Int.mul_le_mul (by omega) h1 h0 (by decide)
  have hpos : (0 : Int) < 2 ^ k := Int.pow_pos (by decide)
  have hm0 : 0 ≤ ((2 ^ k : Nat) : Int) * x.toInt := Int.mul_nonneg (by rw [xe_c]; omega) h0
  rw [hv, mz_shl32 (by omega) hs (by omega), Int.mul_comm, Int.natCast_pow]
  rfl
theorem xc_le {f : Nat → Int} {n b : Nat} : xc f n b ≤ (n : Int) := hb_cnt_le _ n
def xk12_F (M0 M : Nat → mq_C) : Prop := mz_sh mz_GG M ∧ ∀ b, b < 12 ∨ 16 ≤ b → M b = M0 b
theorem xk12_set {M0 M M' : Nat → mq_C} {a i : Nat} {v : Int32} (h : xk12_F M0 M) (hM : hb_set M a i v = M') (hs : mz_sh mz_GG M') (ha : 12 ≤ a ∧ a < 16) : xk12_F M0 M' := ⟨hs, fun b hb => by rw [← hM, hb_set_c (by omega)]; exact h.2 b hb⟩
theorem xk12_l4 {d z u fr n : Nat} {M0 : Nat → mq_C} {Q : (Option Value ⊕ Nat) → mq_S → Prop} {x2 x3 : Int32} {fl : Nat → Int} (hfl : ∀ i, i < n → fl i = hv M0 11 (fr + i)) (h2 : x2.toInt = (fr : Int)) (h3 : x3.toInt = (n : Int)) (hn : fr + n ≤ 316) (hn2 : n ≤ 19) (K : ∀ M : Nat → mq_C, xk12_F M0 M → xT M 12 n fl → hv M 12 3 = xf fl n → Q (.inl none) (M, z, u)) : ∀ (m j : Nat) (M : Nat → mq_C) (i4 : Int32) (o5 : Option Value), j + m = n → i4.toInt = (j : Int) → xk12_F M0 M → (∀ b : Nat, 1 ≤ b → b ≤ 15 → hv M 13 b = xc fl n b) → hv M 12 3 = xf fl n → (∀ t : Nat, 1 ≤ t → t ≤ 15 → hv M 14 t = xq fl n t + hb_cnt (fun q => decide (fl q = (t : Int))) j) → (∀ i : Nat, i < j → 1 ≤ fl i → hv M 15 (xp fl n i).toNat = (i : Int)) → mq_R mq_PP d 63 131 [some (.ref 12), some (.ref 11), some (.int x2), some (.int x3), some (.int i4), o5] [] (M, z, u) Q := by
  intro m
  induction m with
  | zero =>
    intro j M i4 o5 e1 e2 h hc hf hx hs
    refine he_iload (n := 133) (i := 4) (by decide +kernel) rfl ?_
    refine he_iload (n := 134) (i := 3) (by decide +kernel) rfl ?_
    refine he_cmpge_t (n := 137) (t := 181) (by decide +kernel) (by omega) ?_
    refine he_ret (by decide +kernel) ?_
    obtain rfl : j = n := by omega
    exact K M h ⟨hc, hs⟩ hf
  | succ m ih =>
    intro j M i4 o5 e1 e2 h hc hf hx hs
    have hfj := hfl j (by omega)
    refine he_iload (n := 133) (i := 4) (by decide +kernel) rfl ?_
    refine he_iload (n := 134) (i := 3) (by decide +kernel) rfl ?_
    refine he_cmpge_f (n := 137) (t := 181) (by decide +kernel) (by omega) ?_
    refine he_aload (n := 138) (i := 1) (by decide +kernel) rfl ?_
    refine he_iload (n := 139) (i := 2) (by decide +kernel) rfl ?_
    refine he_iload (n := 141) (i := 4) (by decide +kernel) rfl ?_
    refine he_iadd (n := 142) (by decide +kernel) (by omega) (by omega) ?_
    intro v141 hv141
    refine hb_ld (n := 143) (kind := 64) h.1 (by decide +kernel) rfl rfl (.inl rfl) (by omega) (show _ < (316 : Int) by omega) hb_at1 ?_
    intro v142 hv142 lv142 uv142
    refine he_istore (n := 145) (i := 5) (by decide +kernel) rfl ?_
    refine he_iload (n := 147) (i := 5) (by decide +kernel) rfl ?_
    have q142 : v142.toInt = fl j := by rw [hfj, ← hv142, hb_vc (h.2 11 (by omega)), show v141.toInt.toNat = fr + j by omega]
    by_cases h0 : v142.toInt ≤ 0
    · skip
      refine he_ifle_t (n := 150) (t := 175) (by decide +kernel) (by omega) ?_
      refine he_iinc (n := 178) (i := 4) (c := 1) (L' := fun v => [some (.ref (12)), some (.ref (11)), some (.int x2), some (.int x3), some (.int v), some (.int v142)]) (by decide +kernel) (by decide) rfl (fun _ => rfl) (by omega) (by omega) ?_
      intro i175 hi175
      refine he_goto (t := 131) (by decide +kernel) ?_
      refine ih (j + 1) M _ _ (by omega) (by omega) h hc hf (fun t t1 t2 => ?_) (fun i i1 i2 => ?_)
      · rw [hx t t1 t2]
        have : hb_cnt (fun q => decide (fl q = (t : Int))) (j + 1) = hb_cnt (fun q => decide (fl q = (t : Int))) j + (if decide (fl j = (t : Int)) = true then 1 else 0) := rfl
        rw [this, if_neg (fun h' => by have := of_decide_eq_true h'; omega)]
        omega
      · by_cases hij : i = j
        · subst hij
          omega
        · exact hs i (by omega) i2
    · skip
      refine he_ifle_f (n := 150) (t := 175) (by decide +kernel) (by omega) ?_
      refine he_aload (n := 151) (i := 0) (by decide +kernel) rfl ?_
      refine he_getr (n := 154) (ci := 3) (j := 1) (ns := [1044, 20]) (b := 15) h.1 (by decide +kernel) rfl rfl (by decide +kernel) ?_
      refine he_aload (n := 155) (i := 0) (by decide +kernel) rfl ?_
      refine he_getr (n := 158) (ci := 3) (j := 2) (ns := [1046, 13]) (b := 14) h.1 (by decide +kernel) rfl rfl (by decide +kernel) ?_
      refine he_iload (n := 160) (i := 5) (by decide +kernel) rfl ?_
      refine hb_ld (n := 161) (kind := 64) h.1 (by decide +kernel) rfl rfl (.inl rfl) (by omega) (show _ < (17 : Int) by omega) hb_at1 ?_
      intro v160 hv160 lv160 uv160
      refine he_iload (n := 163) (i := 4) (by decide +kernel) rfl ?_
      obtain ⟨t, ht⟩ : ∃ t : Nat, fl j = (t : Int) := ⟨(fl j).toNat, by omega⟩
      have t1 : 1 ≤ t := by omega
      have t2 : t ≤ 15 := by omega
      have x0 := hx t t1 t2
      have q160 : v160.toInt = xp fl n j := by
        rw [← hv160, show v142.toInt.toNat = t by omega, x0]
        unfold xp
        rw [ht]
        rfl
      have hpj := xp_b (f := fl) (n := n) (i := j) (by omega) (by omega)
      have hql := xq_le (f := fl) (b := t + 1) n
      have hpt : xp fl n j < xq fl n (t + 1) := by rw [show t = (fl j).toNat by omega]; exact hpj.2
      have hq0 := xq_0 (f := fl) (n := n) (b := (fl j).toNat)
      have hp0 : 0 ≤ xp fl n j := by omega
      refine hb_sta (n := 164) (kind := 64) h.1 (by decide +kernel) rfl rfl (.inl rfl) (by omega) (show _ < (19 : Int) by omega) ?_
      generalize hM1 : hb_set M 15 (v160.toInt.toNat) i4 = M1
      have hm1 : mz_sh mz_GG M1 := by rw [← hM1]; exact hb_set_sh h.1 rfl hb_at1 (by omega) (by omega)
      have eM1 : ∀ b j, b ≠ 15 ∨ j ≠ v160.toInt.toNat → hv M1 b j = hv M b j := by intro b j h; rw [← hM1]; exact hb_set_n h
      have sM1 : hv M1 15 (v160.toInt.toNat) = i4.toInt := by rw [← hM1]; exact hb_set_v h.1 rfl (show _ < 19 by omega)
      have wM1 : ∀ b, b ≠ 15 → M1 b = M b := by intro b h; rw [← hM1]; exact hb_set_c h
      refine he_aload (n := 165) (i := 0) (by decide +kernel) rfl ?_
      refine he_getr (n := 168) (ci := 3) (j := 2) (ns := [1046, 13]) (b := 14) hm1 (by decide +kernel) rfl rfl (by decide +kernel) ?_
      refine he_iload (n := 170) (i := 5) (by decide +kernel) rfl ?_
      refine he_dup2 (n := 171) (by decide +kernel) ?_
      refine hb_ld (n := 172) (kind := 64) hm1 (by decide +kernel) rfl rfl (.inl rfl) (by omega) (show _ < (17 : Int) by omega) hb_at1 ?_
      intro v171 hv171 lv171 uv171
      refine he_iconst (n := 173) (c := 1) (by decide +kernel) (by decide) ?_
      intro c172 hc172
      refine he_iadd (n := 174) (by decide +kernel) (by omega) (by omega) ?_
      intro v173 hv173
      have q171 : v171.toInt = xp fl n j := by
        rw [← hv171, eM1 _ _ (.inl (by decide)), show v142.toInt.toNat = t by omega, x0]
        unfold xp
        rw [ht]
        rfl
      refine hb_sta (n := 175) (kind := 64) hm1 (by decide +kernel) rfl rfl (.inl rfl) (by omega) (show _ < (17 : Int) by omega) ?_
      generalize hM2 : hb_set M1 14 (v142.toInt.toNat) v173 = M2
      have hm2 : mz_sh mz_GG M2 := by rw [← hM2]; exact hb_set_sh hm1 rfl hb_at1 (by omega) (by omega)
      have eM2 : ∀ b j, b ≠ 14 ∨ j ≠ v142.toInt.toNat → hv M2 b j = hv M1 b j := by intro b j h; rw [← hM2]; exact hb_set_n h
      have sM2 : hv M2 14 (v142.toInt.toNat) = v173.toInt := by rw [← hM2]; exact hb_set_v hm1 rfl (show _ < 17 by omega)
      have wM2 : ∀ b, b ≠ 14 → M2 b = M1 b := by intro b h; rw [← hM2]; exact hb_set_c h
      refine he_iinc (n := 178) (i := 4) (c := 1) (L' := fun v => [some (.ref (12)), some (.ref (11)), some (.int x2), some (.int x3), some (.int v), some (.int v142)]) (by decide +kernel) (by decide) rfl (fun _ => rfl) (by omega) (by omega) ?_
      intro i175 hi175
      refine he_goto (t := 131) (by decide +kernel) ?_
      have hF1 := xk12_set h hM1 hm1 (by decide)
      have hF2 := xk12_set hF1 hM2 hm2 (by decide)
      refine ih (j + 1) M2 _ _ (by omega) (by omega) hF2 (fun b b1 b2 => ?_) ?_ (fun s s1 s2 => ?_) (fun i i1 i2 => ?_)
      · rw [eM2 _ _ (.inl (by decide)), eM1 _ _ (.inl (by decide))]
        exact hc b b1 b2
      · rw [eM2 _ _ (.inl (by decide)), eM1 _ _ (.inl (by decide))]
        exact hf
      · have e9 : hb_cnt (fun q => decide (fl q = (s : Int))) (j + 1) = hb_cnt (fun q => decide (fl q = (s : Int))) j + (if decide (fl j = (s : Int)) = true then 1 else 0) := rfl
        by_cases hst : s = t
        · subst hst
          rw [e9, if_pos (decide_eq_true ht), show s = v142.toInt.toNat by omega, sM2, show v142.toInt.toNat = s by omega]
          unfold xp at q171
          rw [ht] at q171
          have q171' : v171.toInt = xq fl n s + hb_cnt (fun q => decide (fl q = (s : Int))) j := q171
          omega
        · rw [eM2 _ _ (.inr (by omega)), eM1 _ _ (.inl (by decide)), hx s s1 s2, e9, if_neg (fun h' => by have := of_decide_eq_true h'; omega)]
          omega
      · rw [eM2 _ _ (.inl (by decide))]
        by_cases hij : i = j
        · subst hij
          rw [← q160, sM1]
          exact e2
        · have hne := xp_ne (f := fl) (n := n) (i := j) (j := i) (by omega) (by omega) (by omega) i2
          have hpi := xp_b (f := fl) (n := n) (i := i) (by omega) i2
          have hqi := xq_0 (f := fl) (n := n) (b := (fl i).toNat)
          rw [eM1 _ _ (.inr (by omega))]
          exact hs i (by omega) i2
theorem xk12_l3 {d z u fr n : Nat} {M0 : Nat → mq_C} {Q : (Option Value ⊕ Nat) → mq_S → Prop} {x2 x3 : Int32} {fl : Nat → Int} (hfl : ∀ i, i < n → fl i = hv M0 11 (fr + i)) (h2 : x2.toInt = (fr : Int)) (h3 : x3.toInt = (n : Int)) (hn : fr + n ≤ 316) (hn2 : n ≤ 19) (K : ∀ M : Nat → mq_C, xk12_F M0 M → xT M 12 n fl → hv M 12 3 = xf fl n → Q (.inl none) (M, z, u)) : ∀ (m j : Nat) (M : Nat → mq_C) (i4 : Int32) (o5 : Option Value), j + m = 16 → 1 ≤ j → i4.toInt = (j : Int) → xk12_F M0 M → (∀ b : Nat, 1 ≤ b → b ≤ 15 → hv M 13 b = xc fl n b) → hv M 12 3 = hb_sum (fun t => xc fl n (t + 1) * 2 ^ (14 - t)) (j - 1) → (∀ t : Nat, 1 ≤ t → t ≤ j → hv M 14 t = xq fl n t) → mq_R mq_PP d 63 69 [some (.ref 12), some (.ref 11), some (.int x2), some (.int x3), some (.int i4), o5] [] (M, z, u) Q := by
  intro m
  induction m with
  | zero =>
    intro j M i4 o5 e1 e0 e2 h hc hf hx
    refine he_iload (n := 71) (i := 4) (by decide +kernel) rfl ?_
    refine he_iconst (n := 73) (c := 15) (by decide +kernel) (by decide) ?_
    intro c71 hc71
    refine he_cmpgt_t (n := 76) (t := 128) (by decide +kernel) (by omega) ?_
    refine he_iconst (n := 129) (c := 0) (by decide +kernel) (by decide) ?_
    intro c128 hc128
    refine he_istore (n := 131) (i := 4) (by decide +kernel) rfl ?_
    obtain rfl : j = 16 := by omega
    refine xk12_l4 hfl h2 h3 hn hn2 K n 0 M _ _ (by omega) (by omega) h hc hf (fun t t1 t2 => ?_) (fun i i1 _ => absurd i1 (by omega))
    rw [hx t t1 (by omega)]
    show xq fl n t = xq fl n t + 0
    omega
  | succ m ih =>
    intro j M i4 o5 e1 e0 e2 h hc hf hx
    have hcj := hc j e0 (by omega)
    have hc0 := xc_0 fl n j
    have hcl := xc_le (f := fl) (n := n) (b := j)
    have hqj := hx j e0 (Nat.le_refl _)
    have hq0 := xq_0 (f := fl) (n := n) (b := j)
    have hql := xq_le (f := fl) (b := j + 1) n
    have hqs := xq_s (f := fl) (n := n) e0
    refine he_iload (n := 71) (i := 4) (by decide +kernel) rfl ?_
    refine he_iconst (n := 73) (c := 15) (by decide +kernel) (by decide) ?_
    intro c71 hc71
    refine he_cmpgt_f (n := 76) (t := 128) (by decide +kernel) (by omega) ?_
    refine he_aload (n := 77) (i := 0) (by decide +kernel) rfl ?_
    refine he_dup_r (n := 78) (by decide +kernel) ?_
    refine hb_gfd (n := 81) (ci := 3) (j := 3) (ns := [1047, 16]) h.1 (by decide +kernel) rfl rfl (by decide) rfl ?_
    intro v78 hv78 lv78 uv78
    refine he_aload (n := 82) (i := 0) (by decide +kernel) rfl ?_
    refine he_getr (n := 85) (ci := 3) (j := 0) (ns := [1042, 9]) (b := 13) h.1 (by decide +kernel) rfl rfl (by decide +kernel) ?_
    refine he_iload (n := 87) (i := 4) (by decide +kernel) rfl ?_
    refine hb_ld (n := 88) (kind := 64) h.1 (by decide +kernel) rfl rfl (.inl rfl) (by omega) (show _ < (16 : Int) by omega) hb_at1 ?_
    intro v87 hv87 lv87 uv87
    refine he_iconst (n := 90) (c := 15) (by decide +kernel) (by decide) ?_
    intro c88 hc88
    refine he_iload (n := 92) (i := 4) (by decide +kernel) rfl ?_
    refine he_isub (n := 93) (by decide +kernel) (by omega) (by omega) ?_
    intro v92 hv92
    refine he_ex2 (o := 15) (n := 94) (by decide +kernel) rfl ?_
    intro v93 hv93
    have ev93 : v93 = v87 <<< (v92 &&& 31) := hv93
    have bv93 := mz_i32 v93
    have q87 : v87.toInt = xc fl n j := by rw [← hv87, show i4.toInt.toNat = j by omega]; exact hcj
    have q93 := xe_shlk (x := v87) (k := 15 - j) (by omega) (by omega) (by omega) (by omega) ev93
    have q78 : v78.toInt = hb_sum (fun t => xc fl n (t + 1) * 2 ^ (14 - t)) (j - 1) := by rw [← hv78]; exact hf
    have hfb := xf_b (fl := fl) (n := n) (by omega : n ≤ 288) (show j - 1 ≤ 15 by omega)
    have hpw : (2 : Int) ^ (15 - j) ≤ 2 ^ 14 := xe_pow (by omega)
    have hpw' : (2 : Int) ^ 14 = 16384 := by decide
    have hpp : (0 : Int) < 2 ^ (15 - j) := Int.pow_pos (by decide)
    have hmul : v87.toInt * 2 ^ (15 - j) ≤ 288 * 16384 := Int.mul_le_mul (by omega) (by omega) (by omega) (by omega)
    have hmul0 : 0 ≤ v87.toInt * 2 ^ (15 - j) := Int.mul_nonneg (by omega) (by omega)
    refine he_iadd (n := 95) (by decide +kernel) (by omega) (by omega) ?_
    intro v94 hv94
    refine hb_pfd (n := 98) (ci := 3) (j := 3) (t := 0) (ns := [1047, 16]) h.1 (by decide +kernel) rfl rfl (by decide) (.inl rfl) ?_
    generalize hM1 : hb_set M 12 3 v94 = M1
    have hm1 : mz_sh mz_GG M1 := by rw [← hM1]; exact hb_set_sh h.1 rfl rfl (by omega) (by omega)
    have eM1 : ∀ b j, b ≠ 12 ∨ j ≠ 3 → hv M1 b j = hv M b j := by intro b j h; rw [← hM1]; exact hb_set_n h
    have sM1 : hv M1 12 3 = v94.toInt := by rw [← hM1]; exact hb_set_v h.1 rfl (by decide)
    have wM1 : ∀ b, b ≠ 12 → M1 b = M b := by intro b h; rw [← hM1]; exact hb_set_c h
    refine he_aload (n := 99) (i := 0) (by decide +kernel) rfl ?_
    refine he_getr (n := 102) (ci := 3) (j := 2) (ns := [1046, 13]) (b := 14) hm1 (by decide +kernel) rfl rfl (by decide +kernel) ?_
    refine he_iload (n := 104) (i := 4) (by decide +kernel) rfl ?_
    refine he_iconst (n := 105) (c := 1) (by decide +kernel) (by decide) ?_
    intro c104 hc104
    refine he_iadd (n := 106) (by decide +kernel) (by omega) (by omega) ?_
    intro v105 hv105
    refine he_aload (n := 107) (i := 0) (by decide +kernel) rfl ?_
    refine he_getr (n := 110) (ci := 3) (j := 2) (ns := [1046, 13]) (b := 14) hm1 (by decide +kernel) rfl rfl (by decide +kernel) ?_
    refine he_iload (n := 112) (i := 4) (by decide +kernel) rfl ?_
    refine hb_ld (n := 113) (kind := 64) hm1 (by decide +kernel) rfl rfl (.inl rfl) (by omega) (show _ < (17 : Int) by omega) hb_at1 ?_
    intro v112 hv112 lv112 uv112
    refine he_aload (n := 114) (i := 0) (by decide +kernel) rfl ?_
    refine he_getr (n := 117) (ci := 3) (j := 0) (ns := [1042, 9]) (b := 13) hm1 (by decide +kernel) rfl rfl (by decide +kernel) ?_
    refine he_iload (n := 119) (i := 4) (by decide +kernel) rfl ?_
    refine hb_ld (n := 120) (kind := 64) hm1 (by decide +kernel) rfl rfl (.inl rfl) (by omega) (show _ < (16 : Int) by omega) hb_at1 ?_
    intro v119 hv119 lv119 uv119
    have q112 : v112.toInt = xq fl n j := by rw [← hv112, eM1 _ _ (.inl (by decide)), show i4.toInt.toNat = j by omega]; exact hqj
    have q119 : v119.toInt = xc fl n j := by rw [← hv119, eM1 _ _ (.inl (by decide)), show i4.toInt.toNat = j by omega]; exact hcj
    refine he_iadd (n := 121) (by decide +kernel) (by omega) (by omega) ?_
    intro v120 hv120
    refine hb_sta (n := 122) (kind := 64) hm1 (by decide +kernel) rfl rfl (.inl rfl) (by omega) (show _ < (17 : Int) by omega) ?_
    generalize hM2 : hb_set M1 14 (v105.toInt.toNat) v120 = M2
    have hm2 : mz_sh mz_GG M2 := by rw [← hM2]; exact hb_set_sh hm1 rfl hb_at1 (by omega) (by omega)
    have eM2 : ∀ b j, b ≠ 14 ∨ j ≠ v105.toInt.toNat → hv M2 b j = hv M1 b j := by intro b j h; rw [← hM2]; exact hb_set_n h
    have sM2 : hv M2 14 (v105.toInt.toNat) = v120.toInt := by rw [← hM2]; exact hb_set_v hm1 rfl (show _ < 17 by omega)
    have wM2 : ∀ b, b ≠ 14 → M2 b = M1 b := by intro b h; rw [← hM2]; exact hb_set_c h
    refine he_iinc (n := 125) (i := 4) (c := 1) (L' := fun v => [some (.ref (12)), some (.ref (11)), some (.int x2), some (.int x3), some (.int v), o5]) (by decide +kernel) (by decide) rfl (fun _ => rfl) (by omega) (by omega) ?_
    intro i122 hi122
    refine he_goto (t := 69) (by decide +kernel) ?_
    have hF1 := xk12_set h hM1 hm1 (by decide)
    have hF2 := xk12_set hF1 hM2 hm2 (by decide)
    refine ih (j + 1) M2 _ _ (by omega) (by omega) (by omega) hF2 (fun b b1 b2 => ?_) ?_ (fun t t1 t2 => ?_)
    · rw [eM2 _ _ (.inl (by decide)), eM1 _ _ (.inl (by decide))]
      exact hc b b1 b2
    · rw [eM2 _ _ (.inl (by decide)), sM1]
      obtain ⟨c, rfl⟩ : ∃ c, j = c + 1 := ⟨j - 1, by omega⟩
      show _ = hb_sum (fun t => xc fl n (t + 1) * 2 ^ (14 - t)) c + xc fl n (c + 1) * 2 ^ (14 - c)
      have q78' : v78.toInt = hb_sum (fun t => xc fl n (t + 1) * 2 ^ (14 - t)) c := q78
      rw [q87, show 15 - (c + 1) = 14 - c by omega] at q93
      omega
    · by_cases htj : t = j + 1
      · subst htj
        rw [show j + 1 = v105.toInt.toNat by omega, sM2, show v105.toInt.toNat = j + 1 by omega, hqs]
        omega
      · rw [eM2 _ _ (.inr (by omega)), eM1 _ _ (.inl (by decide))]
        exact hx t t1 (by omega)
theorem xk12_l2 {d z u fr n : Nat} {M0 : Nat → mq_C} {Q : (Option Value ⊕ Nat) → mq_S → Prop} {x2 x3 : Int32} {fl : Nat → Int} (hfl : ∀ i, i < n → fl i = hv M0 11 (fr + i)) (h2 : x2.toInt = (fr : Int)) (h3 : x3.toInt = (n : Int)) (hn : fr + n ≤ 316) (hn2 : n ≤ 19) (K : ∀ M : Nat → mq_C, xk12_F M0 M → xT M 12 n fl → hv M 12 3 = xf fl n → Q (.inl none) (M, z, u)) : ∀ (m j : Nat) (M : Nat → mq_C) (i4 : Int32), j + m = n → i4.toInt = (j : Int) → xk12_F M0 M → (∀ b : Nat, b ≤ 15 → hv M 13 b = xc fl j b) → mq_R mq_PP d 63 27 [some (.ref 12), some (.ref 11), some (.int x2), some (.int x3), some (.int i4), none] [] (M, z, u) Q := by
  intro m
  induction m with
  | zero =>
    intro j M i4 e1 e2 h hc
    obtain rfl : j = n := by omega
    refine he_iload (n := 29) (i := 4) (by decide +kernel) rfl ?_
    refine he_iload (n := 30) (i := 3) (by decide +kernel) rfl ?_
    refine he_cmpge_t (n := 33) (t := 54) (by decide +kernel) (by omega) ?_
    refine he_aload (n := 55) (i := 0) (by decide +kernel) rfl ?_
    refine he_iconst (n := 56) (c := 0) (by decide +kernel) (by decide) ?_
    intro c55 hc55
    refine hb_pfd (n := 59) (ci := 3) (j := 3) (t := 0) (ns := [1047, 16]) h.1 (by decide +kernel) rfl rfl (by decide) (.inl rfl) ?_
    generalize hM1 : hb_set M 12 3 c55 = M1
    have hm1 : mz_sh mz_GG M1 := by rw [← hM1]; exact hb_set_sh h.1 rfl rfl (by omega) (by omega)
    have eM1 : ∀ b j, b ≠ 12 ∨ j ≠ 3 → hv M1 b j = hv M b j := by intro b j h; rw [← hM1]; exact hb_set_n h
    have sM1 : hv M1 12 3 = c55.toInt := by rw [← hM1]; exact hb_set_v h.1 rfl (by decide)
    have wM1 : ∀ b, b ≠ 12 → M1 b = M b := by intro b h; rw [← hM1]; exact hb_set_c h
    refine he_aload (n := 60) (i := 0) (by decide +kernel) rfl ?_
    refine he_getr (n := 63) (ci := 3) (j := 2) (ns := [1046, 13]) (b := 14) hm1 (by decide +kernel) rfl rfl (by decide +kernel) ?_
    refine he_iconst (n := 64) (c := 1) (by decide +kernel) (by decide) ?_
    intro c63 hc63
    refine he_iconst (n := 65) (c := 0) (by decide +kernel) (by decide) ?_
    intro c64 hc64
    refine hb_sta (n := 66) (kind := 64) hm1 (by decide +kernel) rfl rfl (.inl rfl) (by omega) (show _ < (17 : Int) by omega) ?_
    generalize hM2 : hb_set M1 14 (c63.toInt.toNat) c64 = M2
    have hm2 : mz_sh mz_GG M2 := by rw [← hM2]; exact hb_set_sh hm1 rfl hb_at1 (by omega) (by omega)
    have eM2 : ∀ b j, b ≠ 14 ∨ j ≠ c63.toInt.toNat → hv M2 b j = hv M1 b j := by intro b j h; rw [← hM2]; exact hb_set_n h
    have sM2 : hv M2 14 (c63.toInt.toNat) = c64.toInt := by rw [← hM2]; exact hb_set_v hm1 rfl (show _ < 17 by omega)
    have wM2 : ∀ b, b ≠ 14 → M2 b = M1 b := by intro b h; rw [← hM2]; exact hb_set_c h
    refine he_iconst (n := 67) (c := 1) (by decide +kernel) (by decide) ?_
    intro c66 hc66
    refine he_istore (n := 69) (i := 4) (by decide +kernel) rfl ?_
    have hF1 := xk12_set h hM1 hm1 (by decide)
    have hF2 := xk12_set hF1 hM2 hm2 (by decide)
    refine xk12_l3 hfl h2 h3 hn hn2 K 15 1 M2 _ _ (by omega) (by omega) (by omega) hF2 (fun b b1 b2 => ?_) ?_ (fun t t1 t2 => ?_)
    · rw [eM2 _ _ (.inl (by decide)), eM1 _ _ (.inl (by decide))]
      exact hc b b2
    · rw [eM2 _ _ (.inl (by decide)), sM1]
      show _ = (0 : Int)
      omega
    · obtain rfl : t = 1 := by omega
      rw [show 1 = c63.toInt.toNat by omega, sM2, show c63.toInt.toNat = 1 by omega, xq_1]
      omega
  | succ m ih =>
    intro j M i4 e1 e2 h hc
    have hfj := hfl j (by omega)
    refine he_iload (n := 29) (i := 4) (by decide +kernel) rfl ?_
    refine he_iload (n := 30) (i := 3) (by decide +kernel) rfl ?_
    refine he_cmpge_f (n := 33) (t := 54) (by decide +kernel) (by omega) ?_
    refine he_aload (n := 34) (i := 0) (by decide +kernel) rfl ?_
    refine he_getr (n := 37) (ci := 3) (j := 0) (ns := [1042, 9]) (b := 13) h.1 (by decide +kernel) rfl rfl (by decide +kernel) ?_
    refine he_aload (n := 38) (i := 1) (by decide +kernel) rfl ?_
    refine he_iload (n := 39) (i := 2) (by decide +kernel) rfl ?_
    refine he_iload (n := 41) (i := 4) (by decide +kernel) rfl ?_
    refine he_iadd (n := 42) (by decide +kernel) (by omega) (by omega) ?_
    intro v41 hv41
    refine hb_ld (n := 43) (kind := 64) h.1 (by decide +kernel) rfl rfl (.inl rfl) (by omega) (show _ < (316 : Int) by omega) hb_at1 ?_
    intro v42 hv42 lv42 uv42
    have q42 : v42.toInt = fl j := by rw [hfj, ← hv42, hb_vc (h.2 11 (by omega)), show v41.toInt.toNat = fr + j by omega]
    obtain ⟨t, ht⟩ : ∃ t : Nat, fl j = (t : Int) := ⟨(fl j).toNat, by omega⟩
    have hct := hc t (by omega)
    have hcl := xc_le (f := fl) (n := j) (b := t)
    have hcz := xc_0 fl j t
    refine he_dup2 (n := 44) (by decide +kernel) ?_
    refine hb_ld (n := 45) (kind := 64) h.1 (by decide +kernel) rfl rfl (.inl rfl) (by omega) (show _ < (16 : Int) by omega) hb_at1 ?_
    intro v44 hv44 lv44 uv44
    have q44 : v44.toInt = xc fl j t := by rw [← hv44, show v42.toInt.toNat = t by omega]; exact hct
    refine he_iconst (n := 46) (c := 1) (by decide +kernel) (by decide) ?_
    intro c45 hc45
    refine he_iadd (n := 47) (by decide +kernel) (by omega) (by omega) ?_
    intro v46 hv46
    refine hb_sta (n := 48) (kind := 64) h.1 (by decide +kernel) rfl rfl (.inl rfl) (by omega) (show _ < (16 : Int) by omega) ?_
    generalize hM1 : hb_set M 13 (v42.toInt.toNat) v46 = M1
    have hm1 : mz_sh mz_GG M1 := by rw [← hM1]; exact hb_set_sh h.1 rfl hb_at1 (by omega) (by omega)
    have eM1 : ∀ b j, b ≠ 13 ∨ j ≠ v42.toInt.toNat → hv M1 b j = hv M b j := by intro b j h; rw [← hM1]; exact hb_set_n h
    have sM1 : hv M1 13 (v42.toInt.toNat) = v46.toInt := by rw [← hM1]; exact hb_set_v h.1 rfl (show _ < 16 by omega)
    have wM1 : ∀ b, b ≠ 13 → M1 b = M b := by intro b h; rw [← hM1]; exact hb_set_c h
    refine he_iinc (n := 51) (i := 4) (c := 1) (L' := fun v => [some (.ref (12)), some (.ref (11)), some (.int x2), some (.int x3), some (.int v), none]) (by decide +kernel) (by decide) rfl (fun _ => rfl) (by omega) (by omega) ?_
    intro i48 hi48
    refine he_goto (t := 27) (by decide +kernel) ?_
    refine ih (j + 1) M1 _ (by omega) (by omega) (xk12_set h hM1 hm1 (by decide)) (fun b b2 => ?_)
    rw [xc_s]
    by_cases hbt : b = t
    · subst hbt
      rw [if_pos ht, show b = v42.toInt.toNat by omega, sM1, show v42.toInt.toNat = b by omega]
      omega
    · rw [eM1 _ _ (.inr (by omega)), hc b b2, if_neg (by omega)]
      omega
theorem xk12_l1 {d z u fr n : Nat} {M0 : Nat → mq_C} {Q : (Option Value ⊕ Nat) → mq_S → Prop} {x2 x3 : Int32} {fl : Nat → Int} (hfl : ∀ i, i < n → fl i = hv M0 11 (fr + i)) (h2 : x2.toInt = (fr : Int)) (h3 : x3.toInt = (n : Int)) (hn : fr + n ≤ 316) (hn2 : n ≤ 19) (K : ∀ M : Nat → mq_C, xk12_F M0 M → xT M 12 n fl → hv M 12 3 = xf fl n → Q (.inl none) (M, z, u)) : ∀ (m j : Nat) (M : Nat → mq_C) (i4 : Int32), j + m = 16 → i4.toInt = (j : Int) → xk12_F M0 M → (∀ b : Nat, b < j → hv M 13 b = 0) → mq_R mq_PP d 63 3 [some (.ref 12), some (.ref 11), some (.int x2), some (.int x3), some (.int i4), none] [] (M, z, u) Q := by
  intro m
  induction m with
  | zero =>
    intro j M i4 e1 e2 h hc
    refine he_iload (n := 5) (i := 4) (by decide +kernel) rfl ?_
    refine he_iconst (n := 7) (c := 15) (by decide +kernel) (by decide) ?_
    intro c5 hc5
    refine he_cmpgt_t (n := 10) (t := 24) (by decide +kernel) (by omega) ?_
    refine he_iconst (n := 25) (c := 0) (by decide +kernel) (by decide) ?_
    intro c24 hc24
    refine he_istore (n := 27) (i := 4) (by decide +kernel) rfl ?_
    refine xk12_l2 hfl h2 h3 hn hn2 K n 0 M _ (by omega) (by omega) h (fun b b2 => ?_)
    rw [hc b (by omega)]
    rfl
  | succ m ih =>
    intro j M i4 e1 e2 h hc
    refine he_iload (n := 5) (i := 4) (by decide +kernel) rfl ?_
    refine he_iconst (n := 7) (c := 15) (by decide +kernel) (by decide) ?_
    intro c5 hc5
    refine he_cmpgt_f (n := 10) (t := 24) (by decide +kernel) (by omega) ?_
    refine he_aload (n := 11) (i := 0) (by decide +kernel) rfl ?_
    refine he_getr (n := 14) (ci := 3) (j := 0) (ns := [1042, 9]) (b := 13) h.1 (by decide +kernel) rfl rfl (by decide +kernel) ?_
    refine he_iload (n := 16) (i := 4) (by decide +kernel) rfl ?_
    refine he_iconst (n := 17) (c := 0) (by decide +kernel) (by decide) ?_
    intro c16 hc16
    refine hb_sta (n := 18) (kind := 64) h.1 (by decide +kernel) rfl rfl (.inl rfl) (by omega) (show _ < (16 : Int) by omega) ?_
    generalize hM1 : hb_set M 13 (i4.toInt.toNat) c16 = M1
    have hm1 : mz_sh mz_GG M1 := by rw [← hM1]; exact hb_set_sh h.1 rfl hb_at1 (by omega) (by omega)
    have eM1 : ∀ b j, b ≠ 13 ∨ j ≠ i4.toInt.toNat → hv M1 b j = hv M b j := by intro b j h; rw [← hM1]; exact hb_set_n h
    have sM1 : hv M1 13 (i4.toInt.toNat) = c16.toInt := by rw [← hM1]; exact hb_set_v h.1 rfl (show _ < 16 by omega)
    have wM1 : ∀ b, b ≠ 13 → M1 b = M b := by intro b h; rw [← hM1]; exact hb_set_c h
    refine he_iinc (n := 21) (i := 4) (c := 1) (L' := fun v => [some (.ref (12)), some (.ref (11)), some (.int x2), some (.int x3), some (.int v), none]) (by decide +kernel) (by decide) rfl (fun _ => rfl) (by omega) (by omega) ?_
    intro i18 hi18
    refine he_goto (t := 3) (by decide +kernel) ?_
    refine ih (j + 1) M1 _ (by omega) (by omega) (xk12_set h hM1 hm1 (by decide)) (fun b b2 => ?_)
    by_cases hbj : b = j
    · rw [hbj, show j = i4.toInt.toNat by omega, sM1]
      omega
    · rw [eM1 _ _ (.inr (by omega))]
      exact hc b (by omega)
theorem xj_build12 {d z u fr n : Nat} {M0 : Nat → mq_C} {Q : (Option Value ⊕ Nat) → mq_S → Prop} {x2 x3 : Int32} {fl : Nat → Int} (hfl : ∀ i, i < n → fl i = hv M0 11 (fr + i)) (h2 : x2.toInt = (fr : Int)) (h3 : x3.toInt = (n : Int)) (hn : fr + n ≤ 316) (hn2 : n ≤ 19) (hm : mz_sh mz_GG M0) (K : ∀ M : Nat → mq_C, xk12_F M0 M → xT M 12 n fl → hv M 12 3 = xf fl n → Q (.inl none) (M, z, u)) : mq_R mq_PP d 63 0 [some (.ref 12), some (.ref 11), some (.int x2), some (.int x3), none, none] [] (M0, z, u) Q := by
  refine he_iconst (n := 1) (c := 0) (by decide +kernel) (by decide) ?_
  intro c0 hc0
  refine he_istore (n := 3) (i := 4) (by decide +kernel) rfl ?_
  exact xk12_l1 hfl h2 h3 hn hn2 K 16 0 M0 _ (by omega) (by omega) ⟨hm, fun _ _ => rfl⟩ (fun b hb => absurd hb (by omega))
def xk16_F (M0 M : Nat → mq_C) : Prop := mz_sh mz_GG M ∧ ∀ b, b < 16 ∨ 20 ≤ b → M b = M0 b
theorem xk16_set {M0 M M' : Nat → mq_C} {a i : Nat} {v : Int32} (h : xk16_F M0 M) (hM : hb_set M a i v = M') (hs : mz_sh mz_GG M') (ha : 16 ≤ a ∧ a < 20) : xk16_F M0 M' := ⟨hs, fun b hb => by rw [← hM, hb_set_c (by omega)]; exact h.2 b hb⟩
theorem xk16_l4 {d z u fr n : Nat} {M0 : Nat → mq_C} {Q : (Option Value ⊕ Nat) → mq_S → Prop} {x2 x3 : Int32} {fl : Nat → Int} (hfl : ∀ i, i < n → fl i = hv M0 11 (fr + i)) (h2 : x2.toInt = (fr : Int)) (h3 : x3.toInt = (n : Int)) (hn : fr + n ≤ 316) (hn2 : n ≤ 286) (K : ∀ M : Nat → mq_C, xk16_F M0 M → xT M 16 n fl → hv M 16 3 = xf fl n → Q (.inl none) (M, z, u)) : ∀ (m j : Nat) (M : Nat → mq_C) (i4 : Int32) (o5 : Option Value), j + m = n → i4.toInt = (j : Int) → xk16_F M0 M → (∀ b : Nat, 1 ≤ b → b ≤ 15 → hv M 17 b = xc fl n b) → hv M 16 3 = xf fl n → (∀ t : Nat, 1 ≤ t → t ≤ 15 → hv M 18 t = xq fl n t + hb_cnt (fun q => decide (fl q = (t : Int))) j) → (∀ i : Nat, i < j → 1 ≤ fl i → hv M 19 (xp fl n i).toNat = (i : Int)) → mq_R mq_PP d 63 131 [some (.ref 16), some (.ref 11), some (.int x2), some (.int x3), some (.int i4), o5] [] (M, z, u) Q := by
  intro m
  induction m with
  | zero =>
    intro j M i4 o5 e1 e2 h hc hf hx hs
    refine he_iload (n := 133) (i := 4) (by decide +kernel) rfl ?_
    refine he_iload (n := 134) (i := 3) (by decide +kernel) rfl ?_
    refine he_cmpge_t (n := 137) (t := 181) (by decide +kernel) (by omega) ?_
    refine he_ret (by decide +kernel) ?_
    obtain rfl : j = n := by omega
    exact K M h ⟨hc, hs⟩ hf
  | succ m ih =>
    intro j M i4 o5 e1 e2 h hc hf hx hs
    have hfj := hfl j (by omega)
    refine he_iload (n := 133) (i := 4) (by decide +kernel) rfl ?_
    refine he_iload (n := 134) (i := 3) (by decide +kernel) rfl ?_
    refine he_cmpge_f (n := 137) (t := 181) (by decide +kernel) (by omega) ?_
    refine he_aload (n := 138) (i := 1) (by decide +kernel) rfl ?_
    refine he_iload (n := 139) (i := 2) (by decide +kernel) rfl ?_
    refine he_iload (n := 141) (i := 4) (by decide +kernel) rfl ?_
    refine he_iadd (n := 142) (by decide +kernel) (by omega) (by omega) ?_
    intro v141 hv141
    refine hb_ld (n := 143) (kind := 64) h.1 (by decide +kernel) rfl rfl (.inl rfl) (by omega) (show _ < (316 : Int) by omega) hb_at1 ?_
    intro v142 hv142 lv142 uv142
    refine he_istore (n := 145) (i := 5) (by decide +kernel) rfl ?_
    refine he_iload (n := 147) (i := 5) (by decide +kernel) rfl ?_
    have q142 : v142.toInt = fl j := by rw [hfj, ← hv142, hb_vc (h.2 11 (by omega)), show v141.toInt.toNat = fr + j by omega]
    by_cases h0 : v142.toInt ≤ 0
    · skip
      refine he_ifle_t (n := 150) (t := 175) (by decide +kernel) (by omega) ?_
      refine he_iinc (n := 178) (i := 4) (c := 1) (L' := fun v => [some (.ref (16)), some (.ref (11)), some (.int x2), some (.int x3), some (.int v), some (.int v142)]) (by decide +kernel) (by decide) rfl (fun _ => rfl) (by omega) (by omega) ?_
      intro i175 hi175
      refine he_goto (t := 131) (by decide +kernel) ?_
      refine ih (j + 1) M _ _ (by omega) (by omega) h hc hf (fun t t1 t2 => ?_) (fun i i1 i2 => ?_)
      · rw [hx t t1 t2]
        have : hb_cnt (fun q => decide (fl q = (t : Int))) (j + 1) = hb_cnt (fun q => decide (fl q = (t : Int))) j + (if decide (fl j = (t : Int)) = true then 1 else 0) := rfl
        rw [this, if_neg (fun h' => by have := of_decide_eq_true h'; omega)]
        omega
      · by_cases hij : i = j
        · subst hij
          omega
        · exact hs i (by omega) i2
    · skip
      refine he_ifle_f (n := 150) (t := 175) (by decide +kernel) (by omega) ?_
      refine he_aload (n := 151) (i := 0) (by decide +kernel) rfl ?_
      refine he_getr (n := 154) (ci := 3) (j := 1) (ns := [1044, 20]) (b := 19) h.1 (by decide +kernel) rfl rfl (by decide +kernel) ?_
      refine he_aload (n := 155) (i := 0) (by decide +kernel) rfl ?_
      refine he_getr (n := 158) (ci := 3) (j := 2) (ns := [1046, 13]) (b := 18) h.1 (by decide +kernel) rfl rfl (by decide +kernel) ?_
      refine he_iload (n := 160) (i := 5) (by decide +kernel) rfl ?_
      refine hb_ld (n := 161) (kind := 64) h.1 (by decide +kernel) rfl rfl (.inl rfl) (by omega) (show _ < (17 : Int) by omega) hb_at1 ?_
      intro v160 hv160 lv160 uv160
      refine he_iload (n := 163) (i := 4) (by decide +kernel) rfl ?_
      obtain ⟨t, ht⟩ : ∃ t : Nat, fl j = (t : Int) := ⟨(fl j).toNat, by omega⟩
      have t1 : 1 ≤ t := by omega
      have t2 : t ≤ 15 := by omega
      have x0 := hx t t1 t2
      have q160 : v160.toInt = xp fl n j := by
        rw [← hv160, show v142.toInt.toNat = t by omega, x0]
        unfold xp
        rw [ht]
        rfl
      have hpj := xp_b (f := fl) (n := n) (i := j) (by omega) (by omega)
      have hql := xq_le (f := fl) (b := t + 1) n
      have hpt : xp fl n j < xq fl n (t + 1) := by rw [show t = (fl j).toNat by omega]; exact hpj.2
      have hq0 := xq_0 (f := fl) (n := n) (b := (fl j).toNat)
      have hp0 : 0 ≤ xp fl n j := by omega
      refine hb_sta (n := 164) (kind := 64) h.1 (by decide +kernel) rfl rfl (.inl rfl) (by omega) (show _ < (286 : Int) by omega) ?_
      generalize hM1 : hb_set M 19 (v160.toInt.toNat) i4 = M1
      have hm1 : mz_sh mz_GG M1 := by rw [← hM1]; exact hb_set_sh h.1 rfl hb_at1 (by omega) (by omega)
      have eM1 : ∀ b j, b ≠ 19 ∨ j ≠ v160.toInt.toNat → hv M1 b j = hv M b j := by intro b j h; rw [← hM1]; exact hb_set_n h
      have sM1 : hv M1 19 (v160.toInt.toNat) = i4.toInt := by rw [← hM1]; exact hb_set_v h.1 rfl (show _ < 286 by omega)
      have wM1 : ∀ b, b ≠ 19 → M1 b = M b := by intro b h; rw [← hM1]; exact hb_set_c h
      refine he_aload (n := 165) (i := 0) (by decide +kernel) rfl ?_
      refine he_getr (n := 168) (ci := 3) (j := 2) (ns := [1046, 13]) (b := 18) hm1 (by decide +kernel) rfl rfl (by decide +kernel) ?_
      refine he_iload (n := 170) (i := 5) (by decide +kernel) rfl ?_
      refine he_dup2 (n := 171) (by decide +kernel) ?_
      refine hb_ld (n := 172) (kind := 64) hm1 (by decide +kernel) rfl rfl (.inl rfl) (by omega) (show _ < (17 : Int) by omega) hb_at1 ?_
      intro v171 hv171 lv171 uv171
      refine he_iconst (n := 173) (c := 1) (by decide +kernel) (by decide) ?_
      intro c172 hc172
      refine he_iadd (n := 174) (by decide +kernel) (by omega) (by omega) ?_
      intro v173 hv173
      have q171 : v171.toInt = xp fl n j := by
        rw [← hv171, eM1 _ _ (.inl (by decide)), show v142.toInt.toNat = t by omega, x0]
        unfold xp
        rw [ht]
        rfl
      refine hb_sta (n := 175) (kind := 64) hm1 (by decide +kernel) rfl rfl (.inl rfl) (by omega) (show _ < (17 : Int) by omega) ?_
      generalize hM2 : hb_set M1 18 (v142.toInt.toNat) v173 = M2
      have hm2 : mz_sh mz_GG M2 := by rw [← hM2]; exact hb_set_sh hm1 rfl hb_at1 (by omega) (by omega)
      have eM2 : ∀ b j, b ≠ 18 ∨ j ≠ v142.toInt.toNat → hv M2 b j = hv M1 b j := by intro b j h; rw [← hM2]; exact hb_set_n h
      have sM2 : hv M2 18 (v142.toInt.toNat) = v173.toInt := by rw [← hM2]; exact hb_set_v hm1 rfl (show _ < 17 by omega)
      have wM2 : ∀ b, b ≠ 18 → M2 b = M1 b := by intro b h; rw [← hM2]; exact hb_set_c h
      refine he_iinc (n := 178) (i := 4) (c := 1) (L' := fun v => [some (.ref (16)), some (.ref (11)), some (.int x2), some (.int x3), some (.int v), some (.int v142)]) (by decide +kernel) (by decide) rfl (fun _ => rfl) (by omega) (by omega) ?_
      intro i175 hi175
      refine he_goto (t := 131) (by decide +kernel) ?_
      have hF1 := xk16_set h hM1 hm1 (by decide)
      have hF2 := xk16_set hF1 hM2 hm2 (by decide)
      refine ih (j + 1) M2 _ _ (by omega) (by omega) hF2 (fun b b1 b2 => ?_) ?_ (fun s s1 s2 => ?_) (fun i i1 i2 => ?_)
      · rw [eM2 _ _ (.inl (by decide)), eM1 _ _ (.inl (by decide))]
        exact hc b b1 b2
      · rw [eM2 _ _ (.inl (by decide)), eM1 _ _ (.inl (by decide))]
        exact hf
      · have e9 : hb_cnt (fun q => decide (fl q = (s : Int))) (j + 1) = hb_cnt (fun q => decide (fl q = (s : Int))) j + (if decide (fl j = (s : Int)) = true then 1 else 0) := rfl
        by_cases hst : s = t
        · subst hst
          rw [e9, if_pos (decide_eq_true ht), show s = v142.toInt.toNat by omega, sM2, show v142.toInt.toNat = s by omega]
          unfold xp at q171
          rw [ht] at q171
          have q171' : v171.toInt = xq fl n s + hb_cnt (fun q => decide (fl q = (s : Int))) j := q171
          omega
        · rw [eM2 _ _ (.inr (by omega)), eM1 _ _ (.inl (by decide)), hx s s1 s2, e9, if_neg (fun h' => by have := of_decide_eq_true h'; omega)]
          omega
      · rw [eM2 _ _ (.inl (by decide))]
        by_cases hij : i = j
        · subst hij
          rw [← q160, sM1]
          exact e2
        · have hne := xp_ne (f := fl) (n := n) (i := j) (j := i) (by omega) (by omega) (by omega) i2
          have hpi := xp_b (f := fl) (n := n) (i := i) (by omega) i2
          have hqi := xq_0 (f := fl) (n := n) (b := (fl i).toNat)
          rw [eM1 _ _ (.inr (by omega))]
          exact hs i (by omega) i2
theorem xk16_l3 {d z u fr n : Nat} {M0 : Nat → mq_C} {Q : (Option Value ⊕ Nat) → mq_S → Prop} {x2 x3 : Int32} {fl : Nat → Int} (hfl : ∀ i, i < n → fl i = hv M0 11 (fr + i)) (h2 : x2.toInt = (fr : Int)) (h3 : x3.toInt = (n : Int)) (hn : fr + n ≤ 316) (hn2 : n ≤ 286) (K : ∀ M : Nat → mq_C, xk16_F M0 M → xT M 16 n fl → hv M 16 3 = xf fl n → Q (.inl none) (M, z, u)) : ∀ (m j : Nat) (M : Nat → mq_C) (i4 : Int32) (o5 : Option Value), j + m = 16 → 1 ≤ j → i4.toInt = (j : Int) → xk16_F M0 M → (∀ b : Nat, 1 ≤ b → b ≤ 15 → hv M 17 b = xc fl n b) → hv M 16 3 = hb_sum (fun t => xc fl n (t + 1) * 2 ^ (14 - t)) (j - 1) → (∀ t : Nat, 1 ≤ t → t ≤ j → hv M 18 t = xq fl n t) → mq_R mq_PP d 63 69 [some (.ref 16), some (.ref 11), some (.int x2), some (.int x3), some (.int i4), o5] [] (M, z, u) Q := by
  intro m
  induction m with
  | zero =>
    intro j M i4 o5 e1 e0 e2 h hc hf hx
    refine he_iload (n := 71) (i := 4) (by decide +kernel) rfl ?_
    refine he_iconst (n := 73) (c := 15) (by decide +kernel) (by decide) ?_
    intro c71 hc71
    refine he_cmpgt_t (n := 76) (t := 128) (by decide +kernel) (by omega) ?_
    refine he_iconst (n := 129) (c := 0) (by decide +kernel) (by decide) ?_
    intro c128 hc128
    refine he_istore (n := 131) (i := 4) (by decide +kernel) rfl ?_
    obtain rfl : j = 16 := by omega
    refine xk16_l4 hfl h2 h3 hn hn2 K n 0 M _ _ (by omega) (by omega) h hc hf (fun t t1 t2 => ?_) (fun i i1 _ => absurd i1 (by omega))
    rw [hx t t1 (by omega)]
    show xq fl n t = xq fl n t + 0
    omega
  | succ m ih =>
    intro j M i4 o5 e1 e0 e2 h hc hf hx
    have hcj := hc j e0 (by omega)
    have hc0 := xc_0 fl n j
    have hcl := xc_le (f := fl) (n := n) (b := j)
    have hqj := hx j e0 (Nat.le_refl _)
    have hq0 := xq_0 (f := fl) (n := n) (b := j)
    have hql := xq_le (f := fl) (b := j + 1) n
    have hqs := xq_s (f := fl) (n := n) e0
    refine he_iload (n := 71) (i := 4) (by decide +kernel) rfl ?_
    refine he_iconst (n := 73) (c := 15) (by decide +kernel) (by decide) ?_
    intro c71 hc71
    refine he_cmpgt_f (n := 76) (t := 128) (by decide +kernel) (by omega) ?_
    refine he_aload (n := 77) (i := 0) (by decide +kernel) rfl ?_
    refine he_dup_r (n := 78) (by decide +kernel) ?_
    refine hb_gfd (n := 81) (ci := 3) (j := 3) (ns := [1047, 16]) h.1 (by decide +kernel) rfl rfl (by decide) rfl ?_
    intro v78 hv78 lv78 uv78
    refine he_aload (n := 82) (i := 0) (by decide +kernel) rfl ?_
    refine he_getr (n := 85) (ci := 3) (j := 0) (ns := [1042, 9]) (b := 17) h.1 (by decide +kernel) rfl rfl (by decide +kernel) ?_
    refine he_iload (n := 87) (i := 4) (by decide +kernel) rfl ?_
    refine hb_ld (n := 88) (kind := 64) h.1 (by decide +kernel) rfl rfl (.inl rfl) (by omega) (show _ < (16 : Int) by omega) hb_at1 ?_
    intro v87 hv87 lv87 uv87
    refine he_iconst (n := 90) (c := 15) (by decide +kernel) (by decide) ?_
    intro c88 hc88
    refine he_iload (n := 92) (i := 4) (by decide +kernel) rfl ?_
    refine he_isub (n := 93) (by decide +kernel) (by omega) (by omega) ?_
    intro v92 hv92
    refine he_ex2 (o := 15) (n := 94) (by decide +kernel) rfl ?_
    intro v93 hv93
    have ev93 : v93 = v87 <<< (v92 &&& 31) := hv93
    have bv93 := mz_i32 v93
    have q87 : v87.toInt = xc fl n j := by rw [← hv87, show i4.toInt.toNat = j by omega]; exact hcj
    have q93 := xe_shlk (x := v87) (k := 15 - j) (by omega) (by omega) (by omega) (by omega) ev93
    have q78 : v78.toInt = hb_sum (fun t => xc fl n (t + 1) * 2 ^ (14 - t)) (j - 1) := by rw [← hv78]; exact hf
    have hfb := xf_b (fl := fl) (n := n) (by omega : n ≤ 288) (show j - 1 ≤ 15 by omega)
    have hpw : (2 : Int) ^ (15 - j) ≤ 2 ^ 14 := xe_pow (by omega)
    have hpw' : (2 : Int) ^ 14 = 16384 := by decide
    have hpp : (0 : Int) < 2 ^ (15 - j) := Int.pow_pos (by decide)
    have hmul : v87.toInt * 2 ^ (15 - j) ≤ 288 * 16384 := Int.mul_le_mul (by omega) (by omega) (by omega) (by omega)
    have hmul0 : 0 ≤ v87.toInt * 2 ^ (15 - j) := Int.mul_nonneg (by omega) (by omega)
    refine he_iadd (n := 95) (by decide +kernel) (by omega) (by omega) ?_
    intro v94 hv94
    refine hb_pfd (n := 98) (ci := 3) (j := 3) (t := 0) (ns := [1047, 16]) h.1 (by decide +kernel) rfl rfl (by decide) (.inl rfl) ?_
    generalize hM1 : hb_set M 16 3 v94 = M1
    have hm1 : mz_sh mz_GG M1 := by rw [← hM1]; exact hb_set_sh h.1 rfl rfl (by omega) (by omega)
    have eM1 : ∀ b j, b ≠ 16 ∨ j ≠ 3 → hv M1 b j = hv M b j := by intro b j h; rw [← hM1]; exact hb_set_n h
    have sM1 : hv M1 16 3 = v94.toInt := by rw [← hM1]; exact hb_set_v h.1 rfl (by decide)
    have wM1 : ∀ b, b ≠ 16 → M1 b = M b := by intro b h; rw [← hM1]; exact hb_set_c h
    refine he_aload (n := 99) (i := 0) (by decide +kernel) rfl ?_
    refine he_getr (n := 102) (ci := 3) (j := 2) (ns := [1046, 13]) (b := 18) hm1 (by decide +kernel) rfl rfl (by decide +kernel) ?_
    refine he_iload (n := 104) (i := 4) (by decide +kernel) rfl ?_
    refine he_iconst (n := 105) (c := 1) (by decide +kernel) (by decide) ?_
    intro c104 hc104
    refine he_iadd (n := 106) (by decide +kernel) (by omega) (by omega) ?_
    intro v105 hv105
    refine he_aload (n := 107) (i := 0) (by decide +kernel) rfl ?_
    refine he_getr (n := 110) (ci := 3) (j := 2) (ns := [1046, 13]) (b := 18) hm1 (by decide +kernel) rfl rfl (by decide +kernel) ?_
    refine he_iload (n := 112) (i := 4) (by decide +kernel) rfl ?_
    refine hb_ld (n := 113) (kind := 64) hm1 (by decide +kernel) rfl rfl (.inl rfl) (by omega) (show _ < (17 : Int) by omega) hb_at1 ?_
    intro v112 hv112 lv112 uv112
    refine he_aload (n := 114) (i := 0) (by decide +kernel) rfl ?_
    refine he_getr (n := 117) (ci := 3) (j := 0) (ns := [1042, 9]) (b := 17) hm1 (by decide +kernel) rfl rfl (by decide +kernel) ?_
    refine he_iload (n := 119) (i := 4) (by decide +kernel) rfl ?_
    refine hb_ld (n := 120) (kind := 64) hm1 (by decide +kernel) rfl rfl (.inl rfl) (by omega) (show _ < (16 : Int) by omega) hb_at1 ?_
    intro v119 hv119 lv119 uv119
    have q112 : v112.toInt = xq fl n j := by rw [← hv112, eM1 _ _ (.inl (by decide)), show i4.toInt.toNat = j by omega]; exact hqj
    have q119 : v119.toInt = xc fl n j := by rw [← hv119, eM1 _ _ (.inl (by decide)), show i4.toInt.toNat = j by omega]; exact hcj
    refine he_iadd (n := 121) (by decide +kernel) (by omega) (by omega) ?_
    intro v120 hv120
    refine hb_sta (n := 122) (kind := 64) hm1 (by decide +kernel) rfl rfl (.inl rfl) (by omega) (show _ < (17 : Int) by omega) ?_
    generalize hM2 : hb_set M1 18 (v105.toInt.toNat) v120 = M2
    have hm2 : mz_sh mz_GG M2 := by rw [← hM2]; exact hb_set_sh hm1 rfl hb_at1 (by omega) (by omega)
    have eM2 : ∀ b j, b ≠ 18 ∨ j ≠ v105.toInt.toNat → hv M2 b j = hv M1 b j := by intro b j h; rw [← hM2]; exact hb_set_n h
    have sM2 : hv M2 18 (v105.toInt.toNat) = v120.toInt := by rw [← hM2]; exact hb_set_v hm1 rfl (show _ < 17 by omega)
    have wM2 : ∀ b, b ≠ 18 → M2 b = M1 b := by intro b h; rw [← hM2]; exact hb_set_c h
    refine he_iinc (n := 125) (i := 4) (c := 1) (L' := fun v => [some (.ref (16)), some (.ref (11)), some (.int x2), some (.int x3), some (.int v), o5]) (by decide +kernel) (by decide) rfl (fun _ => rfl) (by omega) (by omega) ?_
    intro i122 hi122
    refine he_goto (t := 69) (by decide +kernel) ?_
    have hF1 := xk16_set h hM1 hm1 (by decide)
    have hF2 := xk16_set hF1 hM2 hm2 (by decide)
    refine ih (j + 1) M2 _ _ (by omega) (by omega) (by omega) hF2 (fun b b1 b2 => ?_) ?_ (fun t t1 t2 => ?_)
    · rw [eM2 _ _ (.inl (by decide)), eM1 _ _ (.inl (by decide))]
      exact hc b b1 b2
    · rw [eM2 _ _ (.inl (by decide)), sM1]
      obtain ⟨c, rfl⟩ : ∃ c, j = c + 1 := ⟨j - 1, by omega⟩
      show _ = hb_sum (fun t => xc fl n (t + 1) * 2 ^ (14 - t)) c + xc fl n (c + 1) * 2 ^ (14 - c)
      have q78' : v78.toInt = hb_sum (fun t => xc fl n (t + 1) * 2 ^ (14 - t)) c := q78
      rw [q87, show 15 - (c + 1) = 14 - c by omega] at q93
      omega
    · by_cases htj : t = j + 1
      · subst htj
        rw [show j + 1 = v105.toInt.toNat by omega, sM2, show v105.toInt.toNat = j + 1 by omega, hqs]
        omega
      · rw [eM2 _ _ (.inr (by omega)), eM1 _ _ (.inl (by decide))]
        exact hx t t1 (by omega)
theorem xk16_l2 {d z u fr n : Nat} {M0 : Nat → mq_C} {Q : (Option Value ⊕ Nat) → mq_S → Prop} {x2 x3 : Int32} {fl : Nat → Int} (hfl : ∀ i, i < n → fl i = hv M0 11 (fr + i)) (h2 : x2.toInt = (fr : Int)) (h3 : x3.toInt = (n : Int)) (hn : fr + n ≤ 316) (hn2 : n ≤ 286) (K : ∀ M : Nat → mq_C, xk16_F M0 M → xT M 16 n fl → hv M 16 3 = xf fl n → Q (.inl none) (M, z, u)) : ∀ (m j : Nat) (M : Nat → mq_C) (i4 : Int32), j + m = n → i4.toInt = (j : Int) → xk16_F M0 M → (∀ b : Nat, b ≤ 15 → hv M 17 b = xc fl j b) → mq_R mq_PP d 63 27 [some (.ref 16), some (.ref 11), some (.int x2), some (.int x3), some (.int i4), none] [] (M, z, u) Q := by
  intro m
  induction m with
  | zero =>
    intro j M i4 e1 e2 h hc
    obtain rfl : j = n := by omega
    refine he_iload (n := 29) (i := 4) (by decide +kernel) rfl ?_
    refine he_iload (n := 30) (i := 3) (by decide +kernel) rfl ?_
    refine he_cmpge_t (n := 33) (t := 54) (by decide +kernel) (by omega) ?_
    refine he_aload (n := 55) (i := 0) (by decide +kernel) rfl ?_
    refine he_iconst (n := 56) (c := 0) (by decide +kernel) (by decide) ?_
    intro c55 hc55
    refine hb_pfd (n := 59) (ci := 3) (j := 3) (t := 0) (ns := [1047, 16]) h.1 (by decide +kernel) rfl rfl (by decide) (.inl rfl) ?_
    generalize hM1 : hb_set M 16 3 c55 = M1
    have hm1 : mz_sh mz_GG M1 := by rw [← hM1]; exact hb_set_sh h.1 rfl rfl (by omega) (by omega)
    have eM1 : ∀ b j, b ≠ 16 ∨ j ≠ 3 → hv M1 b j = hv M b j := by intro b j h; rw [← hM1]; exact hb_set_n h
    have sM1 : hv M1 16 3 = c55.toInt := by rw [← hM1]; exact hb_set_v h.1 rfl (by decide)
    have wM1 : ∀ b, b ≠ 16 → M1 b = M b := by intro b h; rw [← hM1]; exact hb_set_c h
    refine he_aload (n := 60) (i := 0) (by decide +kernel) rfl ?_
    refine he_getr (n := 63) (ci := 3) (j := 2) (ns := [1046, 13]) (b := 18) hm1 (by decide +kernel) rfl rfl (by decide +kernel) ?_
    refine he_iconst (n := 64) (c := 1) (by decide +kernel) (by decide) ?_
    intro c63 hc63
    refine he_iconst (n := 65) (c := 0) (by decide +kernel) (by decide) ?_
    intro c64 hc64
    refine hb_sta (n := 66) (kind := 64) hm1 (by decide +kernel) rfl rfl (.inl rfl) (by omega) (show _ < (17 : Int) by omega) ?_
    generalize hM2 : hb_set M1 18 (c63.toInt.toNat) c64 = M2
    have hm2 : mz_sh mz_GG M2 := by rw [← hM2]; exact hb_set_sh hm1 rfl hb_at1 (by omega) (by omega)
    have eM2 : ∀ b j, b ≠ 18 ∨ j ≠ c63.toInt.toNat → hv M2 b j = hv M1 b j := by intro b j h; rw [← hM2]; exact hb_set_n h
    have sM2 : hv M2 18 (c63.toInt.toNat) = c64.toInt := by rw [← hM2]; exact hb_set_v hm1 rfl (show _ < 17 by omega)
    have wM2 : ∀ b, b ≠ 18 → M2 b = M1 b := by intro b h; rw [← hM2]; exact hb_set_c h
    refine he_iconst (n := 67) (c := 1) (by decide +kernel) (by decide) ?_
    intro c66 hc66
    refine he_istore (n := 69) (i := 4) (by decide +kernel) rfl ?_
    have hF1 := xk16_set h hM1 hm1 (by decide)
    have hF2 := xk16_set hF1 hM2 hm2 (by decide)
    refine xk16_l3 hfl h2 h3 hn hn2 K 15 1 M2 _ _ (by omega) (by omega) (by omega) hF2 (fun b b1 b2 => ?_) ?_ (fun t t1 t2 => ?_)
    · rw [eM2 _ _ (.inl (by decide)), eM1 _ _ (.inl (by decide))]
      exact hc b b2
    · rw [eM2 _ _ (.inl (by decide)), sM1]
      show _ = (0 : Int)
      omega
    · obtain rfl : t = 1 := by omega
      rw [show 1 = c63.toInt.toNat by omega, sM2, show c63.toInt.toNat = 1 by omega, xq_1]
      omega
  | succ m ih =>
    intro j M i4 e1 e2 h hc
    have hfj := hfl j (by omega)
    refine he_iload (n := 29) (i := 4) (by decide +kernel) rfl ?_
    refine he_iload (n := 30) (i := 3) (by decide +kernel) rfl ?_
    refine he_cmpge_f (n := 33) (t := 54) (by decide +kernel) (by omega) ?_
    refine he_aload (n := 34) (i := 0) (by decide +kernel) rfl ?_
    refine he_getr (n := 37) (ci := 3) (j := 0) (ns := [1042, 9]) (b := 17) h.1 (by decide +kernel) rfl rfl (by decide +kernel) ?_
    refine he_aload (n := 38) (i := 1) (by decide +kernel) rfl ?_
    refine he_iload (n := 39) (i := 2) (by decide +kernel) rfl ?_
    refine he_iload (n := 41) (i := 4) (by decide +kernel) rfl ?_
    refine he_iadd (n := 42) (by decide +kernel) (by omega) (by omega) ?_
    intro v41 hv41
    refine hb_ld (n := 43) (kind := 64) h.1 (by decide +kernel) rfl rfl (.inl rfl) (by omega) (show _ < (316 : Int) by omega) hb_at1 ?_
    intro v42 hv42 lv42 uv42
    have q42 : v42.toInt = fl j := by rw [hfj, ← hv42, hb_vc (h.2 11 (by omega)), show v41.toInt.toNat = fr + j by omega]
    obtain ⟨t, ht⟩ : ∃ t : Nat, fl j = (t : Int) := ⟨(fl j).toNat, by omega⟩
    have hct := hc t (by omega)
    have hcl := xc_le (f := fl) (n := j) (b := t)
    have hcz := xc_0 fl j t
    refine he_dup2 (n := 44) (by decide +kernel) ?_
    refine hb_ld (n := 45) (kind := 64) h.1 (by decide +kernel) rfl rfl (.inl rfl) (by omega) (show _ < (16 : Int) by omega) hb_at1 ?_
    intro v44 hv44 lv44 uv44
    have q44 : v44.toInt = xc fl j t := by rw [← hv44, show v42.toInt.toNat = t by omega]; exact hct
    refine he_iconst (n := 46) (c := 1) (by decide +kernel) (by decide) ?_
    intro c45 hc45
    refine he_iadd (n := 47) (by decide +kernel) (by omega) (by omega) ?_
    intro v46 hv46
    refine hb_sta (n := 48) (kind := 64) h.1 (by decide +kernel) rfl rfl (.inl rfl) (by omega) (show _ < (16 : Int) by omega) ?_
    generalize hM1 : hb_set M 17 (v42.toInt.toNat) v46 = M1
    have hm1 : mz_sh mz_GG M1 := by rw [← hM1]; exact hb_set_sh h.1 rfl hb_at1 (by omega) (by omega)
    have eM1 : ∀ b j, b ≠ 17 ∨ j ≠ v42.toInt.toNat → hv M1 b j = hv M b j := by intro b j h; rw [← hM1]; exact hb_set_n h
    have sM1 : hv M1 17 (v42.toInt.toNat) = v46.toInt := by rw [← hM1]; exact hb_set_v h.1 rfl (show _ < 16 by omega)
    have wM1 : ∀ b, b ≠ 17 → M1 b = M b := by intro b h; rw [← hM1]; exact hb_set_c h
    refine he_iinc (n := 51) (i := 4) (c := 1) (L' := fun v => [some (.ref (16)), some (.ref (11)), some (.int x2), some (.int x3), some (.int v), none]) (by decide +kernel) (by decide) rfl (fun _ => rfl) (by omega) (by omega) ?_
    intro i48 hi48
    refine he_goto (t := 27) (by decide +kernel) ?_
    refine ih (j + 1) M1 _ (by omega) (by omega) (xk16_set h hM1 hm1 (by decide)) (fun b b2 => ?_)
    rw [xc_s]
    by_cases hbt : b = t
    · subst hbt
      rw [if_pos ht, show b = v42.toInt.toNat by omega, sM1, show v42.toInt.toNat = b by omega]
      omega
    · rw [eM1 _ _ (.inr (by omega)), hc b b2, if_neg (by omega)]
      omega
theorem xk16_l1 {d z u fr n : Nat} {M0 : Nat → mq_C} {Q : (Option Value ⊕ Nat) → mq_S → Prop} {x2 x3 : Int32} {fl : Nat → Int} (hfl : ∀ i, i < n → fl i = hv M0 11 (fr + i)) (h2 : x2.toInt = (fr : Int)) (h3 : x3.toInt = (n : Int)) (hn : fr + n ≤ 316) (hn2 : n ≤ 286) (K : ∀ M : Nat → mq_C, xk16_F M0 M → xT M 16 n fl → hv M 16 3 = xf fl n → Q (.inl none) (M, z, u)) : ∀ (m j : Nat) (M : Nat → mq_C) (i4 : Int32), j + m = 16 → i4.toInt = (j : Int) → xk16_F M0 M → (∀ b : Nat, b < j → hv M 17 b = 0) → mq_R mq_PP d 63 3 [some (.ref 16), some (.ref 11), some (.int x2), some (.int x3), some (.int i4), none] [] (M, z, u) Q := by
  intro m
  induction m with
  | zero =>
    intro j M i4 e1 e2 h hc
    refine he_iload (n := 5) (i := 4) (by decide +kernel) rfl ?_
    refine he_iconst (n := 7) (c := 15) (by decide +kernel) (by decide) ?_
    intro c5 hc5
    refine he_cmpgt_t (n := 10) (t := 24) (by decide +kernel) (by omega) ?_
    refine he_iconst (n := 25) (c := 0) (by decide +kernel) (by decide) ?_
    intro c24 hc24
    refine he_istore (n := 27) (i := 4) (by decide +kernel) rfl ?_
    refine xk16_l2 hfl h2 h3 hn hn2 K n 0 M _ (by omega) (by omega) h (fun b b2 => ?_)
    rw [hc b (by omega)]
    rfl
  | succ m ih =>
    intro j M i4 e1 e2 h hc
    refine he_iload (n := 5) (i := 4) (by decide +kernel) rfl ?_
    refine he_iconst (n := 7) (c := 15) (by decide +kernel) (by decide) ?_
    intro c5 hc5
    refine he_cmpgt_f (n := 10) (t := 24) (by decide +kernel) (by omega) ?_
    refine he_aload (n := 11) (i := 0) (by decide +kernel) rfl ?_
    refine he_getr (n := 14) (ci := 3) (j := 0) (ns := [1042, 9]) (b := 17) h.1 (by decide +kernel) rfl rfl (by decide +kernel) ?_
    refine he_iload (n := 16) (i := 4) (by decide +kernel) rfl ?_
    refine he_iconst (n := 17) (c := 0) (by decide +kernel) (by decide) ?_
    intro c16 hc16
    refine hb_sta (n := 18) (kind := 64) h.1 (by decide +kernel) rfl rfl (.inl rfl) (by omega) (show _ < (16 : Int) by omega) ?_
    generalize hM1 : hb_set M 17 (i4.toInt.toNat) c16 = M1
    have hm1 : mz_sh mz_GG M1 := by rw [← hM1]; exact hb_set_sh h.1 rfl hb_at1 (by omega) (by omega)
    have eM1 : ∀ b j, b ≠ 17 ∨ j ≠ i4.toInt.toNat → hv M1 b j = hv M b j := by intro b j h; rw [← hM1]; exact hb_set_n h
    have sM1 : hv M1 17 (i4.toInt.toNat) = c16.toInt := by rw [← hM1]; exact hb_set_v h.1 rfl (show _ < 16 by omega)
    have wM1 : ∀ b, b ≠ 17 → M1 b = M b := by intro b h; rw [← hM1]; exact hb_set_c h
    refine he_iinc (n := 21) (i := 4) (c := 1) (L' := fun v => [some (.ref (16)), some (.ref (11)), some (.int x2), some (.int x3), some (.int v), none]) (by decide +kernel) (by decide) rfl (fun _ => rfl) (by omega) (by omega) ?_
    intro i18 hi18
    refine he_goto (t := 3) (by decide +kernel) ?_
    refine ih (j + 1) M1 _ (by omega) (by omega) (xk16_set h hM1 hm1 (by decide)) (fun b b2 => ?_)
    by_cases hbj : b = j
    · rw [hbj, show j = i4.toInt.toNat by omega, sM1]
      omega
    · rw [eM1 _ _ (.inr (by omega))]
      exact hc b (by omega)
theorem xj_build16 {d z u fr n : Nat} {M0 : Nat → mq_C} {Q : (Option Value ⊕ Nat) → mq_S → Prop} {x2 x3 : Int32} {fl : Nat → Int} (hfl : ∀ i, i < n → fl i = hv M0 11 (fr + i)) (h2 : x2.toInt = (fr : Int)) (h3 : x3.toInt = (n : Int)) (hn : fr + n ≤ 316) (hn2 : n ≤ 286) (hm : mz_sh mz_GG M0) (K : ∀ M : Nat → mq_C, xk16_F M0 M → xT M 16 n fl → hv M 16 3 = xf fl n → Q (.inl none) (M, z, u)) : mq_R mq_PP d 63 0 [some (.ref 16), some (.ref 11), some (.int x2), some (.int x3), none, none] [] (M0, z, u) Q := by
  refine he_iconst (n := 1) (c := 0) (by decide +kernel) (by decide) ?_
  intro c0 hc0
  refine he_istore (n := 3) (i := 4) (by decide +kernel) rfl ?_
  exact xk16_l1 hfl h2 h3 hn hn2 K 16 0 M0 _ (by omega) (by omega) ⟨hm, fun _ _ => rfl⟩ (fun b hb => absurd hb (by omega))
def xk20_F (M0 M : Nat → mq_C) : Prop := mz_sh mz_GG M ∧ ∀ b, b < 20 ∨ 24 ≤ b → M b = M0 b
theorem xk20_set {M0 M M' : Nat → mq_C} {a i : Nat} {v : Int32} (h : xk20_F M0 M) (hM : hb_set M a i v = M') (hs : mz_sh mz_GG M') (ha : 20 ≤ a ∧ a < 24) : xk20_F M0 M' := ⟨hs, fun b hb => by rw [← hM, hb_set_c (by omega)]; exact h.2 b hb⟩
theorem xk20_l4 {d z u fr n : Nat} {M0 : Nat → mq_C} {Q : (Option Value ⊕ Nat) → mq_S → Prop} {x2 x3 : Int32} {fl : Nat → Int} (hfl : ∀ i, i < n → fl i = hv M0 11 (fr + i)) (h2 : x2.toInt = (fr : Int)) (h3 : x3.toInt = (n : Int)) (hn : fr + n ≤ 316) (hn2 : n ≤ 30) (K : ∀ M : Nat → mq_C, xk20_F M0 M → xT M 20 n fl → hv M 20 3 = xf fl n → Q (.inl none) (M, z, u)) : ∀ (m j : Nat) (M : Nat → mq_C) (i4 : Int32) (o5 : Option Value), j + m = n → i4.toInt = (j : Int) → xk20_F M0 M → (∀ b : Nat, 1 ≤ b → b ≤ 15 → hv M 21 b = xc fl n b) → hv M 20 3 = xf fl n → (∀ t : Nat, 1 ≤ t → t ≤ 15 → hv M 22 t = xq fl n t + hb_cnt (fun q => decide (fl q = (t : Int))) j) → (∀ i : Nat, i < j → 1 ≤ fl i → hv M 23 (xp fl n i).toNat = (i : Int)) → mq_R mq_PP d 63 131 [some (.ref 20), some (.ref 11), some (.int x2), some (.int x3), some (.int i4), o5] [] (M, z, u) Q := by
  intro m
  induction m with
  | zero =>
    intro j M i4 o5 e1 e2 h hc hf hx hs
    refine he_iload (n := 133) (i := 4) (by decide +kernel) rfl ?_
    refine he_iload (n := 134) (i := 3) (by decide +kernel) rfl ?_
    refine he_cmpge_t (n := 137) (t := 181) (by decide +kernel) (by omega) ?_
    refine he_ret (by decide +kernel) ?_
    obtain rfl : j = n := by omega
    exact K M h ⟨hc, hs⟩ hf
  | succ m ih =>
    intro j M i4 o5 e1 e2 h hc hf hx hs
    have hfj := hfl j (by omega)
    refine he_iload (n := 133) (i := 4) (by decide +kernel) rfl ?_
    refine he_iload (n := 134) (i := 3) (by decide +kernel) rfl ?_
    refine he_cmpge_f (n := 137) (t := 181) (by decide +kernel) (by omega) ?_
    refine he_aload (n := 138) (i := 1) (by decide +kernel) rfl ?_
    refine he_iload (n := 139) (i := 2) (by decide +kernel) rfl ?_
    refine he_iload (n := 141) (i := 4) (by decide +kernel) rfl ?_
    refine he_iadd (n := 142) (by decide +kernel) (by omega) (by omega) ?_
    intro v141 hv141
    refine hb_ld (n := 143) (kind := 64) h.1 (by decide +kernel) rfl rfl (.inl rfl) (by omega) (show _ < (316 : Int) by omega) hb_at1 ?_
    intro v142 hv142 lv142 uv142
    refine he_istore (n := 145) (i := 5) (by decide +kernel) rfl ?_
    refine he_iload (n := 147) (i := 5) (by decide +kernel) rfl ?_
    have q142 : v142.toInt = fl j := by rw [hfj, ← hv142, hb_vc (h.2 11 (by omega)), show v141.toInt.toNat = fr + j by omega]
    by_cases h0 : v142.toInt ≤ 0
    · skip
      refine he_ifle_t (n := 150) (t := 175) (by decide +kernel) (by omega) ?_
      refine he_iinc (n := 178) (i := 4) (c := 1) (L' := fun v => [some (.ref (20)), some (.ref (11)), some (.int x2), some (.int x3), some (.int v), some (.int v142)]) (by decide +kernel) (by decide) rfl (fun _ => rfl) (by omega) (by omega) ?_
      intro i175 hi175
      refine he_goto (t := 131) (by decide +kernel) ?_
      refine ih (j + 1) M _ _ (by omega) (by omega) h hc hf (fun t t1 t2 => ?_) (fun i i1 i2 => ?_)
      · rw [hx t t1 t2]
        have : hb_cnt (fun q => decide (fl q = (t : Int))) (j + 1) = hb_cnt (fun q => decide (fl q = (t : Int))) j + (if decide (fl j = (t : Int)) = true then 1 else 0) := rfl
        rw [this, if_neg (fun h' => by have := of_decide_eq_true h'; omega)]
        omega
      · by_cases hij : i = j
        · subst hij
          omega
        · exact hs i (by omega) i2
    · skip
      refine he_ifle_f (n := 150) (t := 175) (by decide +kernel) (by omega) ?_
      refine he_aload (n := 151) (i := 0) (by decide +kernel) rfl ?_
      refine he_getr (n := 154) (ci := 3) (j := 1) (ns := [1044, 20]) (b := 23) h.1 (by decide +kernel) rfl rfl (by decide +kernel) ?_
      refine he_aload (n := 155) (i := 0) (by decide +kernel) rfl ?_
      refine he_getr (n := 158) (ci := 3) (j := 2) (ns := [1046, 13]) (b := 22) h.1 (by decide +kernel) rfl rfl (by decide +kernel) ?_
      refine he_iload (n := 160) (i := 5) (by decide +kernel) rfl ?_
      refine hb_ld (n := 161) (kind := 64) h.1 (by decide +kernel) rfl rfl (.inl rfl) (by omega) (show _ < (17 : Int) by omega) hb_at1 ?_
      intro v160 hv160 lv160 uv160
      refine he_iload (n := 163) (i := 4) (by decide +kernel) rfl ?_
      obtain ⟨t, ht⟩ : ∃ t : Nat, fl j = (t : Int) := ⟨(fl j).toNat, by omega⟩
      have t1 : 1 ≤ t := by omega
      have t2 : t ≤ 15 := by omega
      have x0 := hx t t1 t2
      have q160 : v160.toInt = xp fl n j := by
        rw [← hv160, show v142.toInt.toNat = t by omega, x0]
        unfold xp
        rw [ht]
        rfl
      have hpj := xp_b (f := fl) (n := n) (i := j) (by omega) (by omega)
      have hql := xq_le (f := fl) (b := t + 1) n
      have hpt : xp fl n j < xq fl n (t + 1) := by rw [show t = (fl j).toNat by omega]; exact hpj.2
      have hq0 := xq_0 (f := fl) (n := n) (b := (fl j).toNat)
      have hp0 : 0 ≤ xp fl n j := by omega
      refine hb_sta (n := 164) (kind := 64) h.1 (by decide +kernel) rfl rfl (.inl rfl) (by omega) (show _ < (30 : Int) by omega) ?_
      generalize hM1 : hb_set M 23 (v160.toInt.toNat) i4 = M1
      have hm1 : mz_sh mz_GG M1 := by rw [← hM1]; exact hb_set_sh h.1 rfl hb_at1 (by omega) (by omega)
      have eM1 : ∀ b j, b ≠ 23 ∨ j ≠ v160.toInt.toNat → hv M1 b j = hv M b j := by intro b j h; rw [← hM1]; exact hb_set_n h
      have sM1 : hv M1 23 (v160.toInt.toNat) = i4.toInt := by rw [← hM1]; exact hb_set_v h.1 rfl (show _ < 30 by omega)
      have wM1 : ∀ b, b ≠ 23 → M1 b = M b := by intro b h; rw [← hM1]; exact hb_set_c h
      refine he_aload (n := 165) (i := 0) (by decide +kernel) rfl ?_
      refine he_getr (n := 168) (ci := 3) (j := 2) (ns := [1046, 13]) (b := 22) hm1 (by decide +kernel) rfl rfl (by decide +kernel) ?_
      refine he_iload (n := 170) (i := 5) (by decide +kernel) rfl ?_
      refine he_dup2 (n := 171) (by decide +kernel) ?_
      refine hb_ld (n := 172) (kind := 64) hm1 (by decide +kernel) rfl rfl (.inl rfl) (by omega) (show _ < (17 : Int) by omega) hb_at1 ?_
      intro v171 hv171 lv171 uv171
      refine he_iconst (n := 173) (c := 1) (by decide +kernel) (by decide) ?_
      intro c172 hc172
      refine he_iadd (n := 174) (by decide +kernel) (by omega) (by omega) ?_
      intro v173 hv173
      have q171 : v171.toInt = xp fl n j := by
        rw [← hv171, eM1 _ _ (.inl (by decide)), show v142.toInt.toNat = t by omega, x0]
        unfold xp
        rw [ht]
        rfl
      refine hb_sta (n := 175) (kind := 64) hm1 (by decide +kernel) rfl rfl (.inl rfl) (by omega) (show _ < (17 : Int) by omega) ?_
      generalize hM2 : hb_set M1 22 (v142.toInt.toNat) v173 = M2
      have hm2 : mz_sh mz_GG M2 := by rw [← hM2]; exact hb_set_sh hm1 rfl hb_at1 (by omega) (by omega)
      have eM2 : ∀ b j, b ≠ 22 ∨ j ≠ v142.toInt.toNat → hv M2 b j = hv M1 b j := by intro b j h; rw [← hM2]; exact hb_set_n h
      have sM2 : hv M2 22 (v142.toInt.toNat) = v173.toInt := by rw [← hM2]; exact hb_set_v hm1 rfl (show _ < 17 by omega)
      have wM2 : ∀ b, b ≠ 22 → M2 b = M1 b := by intro b h; rw [← hM2]; exact hb_set_c h
      refine he_iinc (n := 178) (i := 4) (c := 1) (L' := fun v => [some (.ref (20)), some (.ref (11)), some (.int x2), some (.int x3), some (.int v), some (.int v142)]) (by decide +kernel) (by decide) rfl (fun _ => rfl) (by omega) (by omega) ?_
      intro i175 hi175
      refine he_goto (t := 131) (by decide +kernel) ?_
      have hF1 := xk20_set h hM1 hm1 (by decide)
      have hF2 := xk20_set hF1 hM2 hm2 (by decide)
      refine ih (j + 1) M2 _ _ (by omega) (by omega) hF2 (fun b b1 b2 => ?_) ?_ (fun s s1 s2 => ?_) (fun i i1 i2 => ?_)
      · rw [eM2 _ _ (.inl (by decide)), eM1 _ _ (.inl (by decide))]
        exact hc b b1 b2
      · rw [eM2 _ _ (.inl (by decide)), eM1 _ _ (.inl (by decide))]
        exact hf
      · have e9 : hb_cnt (fun q => decide (fl q = (s : Int))) (j + 1) = hb_cnt (fun q => decide (fl q = (s : Int))) j + (if decide (fl j = (s : Int)) = true then 1 else 0) := rfl
        by_cases hst : s = t
        · subst hst
          rw [e9, if_pos (decide_eq_true ht), show s = v142.toInt.toNat by omega, sM2, show v142.toInt.toNat = s by omega]
          unfold xp at q171
          rw [ht] at q171
          have q171' : v171.toInt = xq fl n s + hb_cnt (fun q => decide (fl q = (s : Int))) j := q171
          omega
        · rw [eM2 _ _ (.inr (by omega)), eM1 _ _ (.inl (by decide)), hx s s1 s2, e9, if_neg (fun h' => by have := of_decide_eq_true h'; omega)]
          omega
      · rw [eM2 _ _ (.inl (by decide))]
        by_cases hij : i = j
        · subst hij
          rw [← q160, sM1]
          exact e2
        · have hne := xp_ne (f := fl) (n := n) (i := j) (j := i) (by omega) (by omega) (by omega) i2
          have hpi := xp_b (f := fl) (n := n) (i := i) (by omega) i2
          have hqi := xq_0 (f := fl) (n := n) (b := (fl i).toNat)
          rw [eM1 _ _ (.inr (by omega))]
          exact hs i (by omega) i2
theorem xk20_l3 {d z u fr n : Nat} {M0 : Nat → mq_C} {Q : (Option Value ⊕ Nat) → mq_S → Prop} {x2 x3 : Int32} {fl : Nat → Int} (hfl : ∀ i, i < n → fl i = hv M0 11 (fr + i)) (h2 : x2.toInt = (fr : Int)) (h3 : x3.toInt = (n : Int)) (hn : fr + n ≤ 316) (hn2 : n ≤ 30) (K : ∀ M : Nat → mq_C, xk20_F M0 M → xT M 20 n fl → hv M 20 3 = xf fl n → Q (.inl none) (M, z, u)) : ∀ (m j : Nat) (M : Nat → mq_C) (i4 : Int32) (o5 : Option Value), j + m = 16 → 1 ≤ j → i4.toInt = (j : Int) → xk20_F M0 M → (∀ b : Nat, 1 ≤ b → b ≤ 15 → hv M 21 b = xc fl n b) → hv M 20 3 = hb_sum (fun t => xc fl n (t + 1) * 2 ^ (14 - t)) (j - 1) → (∀ t : Nat, 1 ≤ t → t ≤ j → hv M 22 t = xq fl n t) → mq_R mq_PP d 63 69 [some (.ref 20), some (.ref 11), some (.int x2), some (.int x3), some (.int i4), o5] [] (M, z, u) Q := by
  intro m
  induction m with
  | zero =>
    intro j M i4 o5 e1 e0 e2 h hc hf hx
    refine he_iload (n := 71) (i := 4) (by decide +kernel) rfl ?_
    refine he_iconst (n := 73) (c := 15) (by decide +kernel) (by decide) ?_
    intro c71 hc71
    refine he_cmpgt_t (n := 76) (t := 128) (by decide +kernel) (by omega) ?_
    refine he_iconst (n := 129) (c := 0) (by decide +kernel) (by decide) ?_
    intro c128 hc128
    refine he_istore (n := 131) (i := 4) (by decide +kernel) rfl ?_
    obtain rfl : j = 16 := by omega
    refine xk20_l4 hfl h2 h3 hn hn2 K n 0 M _ _ (by omega) (by omega) h hc hf (fun t t1 t2 => ?_) (fun i i1 _ => absurd i1 (by omega))
    rw [hx t t1 (by omega)]
    show xq fl n t = xq fl n t + 0
    omega
  | succ m ih =>
    intro j M i4 o5 e1 e0 e2 h hc hf hx
    have hcj := hc j e0 (by omega)
    have hc0 := xc_0 fl n j
    have hcl := xc_le (f := fl) (n := n) (b := j)
    have hqj := hx j e0 (Nat.le_refl _)
    have hq0 := xq_0 (f := fl) (n := n) (b := j)
    have hql := xq_le (f := fl) (b := j + 1) n
    have hqs := xq_s (f := fl) (n := n) e0
    refine he_iload (n := 71) (i := 4) (by decide +kernel) rfl ?_
    refine he_iconst (n := 73) (c := 15) (by decide +kernel) (by decide) ?_
    intro c71 hc71
    refine he_cmpgt_f (n := 76) (t := 128) (by decide +kernel) (by omega) ?_
    refine he_aload (n := 77) (i := 0) (by decide +kernel) rfl ?_
    refine he_dup_r (n := 78) (by decide +kernel) ?_
    refine hb_gfd (n := 81) (ci := 3) (j := 3) (ns := [1047, 16]) h.1 (by decide +kernel) rfl rfl (by decide) rfl ?_
    intro v78 hv78 lv78 uv78
    refine he_aload (n := 82) (i := 0) (by decide +kernel) rfl ?_
    refine he_getr (n := 85) (ci := 3) (j := 0) (ns := [1042, 9]) (b := 21) h.1 (by decide +kernel) rfl rfl (by decide +kernel) ?_
    refine he_iload (n := 87) (i := 4) (by decide +kernel) rfl ?_
    refine hb_ld (n := 88) (kind := 64) h.1 (by decide +kernel) rfl rfl (.inl rfl) (by omega) (show _ < (16 : Int) by omega) hb_at1 ?_
    intro v87 hv87 lv87 uv87
    refine he_iconst (n := 90) (c := 15) (by decide +kernel) (by decide) ?_
    intro c88 hc88
    refine he_iload (n := 92) (i := 4) (by decide +kernel) rfl ?_
    refine he_isub (n := 93) (by decide +kernel) (by omega) (by omega) ?_
    intro v92 hv92
    refine he_ex2 (o := 15) (n := 94) (by decide +kernel) rfl ?_
    intro v93 hv93
    have ev93 : v93 = v87 <<< (v92 &&& 31) := hv93
    have bv93 := mz_i32 v93
    have q87 : v87.toInt = xc fl n j := by rw [← hv87, show i4.toInt.toNat = j by omega]; exact hcj
    have q93 := xe_shlk (x := v87) (k := 15 - j) (by omega) (by omega) (by omega) (by omega) ev93
    have q78 : v78.toInt = hb_sum (fun t => xc fl n (t + 1) * 2 ^ (14 - t)) (j - 1) := by rw [← hv78]; exact hf
    have hfb := xf_b (fl := fl) (n := n) (by omega : n ≤ 288) (show j - 1 ≤ 15 by omega)
    have hpw : (2 : Int) ^ (15 - j) ≤ 2 ^ 14 := xe_pow (by omega)
    have hpw' : (2 : Int) ^ 14 = 16384 := by decide
    have hpp : (0 : Int) < 2 ^ (15 - j) := Int.pow_pos (by decide)
    have hmul : v87.toInt * 2 ^ (15 - j) ≤ 288 * 16384 := Int.mul_le_mul (by omega) (by omega) (by omega) (by omega)
    have hmul0 : 0 ≤ v87.toInt * 2 ^ (15 - j) := Int.mul_nonneg (by omega) (by omega)
    refine he_iadd (n := 95) (by decide +kernel) (by omega) (by omega) ?_
    intro v94 hv94
    refine hb_pfd (n := 98) (ci := 3) (j := 3) (t := 0) (ns := [1047, 16]) h.1 (by decide +kernel) rfl rfl (by decide) (.inl rfl) ?_
    generalize hM1 : hb_set M 20 3 v94 = M1
    have hm1 : mz_sh mz_GG M1 := by rw [← hM1]; exact hb_set_sh h.1 rfl rfl (by omega) (by omega)
    have eM1 : ∀ b j, b ≠ 20 ∨ j ≠ 3 → hv M1 b j = hv M b j := by intro b j h; rw [← hM1]; exact hb_set_n h
    have sM1 : hv M1 20 3 = v94.toInt := by rw [← hM1]; exact hb_set_v h.1 rfl (by decide)
    have wM1 : ∀ b, b ≠ 20 → M1 b = M b := by intro b h; rw [← hM1]; exact hb_set_c h
    refine he_aload (n := 99) (i := 0) (by decide +kernel) rfl ?_
    refine he_getr (n := 102) (ci := 3) (j := 2) (ns := [1046, 13]) (b := 22) hm1 (by decide +kernel) rfl rfl (by decide +kernel) ?_
    refine he_iload (n := 104) (i := 4) (by decide +kernel) rfl ?_
    refine he_iconst (n := 105) (c := 1) (by decide +kernel) (by decide) ?_
    intro c104 hc104
    refine he_iadd (n := 106) (by decide +kernel) (by omega) (by omega) ?_
    intro v105 hv105
    refine he_aload (n := 107) (i := 0) (by decide +kernel) rfl ?_
    refine he_getr (n := 110) (ci := 3) (j := 2) (ns := [1046, 13]) (b := 22) hm1 (by decide +kernel) rfl rfl (by decide +kernel) ?_
    refine he_iload (n := 112) (i := 4) (by decide +kernel) rfl ?_
    refine hb_ld (n := 113) (kind := 64) hm1 (by decide +kernel) rfl rfl (.inl rfl) (by omega) (show _ < (17 : Int) by omega) hb_at1 ?_
    intro v112 hv112 lv112 uv112
    refine he_aload (n := 114) (i := 0) (by decide +kernel) rfl ?_
    refine he_getr (n := 117) (ci := 3) (j := 0) (ns := [1042, 9]) (b := 21) hm1 (by decide +kernel) rfl rfl (by decide +kernel) ?_
    refine he_iload (n := 119) (i := 4) (by decide +kernel) rfl ?_
    refine hb_ld (n := 120) (kind := 64) hm1 (by decide +kernel) rfl rfl (.inl rfl) (by omega) (show _ < (16 : Int) by omega) hb_at1 ?_
    intro v119 hv119 lv119 uv119
    have q112 : v112.toInt = xq fl n j := by rw [← hv112, eM1 _ _ (.inl (by decide)), show i4.toInt.toNat = j by omega]; exact hqj
    have q119 : v119.toInt = xc fl n j := by rw [← hv119, eM1 _ _ (.inl (by decide)), show i4.toInt.toNat = j by omega]; exact hcj
    refine he_iadd (n := 121) (by decide +kernel) (by omega) (by omega) ?_
    intro v120 hv120
    refine hb_sta (n := 122) (kind := 64) hm1 (by decide +kernel) rfl rfl (.inl rfl) (by omega) (show _ < (17 : Int) by omega) ?_
    generalize hM2 : hb_set M1 22 (v105.toInt.toNat) v120 = M2
    have hm2 : mz_sh mz_GG M2 := by rw [← hM2]; exact hb_set_sh hm1 rfl hb_at1 (by omega) (by omega)
    have eM2 : ∀ b j, b ≠ 22 ∨ j ≠ v105.toInt.toNat → hv M2 b j = hv M1 b j := by intro b j h; rw [← hM2]; exact hb_set_n h
    have sM2 : hv M2 22 (v105.toInt.toNat) = v120.toInt := by rw [← hM2]; exact hb_set_v hm1 rfl (show _ < 17 by omega)
    have wM2 : ∀ b, b ≠ 22 → M2 b = M1 b := by intro b h; rw [← hM2]; exact hb_set_c h
    refine he_iinc (n := 125) (i := 4) (c := 1) (L' := fun v => [some (.ref (20)), some (.ref (11)), some (.int x2), some (.int x3), some (.int v), o5]) (by decide +kernel) (by decide) rfl (fun _ => rfl) (by omega) (by omega) ?_
    intro i122 hi122
    refine he_goto (t := 69) (by decide +kernel) ?_
    have hF1 := xk20_set h hM1 hm1 (by decide)
    have hF2 := xk20_set hF1 hM2 hm2 (by decide)
    refine ih (j + 1) M2 _ _ (by omega) (by omega) (by omega) hF2 (fun b b1 b2 => ?_) ?_ (fun t t1 t2 => ?_)
    · rw [eM2 _ _ (.inl (by decide)), eM1 _ _ (.inl (by decide))]
      exact hc b b1 b2
    · rw [eM2 _ _ (.inl (by decide)), sM1]
      obtain ⟨c, rfl⟩ : ∃ c, j = c + 1 := ⟨j - 1, by omega⟩
      show _ = hb_sum (fun t => xc fl n (t + 1) * 2 ^ (14 - t)) c + xc fl n (c + 1) * 2 ^ (14 - c)
      have q78' : v78.toInt = hb_sum (fun t => xc fl n (t + 1) * 2 ^ (14 - t)) c := q78
      rw [q87, show 15 - (c + 1) = 14 - c by omega] at q93
      omega
    · by_cases htj : t = j + 1
      · subst htj
        rw [show j + 1 = v105.toInt.toNat by omega, sM2, show v105.toInt.toNat = j + 1 by omega, hqs]
        omega
      · rw [eM2 _ _ (.inr (by omega)), eM1 _ _ (.inl (by decide))]
        exact hx t t1 (by omega)
theorem xk20_l2 {d z u fr n : Nat} {M0 : Nat → mq_C} {Q : (Option Value ⊕ Nat) → mq_S → Prop} {x2 x3 : Int32} {fl : Nat → Int} (hfl : ∀ i, i < n → fl i = hv M0 11 (fr + i)) (h2 : x2.toInt = (fr : Int)) (h3 : x3.toInt = (n : Int)) (hn : fr + n ≤ 316) (hn2 : n ≤ 30) (K : ∀ M : Nat → mq_C, xk20_F M0 M → xT M 20 n fl → hv M 20 3 = xf fl n → Q (.inl none) (M, z, u)) : ∀ (m j : Nat) (M : Nat → mq_C) (i4 : Int32), j + m = n → i4.toInt = (j : Int) → xk20_F M0 M → (∀ b : Nat, b ≤ 15 → hv M 21 b = xc fl j b) → mq_R mq_PP d 63 27 [some (.ref 20), some (.ref 11), some (.int x2), some (.int x3), some (.int i4), none] [] (M, z, u) Q := by
  intro m
  induction m with
  | zero =>
    intro j M i4 e1 e2 h hc
    obtain rfl : j = n := by omega
    refine he_iload (n := 29) (i := 4) (by decide +kernel) rfl ?_
    refine he_iload (n := 30) (i := 3) (by decide +kernel) rfl ?_
    refine he_cmpge_t (n := 33) (t := 54) (by decide +kernel) (by omega) ?_
    refine he_aload (n := 55) (i := 0) (by decide +kernel) rfl ?_
    refine he_iconst (n := 56) (c := 0) (by decide +kernel) (by decide) ?_
    intro c55 hc55
    refine hb_pfd (n := 59) (ci := 3) (j := 3) (t := 0) (ns := [1047, 16]) h.1 (by decide +kernel) rfl rfl (by decide) (.inl rfl) ?_
    generalize hM1 : hb_set M 20 3 c55 = M1
    have hm1 : mz_sh mz_GG M1 := by rw [← hM1]; exact hb_set_sh h.1 rfl rfl (by omega) (by omega)
    have eM1 : ∀ b j, b ≠ 20 ∨ j ≠ 3 → hv M1 b j = hv M b j := by intro b j h; rw [← hM1]; exact hb_set_n h
    have sM1 : hv M1 20 3 = c55.toInt := by rw [← hM1]; exact hb_set_v h.1 rfl (by decide)
    have wM1 : ∀ b, b ≠ 20 → M1 b = M b := by intro b h; rw [← hM1]; exact hb_set_c h
    refine he_aload (n := 60) (i := 0) (by decide +kernel) rfl ?_
    refine he_getr (n := 63) (ci := 3) (j := 2) (ns := [1046, 13]) (b := 22) hm1 (by decide +kernel) rfl rfl (by decide +kernel) ?_
    refine he_iconst (n := 64) (c := 1) (by decide +kernel) (by decide) ?_
    intro c63 hc63
    refine he_iconst (n := 65) (c := 0) (by decide +kernel) (by decide) ?_
    intro c64 hc64
    refine hb_sta (n := 66) (kind := 64) hm1 (by decide +kernel) rfl rfl (.inl rfl) (by omega) (show _ < (17 : Int) by omega) ?_
    generalize hM2 : hb_set M1 22 (c63.toInt.toNat) c64 = M2
    have hm2 : mz_sh mz_GG M2 := by rw [← hM2]; exact hb_set_sh hm1 rfl hb_at1 (by omega) (by omega)
    have eM2 : ∀ b j, b ≠ 22 ∨ j ≠ c63.toInt.toNat → hv M2 b j = hv M1 b j := by intro b j h; rw [← hM2]; exact hb_set_n h
    have sM2 : hv M2 22 (c63.toInt.toNat) = c64.toInt := by rw [← hM2]; exact hb_set_v hm1 rfl (show _ < 17 by omega)
    have wM2 : ∀ b, b ≠ 22 → M2 b = M1 b := by intro b h; rw [← hM2]; exact hb_set_c h
    refine he_iconst (n := 67) (c := 1) (by decide +kernel) (by decide) ?_
    intro c66 hc66
    refine he_istore (n := 69) (i := 4) (by decide +kernel) rfl ?_
    have hF1 := xk20_set h hM1 hm1 (by decide)
    have hF2 := xk20_set hF1 hM2 hm2 (by decide)
    refine xk20_l3 hfl h2 h3 hn hn2 K 15 1 M2 _ _ (by omega) (by omega) (by omega) hF2 (fun b b1 b2 => ?_) ?_ (fun t t1 t2 => ?_)
    · rw [eM2 _ _ (.inl (by decide)), eM1 _ _ (.inl (by decide))]
      exact hc b b2
    · rw [eM2 _ _ (.inl (by decide)), sM1]
      show _ = (0 : Int)
      omega
    · obtain rfl : t = 1 := by omega
      rw [show 1 = c63.toInt.toNat by omega, sM2, show c63.toInt.toNat = 1 by omega, xq_1]
      omega
  | succ m ih =>
    intro j M i4 e1 e2 h hc
    have hfj := hfl j (by omega)
    refine he_iload (n := 29) (i := 4) (by decide +kernel) rfl ?_
    refine he_iload (n := 30) (i := 3) (by decide +kernel) rfl ?_
    refine he_cmpge_f (n := 33) (t := 54) (by decide +kernel) (by omega) ?_
    refine he_aload (n := 34) (i := 0) (by decide +kernel) rfl ?_
    refine he_getr (n := 37) (ci := 3) (j := 0) (ns := [1042, 9]) (b := 21) h.1 (by decide +kernel) rfl rfl (by decide +kernel) ?_
    refine he_aload (n := 38) (i := 1) (by decide +kernel) rfl ?_
    refine he_iload (n := 39) (i := 2) (by decide +kernel) rfl ?_
    refine he_iload (n := 41) (i := 4) (by decide +kernel) rfl ?_
    refine he_iadd (n := 42) (by decide +kernel) (by omega) (by omega) ?_
    intro v41 hv41
    refine hb_ld (n := 43) (kind := 64) h.1 (by decide +kernel) rfl rfl (.inl rfl) (by omega) (show _ < (316 : Int) by omega) hb_at1 ?_
    intro v42 hv42 lv42 uv42
    have q42 : v42.toInt = fl j := by rw [hfj, ← hv42, hb_vc (h.2 11 (by omega)), show v41.toInt.toNat = fr + j by omega]
    obtain ⟨t, ht⟩ : ∃ t : Nat, fl j = (t : Int) := ⟨(fl j).toNat, by omega⟩
    have hct := hc t (by omega)
    have hcl := xc_le (f := fl) (n := j) (b := t)
    have hcz := xc_0 fl j t
    refine he_dup2 (n := 44) (by decide +kernel) ?_
    refine hb_ld (n := 45) (kind := 64) h.1 (by decide +kernel) rfl rfl (.inl rfl) (by omega) (show _ < (16 : Int) by omega) hb_at1 ?_
    intro v44 hv44 lv44 uv44
    have q44 : v44.toInt = xc fl j t := by rw [← hv44, show v42.toInt.toNat = t by omega]; exact hct
    refine he_iconst (n := 46) (c := 1) (by decide +kernel) (by decide) ?_
    intro c45 hc45
    refine he_iadd (n := 47) (by decide +kernel) (by omega) (by omega) ?_
    intro v46 hv46
    refine hb_sta (n := 48) (kind := 64) h.1 (by decide +kernel) rfl rfl (.inl rfl) (by omega) (show _ < (16 : Int) by omega) ?_
    generalize hM1 : hb_set M 21 (v42.toInt.toNat) v46 = M1
    have hm1 : mz_sh mz_GG M1 := by rw [← hM1]; exact hb_set_sh h.1 rfl hb_at1 (by omega) (by omega)
    have eM1 : ∀ b j, b ≠ 21 ∨ j ≠ v42.toInt.toNat → hv M1 b j = hv M b j := by intro b j h; rw [← hM1]; exact hb_set_n h
    have sM1 : hv M1 21 (v42.toInt.toNat) = v46.toInt := by rw [← hM1]; exact hb_set_v h.1 rfl (show _ < 16 by omega)
    have wM1 : ∀ b, b ≠ 21 → M1 b = M b := by intro b h; rw [← hM1]; exact hb_set_c h
    refine he_iinc (n := 51) (i := 4) (c := 1) (L' := fun v => [some (.ref (20)), some (.ref (11)), some (.int x2), some (.int x3), some (.int v), none]) (by decide +kernel) (by decide) rfl (fun _ => rfl) (by omega) (by omega) ?_
    intro i48 hi48
    refine he_goto (t := 27) (by decide +kernel) ?_
    refine ih (j + 1) M1 _ (by omega) (by omega) (xk20_set h hM1 hm1 (by decide)) (fun b b2 => ?_)
    rw [xc_s]
    by_cases hbt : b = t
    · subst hbt
      rw [if_pos ht, show b = v42.toInt.toNat by omega, sM1, show v42.toInt.toNat = b by omega]
      omega
    · rw [eM1 _ _ (.inr (by omega)), hc b b2, if_neg (by omega)]
      omega
theorem xk20_l1 {d z u fr n : Nat} {M0 : Nat → mq_C} {Q : (Option Value ⊕ Nat) → mq_S → Prop} {x2 x3 : Int32} {fl : Nat → Int} (hfl : ∀ i, i < n → fl i = hv M0 11 (fr + i)) (h2 : x2.toInt = (fr : Int)) (h3 : x3.toInt = (n : Int)) (hn : fr + n ≤ 316) (hn2 : n ≤ 30) (K : ∀ M : Nat → mq_C, xk20_F M0 M → xT M 20 n fl → hv M 20 3 = xf fl n → Q (.inl none) (M, z, u)) : ∀ (m j : Nat) (M : Nat → mq_C) (i4 : Int32), j + m = 16 → i4.toInt = (j : Int) → xk20_F M0 M → (∀ b : Nat, b < j → hv M 21 b = 0) → mq_R mq_PP d 63 3 [some (.ref 20), some (.ref 11), some (.int x2), some (.int x3), some (.int i4), none] [] (M, z, u) Q := by
  intro m
  induction m with
  | zero =>
    intro j M i4 e1 e2 h hc
    refine he_iload (n := 5) (i := 4) (by decide +kernel) rfl ?_
    refine he_iconst (n := 7) (c := 15) (by decide +kernel) (by decide) ?_
    intro c5 hc5
    refine he_cmpgt_t (n := 10) (t := 24) (by decide +kernel) (by omega) ?_
    refine he_iconst (n := 25) (c := 0) (by decide +kernel) (by decide) ?_
    intro c24 hc24
    refine he_istore (n := 27) (i := 4) (by decide +kernel) rfl ?_
    refine xk20_l2 hfl h2 h3 hn hn2 K n 0 M _ (by omega) (by omega) h (fun b b2 => ?_)
    rw [hc b (by omega)]
    rfl
  | succ m ih =>
    intro j M i4 e1 e2 h hc
    refine he_iload (n := 5) (i := 4) (by decide +kernel) rfl ?_
    refine he_iconst (n := 7) (c := 15) (by decide +kernel) (by decide) ?_
    intro c5 hc5
    refine he_cmpgt_f (n := 10) (t := 24) (by decide +kernel) (by omega) ?_
    refine he_aload (n := 11) (i := 0) (by decide +kernel) rfl ?_
    refine he_getr (n := 14) (ci := 3) (j := 0) (ns := [1042, 9]) (b := 21) h.1 (by decide +kernel) rfl rfl (by decide +kernel) ?_
    refine he_iload (n := 16) (i := 4) (by decide +kernel) rfl ?_
    refine he_iconst (n := 17) (c := 0) (by decide +kernel) (by decide) ?_
    intro c16 hc16
    refine hb_sta (n := 18) (kind := 64) h.1 (by decide +kernel) rfl rfl (.inl rfl) (by omega) (show _ < (16 : Int) by omega) ?_
    generalize hM1 : hb_set M 21 (i4.toInt.toNat) c16 = M1
    have hm1 : mz_sh mz_GG M1 := by rw [← hM1]; exact hb_set_sh h.1 rfl hb_at1 (by omega) (by omega)
    have eM1 : ∀ b j, b ≠ 21 ∨ j ≠ i4.toInt.toNat → hv M1 b j = hv M b j := by intro b j h; rw [← hM1]; exact hb_set_n h
    have sM1 : hv M1 21 (i4.toInt.toNat) = c16.toInt := by rw [← hM1]; exact hb_set_v h.1 rfl (show _ < 16 by omega)
    have wM1 : ∀ b, b ≠ 21 → M1 b = M b := by intro b h; rw [← hM1]; exact hb_set_c h
    refine he_iinc (n := 21) (i := 4) (c := 1) (L' := fun v => [some (.ref (20)), some (.ref (11)), some (.int x2), some (.int x3), some (.int v), none]) (by decide +kernel) (by decide) rfl (fun _ => rfl) (by omega) (by omega) ?_
    intro i18 hi18
    refine he_goto (t := 3) (by decide +kernel) ?_
    refine ih (j + 1) M1 _ (by omega) (by omega) (xk20_set h hM1 hm1 (by decide)) (fun b b2 => ?_)
    by_cases hbj : b = j
    · rw [hbj, show j = i4.toInt.toNat by omega, sM1]
      omega
    · rw [eM1 _ _ (.inr (by omega))]
      exact hc b (by omega)
theorem xj_build20 {d z u fr n : Nat} {M0 : Nat → mq_C} {Q : (Option Value ⊕ Nat) → mq_S → Prop} {x2 x3 : Int32} {fl : Nat → Int} (hfl : ∀ i, i < n → fl i = hv M0 11 (fr + i)) (h2 : x2.toInt = (fr : Int)) (h3 : x3.toInt = (n : Int)) (hn : fr + n ≤ 316) (hn2 : n ≤ 30) (hm : mz_sh mz_GG M0) (K : ∀ M : Nat → mq_C, xk20_F M0 M → xT M 20 n fl → hv M 20 3 = xf fl n → Q (.inl none) (M, z, u)) : mq_R mq_PP d 63 0 [some (.ref 20), some (.ref 11), some (.int x2), some (.int x3), none, none] [] (M0, z, u) Q := by
  refine he_iconst (n := 1) (c := 0) (by decide +kernel) (by decide) ?_
  intro c0 hc0
  refine he_istore (n := 3) (i := 4) (by decide +kernel) rfl ?_
  exact xk20_l1 hfl h2 h3 hn hn2 K 16 0 M0 _ (by omega) (by omega) ⟨hm, fun _ _ => rfl⟩ (fun b hb => absurd hb (by omega))
