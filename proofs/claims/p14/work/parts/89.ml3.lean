/-! The model's loads: goOn. -/
def hm_D (j k n : Nat) (M M' : Nat → mq_C) : Prop := hm_S M M' ∧ (∀ i, i ≠ k → hv M' 262 i = hv M 262 i) ∧ (∀ i, i < 32 → hm_bit (hv M' 262 k) i = (hm_bit (hv M 262 k) i && !decide (i = n))) ∧ (∀ i, i ≠ 32 * k + n → hv M' 261 i = hv M 261 i) ∧ ∀ i, i < 12 * j → hv M' 267 i = hv M 267 i
def hm_w (M : Nat → mq_C) : Prop := hv M 234 51 = 0 ∧ 0 ≤ hv M 234 50 ∨ 1 ≤ hv M 234 51
/-- a new frame stands on frame j -/
def hm_N (j : Nat) (M M' : Nat → mq_C) : Prop := hv M' 234 48 = (j : Int) + 2 ∧ 2 ≤ hv M' 267 (12 * j + 2) ∧ hv M' 267 (12 * j + 2) ≤ 4 ∧ hv M' 267 (12 * j) = hv M 267 (12 * j) ∧ hv M' 267 (12 * j + 1) = hv M 267 (12 * j + 1) ∧ hv M' 267 (12 * (j + 1)) = hv M 267 (12 * j) ∧ hv M' 267 (12 * (j + 1) + 2) = 0 ∧ ∀ i, i < 12 * j → hv M' 267 i = hv M 267 i
theorem hm_sp2 (k a j : Nat) (hk : k ≠ 24) (h : a = 261 ∨ a = 234 ∧ j = 41) : hsp k a j = false := by
  match k with
  | 0 | 1 | 2 | 3 | 4 | 5 | 6 | 7 | 8 | 9 | 10 | 11 | 12 | 13 | 14 | 15 | 16 | 17 | 18 | 19 | 20 | 21 | 22 | 23 | 24 | 25 | 26 | 27 | 28 | 29 => first | exact absurd rfl hk | (exact decide_eq_false (by omega))
  | n + 30 => rfl
theorem hm_rng {M : Nat → mq_C} (hm : mz_sh mz_GG M) {i : Nat} {lo hi : Int} (hi' : i < 1680) (hs : mz_at (64, 1680, 12, [(0, 0, 3), (0, 0, 31), (0, 0, 5), (0, 0, 3), (0, 0, 255), (0, 0, 255), (0, -1, 31), (0, -1, 31), (0, -1, 31), (0, -1, 127), (0, -1, 127), (0, -1, 127)]) i = (0, lo, hi)) : lo ≤ hv M 267 i ∧ hv M 267 i ≤ hi := by
  obtain ⟨m1, m2, m3⟩ := hm 267 _ rfl
  have hl : i < (M 267).2.length := by rw [m2]; exact hi'
  have hw : (M 267).2[i]? = some (M 267).2[i] := List.getElem?_eq_getElem hl
  generalize (M 267).2[i] = w at hw
  have hok := m3 _ _ hw
  have hok : mz_ok mz_GG (mz_at (64, 1680, 12, [(0, 0, 3), (0, 0, 31), (0, 0, 5), (0, 0, 3), (0, 0, 255), (0, 0, 255), (0, -1, 31), (0, -1, 31), (0, -1, 31), (0, -1, 127), (0, -1, 127), (0, -1, 127)]) i) w := hok
  rw [hs] at hok
  have e : hv M 267 i = hb_w mz_GG (some w) := by show hb_w mz_GG ((M 267).2[i]?) = _; rw [hw]
  rw [e]
  cases w with
  | int v => exact hok
  | _ => exact hok.elim
theorem hm_g27 {d z u j k n : Nat} {Q : (Option Value ⊕ Nat) → mq_S → Prop} {M : Nat → mq_C} {x1 x2 x3 : Int32} (hm : mz_sh mz_GG M) (hx : HX M) (hj : hv M 234 48 = (j : Int) + 1) (hj1 : j < 139) (p1 : x1.toInt = 12 * (j : Int)) (hk : hv M 267 (12 * j) = (k : Int)) (hn : hv M 267 (12 * j + 1) = (n : Int)) (q0 : 0 ≤ x3.toInt) (q3 : x3.toInt ≤ 3) (hp : x3.toInt < 3 → 0 ≤ hv M 267 (12 * j + 6 + x3.toInt.toNat)) (hdf : hv M 261 (32 * k + n) = -1)
    (KA : ∀ M' : Nat → mq_C, mz_sh mz_GG M' → hm_E M M' → hm_N j M M' → x3.toInt + 2 ≤ hv M' 267 (12 * j + 2) → Q (.inl none) (M', z, u))
    (KB : ∀ M' : Nat → mq_C, mz_sh mz_GG M' → HX M' → hm_D j k n M M' → hv M' 234 48 = (j : Int) → hm_w M' → Q (.inl none) (M', z, u)) : mq_R mq_PP (d + 1) 153 27 [some (.ref 234), some (.int x1), some (.int x2), some (.int x3), none, none, none] [] (M, z, u) Q := by
  have h9 : hv M 234 41 = hb_cnt (fun i => decide (0 ≤ hv M 261 i)) 128 := hx 24
  refine he_aload (n := 28) (i := 0) (by decide +kernel) rfl ?_
  refine he_getr (n := 31) (ci := 9) (j := 49) (ns := [4226, 107]) (b := 267) hm (by decide +kernel) rfl rfl (by decide +kernel) ?_
  refine he_iload (n := 32) (i := 1) (by decide +kernel) rfl ?_
  refine he_iconst (n := 33) (c := 2) (by decide +kernel) (by decide) ?_
  intro c32 hc32
  refine he_iadd (n := 34) (by decide +kernel) (by omega) (by omega) ?_
  intro v33 hv33
  refine he_iconst (n := 35) (c := 2) (by decide +kernel) (by decide) ?_
  intro c34 hc34
  refine he_iload (n := 36) (i := 3) (by decide +kernel) rfl ?_
  refine he_iadd (n := 37) (by decide +kernel) (by omega) (by omega) ?_
  intro v36 hv36
  refine hb_sta (n := 38) (kind := 64) hm (by decide +kernel) rfl rfl (.inl rfl) (by omega) (show _ < (1680 : Int) by omega) ?_
  generalize hM1 : hb_set M 267 (v33.toInt.toNat) v36 = M1
  have hm1 : mz_sh mz_GG M1 := by rw [← hM1]; exact hb_set_sh hm rfl (hm_f2 (by omega)) (by omega) (by omega)
  have eM1 : ∀ b j, b ≠ 267 ∨ j ≠ v33.toInt.toNat → hv M1 b j = hv M b j := by intro b j h; rw [← hM1]; exact hb_set_n h
  have sM1 : hv M1 267 (v33.toInt.toNat) = v36.toInt := by rw [← hM1]; exact hb_set_v hm rfl (show _ < 1680 by omega)
  have wM1 : ∀ b, b ≠ 267 → M1 b = M b := by intro b h; rw [← hM1]; exact hb_set_c h
  refine he_iload (n := 39) (i := 3) (by decide +kernel) rfl ?_
  refine he_iconst (n := 40) (c := 3) (by decide +kernel) (by decide) ?_
  intro c39 hc39
  by_cases h40 : c39.toInt ≤ x3.toInt
  · skip
    have hkn : k < 4 ∧ n < 32 := by
      refine ⟨?_, ?_⟩
      · have := (hm_rng hm (i := 12 * j) (by omega) (hm_f0 (by omega)))
        omega
      · have := (hm_rng hm (i := 12 * j + 1) (by omega) (hm_f1 (by omega)))
        omega
    have hlt : hv M 234 41 ≤ 127 := by
      rw [h9]
      have := hb_cnt_lt (p := fun i => decide (0 ≤ hv M 261 i)) (k := 32 * k + n) (by
        show decide (0 ≤ hv M 261 (32 * k + n)) = false
        rw [hdf]
        rfl) 128 (by omega)
      omega
    refine he_cmpge_t (n := 43) (t := 65) (by decide +kernel) (by omega) ?_
    refine he_aload (n := 66) (i := 0) (by decide +kernel) rfl ?_
    refine he_getr (n := 69) (ci := 9) (j := 49) (ns := [4226, 107]) (b := 267) hm1 (by decide +kernel) rfl rfl (by decide +kernel) ?_
    refine he_iload (n := 70) (i := 1) (by decide +kernel) rfl ?_
    refine hb_ld (n := 71) (kind := 64) hm1 (by decide +kernel) rfl rfl (.inl rfl) (by omega) (show _ < (1680 : Int) by omega) (hm_f0 (by omega)) ?_
    intro v70 hv70 lv70 uv70
    refine he_istore (n := 73) (i := 4) (by decide +kernel) rfl ?_
    refine he_aload (n := 74) (i := 0) (by decide +kernel) rfl ?_
    refine he_getr (n := 77) (ci := 9) (j := 49) (ns := [4226, 107]) (b := 267) hm1 (by decide +kernel) rfl rfl (by decide +kernel) ?_
    refine he_iload (n := 78) (i := 1) (by decide +kernel) rfl ?_
    refine he_iconst (n := 79) (c := 1) (by decide +kernel) (by decide) ?_
    intro c78 hc78
    refine he_iadd (n := 80) (by decide +kernel) (by omega) (by omega) ?_
    intro v79 hv79
    refine hb_ld (n := 81) (kind := 64) hm1 (by decide +kernel) rfl rfl (.inl rfl) (by omega) (show _ < (1680 : Int) by omega) (hm_f1 (by omega)) ?_
    intro v80 hv80 lv80 uv80
    refine he_istore (n := 83) (i := 5) (by decide +kernel) rfl ?_
    refine he_iconst (n := 85) (c := 8) (by decide +kernel) (by decide) ?_
    intro c83 hc83
    refine he_aload (n := 86) (i := 0) (by decide +kernel) rfl ?_
    refine hb_gfd (n := 89) (ci := 9) (j := 41) (ns := [4218, 318]) hm1 (by decide +kernel) rfl rfl (by decide) rfl ?_
    intro v86 hv86 lv86 uv86
    have q86 : v86.toInt = hv M 234 41 := by rw [← hv86, eM1 _ _ (.inl (by decide))]
    refine he_imul (n := 90) (p := 8 * v86.toInt) (by decide +kernel) (by rw [hc83]) (by omega) (by omega) ?_
    intro v89 hv89
    refine he_istore (n := 92) (i := 6) (by decide +kernel) rfl ?_
    refine he_aload (n := 93) (i := 0) (by decide +kernel) rfl ?_
    refine he_getr (n := 96) (ci := 9) (j := 42) (ns := [4219, 104]) (b := 266) hm1 (by decide +kernel) rfl rfl (by decide +kernel) ?_
    refine he_iload (n := 98) (i := 6) (by decide +kernel) rfl ?_
    refine he_iload (n := 100) (i := 5) (by decide +kernel) rfl ?_
    refine hb_sta (n := 101) (kind := 64) hm1 (by decide +kernel) rfl rfl (.inl rfl) (by omega) (show _ < (1024 : Int) by omega) ?_
    generalize hM2 : hb_set M1 266 (v89.toInt.toNat) v80 = M2
    have hm2 : mz_sh mz_GG M2 := by rw [← hM2]; exact hb_set_sh hm1 rfl (hl_tp0 (by omega)) (by omega) (by omega)
    have eM2 : ∀ b j, b ≠ 266 ∨ j ≠ v89.toInt.toNat → hv M2 b j = hv M1 b j := by intro b j h; rw [← hM2]; exact hb_set_n h
    have sM2 : hv M2 266 (v89.toInt.toNat) = v80.toInt := by rw [← hM2]; exact hb_set_v hm1 rfl (show _ < 1024 by omega)
    have wM2 : ∀ b, b ≠ 266 → M2 b = M1 b := by intro b h; rw [← hM2]; exact hb_set_c h
    refine he_aload (n := 102) (i := 0) (by decide +kernel) rfl ?_
    refine he_getr (n := 105) (ci := 9) (j := 42) (ns := [4219, 104]) (b := 266) hm2 (by decide +kernel) rfl rfl (by decide +kernel) ?_
    refine he_iload (n := 107) (i := 6) (by decide +kernel) rfl ?_
    refine he_iconst (n := 108) (c := 1) (by decide +kernel) (by decide) ?_
    intro c107 hc107
    refine he_iadd (n := 109) (by decide +kernel) (by omega) (by omega) ?_
    intro v108 hv108
    refine he_iload (n := 111) (i := 4) (by decide +kernel) rfl ?_
    refine hb_sta (n := 112) (kind := 64) hm2 (by decide +kernel) rfl rfl (.inl rfl) (by omega) (show _ < (1024 : Int) by omega) ?_
    generalize hM3 : hb_set M2 266 (v108.toInt.toNat) v70 = M3
    have hm3 : mz_sh mz_GG M3 := by rw [← hM3]; exact hb_set_sh hm2 rfl (hl_tp1 (by omega)) (by omega) (by omega)
    have eM3 : ∀ b j, b ≠ 266 ∨ j ≠ v108.toInt.toNat → hv M3 b j = hv M2 b j := by intro b j h; rw [← hM3]; exact hb_set_n h
    have sM3 : hv M3 266 (v108.toInt.toNat) = v70.toInt := by rw [← hM3]; exact hb_set_v hm2 rfl (show _ < 1024 by omega)
    have wM3 : ∀ b, b ≠ 266 → M3 b = M2 b := by intro b h; rw [← hM3]; exact hb_set_c h
    refine he_aload (n := 113) (i := 0) (by decide +kernel) rfl ?_
    refine he_getr (n := 116) (ci := 9) (j := 42) (ns := [4219, 104]) (b := 266) hm3 (by decide +kernel) rfl rfl (by decide +kernel) ?_
    refine he_iload (n := 118) (i := 6) (by decide +kernel) rfl ?_
    refine he_iconst (n := 119) (c := 2) (by decide +kernel) (by decide) ?_
    intro c118 hc118
    refine he_iadd (n := 120) (by decide +kernel) (by omega) (by omega) ?_
    intro v119 hv119
    refine he_aload (n := 121) (i := 0) (by decide +kernel) rfl ?_
    refine he_getr (n := 124) (ci := 9) (j := 49) (ns := [4226, 107]) (b := 267) hm3 (by decide +kernel) rfl rfl (by decide +kernel) ?_
    refine he_iload (n := 125) (i := 1) (by decide +kernel) rfl ?_
    refine he_iconst (n := 126) (c := 3) (by decide +kernel) (by decide) ?_
    intro c125 hc125
    refine he_iadd (n := 127) (by decide +kernel) (by omega) (by omega) ?_
    intro v126 hv126
    refine hb_ld (n := 128) (kind := 64) hm3 (by decide +kernel) rfl rfl (.inl rfl) (by omega) (show _ < (1680 : Int) by omega) (hm_f3 (by omega)) ?_
    intro v127 hv127 lv127 uv127
    refine hb_sta (n := 129) (kind := 64) hm3 (by decide +kernel) rfl rfl (.inl rfl) (by omega) (show _ < (1024 : Int) by omega) ?_
    generalize hM4 : hb_set M3 266 (v119.toInt.toNat) v127 = M4
    have hm4 : mz_sh mz_GG M4 := by rw [← hM4]; exact hb_set_sh hm3 rfl (hl_tp2 (by omega)) (by omega) (by omega)
    have eM4 : ∀ b j, b ≠ 266 ∨ j ≠ v119.toInt.toNat → hv M4 b j = hv M3 b j := by intro b j h; rw [← hM4]; exact hb_set_n h
    have sM4 : hv M4 266 (v119.toInt.toNat) = v127.toInt := by rw [← hM4]; exact hb_set_v hm3 rfl (show _ < 1024 by omega)
    have wM4 : ∀ b, b ≠ 266 → M4 b = M3 b := by intro b h; rw [← hM4]; exact hb_set_c h
    refine he_aload (n := 130) (i := 0) (by decide +kernel) rfl ?_
    refine he_getr (n := 133) (ci := 9) (j := 42) (ns := [4219, 104]) (b := 266) hm4 (by decide +kernel) rfl rfl (by decide +kernel) ?_
    refine he_iload (n := 135) (i := 6) (by decide +kernel) rfl ?_
    refine he_iconst (n := 136) (c := 3) (by decide +kernel) (by decide) ?_
    intro c135 hc135
    refine he_iadd (n := 137) (by decide +kernel) (by omega) (by omega) ?_
    intro v136 hv136
    refine he_aload (n := 138) (i := 0) (by decide +kernel) rfl ?_
    refine he_getr (n := 141) (ci := 9) (j := 49) (ns := [4226, 107]) (b := 267) hm4 (by decide +kernel) rfl rfl (by decide +kernel) ?_
    refine he_iload (n := 142) (i := 1) (by decide +kernel) rfl ?_
    refine he_iconst (n := 144) (c := 9) (by decide +kernel) (by decide) ?_
    intro c142 hc142
    refine he_iadd (n := 145) (by decide +kernel) (by omega) (by omega) ?_
    intro v144 hv144
    refine hb_ld (n := 146) (kind := 64) hm4 (by decide +kernel) rfl rfl (.inl rfl) (by omega) (show _ < (1680 : Int) by omega) (hm_f9 (by omega)) ?_
    intro v145 hv145 lv145 uv145
    refine hb_sta (n := 147) (kind := 64) hm4 (by decide +kernel) rfl rfl (.inl rfl) (by omega) (show _ < (1024 : Int) by omega) ?_
    generalize hM5 : hb_set M4 266 (v136.toInt.toNat) v145 = M5
    have hm5 : mz_sh mz_GG M5 := by rw [← hM5]; exact hb_set_sh hm4 rfl (hl_tp3 (by omega) (by omega)) (by omega) (by omega)
    have eM5 : ∀ b j, b ≠ 266 ∨ j ≠ v136.toInt.toNat → hv M5 b j = hv M4 b j := by intro b j h; rw [← hM5]; exact hb_set_n h
    have sM5 : hv M5 266 (v136.toInt.toNat) = v145.toInt := by rw [← hM5]; exact hb_set_v hm4 rfl (show _ < 1024 by omega)
    have wM5 : ∀ b, b ≠ 266 → M5 b = M4 b := by intro b h; rw [← hM5]; exact hb_set_c h
    refine he_aload (n := 148) (i := 0) (by decide +kernel) rfl ?_
    refine he_getr (n := 151) (ci := 9) (j := 42) (ns := [4219, 104]) (b := 266) hm5 (by decide +kernel) rfl rfl (by decide +kernel) ?_
    refine he_iload (n := 153) (i := 6) (by decide +kernel) rfl ?_
    refine he_iconst (n := 154) (c := 4) (by decide +kernel) (by decide) ?_
    intro c153 hc153
    refine he_iadd (n := 155) (by decide +kernel) (by omega) (by omega) ?_
    intro v154 hv154
    refine he_aload (n := 156) (i := 0) (by decide +kernel) rfl ?_
    refine he_getr (n := 159) (ci := 9) (j := 49) (ns := [4226, 107]) (b := 267) hm5 (by decide +kernel) rfl rfl (by decide +kernel) ?_
    refine he_iload (n := 160) (i := 1) (by decide +kernel) rfl ?_
    refine he_iconst (n := 162) (c := 10) (by decide +kernel) (by decide) ?_
    intro c160 hc160
    refine he_iadd (n := 163) (by decide +kernel) (by omega) (by omega) ?_
    intro v162 hv162
    refine hb_ld (n := 164) (kind := 64) hm5 (by decide +kernel) rfl rfl (.inl rfl) (by omega) (show _ < (1680 : Int) by omega) (hm_f10 (by omega)) ?_
    intro v163 hv163 lv163 uv163
    refine hb_sta (n := 165) (kind := 64) hm5 (by decide +kernel) rfl rfl (.inl rfl) (by omega) (show _ < (1024 : Int) by omega) ?_
    generalize hM6 : hb_set M5 266 (v154.toInt.toNat) v163 = M6
    have hm6 : mz_sh mz_GG M6 := by rw [← hM6]; exact hb_set_sh hm5 rfl (hl_tp3 (by omega) (by omega)) (by omega) (by omega)
    have eM6 : ∀ b j, b ≠ 266 ∨ j ≠ v154.toInt.toNat → hv M6 b j = hv M5 b j := by intro b j h; rw [← hM6]; exact hb_set_n h
    have sM6 : hv M6 266 (v154.toInt.toNat) = v163.toInt := by rw [← hM6]; exact hb_set_v hm5 rfl (show _ < 1024 by omega)
    have wM6 : ∀ b, b ≠ 266 → M6 b = M5 b := by intro b h; rw [← hM6]; exact hb_set_c h
    refine he_aload (n := 166) (i := 0) (by decide +kernel) rfl ?_
    refine he_getr (n := 169) (ci := 9) (j := 42) (ns := [4219, 104]) (b := 266) hm6 (by decide +kernel) rfl rfl (by decide +kernel) ?_
    refine he_iload (n := 171) (i := 6) (by decide +kernel) rfl ?_
    refine he_iconst (n := 172) (c := 5) (by decide +kernel) (by decide) ?_
    intro c171 hc171
    refine he_iadd (n := 173) (by decide +kernel) (by omega) (by omega) ?_
    intro v172 hv172
    refine he_aload (n := 174) (i := 0) (by decide +kernel) rfl ?_
    refine he_getr (n := 177) (ci := 9) (j := 49) (ns := [4226, 107]) (b := 267) hm6 (by decide +kernel) rfl rfl (by decide +kernel) ?_
    refine he_iload (n := 178) (i := 1) (by decide +kernel) rfl ?_
    refine he_iconst (n := 180) (c := 11) (by decide +kernel) (by decide) ?_
    intro c178 hc178
    refine he_iadd (n := 181) (by decide +kernel) (by omega) (by omega) ?_
    intro v180 hv180
    refine hb_ld (n := 182) (kind := 64) hm6 (by decide +kernel) rfl rfl (.inl rfl) (by omega) (show _ < (1680 : Int) by omega) (hm_f11 (by omega)) ?_
    intro v181 hv181 lv181 uv181
    refine hb_sta (n := 183) (kind := 64) hm6 (by decide +kernel) rfl rfl (.inl rfl) (by omega) (show _ < (1024 : Int) by omega) ?_
    generalize hM7 : hb_set M6 266 (v172.toInt.toNat) v181 = M7
    have hm7 : mz_sh mz_GG M7 := by rw [← hM7]; exact hb_set_sh hm6 rfl (hl_tp3 (by omega) (by omega)) (by omega) (by omega)
    have eM7 : ∀ b j, b ≠ 266 ∨ j ≠ v172.toInt.toNat → hv M7 b j = hv M6 b j := by intro b j h; rw [← hM7]; exact hb_set_n h
    have sM7 : hv M7 266 (v172.toInt.toNat) = v181.toInt := by rw [← hM7]; exact hb_set_v hm6 rfl (show _ < 1024 by omega)
    have wM7 : ∀ b, b ≠ 266 → M7 b = M6 b := by intro b h; rw [← hM7]; exact hb_set_c h
    refine he_aload (n := 184) (i := 0) (by decide +kernel) rfl ?_
    refine he_getr (n := 187) (ci := 9) (j := 42) (ns := [4219, 104]) (b := 266) hm7 (by decide +kernel) rfl rfl (by decide +kernel) ?_
    refine he_iload (n := 189) (i := 6) (by decide +kernel) rfl ?_
    refine he_iconst (n := 191) (c := 6) (by decide +kernel) (by decide) ?_
    intro c189 hc189
    refine he_iadd (n := 192) (by decide +kernel) (by omega) (by omega) ?_
    intro v191 hv191
    refine he_aload (n := 193) (i := 0) (by decide +kernel) rfl ?_
    refine he_getr (n := 196) (ci := 9) (j := 49) (ns := [4226, 107]) (b := 267) hm7 (by decide +kernel) rfl rfl (by decide +kernel) ?_
    refine he_iload (n := 197) (i := 1) (by decide +kernel) rfl ?_
    refine he_iconst (n := 198) (c := 4) (by decide +kernel) (by decide) ?_
    intro c197 hc197
    refine he_iadd (n := 199) (by decide +kernel) (by omega) (by omega) ?_
    intro v198 hv198
    refine hb_ld (n := 200) (kind := 64) hm7 (by decide +kernel) rfl rfl (.inl rfl) (by omega) (show _ < (1680 : Int) by omega) (hm_f4 (by omega)) ?_
    intro v199 hv199 lv199 uv199
    refine hb_sta (n := 201) (kind := 64) hm7 (by decide +kernel) rfl rfl (.inl rfl) (by omega) (show _ < (1024 : Int) by omega) ?_
    generalize hM8 : hb_set M7 266 (v191.toInt.toNat) v199 = M8
    have hm8 : mz_sh mz_GG M8 := by rw [← hM8]; exact hb_set_sh hm7 rfl (hl_tp6 (by omega)) (by omega) (by omega)
    have eM8 : ∀ b j, b ≠ 266 ∨ j ≠ v191.toInt.toNat → hv M8 b j = hv M7 b j := by intro b j h; rw [← hM8]; exact hb_set_n h
    have sM8 : hv M8 266 (v191.toInt.toNat) = v199.toInt := by rw [← hM8]; exact hb_set_v hm7 rfl (show _ < 1024 by omega)
    have wM8 : ∀ b, b ≠ 266 → M8 b = M7 b := by intro b h; rw [← hM8]; exact hb_set_c h
    refine he_aload (n := 202) (i := 0) (by decide +kernel) rfl ?_
    refine he_getr (n := 205) (ci := 9) (j := 42) (ns := [4219, 104]) (b := 266) hm8 (by decide +kernel) rfl rfl (by decide +kernel) ?_
    refine he_iload (n := 207) (i := 6) (by decide +kernel) rfl ?_
    refine he_iconst (n := 209) (c := 7) (by decide +kernel) (by decide) ?_
    intro c207 hc207
    refine he_iadd (n := 210) (by decide +kernel) (by omega) (by omega) ?_
    intro v209 hv209
    refine he_aload (n := 211) (i := 0) (by decide +kernel) rfl ?_
    refine he_getr (n := 214) (ci := 9) (j := 49) (ns := [4226, 107]) (b := 267) hm8 (by decide +kernel) rfl rfl (by decide +kernel) ?_
    refine he_iload (n := 215) (i := 1) (by decide +kernel) rfl ?_
    refine he_iconst (n := 216) (c := 5) (by decide +kernel) (by decide) ?_
    intro c215 hc215
    refine he_iadd (n := 217) (by decide +kernel) (by omega) (by omega) ?_
    intro v216 hv216
    refine hb_ld (n := 218) (kind := 64) hm8 (by decide +kernel) rfl rfl (.inl rfl) (by omega) (show _ < (1680 : Int) by omega) (hm_f5 (by omega)) ?_
    intro v217 hv217 lv217 uv217
    refine hb_sta (n := 219) (kind := 64) hm8 (by decide +kernel) rfl rfl (.inl rfl) (by omega) (show _ < (1024 : Int) by omega) ?_
    generalize hM9 : hb_set M8 266 (v209.toInt.toNat) v217 = M9
    have hm9 : mz_sh mz_GG M9 := by rw [← hM9]; exact hb_set_sh hm8 rfl (hl_tp7 (by omega)) (by omega) (by omega)
    have eM9 : ∀ b j, b ≠ 266 ∨ j ≠ v209.toInt.toNat → hv M9 b j = hv M8 b j := by intro b j h; rw [← hM9]; exact hb_set_n h
    have sM9 : hv M9 266 (v209.toInt.toNat) = v217.toInt := by rw [← hM9]; exact hb_set_v hm8 rfl (show _ < 1024 by omega)
    have wM9 : ∀ b, b ≠ 266 → M9 b = M8 b := by intro b h; rw [← hM9]; exact hb_set_c h
    refine he_aload (n := 220) (i := 0) (by decide +kernel) rfl ?_
    refine he_getr (n := 223) (ci := 9) (j := 35) (ns := [4212, 89]) (b := 261) hm9 (by decide +kernel) rfl rfl (by decide +kernel) ?_
    refine he_iconst (n := 225) (c := 32) (by decide +kernel) (by decide) ?_
    intro c223 hc223
    refine he_iload (n := 227) (i := 4) (by decide +kernel) rfl ?_
    refine he_imul (n := 228) (p := 32 * v70.toInt) (by decide +kernel) (by rw [hc223]) (by omega) (by omega) ?_
    intro v227 hv227
    refine he_iload (n := 230) (i := 5) (by decide +kernel) rfl ?_
    refine he_iadd (n := 231) (by decide +kernel) (by omega) (by omega) ?_
    intro v230 hv230
    refine he_aload (n := 232) (i := 0) (by decide +kernel) rfl ?_
    refine hb_gfd (n := 235) (ci := 9) (j := 41) (ns := [4218, 318]) hm9 (by decide +kernel) rfl rfl (by decide) rfl ?_
    intro v232 hv232 lv232 uv232
    have q232 : v232.toInt = hv M 234 41 := by rw [← hv232, eM9 _ _ (.inl (by decide)), eM8 _ _ (.inl (by decide)), eM7 _ _ (.inl (by decide)), eM6 _ _ (.inl (by decide)), eM5 _ _ (.inl (by decide)), eM4 _ _ (.inl (by decide)), eM3 _ _ (.inl (by decide)), eM2 _ _ (.inl (by decide)), eM1 _ _ (.inl (by decide))]
    refine hb_sta (n := 236) (kind := 64) hm9 (by decide +kernel) rfl rfl (.inl rfl) (by omega) (show _ < (128 : Int) by omega) ?_
    generalize hM10 : hb_set M9 261 (v230.toInt.toNat) v232 = M10
    have hm10 : mz_sh mz_GG M10 := by rw [← hM10]; exact hb_set_sh hm9 rfl hb_at1 (by omega) (by omega)
    have eM10 : ∀ b j, b ≠ 261 ∨ j ≠ v230.toInt.toNat → hv M10 b j = hv M9 b j := by intro b j h; rw [← hM10]; exact hb_set_n h
    have sM10 : hv M10 261 (v230.toInt.toNat) = v232.toInt := by rw [← hM10]; exact hb_set_v hm9 rfl (show _ < 128 by omega)
    have wM10 : ∀ b, b ≠ 261 → M10 b = M9 b := by intro b h; rw [← hM10]; exact hb_set_c h
    refine he_aload (n := 237) (i := 0) (by decide +kernel) rfl ?_
    refine he_getr (n := 240) (ci := 9) (j := 36) (ns := [4213, 92]) (b := 262) hm10 (by decide +kernel) rfl rfl (by decide +kernel) ?_
    refine he_iload (n := 242) (i := 4) (by decide +kernel) rfl ?_
    refine he_aload (n := 243) (i := 0) (by decide +kernel) rfl ?_
    refine he_getr (n := 246) (ci := 9) (j := 36) (ns := [4213, 92]) (b := 262) hm10 (by decide +kernel) rfl rfl (by decide +kernel) ?_
    refine he_iload (n := 248) (i := 4) (by decide +kernel) rfl ?_
    refine hb_ld (n := 249) (kind := 64) hm10 (by decide +kernel) rfl rfl (.inl rfl) (by omega) (show _ < (4 : Int) by omega) hb_at1 ?_
    intro v248 hv248 lv248 uv248
    refine he_iconst (n := 250) (c := 1) (by decide +kernel) (by decide) ?_
    intro c249 hc249
    refine he_iload (n := 252) (i := 5) (by decide +kernel) rfl ?_
    refine he_ex2 (o := 15) (n := 253) (by decide +kernel) rfl ?_
    intro v252 hv252
    have ev252 : v252 = c249 <<< (v80 &&& 31) := hv252
    have bv252 := mz_i32 v252
    refine he_iconst (n := 254) (c := -1) (by decide +kernel) (by decide) ?_
    intro c253 hc253
    refine he_ex2 (o := 14) (n := 255) (by decide +kernel) rfl ?_
    intro v254 hv254
    have ev254 : v254 = v252 ^^^ c253 := hv254
    have bv254 := mz_i32 v254
    refine he_ex2 (o := 12) (n := 256) (by decide +kernel) rfl ?_
    intro v255 hv255
    have ev255 : v255 = v248 &&& v254 := hv255
    have bv255 := mz_i32 v255
    refine hb_sta (n := 257) (kind := 64) hm10 (by decide +kernel) rfl rfl (.inl rfl) (by omega) (show _ < (4 : Int) by omega) ?_
    generalize hM11 : hb_set M10 262 (v70.toInt.toNat) v255 = M11
    have hm11 : mz_sh mz_GG M11 := by rw [← hM11]; exact hb_set_sh hm10 rfl hb_at1 (by omega) (by omega)
    have eM11 : ∀ b j, b ≠ 262 ∨ j ≠ v70.toInt.toNat → hv M11 b j = hv M10 b j := by intro b j h; rw [← hM11]; exact hb_set_n h
    have sM11 : hv M11 262 (v70.toInt.toNat) = v255.toInt := by rw [← hM11]; exact hb_set_v hm10 rfl (show _ < 4 by omega)
    have wM11 : ∀ b, b ≠ 262 → M11 b = M10 b := by intro b h; rw [← hM11]; exact hb_set_c h
    refine he_aload (n := 258) (i := 0) (by decide +kernel) rfl ?_
    refine he_dup_r (n := 259) (by decide +kernel) ?_
    refine hb_gfd (n := 262) (ci := 9) (j := 41) (ns := [4218, 318]) hm11 (by decide +kernel) rfl rfl (by decide) rfl ?_
    intro v259 hv259 lv259 uv259
    have q259 : v259.toInt = hv M 234 41 := by rw [← hv259, eM11 _ _ (.inl (by decide)), eM10 _ _ (.inl (by decide)), eM9 _ _ (.inl (by decide)), eM8 _ _ (.inl (by decide)), eM7 _ _ (.inl (by decide)), eM6 _ _ (.inl (by decide)), eM5 _ _ (.inl (by decide)), eM4 _ _ (.inl (by decide)), eM3 _ _ (.inl (by decide)), eM2 _ _ (.inl (by decide)), eM1 _ _ (.inl (by decide))]
    refine he_iconst (n := 263) (c := 1) (by decide +kernel) (by decide) ?_
    intro c262 hc262
    refine he_iadd (n := 264) (by decide +kernel) (by omega) (by omega) ?_
    intro v263 hv263
    refine hb_pfd (n := 267) (ci := 9) (j := 41) (t := 0) (ns := [4218, 318]) hm11 (by decide +kernel) rfl rfl (by decide) (.inl rfl) ?_
    generalize hM12 : hb_set M11 234 41 v263 = M12
    have hm12 : mz_sh mz_GG M12 := by rw [← hM12]; exact hb_set_sh hm11 rfl rfl (by omega) (by omega)
    have eM12 : ∀ b j, b ≠ 234 ∨ j ≠ 41 → hv M12 b j = hv M11 b j := by intro b j h; rw [← hM12]; exact hb_set_n h
    have sM12 : hv M12 234 41 = v263.toInt := by rw [← hM12]; exact hb_set_v hm11 rfl (by decide)
    have wM12 : ∀ b, b ≠ 234 → M12 b = M11 b := by intro b h; rw [← hM12]; exact hb_set_c h
    refine he_aload (n := 268) (i := 0) (by decide +kernel) rfl ?_
    refine he_aload (n := 269) (i := 0) (by decide +kernel) rfl ?_
    refine hb_gfd (n := 272) (ci := 9) (j := 41) (ns := [4218, 318]) hm12 (by decide +kernel) rfl rfl (by decide) rfl ?_
    intro v269 hv269 lv269 uv269
    have q269 : v269.toInt = hv M 234 41 + 1 := by rw [← hv269, sM12]; omega
    refine he_iconst (n := 273) (c := 1) (by decide +kernel) (by decide) ?_
    intro c272 hc272
    refine he_isub (n := 274) (by decide +kernel) (by omega) (by omega) ?_
    intro v273 hv273
    refine he_iconst (n := 275) (c := 0) (by decide +kernel) (by decide) ?_
    intro c274 hc274
    refine he_iconst (n := 276) (c := -1) (by decide +kernel) (by decide) ?_
    intro c275 hc275
    refine he_v3 (n := 279) (j := 148) (ci := 9) (mx := 4) (ns := [6014, 6016, 70, 283]) (by decide +kernel) ((hb_kd (a := 234) hm12 rfl).trans rfl) (by decide) (by show 4 ≤ 4; omega) ?_
    rw [mq_e148]
    have q70 : v70.toInt = (k : Int) := by
      rw [← hv70, eM1 _ _ (.inr (by omega)), show x1.toInt.toNat = 12 * j by omega]
      exact hk
    have q80 : v80.toInt = (n : Int) := by
      rw [← hv80, eM1 _ _ (.inr (by omega)), show v79.toInt.toNat = 12 * j + 1 by omega]
      exact hn
    have eN : ∀ a i, a ≠ 261 → a ≠ 262 → a ≠ 266 → a ≠ 267 → (a ≠ 234 ∨ i ≠ 41) → hv M12 a i = hv M a i := by
      intro a i h1 h2 h3 h4 h5
      rw [eM12 _ _ h5, eM11 _ _ (.inl h2), eM10 _ _ (.inl h1), eM9 _ _ (.inl h3), eM8 _ _ (.inl h3), eM7 _ _ (.inl h3), eM6 _ _ (.inl h3), eM5 _ _ (.inl h3), eM4 _ _ (.inl h3), eM3 _ _ (.inl h3), eM2 _ _ (.inl h3), eM1 _ _ (.inl h4)]
    have wN : ∀ a, a ≠ 261 → a ≠ 262 → a ≠ 266 → a ≠ 267 → a ≠ 234 → M12 a = M a := by
      intro a h1 h2 h3 h4 h5
      rw [wM12 _ h5, wM11 _ h2, wM10 _ h1, wM9 _ h3, wM8 _ h3, wM7 _ h3, wM6 _ h3, wM5 _ h3, wM4 _ h3, wM3 _ h3, wM2 _ h3, wM1 _ h4]
    have hS : hm_S M M12 := by
      refine ⟨fun a _ hw => wN a ?_ ?_ ?_ ?_ ?_, fun a ha => wN a (by omega) (by omega) (by omega) (by omega) (by omega), ?_⟩
      iterate 5
        · rintro rfl
          cases hw
      · refine hb_same_of (fun t => decide (t.1 ≠ 261 ∧ t.1 ≠ 262 ∧ t.1 ≠ 266 ∧ t.1 ≠ 267 ∧ (t.1 ≠ 234 ∨ t.2 ≠ 41))) ?_ (by decide +kernel)
        intro t ht
        obtain ⟨h1, h2, h3, h4, h5⟩ := of_decide_eq_true ht
        exact eN _ _ h1 h2 h3 h4 h5
    have h261 : ∀ i, i ≠ 32 * k + n → hv M12 261 i = hv M 261 i := by
      intro i hi
      rw [eM12 _ _ (.inl (by decide)), eM11 _ _ (.inl (by decide)), eM10 _ _ (.inr (by omega)), eM9 _ _ (.inl (by decide)), eM8 _ _ (.inl (by decide)), eM7 _ _ (.inl (by decide)), eM6 _ _ (.inl (by decide)), eM5 _ _ (.inl (by decide)), eM4 _ _ (.inl (by decide)), eM3 _ _ (.inl (by decide)), eM2 _ _ (.inl (by decide)), eM1 _ _ (.inl (by decide))]
    have h261k : 0 ≤ hv M12 261 (32 * k + n) := by
      rw [eM12 _ _ (.inl (by decide)), eM11 _ _ (.inl (by decide)), show 32 * k + n = v230.toInt.toNat by omega, sM10]
      omega
    have h262 : ∀ i, i ≠ k → hv M12 262 i = hv M 262 i := by
      intro i hi
      rw [eM12 _ _ (.inl (by decide)), eM11 _ _ (.inr (by omega)), eM10 _ _ (.inl (by decide)), eM9 _ _ (.inl (by decide)), eM8 _ _ (.inl (by decide)), eM7 _ _ (.inl (by decide)), eM6 _ _ (.inl (by decide)), eM5 _ _ (.inl (by decide)), eM4 _ _ (.inl (by decide)), eM3 _ _ (.inl (by decide)), eM2 _ _ (.inl (by decide)), eM1 _ _ (.inl (by decide))]
    have h262k : ∀ i, i < 32 → hm_bit (hv M12 262 k) i = (hm_bit (hv M 262 k) i && !decide (i = n)) := by
      intro i hi
      have e1 : hv M12 262 k = v255.toInt := by
        rw [eM12 _ _ (.inl (by decide)), show k = v70.toInt.toNat by omega]
        exact sM11
      have e2 : hv M 262 k = v248.toInt := by
        rw [← hv248, show v70.toInt.toNat = k by omega, eM10 _ _ (.inl (by decide)), eM9 _ _ (.inl (by decide)), eM8 _ _ (.inl (by decide)), eM7 _ _ (.inl (by decide)), eM6 _ _ (.inl (by decide)), eM5 _ _ (.inl (by decide)), eM4 _ _ (.inl (by decide)), eM3 _ _ (.inl (by decide)), eM2 _ _ (.inl (by decide)), eM1 _ _ (.inl (by decide))]
      rw [e1, e2, hm_clr (n := v80) (by omega) (by omega) hc249 hc253 ev252 ev254 ev255 i hi, show v80.toInt.toNat = n by omega]
    have h267 : ∀ i, i < 12 * j → hv M12 267 i = hv M 267 i := by
      intro i hi
      rw [eM12 _ _ (.inl (by decide)), eM11 _ _ (.inl (by decide)), eM10 _ _ (.inl (by decide)), eM9 _ _ (.inl (by decide)), eM8 _ _ (.inl (by decide)), eM7 _ _ (.inl (by decide)), eM6 _ _ (.inl (by decide)), eM5 _ _ (.inl (by decide)), eM4 _ _ (.inl (by decide)), eM3 _ _ (.inl (by decide)), eM2 _ _ (.inl (by decide)), eM1 _ _ (.inr (by omega))]
    have hxN : HX M12 := by
      intro t
      by_cases e : t = 24
      · subst e
        show hv M12 234 41 = hb_cnt (fun i => decide (0 ≤ hv M12 261 i)) 128
        rw [hb_cnt_u (p := fun i => decide (0 ≤ hv M 261 i)) (k := 32 * k + n) (by omega) ?_ ?_ ?_, ← h9, sM12]
        · omega
        · show decide (0 ≤ hv M 261 (32 * k + n)) = false
          rw [hdf]
          rfl
        · exact decide_eq_true h261k
        · intro i _ hi
          show decide (0 ≤ hv M12 261 i) = decide (0 ≤ hv M 261 i)
          rw [h261 i hi]
      · refine hxk_c (fun a i hs => ?_) (hx t)
        by_cases h1 : a = 261 ∨ a = 234 ∧ i = 41
        · rw [hm_sp2 t a i e h1] at hs
          cases hs
        · by_cases h2 : a = 262 ∨ a = 266 ∨ a = 267
          · rw [hm_sp t a i (by omega)] at hs
            cases hs
          · exact eN a i (by omega) (by omega) (by omega) (by omega) (by omega)
    have hjN : hv M12 234 48 = (j : Int) + 1 := by
      rw [eN _ _ (by decide) (by decide) (by decide) (by decide) (.inr (by decide))]
      exact hj
    refine hm_end (j := j) hm12 hjN (by omega) (by omega) (by omega) (by omega) (by omega) (by omega) ?_
    intro M' g1 g2 g3 g4 g5 g6
    show mq_R mq_PP (d + 1) 153 279 _ [] (M', z, u) Q
    refine he_ret (by decide +kernel) ?_
    refine KB M' g1 (hm_Ex g2 hxN) ⟨hm_St hS (hm_ES g2), fun i hi => ?_, fun i hi => ?_, fun i hi => ?_, fun i hi => ?_⟩ g4 (.inl ⟨by omega, by omega⟩)
    · rw [hb_vc (g2.1 262 (by decide) (by decide))]
      exact h262 i hi
    · rw [hb_vc (g2.1 262 (by decide) (by decide))]
      exact h262k i hi
    · rw [hb_vc (g2.1 261 (by decide) (by decide))]
      exact h261 i hi
    · rw [hb_vc g3]
      exact h267 i hi
  · skip
    refine he_cmpge_f (n := 43) (t := 65) (by decide +kernel) (by omega) ?_
    refine he_aload (n := 44) (i := 0) (by decide +kernel) rfl ?_
    refine he_aload (n := 45) (i := 0) (by decide +kernel) rfl ?_
    refine he_getr (n := 48) (ci := 9) (j := 49) (ns := [4226, 107]) (b := 267) hm1 (by decide +kernel) rfl rfl (by decide +kernel) ?_
    refine he_iload (n := 49) (i := 1) (by decide +kernel) rfl ?_
    refine hb_ld (n := 50) (kind := 64) hm1 (by decide +kernel) rfl rfl (.inl rfl) (by omega) (show _ < (1680 : Int) by omega) (hm_f0 (by omega)) ?_
    intro v49 hv49 lv49 uv49
    refine he_aload (n := 51) (i := 0) (by decide +kernel) rfl ?_
    refine he_getr (n := 54) (ci := 9) (j := 49) (ns := [4226, 107]) (b := 267) hm1 (by decide +kernel) rfl rfl (by decide +kernel) ?_
    refine he_iload (n := 55) (i := 1) (by decide +kernel) rfl ?_
    refine he_iconst (n := 57) (c := 6) (by decide +kernel) (by decide) ?_
    intro c55 hc55
    refine he_iadd (n := 58) (by decide +kernel) (by omega) (by omega) ?_
    intro v57 hv57
    refine he_iload (n := 59) (i := 3) (by decide +kernel) rfl ?_
    refine he_iadd (n := 60) (by decide +kernel) (by omega) (by omega) ?_
    intro v59 hv59
    refine hb_ld (n := 61) (kind := 64) hm1 (by decide +kernel) rfl rfl (.inl rfl) (by omega) (show _ < (1680 : Int) by omega) (hm_f68 (by omega) (by omega)) ?_
    intro v60 hv60 lv60 uv60
    have q60 : v60.toInt = hv M 267 (12 * j + 6 + x3.toInt.toNat) := by
      rw [← hv60, eM1 _ _ (.inr (by omega))]
      congr 1
      omega
    have hp' := hp (by omega)
    refine he_v2 (n := 64) (j := 147) (ci := 9) (mx := 4) (ns := [6006, 6008, 68, 287]) (by decide +kernel) ((hb_kd (a := 234) hm1 rfl).trans rfl) (by decide) (by show 3 ≤ 4; omega) ?_
    rw [mq_e147]
    refine hm_begin (j := j + 1) hm1 ?_ (by omega) (by omega) (by omega) (by omega) (by omega) ?_
    · rw [eM1 _ _ (.inl (by decide)), hj]
      omega
    intro M' g1 g2 g3 g4 g5 g6 g7
    show mq_R mq_PP (d + 1) 153 64 _ [] (M', z, u) Q
    refine he_ret (by decide +kernel) ?_
    have qs : hv M' 267 (12 * j + 2) = v36.toInt := by
      rw [g7 _ (by omega), show 12 * j + 2 = v33.toInt.toNat by omega]
      exact sM1
    refine KA M' g1 ⟨fun a h1 h2 => (g2.1 a h1 h2).trans (wM1 a h2), fun i h1 h2 h3 h4 => (g2.2 i h1 h2 h3 h4).trans (eM1 _ _ (.inl (by decide)))⟩ ⟨by omega, by omega, by omega, ?_, ?_, ?_, g6, fun i hi => ?_⟩ (by omega)
    · rw [g7 _ (by omega), eM1 _ _ (.inr (by omega))]
    · rw [g7 _ (by omega), eM1 _ _ (.inr (by omega))]
    · rw [g4, ← hv49, eM1 _ _ (.inr (by omega)), show x1.toInt.toNat = 12 * j by omega]
    · rw [g7 _ (by omega), eM1 _ _ (.inr (by omega))]
theorem hm_go {d z u j k n : Nat} {Q : (Option Value ⊕ Nat) → mq_S → Prop} {M : Nat → mq_C} {x1 x2 : Int32} (hm : mz_sh mz_GG M) (hx : HX M) (hj : hv M 234 48 = (j : Int) + 1) (hj1 : j < 139) (p1 : x1.toInt = 12 * (j : Int)) (hk : hv M 267 (12 * j) = (k : Int)) (hn : hv M 267 (12 * j + 1) = (n : Int)) (hdf : hv M 261 (32 * k + n) = -1) (q0 : 0 ≤ x2.toInt)
    (KA : ∀ M' : Nat → mq_C, mz_sh mz_GG M' → hm_E M M' → hm_N j M M' → x2.toInt + 2 ≤ hv M' 267 (12 * j + 2) → Q (.inl none) (M', z, u))
    (KB : ∀ M' : Nat → mq_C, mz_sh mz_GG M' → HX M' → hm_D j k n M M' → hv M' 234 48 = (j : Int) → hm_w M' → Q (.inl none) (M', z, u)) : ∀ (m : Nat) (x3 : Int32), (m : Int) + x3.toInt = 3 → x2.toInt ≤ x3.toInt → mq_R mq_PP (d + 1) 153 2 [some (.ref 234), some (.int x1), some (.int x2), some (.int x3), none, none, none] [] (M, z, u) Q := by
  intro m
  induction m with
  | zero =>
    intro x3 e1 e2
    refine he_iload (n := 3) (i := 3) (by decide +kernel) rfl ?_
    refine he_iconst (n := 4) (c := 3) (by decide +kernel) (by decide) ?_
    intro c3 hc3
    refine he_cmpge_t (n := 7) (t := 27) (by decide +kernel) (by omega) ?_
    exact hm_g27 hm hx hj hj1 p1 hk hn (by omega) (by omega) (fun h => by omega) hdf (fun M' a b c e => KA M' a b c (by omega)) KB
  | succ m ih =>
    intro x3 e1 e2
    refine he_iload (n := 3) (i := 3) (by decide +kernel) rfl ?_
    refine he_iconst (n := 4) (c := 3) (by decide +kernel) (by decide) ?_
    intro c3 hc3
    refine he_cmpge_f (n := 7) (t := 27) (by decide +kernel) (by omega) ?_
    refine he_aload (n := 8) (i := 0) (by decide +kernel) rfl ?_
    refine he_getr (n := 11) (ci := 9) (j := 49) (ns := [4226, 107]) (b := 267) hm (by decide +kernel) rfl rfl (by decide +kernel) ?_
    refine he_iload (n := 12) (i := 1) (by decide +kernel) rfl ?_
    refine he_iconst (n := 14) (c := 6) (by decide +kernel) (by decide) ?_
    intro c12 hc12
    refine he_iadd (n := 15) (by decide +kernel) (by omega) (by omega) ?_
    intro v14 hv14
    refine he_iload (n := 16) (i := 3) (by decide +kernel) rfl ?_
    refine he_iadd (n := 17) (by decide +kernel) (by omega) (by omega) ?_
    intro v16 hv16
    refine hb_ld (n := 18) (kind := 64) hm (by decide +kernel) rfl rfl (.inl rfl) (by omega) (show _ < (1680 : Int) by omega) (hm_f68 (by omega) (by omega)) ?_
    intro v17 hv17 lv17 uv17
    by_cases h18 : 0 ≤ v17.toInt
    · skip
      refine he_ifge_t (n := 21) (t := 27) (by decide +kernel) (by omega) ?_
      refine hm_g27 hm hx hj hj1 p1 hk hn (by omega) (by omega) (fun h => ?_) hdf (fun M' a b c e => KA M' a b c (by omega)) KB
      rw [show 12 * j + 6 + x3.toInt.toNat = v16.toInt.toNat by omega, hv17]
      exact h18
    · skip
      refine he_ifge_f (n := 21) (t := 27) (by decide +kernel) (by omega) ?_
      refine he_iinc (n := 24) (i := 3) (c := 1) (L' := fun v => [some (.ref (234)), some (.int x1), some (.int x2), some (.int v), none, none, none]) (by decide +kernel) (by decide) rfl (fun _ => rfl) (by omega) (by omega) ?_
      intro i21 hi21
      refine he_goto (t := 2) (by decide +kernel) ?_
      exact ih _ (by omega) (by omega)
theorem hm_goOn {d z u j k n : Nat} {Q : (Option Value ⊕ Nat) → mq_S → Prop} {M : Nat → mq_C} {x1 x2 : Int32} (hm : mz_sh mz_GG M) (hx : HX M) (hj : hv M 234 48 = (j : Int) + 1) (hj1 : j < 139) (p1 : x1.toInt = 12 * (j : Int)) (hk : hv M 267 (12 * j) = (k : Int)) (hn : hv M 267 (12 * j + 1) = (n : Int)) (hdf : hv M 261 (32 * k + n) = -1) (q0 : 0 ≤ x2.toInt) (q1 : x2.toInt ≤ 3)
    (KA : ∀ M' : Nat → mq_C, mz_sh mz_GG M' → hm_E M M' → hm_N j M M' → x2.toInt + 2 ≤ hv M' 267 (12 * j + 2) → Q (.inl none) (M', z, u))
    (KB : ∀ M' : Nat → mq_C, mz_sh mz_GG M' → HX M' → hm_D j k n M M' → hv M' 234 48 = (j : Int) → hm_w M' → Q (.inl none) (M', z, u)) : mq_R mq_PP (d + 1) 153 0 [some (.ref 234), some (.int x1), some (.int x2), none, none, none, none] [] (M, z, u) Q := by
  refine he_iload (n := 1) (i := 2) (by decide +kernel) rfl ?_
  refine he_istore (n := 2) (i := 3) (by decide +kernel) rfl ?_
  exact hm_go hm hx hj hj1 p1 hk hn hdf q0 KA KB (3 - x2.toInt.toNat) x2 (by omega) (by omega)
