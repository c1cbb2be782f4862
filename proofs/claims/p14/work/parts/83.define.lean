/-! define. -/
theorem hl_tp0 {i : Nat} (h : i % 8 = 0) : mz_at (64, 1024, 8, [(0, 0, 31), (0, 0, 3), (0, 0, 3), (0, -1, 127), (0, -1, 127), (0, -1, 127), (0, 0, 255), (0, 0, 255)]) i = (0, 0, 31) := by
  show ([(0, 0, 31), (0, 0, 3), (0, 0, 3), (0, -1, 127), (0, -1, 127), (0, -1, 127), (0, 0, 255), (0, 0, 255)] : List mz_Sp).getD (i % 8) (9, 0, 0) = _
  rw [h]
  rfl
theorem hl_tp1 {i : Nat} (h : i % 8 = 1) : mz_at (64, 1024, 8, [(0, 0, 31), (0, 0, 3), (0, 0, 3), (0, -1, 127), (0, -1, 127), (0, -1, 127), (0, 0, 255), (0, 0, 255)]) i = (0, 0, 3) := by
  show ([(0, 0, 31), (0, 0, 3), (0, 0, 3), (0, -1, 127), (0, -1, 127), (0, -1, 127), (0, 0, 255), (0, 0, 255)] : List mz_Sp).getD (i % 8) (9, 0, 0) = _
  rw [h]
  rfl
theorem hl_tp2 {i : Nat} (h : i % 8 = 2) : mz_at (64, 1024, 8, [(0, 0, 31), (0, 0, 3), (0, 0, 3), (0, -1, 127), (0, -1, 127), (0, -1, 127), (0, 0, 255), (0, 0, 255)]) i = (0, 0, 3) := by
  show ([(0, 0, 31), (0, 0, 3), (0, 0, 3), (0, -1, 127), (0, -1, 127), (0, -1, 127), (0, 0, 255), (0, 0, 255)] : List mz_Sp).getD (i % 8) (9, 0, 0) = _
  rw [h]
  rfl
theorem hl_tp6 {i : Nat} (h : i % 8 = 6) : mz_at (64, 1024, 8, [(0, 0, 31), (0, 0, 3), (0, 0, 3), (0, -1, 127), (0, -1, 127), (0, -1, 127), (0, 0, 255), (0, 0, 255)]) i = (0, 0, 255) := by
  show ([(0, 0, 31), (0, 0, 3), (0, 0, 3), (0, -1, 127), (0, -1, 127), (0, -1, 127), (0, 0, 255), (0, 0, 255)] : List mz_Sp).getD (i % 8) (9, 0, 0) = _
  rw [h]
  rfl
theorem hl_tp7 {i : Nat} (h : i % 8 = 7) : mz_at (64, 1024, 8, [(0, 0, 31), (0, 0, 3), (0, 0, 3), (0, -1, 127), (0, -1, 127), (0, -1, 127), (0, 0, 255), (0, 0, 255)]) i = (0, 0, 255) := by
  show ([(0, 0, 31), (0, 0, 3), (0, 0, 3), (0, -1, 127), (0, -1, 127), (0, -1, 127), (0, 0, 255), (0, 0, 255)] : List mz_Sp).getD (i % 8) (9, 0, 0) = _
  rw [h]
  rfl
theorem hl_tp3 {i : Nat} (h : 3 ≤ i % 8) (h' : i % 8 ≤ 5) : mz_at (64, 1024, 8, [(0, 0, 31), (0, 0, 3), (0, 0, 3), (0, -1, 127), (0, -1, 127), (0, -1, 127), (0, 0, 255), (0, 0, 255)]) i = (0, -1, 127) := by
  show ([(0, 0, 31), (0, 0, 3), (0, 0, 3), (0, -1, 127), (0, -1, 127), (0, -1, 127), (0, 0, 255), (0, 0, 255)] : List mz_Sp).getD (i % 8) (9, 0, 0) = _
  have : i % 8 = 3 ∨ i % 8 = 4 ∨ i % 8 = 5 := by omega
  rcases this with h | h | h <;> rw [h] <;> rfl
theorem hl_dl {d z u i : Nat} {Q : (Option Value ⊕ Nat) → mq_S → Prop} {M0 : Nat → mq_C} {x1 x3 x4 : Int32} {tc : Int} (hi : i < 41) (p4 : x4.toInt = 8 * tc) (p5 : 0 ≤ tc) (p6 : tc ≤ 127)
    (K : ∀ (M : Nat → mq_C) (y5 : Int32), mz_sh mz_GG M → hb_only [40] M0 M → mq_R mq_PP d 43 76 [some (.ref 8), some (.int x1), some (.ref (111 + 3 * i)), some (.int x3), some (.int x4), some (.int y5)] [] (M, z, u) Q) : ∀ (m : Nat) (M : Nat → mq_C) (x5 : Int32), (m : Int) + x5.toInt = 3 → 0 ≤ x5.toInt → mz_sh mz_GG M → hb_only [40] M0 M → mq_R mq_PP d 43 45 [some (.ref 8), some (.int x1), some (.ref (111 + 3 * i)), some (.int x3), some (.int x4), some (.int x5)] [] (M, z, u) Q := by
  intro m
  induction m with
  | zero =>
    intro M x5 e1 e2 hm ho
    refine he_iload (n := 47) (i := 5) (by decide +kernel) rfl ?_
    refine he_iconst (n := 48) (c := 3) (by decide +kernel) (by decide) ?_
    intro c47 hc47
    refine he_cmpge_t (n := 51) (t := 76) (by decide +kernel) (by omega) ?_
    exact K M x5 hm ho
  | succ m ih =>
    intro M x5 e1 e2 hm ho
    refine he_iload (n := 47) (i := 5) (by decide +kernel) rfl ?_
    refine he_iconst (n := 48) (c := 3) (by decide +kernel) (by decide) ?_
    intro c47 hc47
    refine he_cmpge_f (n := 51) (t := 76) (by decide +kernel) (by omega) ?_
    refine he_aload (n := 52) (i := 0) (by decide +kernel) rfl ?_
    refine he_getr (n := 55) (ci := 0) (j := 6) (ns := [2083, 45]) (b := 40) hm (by decide +kernel) rfl rfl (by decide +kernel) ?_
    refine he_iload (n := 57) (i := 4) (by decide +kernel) rfl ?_
    refine he_iconst (n := 58) (c := 3) (by decide +kernel) (by decide) ?_
    intro c57 hc57
    refine he_iadd (n := 59) (by decide +kernel) (by omega) (by omega) ?_
    intro v58 hv58
    refine he_iload (n := 61) (i := 5) (by decide +kernel) rfl ?_
    refine he_iadd (n := 62) (by decide +kernel) (by omega) (by omega) ?_
    intro v61 hv61
    refine he_aload (n := 63) (i := 2) (by decide +kernel) rfl ?_
    refine he_getr (n := 66) (ci := 2) (j := 4) (ns := [2065, 305]) (b := 113 + 3 * i) hm (by decide +kernel) (hl_cell hi) rfl (hl_r4 hi) ?_
    refine he_iload (n := 68) (i := 5) (by decide +kernel) rfl ?_
    refine hb_ld (n := 69) (kind := 64) hm (by decide +kernel) (hl_c2 hi) rfl (.inl rfl) (by omega) (show _ < (3 : Int) by omega) hb_at1 ?_
    intro v68 hv68 lv68 uv68
    refine hb_sta (n := 70) (kind := 64) hm (by decide +kernel) rfl rfl (.inl rfl) (by omega) (show _ < (1024 : Int) by omega) ?_
    generalize hM1 : hb_set M 40 (v61.toInt.toNat) v68 = M1
    have hm1 : mz_sh mz_GG M1 := by rw [← hM1]; exact hb_set_sh hm rfl (hl_tp3 (by omega) (by omega)) (by omega) (by omega)
    have eM1 : ∀ b j, b ≠ 40 ∨ j ≠ v61.toInt.toNat → hv M1 b j = hv M b j := by intro b j h; rw [← hM1]; exact hb_set_n h
    have sM1 : hv M1 40 (v61.toInt.toNat) = v68.toInt := by rw [← hM1]; exact hb_set_v hm rfl (show _ < 1024 by omega)
    have wM1 : ∀ b, b ≠ 40 → M1 b = M b := by intro b h; rw [← hM1]; exact hb_set_c h
    refine he_iinc (n := 73) (i := 5) (c := 1) (L' := fun v => [some (.ref (8)), some (.int x1), some (.ref (111 + 3 * i)), some (.int x3), some (.int x4), some (.int v)]) (by decide +kernel) (by decide) rfl (fun _ => rfl) (by omega) (by omega) ?_
    intro i70 hi70
    refine he_goto (t := 45) (by decide +kernel) ?_
    exact ih M1 i70 (by omega) (by omega) hm1 (hb_only_s ho (by decide) wM1)
/-- what define changes -/
def hl_D (c : Nat) (nm : Nat) (M M' : Nat → mq_C) : Prop := (∀ a, a ≠ 8 → a ≠ 40 → a ≠ c → M' a = M a) ∧ (∀ j, j ≠ 7 → hv M' 8 j = hv M 8 j) ∧ ∀ j, j ≠ nm → hv M' c j = hv M c j
theorem hl_dsp (k a j : Nat) (hk : k ≠ 13) (ha : a = 8 ∨ a = 40 ∨ a = 93 ∨ a = 98 ∨ a = 103 ∨ a = 108) : hsp k a j = false := by
  match k with
  | 0 | 1 | 2 | 3 | 4 | 5 | 6 | 7 | 8 | 9 | 10 | 11 | 12 | 13 | 14 | 15 | 16 | 17 | 18 | 19 | 20 | 21 | 22 | 23 | 24 | 25 | 26 | 27 | 28 | 29 => first | exact absurd rfl hk | (exact decide_eq_false (by omega))
  | n + 30 => rfl
theorem hl_def0 {d z u i : Nat} {Q : (Option Value ⊕ Nat) → mq_S → Prop} {M : Nat → mq_C} {x1 x3 : Int32} {nm : Int} (hi : i < 41) (hm : mz_sh mz_GG M) (hx : HX M) (p1 : x1.toInt = 0) (p3 : 0 ≤ x3.toInt) (p3' : x3.toInt ≤ 3) (hn : hv M (111 + 3 * i) 0 = nm) (hn0 : 0 ≤ nm) (hn1 : nm ≤ 31) (hdf : hv M 93 nm.toNat = -1)
    (K : ∀ (M' : Nat → mq_C) (r : Int32), mz_sh mz_GG M' → HX M' → hl_D 93 nm.toNat M M' → 0 ≤ r.toInt → r.toInt ≤ 127 → Q (.inl (some (.int r))) (M', z, u)) : mq_R mq_PP d 43 0 [some (.ref 8), some (.int x1), some (.ref (111 + 3 * i)), some (.int x3), none, none] [] (M, z, u) Q := by
  have h5 : hv M 8 7 = hb_cnt (fun i => !decide (hv M (93 + 5 * (i / 32)) (i % 32) = -1)) 128 := hx 13
  have e32 : (32 * 0 + nm.toNat) / 32 = 0 ∧ (32 * 0 + nm.toNat) % 32 = nm.toNat := by omega
  have hlt : hv M 8 7 ≤ 127 := by
    rw [h5]
    have := hb_cnt_lt (p := fun i => !decide (hv M (93 + 5 * (i / 32)) (i % 32) = -1)) (k := 32 * 0 + nm.toNat) (by
      show (!decide (hv M (93 + 5 * ((32 * 0 + nm.toNat) / 32)) ((32 * 0 + nm.toNat) % 32) = -1)) = false
      rw [e32.1, e32.2]
      have : hv M (93 + 5 * 0) nm.toNat = -1 := hdf
      rw [this]
      rfl) 128 (by omega)
    omega
  refine he_iconst (n := 2) (c := 8) (by decide +kernel) (by decide) ?_
  intro c0 hc0
  refine he_aload (n := 3) (i := 0) (by decide +kernel) rfl ?_
  refine hb_gfd (n := 6) (ci := 0) (j := 7) (ns := [2084, 49]) hm (by decide +kernel) rfl rfl (by decide) rfl ?_
  intro v3 hv3 lv3 uv3
  refine he_imul (n := 7) (p := 8 * v3.toInt) (by decide +kernel) (by rw [hc0]) (by omega) (by omega) ?_
  intro v6 hv6
  refine he_istore (n := 9) (i := 4) (by decide +kernel) rfl ?_
  refine he_aload (n := 10) (i := 0) (by decide +kernel) rfl ?_
  refine he_getr (n := 13) (ci := 0) (j := 6) (ns := [2083, 45]) (b := 40) hm (by decide +kernel) rfl rfl (by decide +kernel) ?_
  refine he_iload (n := 15) (i := 4) (by decide +kernel) rfl ?_
  refine he_iconst (n := 16) (c := 0) (by decide +kernel) (by decide) ?_
  intro c15 hc15
  refine he_iadd (n := 17) (by decide +kernel) (by omega) (by omega) ?_
  intro v16 hv16
  refine he_aload (n := 18) (i := 2) (by decide +kernel) rfl ?_
  refine hb_gfd (n := 21) (ci := 2) (j := 0) (ns := [2057, 311]) hm (by decide +kernel) (hl_cell hi) rfl (show 0 < 5 by decide) rfl ?_
  intro v18 hv18 lv18 uv18
  have q18 : v18.toInt = nm := by omega
  refine hb_sta (n := 22) (kind := 64) hm (by decide +kernel) rfl rfl (.inl rfl) (by omega) (show _ < (1024 : Int) by omega) ?_
  generalize hM1 : hb_set M 40 (v16.toInt.toNat) v18 = M1
  have hm1 : mz_sh mz_GG M1 := by rw [← hM1]; exact hb_set_sh hm rfl (hl_tp0 (by omega)) (by omega) (by omega)
  have eM1 : ∀ b j, b ≠ 40 ∨ j ≠ v16.toInt.toNat → hv M1 b j = hv M b j := by intro b j h; rw [← hM1]; exact hb_set_n h
  have sM1 : hv M1 40 (v16.toInt.toNat) = v18.toInt := by rw [← hM1]; exact hb_set_v hm rfl (show _ < 1024 by omega)
  have wM1 : ∀ b, b ≠ 40 → M1 b = M b := by intro b h; rw [← hM1]; exact hb_set_c h
  refine he_aload (n := 23) (i := 0) (by decide +kernel) rfl ?_
  refine he_getr (n := 26) (ci := 0) (j := 6) (ns := [2083, 45]) (b := 40) hm1 (by decide +kernel) rfl rfl (by decide +kernel) ?_
  refine he_iload (n := 28) (i := 4) (by decide +kernel) rfl ?_
  refine he_iconst (n := 29) (c := 1) (by decide +kernel) (by decide) ?_
  intro c28 hc28
  refine he_iadd (n := 30) (by decide +kernel) (by omega) (by omega) ?_
  intro v29 hv29
  refine he_iload (n := 31) (i := 1) (by decide +kernel) rfl ?_
  refine hb_sta (n := 32) (kind := 64) hm1 (by decide +kernel) rfl rfl (.inl rfl) (by omega) (show _ < (1024 : Int) by omega) ?_
  generalize hM2 : hb_set M1 40 (v29.toInt.toNat) x1 = M2
  have hm2 : mz_sh mz_GG M2 := by rw [← hM2]; exact hb_set_sh hm1 rfl (hl_tp1 (by omega)) (by omega) (by omega)
  have eM2 : ∀ b j, b ≠ 40 ∨ j ≠ v29.toInt.toNat → hv M2 b j = hv M1 b j := by intro b j h; rw [← hM2]; exact hb_set_n h
  have sM2 : hv M2 40 (v29.toInt.toNat) = x1.toInt := by rw [← hM2]; exact hb_set_v hm1 rfl (show _ < 1024 by omega)
  have wM2 : ∀ b, b ≠ 40 → M2 b = M1 b := by intro b h; rw [← hM2]; exact hb_set_c h
  refine he_aload (n := 33) (i := 0) (by decide +kernel) rfl ?_
  refine he_getr (n := 36) (ci := 0) (j := 6) (ns := [2083, 45]) (b := 40) hm2 (by decide +kernel) rfl rfl (by decide +kernel) ?_
  refine he_iload (n := 38) (i := 4) (by decide +kernel) rfl ?_
  refine he_iconst (n := 39) (c := 2) (by decide +kernel) (by decide) ?_
  intro c38 hc38
  refine he_iadd (n := 40) (by decide +kernel) (by omega) (by omega) ?_
  intro v39 hv39
  refine he_iload (n := 41) (i := 3) (by decide +kernel) rfl ?_
  refine hb_sta (n := 42) (kind := 64) hm2 (by decide +kernel) rfl rfl (.inl rfl) (by omega) (show _ < (1024 : Int) by omega) ?_
  generalize hM3 : hb_set M2 40 (v39.toInt.toNat) x3 = M3
  have hm3 : mz_sh mz_GG M3 := by rw [← hM3]; exact hb_set_sh hm2 rfl (hl_tp2 (by omega)) (by omega) (by omega)
  have eM3 : ∀ b j, b ≠ 40 ∨ j ≠ v39.toInt.toNat → hv M3 b j = hv M2 b j := by intro b j h; rw [← hM3]; exact hb_set_n h
  have sM3 : hv M3 40 (v39.toInt.toNat) = x3.toInt := by rw [← hM3]; exact hb_set_v hm2 rfl (show _ < 1024 by omega)
  have wM3 : ∀ b, b ≠ 40 → M3 b = M2 b := by intro b h; rw [← hM3]; exact hb_set_c h
  refine he_iconst (n := 43) (c := 0) (by decide +kernel) (by decide) ?_
  intro c42 hc42
  refine he_istore (n := 45) (i := 5) (by decide +kernel) rfl ?_
  have ho3 : hb_only [40] M M3 := hb_only_s (hb_only_s (hb_only_s hb_only_r (by decide) wM1) (by decide) wM2) (by decide) wM3
  refine hl_dl (M0 := M) (tc := v3.toInt) hi (by omega) (by omega) (by omega) ?_ 3 M3 c42 (by omega) (by omega) hm3 ho3
  intro N0 y5 hN0 hoN
  refine he_aload (n := 77) (i := 0) (by decide +kernel) rfl ?_
  refine he_getr (n := 80) (ci := 0) (j := 6) (ns := [2083, 45]) (b := 40) hN0 (by decide +kernel) rfl rfl (by decide +kernel) ?_
  refine he_iload (n := 82) (i := 4) (by decide +kernel) rfl ?_
  refine he_iconst (n := 84) (c := 6) (by decide +kernel) (by decide) ?_
  intro cn82 hcn82
  refine he_iadd (n := 85) (by decide +kernel) (by omega) (by omega) ?_
  intro vn84 hvn84
  refine he_aload (n := 86) (i := 2) (by decide +kernel) rfl ?_
  refine hb_gfd (n := 89) (ci := 2) (j := 2) (ns := [2061, 318]) hN0 (by decide +kernel) (hl_cell hi) rfl (show 2 < 5 by decide) rfl ?_
  intro vn86 hvn86 lvn86 uvn86
  refine hb_sta (n := 90) (kind := 64) hN0 (by decide +kernel) rfl rfl (.inl rfl) (by omega) (show _ < (1024 : Int) by omega) ?_
  generalize hMn1 : hb_set N0 40 (vn84.toInt.toNat) vn86 = Mn1
  have hmn1 : mz_sh mz_GG Mn1 := by rw [← hMn1]; exact hb_set_sh hN0 rfl (hl_tp6 (by omega)) (by omega) (by omega)
  have eMn1 : ∀ b j, b ≠ 40 ∨ j ≠ vn84.toInt.toNat → hv Mn1 b j = hv N0 b j := by intro b j h; rw [← hMn1]; exact hb_set_n h
  have sMn1 : hv Mn1 40 (vn84.toInt.toNat) = vn86.toInt := by rw [← hMn1]; exact hb_set_v hN0 rfl (show _ < 1024 by omega)
  have wMn1 : ∀ b, b ≠ 40 → Mn1 b = N0 b := by intro b h; rw [← hMn1]; exact hb_set_c h
  refine he_aload (n := 91) (i := 0) (by decide +kernel) rfl ?_
  refine he_getr (n := 94) (ci := 0) (j := 6) (ns := [2083, 45]) (b := 40) hmn1 (by decide +kernel) rfl rfl (by decide +kernel) ?_
  refine he_iload (n := 96) (i := 4) (by decide +kernel) rfl ?_
  refine he_iconst (n := 98) (c := 7) (by decide +kernel) (by decide) ?_
  intro cn96 hcn96
  refine he_iadd (n := 99) (by decide +kernel) (by omega) (by omega) ?_
  intro vn98 hvn98
  refine he_aload (n := 100) (i := 2) (by decide +kernel) rfl ?_
  refine hb_gfd (n := 103) (ci := 2) (j := 1) (ns := [2059, 321]) hmn1 (by decide +kernel) (hl_cell hi) rfl (show 1 < 5 by decide) rfl ?_
  intro vn100 hvn100 lvn100 uvn100
  refine hb_sta (n := 104) (kind := 64) hmn1 (by decide +kernel) rfl rfl (.inl rfl) (by omega) (show _ < (1024 : Int) by omega) ?_
  generalize hMn2 : hb_set Mn1 40 (vn98.toInt.toNat) vn100 = Mn2
  have hmn2 : mz_sh mz_GG Mn2 := by rw [← hMn2]; exact hb_set_sh hmn1 rfl (hl_tp7 (by omega)) (by omega) (by omega)
  have eMn2 : ∀ b j, b ≠ 40 ∨ j ≠ vn98.toInt.toNat → hv Mn2 b j = hv Mn1 b j := by intro b j h; rw [← hMn2]; exact hb_set_n h
  have sMn2 : hv Mn2 40 (vn98.toInt.toNat) = vn100.toInt := by rw [← hMn2]; exact hb_set_v hmn1 rfl (show _ < 1024 by omega)
  have wMn2 : ∀ b, b ≠ 40 → Mn2 b = Mn1 b := by intro b h; rw [← hMn2]; exact hb_set_c h
  refine he_aload (n := 105) (i := 0) (by decide +kernel) rfl ?_
  refine he_getr (n := 108) (ci := 0) (j := 3) (ns := [2080, 31]) (b := 38) hmn2 (by decide +kernel) rfl rfl (by decide +kernel) ?_
  refine he_iload (n := 109) (i := 1) (by decide +kernel) rfl ?_
  refine he_aald (n := 110) (kind := 75) (b := 91) hmn2 (by decide +kernel) rfl rfl (by decide) (by omega) (by rw [show x1.toInt.toNat = 0 by omega]; decide +kernel) ?_
  refine he_getr (n := 113) (ci := 5) (j := 4) (ns := [2031, 263]) (b := 93) hmn2 (by decide +kernel) rfl rfl (by decide +kernel) ?_
  refine he_aload (n := 114) (i := 2) (by decide +kernel) rfl ?_
  refine hb_gfd (n := 117) (ci := 2) (j := 0) (ns := [2057, 311]) hmn2 (by decide +kernel) (hl_cell hi) rfl (show 0 < 5 by decide) rfl ?_
  intro vn114 hvn114 lvn114 uvn114
  refine he_aload (n := 118) (i := 0) (by decide +kernel) rfl ?_
  refine hb_gfd (n := 121) (ci := 0) (j := 7) (ns := [2084, 49]) hmn2 (by decide +kernel) rfl rfl (by decide) rfl ?_
  intro vn118 hvn118 lvn118 uvn118
  have ho2 : hb_only [40] M Mn2 := hb_only_s (hb_only_s hoN (by decide) wMn1) (by decide) wMn2
  have qn : vn114.toInt = nm := by
    rw [← hvn114, hb_vc (ho2 (111 + 3 * i) (by simp only [List.elem_eq_mem, decide_eq_false_iff_not, List.mem_cons, List.not_mem_nil, or_false]; omega))]
    exact hn
  have qt : vn118.toInt = hv M 8 7 := by
    rw [← hvn118, hb_vc (ho2 8 (by decide))]
  refine hb_sta (n := 122) (kind := 64) hmn2 (by decide +kernel) rfl rfl (.inl rfl) (by omega) (show _ < (32 : Int) by omega) ?_
  generalize hMn3 : hb_set Mn2 93 (vn114.toInt.toNat) vn118 = Mn3
  have hmn3 : mz_sh mz_GG Mn3 := by rw [← hMn3]; exact hb_set_sh hmn2 rfl hb_at1 (by omega) (by omega)
  have eMn3 : ∀ b j, b ≠ 93 ∨ j ≠ vn114.toInt.toNat → hv Mn3 b j = hv Mn2 b j := by intro b j h; rw [← hMn3]; exact hb_set_n h
  have sMn3 : hv Mn3 93 (vn114.toInt.toNat) = vn118.toInt := by rw [← hMn3]; exact hb_set_v hmn2 rfl (show _ < 32 by omega)
  have wMn3 : ∀ b, b ≠ 93 → Mn3 b = Mn2 b := by intro b h; rw [← hMn3]; exact hb_set_c h
  refine he_aload (n := 123) (i := 0) (by decide +kernel) rfl ?_
  refine he_dup_r (n := 124) (by decide +kernel) ?_
  refine hb_gfd (n := 127) (ci := 0) (j := 7) (ns := [2084, 49]) hmn3 (by decide +kernel) rfl rfl (by decide) rfl ?_
  intro vn124 hvn124 lvn124 uvn124
  refine he_iconst (n := 128) (c := 1) (by decide +kernel) (by decide) ?_
  intro cn127 hcn127
  refine he_iadd (n := 129) (by decide +kernel) (by omega) (by omega) ?_
  intro vn128 hvn128
  have q9 : vn124.toInt = hv M 8 7 := by
    rw [← hvn124, eMn3 _ _ (.inl (by decide)), hb_vc (ho2 8 (by decide))]
  refine hb_pfd (n := 132) (ci := 0) (j := 7) (t := 0) (ns := [2084, 49]) hmn3 (by decide +kernel) rfl rfl (by decide) (.inl rfl) ?_
  generalize hMn4 : hb_set Mn3 8 7 vn128 = Mn4
  have hmn4 : mz_sh mz_GG Mn4 := by rw [← hMn4]; exact hb_set_sh hmn3 rfl rfl (by omega) (by omega)
  have eMn4 : ∀ b j, b ≠ 8 ∨ j ≠ 7 → hv Mn4 b j = hv Mn3 b j := by intro b j h; rw [← hMn4]; exact hb_set_n h
  have sMn4 : hv Mn4 8 7 = vn128.toInt := by rw [← hMn4]; exact hb_set_v hmn3 rfl (by decide)
  have wMn4 : ∀ b, b ≠ 8 → Mn4 b = Mn3 b := by intro b h; rw [← hMn4]; exact hb_set_c h
  refine he_aload (n := 133) (i := 0) (by decide +kernel) rfl ?_
  refine hb_gfd (n := 136) (ci := 0) (j := 7) (ns := [2084, 49]) hmn4 (by decide +kernel) rfl rfl (by decide) rfl ?_
  intro vn133 hvn133 lvn133 uvn133
  refine he_iconst (n := 137) (c := 1) (by decide +kernel) (by decide) ?_
  intro cn136 hcn136
  refine he_isub (n := 138) (by decide +kernel) (by omega) (by omega) ?_
  intro vn137 hvn137
  refine he_reti (by decide +kernel) ?_
  have hD : hl_D 93 nm.toNat M Mn4 := by
    refine ⟨fun a h1 h2 h3 => (wMn4 a h1).trans ((wMn3 a h3).trans (ho2 a ?_)), fun j hj => ?_, fun j hj => ?_⟩
    · simp only [List.elem_eq_mem, decide_eq_false_iff_not, List.mem_cons, List.not_mem_nil, or_false]
      exact h2
    · rw [eMn4 _ _ (.inr hj), eMn3 _ _ (.inl (by decide)), hb_vc (ho2 8 (by decide))]
    · rw [eMn4 _ _ (.inl (by decide)), eMn3 _ _ (.inr (by omega)), hb_vc (ho2 93 (by decide))]
  refine K Mn4 _ hmn4 ?_ hD (by omega) (by omega)
  intro k
  by_cases e : k = 13
  · subst e
    show hv Mn4 8 7 = hb_cnt (fun i => !decide (hv Mn4 (93 + 5 * (i / 32)) (i % 32) = -1)) 128
    rw [hb_cnt_u (p := fun i => !decide (hv M (93 + 5 * (i / 32)) (i % 32) = -1)) (k := 32 * 0 + nm.toNat) (by omega) ?_ ?_ ?_, ← h5, sMn4]
    · omega
    · show (!decide (hv M (93 + 5 * ((32 * 0 + nm.toNat) / 32)) ((32 * 0 + nm.toNat) % 32) = -1)) = false
      rw [e32.1, e32.2]
      have : hv M (93 + 5 * 0) nm.toNat = -1 := hdf
      rw [this]
      rfl
    · show (!decide (hv Mn4 (93 + 5 * ((32 * 0 + nm.toNat) / 32)) ((32 * 0 + nm.toNat) % 32) = -1)) = true
      rw [e32.1, e32.2]
      have h1 : hv Mn4 (93 + 5 * 0) nm.toNat = vn118.toInt := by
        rw [eMn4 _ _ (.inl (by decide)), show nm.toNat = vn114.toInt.toNat by omega]
        exact sMn3
      rw [h1, decide_eq_false (by omega)]
      rfl
    · intro j h1 h2
      show (!decide (hv Mn4 (93 + 5 * (j / 32)) (j % 32) = -1)) = (!decide (hv M (93 + 5 * (j / 32)) (j % 32) = -1))
      have h3 : hv Mn4 (93 + 5 * (j / 32)) (j % 32) = hv M (93 + 5 * (j / 32)) (j % 32) := by
        by_cases h4 : j / 32 = 0
        · rw [h4]
          exact hD.2.2 _ (by omega)
        · exact hb_vc (hD.1 _ (by omega) (by omega) (by omega)) _
      rw [h3]
  · refine hxk_c (fun a j hs => ?_) (hx k)
    by_cases ha : a = 8 ∨ a = 40 ∨ a = 93 ∨ a = 98 ∨ a = 103 ∨ a = 108
    · rw [hl_dsp k a j e ha] at hs
      cases hs
    · exact hb_vc (hD.1 a (by omega) (by omega) (by omega)) j
theorem hl_def1 {d z u i : Nat} {Q : (Option Value ⊕ Nat) → mq_S → Prop} {M : Nat → mq_C} {x1 x3 : Int32} {nm : Int} (hi : i < 41) (hm : mz_sh mz_GG M) (hx : HX M) (p1 : x1.toInt = 1) (p3 : 0 ≤ x3.toInt) (p3' : x3.toInt ≤ 3) (hn : hv M (111 + 3 * i) 0 = nm) (hn0 : 0 ≤ nm) (hn1 : nm ≤ 31) (hdf : hv M 98 nm.toNat = -1)
    (K : ∀ (M' : Nat → mq_C) (r : Int32), mz_sh mz_GG M' → HX M' → hl_D 98 nm.toNat M M' → 0 ≤ r.toInt → r.toInt ≤ 127 → Q (.inl (some (.int r))) (M', z, u)) : mq_R mq_PP d 43 0 [some (.ref 8), some (.int x1), some (.ref (111 + 3 * i)), some (.int x3), none, none] [] (M, z, u) Q := by
  have h5 : hv M 8 7 = hb_cnt (fun i => !decide (hv M (93 + 5 * (i / 32)) (i % 32) = -1)) 128 := hx 13
  have e32 : (32 * 1 + nm.toNat) / 32 = 1 ∧ (32 * 1 + nm.toNat) % 32 = nm.toNat := by omega
  have hlt : hv M 8 7 ≤ 127 := by
    rw [h5]
    have := hb_cnt_lt (p := fun i => !decide (hv M (93 + 5 * (i / 32)) (i % 32) = -1)) (k := 32 * 1 + nm.toNat) (by
      show (!decide (hv M (93 + 5 * ((32 * 1 + nm.toNat) / 32)) ((32 * 1 + nm.toNat) % 32) = -1)) = false
      rw [e32.1, e32.2]
      have : hv M (93 + 5 * 1) nm.toNat = -1 := hdf
      rw [this]
      rfl) 128 (by omega)
    omega
  refine he_iconst (n := 2) (c := 8) (by decide +kernel) (by decide) ?_
  intro c0 hc0
  refine he_aload (n := 3) (i := 0) (by decide +kernel) rfl ?_
  refine hb_gfd (n := 6) (ci := 0) (j := 7) (ns := [2084, 49]) hm (by decide +kernel) rfl rfl (by decide) rfl ?_
  intro v3 hv3 lv3 uv3
  refine he_imul (n := 7) (p := 8 * v3.toInt) (by decide +kernel) (by rw [hc0]) (by omega) (by omega) ?_
  intro v6 hv6
  refine he_istore (n := 9) (i := 4) (by decide +kernel) rfl ?_
  refine he_aload (n := 10) (i := 0) (by decide +kernel) rfl ?_
  refine he_getr (n := 13) (ci := 0) (j := 6) (ns := [2083, 45]) (b := 40) hm (by decide +kernel) rfl rfl (by decide +kernel) ?_
  refine he_iload (n := 15) (i := 4) (by decide +kernel) rfl ?_
  refine he_iconst (n := 16) (c := 0) (by decide +kernel) (by decide) ?_
  intro c15 hc15
  refine he_iadd (n := 17) (by decide +kernel) (by omega) (by omega) ?_
  intro v16 hv16
  refine he_aload (n := 18) (i := 2) (by decide +kernel) rfl ?_
  refine hb_gfd (n := 21) (ci := 2) (j := 0) (ns := [2057, 311]) hm (by decide +kernel) (hl_cell hi) rfl (show 0 < 5 by decide) rfl ?_
  intro v18 hv18 lv18 uv18
  have q18 : v18.toInt = nm := by omega
  refine hb_sta (n := 22) (kind := 64) hm (by decide +kernel) rfl rfl (.inl rfl) (by omega) (show _ < (1024 : Int) by omega) ?_
  generalize hM1 : hb_set M 40 (v16.toInt.toNat) v18 = M1
  have hm1 : mz_sh mz_GG M1 := by rw [← hM1]; exact hb_set_sh hm rfl (hl_tp0 (by omega)) (by omega) (by omega)
  have eM1 : ∀ b j, b ≠ 40 ∨ j ≠ v16.toInt.toNat → hv M1 b j = hv M b j := by intro b j h; rw [← hM1]; exact hb_set_n h
  have sM1 : hv M1 40 (v16.toInt.toNat) = v18.toInt := by rw [← hM1]; exact hb_set_v hm rfl (show _ < 1024 by omega)
  have wM1 : ∀ b, b ≠ 40 → M1 b = M b := by intro b h; rw [← hM1]; exact hb_set_c h
  refine he_aload (n := 23) (i := 0) (by decide +kernel) rfl ?_
  refine he_getr (n := 26) (ci := 0) (j := 6) (ns := [2083, 45]) (b := 40) hm1 (by decide +kernel) rfl rfl (by decide +kernel) ?_
  refine he_iload (n := 28) (i := 4) (by decide +kernel) rfl ?_
  refine he_iconst (n := 29) (c := 1) (by decide +kernel) (by decide) ?_
  intro c28 hc28
  refine he_iadd (n := 30) (by decide +kernel) (by omega) (by omega) ?_
  intro v29 hv29
  refine he_iload (n := 31) (i := 1) (by decide +kernel) rfl ?_
  refine hb_sta (n := 32) (kind := 64) hm1 (by decide +kernel) rfl rfl (.inl rfl) (by omega) (show _ < (1024 : Int) by omega) ?_
  generalize hM2 : hb_set M1 40 (v29.toInt.toNat) x1 = M2
  have hm2 : mz_sh mz_GG M2 := by rw [← hM2]; exact hb_set_sh hm1 rfl (hl_tp1 (by omega)) (by omega) (by omega)
  have eM2 : ∀ b j, b ≠ 40 ∨ j ≠ v29.toInt.toNat → hv M2 b j = hv M1 b j := by intro b j h; rw [← hM2]; exact hb_set_n h
  have sM2 : hv M2 40 (v29.toInt.toNat) = x1.toInt := by rw [← hM2]; exact hb_set_v hm1 rfl (show _ < 1024 by omega)
  have wM2 : ∀ b, b ≠ 40 → M2 b = M1 b := by intro b h; rw [← hM2]; exact hb_set_c h
  refine he_aload (n := 33) (i := 0) (by decide +kernel) rfl ?_
  refine he_getr (n := 36) (ci := 0) (j := 6) (ns := [2083, 45]) (b := 40) hm2 (by decide +kernel) rfl rfl (by decide +kernel) ?_
  refine he_iload (n := 38) (i := 4) (by decide +kernel) rfl ?_
  refine he_iconst (n := 39) (c := 2) (by decide +kernel) (by decide) ?_
  intro c38 hc38
  refine he_iadd (n := 40) (by decide +kernel) (by omega) (by omega) ?_
  intro v39 hv39
  refine he_iload (n := 41) (i := 3) (by decide +kernel) rfl ?_
  refine hb_sta (n := 42) (kind := 64) hm2 (by decide +kernel) rfl rfl (.inl rfl) (by omega) (show _ < (1024 : Int) by omega) ?_
  generalize hM3 : hb_set M2 40 (v39.toInt.toNat) x3 = M3
  have hm3 : mz_sh mz_GG M3 := by rw [← hM3]; exact hb_set_sh hm2 rfl (hl_tp2 (by omega)) (by omega) (by omega)
  have eM3 : ∀ b j, b ≠ 40 ∨ j ≠ v39.toInt.toNat → hv M3 b j = hv M2 b j := by intro b j h; rw [← hM3]; exact hb_set_n h
  have sM3 : hv M3 40 (v39.toInt.toNat) = x3.toInt := by rw [← hM3]; exact hb_set_v hm2 rfl (show _ < 1024 by omega)
  have wM3 : ∀ b, b ≠ 40 → M3 b = M2 b := by intro b h; rw [← hM3]; exact hb_set_c h
  refine he_iconst (n := 43) (c := 0) (by decide +kernel) (by decide) ?_
  intro c42 hc42
  refine he_istore (n := 45) (i := 5) (by decide +kernel) rfl ?_
  have ho3 : hb_only [40] M M3 := hb_only_s (hb_only_s (hb_only_s hb_only_r (by decide) wM1) (by decide) wM2) (by decide) wM3
  refine hl_dl (M0 := M) (tc := v3.toInt) hi (by omega) (by omega) (by omega) ?_ 3 M3 c42 (by omega) (by omega) hm3 ho3
  intro N0 y5 hN0 hoN
  refine he_aload (n := 77) (i := 0) (by decide +kernel) rfl ?_
  refine he_getr (n := 80) (ci := 0) (j := 6) (ns := [2083, 45]) (b := 40) hN0 (by decide +kernel) rfl rfl (by decide +kernel) ?_
  refine he_iload (n := 82) (i := 4) (by decide +kernel) rfl ?_
  refine he_iconst (n := 84) (c := 6) (by decide +kernel) (by decide) ?_
  intro cn82 hcn82
  refine he_iadd (n := 85) (by decide +kernel) (by omega) (by omega) ?_
  intro vn84 hvn84
  refine he_aload (n := 86) (i := 2) (by decide +kernel) rfl ?_
  refine hb_gfd (n := 89) (ci := 2) (j := 2) (ns := [2061, 318]) hN0 (by decide +kernel) (hl_cell hi) rfl (show 2 < 5 by decide) rfl ?_
  intro vn86 hvn86 lvn86 uvn86
  refine hb_sta (n := 90) (kind := 64) hN0 (by decide +kernel) rfl rfl (.inl rfl) (by omega) (show _ < (1024 : Int) by omega) ?_
  generalize hMn1 : hb_set N0 40 (vn84.toInt.toNat) vn86 = Mn1
  have hmn1 : mz_sh mz_GG Mn1 := by rw [← hMn1]; exact hb_set_sh hN0 rfl (hl_tp6 (by omega)) (by omega) (by omega)
  have eMn1 : ∀ b j, b ≠ 40 ∨ j ≠ vn84.toInt.toNat → hv Mn1 b j = hv N0 b j := by intro b j h; rw [← hMn1]; exact hb_set_n h
  have sMn1 : hv Mn1 40 (vn84.toInt.toNat) = vn86.toInt := by rw [← hMn1]; exact hb_set_v hN0 rfl (show _ < 1024 by omega)
  have wMn1 : ∀ b, b ≠ 40 → Mn1 b = N0 b := by intro b h; rw [← hMn1]; exact hb_set_c h
  refine he_aload (n := 91) (i := 0) (by decide +kernel) rfl ?_
  refine he_getr (n := 94) (ci := 0) (j := 6) (ns := [2083, 45]) (b := 40) hmn1 (by decide +kernel) rfl rfl (by decide +kernel) ?_
  refine he_iload (n := 96) (i := 4) (by decide +kernel) rfl ?_
  refine he_iconst (n := 98) (c := 7) (by decide +kernel) (by decide) ?_
  intro cn96 hcn96
  refine he_iadd (n := 99) (by decide +kernel) (by omega) (by omega) ?_
  intro vn98 hvn98
  refine he_aload (n := 100) (i := 2) (by decide +kernel) rfl ?_
  refine hb_gfd (n := 103) (ci := 2) (j := 1) (ns := [2059, 321]) hmn1 (by decide +kernel) (hl_cell hi) rfl (show 1 < 5 by decide) rfl ?_
  intro vn100 hvn100 lvn100 uvn100
  refine hb_sta (n := 104) (kind := 64) hmn1 (by decide +kernel) rfl rfl (.inl rfl) (by omega) (show _ < (1024 : Int) by omega) ?_
  generalize hMn2 : hb_set Mn1 40 (vn98.toInt.toNat) vn100 = Mn2
  have hmn2 : mz_sh mz_GG Mn2 := by rw [← hMn2]; exact hb_set_sh hmn1 rfl (hl_tp7 (by omega)) (by omega) (by omega)
  have eMn2 : ∀ b j, b ≠ 40 ∨ j ≠ vn98.toInt.toNat → hv Mn2 b j = hv Mn1 b j := by intro b j h; rw [← hMn2]; exact hb_set_n h
  have sMn2 : hv Mn2 40 (vn98.toInt.toNat) = vn100.toInt := by rw [← hMn2]; exact hb_set_v hmn1 rfl (show _ < 1024 by omega)
  have wMn2 : ∀ b, b ≠ 40 → Mn2 b = Mn1 b := by intro b h; rw [← hMn2]; exact hb_set_c h
  refine he_aload (n := 105) (i := 0) (by decide +kernel) rfl ?_
  refine he_getr (n := 108) (ci := 0) (j := 3) (ns := [2080, 31]) (b := 38) hmn2 (by decide +kernel) rfl rfl (by decide +kernel) ?_
  refine he_iload (n := 109) (i := 1) (by decide +kernel) rfl ?_
  refine he_aald (n := 110) (kind := 75) (b := 96) hmn2 (by decide +kernel) rfl rfl (by decide) (by omega) (by rw [show x1.toInt.toNat = 1 by omega]; decide +kernel) ?_
  refine he_getr (n := 113) (ci := 5) (j := 4) (ns := [2031, 263]) (b := 98) hmn2 (by decide +kernel) rfl rfl (by decide +kernel) ?_
  refine he_aload (n := 114) (i := 2) (by decide +kernel) rfl ?_
  refine hb_gfd (n := 117) (ci := 2) (j := 0) (ns := [2057, 311]) hmn2 (by decide +kernel) (hl_cell hi) rfl (show 0 < 5 by decide) rfl ?_
  intro vn114 hvn114 lvn114 uvn114
  refine he_aload (n := 118) (i := 0) (by decide +kernel) rfl ?_
  refine hb_gfd (n := 121) (ci := 0) (j := 7) (ns := [2084, 49]) hmn2 (by decide +kernel) rfl rfl (by decide) rfl ?_
  intro vn118 hvn118 lvn118 uvn118
  have ho2 : hb_only [40] M Mn2 := hb_only_s (hb_only_s hoN (by decide) wMn1) (by decide) wMn2
  have qn : vn114.toInt = nm := by
    rw [← hvn114, hb_vc (ho2 (111 + 3 * i) (by simp only [List.elem_eq_mem, decide_eq_false_iff_not, List.mem_cons, List.not_mem_nil, or_false]; omega))]
    exact hn
  have qt : vn118.toInt = hv M 8 7 := by
    rw [← hvn118, hb_vc (ho2 8 (by decide))]
  refine hb_sta (n := 122) (kind := 64) hmn2 (by decide +kernel) rfl rfl (.inl rfl) (by omega) (show _ < (32 : Int) by omega) ?_
  generalize hMn3 : hb_set Mn2 98 (vn114.toInt.toNat) vn118 = Mn3
  have hmn3 : mz_sh mz_GG Mn3 := by rw [← hMn3]; exact hb_set_sh hmn2 rfl hb_at1 (by omega) (by omega)
  have eMn3 : ∀ b j, b ≠ 98 ∨ j ≠ vn114.toInt.toNat → hv Mn3 b j = hv Mn2 b j := by intro b j h; rw [← hMn3]; exact hb_set_n h
  have sMn3 : hv Mn3 98 (vn114.toInt.toNat) = vn118.toInt := by rw [← hMn3]; exact hb_set_v hmn2 rfl (show _ < 32 by omega)
  have wMn3 : ∀ b, b ≠ 98 → Mn3 b = Mn2 b := by intro b h; rw [← hMn3]; exact hb_set_c h
  refine he_aload (n := 123) (i := 0) (by decide +kernel) rfl ?_
  refine he_dup_r (n := 124) (by decide +kernel) ?_
  refine hb_gfd (n := 127) (ci := 0) (j := 7) (ns := [2084, 49]) hmn3 (by decide +kernel) rfl rfl (by decide) rfl ?_
  intro vn124 hvn124 lvn124 uvn124
  refine he_iconst (n := 128) (c := 1) (by decide +kernel) (by decide) ?_
  intro cn127 hcn127
  refine he_iadd (n := 129) (by decide +kernel) (by omega) (by omega) ?_
  intro vn128 hvn128
  have q9 : vn124.toInt = hv M 8 7 := by
    rw [← hvn124, eMn3 _ _ (.inl (by decide)), hb_vc (ho2 8 (by decide))]
  refine hb_pfd (n := 132) (ci := 0) (j := 7) (t := 0) (ns := [2084, 49]) hmn3 (by decide +kernel) rfl rfl (by decide) (.inl rfl) ?_
  generalize hMn4 : hb_set Mn3 8 7 vn128 = Mn4
  have hmn4 : mz_sh mz_GG Mn4 := by rw [← hMn4]; exact hb_set_sh hmn3 rfl rfl (by omega) (by omega)
  have eMn4 : ∀ b j, b ≠ 8 ∨ j ≠ 7 → hv Mn4 b j = hv Mn3 b j := by intro b j h; rw [← hMn4]; exact hb_set_n h
  have sMn4 : hv Mn4 8 7 = vn128.toInt := by rw [← hMn4]; exact hb_set_v hmn3 rfl (by decide)
  have wMn4 : ∀ b, b ≠ 8 → Mn4 b = Mn3 b := by intro b h; rw [← hMn4]; exact hb_set_c h
  refine he_aload (n := 133) (i := 0) (by decide +kernel) rfl ?_
  refine hb_gfd (n := 136) (ci := 0) (j := 7) (ns := [2084, 49]) hmn4 (by decide +kernel) rfl rfl (by decide) rfl ?_
  intro vn133 hvn133 lvn133 uvn133
  refine he_iconst (n := 137) (c := 1) (by decide +kernel) (by decide) ?_
  intro cn136 hcn136
  refine he_isub (n := 138) (by decide +kernel) (by omega) (by omega) ?_
  intro vn137 hvn137
  refine he_reti (by decide +kernel) ?_
  have hD : hl_D 98 nm.toNat M Mn4 := by
    refine ⟨fun a h1 h2 h3 => (wMn4 a h1).trans ((wMn3 a h3).trans (ho2 a ?_)), fun j hj => ?_, fun j hj => ?_⟩
    · simp only [List.elem_eq_mem, decide_eq_false_iff_not, List.mem_cons, List.not_mem_nil, or_false]
      exact h2
    · rw [eMn4 _ _ (.inr hj), eMn3 _ _ (.inl (by decide)), hb_vc (ho2 8 (by decide))]
    · rw [eMn4 _ _ (.inl (by decide)), eMn3 _ _ (.inr (by omega)), hb_vc (ho2 98 (by decide))]
  refine K Mn4 _ hmn4 ?_ hD (by omega) (by omega)
  intro k
  by_cases e : k = 13
  · subst e
    show hv Mn4 8 7 = hb_cnt (fun i => !decide (hv Mn4 (93 + 5 * (i / 32)) (i % 32) = -1)) 128
    rw [hb_cnt_u (p := fun i => !decide (hv M (93 + 5 * (i / 32)) (i % 32) = -1)) (k := 32 * 1 + nm.toNat) (by omega) ?_ ?_ ?_, ← h5, sMn4]
    · omega
    · show (!decide (hv M (93 + 5 * ((32 * 1 + nm.toNat) / 32)) ((32 * 1 + nm.toNat) % 32) = -1)) = false
      rw [e32.1, e32.2]
      have : hv M (93 + 5 * 1) nm.toNat = -1 := hdf
      rw [this]
      rfl
    · show (!decide (hv Mn4 (93 + 5 * ((32 * 1 + nm.toNat) / 32)) ((32 * 1 + nm.toNat) % 32) = -1)) = true
      rw [e32.1, e32.2]
      have h1 : hv Mn4 (93 + 5 * 1) nm.toNat = vn118.toInt := by
        rw [eMn4 _ _ (.inl (by decide)), show nm.toNat = vn114.toInt.toNat by omega]
        exact sMn3
      rw [h1, decide_eq_false (by omega)]
      rfl
    · intro j h1 h2
      show (!decide (hv Mn4 (93 + 5 * (j / 32)) (j % 32) = -1)) = (!decide (hv M (93 + 5 * (j / 32)) (j % 32) = -1))
      have h3 : hv Mn4 (93 + 5 * (j / 32)) (j % 32) = hv M (93 + 5 * (j / 32)) (j % 32) := by
        by_cases h4 : j / 32 = 1
        · rw [h4]
          exact hD.2.2 _ (by omega)
        · exact hb_vc (hD.1 _ (by omega) (by omega) (by omega)) _
      rw [h3]
  · refine hxk_c (fun a j hs => ?_) (hx k)
    by_cases ha : a = 8 ∨ a = 40 ∨ a = 93 ∨ a = 98 ∨ a = 103 ∨ a = 108
    · rw [hl_dsp k a j e ha] at hs
      cases hs
    · exact hb_vc (hD.1 a (by omega) (by omega) (by omega)) j
theorem hl_def2 {d z u i : Nat} {Q : (Option Value ⊕ Nat) → mq_S → Prop} {M : Nat → mq_C} {x1 x3 : Int32} {nm : Int} (hi : i < 41) (hm : mz_sh mz_GG M) (hx : HX M) (p1 : x1.toInt = 2) (p3 : 0 ≤ x3.toInt) (p3' : x3.toInt ≤ 3) (hn : hv M (111 + 3 * i) 0 = nm) (hn0 : 0 ≤ nm) (hn1 : nm ≤ 31) (hdf : hv M 103 nm.toNat = -1)
    (K : ∀ (M' : Nat → mq_C) (r : Int32), mz_sh mz_GG M' → HX M' → hl_D 103 nm.toNat M M' → 0 ≤ r.toInt → r.toInt ≤ 127 → Q (.inl (some (.int r))) (M', z, u)) : mq_R mq_PP d 43 0 [some (.ref 8), some (.int x1), some (.ref (111 + 3 * i)), some (.int x3), none, none] [] (M, z, u) Q := by
  have h5 : hv M 8 7 = hb_cnt (fun i => !decide (hv M (93 + 5 * (i / 32)) (i % 32) = -1)) 128 := hx 13
  have e32 : (32 * 2 + nm.toNat) / 32 = 2 ∧ (32 * 2 + nm.toNat) % 32 = nm.toNat := by omega
  have hlt : hv M 8 7 ≤ 127 := by
    rw [h5]
    have := hb_cnt_lt (p := fun i => !decide (hv M (93 + 5 * (i / 32)) (i % 32) = -1)) (k := 32 * 2 + nm.toNat) (by
      show (!decide (hv M (93 + 5 * ((32 * 2 + nm.toNat) / 32)) ((32 * 2 + nm.toNat) % 32) = -1)) = false
      rw [e32.1, e32.2]
      have : hv M (93 + 5 * 2) nm.toNat = -1 := hdf
      rw [this]
      rfl) 128 (by omega)
    omega
  refine he_iconst (n := 2) (c := 8) (by decide +kernel) (by decide) ?_
  intro c0 hc0
  refine he_aload (n := 3) (i := 0) (by decide +kernel) rfl ?_
  refine hb_gfd (n := 6) (ci := 0) (j := 7) (ns := [2084, 49]) hm (by decide +kernel) rfl rfl (by decide) rfl ?_
  intro v3 hv3 lv3 uv3
  refine he_imul (n := 7) (p := 8 * v3.toInt) (by decide +kernel) (by rw [hc0]) (by omega) (by omega) ?_
  intro v6 hv6
  refine he_istore (n := 9) (i := 4) (by decide +kernel) rfl ?_
  refine he_aload (n := 10) (i := 0) (by decide +kernel) rfl ?_
  refine he_getr (n := 13) (ci := 0) (j := 6) (ns := [2083, 45]) (b := 40) hm (by decide +kernel) rfl rfl (by decide +kernel) ?_
  refine he_iload (n := 15) (i := 4) (by decide +kernel) rfl ?_
  refine he_iconst (n := 16) (c := 0) (by decide +kernel) (by decide) ?_
  intro c15 hc15
  refine he_iadd (n := 17) (by decide +kernel) (by omega) (by omega) ?_
  intro v16 hv16
  refine he_aload (n := 18) (i := 2) (by decide +kernel) rfl ?_
  refine hb_gfd (n := 21) (ci := 2) (j := 0) (ns := [2057, 311]) hm (by decide +kernel) (hl_cell hi) rfl (show 0 < 5 by decide) rfl ?_
  intro v18 hv18 lv18 uv18
  have q18 : v18.toInt = nm := by omega
  refine hb_sta (n := 22) (kind := 64) hm (by decide +kernel) rfl rfl (.inl rfl) (by omega) (show _ < (1024 : Int) by omega) ?_
  generalize hM1 : hb_set M 40 (v16.toInt.toNat) v18 = M1
  have hm1 : mz_sh mz_GG M1 := by rw [← hM1]; exact hb_set_sh hm rfl (hl_tp0 (by omega)) (by omega) (by omega)
  have eM1 : ∀ b j, b ≠ 40 ∨ j ≠ v16.toInt.toNat → hv M1 b j = hv M b j := by intro b j h; rw [← hM1]; exact hb_set_n h
  have sM1 : hv M1 40 (v16.toInt.toNat) = v18.toInt := by rw [← hM1]; exact hb_set_v hm rfl (show _ < 1024 by omega)
  have wM1 : ∀ b, b ≠ 40 → M1 b = M b := by intro b h; rw [← hM1]; exact hb_set_c h
  refine he_aload (n := 23) (i := 0) (by decide +kernel) rfl ?_
  refine he_getr (n := 26) (ci := 0) (j := 6) (ns := [2083, 45]) (b := 40) hm1 (by decide +kernel) rfl rfl (by decide +kernel) ?_
  refine he_iload (n := 28) (i := 4) (by decide +kernel) rfl ?_
  refine he_iconst (n := 29) (c := 1) (by decide +kernel) (by decide) ?_
  intro c28 hc28
  refine he_iadd (n := 30) (by decide +kernel) (by omega) (by omega) ?_
  intro v29 hv29
  refine he_iload (n := 31) (i := 1) (by decide +kernel) rfl ?_
  refine hb_sta (n := 32) (kind := 64) hm1 (by decide +kernel) rfl rfl (.inl rfl) (by omega) (show _ < (1024 : Int) by omega) ?_
  generalize hM2 : hb_set M1 40 (v29.toInt.toNat) x1 = M2
  have hm2 : mz_sh mz_GG M2 := by rw [← hM2]; exact hb_set_sh hm1 rfl (hl_tp1 (by omega)) (by omega) (by omega)
  have eM2 : ∀ b j, b ≠ 40 ∨ j ≠ v29.toInt.toNat → hv M2 b j = hv M1 b j := by intro b j h; rw [← hM2]; exact hb_set_n h
  have sM2 : hv M2 40 (v29.toInt.toNat) = x1.toInt := by rw [← hM2]; exact hb_set_v hm1 rfl (show _ < 1024 by omega)
  have wM2 : ∀ b, b ≠ 40 → M2 b = M1 b := by intro b h; rw [← hM2]; exact hb_set_c h
  refine he_aload (n := 33) (i := 0) (by decide +kernel) rfl ?_
  refine he_getr (n := 36) (ci := 0) (j := 6) (ns := [2083, 45]) (b := 40) hm2 (by decide +kernel) rfl rfl (by decide +kernel) ?_
  refine he_iload (n := 38) (i := 4) (by decide +kernel) rfl ?_
  refine he_iconst (n := 39) (c := 2) (by decide +kernel) (by decide) ?_
  intro c38 hc38
  refine he_iadd (n := 40) (by decide +kernel) (by omega) (by omega) ?_
  intro v39 hv39
  refine he_iload (n := 41) (i := 3) (by decide +kernel) rfl ?_
  refine hb_sta (n := 42) (kind := 64) hm2 (by decide +kernel) rfl rfl (.inl rfl) (by omega) (show _ < (1024 : Int) by omega) ?_
  generalize hM3 : hb_set M2 40 (v39.toInt.toNat) x3 = M3
  have hm3 : mz_sh mz_GG M3 := by rw [← hM3]; exact hb_set_sh hm2 rfl (hl_tp2 (by omega)) (by omega) (by omega)
  have eM3 : ∀ b j, b ≠ 40 ∨ j ≠ v39.toInt.toNat → hv M3 b j = hv M2 b j := by intro b j h; rw [← hM3]; exact hb_set_n h
  have sM3 : hv M3 40 (v39.toInt.toNat) = x3.toInt := by rw [← hM3]; exact hb_set_v hm2 rfl (show _ < 1024 by omega)
  have wM3 : ∀ b, b ≠ 40 → M3 b = M2 b := by intro b h; rw [← hM3]; exact hb_set_c h
  refine he_iconst (n := 43) (c := 0) (by decide +kernel) (by decide) ?_
  intro c42 hc42
  refine he_istore (n := 45) (i := 5) (by decide +kernel) rfl ?_
  have ho3 : hb_only [40] M M3 := hb_only_s (hb_only_s (hb_only_s hb_only_r (by decide) wM1) (by decide) wM2) (by decide) wM3
  refine hl_dl (M0 := M) (tc := v3.toInt) hi (by omega) (by omega) (by omega) ?_ 3 M3 c42 (by omega) (by omega) hm3 ho3
  intro N0 y5 hN0 hoN
  refine he_aload (n := 77) (i := 0) (by decide +kernel) rfl ?_
  refine he_getr (n := 80) (ci := 0) (j := 6) (ns := [2083, 45]) (b := 40) hN0 (by decide +kernel) rfl rfl (by decide +kernel) ?_
  refine he_iload (n := 82) (i := 4) (by decide +kernel) rfl ?_
  refine he_iconst (n := 84) (c := 6) (by decide +kernel) (by decide) ?_
  intro cn82 hcn82
  refine he_iadd (n := 85) (by decide +kernel) (by omega) (by omega) ?_
  intro vn84 hvn84
  refine he_aload (n := 86) (i := 2) (by decide +kernel) rfl ?_
  refine hb_gfd (n := 89) (ci := 2) (j := 2) (ns := [2061, 318]) hN0 (by decide +kernel) (hl_cell hi) rfl (show 2 < 5 by decide) rfl ?_
  intro vn86 hvn86 lvn86 uvn86
  refine hb_sta (n := 90) (kind := 64) hN0 (by decide +kernel) rfl rfl (.inl rfl) (by omega) (show _ < (1024 : Int) by omega) ?_
  generalize hMn1 : hb_set N0 40 (vn84.toInt.toNat) vn86 = Mn1
  have hmn1 : mz_sh mz_GG Mn1 := by rw [← hMn1]; exact hb_set_sh hN0 rfl (hl_tp6 (by omega)) (by omega) (by omega)
  have eMn1 : ∀ b j, b ≠ 40 ∨ j ≠ vn84.toInt.toNat → hv Mn1 b j = hv N0 b j := by intro b j h; rw [← hMn1]; exact hb_set_n h
  have sMn1 : hv Mn1 40 (vn84.toInt.toNat) = vn86.toInt := by rw [← hMn1]; exact hb_set_v hN0 rfl (show _ < 1024 by omega)
  have wMn1 : ∀ b, b ≠ 40 → Mn1 b = N0 b := by intro b h; rw [← hMn1]; exact hb_set_c h
  refine he_aload (n := 91) (i := 0) (by decide +kernel) rfl ?_
  refine he_getr (n := 94) (ci := 0) (j := 6) (ns := [2083, 45]) (b := 40) hmn1 (by decide +kernel) rfl rfl (by decide +kernel) ?_
  refine he_iload (n := 96) (i := 4) (by decide +kernel) rfl ?_
  refine he_iconst (n := 98) (c := 7) (by decide +kernel) (by decide) ?_
  intro cn96 hcn96
  refine he_iadd (n := 99) (by decide +kernel) (by omega) (by omega) ?_
  intro vn98 hvn98
  refine he_aload (n := 100) (i := 2) (by decide +kernel) rfl ?_
  refine hb_gfd (n := 103) (ci := 2) (j := 1) (ns := [2059, 321]) hmn1 (by decide +kernel) (hl_cell hi) rfl (show 1 < 5 by decide) rfl ?_
  intro vn100 hvn100 lvn100 uvn100
  refine hb_sta (n := 104) (kind := 64) hmn1 (by decide +kernel) rfl rfl (.inl rfl) (by omega) (show _ < (1024 : Int) by omega) ?_
  generalize hMn2 : hb_set Mn1 40 (vn98.toInt.toNat) vn100 = Mn2
  have hmn2 : mz_sh mz_GG Mn2 := by rw [← hMn2]; exact hb_set_sh hmn1 rfl (hl_tp7 (by omega)) (by omega) (by omega)
  have eMn2 : ∀ b j, b ≠ 40 ∨ j ≠ vn98.toInt.toNat → hv Mn2 b j = hv Mn1 b j := by intro b j h; rw [← hMn2]; exact hb_set_n h
  have sMn2 : hv Mn2 40 (vn98.toInt.toNat) = vn100.toInt := by rw [← hMn2]; exact hb_set_v hmn1 rfl (show _ < 1024 by omega)
  have wMn2 : ∀ b, b ≠ 40 → Mn2 b = Mn1 b := by intro b h; rw [← hMn2]; exact hb_set_c h
  refine he_aload (n := 105) (i := 0) (by decide +kernel) rfl ?_
  refine he_getr (n := 108) (ci := 0) (j := 3) (ns := [2080, 31]) (b := 38) hmn2 (by decide +kernel) rfl rfl (by decide +kernel) ?_
  refine he_iload (n := 109) (i := 1) (by decide +kernel) rfl ?_
  refine he_aald (n := 110) (kind := 75) (b := 101) hmn2 (by decide +kernel) rfl rfl (by decide) (by omega) (by rw [show x1.toInt.toNat = 2 by omega]; decide +kernel) ?_
  refine he_getr (n := 113) (ci := 5) (j := 4) (ns := [2031, 263]) (b := 103) hmn2 (by decide +kernel) rfl rfl (by decide +kernel) ?_
  refine he_aload (n := 114) (i := 2) (by decide +kernel) rfl ?_
  refine hb_gfd (n := 117) (ci := 2) (j := 0) (ns := [2057, 311]) hmn2 (by decide +kernel) (hl_cell hi) rfl (show 0 < 5 by decide) rfl ?_
  intro vn114 hvn114 lvn114 uvn114
  refine he_aload (n := 118) (i := 0) (by decide +kernel) rfl ?_
  refine hb_gfd (n := 121) (ci := 0) (j := 7) (ns := [2084, 49]) hmn2 (by decide +kernel) rfl rfl (by decide) rfl ?_
  intro vn118 hvn118 lvn118 uvn118
  have ho2 : hb_only [40] M Mn2 := hb_only_s (hb_only_s hoN (by decide) wMn1) (by decide) wMn2
  have qn : vn114.toInt = nm := by
    rw [← hvn114, hb_vc (ho2 (111 + 3 * i) (by simp only [List.elem_eq_mem, decide_eq_false_iff_not, List.mem_cons, List.not_mem_nil, or_false]; omega))]
    exact hn
  have qt : vn118.toInt = hv M 8 7 := by
    rw [← hvn118, hb_vc (ho2 8 (by decide))]
  refine hb_sta (n := 122) (kind := 64) hmn2 (by decide +kernel) rfl rfl (.inl rfl) (by omega) (show _ < (32 : Int) by omega) ?_
  generalize hMn3 : hb_set Mn2 103 (vn114.toInt.toNat) vn118 = Mn3
  have hmn3 : mz_sh mz_GG Mn3 := by rw [← hMn3]; exact hb_set_sh hmn2 rfl hb_at1 (by omega) (by omega)
  have eMn3 : ∀ b j, b ≠ 103 ∨ j ≠ vn114.toInt.toNat → hv Mn3 b j = hv Mn2 b j := by intro b j h; rw [← hMn3]; exact hb_set_n h
  have sMn3 : hv Mn3 103 (vn114.toInt.toNat) = vn118.toInt := by rw [← hMn3]; exact hb_set_v hmn2 rfl (show _ < 32 by omega)
  have wMn3 : ∀ b, b ≠ 103 → Mn3 b = Mn2 b := by intro b h; rw [← hMn3]; exact hb_set_c h
  refine he_aload (n := 123) (i := 0) (by decide +kernel) rfl ?_
  refine he_dup_r (n := 124) (by decide +kernel) ?_
  refine hb_gfd (n := 127) (ci := 0) (j := 7) (ns := [2084, 49]) hmn3 (by decide +kernel) rfl rfl (by decide) rfl ?_
  intro vn124 hvn124 lvn124 uvn124
  refine he_iconst (n := 128) (c := 1) (by decide +kernel) (by decide) ?_
  intro cn127 hcn127
  refine he_iadd (n := 129) (by decide +kernel) (by omega) (by omega) ?_
  intro vn128 hvn128
  have q9 : vn124.toInt = hv M 8 7 := by
    rw [← hvn124, eMn3 _ _ (.inl (by decide)), hb_vc (ho2 8 (by decide))]
  refine hb_pfd (n := 132) (ci := 0) (j := 7) (t := 0) (ns := [2084, 49]) hmn3 (by decide +kernel) rfl rfl (by decide) (.inl rfl) ?_
  generalize hMn4 : hb_set Mn3 8 7 vn128 = Mn4
  have hmn4 : mz_sh mz_GG Mn4 := by rw [← hMn4]; exact hb_set_sh hmn3 rfl rfl (by omega) (by omega)
  have eMn4 : ∀ b j, b ≠ 8 ∨ j ≠ 7 → hv Mn4 b j = hv Mn3 b j := by intro b j h; rw [← hMn4]; exact hb_set_n h
  have sMn4 : hv Mn4 8 7 = vn128.toInt := by rw [← hMn4]; exact hb_set_v hmn3 rfl (by decide)
  have wMn4 : ∀ b, b ≠ 8 → Mn4 b = Mn3 b := by intro b h; rw [← hMn4]; exact hb_set_c h
  refine he_aload (n := 133) (i := 0) (by decide +kernel) rfl ?_
  refine hb_gfd (n := 136) (ci := 0) (j := 7) (ns := [2084, 49]) hmn4 (by decide +kernel) rfl rfl (by decide) rfl ?_
  intro vn133 hvn133 lvn133 uvn133
  refine he_iconst (n := 137) (c := 1) (by decide +kernel) (by decide) ?_
  intro cn136 hcn136
  refine he_isub (n := 138) (by decide +kernel) (by omega) (by omega) ?_
  intro vn137 hvn137
  refine he_reti (by decide +kernel) ?_
  have hD : hl_D 103 nm.toNat M Mn4 := by
    refine ⟨fun a h1 h2 h3 => (wMn4 a h1).trans ((wMn3 a h3).trans (ho2 a ?_)), fun j hj => ?_, fun j hj => ?_⟩
    · simp only [List.elem_eq_mem, decide_eq_false_iff_not, List.mem_cons, List.not_mem_nil, or_false]
      exact h2
    · rw [eMn4 _ _ (.inr hj), eMn3 _ _ (.inl (by decide)), hb_vc (ho2 8 (by decide))]
    · rw [eMn4 _ _ (.inl (by decide)), eMn3 _ _ (.inr (by omega)), hb_vc (ho2 103 (by decide))]
  refine K Mn4 _ hmn4 ?_ hD (by omega) (by omega)
  intro k
  by_cases e : k = 13
  · subst e
    show hv Mn4 8 7 = hb_cnt (fun i => !decide (hv Mn4 (93 + 5 * (i / 32)) (i % 32) = -1)) 128
    rw [hb_cnt_u (p := fun i => !decide (hv M (93 + 5 * (i / 32)) (i % 32) = -1)) (k := 32 * 2 + nm.toNat) (by omega) ?_ ?_ ?_, ← h5, sMn4]
    · omega
    · show (!decide (hv M (93 + 5 * ((32 * 2 + nm.toNat) / 32)) ((32 * 2 + nm.toNat) % 32) = -1)) = false
      rw [e32.1, e32.2]
      have : hv M (93 + 5 * 2) nm.toNat = -1 := hdf
      rw [this]
      rfl
    · show (!decide (hv Mn4 (93 + 5 * ((32 * 2 + nm.toNat) / 32)) ((32 * 2 + nm.toNat) % 32) = -1)) = true
      rw [e32.1, e32.2]
      have h1 : hv Mn4 (93 + 5 * 2) nm.toNat = vn118.toInt := by
        rw [eMn4 _ _ (.inl (by decide)), show nm.toNat = vn114.toInt.toNat by omega]
        exact sMn3
      rw [h1, decide_eq_false (by omega)]
      rfl
    · intro j h1 h2
      show (!decide (hv Mn4 (93 + 5 * (j / 32)) (j % 32) = -1)) = (!decide (hv M (93 + 5 * (j / 32)) (j % 32) = -1))
      have h3 : hv Mn4 (93 + 5 * (j / 32)) (j % 32) = hv M (93 + 5 * (j / 32)) (j % 32) := by
        by_cases h4 : j / 32 = 2
        · rw [h4]
          exact hD.2.2 _ (by omega)
        · exact hb_vc (hD.1 _ (by omega) (by omega) (by omega)) _
      rw [h3]
  · refine hxk_c (fun a j hs => ?_) (hx k)
    by_cases ha : a = 8 ∨ a = 40 ∨ a = 93 ∨ a = 98 ∨ a = 103 ∨ a = 108
    · rw [hl_dsp k a j e ha] at hs
      cases hs
    · exact hb_vc (hD.1 a (by omega) (by omega) (by omega)) j
theorem hl_def3 {d z u i : Nat} {Q : (Option Value ⊕ Nat) → mq_S → Prop} {M : Nat → mq_C} {x1 x3 : Int32} {nm : Int} (hi : i < 41) (hm : mz_sh mz_GG M) (hx : HX M) (p1 : x1.toInt = 3) (p3 : 0 ≤ x3.toInt) (p3' : x3.toInt ≤ 3) (hn : hv M (111 + 3 * i) 0 = nm) (hn0 : 0 ≤ nm) (hn1 : nm ≤ 31) (hdf : hv M 108 nm.toNat = -1)
    (K : ∀ (M' : Nat → mq_C) (r : Int32), mz_sh mz_GG M' → HX M' → hl_D 108 nm.toNat M M' → 0 ≤ r.toInt → r.toInt ≤ 127 → Q (.inl (some (.int r))) (M', z, u)) : mq_R mq_PP d 43 0 [some (.ref 8), some (.int x1), some (.ref (111 + 3 * i)), some (.int x3), none, none] [] (M, z, u) Q := by
  have h5 : hv M 8 7 = hb_cnt (fun i => !decide (hv M (93 + 5 * (i / 32)) (i % 32) = -1)) 128 := hx 13
  have e32 : (32 * 3 + nm.toNat) / 32 = 3 ∧ (32 * 3 + nm.toNat) % 32 = nm.toNat := by omega
  have hlt : hv M 8 7 ≤ 127 := by
    rw [h5]
    have := hb_cnt_lt (p := fun i => !decide (hv M (93 + 5 * (i / 32)) (i % 32) = -1)) (k := 32 * 3 + nm.toNat) (by
      show (!decide (hv M (93 + 5 * ((32 * 3 + nm.toNat) / 32)) ((32 * 3 + nm.toNat) % 32) = -1)) = false
      rw [e32.1, e32.2]
      have : hv M (93 + 5 * 3) nm.toNat = -1 := hdf
      rw [this]
      rfl) 128 (by omega)
    omega
  refine he_iconst (n := 2) (c := 8) (by decide +kernel) (by decide) ?_
  intro c0 hc0
  refine he_aload (n := 3) (i := 0) (by decide +kernel) rfl ?_
  refine hb_gfd (n := 6) (ci := 0) (j := 7) (ns := [2084, 49]) hm (by decide +kernel) rfl rfl (by decide) rfl ?_
  intro v3 hv3 lv3 uv3
  refine he_imul (n := 7) (p := 8 * v3.toInt) (by decide +kernel) (by rw [hc0]) (by omega) (by omega) ?_
  intro v6 hv6
  refine he_istore (n := 9) (i := 4) (by decide +kernel) rfl ?_
  refine he_aload (n := 10) (i := 0) (by decide +kernel) rfl ?_
  refine he_getr (n := 13) (ci := 0) (j := 6) (ns := [2083, 45]) (b := 40) hm (by decide +kernel) rfl rfl (by decide +kernel) ?_
  refine he_iload (n := 15) (i := 4) (by decide +kernel) rfl ?_
  refine he_iconst (n := 16) (c := 0) (by decide +kernel) (by decide) ?_
  intro c15 hc15
  refine he_iadd (n := 17) (by decide +kernel) (by omega) (by omega) ?_
  intro v16 hv16
  refine he_aload (n := 18) (i := 2) (by decide +kernel) rfl ?_
  refine hb_gfd (n := 21) (ci := 2) (j := 0) (ns := [2057, 311]) hm (by decide +kernel) (hl_cell hi) rfl (show 0 < 5 by decide) rfl ?_
  intro v18 hv18 lv18 uv18
  have q18 : v18.toInt = nm := by omega
  refine hb_sta (n := 22) (kind := 64) hm (by decide +kernel) rfl rfl (.inl rfl) (by omega) (show _ < (1024 : Int) by omega) ?_
  generalize hM1 : hb_set M 40 (v16.toInt.toNat) v18 = M1
  have hm1 : mz_sh mz_GG M1 := by rw [← hM1]; exact hb_set_sh hm rfl (hl_tp0 (by omega)) (by omega) (by omega)
  have eM1 : ∀ b j, b ≠ 40 ∨ j ≠ v16.toInt.toNat → hv M1 b j = hv M b j := by intro b j h; rw [← hM1]; exact hb_set_n h
  have sM1 : hv M1 40 (v16.toInt.toNat) = v18.toInt := by rw [← hM1]; exact hb_set_v hm rfl (show _ < 1024 by omega)
  have wM1 : ∀ b, b ≠ 40 → M1 b = M b := by intro b h; rw [← hM1]; exact hb_set_c h
  refine he_aload (n := 23) (i := 0) (by decide +kernel) rfl ?_
  refine he_getr (n := 26) (ci := 0) (j := 6) (ns := [2083, 45]) (b := 40) hm1 (by decide +kernel) rfl rfl (by decide +kernel) ?_
  refine he_iload (n := 28) (i := 4) (by decide +kernel) rfl ?_
  refine he_iconst (n := 29) (c := 1) (by decide +kernel) (by decide) ?_
  intro c28 hc28
  refine he_iadd (n := 30) (by decide +kernel) (by omega) (by omega) ?_
  intro v29 hv29
  refine he_iload (n := 31) (i := 1) (by decide +kernel) rfl ?_
  refine hb_sta (n := 32) (kind := 64) hm1 (by decide +kernel) rfl rfl (.inl rfl) (by omega) (show _ < (1024 : Int) by omega) ?_
  generalize hM2 : hb_set M1 40 (v29.toInt.toNat) x1 = M2
  have hm2 : mz_sh mz_GG M2 := by rw [← hM2]; exact hb_set_sh hm1 rfl (hl_tp1 (by omega)) (by omega) (by omega)
  have eM2 : ∀ b j, b ≠ 40 ∨ j ≠ v29.toInt.toNat → hv M2 b j = hv M1 b j := by intro b j h; rw [← hM2]; exact hb_set_n h
  have sM2 : hv M2 40 (v29.toInt.toNat) = x1.toInt := by rw [← hM2]; exact hb_set_v hm1 rfl (show _ < 1024 by omega)
  have wM2 : ∀ b, b ≠ 40 → M2 b = M1 b := by intro b h; rw [← hM2]; exact hb_set_c h
  refine he_aload (n := 33) (i := 0) (by decide +kernel) rfl ?_
  refine he_getr (n := 36) (ci := 0) (j := 6) (ns := [2083, 45]) (b := 40) hm2 (by decide +kernel) rfl rfl (by decide +kernel) ?_
  refine he_iload (n := 38) (i := 4) (by decide +kernel) rfl ?_
  refine he_iconst (n := 39) (c := 2) (by decide +kernel) (by decide) ?_
  intro c38 hc38
  refine he_iadd (n := 40) (by decide +kernel) (by omega) (by omega) ?_
  intro v39 hv39
  refine he_iload (n := 41) (i := 3) (by decide +kernel) rfl ?_
  refine hb_sta (n := 42) (kind := 64) hm2 (by decide +kernel) rfl rfl (.inl rfl) (by omega) (show _ < (1024 : Int) by omega) ?_
  generalize hM3 : hb_set M2 40 (v39.toInt.toNat) x3 = M3
  have hm3 : mz_sh mz_GG M3 := by rw [← hM3]; exact hb_set_sh hm2 rfl (hl_tp2 (by omega)) (by omega) (by omega)
  have eM3 : ∀ b j, b ≠ 40 ∨ j ≠ v39.toInt.toNat → hv M3 b j = hv M2 b j := by intro b j h; rw [← hM3]; exact hb_set_n h
  have sM3 : hv M3 40 (v39.toInt.toNat) = x3.toInt := by rw [← hM3]; exact hb_set_v hm2 rfl (show _ < 1024 by omega)
  have wM3 : ∀ b, b ≠ 40 → M3 b = M2 b := by intro b h; rw [← hM3]; exact hb_set_c h
  refine he_iconst (n := 43) (c := 0) (by decide +kernel) (by decide) ?_
  intro c42 hc42
  refine he_istore (n := 45) (i := 5) (by decide +kernel) rfl ?_
  have ho3 : hb_only [40] M M3 := hb_only_s (hb_only_s (hb_only_s hb_only_r (by decide) wM1) (by decide) wM2) (by decide) wM3
  refine hl_dl (M0 := M) (tc := v3.toInt) hi (by omega) (by omega) (by omega) ?_ 3 M3 c42 (by omega) (by omega) hm3 ho3
  intro N0 y5 hN0 hoN
  refine he_aload (n := 77) (i := 0) (by decide +kernel) rfl ?_
  refine he_getr (n := 80) (ci := 0) (j := 6) (ns := [2083, 45]) (b := 40) hN0 (by decide +kernel) rfl rfl (by decide +kernel) ?_
  refine he_iload (n := 82) (i := 4) (by decide +kernel) rfl ?_
  refine he_iconst (n := 84) (c := 6) (by decide +kernel) (by decide) ?_
  intro cn82 hcn82
  refine he_iadd (n := 85) (by decide +kernel) (by omega) (by omega) ?_
  intro vn84 hvn84
  refine he_aload (n := 86) (i := 2) (by decide +kernel) rfl ?_
  refine hb_gfd (n := 89) (ci := 2) (j := 2) (ns := [2061, 318]) hN0 (by decide +kernel) (hl_cell hi) rfl (show 2 < 5 by decide) rfl ?_
  intro vn86 hvn86 lvn86 uvn86
  refine hb_sta (n := 90) (kind := 64) hN0 (by decide +kernel) rfl rfl (.inl rfl) (by omega) (show _ < (1024 : Int) by omega) ?_
  generalize hMn1 : hb_set N0 40 (vn84.toInt.toNat) vn86 = Mn1
  have hmn1 : mz_sh mz_GG Mn1 := by rw [← hMn1]; exact hb_set_sh hN0 rfl (hl_tp6 (by omega)) (by omega) (by omega)
  have eMn1 : ∀ b j, b ≠ 40 ∨ j ≠ vn84.toInt.toNat → hv Mn1 b j = hv N0 b j := by intro b j h; rw [← hMn1]; exact hb_set_n h
  have sMn1 : hv Mn1 40 (vn84.toInt.toNat) = vn86.toInt := by rw [← hMn1]; exact hb_set_v hN0 rfl (show _ < 1024 by omega)
  have wMn1 : ∀ b, b ≠ 40 → Mn1 b = N0 b := by intro b h; rw [← hMn1]; exact hb_set_c h
  refine he_aload (n := 91) (i := 0) (by decide +kernel) rfl ?_
  refine he_getr (n := 94) (ci := 0) (j := 6) (ns := [2083, 45]) (b := 40) hmn1 (by decide +kernel) rfl rfl (by decide +kernel) ?_
  refine he_iload (n := 96) (i := 4) (by decide +kernel) rfl ?_
  refine he_iconst (n := 98) (c := 7) (by decide +kernel) (by decide) ?_
  intro cn96 hcn96
  refine he_iadd (n := 99) (by decide +kernel) (by omega) (by omega) ?_
  intro vn98 hvn98
  refine he_aload (n := 100) (i := 2) (by decide +kernel) rfl ?_
  refine hb_gfd (n := 103) (ci := 2) (j := 1) (ns := [2059, 321]) hmn1 (by decide +kernel) (hl_cell hi) rfl (show 1 < 5 by decide) rfl ?_
  intro vn100 hvn100 lvn100 uvn100
  refine hb_sta (n := 104) (kind := 64) hmn1 (by decide +kernel) rfl rfl (.inl rfl) (by omega) (show _ < (1024 : Int) by omega) ?_
  generalize hMn2 : hb_set Mn1 40 (vn98.toInt.toNat) vn100 = Mn2
  have hmn2 : mz_sh mz_GG Mn2 := by rw [← hMn2]; exact hb_set_sh hmn1 rfl (hl_tp7 (by omega)) (by omega) (by omega)
  have eMn2 : ∀ b j, b ≠ 40 ∨ j ≠ vn98.toInt.toNat → hv Mn2 b j = hv Mn1 b j := by intro b j h; rw [← hMn2]; exact hb_set_n h
  have sMn2 : hv Mn2 40 (vn98.toInt.toNat) = vn100.toInt := by rw [← hMn2]; exact hb_set_v hmn1 rfl (show _ < 1024 by omega)
  have wMn2 : ∀ b, b ≠ 40 → Mn2 b = Mn1 b := by intro b h; rw [← hMn2]; exact hb_set_c h
  refine he_aload (n := 105) (i := 0) (by decide +kernel) rfl ?_
  refine he_getr (n := 108) (ci := 0) (j := 3) (ns := [2080, 31]) (b := 38) hmn2 (by decide +kernel) rfl rfl (by decide +kernel) ?_
  refine he_iload (n := 109) (i := 1) (by decide +kernel) rfl ?_
  refine he_aald (n := 110) (kind := 75) (b := 106) hmn2 (by decide +kernel) rfl rfl (by decide) (by omega) (by rw [show x1.toInt.toNat = 3 by omega]; decide +kernel) ?_
  refine he_getr (n := 113) (ci := 5) (j := 4) (ns := [2031, 263]) (b := 108) hmn2 (by decide +kernel) rfl rfl (by decide +kernel) ?_
  refine he_aload (n := 114) (i := 2) (by decide +kernel) rfl ?_
  refine hb_gfd (n := 117) (ci := 2) (j := 0) (ns := [2057, 311]) hmn2 (by decide +kernel) (hl_cell hi) rfl (show 0 < 5 by decide) rfl ?_
  intro vn114 hvn114 lvn114 uvn114
  refine he_aload (n := 118) (i := 0) (by decide +kernel) rfl ?_
  refine hb_gfd (n := 121) (ci := 0) (j := 7) (ns := [2084, 49]) hmn2 (by decide +kernel) rfl rfl (by decide) rfl ?_
  intro vn118 hvn118 lvn118 uvn118
  have ho2 : hb_only [40] M Mn2 := hb_only_s (hb_only_s hoN (by decide) wMn1) (by decide) wMn2
  have qn : vn114.toInt = nm := by
    rw [← hvn114, hb_vc (ho2 (111 + 3 * i) (by simp only [List.elem_eq_mem, decide_eq_false_iff_not, List.mem_cons, List.not_mem_nil, or_false]; omega))]
    exact hn
  have qt : vn118.toInt = hv M 8 7 := by
    rw [← hvn118, hb_vc (ho2 8 (by decide))]
  refine hb_sta (n := 122) (kind := 64) hmn2 (by decide +kernel) rfl rfl (.inl rfl) (by omega) (show _ < (32 : Int) by omega) ?_
  generalize hMn3 : hb_set Mn2 108 (vn114.toInt.toNat) vn118 = Mn3
  have hmn3 : mz_sh mz_GG Mn3 := by rw [← hMn3]; exact hb_set_sh hmn2 rfl hb_at1 (by omega) (by omega)
  have eMn3 : ∀ b j, b ≠ 108 ∨ j ≠ vn114.toInt.toNat → hv Mn3 b j = hv Mn2 b j := by intro b j h; rw [← hMn3]; exact hb_set_n h
  have sMn3 : hv Mn3 108 (vn114.toInt.toNat) = vn118.toInt := by rw [← hMn3]; exact hb_set_v hmn2 rfl (show _ < 32 by omega)
  have wMn3 : ∀ b, b ≠ 108 → Mn3 b = Mn2 b := by intro b h; rw [← hMn3]; exact hb_set_c h
  refine he_aload (n := 123) (i := 0) (by decide +kernel) rfl ?_
  refine he_dup_r (n := 124) (by decide +kernel) ?_
  refine hb_gfd (n := 127) (ci := 0) (j := 7) (ns := [2084, 49]) hmn3 (by decide +kernel) rfl rfl (by decide) rfl ?_
  intro vn124 hvn124 lvn124 uvn124
  refine he_iconst (n := 128) (c := 1) (by decide +kernel) (by decide) ?_
  intro cn127 hcn127
  refine he_iadd (n := 129) (by decide +kernel) (by omega) (by omega) ?_
  intro vn128 hvn128
  have q9 : vn124.toInt = hv M 8 7 := by
    rw [← hvn124, eMn3 _ _ (.inl (by decide)), hb_vc (ho2 8 (by decide))]
  refine hb_pfd (n := 132) (ci := 0) (j := 7) (t := 0) (ns := [2084, 49]) hmn3 (by decide +kernel) rfl rfl (by decide) (.inl rfl) ?_
  generalize hMn4 : hb_set Mn3 8 7 vn128 = Mn4
  have hmn4 : mz_sh mz_GG Mn4 := by rw [← hMn4]; exact hb_set_sh hmn3 rfl rfl (by omega) (by omega)
  have eMn4 : ∀ b j, b ≠ 8 ∨ j ≠ 7 → hv Mn4 b j = hv Mn3 b j := by intro b j h; rw [← hMn4]; exact hb_set_n h
  have sMn4 : hv Mn4 8 7 = vn128.toInt := by rw [← hMn4]; exact hb_set_v hmn3 rfl (by decide)
  have wMn4 : ∀ b, b ≠ 8 → Mn4 b = Mn3 b := by intro b h; rw [← hMn4]; exact hb_set_c h
  refine he_aload (n := 133) (i := 0) (by decide +kernel) rfl ?_
  refine hb_gfd (n := 136) (ci := 0) (j := 7) (ns := [2084, 49]) hmn4 (by decide +kernel) rfl rfl (by decide) rfl ?_
  intro vn133 hvn133 lvn133 uvn133
  refine he_iconst (n := 137) (c := 1) (by decide +kernel) (by decide) ?_
  intro cn136 hcn136
  refine he_isub (n := 138) (by decide +kernel) (by omega) (by omega) ?_
  intro vn137 hvn137
  refine he_reti (by decide +kernel) ?_
  have hD : hl_D 108 nm.toNat M Mn4 := by
    refine ⟨fun a h1 h2 h3 => (wMn4 a h1).trans ((wMn3 a h3).trans (ho2 a ?_)), fun j hj => ?_, fun j hj => ?_⟩
    · simp only [List.elem_eq_mem, decide_eq_false_iff_not, List.mem_cons, List.not_mem_nil, or_false]
      exact h2
    · rw [eMn4 _ _ (.inr hj), eMn3 _ _ (.inl (by decide)), hb_vc (ho2 8 (by decide))]
    · rw [eMn4 _ _ (.inl (by decide)), eMn3 _ _ (.inr (by omega)), hb_vc (ho2 108 (by decide))]
  refine K Mn4 _ hmn4 ?_ hD (by omega) (by omega)
  intro k
  by_cases e : k = 13
  · subst e
    show hv Mn4 8 7 = hb_cnt (fun i => !decide (hv Mn4 (93 + 5 * (i / 32)) (i % 32) = -1)) 128
    rw [hb_cnt_u (p := fun i => !decide (hv M (93 + 5 * (i / 32)) (i % 32) = -1)) (k := 32 * 3 + nm.toNat) (by omega) ?_ ?_ ?_, ← h5, sMn4]
    · omega
    · show (!decide (hv M (93 + 5 * ((32 * 3 + nm.toNat) / 32)) ((32 * 3 + nm.toNat) % 32) = -1)) = false
      rw [e32.1, e32.2]
      have : hv M (93 + 5 * 3) nm.toNat = -1 := hdf
      rw [this]
      rfl
    · show (!decide (hv Mn4 (93 + 5 * ((32 * 3 + nm.toNat) / 32)) ((32 * 3 + nm.toNat) % 32) = -1)) = true
      rw [e32.1, e32.2]
      have h1 : hv Mn4 (93 + 5 * 3) nm.toNat = vn118.toInt := by
        rw [eMn4 _ _ (.inl (by decide)), show nm.toNat = vn114.toInt.toNat by omega]
        exact sMn3
      rw [h1, decide_eq_false (by omega)]
      rfl
    · intro j h1 h2
      show (!decide (hv Mn4 (93 + 5 * (j / 32)) (j % 32) = -1)) = (!decide (hv M (93 + 5 * (j / 32)) (j % 32) = -1))
      have h3 : hv Mn4 (93 + 5 * (j / 32)) (j % 32) = hv M (93 + 5 * (j / 32)) (j % 32) := by
        by_cases h4 : j / 32 = 3
        · rw [h4]
          exact hD.2.2 _ (by omega)
        · exact hb_vc (hD.1 _ (by omega) (by omega) (by omega)) _
      rw [h3]
  · refine hxk_c (fun a j hs => ?_) (hx k)
    by_cases ha : a = 8 ∨ a = 40 ∨ a = 93 ∨ a = 98 ∨ a = 103 ∨ a = 108
    · rw [hl_dsp k a j e ha] at hs
      cases hs
    · exact hb_vc (hD.1 a (by omega) (by omega) (by omega)) j
