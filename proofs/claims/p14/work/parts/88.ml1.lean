/-! The model's loads: frames, begin, end, fails, fileFault. -/
theorem hm_f0 {i : Nat} (h : i % 12 = 0) : mz_at (64, 1680, 12, [(0, 0, 3), (0, 0, 31), (0, 0, 5), (0, 0, 3), (0, 0, 255), (0, 0, 255), (0, -1, 31), (0, -1, 31), (0, -1, 31), (0, -1, 127), (0, -1, 127), (0, -1, 127)]) i = (0, 0, 3) := by
  show ([(0, 0, 3), (0, 0, 31), (0, 0, 5), (0, 0, 3), (0, 0, 255), (0, 0, 255), (0, -1, 31), (0, -1, 31), (0, -1, 31), (0, -1, 127), (0, -1, 127), (0, -1, 127)] : List mz_Sp).getD (i % 12) (9, 0, 0) = _
  rw [h]
  rfl
theorem hm_f1 {i : Nat} (h : i % 12 = 1) : mz_at (64, 1680, 12, [(0, 0, 3), (0, 0, 31), (0, 0, 5), (0, 0, 3), (0, 0, 255), (0, 0, 255), (0, -1, 31), (0, -1, 31), (0, -1, 31), (0, -1, 127), (0, -1, 127), (0, -1, 127)]) i = (0, 0, 31) := by
  show ([(0, 0, 3), (0, 0, 31), (0, 0, 5), (0, 0, 3), (0, 0, 255), (0, 0, 255), (0, -1, 31), (0, -1, 31), (0, -1, 31), (0, -1, 127), (0, -1, 127), (0, -1, 127)] : List mz_Sp).getD (i % 12) (9, 0, 0) = _
  rw [h]
  rfl
theorem hm_f2 {i : Nat} (h : i % 12 = 2) : mz_at (64, 1680, 12, [(0, 0, 3), (0, 0, 31), (0, 0, 5), (0, 0, 3), (0, 0, 255), (0, 0, 255), (0, -1, 31), (0, -1, 31), (0, -1, 31), (0, -1, 127), (0, -1, 127), (0, -1, 127)]) i = (0, 0, 5) := by
  show ([(0, 0, 3), (0, 0, 31), (0, 0, 5), (0, 0, 3), (0, 0, 255), (0, 0, 255), (0, -1, 31), (0, -1, 31), (0, -1, 31), (0, -1, 127), (0, -1, 127), (0, -1, 127)] : List mz_Sp).getD (i % 12) (9, 0, 0) = _
  rw [h]
  rfl
theorem hm_f3 {i : Nat} (h : i % 12 = 3) : mz_at (64, 1680, 12, [(0, 0, 3), (0, 0, 31), (0, 0, 5), (0, 0, 3), (0, 0, 255), (0, 0, 255), (0, -1, 31), (0, -1, 31), (0, -1, 31), (0, -1, 127), (0, -1, 127), (0, -1, 127)]) i = (0, 0, 3) := by
  show ([(0, 0, 3), (0, 0, 31), (0, 0, 5), (0, 0, 3), (0, 0, 255), (0, 0, 255), (0, -1, 31), (0, -1, 31), (0, -1, 31), (0, -1, 127), (0, -1, 127), (0, -1, 127)] : List mz_Sp).getD (i % 12) (9, 0, 0) = _
  rw [h]
  rfl
theorem hm_f4 {i : Nat} (h : i % 12 = 4) : mz_at (64, 1680, 12, [(0, 0, 3), (0, 0, 31), (0, 0, 5), (0, 0, 3), (0, 0, 255), (0, 0, 255), (0, -1, 31), (0, -1, 31), (0, -1, 31), (0, -1, 127), (0, -1, 127), (0, -1, 127)]) i = (0, 0, 255) := by
  show ([(0, 0, 3), (0, 0, 31), (0, 0, 5), (0, 0, 3), (0, 0, 255), (0, 0, 255), (0, -1, 31), (0, -1, 31), (0, -1, 31), (0, -1, 127), (0, -1, 127), (0, -1, 127)] : List mz_Sp).getD (i % 12) (9, 0, 0) = _
  rw [h]
  rfl
theorem hm_f5 {i : Nat} (h : i % 12 = 5) : mz_at (64, 1680, 12, [(0, 0, 3), (0, 0, 31), (0, 0, 5), (0, 0, 3), (0, 0, 255), (0, 0, 255), (0, -1, 31), (0, -1, 31), (0, -1, 31), (0, -1, 127), (0, -1, 127), (0, -1, 127)]) i = (0, 0, 255) := by
  show ([(0, 0, 3), (0, 0, 31), (0, 0, 5), (0, 0, 3), (0, 0, 255), (0, 0, 255), (0, -1, 31), (0, -1, 31), (0, -1, 31), (0, -1, 127), (0, -1, 127), (0, -1, 127)] : List mz_Sp).getD (i % 12) (9, 0, 0) = _
  rw [h]
  rfl
theorem hm_f6 {i : Nat} (h : i % 12 = 6) : mz_at (64, 1680, 12, [(0, 0, 3), (0, 0, 31), (0, 0, 5), (0, 0, 3), (0, 0, 255), (0, 0, 255), (0, -1, 31), (0, -1, 31), (0, -1, 31), (0, -1, 127), (0, -1, 127), (0, -1, 127)]) i = (0, -1, 31) := by
  show ([(0, 0, 3), (0, 0, 31), (0, 0, 5), (0, 0, 3), (0, 0, 255), (0, 0, 255), (0, -1, 31), (0, -1, 31), (0, -1, 31), (0, -1, 127), (0, -1, 127), (0, -1, 127)] : List mz_Sp).getD (i % 12) (9, 0, 0) = _
  rw [h]
  rfl
theorem hm_f7 {i : Nat} (h : i % 12 = 7) : mz_at (64, 1680, 12, [(0, 0, 3), (0, 0, 31), (0, 0, 5), (0, 0, 3), (0, 0, 255), (0, 0, 255), (0, -1, 31), (0, -1, 31), (0, -1, 31), (0, -1, 127), (0, -1, 127), (0, -1, 127)]) i = (0, -1, 31) := by
  show ([(0, 0, 3), (0, 0, 31), (0, 0, 5), (0, 0, 3), (0, 0, 255), (0, 0, 255), (0, -1, 31), (0, -1, 31), (0, -1, 31), (0, -1, 127), (0, -1, 127), (0, -1, 127)] : List mz_Sp).getD (i % 12) (9, 0, 0) = _
  rw [h]
  rfl
theorem hm_f8 {i : Nat} (h : i % 12 = 8) : mz_at (64, 1680, 12, [(0, 0, 3), (0, 0, 31), (0, 0, 5), (0, 0, 3), (0, 0, 255), (0, 0, 255), (0, -1, 31), (0, -1, 31), (0, -1, 31), (0, -1, 127), (0, -1, 127), (0, -1, 127)]) i = (0, -1, 31) := by
  show ([(0, 0, 3), (0, 0, 31), (0, 0, 5), (0, 0, 3), (0, 0, 255), (0, 0, 255), (0, -1, 31), (0, -1, 31), (0, -1, 31), (0, -1, 127), (0, -1, 127), (0, -1, 127)] : List mz_Sp).getD (i % 12) (9, 0, 0) = _
  rw [h]
  rfl
theorem hm_f9 {i : Nat} (h : i % 12 = 9) : mz_at (64, 1680, 12, [(0, 0, 3), (0, 0, 31), (0, 0, 5), (0, 0, 3), (0, 0, 255), (0, 0, 255), (0, -1, 31), (0, -1, 31), (0, -1, 31), (0, -1, 127), (0, -1, 127), (0, -1, 127)]) i = (0, -1, 127) := by
  show ([(0, 0, 3), (0, 0, 31), (0, 0, 5), (0, 0, 3), (0, 0, 255), (0, 0, 255), (0, -1, 31), (0, -1, 31), (0, -1, 31), (0, -1, 127), (0, -1, 127), (0, -1, 127)] : List mz_Sp).getD (i % 12) (9, 0, 0) = _
  rw [h]
  rfl
theorem hm_f10 {i : Nat} (h : i % 12 = 10) : mz_at (64, 1680, 12, [(0, 0, 3), (0, 0, 31), (0, 0, 5), (0, 0, 3), (0, 0, 255), (0, 0, 255), (0, -1, 31), (0, -1, 31), (0, -1, 31), (0, -1, 127), (0, -1, 127), (0, -1, 127)]) i = (0, -1, 127) := by
  show ([(0, 0, 3), (0, 0, 31), (0, 0, 5), (0, 0, 3), (0, 0, 255), (0, 0, 255), (0, -1, 31), (0, -1, 31), (0, -1, 31), (0, -1, 127), (0, -1, 127), (0, -1, 127)] : List mz_Sp).getD (i % 12) (9, 0, 0) = _
  rw [h]
  rfl
theorem hm_f11 {i : Nat} (h : i % 12 = 11) : mz_at (64, 1680, 12, [(0, 0, 3), (0, 0, 31), (0, 0, 5), (0, 0, 3), (0, 0, 255), (0, 0, 255), (0, -1, 31), (0, -1, 31), (0, -1, 31), (0, -1, 127), (0, -1, 127), (0, -1, 127)]) i = (0, -1, 127) := by
  show ([(0, 0, 3), (0, 0, 31), (0, 0, 5), (0, 0, 3), (0, 0, 255), (0, 0, 255), (0, -1, 31), (0, -1, 31), (0, -1, 31), (0, -1, 127), (0, -1, 127), (0, -1, 127)] : List mz_Sp).getD (i % 12) (9, 0, 0) = _
  rw [h]
  rfl
theorem hm_sp (k a j : Nat) (h : a = 262 ∨ a = 263 ∨ a = 266 ∨ a = 267 ∨ a = 234 ∧ j ≠ 41 ∧ j ≠ 17 ∧ j ≠ 19) : hsp k a j = false := by
  match k with
  | 0 | 1 | 2 | 3 | 4 | 5 | 6 | 7 | 8 | 9 | 10 | 11 | 12 | 13 | 14 | 15 | 16 | 17 | 18 | 19 | 20 | 21 | 22 | 23 | 24 | 25 | 26 | 27 | 28 | 29 => exact decide_eq_false (by omega)
  | n + 30 => rfl
def hm_S (M M' : Nat → mq_C) : Prop := mz_fr mz_q178 M M' ∧ (∀ a, a < 8 → M' a = M a) ∧ hb_same mz_GG mz_q178 M M'
theorem hm_Sr {M : Nat → mq_C} : hm_S M M := ⟨hb_fr_r, fun _ _ => rfl, hb_same_r⟩
theorem hm_St {M M' M'' : Nat → mq_C} (h : hm_S M M') (h' : hm_S M' M'') : hm_S M M'' := ⟨hb_fr_t (q' := mz_q178) (fun a ha => ha) h.1 h'.1, fun a ha => (h'.2.1 a ha).trans (h.2.1 a ha), hb_same_t (q' := mz_q178) (fun j hj => hj) h.2.2 h'.2.2⟩
/-- what begin, end, fails change -/
def hm_E (M M' : Nat → mq_C) : Prop := (∀ a, a ≠ 234 → a ≠ 267 → M' a = M a) ∧ ∀ i, i ≠ 48 → i ≠ 50 → i ≠ 51 → i ≠ 52 → hv M' 234 i = hv M 234 i
theorem hm_Ex {M M' : Nat → mq_C} (h : hm_E M M') (hx : HX M) : HX M' := by
  intro k
  refine hxk_c (fun a j hs => ?_) (hx k)
  by_cases h1 : a = 267
  · rw [hm_sp k a j (by omega)] at hs
    cases hs
  · by_cases h2 : a = 234
    · by_cases h3 : j ≠ 41 ∧ j ≠ 17 ∧ j ≠ 19
      · rw [hm_sp k a j (by omega)] at hs
        cases hs
      · rw [h2]
        exact h.2 j (by omega) (by omega) (by omega) (by omega)
    · exact hb_vc (h.1 a h2 h1) j
theorem hm_ES {M M' : Nat → mq_C} (h : hm_E M M') : hm_S M M' := by
  refine ⟨fun a _ hw => h.1 a ?_ ?_, fun a ha => h.1 a (by omega) (by omega), ?_⟩
  · rintro rfl
    cases hw
  · rintro rfl
    cases hw
  · refine hb_same_of (fun t => decide (t.1 ≠ 267 ∧ (t.1 = 234 → t.2 ≠ 48 ∧ t.2 ≠ 50 ∧ t.2 ≠ 51 ∧ t.2 ≠ 52))) ?_ (by decide +kernel)
    intro t ht
    obtain ⟨h1, h2⟩ := of_decide_eq_true ht
    by_cases e : t.1 = 234
    · rw [e]
      obtain ⟨a1, a2, a3, a4⟩ := h2 e
      exact h.2 _ a1 a2 a3 a4
    · exact hb_vc (h.1 _ e h1) _
theorem hm_begin {d z u j : Nat} {Q : (Option Value ⊕ Nat) → mq_S → Prop} {M : Nat → mq_C} {x1 x2 : Int32} (hm : mz_sh mz_GG M) (hj : hv M 234 48 = (j : Int)) (hj1 : j < 140) (p1 : 0 ≤ x1.toInt) (p2 : x1.toInt ≤ 3) (p3 : 0 ≤ x2.toInt) (p4 : x2.toInt ≤ 31)
    (K : ∀ M' : Nat → mq_C, mz_sh mz_GG M' → hm_E M M' → hv M' 234 48 = (j : Int) + 1 → hv M' 267 (12 * j) = x1.toInt → hv M' 267 (12 * j + 1) = x2.toInt → hv M' 267 (12 * j + 2) = 0 → (∀ i, i < 12 * j → hv M' 267 i = hv M 267 i) → Q (.inl none) (M', z, u)) : mq_R mq_PP d 147 0 [some (.ref 234), some (.int x1), some (.int x2), none] [] (M, z, u) Q := by
  refine he_iconst (n := 2) (c := 12) (by decide +kernel) (by decide) ?_
  intro c0 hc0
  refine he_aload (n := 3) (i := 0) (by decide +kernel) rfl ?_
  refine hb_gfd (n := 6) (ci := 9) (j := 48) (ns := [4225, 271]) hm (by decide +kernel) rfl rfl (by decide) rfl ?_
  intro v3 hv3 lv3 uv3
  refine he_imul (n := 7) (p := 12 * v3.toInt) (by decide +kernel) (by rw [hc0]) (by omega) (by omega) ?_
  intro v6 hv6
  refine he_istore (n := 8) (i := 3) (by decide +kernel) rfl ?_
  refine he_aload (n := 9) (i := 0) (by decide +kernel) rfl ?_
  refine he_getr (n := 12) (ci := 9) (j := 49) (ns := [4226, 107]) (b := 267) hm (by decide +kernel) rfl rfl (by decide +kernel) ?_
  refine he_iload (n := 13) (i := 3) (by decide +kernel) rfl ?_
  refine he_iload (n := 14) (i := 1) (by decide +kernel) rfl ?_
  refine hb_sta (n := 15) (kind := 64) hm (by decide +kernel) rfl rfl (.inl rfl) (by omega) (show _ < (1680 : Int) by omega) ?_
  generalize hM1 : hb_set M 267 (v6.toInt.toNat) x1 = M1
  have hm1 : mz_sh mz_GG M1 := by rw [← hM1]; exact hb_set_sh hm rfl (hm_f0 (by omega)) (by omega) (by omega)
  have eM1 : ∀ b j, b ≠ 267 ∨ j ≠ v6.toInt.toNat → hv M1 b j = hv M b j := by intro b j h; rw [← hM1]; exact hb_set_n h
  have sM1 : hv M1 267 (v6.toInt.toNat) = x1.toInt := by rw [← hM1]; exact hb_set_v hm rfl (show _ < 1680 by omega)
  have wM1 : ∀ b, b ≠ 267 → M1 b = M b := by intro b h; rw [← hM1]; exact hb_set_c h
  refine he_aload (n := 16) (i := 0) (by decide +kernel) rfl ?_
  refine he_getr (n := 19) (ci := 9) (j := 49) (ns := [4226, 107]) (b := 267) hm1 (by decide +kernel) rfl rfl (by decide +kernel) ?_
  refine he_iload (n := 20) (i := 3) (by decide +kernel) rfl ?_
  refine he_iconst (n := 21) (c := 1) (by decide +kernel) (by decide) ?_
  intro c20 hc20
  refine he_iadd (n := 22) (by decide +kernel) (by omega) (by omega) ?_
  intro v21 hv21
  refine he_iload (n := 23) (i := 2) (by decide +kernel) rfl ?_
  refine hb_sta (n := 24) (kind := 64) hm1 (by decide +kernel) rfl rfl (.inl rfl) (by omega) (show _ < (1680 : Int) by omega) ?_
  generalize hM2 : hb_set M1 267 (v21.toInt.toNat) x2 = M2
  have hm2 : mz_sh mz_GG M2 := by rw [← hM2]; exact hb_set_sh hm1 rfl (hm_f1 (by omega)) (by omega) (by omega)
  have eM2 : ∀ b j, b ≠ 267 ∨ j ≠ v21.toInt.toNat → hv M2 b j = hv M1 b j := by intro b j h; rw [← hM2]; exact hb_set_n h
  have sM2 : hv M2 267 (v21.toInt.toNat) = x2.toInt := by rw [← hM2]; exact hb_set_v hm1 rfl (show _ < 1680 by omega)
  have wM2 : ∀ b, b ≠ 267 → M2 b = M1 b := by intro b h; rw [← hM2]; exact hb_set_c h
  refine he_aload (n := 25) (i := 0) (by decide +kernel) rfl ?_
  refine he_getr (n := 28) (ci := 9) (j := 49) (ns := [4226, 107]) (b := 267) hm2 (by decide +kernel) rfl rfl (by decide +kernel) ?_
  refine he_iload (n := 29) (i := 3) (by decide +kernel) rfl ?_
  refine he_iconst (n := 30) (c := 2) (by decide +kernel) (by decide) ?_
  intro c29 hc29
  refine he_iadd (n := 31) (by decide +kernel) (by omega) (by omega) ?_
  intro v30 hv30
  refine he_iconst (n := 32) (c := 0) (by decide +kernel) (by decide) ?_
  intro c31 hc31
  refine hb_sta (n := 33) (kind := 64) hm2 (by decide +kernel) rfl rfl (.inl rfl) (by omega) (show _ < (1680 : Int) by omega) ?_
  generalize hM3 : hb_set M2 267 (v30.toInt.toNat) c31 = M3
  have hm3 : mz_sh mz_GG M3 := by rw [← hM3]; exact hb_set_sh hm2 rfl (hm_f2 (by omega)) (by omega) (by omega)
  have eM3 : ∀ b j, b ≠ 267 ∨ j ≠ v30.toInt.toNat → hv M3 b j = hv M2 b j := by intro b j h; rw [← hM3]; exact hb_set_n h
  have sM3 : hv M3 267 (v30.toInt.toNat) = c31.toInt := by rw [← hM3]; exact hb_set_v hm2 rfl (show _ < 1680 by omega)
  have wM3 : ∀ b, b ≠ 267 → M3 b = M2 b := by intro b h; rw [← hM3]; exact hb_set_c h
  refine he_aload (n := 34) (i := 0) (by decide +kernel) rfl ?_
  refine he_dup_r (n := 35) (by decide +kernel) ?_
  refine hb_gfd (n := 38) (ci := 9) (j := 48) (ns := [4225, 271]) hm3 (by decide +kernel) rfl rfl (by decide) rfl ?_
  intro v35 hv35 lv35 uv35
  refine he_iconst (n := 39) (c := 1) (by decide +kernel) (by decide) ?_
  intro c38 hc38
  have q35 : v35.toInt = (j : Int) := by
    rw [← hv35, eM3 _ _ (.inl (by decide)), eM2 _ _ (.inl (by decide)), eM1 _ _ (.inl (by decide))]
    exact hj
  refine he_iadd (n := 40) (by decide +kernel) (by omega) (by omega) ?_
  intro v39 hv39
  refine hb_pfd (n := 43) (ci := 9) (j := 48) (t := 0) (ns := [4225, 271]) hm3 (by decide +kernel) rfl rfl (by decide) (.inl rfl) ?_
  generalize hM4 : hb_set M3 234 48 v39 = M4
  have hm4 : mz_sh mz_GG M4 := by rw [← hM4]; exact hb_set_sh hm3 rfl rfl (by omega) (by omega)
  have eM4 : ∀ b j, b ≠ 234 ∨ j ≠ 48 → hv M4 b j = hv M3 b j := by intro b j h; rw [← hM4]; exact hb_set_n h
  have sM4 : hv M4 234 48 = v39.toInt := by rw [← hM4]; exact hb_set_v hm3 rfl (by decide)
  have wM4 : ∀ b, b ≠ 234 → M4 b = M3 b := by intro b h; rw [← hM4]; exact hb_set_c h
  refine he_ret (by decide +kernel) ?_
  have q3 : v3.toInt = (j : Int) := by omega
  refine K M4 hm4 ⟨fun a h1 h2 => ?_, fun i h1 h2 h3 h4 => ?_⟩ (by rw [sM4]; omega) ?_ ?_ ?_ (fun i hi => ?_)
  · rw [wM4 a h1, wM3 a h2, wM2 a h2, wM1 a h2]
  · rw [eM4 _ _ (.inr h1), eM3 _ _ (.inl (by decide)), eM2 _ _ (.inl (by decide)), eM1 _ _ (.inl (by decide))]
  · rw [eM4 _ _ (.inl (by decide)), eM3 _ _ (.inr (by omega)), eM2 _ _ (.inr (by omega)), show 12 * j = v6.toInt.toNat by omega]
    exact sM1
  · rw [eM4 _ _ (.inl (by decide)), eM3 _ _ (.inr (by omega)), show 12 * j + 1 = v21.toInt.toNat by omega]
    exact sM2
  · rw [eM4 _ _ (.inl (by decide)), show 12 * j + 2 = v30.toInt.toNat by omega, sM3]
    omega
  · rw [eM4 _ _ (.inl (by decide)), eM3 _ _ (.inr (by omega)), eM2 _ _ (.inr (by omega)), eM1 _ _ (.inr (by omega))]
theorem hm_end {d z u j : Nat} {Q : (Option Value ⊕ Nat) → mq_S → Prop} {M : Nat → mq_C} {x1 x2 x3 : Int32} (hm : mz_sh mz_GG M) (hj : hv M 234 48 = (j : Int) + 1) (p1 : -1 ≤ x1.toInt) (p2 : x1.toInt ≤ 127) (p3 : 0 ≤ x2.toInt) (p4 : x2.toInt ≤ 15) (p5 : -1 ≤ x3.toInt) (p6 : x3.toInt ≤ 31)
    (K : ∀ M' : Nat → mq_C, mz_sh mz_GG M' → hm_E M M' → M' 267 = M 267 → hv M' 234 48 = (j : Int) → hv M' 234 50 = x1.toInt → hv M' 234 51 = x2.toInt → Q (.inl none) (M', z, u)) : mq_R mq_PP d 148 0 [some (.ref 234), some (.int x1), some (.int x2), some (.int x3)] [] (M, z, u) Q := by
  refine he_aload (n := 1) (i := 0) (by decide +kernel) rfl ?_
  refine he_iload (n := 2) (i := 1) (by decide +kernel) rfl ?_
  refine hb_pfd (n := 5) (ci := 9) (j := 50) (t := 0) (ns := [4227, 274]) hm (by decide +kernel) rfl rfl (by decide) (.inl rfl) ?_
  generalize hM1 : hb_set M 234 50 x1 = M1
  have hm1 : mz_sh mz_GG M1 := by rw [← hM1]; exact hb_set_sh hm rfl rfl (by omega) (by omega)
  have eM1 : ∀ b j, b ≠ 234 ∨ j ≠ 50 → hv M1 b j = hv M b j := by intro b j h; rw [← hM1]; exact hb_set_n h
  have sM1 : hv M1 234 50 = x1.toInt := by rw [← hM1]; exact hb_set_v hm rfl (by decide)
  have wM1 : ∀ b, b ≠ 234 → M1 b = M b := by intro b h; rw [← hM1]; exact hb_set_c h
  refine he_aload (n := 6) (i := 0) (by decide +kernel) rfl ?_
  refine he_iload (n := 7) (i := 2) (by decide +kernel) rfl ?_
  refine hb_pfd (n := 10) (ci := 9) (j := 51) (t := 0) (ns := [4228, 277]) hm1 (by decide +kernel) rfl rfl (by decide) (.inl rfl) ?_
  generalize hM2 : hb_set M1 234 51 x2 = M2
  have hm2 : mz_sh mz_GG M2 := by rw [← hM2]; exact hb_set_sh hm1 rfl rfl (by omega) (by omega)
  have eM2 : ∀ b j, b ≠ 234 ∨ j ≠ 51 → hv M2 b j = hv M1 b j := by intro b j h; rw [← hM2]; exact hb_set_n h
  have sM2 : hv M2 234 51 = x2.toInt := by rw [← hM2]; exact hb_set_v hm1 rfl (by decide)
  have wM2 : ∀ b, b ≠ 234 → M2 b = M1 b := by intro b h; rw [← hM2]; exact hb_set_c h
  refine he_aload (n := 11) (i := 0) (by decide +kernel) rfl ?_
  refine he_iload (n := 12) (i := 3) (by decide +kernel) rfl ?_
  refine hb_pfd (n := 15) (ci := 9) (j := 52) (t := 0) (ns := [4229, 280]) hm2 (by decide +kernel) rfl rfl (by decide) (.inl rfl) ?_
  generalize hM3 : hb_set M2 234 52 x3 = M3
  have hm3 : mz_sh mz_GG M3 := by rw [← hM3]; exact hb_set_sh hm2 rfl rfl (by omega) (by omega)
  have eM3 : ∀ b j, b ≠ 234 ∨ j ≠ 52 → hv M3 b j = hv M2 b j := by intro b j h; rw [← hM3]; exact hb_set_n h
  have sM3 : hv M3 234 52 = x3.toInt := by rw [← hM3]; exact hb_set_v hm2 rfl (by decide)
  have wM3 : ∀ b, b ≠ 234 → M3 b = M2 b := by intro b h; rw [← hM3]; exact hb_set_c h
  refine he_aload (n := 16) (i := 0) (by decide +kernel) rfl ?_
  refine he_dup_r (n := 17) (by decide +kernel) ?_
  refine hb_gfd (n := 20) (ci := 9) (j := 48) (ns := [4225, 271]) hm3 (by decide +kernel) rfl rfl (by decide) rfl ?_
  intro v17 hv17 lv17 uv17
  have q17 : v17.toInt = (j : Int) + 1 := by
    rw [← hv17, eM3 _ _ (.inr (by decide)), eM2 _ _ (.inr (by decide)), eM1 _ _ (.inr (by decide))]
    exact hj
  refine he_iconst (n := 21) (c := 1) (by decide +kernel) (by decide) ?_
  intro c20 hc20
  refine he_isub (n := 22) (by decide +kernel) (by omega) (by omega) ?_
  intro v21 hv21
  refine hb_pfd (n := 25) (ci := 9) (j := 48) (t := 0) (ns := [4225, 271]) hm3 (by decide +kernel) rfl rfl (by decide) (.inl rfl) ?_
  generalize hM4 : hb_set M3 234 48 v21 = M4
  have hm4 : mz_sh mz_GG M4 := by rw [← hM4]; exact hb_set_sh hm3 rfl rfl (by omega) (by omega)
  have eM4 : ∀ b j, b ≠ 234 ∨ j ≠ 48 → hv M4 b j = hv M3 b j := by intro b j h; rw [← hM4]; exact hb_set_n h
  have sM4 : hv M4 234 48 = v21.toInt := by rw [← hM4]; exact hb_set_v hm3 rfl (by decide)
  have wM4 : ∀ b, b ≠ 234 → M4 b = M3 b := by intro b h; rw [← hM4]; exact hb_set_c h
  refine he_ret (by decide +kernel) ?_
  refine K M4 hm4 ⟨fun a h1 h2 => ?_, fun i h1 h2 h3 h4 => ?_⟩ ?_ (by rw [sM4]; omega) ?_ ?_
  · rw [wM4 a h1, wM3 a h1, wM2 a h1, wM1 a h1]
  · rw [eM4 _ _ (.inr h1), eM3 _ _ (.inr h4), eM2 _ _ (.inr h3), eM1 _ _ (.inr h2)]
  · rw [wM4 _ (by decide), wM3 _ (by decide), wM2 _ (by decide), wM1 _ (by decide)]
  · rw [eM4 _ _ (.inr (by decide)), eM3 _ _ (.inr (by decide)), eM2 _ _ (.inr (by decide))]
    exact sM1
  · rw [eM4 _ _ (.inr (by decide)), eM3 _ _ (.inr (by decide))]
    exact sM2
theorem hm_fails {d z u j : Nat} {Q : (Option Value ⊕ Nat) → mq_S → Prop} {M : Nat → mq_C} {x1 x2 : Int32} (hm : mz_sh mz_GG M) (hj : hv M 234 48 = (j : Int) + 1) (hj1 : j < 140) (p1 : x1.toInt = 12 * (j : Int)) (p3 : 1 ≤ x2.toInt) (p4 : x2.toInt ≤ 15)
    (K : ∀ M' : Nat → mq_C, mz_sh mz_GG M' → hm_E M M' → M' 267 = M 267 → hv M' 234 48 = (j : Int) → 1 ≤ hv M' 234 51 → Q (.inl none) (M', z, u)) : mq_R mq_PP (d + 1) 149 0 [some (.ref 234), some (.int x1), some (.int x2)] [] (M, z, u) Q := by
  refine he_aload (n := 1) (i := 0) (by decide +kernel) rfl ?_
  refine he_iconst (n := 2) (c := -1) (by decide +kernel) (by decide) ?_
  intro c1 hc1
  refine he_iload (n := 3) (i := 2) (by decide +kernel) rfl ?_
  refine he_aload (n := 4) (i := 0) (by decide +kernel) rfl ?_
  refine he_getr (n := 7) (ci := 9) (j := 49) (ns := [4226, 107]) (b := 267) hm (by decide +kernel) rfl rfl (by decide +kernel) ?_
  refine he_iload (n := 8) (i := 1) (by decide +kernel) rfl ?_
  refine he_iconst (n := 9) (c := 1) (by decide +kernel) (by decide) ?_
  intro c8 hc8
  refine he_iadd (n := 10) (by decide +kernel) (by omega) (by omega) ?_
  intro v9 hv9
  refine hb_ld (n := 11) (kind := 64) hm (by decide +kernel) rfl rfl (.inl rfl) (by omega) (show _ < (1680 : Int) by omega) (hm_f1 (by omega)) ?_
  intro v10 hv10 lv10 uv10
  refine he_v3 (n := 14) (j := 148) (ci := 9) (mx := 4) (ns := [6014, 6016, 70, 283]) (by decide +kernel) ((hb_kd (a := 234) hm rfl).trans rfl) (by decide) (by show 4 ≤ 4; omega) ?_
  rw [mq_e148]
  refine hm_end (j := j) hm hj (by omega) (by omega) (by omega) (by omega) (by omega) (by omega) ?_
  intro M' h1 h2 h3 h4 h5 h6
  show mq_R mq_PP (d + 1) 149 14 _ [] (M', z, u) Q
  refine he_ret (by decide +kernel) ?_
  exact K M' h1 h2 h3 h4 (by omega)
def hm_fa_q : mz_Q := (146, [(1, 234), (0, 0), (3, 0), (3, 0)], [], [], [(0, 0, [(-1, [(65, 1)]), (5, [(65, -1)])])], [234])
def hm_fa_s : List mz_Sp2 := [(188, [(1, 234), (0, 0), (0, 0), (3, 0)], [], [(0, [(1, -1), (66, 1)]), (0, [(1, 1), (66, -1)]), (-3, [(27, 1)]), (-8, [(27, 1)]), (2, [(67, 1)]), (31, [(67, -1)])]), (188, [(1, 234), (0, 0), (0, 0), (3, 0)], [], [(0, [(1, -1), (66, 1)]), (0, [(1, 1), (66, -1)]), (-3, [(27, 1)]), (-8, [(27, 1)]), (2, [(67, 1)]), (31, [(67, -1)])]), (188, [(1, 234), (0, 0), (0, 0), (3, 0)], [], [(0, [(1, -1), (66, 1)]), (0, [(1, 1), (66, -1)]), (-3, [(27, 1)]), (-8, [(27, 1)]), (2, [(67, 1)]), (31, [(67, -1)])]), (188, [(1, 234), (0, 0), (0, 0), (3, 0)], [], [(0, [(1, -1), (66, 1)]), (0, [(1, 1), (66, -1)]), (-3, [(27, 1)]), (-8, [(27, 1)]), (2, [(67, 1)]), (31, [(67, -1)])]), (188, [(1, 234), (0, 0), (0, 0), (3, 0)], [], [(0, [(1, -1), (66, 1)]), (0, [(1, 1), (66, -1)]), (-3, [(27, 1)]), (-8, [(27, 1)]), (2, [(67, 1)]), (31, [(67, -1)])]), (188, [(1, 234), (0, 0), (0, 0), (3, 0)], [], [(0, [(1, -1), (66, 1)]), (0, [(1, 1), (66, -1)]), (-3, [(27, 1)]), (-8, [(27, 1)]), (2, [(67, 1)]), (31, [(67, -1)])]), (188, [(1, 234), (0, 0), (0, 0), (3, 0)], [], [(0, [(1, -1), (66, 1)]), (0, [(1, 1), (66, -1)]), (-3, [(27, 1)]), (-8, [(27, 1)]), (2, [(67, 1)]), (31, [(67, -1)])]), (188, [(1, 234), (0, 0), (0, 0), (3, 0)], [], [(0, [(1, -1), (66, 1)]), (0, [(1, 1), (66, -1)]), (-3, [(27, 1)]), (-8, [(27, 1)]), (2, [(67, 1)]), (31, [(67, -1)])]), (188, [(1, 234), (0, 0), (0, 0), (3, 0)], [], [(0, [(1, -1), (66, 1)]), (0, [(1, 1), (66, -1)]), (-3, [(27, 1)]), (-8, [(27, 1)]), (2, [(67, 1)]), (31, [(67, -1)])]), (188, [(1, 234), (0, 0), (0, 0), (3, 0)], [], [(0, [(1, -1), (66, 1)]), (0, [(1, 1), (66, -1)]), (-3, [(27, 1)]), (-8, [(27, 1)]), (2, [(67, 1)]), (31, [(67, -1)])]), (188, [(1, 234), (0, 0), (0, 0), (3, 0)], [], [(0, [(1, -1), (66, 1)]), (0, [(1, 1), (66, -1)]), (-3, [(27, 1)]), (-8, [(27, 1)]), (2, [(67, 1)]), (31, [(67, -1)])]), (188, [(1, 234), (0, 0), (0, 0), (3, 0)], [], [(0, [(1, -1), (66, 1)]), (0, [(1, 1), (66, -1)]), (-3, [(27, 1)]), (-8, [(27, 1)]), (2, [(67, 1)]), (31, [(67, -1)])])]
def hm_fa_h : List mz_H := [(0, 0, []), (0, 0, []), (0, 0, []), (0, 0, []), (0, 0, []), (253, 0, []), (0, 0, []), (0, 0, []), (0, 0, []), (0, 0, []), (253, 0, []), (0, 0, []), (0, 0, []), (0, 0, [(0, 1)]), (0, 0, [(1, 1)]), (253, 0, []), (0, 0, []), (0, 0, []), (0, 0, [(0, 1)]), (0, 0, [(1, 1)]), (0, 0, []), (0, 0, []), (0, 0, []), (0, 0, []), (0, 0, []), (0, 0, []), (0, 0, []), (0, 0, []), (0, 0, []), (0, 0, []), (0, 0, []), (0, 0, []), (253, 0, []), (0, 0, []), (0, 0, []), (0, 0, []), (0, 0, [(0, 2)]), (0, 0, [(1, 2)]), (0, 0, []), (0, 0, [(0, 2)]), (0, 0, [(1, 2)]), (0, 0, []), (0, 0, []), (0, 0, []), (0, 0, []), (0, 0, []), (253, 0, []), (0, 0, []), (0, 0, []), (0, 0, []), (0, 0, []), (176, 0, []), (0, 0, []), (0, 0, []), (0, 0, []), (253, 0, []), (0, 0, []), (0, 0, []), (3, 0, []), (0, 0, [(0, 1)]), (0, 0, []), (176, 0, []), (0, 0, []), (0, 0, []), (0, 0, []), (0, 0, [(1, 1)]), (0, 0, [(0, 1)]), (253, 0, []), (0, 0, []), (0, 0, []), (0, 0, []), (0, 0, []), (0, 0, []), (0, 0, []), (253, 0, []), (0, 0, []), (0, 0, []), (0, 0, []), (0, 0, []), (0, 0, []), (0, 0, []), (0, 0, []), (0, 0, []), (0, 0, []), (0, 0, [(24, 1)]), (0, 0, [(24, 1)]), (0, 0, [(14, 1)]), (0, 0, [(13, 1)]), (176, 0, []), (0, 0, []), (0, 0, []), (0, 0, []), (0, 0, [(1, 1)]), (0, 0, [(0, 1)]), (1, 0, []), (0, 0, []), (0, 0, []), (0, 0, [(28, 1)]), (0, 0, [(28, 1)]), (0, 0, [(18, 1)]), (0, 0, [(17, 1)]), (176, 0, []), (0, 0, []), (0, 0, []), (0, 0, []), (0, 0, [(1, 1)]), (0, 0, [(0, 1)]), (253, 0, []), (0, 0, []), (0, 0, []), (0, 0, []), (0, 0, []), (0, 0, []), (0, 0, []), (2, 0, []), (0, 0, []), (0, 0, []), (0, 0, [(28, 1)]), (0, 0, [(28, 1)]), (0, 0, [(18, 1)]), (0, 0, [(17, 1)]), (176, 0, []), (0, 0, []), (0, 0, []), (0, 0, []), (0, 0, [(1, 1)]), (0, 0, [(0, 1)]), (3, 0, []), (0, 0, []), (0, 0, []), (0, 0, [(32, 1)]), (0, 0, [(32, 1)]), (0, 0, [(22, 1)]), (0, 0, [(21, 1)]), (253, 0, []), (0, 0, []), (0, 0, []), (3, 0, []), (0, 0, [(0, 1)]), (0, 0, []), (176, 0, []), (0, 0, []), (0, 0, []), (0, 0, []), (0, 0, [(1, 1)]), (0, 0, [(0, 1)]), (253, 0, []), (0, 0, []), (0, 0, []), (0, 0, []), (0, 0, []), (0, 0, []), (0, 0, []), (253, 0, []), (0, 0, []), (0, 0, []), (0, 0, []), (0, 0, []), (0, 0, []), (0, 0, []), (4, 0, []), (0, 0, []), (0, 0, []), (0, 0, [(28, 1)]), (0, 0, [(28, 1)]), (0, 0, [(18, 1)]), (0, 0, [(17, 1)]), (176, 0, []), (0, 0, []), (0, 0, []), (0, 0, []), (0, 0, [(1, 1)]), (0, 0, [(0, 1)]), (5, 0, []), (0, 0, []), (0, 0, []), (0, 0, [(32, 1)]), (0, 0, [(32, 1)]), (0, 0, [(22, 1)]), (0, 0, [(21, 1)]), (176, 0, []), (0, 0, []), (0, 0, []), (0, 0, []), (0, 0, [(1, 1)]), (0, 0, [(0, 1)]), (253, 0, []), (0, 0, []), (0, 0, []), (0, 0, []), (0, 0, []), (0, 0, []), (0, 0, []), (6, 0, []), (0, 0, []), (0, 0, []), (0, 0, [(32, 1)]), (0, 0, [(32, 1)]), (0, 0, [(22, 1)]), (0, 0, [(21, 1)]), (176, 0, []), (0, 0, []), (0, 0, []), (0, 0, []), (0, 0, [(1, 1)]), (0, 0, [(0, 1)]), (7, 0, []), (0, 0, []), (0, 0, []), (0, 0, [(36, 1)]), (0, 0, [(36, 1)]), (0, 0, [(26, 1)]), (0, 0, [(25, 1)]), (0, 0, []), (0, 0, []), (253, 0, []), (0, 0, []), (0, 0, []), (0, 0, []), (0, 0, []), (0, 0, []), (0, 0, []), (253, 0, []), (0, 0, []), (0, 0, []), (0, 0, []), (0, 0, []), (0, 0, []), (0, 0, []), (8, 0, []), (0, 0, []), (0, 0, []), (0, 0, [(25, 1)]), (0, 0, [(25, 1)]), (0, 0, [(15, 1)]), (0, 0, [(14, 1)]), (176, 0, []), (0, 0, []), (0, 0, []), (0, 0, []), (0, 0, [(1, 1)]), (0, 0, [(0, 1)]), (9, 0, []), (0, 0, []), (0, 0, []), (0, 0, [(29, 1)]), (0, 0, [(29, 1)]), (0, 0, [(19, 1)]), (0, 0, [(18, 1)]), (176, 0, []), (0, 0, []), (0, 0, []), (0, 0, []), (0, 0, [(1, 1)]), (0, 0, [(0, 1)]), (253, 0, []), (0, 0, []), (0, 0, []), (0, 0, []), (0, 0, []), (0, 0, []), (0, 0, []), (10, 0, []), (0, 0, []), (0, 0, []), (0, 0, [(29, 1)]), (0, 0, [(29, 1)]), (0, 0, [(19, 1)]), (0, 0, [(18, 1)]), (176, 0, []), (0, 0, []), (0, 0, []), (0, 0, []), (0, 0, [(1, 1)]), (0, 0, [(0, 1)]), (11, 0, []), (0, 0, []), (0, 0, []), (0, 0, [(33, 1)]), (0, 0, [(33, 1)]), (0, 0, [(23, 1)]), (0, 0, [(22, 1)]), (0, 0, []), (0, 0, []), (0, 0, []), (0, 0, []), (0, 0, []), (0, 0, []), (0, 0, []), (0, 0, []), (0, 0, [])]
set_option maxRecDepth 100000 in
theorem hm_fa_c : mz_blk mz_GG mq_PP mz_Cs hm_fa_q 4 3 0 hm_fa_s [] 231 hm_fa_h = true := by decide +kernel
theorem hm_fa {X : (Nat → mq_C) → Prop} (hX : ∀ M M' : Nat → mq_C, mz_same mz_GG M M' → X M → X M') (hC : ∀ c ∈ mz_Cs, c.2 < 3 → mz_Ct mz_GG mq_PP X c.1 c.2) {d z u : Nat} {M : Nat → mq_C} {Q : (Option Value ⊕ Nat) → mq_S → Prop} {x1 : Int32} {o2 : Option Value} {o3 : Option Value} (hd : 3 ≤ d) (hz : 272 ≤ z) (hm : mz_sh mz_GG M) (hx : X M) (h0 : mq_nl o2 = true) (h1 : mq_nl o3 = true)
    (k0 : ∀ (M' : Nat → mq_C) (y2 : Int32) (w3 : Option Value), mz_sh mz_GG M' → X M' → mz_fr hm_fa_q M M' → (∀ a, a < 8 → M' a = M a) → hb_same mz_GG hm_fa_q M M' → mq_nl w3 = true → 0 ≤ (-3) + hv M 234 25 → 0 ≤ (-8) + hv M 234 25 → 0 ≤ 2 + y2.toInt → 0 ≤ 31 - y2.toInt → mq_R mq_PP d 146 188 [some (.ref 234), some (.int x1), some (.int y2), w3] [] (M', z, u) Q)
    (k1 : ∀ (M' : Nat → mq_C) (y2 : Int32) (w3 : Option Value), mz_sh mz_GG M' → X M' → mz_fr hm_fa_q M M' → (∀ a, a < 8 → M' a = M a) → hb_same mz_GG hm_fa_q M M' → mq_nl w3 = true → 0 ≤ (-3) + hv M 234 25 → 0 ≤ (-8) + hv M 234 25 → 0 ≤ 2 + y2.toInt → 0 ≤ 31 - y2.toInt → mq_R mq_PP d 146 188 [some (.ref 234), some (.int x1), some (.int y2), w3] [] (M', z, u) Q)
    (k2 : ∀ (M' : Nat → mq_C) (y2 : Int32) (w3 : Option Value), mz_sh mz_GG M' → X M' → mz_fr hm_fa_q M M' → (∀ a, a < 8 → M' a = M a) → hb_same mz_GG hm_fa_q M M' → mq_nl w3 = true → 0 ≤ (-3) + hv M 234 25 → 0 ≤ (-8) + hv M 234 25 → 0 ≤ 2 + y2.toInt → 0 ≤ 31 - y2.toInt → mq_R mq_PP d 146 188 [some (.ref 234), some (.int x1), some (.int y2), w3] [] (M', z, u) Q)
    (k3 : ∀ (M' : Nat → mq_C) (y2 : Int32) (w3 : Option Value), mz_sh mz_GG M' → X M' → mz_fr hm_fa_q M M' → (∀ a, a < 8 → M' a = M a) → hb_same mz_GG hm_fa_q M M' → mq_nl w3 = true → 0 ≤ (-3) + hv M 234 25 → 0 ≤ (-8) + hv M 234 25 → 0 ≤ 2 + y2.toInt → 0 ≤ 31 - y2.toInt → mq_R mq_PP d 146 188 [some (.ref 234), some (.int x1), some (.int y2), w3] [] (M', z, u) Q)
    (k4 : ∀ (M' : Nat → mq_C) (y2 : Int32) (w3 : Option Value), mz_sh mz_GG M' → X M' → mz_fr hm_fa_q M M' → (∀ a, a < 8 → M' a = M a) → hb_same mz_GG hm_fa_q M M' → mq_nl w3 = true → 0 ≤ (-3) + hv M 234 25 → 0 ≤ (-8) + hv M 234 25 → 0 ≤ 2 + y2.toInt → 0 ≤ 31 - y2.toInt → mq_R mq_PP d 146 188 [some (.ref 234), some (.int x1), some (.int y2), w3] [] (M', z, u) Q)
    (k5 : ∀ (M' : Nat → mq_C) (y2 : Int32) (w3 : Option Value), mz_sh mz_GG M' → X M' → mz_fr hm_fa_q M M' → (∀ a, a < 8 → M' a = M a) → hb_same mz_GG hm_fa_q M M' → mq_nl w3 = true → 0 ≤ (-3) + hv M 234 25 → 0 ≤ (-8) + hv M 234 25 → 0 ≤ 2 + y2.toInt → 0 ≤ 31 - y2.toInt → mq_R mq_PP d 146 188 [some (.ref 234), some (.int x1), some (.int y2), w3] [] (M', z, u) Q)
    (k6 : ∀ (M' : Nat → mq_C) (y2 : Int32) (w3 : Option Value), mz_sh mz_GG M' → X M' → mz_fr hm_fa_q M M' → (∀ a, a < 8 → M' a = M a) → hb_same mz_GG hm_fa_q M M' → mq_nl w3 = true → 0 ≤ (-3) + hv M 234 25 → 0 ≤ (-8) + hv M 234 25 → 0 ≤ 2 + y2.toInt → 0 ≤ 31 - y2.toInt → mq_R mq_PP d 146 188 [some (.ref 234), some (.int x1), some (.int y2), w3] [] (M', z, u) Q)
    (k7 : ∀ (M' : Nat → mq_C) (y2 : Int32) (w3 : Option Value), mz_sh mz_GG M' → X M' → mz_fr hm_fa_q M M' → (∀ a, a < 8 → M' a = M a) → hb_same mz_GG hm_fa_q M M' → mq_nl w3 = true → 0 ≤ (-3) + hv M 234 25 → 0 ≤ (-8) + hv M 234 25 → 0 ≤ 2 + y2.toInt → 0 ≤ 31 - y2.toInt → mq_R mq_PP d 146 188 [some (.ref 234), some (.int x1), some (.int y2), w3] [] (M', z, u) Q)
    (k8 : ∀ (M' : Nat → mq_C) (y2 : Int32) (w3 : Option Value), mz_sh mz_GG M' → X M' → mz_fr hm_fa_q M M' → (∀ a, a < 8 → M' a = M a) → hb_same mz_GG hm_fa_q M M' → mq_nl w3 = true → 0 ≤ (-3) + hv M 234 25 → 0 ≤ (-8) + hv M 234 25 → 0 ≤ 2 + y2.toInt → 0 ≤ 31 - y2.toInt → mq_R mq_PP d 146 188 [some (.ref 234), some (.int x1), some (.int y2), w3] [] (M', z, u) Q)
    (k9 : ∀ (M' : Nat → mq_C) (y2 : Int32) (w3 : Option Value), mz_sh mz_GG M' → X M' → mz_fr hm_fa_q M M' → (∀ a, a < 8 → M' a = M a) → hb_same mz_GG hm_fa_q M M' → mq_nl w3 = true → 0 ≤ (-3) + hv M 234 25 → 0 ≤ (-8) + hv M 234 25 → 0 ≤ 2 + y2.toInt → 0 ≤ 31 - y2.toInt → mq_R mq_PP d 146 188 [some (.ref 234), some (.int x1), some (.int y2), w3] [] (M', z, u) Q)
    (k10 : ∀ (M' : Nat → mq_C) (y2 : Int32) (w3 : Option Value), mz_sh mz_GG M' → X M' → mz_fr hm_fa_q M M' → (∀ a, a < 8 → M' a = M a) → hb_same mz_GG hm_fa_q M M' → mq_nl w3 = true → 0 ≤ (-3) + hv M 234 25 → 0 ≤ (-8) + hv M 234 25 → 0 ≤ 2 + y2.toInt → 0 ≤ 31 - y2.toInt → mq_R mq_PP d 146 188 [some (.ref 234), some (.int x1), some (.int y2), w3] [] (M', z, u) Q)
    (k11 : ∀ (M' : Nat → mq_C) (y2 : Int32) (w3 : Option Value), mz_sh mz_GG M' → X M' → mz_fr hm_fa_q M M' → (∀ a, a < 8 → M' a = M a) → hb_same mz_GG hm_fa_q M M' → mq_nl w3 = true → 0 ≤ (-3) + hv M 234 25 → 0 ≤ (-8) + hv M 234 25 → 0 ≤ 2 + y2.toInt → 0 ≤ 31 - y2.toInt → mq_R mq_PP d 146 188 [some (.ref 234), some (.int x1), some (.int y2), w3] [] (M', z, u) Q)
    (w0 : ∀ (M' : Nat → mq_C) (r : Int32), mz_sh mz_GG M' → X M' → mz_fr hm_fa_q M M' → (∀ a, a < 8 → M' a = M a) → hb_same mz_GG hm_fa_q M M' → 0 ≤ (-1) + r.toInt → 0 ≤ 5 - r.toInt → Q (.inl (some (.int r))) (M', z, u)) : mq_R mq_PP d 146 0 [some (.ref 234), some (.int x1), o2, o3] [] (M, z, u) Q := by
  refine hb_blk mz_GG mq_PP X (q := hm_fa_q) (nl := 4) (M := M) hb_okG hX hC hm_fa_c hz hd (L := [some (.ref 234), some (.int x1), o2, o3]) (st := []) (show hb_lk mz_GG ([(1, 234), (0, 0), (3, 0), (3, 0)]) _ from ⟨⟨List.mem_singleton.mpr rfl, rfl⟩, trivial, h0, h1, trivial⟩) (show hb_pk mz_GG ([]) _ from trivial) hm hx ?_ ?_ ?_
  · exact hb_nil
  · intro s hs
    rcases List.mem_cons.mp hs with rfl | hs
    · intro ρ1 L' st' M' g1 g2 gm gr gf gs gx gw g8 ge
      obtain ⟨e0, L1, rfl, n0, gg0⟩ := hb_l1 mz_GG g1
      obtain rfl : e0 = 234 := List.mem_singleton.mp n0
      obtain ⟨y1, L1, rfl, qr66, gg1⟩ := hb_l0 mz_GG gg0
      have r66 : ρ1 66 = y1.toInt := qr66
      obtain ⟨y2, L1, rfl, qr67, gg2⟩ := hb_l0 mz_GG gg1
      have r67 : ρ1 67 = y2.toInt := qr67
      obtain ⟨w3, L1, rfl, n3, gg3⟩ := hb_l3 mz_GG gg2
      obtain rfl := hb_ln mz_GG gg3
      obtain rfl := hb_pn mz_GG g2
      have r1 : ρ1 1 = x1.toInt := gr 1 (by decide +kernel)
      have r27 : ρ1 27 = hv M 234 25 := gr 27 (by decide +kernel)
      obtain ⟨f0, gf⟩ := hb_unc gf
      have f0 : 0 ≤ 0 + ((-1) * ρ1 1 + (1 * ρ1 66 + 0)) := f0
      rw [r1, r66] at f0
      obtain ⟨f1, gf⟩ := hb_unc gf
      have f1 : 0 ≤ 0 + (1 * ρ1 1 + ((-1) * ρ1 66 + 0)) := f1
      rw [r1, r66] at f1
      obtain ⟨f2, gf⟩ := hb_unc gf
      have f2 : 0 ≤ -3 + (1 * ρ1 27 + 0) := f2
      rw [r27] at f2
      obtain ⟨f3, gf⟩ := hb_unc gf
      have f3 : 0 ≤ -8 + (1 * ρ1 27 + 0) := f3
      rw [r27] at f3
      obtain ⟨f4, gf⟩ := hb_unc gf
      have f4 : 0 ≤ 2 + (1 * ρ1 67 + 0) := f4
      rw [r67] at f4
      obtain ⟨f5, gf⟩ := hb_unc gf
      have f5 : 0 ≤ 31 + ((-1) * ρ1 67 + 0) := f5
      rw [r67] at f5
      have hy1 : y1 = x1 := hb_inj f0 f1
      subst y1
      exact k0 M' y2 w3 gs gx gw g8 ge n3 (by have h1 := f2; omega) (by have h1 := f3; omega) (by have h1 := f4; omega) (by have h1 := f5; omega)
    rcases List.mem_cons.mp hs with rfl | hs
    · intro ρ1 L' st' M' g1 g2 gm gr gf gs gx gw g8 ge
      obtain ⟨e0, L1, rfl, n0, gg0⟩ := hb_l1 mz_GG g1
      obtain rfl : e0 = 234 := List.mem_singleton.mp n0
      obtain ⟨y1, L1, rfl, qr66, gg1⟩ := hb_l0 mz_GG gg0
      have r66 : ρ1 66 = y1.toInt := qr66
      obtain ⟨y2, L1, rfl, qr67, gg2⟩ := hb_l0 mz_GG gg1
      have r67 : ρ1 67 = y2.toInt := qr67
      obtain ⟨w3, L1, rfl, n3, gg3⟩ := hb_l3 mz_GG gg2
      obtain rfl := hb_ln mz_GG gg3
      obtain rfl := hb_pn mz_GG g2
      have r1 : ρ1 1 = x1.toInt := gr 1 (by decide +kernel)
      have r27 : ρ1 27 = hv M 234 25 := gr 27 (by decide +kernel)
      obtain ⟨f0, gf⟩ := hb_unc gf
      have f0 : 0 ≤ 0 + ((-1) * ρ1 1 + (1 * ρ1 66 + 0)) := f0
      rw [r1, r66] at f0
      obtain ⟨f1, gf⟩ := hb_unc gf
      have f1 : 0 ≤ 0 + (1 * ρ1 1 + ((-1) * ρ1 66 + 0)) := f1
      rw [r1, r66] at f1
      obtain ⟨f2, gf⟩ := hb_unc gf
      have f2 : 0 ≤ -3 + (1 * ρ1 27 + 0) := f2
      rw [r27] at f2
      obtain ⟨f3, gf⟩ := hb_unc gf
      have f3 : 0 ≤ -8 + (1 * ρ1 27 + 0) := f3
      rw [r27] at f3
      obtain ⟨f4, gf⟩ := hb_unc gf
      have f4 : 0 ≤ 2 + (1 * ρ1 67 + 0) := f4
      rw [r67] at f4
      obtain ⟨f5, gf⟩ := hb_unc gf
      have f5 : 0 ≤ 31 + ((-1) * ρ1 67 + 0) := f5
      rw [r67] at f5
      have hy1 : y1 = x1 := hb_inj f0 f1
      subst y1
      exact k1 M' y2 w3 gs gx gw g8 ge n3 (by have h1 := f2; omega) (by have h1 := f3; omega) (by have h1 := f4; omega) (by have h1 := f5; omega)
    rcases List.mem_cons.mp hs with rfl | hs
    · intro ρ1 L' st' M' g1 g2 gm gr gf gs gx gw g8 ge
      obtain ⟨e0, L1, rfl, n0, gg0⟩ := hb_l1 mz_GG g1
      obtain rfl : e0 = 234 := List.mem_singleton.mp n0
      obtain ⟨y1, L1, rfl, qr66, gg1⟩ := hb_l0 mz_GG gg0
      have r66 : ρ1 66 = y1.toInt := qr66
      obtain ⟨y2, L1, rfl, qr67, gg2⟩ := hb_l0 mz_GG gg1
      have r67 : ρ1 67 = y2.toInt := qr67
      obtain ⟨w3, L1, rfl, n3, gg3⟩ := hb_l3 mz_GG gg2
      obtain rfl := hb_ln mz_GG gg3
      obtain rfl := hb_pn mz_GG g2
      have r1 : ρ1 1 = x1.toInt := gr 1 (by decide +kernel)
      have r27 : ρ1 27 = hv M 234 25 := gr 27 (by decide +kernel)
      obtain ⟨f0, gf⟩ := hb_unc gf
      have f0 : 0 ≤ 0 + ((-1) * ρ1 1 + (1 * ρ1 66 + 0)) := f0
      rw [r1, r66] at f0
      obtain ⟨f1, gf⟩ := hb_unc gf
      have f1 : 0 ≤ 0 + (1 * ρ1 1 + ((-1) * ρ1 66 + 0)) := f1
      rw [r1, r66] at f1
      obtain ⟨f2, gf⟩ := hb_unc gf
      have f2 : 0 ≤ -3 + (1 * ρ1 27 + 0) := f2
      rw [r27] at f2
      obtain ⟨f3, gf⟩ := hb_unc gf
      have f3 : 0 ≤ -8 + (1 * ρ1 27 + 0) := f3
      rw [r27] at f3
      obtain ⟨f4, gf⟩ := hb_unc gf
      have f4 : 0 ≤ 2 + (1 * ρ1 67 + 0) := f4
      rw [r67] at f4
      obtain ⟨f5, gf⟩ := hb_unc gf
      have f5 : 0 ≤ 31 + ((-1) * ρ1 67 + 0) := f5
      rw [r67] at f5
      have hy1 : y1 = x1 := hb_inj f0 f1
      subst y1
      exact k2 M' y2 w3 gs gx gw g8 ge n3 (by have h1 := f2; omega) (by have h1 := f3; omega) (by have h1 := f4; omega) (by have h1 := f5; omega)
    rcases List.mem_cons.mp hs with rfl | hs
    · intro ρ1 L' st' M' g1 g2 gm gr gf gs gx gw g8 ge
      obtain ⟨e0, L1, rfl, n0, gg0⟩ := hb_l1 mz_GG g1
      obtain rfl : e0 = 234 := List.mem_singleton.mp n0
      obtain ⟨y1, L1, rfl, qr66, gg1⟩ := hb_l0 mz_GG gg0
      have r66 : ρ1 66 = y1.toInt := qr66
      obtain ⟨y2, L1, rfl, qr67, gg2⟩ := hb_l0 mz_GG gg1
      have r67 : ρ1 67 = y2.toInt := qr67
      obtain ⟨w3, L1, rfl, n3, gg3⟩ := hb_l3 mz_GG gg2
      obtain rfl := hb_ln mz_GG gg3
      obtain rfl := hb_pn mz_GG g2
      have r1 : ρ1 1 = x1.toInt := gr 1 (by decide +kernel)
      have r27 : ρ1 27 = hv M 234 25 := gr 27 (by decide +kernel)
      obtain ⟨f0, gf⟩ := hb_unc gf
      have f0 : 0 ≤ 0 + ((-1) * ρ1 1 + (1 * ρ1 66 + 0)) := f0
      rw [r1, r66] at f0
      obtain ⟨f1, gf⟩ := hb_unc gf
      have f1 : 0 ≤ 0 + (1 * ρ1 1 + ((-1) * ρ1 66 + 0)) := f1
      rw [r1, r66] at f1
      obtain ⟨f2, gf⟩ := hb_unc gf
      have f2 : 0 ≤ -3 + (1 * ρ1 27 + 0) := f2
      rw [r27] at f2
      obtain ⟨f3, gf⟩ := hb_unc gf
      have f3 : 0 ≤ -8 + (1 * ρ1 27 + 0) := f3
      rw [r27] at f3
      obtain ⟨f4, gf⟩ := hb_unc gf
      have f4 : 0 ≤ 2 + (1 * ρ1 67 + 0) := f4
      rw [r67] at f4
      obtain ⟨f5, gf⟩ := hb_unc gf
      have f5 : 0 ≤ 31 + ((-1) * ρ1 67 + 0) := f5
      rw [r67] at f5
      have hy1 : y1 = x1 := hb_inj f0 f1
      subst y1
      exact k3 M' y2 w3 gs gx gw g8 ge n3 (by have h1 := f2; omega) (by have h1 := f3; omega) (by have h1 := f4; omega) (by have h1 := f5; omega)
    rcases List.mem_cons.mp hs with rfl | hs
    · intro ρ1 L' st' M' g1 g2 gm gr gf gs gx gw g8 ge
      obtain ⟨e0, L1, rfl, n0, gg0⟩ := hb_l1 mz_GG g1
      obtain rfl : e0 = 234 := List.mem_singleton.mp n0
      obtain ⟨y1, L1, rfl, qr66, gg1⟩ := hb_l0 mz_GG gg0
      have r66 : ρ1 66 = y1.toInt := qr66
      obtain ⟨y2, L1, rfl, qr67, gg2⟩ := hb_l0 mz_GG gg1
      have r67 : ρ1 67 = y2.toInt := qr67
      obtain ⟨w3, L1, rfl, n3, gg3⟩ := hb_l3 mz_GG gg2
      obtain rfl := hb_ln mz_GG gg3
      obtain rfl := hb_pn mz_GG g2
      have r1 : ρ1 1 = x1.toInt := gr 1 (by decide +kernel)
      have r27 : ρ1 27 = hv M 234 25 := gr 27 (by decide +kernel)
      obtain ⟨f0, gf⟩ := hb_unc gf
      have f0 : 0 ≤ 0 + ((-1) * ρ1 1 + (1 * ρ1 66 + 0)) := f0
      rw [r1, r66] at f0
      obtain ⟨f1, gf⟩ := hb_unc gf
      have f1 : 0 ≤ 0 + (1 * ρ1 1 + ((-1) * ρ1 66 + 0)) := f1
      rw [r1, r66] at f1
      obtain ⟨f2, gf⟩ := hb_unc gf
      have f2 : 0 ≤ -3 + (1 * ρ1 27 + 0) := f2
      rw [r27] at f2
      obtain ⟨f3, gf⟩ := hb_unc gf
      have f3 : 0 ≤ -8 + (1 * ρ1 27 + 0) := f3
      rw [r27] at f3
      obtain ⟨f4, gf⟩ := hb_unc gf
      have f4 : 0 ≤ 2 + (1 * ρ1 67 + 0) := f4
      rw [r67] at f4
      obtain ⟨f5, gf⟩ := hb_unc gf
      have f5 : 0 ≤ 31 + ((-1) * ρ1 67 + 0) := f5
      rw [r67] at f5
      have hy1 : y1 = x1 := hb_inj f0 f1
      subst y1
      exact k4 M' y2 w3 gs gx gw g8 ge n3 (by have h1 := f2; omega) (by have h1 := f3; omega) (by have h1 := f4; omega) (by have h1 := f5; omega)
    rcases List.mem_cons.mp hs with rfl | hs
    · intro ρ1 L' st' M' g1 g2 gm gr gf gs gx gw g8 ge
      obtain ⟨e0, L1, rfl, n0, gg0⟩ := hb_l1 mz_GG g1
      obtain rfl : e0 = 234 := List.mem_singleton.mp n0
      obtain ⟨y1, L1, rfl, qr66, gg1⟩ := hb_l0 mz_GG gg0
      have r66 : ρ1 66 = y1.toInt := qr66
      obtain ⟨y2, L1, rfl, qr67, gg2⟩ := hb_l0 mz_GG gg1
      have r67 : ρ1 67 = y2.toInt := qr67
      obtain ⟨w3, L1, rfl, n3, gg3⟩ := hb_l3 mz_GG gg2
      obtain rfl := hb_ln mz_GG gg3
      obtain rfl := hb_pn mz_GG g2
      have r1 : ρ1 1 = x1.toInt := gr 1 (by decide +kernel)
      have r27 : ρ1 27 = hv M 234 25 := gr 27 (by decide +kernel)
      obtain ⟨f0, gf⟩ := hb_unc gf
      have f0 : 0 ≤ 0 + ((-1) * ρ1 1 + (1 * ρ1 66 + 0)) := f0
      rw [r1, r66] at f0
      obtain ⟨f1, gf⟩ := hb_unc gf
      have f1 : 0 ≤ 0 + (1 * ρ1 1 + ((-1) * ρ1 66 + 0)) := f1
      rw [r1, r66] at f1
      obtain ⟨f2, gf⟩ := hb_unc gf
      have f2 : 0 ≤ -3 + (1 * ρ1 27 + 0) := f2
      rw [r27] at f2
      obtain ⟨f3, gf⟩ := hb_unc gf
      have f3 : 0 ≤ -8 + (1 * ρ1 27 + 0) := f3
      rw [r27] at f3
      obtain ⟨f4, gf⟩ := hb_unc gf
      have f4 : 0 ≤ 2 + (1 * ρ1 67 + 0) := f4
      rw [r67] at f4
      obtain ⟨f5, gf⟩ := hb_unc gf
      have f5 : 0 ≤ 31 + ((-1) * ρ1 67 + 0) := f5
      rw [r67] at f5
      have hy1 : y1 = x1 := hb_inj f0 f1
      subst y1
      exact k5 M' y2 w3 gs gx gw g8 ge n3 (by have h1 := f2; omega) (by have h1 := f3; omega) (by have h1 := f4; omega) (by have h1 := f5; omega)
    rcases List.mem_cons.mp hs with rfl | hs
    · intro ρ1 L' st' M' g1 g2 gm gr gf gs gx gw g8 ge
      obtain ⟨e0, L1, rfl, n0, gg0⟩ := hb_l1 mz_GG g1
      obtain rfl : e0 = 234 := List.mem_singleton.mp n0
      obtain ⟨y1, L1, rfl, qr66, gg1⟩ := hb_l0 mz_GG gg0
      have r66 : ρ1 66 = y1.toInt := qr66
      obtain ⟨y2, L1, rfl, qr67, gg2⟩ := hb_l0 mz_GG gg1
      have r67 : ρ1 67 = y2.toInt := qr67
      obtain ⟨w3, L1, rfl, n3, gg3⟩ := hb_l3 mz_GG gg2
      obtain rfl := hb_ln mz_GG gg3
      obtain rfl := hb_pn mz_GG g2
      have r1 : ρ1 1 = x1.toInt := gr 1 (by decide +kernel)
      have r27 : ρ1 27 = hv M 234 25 := gr 27 (by decide +kernel)
      obtain ⟨f0, gf⟩ := hb_unc gf
      have f0 : 0 ≤ 0 + ((-1) * ρ1 1 + (1 * ρ1 66 + 0)) := f0
      rw [r1, r66] at f0
      obtain ⟨f1, gf⟩ := hb_unc gf
      have f1 : 0 ≤ 0 + (1 * ρ1 1 + ((-1) * ρ1 66 + 0)) := f1
      rw [r1, r66] at f1
      obtain ⟨f2, gf⟩ := hb_unc gf
      have f2 : 0 ≤ -3 + (1 * ρ1 27 + 0) := f2
      rw [r27] at f2
      obtain ⟨f3, gf⟩ := hb_unc gf
      have f3 : 0 ≤ -8 + (1 * ρ1 27 + 0) := f3
      rw [r27] at f3
      obtain ⟨f4, gf⟩ := hb_unc gf
      have f4 : 0 ≤ 2 + (1 * ρ1 67 + 0) := f4
      rw [r67] at f4
      obtain ⟨f5, gf⟩ := hb_unc gf
      have f5 : 0 ≤ 31 + ((-1) * ρ1 67 + 0) := f5
      rw [r67] at f5
      have hy1 : y1 = x1 := hb_inj f0 f1
      subst y1
      exact k6 M' y2 w3 gs gx gw g8 ge n3 (by have h1 := f2; omega) (by have h1 := f3; omega) (by have h1 := f4; omega) (by have h1 := f5; omega)
    rcases List.mem_cons.mp hs with rfl | hs
    · intro ρ1 L' st' M' g1 g2 gm gr gf gs gx gw g8 ge
      obtain ⟨e0, L1, rfl, n0, gg0⟩ := hb_l1 mz_GG g1
      obtain rfl : e0 = 234 := List.mem_singleton.mp n0
      obtain ⟨y1, L1, rfl, qr66, gg1⟩ := hb_l0 mz_GG gg0
      have r66 : ρ1 66 = y1.toInt := qr66
      obtain ⟨y2, L1, rfl, qr67, gg2⟩ := hb_l0 mz_GG gg1
      have r67 : ρ1 67 = y2.toInt := qr67
      obtain ⟨w3, L1, rfl, n3, gg3⟩ := hb_l3 mz_GG gg2
      obtain rfl := hb_ln mz_GG gg3
      obtain rfl := hb_pn mz_GG g2
      have r1 : ρ1 1 = x1.toInt := gr 1 (by decide +kernel)
      have r27 : ρ1 27 = hv M 234 25 := gr 27 (by decide +kernel)
      obtain ⟨f0, gf⟩ := hb_unc gf
      have f0 : 0 ≤ 0 + ((-1) * ρ1 1 + (1 * ρ1 66 + 0)) := f0
      rw [r1, r66] at f0
      obtain ⟨f1, gf⟩ := hb_unc gf
      have f1 : 0 ≤ 0 + (1 * ρ1 1 + ((-1) * ρ1 66 + 0)) := f1
      rw [r1, r66] at f1
      obtain ⟨f2, gf⟩ := hb_unc gf
      have f2 : 0 ≤ -3 + (1 * ρ1 27 + 0) := f2
      rw [r27] at f2
      obtain ⟨f3, gf⟩ := hb_unc gf
      have f3 : 0 ≤ -8 + (1 * ρ1 27 + 0) := f3
      rw [r27] at f3
      obtain ⟨f4, gf⟩ := hb_unc gf
      have f4 : 0 ≤ 2 + (1 * ρ1 67 + 0) := f4
      rw [r67] at f4
      obtain ⟨f5, gf⟩ := hb_unc gf
      have f5 : 0 ≤ 31 + ((-1) * ρ1 67 + 0) := f5
      rw [r67] at f5
      have hy1 : y1 = x1 := hb_inj f0 f1
      subst y1
      exact k7 M' y2 w3 gs gx gw g8 ge n3 (by have h1 := f2; omega) (by have h1 := f3; omega) (by have h1 := f4; omega) (by have h1 := f5; omega)
    rcases List.mem_cons.mp hs with rfl | hs
    · intro ρ1 L' st' M' g1 g2 gm gr gf gs gx gw g8 ge
      obtain ⟨e0, L1, rfl, n0, gg0⟩ := hb_l1 mz_GG g1
      obtain rfl : e0 = 234 := List.mem_singleton.mp n0
      obtain ⟨y1, L1, rfl, qr66, gg1⟩ := hb_l0 mz_GG gg0
      have r66 : ρ1 66 = y1.toInt := qr66
      obtain ⟨y2, L1, rfl, qr67, gg2⟩ := hb_l0 mz_GG gg1
      have r67 : ρ1 67 = y2.toInt := qr67
      obtain ⟨w3, L1, rfl, n3, gg3⟩ := hb_l3 mz_GG gg2
      obtain rfl := hb_ln mz_GG gg3
      obtain rfl := hb_pn mz_GG g2
      have r1 : ρ1 1 = x1.toInt := gr 1 (by decide +kernel)
      have r27 : ρ1 27 = hv M 234 25 := gr 27 (by decide +kernel)
      obtain ⟨f0, gf⟩ := hb_unc gf
      have f0 : 0 ≤ 0 + ((-1) * ρ1 1 + (1 * ρ1 66 + 0)) := f0
      rw [r1, r66] at f0
      obtain ⟨f1, gf⟩ := hb_unc gf
      have f1 : 0 ≤ 0 + (1 * ρ1 1 + ((-1) * ρ1 66 + 0)) := f1
      rw [r1, r66] at f1
      obtain ⟨f2, gf⟩ := hb_unc gf
      have f2 : 0 ≤ -3 + (1 * ρ1 27 + 0) := f2
      rw [r27] at f2
      obtain ⟨f3, gf⟩ := hb_unc gf
      have f3 : 0 ≤ -8 + (1 * ρ1 27 + 0) := f3
      rw [r27] at f3
      obtain ⟨f4, gf⟩ := hb_unc gf
      have f4 : 0 ≤ 2 + (1 * ρ1 67 + 0) := f4
      rw [r67] at f4
      obtain ⟨f5, gf⟩ := hb_unc gf
      have f5 : 0 ≤ 31 + ((-1) * ρ1 67 + 0) := f5
      rw [r67] at f5
      have hy1 : y1 = x1 := hb_inj f0 f1
      subst y1
      exact k8 M' y2 w3 gs gx gw g8 ge n3 (by have h1 := f2; omega) (by have h1 := f3; omega) (by have h1 := f4; omega) (by have h1 := f5; omega)
    rcases List.mem_cons.mp hs with rfl | hs
    · intro ρ1 L' st' M' g1 g2 gm gr gf gs gx gw g8 ge
      obtain ⟨e0, L1, rfl, n0, gg0⟩ := hb_l1 mz_GG g1
      obtain rfl : e0 = 234 := List.mem_singleton.mp n0
      obtain ⟨y1, L1, rfl, qr66, gg1⟩ := hb_l0 mz_GG gg0
      have r66 : ρ1 66 = y1.toInt := qr66
      obtain ⟨y2, L1, rfl, qr67, gg2⟩ := hb_l0 mz_GG gg1
      have r67 : ρ1 67 = y2.toInt := qr67
      obtain ⟨w3, L1, rfl, n3, gg3⟩ := hb_l3 mz_GG gg2
      obtain rfl := hb_ln mz_GG gg3
      obtain rfl := hb_pn mz_GG g2
      have r1 : ρ1 1 = x1.toInt := gr 1 (by decide +kernel)
      have r27 : ρ1 27 = hv M 234 25 := gr 27 (by decide +kernel)
      obtain ⟨f0, gf⟩ := hb_unc gf
      have f0 : 0 ≤ 0 + ((-1) * ρ1 1 + (1 * ρ1 66 + 0)) := f0
      rw [r1, r66] at f0
      obtain ⟨f1, gf⟩ := hb_unc gf
      have f1 : 0 ≤ 0 + (1 * ρ1 1 + ((-1) * ρ1 66 + 0)) := f1
      rw [r1, r66] at f1
      obtain ⟨f2, gf⟩ := hb_unc gf
      have f2 : 0 ≤ -3 + (1 * ρ1 27 + 0) := f2
      rw [r27] at f2
      obtain ⟨f3, gf⟩ := hb_unc gf
      have f3 : 0 ≤ -8 + (1 * ρ1 27 + 0) := f3
      rw [r27] at f3
      obtain ⟨f4, gf⟩ := hb_unc gf
      have f4 : 0 ≤ 2 + (1 * ρ1 67 + 0) := f4
      rw [r67] at f4
      obtain ⟨f5, gf⟩ := hb_unc gf
      have f5 : 0 ≤ 31 + ((-1) * ρ1 67 + 0) := f5
      rw [r67] at f5
      have hy1 : y1 = x1 := hb_inj f0 f1
      subst y1
      exact k9 M' y2 w3 gs gx gw g8 ge n3 (by have h1 := f2; omega) (by have h1 := f3; omega) (by have h1 := f4; omega) (by have h1 := f5; omega)
    rcases List.mem_cons.mp hs with rfl | hs
    · intro ρ1 L' st' M' g1 g2 gm gr gf gs gx gw g8 ge
      obtain ⟨e0, L1, rfl, n0, gg0⟩ := hb_l1 mz_GG g1
      obtain rfl : e0 = 234 := List.mem_singleton.mp n0
      obtain ⟨y1, L1, rfl, qr66, gg1⟩ := hb_l0 mz_GG gg0
      have r66 : ρ1 66 = y1.toInt := qr66
      obtain ⟨y2, L1, rfl, qr67, gg2⟩ := hb_l0 mz_GG gg1
      have r67 : ρ1 67 = y2.toInt := qr67
      obtain ⟨w3, L1, rfl, n3, gg3⟩ := hb_l3 mz_GG gg2
      obtain rfl := hb_ln mz_GG gg3
      obtain rfl := hb_pn mz_GG g2
      have r1 : ρ1 1 = x1.toInt := gr 1 (by decide +kernel)
      have r27 : ρ1 27 = hv M 234 25 := gr 27 (by decide +kernel)
      obtain ⟨f0, gf⟩ := hb_unc gf
      have f0 : 0 ≤ 0 + ((-1) * ρ1 1 + (1 * ρ1 66 + 0)) := f0
      rw [r1, r66] at f0
      obtain ⟨f1, gf⟩ := hb_unc gf
      have f1 : 0 ≤ 0 + (1 * ρ1 1 + ((-1) * ρ1 66 + 0)) := f1
      rw [r1, r66] at f1
      obtain ⟨f2, gf⟩ := hb_unc gf
      have f2 : 0 ≤ -3 + (1 * ρ1 27 + 0) := f2
      rw [r27] at f2
      obtain ⟨f3, gf⟩ := hb_unc gf
      have f3 : 0 ≤ -8 + (1 * ρ1 27 + 0) := f3
      rw [r27] at f3
      obtain ⟨f4, gf⟩ := hb_unc gf
      have f4 : 0 ≤ 2 + (1 * ρ1 67 + 0) := f4
      rw [r67] at f4
      obtain ⟨f5, gf⟩ := hb_unc gf
      have f5 : 0 ≤ 31 + ((-1) * ρ1 67 + 0) := f5
      rw [r67] at f5
      have hy1 : y1 = x1 := hb_inj f0 f1
      subst y1
      exact k10 M' y2 w3 gs gx gw g8 ge n3 (by have h1 := f2; omega) (by have h1 := f3; omega) (by have h1 := f4; omega) (by have h1 := f5; omega)
    rcases List.mem_cons.mp hs with rfl | hs
    · intro ρ1 L' st' M' g1 g2 gm gr gf gs gx gw g8 ge
      obtain ⟨e0, L1, rfl, n0, gg0⟩ := hb_l1 mz_GG g1
      obtain rfl : e0 = 234 := List.mem_singleton.mp n0
      obtain ⟨y1, L1, rfl, qr66, gg1⟩ := hb_l0 mz_GG gg0
      have r66 : ρ1 66 = y1.toInt := qr66
      obtain ⟨y2, L1, rfl, qr67, gg2⟩ := hb_l0 mz_GG gg1
      have r67 : ρ1 67 = y2.toInt := qr67
      obtain ⟨w3, L1, rfl, n3, gg3⟩ := hb_l3 mz_GG gg2
      obtain rfl := hb_ln mz_GG gg3
      obtain rfl := hb_pn mz_GG g2
      have r1 : ρ1 1 = x1.toInt := gr 1 (by decide +kernel)
      have r27 : ρ1 27 = hv M 234 25 := gr 27 (by decide +kernel)
      obtain ⟨f0, gf⟩ := hb_unc gf
      have f0 : 0 ≤ 0 + ((-1) * ρ1 1 + (1 * ρ1 66 + 0)) := f0
      rw [r1, r66] at f0
      obtain ⟨f1, gf⟩ := hb_unc gf
      have f1 : 0 ≤ 0 + (1 * ρ1 1 + ((-1) * ρ1 66 + 0)) := f1
      rw [r1, r66] at f1
      obtain ⟨f2, gf⟩ := hb_unc gf
      have f2 : 0 ≤ -3 + (1 * ρ1 27 + 0) := f2
      rw [r27] at f2
      obtain ⟨f3, gf⟩ := hb_unc gf
      have f3 : 0 ≤ -8 + (1 * ρ1 27 + 0) := f3
      rw [r27] at f3
      obtain ⟨f4, gf⟩ := hb_unc gf
      have f4 : 0 ≤ 2 + (1 * ρ1 67 + 0) := f4
      rw [r67] at f4
      obtain ⟨f5, gf⟩ := hb_unc gf
      have f5 : 0 ≤ 31 + ((-1) * ρ1 67 + 0) := f5
      rw [r67] at f5
      have hy1 : y1 = x1 := hb_inj f0 f1
      subst y1
      exact k11 M' y2 w3 gs gx gw g8 ge n3 (by have h1 := f2; omega) (by have h1 := f3; omega) (by have h1 := f4; omega) (by have h1 := f5; omega)
    cases hs
  · intro r S hpo
    obtain ⟨b1, b2, b3, b4, b5, p, hp, res, hf, hre⟩ := hpo
    rcases List.mem_cons.mp hp with rfl | hp
    · obtain ⟨x, rfl, hr, hz1, hu1⟩ := mz_re_0 mz_GG hre rfl
      obtain ⟨M', z', u'⟩ := S
      cases hz1
      cases hu1
      have r65 : hb_r1 mz_GG hm_fa_q (hb_rb mz_GG hm_fa_q 4 [some (.ref 234), some (.int x1), o2, o3] [] M) M' res 65 = res := rfl
      obtain ⟨f0, hf⟩ := hb_unc hf
      have f0 : 0 ≤ -1 + (1 * res + 0) := f0
      rw [← hr] at f0
      obtain ⟨f1, hf⟩ := hb_unc hf
      have f1 : 0 ≤ 5 + ((-1) * res + 0) := f1
      rw [← hr] at f1
      exact w0 M' x b1 b2 b3 b4 b5 (by have h1 := f0; omega) (by have h1 := f1; omega)
    cases hp

def hm_fb_q : mz_Q := (146, [(1, 234), (0, 0), (0, 0), (3, 0)], [], [], [(0, 0, [(0, [(65, 1)]), (5, [(65, -1)])])], [])
def hm_fb_s : List mz_Sp2 := []
def hm_fb_h : List mz_H := [(0, 0, []), (0, 0, []), (0, 0, []), (1, 0, []), (0, 0, []), (0, 0, []), (1, 0, []), (0, 0, []), (0, 0, []), (0, 0, []), (0, 0, []), (0, 0, []), (0, 0, []), (0, 0, []), (4, 0, []), (0, 0, [(1, 1)]), (0, 0, []), (1, 0, []), (0, 0, []), (0, 0, []), (1, 0, []), (0, 0, []), (0, 0, []), (0, 0, []), (0, 0, []), (0, 0, []), (0, 0, []), (1, 1, []), (0, 0, []), (3, 0, []), (0, 0, []), (0, 0, []), (0, 0, []), (0, 0, []), (0, 0, []), (1, 0, []), (0, 0, []), (0, 0, []), (0, 0, []), (0, 0, []), (3, 0, []), (0, 0, [(0, 1)]), (3, 0, []), (0, 0, []), (1, 1, []), (0, 0, []), (0, 0, []), (0, 0, []), (0, 0, []), (0, 0, []), (0, 0, []), (0, 0, []), (0, 0, []), (0, 0, []), (0, 0, []), (0, 0, []), (1, 0, []), (0, 0, []), (0, 0, []), (0, 0, []), (0, 0, []), (0, 0, []), (0, 0, []), (3, 0, []), (0, 0, []), (1, 1, []), (0, 0, []), (0, 0, []), (0, 0, []), (0, 0, []), (0, 0, []), (0, 0, []), (0, 0, []), (0, 0, []), (0, 0, []), (4, 0, []), (0, 0, []), (1, 0, []), (0, 0, []), (1, 0, []), (0, 0, []), (0, 0, []), (0, 0, []), (0, 0, []), (0, 0, []), (0, 0, []), (0, 0, []), (0, 0, []), (3, 0, []), (0, 0, []), (1, 1, []), (0, 0, []), (1, 0, []), (0, 0, []), (0, 0, []), (0, 0, []), (0, 0, []), (0, 0, []), (0, 0, []), (1, 0, []), (0, 0, []), (0, 0, []), (0, 0, []), (0, 0, []), (3, 0, []), (0, 0, [(0, 1)]), (3, 0, []), (0, 0, []), (1, 1, []), (0, 0, []), (0, 0, []), (0, 0, []), (0, 0, []), (0, 0, []), (0, 0, []), (0, 0, []), (0, 0, []), (0, 0, []), (0, 0, []), (0, 0, []), (1, 0, []), (0, 0, []), (0, 0, []), (0, 0, []), (0, 0, []), (0, 0, []), (0, 0, []), (3, 0, []), (0, 0, []), (1, 1, []), (0, 0, []), (0, 0, []), (0, 0, []), (0, 0, []), (0, 0, []), (0, 0, []), (0, 0, []), (0, 0, []), (0, 0, [])]
set_option maxRecDepth 100000 in
theorem hm_fb_c : mz_blk mz_GG mq_PP mz_Cs hm_fb_q 4 1 219 hm_fb_s [] 160 hm_fb_h = true := by decide +kernel
theorem hm_fb {X : (Nat → mq_C) → Prop} (hX : ∀ M M' : Nat → mq_C, mz_same mz_GG M M' → X M → X M') (hC : ∀ c ∈ mz_Cs, c.2 < 1 → mz_Ct mz_GG mq_PP X c.1 c.2) {d z u : Nat} {M : Nat → mq_C} {Q : (Option Value ⊕ Nat) → mq_S → Prop} {x1 : Int32} {x2 : Int32} {o3 : Option Value} (hd : 1 ≤ d) (hz : 272 ≤ z) (hm : mz_sh mz_GG M) (hx : X M) (h0 : mq_nl o3 = true)
    (w0 : ∀ (M' : Nat → mq_C) (r : Int32), mz_sh mz_GG M' → X M' → mz_fr hm_fb_q M M' → (∀ a, a < 8 → M' a = M a) → hb_same mz_GG hm_fb_q M M' → 0 ≤ r.toInt → 0 ≤ 5 - r.toInt → Q (.inl (some (.int r))) (M', z, u)) : mq_R mq_PP d 146 219 [some (.ref 234), some (.int x1), some (.int x2), o3] [] (M, z, u) Q := by
  refine hb_blk mz_GG mq_PP X (q := hm_fb_q) (nl := 4) (M := M) hb_okG hX hC hm_fb_c hz hd (L := [some (.ref 234), some (.int x1), some (.int x2), o3]) (st := []) (show hb_lk mz_GG ([(1, 234), (0, 0), (0, 0), (3, 0)]) _ from ⟨⟨List.mem_singleton.mpr rfl, rfl⟩, trivial, trivial, h0, trivial⟩) (show hb_pk mz_GG ([]) _ from trivial) hm hx ?_ ?_ ?_
  · exact hb_nil
  · intro s hs
    cases hs
  · intro r S hpo
    obtain ⟨b1, b2, b3, b4, b5, p, hp, res, hf, hre⟩ := hpo
    rcases List.mem_cons.mp hp with rfl | hp
    · obtain ⟨x, rfl, hr, hz1, hu1⟩ := mz_re_0 mz_GG hre rfl
      obtain ⟨M', z', u'⟩ := S
      cases hz1
      cases hu1
      have r65 : hb_r1 mz_GG hm_fb_q (hb_rb mz_GG hm_fb_q 4 [some (.ref 234), some (.int x1), some (.int x2), o3] [] M) M' res 65 = res := rfl
      obtain ⟨f0, hf⟩ := hb_unc hf
      have f0 : 0 ≤ 0 + (1 * res + 0) := f0
      rw [← hr] at f0
      obtain ⟨f1, hf⟩ := hb_unc hf
      have f1 : 0 ≤ 5 + ((-1) * res + 0) := f1
      rw [← hr] at f1
      exact w0 M' x b1 b2 b3 b4 b5 (by have h1 := f0; omega) (by have h1 := f1; omega)
    cases hp

def hm_fc_q : mz_Q := (146, [(1, 234), (0, 0), (0, 0), (3, 0)], [], [], [(0, 0, [(-3, [(65, 1)]), (3, [(65, -1)])])], [])
def hm_fc_s : List mz_Sp2 := []
def hm_fc_h : List mz_H := [(0, 0, []), (1, 0, []), (0, 0, []), (0, 0, []), (1, 0, []), (0, 0, []), (0, 0, []), (0, 0, []), (0, 0, []), (0, 0, []), (0, 0, [])]
set_option maxRecDepth 100000 in
theorem hm_fc_c : mz_blk mz_GG mq_PP mz_Cs hm_fc_q 4 1 244 hm_fc_s [] 16 hm_fc_h = true := by decide +kernel
theorem hm_fc {X : (Nat → mq_C) → Prop} (hX : ∀ M M' : Nat → mq_C, mz_same mz_GG M M' → X M → X M') (hC : ∀ c ∈ mz_Cs, c.2 < 1 → mz_Ct mz_GG mq_PP X c.1 c.2) {d z u : Nat} {M : Nat → mq_C} {Q : (Option Value ⊕ Nat) → mq_S → Prop} {x1 : Int32} {x2 : Int32} {o3 : Option Value} (hd : 1 ≤ d) (hz : 272 ≤ z) (hm : mz_sh mz_GG M) (hx : X M) (h0 : mq_nl o3 = true)
    (w0 : ∀ (M' : Nat → mq_C) (r : Int32), mz_sh mz_GG M' → X M' → mz_fr hm_fc_q M M' → (∀ a, a < 8 → M' a = M a) → hb_same mz_GG hm_fc_q M M' → 0 ≤ (-3) + r.toInt → 0 ≤ 3 - r.toInt → Q (.inl (some (.int r))) (M', z, u)) : mq_R mq_PP d 146 244 [some (.ref 234), some (.int x1), some (.int x2), o3] [] (M, z, u) Q := by
  refine hb_blk mz_GG mq_PP X (q := hm_fc_q) (nl := 4) (M := M) hb_okG hX hC hm_fc_c hz hd (L := [some (.ref 234), some (.int x1), some (.int x2), o3]) (st := []) (show hb_lk mz_GG ([(1, 234), (0, 0), (0, 0), (3, 0)]) _ from ⟨⟨List.mem_singleton.mpr rfl, rfl⟩, trivial, trivial, h0, trivial⟩) (show hb_pk mz_GG ([]) _ from trivial) hm hx ?_ ?_ ?_
  · exact hb_nil
  · intro s hs
    cases hs
  · intro r S hpo
    obtain ⟨b1, b2, b3, b4, b5, p, hp, res, hf, hre⟩ := hpo
    rcases List.mem_cons.mp hp with rfl | hp
    · obtain ⟨x, rfl, hr, hz1, hu1⟩ := mz_re_0 mz_GG hre rfl
      obtain ⟨M', z', u'⟩ := S
      cases hz1
      cases hu1
      have r65 : hb_r1 mz_GG hm_fc_q (hb_rb mz_GG hm_fc_q 4 [some (.ref 234), some (.int x1), some (.int x2), o3] [] M) M' res 65 = res := rfl
      obtain ⟨f0, hf⟩ := hb_unc hf
      have f0 : 0 ≤ -3 + (1 * res + 0) := f0
      rw [← hr] at f0
      obtain ⟨f1, hf⟩ := hb_unc hf
      have f1 : 0 ≤ 3 + ((-1) * res + 0) := f1
      rw [← hr] at f1
      exact w0 M' x b1 b2 b3 b4 b5 (by have h1 := f0; omega) (by have h1 := f1; omega)
    cases hp

theorem hm_ff {d z u : Nat} {Q : (Option Value ⊕ Nat) → mq_S → Prop} {M : Nat → mq_C} {x1 : Int32} (hC : ∀ c ∈ mz_Cs, c.2 < 3 → mz_Ct mz_GG mq_PP HX c.1 c.2) (hd : 3 ≤ d) (hz : 272 ≤ z) (hm : mz_sh mz_GG M) (hx : HX M)
    (K : ∀ (M' : Nat → mq_C) (r : Int32), mz_sh mz_GG M' → HX M' → mz_fr mz_q177 M M' → (∀ a, a < 8 → M' a = M a) → hb_same mz_GG mz_q177 M M' → 0 ≤ r.toInt → r.toInt ≤ 5 → (r.toInt = 0 → -1 ≤ hv M' 234 45 ∧ -1 ≤ hv M' 234 46 ∧ -1 ≤ hv M' 234 47) → Q (.inl (some (.int r))) (M', z, u)) : mq_R mq_PP d 146 0 [some (.ref 234), some (.int x1), none, none] [] (M, z, u) Q := by
  have hbad : ∀ (M1 : Nat → mq_C) (y2 : Int32), mz_sh mz_GG M1 → HX M1 → mz_fr hm_fa_q M M1 → (∀ a, a < 8 → M1 a = M a) → hb_same mz_GG hm_fa_q M M1 → ∀ w3 : Option Value, mq_nl w3 = true → mq_R mq_PP d 146 244 [some (.ref 234), some (.int x1), some (.int y2), w3] [] (M1, z, u) Q := by
    intro M1 y2 gs gx gw g8 ge w3 hw3
    refine hm_fc HX_same (fun c hc h => hC c hc (by omega)) (by omega) hz gs gx hw3 ?_
    intro M2 r hm2 gx2 gw2 g82 ge2
    intros
    refine K M2 r hm2 gx2 ?_ ?_ ?_ (by omega) (by omega) (fun _ => by omega)
    · exact hb_fr_t (q' := hm_fc_q) (hb_wsub (by decide)) (hb_fr_t (q' := hm_fa_q) (hb_wsub (by decide)) hb_fr_r gw) gw2
    · exact fun a ha => (g82 a ha).trans (g8 a ha)
    · exact hb_same_t (q' := hm_fc_q) (fun j hj => hj) (hb_same_t (q' := hm_fa_q) (fun j hj => hj) hb_same_r ge) ge2
  have hgo : ∀ (M1 : Nat → mq_C) (y2 : Int32), mz_sh mz_GG M1 → HX M1 → mz_fr hm_fa_q M M1 → (∀ a, a < 8 → M1 a = M a) → hb_same mz_GG hm_fa_q M M1 → ∀ w3 : Option Value, mq_nl w3 = true → mq_R mq_PP d 146 188 [some (.ref 234), some (.int x1), some (.int y2), w3] [] (M1, z, u) Q := by
    intro M1 y2 gs gx gw g8 ge w3 hw3
    refine he_iload (n := 189) (i := 2) (by decide +kernel) rfl ?_
    by_cases h189 : y2.toInt < 0
    · skip
      refine he_iflt_t (n := 192) (t := 244) (by decide +kernel) (by omega) ?_
      exact hbad _ _ gs gx gw g8 ge _ hw3
    · skip
      refine he_iflt_f (n := 192) (t := 244) (by decide +kernel) (by omega) ?_
      refine he_aload (n := 193) (i := 0) (by decide +kernel) rfl ?_
      refine hb_gfd (n := 196) (ci := 9) (j := 45) (ns := [4222, 262]) gs (by decide +kernel) rfl rfl (by decide) rfl ?_
      intro v193 hv193 lv193 uv193
      refine he_iconst (n := 198) (c := -2) (by decide +kernel) (by decide) ?_
      intro c196 hc196
      by_cases h198 : v193.toInt ≤ c196.toInt
      · skip
        refine he_cmple_t (n := 201) (t := 244) (by decide +kernel) (by omega) ?_
        exact hbad _ _ gs gx gw g8 ge _ hw3
      · skip
        refine he_cmple_f (n := 201) (t := 244) (by decide +kernel) (by omega) ?_
        refine he_aload (n := 202) (i := 0) (by decide +kernel) rfl ?_
        refine hb_gfd (n := 205) (ci := 9) (j := 46) (ns := [4223, 265]) gs (by decide +kernel) rfl rfl (by decide) rfl ?_
        intro v202 hv202 lv202 uv202
        refine he_iconst (n := 207) (c := -2) (by decide +kernel) (by decide) ?_
        intro c205 hc205
        by_cases h207 : v202.toInt ≤ c205.toInt
        · skip
          refine he_cmple_t (n := 210) (t := 244) (by decide +kernel) (by omega) ?_
          exact hbad _ _ gs gx gw g8 ge _ hw3
        · skip
          refine he_cmple_f (n := 210) (t := 244) (by decide +kernel) (by omega) ?_
          refine he_aload (n := 211) (i := 0) (by decide +kernel) rfl ?_
          refine hb_gfd (n := 214) (ci := 9) (j := 47) (ns := [4224, 268]) gs (by decide +kernel) rfl rfl (by decide) rfl ?_
          intro v211 hv211 lv211 uv211
          refine he_iconst (n := 216) (c := -2) (by decide +kernel) (by decide) ?_
          intro c214 hc214
          by_cases h216 : v211.toInt ≤ c214.toInt
          · skip
            refine he_cmple_t (n := 219) (t := 244) (by decide +kernel) (by omega) ?_
            exact hbad _ _ gs gx gw g8 ge _ hw3
          · skip
            refine he_cmple_f (n := 219) (t := 244) (by decide +kernel) (by omega) ?_
            refine hm_fb HX_same (fun c hc h => hC c hc (by omega)) (by omega) hz gs gx hw3 ?_
            intro M2 r hm2 gx2 gw2 g82 ge2
            intros
            have e2 : ∀ i, hv M2 234 i = hv M1 234 i := fun i => hb_vc (gw2 234 (by decide) (by decide)) i
            refine K M2 r hm2 gx2 ?_ ?_ ?_ (by omega) (by omega) (fun _ => ⟨?_, ?_, ?_⟩)
            · exact hb_fr_t (q' := hm_fb_q) (hb_wsub (by decide)) (hb_fr_t (q' := hm_fa_q) (hb_wsub (by decide)) hb_fr_r gw) gw2
            · exact fun a ha => (g82 a ha).trans (g8 a ha)
            · exact hb_same_t (q' := hm_fb_q) (fun j hj => hj) (hb_same_t (q' := hm_fa_q) (fun j hj => hj) hb_same_r ge) ge2
            · rw [e2, hv193]; omega
            · rw [e2, hv202]; omega
            · rw [e2, hv211]; omega
  refine hm_fa HX_same (fun c hc h => hC c hc (by omega)) (by omega) hz hm hx rfl rfl ?_ ?_ ?_ ?_ ?_ ?_ ?_ ?_ ?_ ?_ ?_ ?_ ?_
  iterate 12
    · intro M1 y2 w3 gs gx gw g8 ge hw3
      intros
      exact hgo M1 y2 gs gx gw g8 ge w3 hw3
  · intro M1 r hm1 gx gw g8 ge
    intros
    exact K M1 r hm1 gx (hb_fr_t (q' := hm_fa_q) (hb_wsub (by decide)) hb_fr_r gw) g8 (hb_same_t (q' := hm_fa_q) (fun j hj => hj) hb_same_r ge) (by omega) (by omega) (fun h => by omega)
