/-! clear and addToPath of the manifest. -/
theorem hp_four {a b c d x : Int} (ha : 0 ≤ a ∧ a ≤ 3) (hb : 0 ≤ b ∧ b ≤ 3) (hc : 0 ≤ c ∧ c ≤ 3) (hd : 0 ≤ d ∧ d ≤ 3) (hx : 0 ≤ x ∧ x ≤ 3) (h1 : a ≠ b) (h2 : a ≠ c) (h3 : a ≠ d) (h4 : b ≠ c) (h5 : b ≠ d) (h6 : c ≠ d) (h7 : a ≠ x) (h8 : b ≠ x) (h9 : c ≠ x) (h10 : d ≠ x) : False := by
  have : a = 0 ∨ a = 1 ∨ a = 2 ∨ a = 3 := by omega
  rcases this with rfl | rfl | rfl | rfl <;> (have : b = 0 ∨ b = 1 ∨ b = 2 ∨ b = 3 := by omega) <;> rcases this with rfl | rfl | rfl | rfl <;> omega
/-- a list of different numbers of 0 .. 3 that hasn't x has room -/
theorem hp_room {len x : Int} {f : Nat → Int} (hl : len ≤ 4) (hf : ∀ j, j < 4 → 0 ≤ f j ∧ f j ≤ 3) (hx : 0 ≤ x ∧ x ≤ 3) (hd : hxd len f) (hn : ∀ j : Nat, (j : Int) < len → f j ≠ x) : len < 4 := by
  rcases Int.lt_or_le len 4 with h | h
  · exact h
  · exfalso
    exact hp_four (hf 0 (by omega)) (hf 1 (by omega)) (hf 2 (by omega)) (hf 3 (by omega)) hx (hd 0 1 (by omega) (by omega) (by omega)) (hd 0 2 (by omega) (by omega) (by omega)) (hd 0 3 (by omega) (by omega) (by omega)) (hd 1 2 (by omega) (by omega) (by omega)) (hd 1 3 (by omega) (by omega) (by omega)) (hd 2 3 (by omega) (by omega) (by omega)) (hn 0 (by omega)) (hn 1 (by omega)) (hn 2 (by omega)) (hn 3 (by omega))
theorem hp_add {len x : Int} {f f' : Nat → Int} (h0 : 0 ≤ len) (hd : hxd len f) (hn : ∀ j : Nat, (j : Int) < len → f j ≠ x) (hs : f' len.toNat = x) (hf : ∀ j, j ≠ len.toNat → f' j = f j) : hxd (len + 1) f' := by
  intro i j hij hj hl
  by_cases e : j = len.toNat
  · rw [e, hs, hf i (by omega)]
    exact hn i (by omega)
  · rw [hf j e, hf i (by omega)]
    exact hd i j hij hj (by omega)
theorem hp_sp49 (k : Nat) (hk : k ≠ 9) (a i : Nat) (ha : a ∈ [49, 50, 51]) : hsp k a i = false := by
  simp only [List.mem_cons, List.not_mem_nil, or_false] at ha
  match k with
  | 0 | 1 | 2 | 3 | 4 | 5 | 6 | 7 | 8 | 9 | 10 | 11 | 12 | 13 | 14 | 15 | 16 | 17 | 18 | 19 | 20 | 21 | 22 | 23 | 24 | 25 | 26 | 27 | 28 | 29 => first | exact absurd rfl hk | (exact decide_eq_false (by omega))
  | n + 30 => rfl
theorem hp_c49 {d z u : Nat} {Q : (Option Value ⊕ Nat) → mq_S → Prop} {M0 : Nat → mq_C} : ∀ (m : Nat) (M : Nat → mq_C) (x1 : Int32), (m : Int) + x1.toInt = 4 → 0 ≤ x1.toInt → mz_sh mz_GG M → hb_only [49, 51] M0 M → hv M 49 2 = 0 → (∀ M', mz_sh mz_GG M' → hb_only [49, 51] M0 M' → hv M' 49 2 = 0 → Q (.inl none) (M', z, u)) → mq_R mq_PP d 82 27 [some (.ref 49), some (.int x1)] [] (M, z, u) Q := by
  intro m
  induction m with
  | zero =>
    intro M x1 e1 e2 hm ho hp K
    refine he_iload (n := 28) (i := 1) (by decide +kernel) rfl ?_
    refine he_iconst (n := 29) (c := 4) (by decide +kernel) (by decide) ?_
    intro c28 hc28
    refine he_cmpge_t (n := 32) (t := 45) (by decide +kernel) (by omega) ?_
    refine he_ret (by decide +kernel) ?_
    exact K M hm ho hp
  | succ m ih =>
    intro M x1 e1 e2 hm ho hp K
    refine he_iload (n := 28) (i := 1) (by decide +kernel) rfl ?_
    refine he_iconst (n := 29) (c := 4) (by decide +kernel) (by decide) ?_
    intro c28 hc28
    refine he_cmpge_f (n := 32) (t := 45) (by decide +kernel) (by omega) ?_
    refine he_aload (n := 33) (i := 0) (by decide +kernel) rfl ?_
    refine he_getr (n := 36) (ci := 7) (j := 3) (ns := [1194, 23]) (b := 51) hm (by decide +kernel) rfl rfl (by decide +kernel) ?_
    refine he_iload (n := 37) (i := 1) (by decide +kernel) rfl ?_
    refine he_iconst (n := 38) (c := 0) (by decide +kernel) (by decide) ?_
    intro c37 hc37
    refine hb_sta (n := 39) (kind := 65) hm (by decide +kernel) rfl rfl (.inr ⟨rfl, he_01 (by omega)⟩) (by omega) (show _ < (4 : Int) by omega) ?_
    generalize hM1 : hb_set M 51 (x1.toInt.toNat) c37 = M1
    have hm1 : mz_sh mz_GG M1 := by rw [← hM1]; exact hb_set_sh hm rfl hb_at1 (by omega) (by omega)
    have eM1 : ∀ b j, b ≠ 51 ∨ j ≠ x1.toInt.toNat → hv M1 b j = hv M b j := by intro b j h; rw [← hM1]; exact hb_set_n h
    have sM1 : hv M1 51 (x1.toInt.toNat) = c37.toInt := by rw [← hM1]; exact hb_set_v hm rfl (show _ < 4 by omega)
    have wM1 : ∀ b, b ≠ 51 → M1 b = M b := by intro b h; rw [← hM1]; exact hb_set_c h
    refine he_iinc (n := 42) (i := 1) (c := 1) (L' := fun v => [some (.ref 49), some (.int v)]) (by decide +kernel) (by decide) rfl (fun _ => rfl) (by omega) (by omega) ?_
    intro i39 hi39
    refine he_goto (t := 27) (by decide +kernel) ?_
    refine ih M1 i39 (by omega) (by omega) hm1 (hb_only_s ho (by decide) wM1) ?_ K
    rw [eM1 _ _ (.inl (by decide))]
    exact hp
theorem hp_k49 {d z u : Nat} {Q : (Option Value ⊕ Nat) → mq_S → Prop} {M : Nat → mq_C} (hm : mz_sh mz_GG M) (hx : HX M)
    (K : ∀ (M' : Nat → mq_C), mz_sh mz_GG M' → HX M' → mz_fr mz_q86 M M' → (∀ a, a < 8 → M' a = M a) → hb_same mz_GG mz_q86 M M' → Q (.inl none) (M', z, u)) : mq_R mq_PP d 82 0 [some (.ref 49), none] [] (M, z, u) Q := by
  refine he_aload (n := 1) (i := 0) (by decide +kernel) rfl ?_
  refine he_iconst (n := 2) (c := 0) (by decide +kernel) (by decide) ?_
  intro c1 hc1
  refine hb_pfd (n := 5) (ci := 7) (j := 0) (t := 1) (ns := [1188, 9]) hm (by decide +kernel) rfl rfl (by decide) (.inr ⟨rfl, he_01 (by omega)⟩) ?_
  generalize hM1 : hb_set M 49 0 c1 = M1
  have hm1 : mz_sh mz_GG M1 := by rw [← hM1]; exact hb_set_sh hm rfl rfl (by omega) (by omega)
  have eM1 : ∀ b j, b ≠ 49 ∨ j ≠ 0 → hv M1 b j = hv M b j := by intro b j h; rw [← hM1]; exact hb_set_n h
  have sM1 : hv M1 49 0 = c1.toInt := by rw [← hM1]; exact hb_set_v hm rfl (by decide)
  have wM1 : ∀ b, b ≠ 49 → M1 b = M b := by intro b h; rw [← hM1]; exact hb_set_c h
  refine he_aload (n := 6) (i := 0) (by decide +kernel) rfl ?_
  refine he_iconst (n := 7) (c := 0) (by decide +kernel) (by decide) ?_
  intro c6 hc6
  refine hb_pfd (n := 10) (ci := 7) (j := 2) (t := 0) (ns := [1192, 19]) hm1 (by decide +kernel) rfl rfl (by decide) (.inl rfl) ?_
  generalize hM2 : hb_set M1 49 2 c6 = M2
  have hm2 : mz_sh mz_GG M2 := by rw [← hM2]; exact hb_set_sh hm1 rfl rfl (by omega) (by omega)
  have eM2 : ∀ b j, b ≠ 49 ∨ j ≠ 2 → hv M2 b j = hv M1 b j := by intro b j h; rw [← hM2]; exact hb_set_n h
  have sM2 : hv M2 49 2 = c6.toInt := by rw [← hM2]; exact hb_set_v hm1 rfl (by decide)
  have wM2 : ∀ b, b ≠ 49 → M2 b = M1 b := by intro b h; rw [← hM2]; exact hb_set_c h
  refine he_aload (n := 11) (i := 0) (by decide +kernel) rfl ?_
  refine he_iconst (n := 12) (c := -1) (by decide +kernel) (by decide) ?_
  intro c11 hc11
  refine hb_pfd (n := 15) (ci := 7) (j := 4) (t := 0) (ns := [1196, 27]) hm2 (by decide +kernel) rfl rfl (by decide) (.inl rfl) ?_
  generalize hM3 : hb_set M2 49 4 c11 = M3
  have hm3 : mz_sh mz_GG M3 := by rw [← hM3]; exact hb_set_sh hm2 rfl rfl (by omega) (by omega)
  have eM3 : ∀ b j, b ≠ 49 ∨ j ≠ 4 → hv M3 b j = hv M2 b j := by intro b j h; rw [← hM3]; exact hb_set_n h
  have sM3 : hv M3 49 4 = c11.toInt := by rw [← hM3]; exact hb_set_v hm2 rfl (by decide)
  have wM3 : ∀ b, b ≠ 49 → M3 b = M2 b := by intro b h; rw [← hM3]; exact hb_set_c h
  refine he_aload (n := 16) (i := 0) (by decide +kernel) rfl ?_
  refine he_iconst (n := 17) (c := 0) (by decide +kernel) (by decide) ?_
  intro c16 hc16
  refine hb_pfd (n := 20) (ci := 7) (j := 5) (t := 0) (ns := [1197, 30]) hm3 (by decide +kernel) rfl rfl (by decide) (.inl rfl) ?_
  generalize hM4 : hb_set M3 49 5 c16 = M4
  have hm4 : mz_sh mz_GG M4 := by rw [← hM4]; exact hb_set_sh hm3 rfl rfl (by omega) (by omega)
  have eM4 : ∀ b j, b ≠ 49 ∨ j ≠ 5 → hv M4 b j = hv M3 b j := by intro b j h; rw [← hM4]; exact hb_set_n h
  have sM4 : hv M4 49 5 = c16.toInt := by rw [← hM4]; exact hb_set_v hm3 rfl (by decide)
  have wM4 : ∀ b, b ≠ 49 → M4 b = M3 b := by intro b h; rw [← hM4]; exact hb_set_c h
  refine he_aload (n := 21) (i := 0) (by decide +kernel) rfl ?_
  refine he_iconst (n := 22) (c := 0) (by decide +kernel) (by decide) ?_
  intro c21 hc21
  refine hb_pfd (n := 25) (ci := 7) (j := 6) (t := 0) (ns := [1198, 33]) hm4 (by decide +kernel) rfl rfl (by decide) (.inl rfl) ?_
  generalize hM5 : hb_set M4 49 6 c21 = M5
  have hm5 : mz_sh mz_GG M5 := by rw [← hM5]; exact hb_set_sh hm4 rfl rfl (by omega) (by omega)
  have eM5 : ∀ b j, b ≠ 49 ∨ j ≠ 6 → hv M5 b j = hv M4 b j := by intro b j h; rw [← hM5]; exact hb_set_n h
  have sM5 : hv M5 49 6 = c21.toInt := by rw [← hM5]; exact hb_set_v hm4 rfl (by decide)
  have wM5 : ∀ b, b ≠ 49 → M5 b = M4 b := by intro b h; rw [← hM5]; exact hb_set_c h
  refine he_iconst (n := 26) (c := 0) (by decide +kernel) (by decide) ?_
  intro c25 hc25
  refine he_istore (n := 27) (i := 1) (by decide +kernel) rfl ?_
  refine hp_c49 (M0 := M) 4 M5 c25 (by omega) (by omega) hm5 ?_ ?_ ?_
  · exact hb_only_s (hb_only_s (hb_only_s (hb_only_s (hb_only_s hb_only_r (by decide) wM1) (by decide) wM2) (by decide) wM3) (by decide) wM4) (by decide) wM5
  · rw [eM5 _ _ (.inr (by decide)), eM4 _ _ (.inr (by decide)), eM3 _ _ (.inr (by decide)), sM2]
    omega
  · intro M' hm' ho hp
    refine K M' hm' ?_ (hb_only_fr ho (by decide)) (fun a ha => ho a ?_) (hb_only_same ho (by decide +kernel))
    · refine HX_m (p := 9) (fun k hk => hb_only_x ho ?_ (hx k)) ?_
      · intro a ha i
        exact hp_sp49 k hk a i (by revert ha; simp; omega)
      · intro i j h1 h2 h3
        have h4 : (j : Int) < hv M' 49 2 := h3
        omega
    · simp only [List.elem_eq_mem, decide_eq_false_iff_not, List.mem_cons, List.not_mem_nil, or_false]
      omega
theorem hp_sp60 (k : Nat) (hk : k ≠ 10) (a i : Nat) (ha : a ∈ [60, 61, 62]) : hsp k a i = false := by
  simp only [List.mem_cons, List.not_mem_nil, or_false] at ha
  match k with
  | 0 | 1 | 2 | 3 | 4 | 5 | 6 | 7 | 8 | 9 | 10 | 11 | 12 | 13 | 14 | 15 | 16 | 17 | 18 | 19 | 20 | 21 | 22 | 23 | 24 | 25 | 26 | 27 | 28 | 29 => first | exact absurd rfl hk | (exact decide_eq_false (by omega))
  | n + 30 => rfl
theorem hp_c60 {d z u : Nat} {Q : (Option Value ⊕ Nat) → mq_S → Prop} {M0 : Nat → mq_C} : ∀ (m : Nat) (M : Nat → mq_C) (x1 : Int32), (m : Int) + x1.toInt = 4 → 0 ≤ x1.toInt → mz_sh mz_GG M → hb_only [60, 62] M0 M → hv M 60 2 = 0 → (∀ M', mz_sh mz_GG M' → hb_only [60, 62] M0 M' → hv M' 60 2 = 0 → Q (.inl none) (M', z, u)) → mq_R mq_PP d 82 27 [some (.ref 60), some (.int x1)] [] (M, z, u) Q := by
  intro m
  induction m with
  | zero =>
    intro M x1 e1 e2 hm ho hp K
    refine he_iload (n := 28) (i := 1) (by decide +kernel) rfl ?_
    refine he_iconst (n := 29) (c := 4) (by decide +kernel) (by decide) ?_
    intro c28 hc28
    refine he_cmpge_t (n := 32) (t := 45) (by decide +kernel) (by omega) ?_
    refine he_ret (by decide +kernel) ?_
    exact K M hm ho hp
  | succ m ih =>
    intro M x1 e1 e2 hm ho hp K
    refine he_iload (n := 28) (i := 1) (by decide +kernel) rfl ?_
    refine he_iconst (n := 29) (c := 4) (by decide +kernel) (by decide) ?_
    intro c28 hc28
    refine he_cmpge_f (n := 32) (t := 45) (by decide +kernel) (by omega) ?_
    refine he_aload (n := 33) (i := 0) (by decide +kernel) rfl ?_
    refine he_getr (n := 36) (ci := 7) (j := 3) (ns := [1194, 23]) (b := 62) hm (by decide +kernel) rfl rfl (by decide +kernel) ?_
    refine he_iload (n := 37) (i := 1) (by decide +kernel) rfl ?_
    refine he_iconst (n := 38) (c := 0) (by decide +kernel) (by decide) ?_
    intro c37 hc37
    refine hb_sta (n := 39) (kind := 65) hm (by decide +kernel) rfl rfl (.inr ⟨rfl, he_01 (by omega)⟩) (by omega) (show _ < (4 : Int) by omega) ?_
    generalize hM1 : hb_set M 62 (x1.toInt.toNat) c37 = M1
    have hm1 : mz_sh mz_GG M1 := by rw [← hM1]; exact hb_set_sh hm rfl hb_at1 (by omega) (by omega)
    have eM1 : ∀ b j, b ≠ 62 ∨ j ≠ x1.toInt.toNat → hv M1 b j = hv M b j := by intro b j h; rw [← hM1]; exact hb_set_n h
    have sM1 : hv M1 62 (x1.toInt.toNat) = c37.toInt := by rw [← hM1]; exact hb_set_v hm rfl (show _ < 4 by omega)
    have wM1 : ∀ b, b ≠ 62 → M1 b = M b := by intro b h; rw [← hM1]; exact hb_set_c h
    refine he_iinc (n := 42) (i := 1) (c := 1) (L' := fun v => [some (.ref 60), some (.int v)]) (by decide +kernel) (by decide) rfl (fun _ => rfl) (by omega) (by omega) ?_
    intro i39 hi39
    refine he_goto (t := 27) (by decide +kernel) ?_
    refine ih M1 i39 (by omega) (by omega) hm1 (hb_only_s ho (by decide) wM1) ?_ K
    rw [eM1 _ _ (.inl (by decide))]
    exact hp
theorem hp_k60 {d z u : Nat} {Q : (Option Value ⊕ Nat) → mq_S → Prop} {M : Nat → mq_C} (hm : mz_sh mz_GG M) (hx : HX M)
    (K : ∀ (M' : Nat → mq_C), mz_sh mz_GG M' → HX M' → mz_fr mz_q86 M M' → (∀ a, a < 8 → M' a = M a) → hb_same mz_GG mz_q86 M M' → Q (.inl none) (M', z, u)) : mq_R mq_PP d 82 0 [some (.ref 60), none] [] (M, z, u) Q := by
  refine he_aload (n := 1) (i := 0) (by decide +kernel) rfl ?_
  refine he_iconst (n := 2) (c := 0) (by decide +kernel) (by decide) ?_
  intro c1 hc1
  refine hb_pfd (n := 5) (ci := 7) (j := 0) (t := 1) (ns := [1188, 9]) hm (by decide +kernel) rfl rfl (by decide) (.inr ⟨rfl, he_01 (by omega)⟩) ?_
  generalize hM1 : hb_set M 60 0 c1 = M1
  have hm1 : mz_sh mz_GG M1 := by rw [← hM1]; exact hb_set_sh hm rfl rfl (by omega) (by omega)
  have eM1 : ∀ b j, b ≠ 60 ∨ j ≠ 0 → hv M1 b j = hv M b j := by intro b j h; rw [← hM1]; exact hb_set_n h
  have sM1 : hv M1 60 0 = c1.toInt := by rw [← hM1]; exact hb_set_v hm rfl (by decide)
  have wM1 : ∀ b, b ≠ 60 → M1 b = M b := by intro b h; rw [← hM1]; exact hb_set_c h
  refine he_aload (n := 6) (i := 0) (by decide +kernel) rfl ?_
  refine he_iconst (n := 7) (c := 0) (by decide +kernel) (by decide) ?_
  intro c6 hc6
  refine hb_pfd (n := 10) (ci := 7) (j := 2) (t := 0) (ns := [1192, 19]) hm1 (by decide +kernel) rfl rfl (by decide) (.inl rfl) ?_
  generalize hM2 : hb_set M1 60 2 c6 = M2
  have hm2 : mz_sh mz_GG M2 := by rw [← hM2]; exact hb_set_sh hm1 rfl rfl (by omega) (by omega)
  have eM2 : ∀ b j, b ≠ 60 ∨ j ≠ 2 → hv M2 b j = hv M1 b j := by intro b j h; rw [← hM2]; exact hb_set_n h
  have sM2 : hv M2 60 2 = c6.toInt := by rw [← hM2]; exact hb_set_v hm1 rfl (by decide)
  have wM2 : ∀ b, b ≠ 60 → M2 b = M1 b := by intro b h; rw [← hM2]; exact hb_set_c h
  refine he_aload (n := 11) (i := 0) (by decide +kernel) rfl ?_
  refine he_iconst (n := 12) (c := -1) (by decide +kernel) (by decide) ?_
  intro c11 hc11
  refine hb_pfd (n := 15) (ci := 7) (j := 4) (t := 0) (ns := [1196, 27]) hm2 (by decide +kernel) rfl rfl (by decide) (.inl rfl) ?_
  generalize hM3 : hb_set M2 60 4 c11 = M3
  have hm3 : mz_sh mz_GG M3 := by rw [← hM3]; exact hb_set_sh hm2 rfl rfl (by omega) (by omega)
  have eM3 : ∀ b j, b ≠ 60 ∨ j ≠ 4 → hv M3 b j = hv M2 b j := by intro b j h; rw [← hM3]; exact hb_set_n h
  have sM3 : hv M3 60 4 = c11.toInt := by rw [← hM3]; exact hb_set_v hm2 rfl (by decide)
  have wM3 : ∀ b, b ≠ 60 → M3 b = M2 b := by intro b h; rw [← hM3]; exact hb_set_c h
  refine he_aload (n := 16) (i := 0) (by decide +kernel) rfl ?_
  refine he_iconst (n := 17) (c := 0) (by decide +kernel) (by decide) ?_
  intro c16 hc16
  refine hb_pfd (n := 20) (ci := 7) (j := 5) (t := 0) (ns := [1197, 30]) hm3 (by decide +kernel) rfl rfl (by decide) (.inl rfl) ?_
  generalize hM4 : hb_set M3 60 5 c16 = M4
  have hm4 : mz_sh mz_GG M4 := by rw [← hM4]; exact hb_set_sh hm3 rfl rfl (by omega) (by omega)
  have eM4 : ∀ b j, b ≠ 60 ∨ j ≠ 5 → hv M4 b j = hv M3 b j := by intro b j h; rw [← hM4]; exact hb_set_n h
  have sM4 : hv M4 60 5 = c16.toInt := by rw [← hM4]; exact hb_set_v hm3 rfl (by decide)
  have wM4 : ∀ b, b ≠ 60 → M4 b = M3 b := by intro b h; rw [← hM4]; exact hb_set_c h
  refine he_aload (n := 21) (i := 0) (by decide +kernel) rfl ?_
  refine he_iconst (n := 22) (c := 0) (by decide +kernel) (by decide) ?_
  intro c21 hc21
  refine hb_pfd (n := 25) (ci := 7) (j := 6) (t := 0) (ns := [1198, 33]) hm4 (by decide +kernel) rfl rfl (by decide) (.inl rfl) ?_
  generalize hM5 : hb_set M4 60 6 c21 = M5
  have hm5 : mz_sh mz_GG M5 := by rw [← hM5]; exact hb_set_sh hm4 rfl rfl (by omega) (by omega)
  have eM5 : ∀ b j, b ≠ 60 ∨ j ≠ 6 → hv M5 b j = hv M4 b j := by intro b j h; rw [← hM5]; exact hb_set_n h
  have sM5 : hv M5 60 6 = c21.toInt := by rw [← hM5]; exact hb_set_v hm4 rfl (by decide)
  have wM5 : ∀ b, b ≠ 60 → M5 b = M4 b := by intro b h; rw [← hM5]; exact hb_set_c h
  refine he_iconst (n := 26) (c := 0) (by decide +kernel) (by decide) ?_
  intro c25 hc25
  refine he_istore (n := 27) (i := 1) (by decide +kernel) rfl ?_
  refine hp_c60 (M0 := M) 4 M5 c25 (by omega) (by omega) hm5 ?_ ?_ ?_
  · exact hb_only_s (hb_only_s (hb_only_s (hb_only_s (hb_only_s hb_only_r (by decide) wM1) (by decide) wM2) (by decide) wM3) (by decide) wM4) (by decide) wM5
  · rw [eM5 _ _ (.inr (by decide)), eM4 _ _ (.inr (by decide)), eM3 _ _ (.inr (by decide)), sM2]
    omega
  · intro M' hm' ho hp
    refine K M' hm' ?_ (hb_only_fr ho (by decide)) (fun a ha => ho a ?_) (hb_only_same ho (by decide +kernel))
    · refine HX_m (p := 10) (fun k hk => hb_only_x ho ?_ (hx k)) ?_
      · intro a ha i
        exact hp_sp60 k hk a i (by revert ha; simp; omega)
      · intro i j h1 h2 h3
        have h4 : (j : Int) < hv M' 60 2 := h3
        omega
    · simp only [List.elem_eq_mem, decide_eq_false_iff_not, List.mem_cons, List.not_mem_nil, or_false]
      omega
theorem hp_sp71 (k : Nat) (hk : k ≠ 11) (a i : Nat) (ha : a ∈ [71, 72, 73]) : hsp k a i = false := by
  simp only [List.mem_cons, List.not_mem_nil, or_false] at ha
  match k with
  | 0 | 1 | 2 | 3 | 4 | 5 | 6 | 7 | 8 | 9 | 10 | 11 | 12 | 13 | 14 | 15 | 16 | 17 | 18 | 19 | 20 | 21 | 22 | 23 | 24 | 25 | 26 | 27 | 28 | 29 => first | exact absurd rfl hk | (exact decide_eq_false (by omega))
  | n + 30 => rfl
theorem hp_c71 {d z u : Nat} {Q : (Option Value ⊕ Nat) → mq_S → Prop} {M0 : Nat → mq_C} : ∀ (m : Nat) (M : Nat → mq_C) (x1 : Int32), (m : Int) + x1.toInt = 4 → 0 ≤ x1.toInt → mz_sh mz_GG M → hb_only [71, 73] M0 M → hv M 71 2 = 0 → (∀ M', mz_sh mz_GG M' → hb_only [71, 73] M0 M' → hv M' 71 2 = 0 → Q (.inl none) (M', z, u)) → mq_R mq_PP d 82 27 [some (.ref 71), some (.int x1)] [] (M, z, u) Q := by
  intro m
  induction m with
  | zero =>
    intro M x1 e1 e2 hm ho hp K
    refine he_iload (n := 28) (i := 1) (by decide +kernel) rfl ?_
    refine he_iconst (n := 29) (c := 4) (by decide +kernel) (by decide) ?_
    intro c28 hc28
    refine he_cmpge_t (n := 32) (t := 45) (by decide +kernel) (by omega) ?_
    refine he_ret (by decide +kernel) ?_
    exact K M hm ho hp
  | succ m ih =>
    intro M x1 e1 e2 hm ho hp K
    refine he_iload (n := 28) (i := 1) (by decide +kernel) rfl ?_
    refine he_iconst (n := 29) (c := 4) (by decide +kernel) (by decide) ?_
    intro c28 hc28
    refine he_cmpge_f (n := 32) (t := 45) (by decide +kernel) (by omega) ?_
    refine he_aload (n := 33) (i := 0) (by decide +kernel) rfl ?_
    refine he_getr (n := 36) (ci := 7) (j := 3) (ns := [1194, 23]) (b := 73) hm (by decide +kernel) rfl rfl (by decide +kernel) ?_
    refine he_iload (n := 37) (i := 1) (by decide +kernel) rfl ?_
    refine he_iconst (n := 38) (c := 0) (by decide +kernel) (by decide) ?_
    intro c37 hc37
    refine hb_sta (n := 39) (kind := 65) hm (by decide +kernel) rfl rfl (.inr ⟨rfl, he_01 (by omega)⟩) (by omega) (show _ < (4 : Int) by omega) ?_
    generalize hM1 : hb_set M 73 (x1.toInt.toNat) c37 = M1
    have hm1 : mz_sh mz_GG M1 := by rw [← hM1]; exact hb_set_sh hm rfl hb_at1 (by omega) (by omega)
    have eM1 : ∀ b j, b ≠ 73 ∨ j ≠ x1.toInt.toNat → hv M1 b j = hv M b j := by intro b j h; rw [← hM1]; exact hb_set_n h
    have sM1 : hv M1 73 (x1.toInt.toNat) = c37.toInt := by rw [← hM1]; exact hb_set_v hm rfl (show _ < 4 by omega)
    have wM1 : ∀ b, b ≠ 73 → M1 b = M b := by intro b h; rw [← hM1]; exact hb_set_c h
    refine he_iinc (n := 42) (i := 1) (c := 1) (L' := fun v => [some (.ref 71), some (.int v)]) (by decide +kernel) (by decide) rfl (fun _ => rfl) (by omega) (by omega) ?_
    intro i39 hi39
    refine he_goto (t := 27) (by decide +kernel) ?_
    refine ih M1 i39 (by omega) (by omega) hm1 (hb_only_s ho (by decide) wM1) ?_ K
    rw [eM1 _ _ (.inl (by decide))]
    exact hp
theorem hp_k71 {d z u : Nat} {Q : (Option Value ⊕ Nat) → mq_S → Prop} {M : Nat → mq_C} (hm : mz_sh mz_GG M) (hx : HX M)
    (K : ∀ (M' : Nat → mq_C), mz_sh mz_GG M' → HX M' → mz_fr mz_q86 M M' → (∀ a, a < 8 → M' a = M a) → hb_same mz_GG mz_q86 M M' → Q (.inl none) (M', z, u)) : mq_R mq_PP d 82 0 [some (.ref 71), none] [] (M, z, u) Q := by
  refine he_aload (n := 1) (i := 0) (by decide +kernel) rfl ?_
  refine he_iconst (n := 2) (c := 0) (by decide +kernel) (by decide) ?_
  intro c1 hc1
  refine hb_pfd (n := 5) (ci := 7) (j := 0) (t := 1) (ns := [1188, 9]) hm (by decide +kernel) rfl rfl (by decide) (.inr ⟨rfl, he_01 (by omega)⟩) ?_
  generalize hM1 : hb_set M 71 0 c1 = M1
  have hm1 : mz_sh mz_GG M1 := by rw [← hM1]; exact hb_set_sh hm rfl rfl (by omega) (by omega)
  have eM1 : ∀ b j, b ≠ 71 ∨ j ≠ 0 → hv M1 b j = hv M b j := by intro b j h; rw [← hM1]; exact hb_set_n h
  have sM1 : hv M1 71 0 = c1.toInt := by rw [← hM1]; exact hb_set_v hm rfl (by decide)
  have wM1 : ∀ b, b ≠ 71 → M1 b = M b := by intro b h; rw [← hM1]; exact hb_set_c h
  refine he_aload (n := 6) (i := 0) (by decide +kernel) rfl ?_
  refine he_iconst (n := 7) (c := 0) (by decide +kernel) (by decide) ?_
  intro c6 hc6
  refine hb_pfd (n := 10) (ci := 7) (j := 2) (t := 0) (ns := [1192, 19]) hm1 (by decide +kernel) rfl rfl (by decide) (.inl rfl) ?_
  generalize hM2 : hb_set M1 71 2 c6 = M2
  have hm2 : mz_sh mz_GG M2 := by rw [← hM2]; exact hb_set_sh hm1 rfl rfl (by omega) (by omega)
  have eM2 : ∀ b j, b ≠ 71 ∨ j ≠ 2 → hv M2 b j = hv M1 b j := by intro b j h; rw [← hM2]; exact hb_set_n h
  have sM2 : hv M2 71 2 = c6.toInt := by rw [← hM2]; exact hb_set_v hm1 rfl (by decide)
  have wM2 : ∀ b, b ≠ 71 → M2 b = M1 b := by intro b h; rw [← hM2]; exact hb_set_c h
  refine he_aload (n := 11) (i := 0) (by decide +kernel) rfl ?_
  refine he_iconst (n := 12) (c := -1) (by decide +kernel) (by decide) ?_
  intro c11 hc11
  refine hb_pfd (n := 15) (ci := 7) (j := 4) (t := 0) (ns := [1196, 27]) hm2 (by decide +kernel) rfl rfl (by decide) (.inl rfl) ?_
  generalize hM3 : hb_set M2 71 4 c11 = M3
  have hm3 : mz_sh mz_GG M3 := by rw [← hM3]; exact hb_set_sh hm2 rfl rfl (by omega) (by omega)
  have eM3 : ∀ b j, b ≠ 71 ∨ j ≠ 4 → hv M3 b j = hv M2 b j := by intro b j h; rw [← hM3]; exact hb_set_n h
  have sM3 : hv M3 71 4 = c11.toInt := by rw [← hM3]; exact hb_set_v hm2 rfl (by decide)
  have wM3 : ∀ b, b ≠ 71 → M3 b = M2 b := by intro b h; rw [← hM3]; exact hb_set_c h
  refine he_aload (n := 16) (i := 0) (by decide +kernel) rfl ?_
  refine he_iconst (n := 17) (c := 0) (by decide +kernel) (by decide) ?_
  intro c16 hc16
  refine hb_pfd (n := 20) (ci := 7) (j := 5) (t := 0) (ns := [1197, 30]) hm3 (by decide +kernel) rfl rfl (by decide) (.inl rfl) ?_
  generalize hM4 : hb_set M3 71 5 c16 = M4
  have hm4 : mz_sh mz_GG M4 := by rw [← hM4]; exact hb_set_sh hm3 rfl rfl (by omega) (by omega)
  have eM4 : ∀ b j, b ≠ 71 ∨ j ≠ 5 → hv M4 b j = hv M3 b j := by intro b j h; rw [← hM4]; exact hb_set_n h
  have sM4 : hv M4 71 5 = c16.toInt := by rw [← hM4]; exact hb_set_v hm3 rfl (by decide)
  have wM4 : ∀ b, b ≠ 71 → M4 b = M3 b := by intro b h; rw [← hM4]; exact hb_set_c h
  refine he_aload (n := 21) (i := 0) (by decide +kernel) rfl ?_
  refine he_iconst (n := 22) (c := 0) (by decide +kernel) (by decide) ?_
  intro c21 hc21
  refine hb_pfd (n := 25) (ci := 7) (j := 6) (t := 0) (ns := [1198, 33]) hm4 (by decide +kernel) rfl rfl (by decide) (.inl rfl) ?_
  generalize hM5 : hb_set M4 71 6 c21 = M5
  have hm5 : mz_sh mz_GG M5 := by rw [← hM5]; exact hb_set_sh hm4 rfl rfl (by omega) (by omega)
  have eM5 : ∀ b j, b ≠ 71 ∨ j ≠ 6 → hv M5 b j = hv M4 b j := by intro b j h; rw [← hM5]; exact hb_set_n h
  have sM5 : hv M5 71 6 = c21.toInt := by rw [← hM5]; exact hb_set_v hm4 rfl (by decide)
  have wM5 : ∀ b, b ≠ 71 → M5 b = M4 b := by intro b h; rw [← hM5]; exact hb_set_c h
  refine he_iconst (n := 26) (c := 0) (by decide +kernel) (by decide) ?_
  intro c25 hc25
  refine he_istore (n := 27) (i := 1) (by decide +kernel) rfl ?_
  refine hp_c71 (M0 := M) 4 M5 c25 (by omega) (by omega) hm5 ?_ ?_ ?_
  · exact hb_only_s (hb_only_s (hb_only_s (hb_only_s (hb_only_s hb_only_r (by decide) wM1) (by decide) wM2) (by decide) wM3) (by decide) wM4) (by decide) wM5
  · rw [eM5 _ _ (.inr (by decide)), eM4 _ _ (.inr (by decide)), eM3 _ _ (.inr (by decide)), sM2]
    omega
  · intro M' hm' ho hp
    refine K M' hm' ?_ (hb_only_fr ho (by decide)) (fun a ha => ho a ?_) (hb_only_same ho (by decide +kernel))
    · refine HX_m (p := 11) (fun k hk => hb_only_x ho ?_ (hx k)) ?_
      · intro a ha i
        exact hp_sp71 k hk a i (by revert ha; simp; omega)
      · intro i j h1 h2 h3
        have h4 : (j : Int) < hv M' 71 2 := h3
        omega
    · simp only [List.elem_eq_mem, decide_eq_false_iff_not, List.mem_cons, List.not_mem_nil, or_false]
      omega
theorem hp_sp82 (k : Nat) (hk : k ≠ 12) (a i : Nat) (ha : a ∈ [82, 83, 84]) : hsp k a i = false := by
  simp only [List.mem_cons, List.not_mem_nil, or_false] at ha
  match k with
  | 0 | 1 | 2 | 3 | 4 | 5 | 6 | 7 | 8 | 9 | 10 | 11 | 12 | 13 | 14 | 15 | 16 | 17 | 18 | 19 | 20 | 21 | 22 | 23 | 24 | 25 | 26 | 27 | 28 | 29 => first | exact absurd rfl hk | (exact decide_eq_false (by omega))
  | n + 30 => rfl
theorem hp_c82 {d z u : Nat} {Q : (Option Value ⊕ Nat) → mq_S → Prop} {M0 : Nat → mq_C} : ∀ (m : Nat) (M : Nat → mq_C) (x1 : Int32), (m : Int) + x1.toInt = 4 → 0 ≤ x1.toInt → mz_sh mz_GG M → hb_only [82, 84] M0 M → hv M 82 2 = 0 → (∀ M', mz_sh mz_GG M' → hb_only [82, 84] M0 M' → hv M' 82 2 = 0 → Q (.inl none) (M', z, u)) → mq_R mq_PP d 82 27 [some (.ref 82), some (.int x1)] [] (M, z, u) Q := by
  intro m
  induction m with
  | zero =>
    intro M x1 e1 e2 hm ho hp K
    refine he_iload (n := 28) (i := 1) (by decide +kernel) rfl ?_
    refine he_iconst (n := 29) (c := 4) (by decide +kernel) (by decide) ?_
    intro c28 hc28
    refine he_cmpge_t (n := 32) (t := 45) (by decide +kernel) (by omega) ?_
    refine he_ret (by decide +kernel) ?_
    exact K M hm ho hp
  | succ m ih =>
    intro M x1 e1 e2 hm ho hp K
    refine he_iload (n := 28) (i := 1) (by decide +kernel) rfl ?_
    refine he_iconst (n := 29) (c := 4) (by decide +kernel) (by decide) ?_
    intro c28 hc28
    refine he_cmpge_f (n := 32) (t := 45) (by decide +kernel) (by omega) ?_
    refine he_aload (n := 33) (i := 0) (by decide +kernel) rfl ?_
    refine he_getr (n := 36) (ci := 7) (j := 3) (ns := [1194, 23]) (b := 84) hm (by decide +kernel) rfl rfl (by decide +kernel) ?_
    refine he_iload (n := 37) (i := 1) (by decide +kernel) rfl ?_
    refine he_iconst (n := 38) (c := 0) (by decide +kernel) (by decide) ?_
    intro c37 hc37
    refine hb_sta (n := 39) (kind := 65) hm (by decide +kernel) rfl rfl (.inr ⟨rfl, he_01 (by omega)⟩) (by omega) (show _ < (4 : Int) by omega) ?_
    generalize hM1 : hb_set M 84 (x1.toInt.toNat) c37 = M1
    have hm1 : mz_sh mz_GG M1 := by rw [← hM1]; exact hb_set_sh hm rfl hb_at1 (by omega) (by omega)
    have eM1 : ∀ b j, b ≠ 84 ∨ j ≠ x1.toInt.toNat → hv M1 b j = hv M b j := by intro b j h; rw [← hM1]; exact hb_set_n h
    have sM1 : hv M1 84 (x1.toInt.toNat) = c37.toInt := by rw [← hM1]; exact hb_set_v hm rfl (show _ < 4 by omega)
    have wM1 : ∀ b, b ≠ 84 → M1 b = M b := by intro b h; rw [← hM1]; exact hb_set_c h
    refine he_iinc (n := 42) (i := 1) (c := 1) (L' := fun v => [some (.ref 82), some (.int v)]) (by decide +kernel) (by decide) rfl (fun _ => rfl) (by omega) (by omega) ?_
    intro i39 hi39
    refine he_goto (t := 27) (by decide +kernel) ?_
    refine ih M1 i39 (by omega) (by omega) hm1 (hb_only_s ho (by decide) wM1) ?_ K
    rw [eM1 _ _ (.inl (by decide))]
    exact hp
theorem hp_k82 {d z u : Nat} {Q : (Option Value ⊕ Nat) → mq_S → Prop} {M : Nat → mq_C} (hm : mz_sh mz_GG M) (hx : HX M)
    (K : ∀ (M' : Nat → mq_C), mz_sh mz_GG M' → HX M' → mz_fr mz_q86 M M' → (∀ a, a < 8 → M' a = M a) → hb_same mz_GG mz_q86 M M' → Q (.inl none) (M', z, u)) : mq_R mq_PP d 82 0 [some (.ref 82), none] [] (M, z, u) Q := by
  refine he_aload (n := 1) (i := 0) (by decide +kernel) rfl ?_
  refine he_iconst (n := 2) (c := 0) (by decide +kernel) (by decide) ?_
  intro c1 hc1
  refine hb_pfd (n := 5) (ci := 7) (j := 0) (t := 1) (ns := [1188, 9]) hm (by decide +kernel) rfl rfl (by decide) (.inr ⟨rfl, he_01 (by omega)⟩) ?_
  generalize hM1 : hb_set M 82 0 c1 = M1
  have hm1 : mz_sh mz_GG M1 := by rw [← hM1]; exact hb_set_sh hm rfl rfl (by omega) (by omega)
  have eM1 : ∀ b j, b ≠ 82 ∨ j ≠ 0 → hv M1 b j = hv M b j := by intro b j h; rw [← hM1]; exact hb_set_n h
  have sM1 : hv M1 82 0 = c1.toInt := by rw [← hM1]; exact hb_set_v hm rfl (by decide)
  have wM1 : ∀ b, b ≠ 82 → M1 b = M b := by intro b h; rw [← hM1]; exact hb_set_c h
  refine he_aload (n := 6) (i := 0) (by decide +kernel) rfl ?_
  refine he_iconst (n := 7) (c := 0) (by decide +kernel) (by decide) ?_
  intro c6 hc6
  refine hb_pfd (n := 10) (ci := 7) (j := 2) (t := 0) (ns := [1192, 19]) hm1 (by decide +kernel) rfl rfl (by decide) (.inl rfl) ?_
  generalize hM2 : hb_set M1 82 2 c6 = M2
  have hm2 : mz_sh mz_GG M2 := by rw [← hM2]; exact hb_set_sh hm1 rfl rfl (by omega) (by omega)
  have eM2 : ∀ b j, b ≠ 82 ∨ j ≠ 2 → hv M2 b j = hv M1 b j := by intro b j h; rw [← hM2]; exact hb_set_n h
  have sM2 : hv M2 82 2 = c6.toInt := by rw [← hM2]; exact hb_set_v hm1 rfl (by decide)
  have wM2 : ∀ b, b ≠ 82 → M2 b = M1 b := by intro b h; rw [← hM2]; exact hb_set_c h
  refine he_aload (n := 11) (i := 0) (by decide +kernel) rfl ?_
  refine he_iconst (n := 12) (c := -1) (by decide +kernel) (by decide) ?_
  intro c11 hc11
  refine hb_pfd (n := 15) (ci := 7) (j := 4) (t := 0) (ns := [1196, 27]) hm2 (by decide +kernel) rfl rfl (by decide) (.inl rfl) ?_
  generalize hM3 : hb_set M2 82 4 c11 = M3
  have hm3 : mz_sh mz_GG M3 := by rw [← hM3]; exact hb_set_sh hm2 rfl rfl (by omega) (by omega)
  have eM3 : ∀ b j, b ≠ 82 ∨ j ≠ 4 → hv M3 b j = hv M2 b j := by intro b j h; rw [← hM3]; exact hb_set_n h
  have sM3 : hv M3 82 4 = c11.toInt := by rw [← hM3]; exact hb_set_v hm2 rfl (by decide)
  have wM3 : ∀ b, b ≠ 82 → M3 b = M2 b := by intro b h; rw [← hM3]; exact hb_set_c h
  refine he_aload (n := 16) (i := 0) (by decide +kernel) rfl ?_
  refine he_iconst (n := 17) (c := 0) (by decide +kernel) (by decide) ?_
  intro c16 hc16
  refine hb_pfd (n := 20) (ci := 7) (j := 5) (t := 0) (ns := [1197, 30]) hm3 (by decide +kernel) rfl rfl (by decide) (.inl rfl) ?_
  generalize hM4 : hb_set M3 82 5 c16 = M4
  have hm4 : mz_sh mz_GG M4 := by rw [← hM4]; exact hb_set_sh hm3 rfl rfl (by omega) (by omega)
  have eM4 : ∀ b j, b ≠ 82 ∨ j ≠ 5 → hv M4 b j = hv M3 b j := by intro b j h; rw [← hM4]; exact hb_set_n h
  have sM4 : hv M4 82 5 = c16.toInt := by rw [← hM4]; exact hb_set_v hm3 rfl (by decide)
  have wM4 : ∀ b, b ≠ 82 → M4 b = M3 b := by intro b h; rw [← hM4]; exact hb_set_c h
  refine he_aload (n := 21) (i := 0) (by decide +kernel) rfl ?_
  refine he_iconst (n := 22) (c := 0) (by decide +kernel) (by decide) ?_
  intro c21 hc21
  refine hb_pfd (n := 25) (ci := 7) (j := 6) (t := 0) (ns := [1198, 33]) hm4 (by decide +kernel) rfl rfl (by decide) (.inl rfl) ?_
  generalize hM5 : hb_set M4 82 6 c21 = M5
  have hm5 : mz_sh mz_GG M5 := by rw [← hM5]; exact hb_set_sh hm4 rfl rfl (by omega) (by omega)
  have eM5 : ∀ b j, b ≠ 82 ∨ j ≠ 6 → hv M5 b j = hv M4 b j := by intro b j h; rw [← hM5]; exact hb_set_n h
  have sM5 : hv M5 82 6 = c21.toInt := by rw [← hM5]; exact hb_set_v hm4 rfl (by decide)
  have wM5 : ∀ b, b ≠ 82 → M5 b = M4 b := by intro b h; rw [← hM5]; exact hb_set_c h
  refine he_iconst (n := 26) (c := 0) (by decide +kernel) (by decide) ?_
  intro c25 hc25
  refine he_istore (n := 27) (i := 1) (by decide +kernel) rfl ?_
  refine hp_c82 (M0 := M) 4 M5 c25 (by omega) (by omega) hm5 ?_ ?_ ?_
  · exact hb_only_s (hb_only_s (hb_only_s (hb_only_s (hb_only_s hb_only_r (by decide) wM1) (by decide) wM2) (by decide) wM3) (by decide) wM4) (by decide) wM5
  · rw [eM5 _ _ (.inr (by decide)), eM4 _ _ (.inr (by decide)), eM3 _ _ (.inr (by decide)), sM2]
    omega
  · intro M' hm' ho hp
    refine K M' hm' ?_ (hb_only_fr ho (by decide)) (fun a ha => ho a ?_) (hb_only_same ho (by decide +kernel))
    · refine HX_m (p := 12) (fun k hk => hb_only_x ho ?_ (hx k)) ?_
      · intro a ha i
        exact hp_sp82 k hk a i (by revert ha; simp; omega)
      · intro i j h1 h2 h3
        have h4 : (j : Int) < hv M' 82 2 := h3
        omega
    · simp only [List.elem_eq_mem, decide_eq_false_iff_not, List.mem_cons, List.not_mem_nil, or_false]
      omega
theorem hs_clear_P : hc_clear_P := by
  intro d z u M Q b0 hd hz hm hx hb K
  simp only [List.mem_cons, List.not_mem_nil, or_false] at hb
  rcases hb with rfl | rfl | rfl | rfl
  · exact hp_k49 hm hx K
  · exact hp_k60 hm hx K
  · exact hp_k71 hm hx K
  · exact hp_k82 hm hx K
theorem hs_clear : mz_Ct mz_GG mq_PP HX mz_q86 1 := hc_clear hs_clear_P
theorem hp_a49 {d z u : Nat} {Q : (Option Value ⊕ Nat) → mq_S → Prop} {M : Nat → mq_C} {x1 : Int32} (hm : mz_sh mz_GG M) (hx : HX M) (p1 : 0 ≤ x1.toInt) (p2 : x1.toInt ≤ 3)
    (K : ∀ (M' : Nat → mq_C) (r : Int32), mz_sh mz_GG M' → HX M' → mz_fr mz_q87 M M' → (∀ a, a < 8 → M' a = M a) → hb_same mz_GG mz_q87 M M' → r.toInt = 1 → Q (.inl (some (.int r))) (M', z, u)) : ∀ (m : Nat) (x2 : Int32), (m : Int) + x2.toInt = 5 → 0 ≤ x2.toInt → (∀ j : Nat, (j : Int) < x2.toInt → hv M 50 j ≠ x1.toInt) → x2.toInt ≤ hv M 49 2 → mq_R mq_PP d 88 2 [some (.ref 49), some (.int x1), some (.int x2)] [] (M, z, u) Q := by
  intro m
  induction m with
  | zero =>
    intro x2 e1 e2 hn hl
    have := hb_rg hm (a := 49) (i := 2) rfl (by decide) rfl
    omega
  | succ m ih =>
    intro x2 e1 e2 hn hl
    refine he_iload (n := 3) (i := 2) (by decide +kernel) rfl ?_
    refine he_aload (n := 4) (i := 0) (by decide +kernel) rfl ?_
    refine hb_gfd (n := 7) (ci := 7) (j := 2) (ns := [1192, 19]) hm (by decide +kernel) rfl rfl (by decide) rfl ?_
    intro v4 hv4 lv4 uv4
    by_cases h7 : v4.toInt ≤ x2.toInt
    · skip
      refine he_cmpge_t (n := 10) (t := 28) (by decide +kernel) (by omega) ?_
      refine he_aload (n := 29) (i := 0) (by decide +kernel) rfl ?_
      refine he_getr (n := 32) (ci := 7) (j := 1) (ns := [1190, 15]) (b := 50) hm (by decide +kernel) rfl rfl (by decide +kernel) ?_
      refine he_aload (n := 33) (i := 0) (by decide +kernel) rfl ?_
      refine hb_gfd (n := 36) (ci := 7) (j := 2) (ns := [1192, 19]) hm (by decide +kernel) rfl rfl (by decide) rfl ?_
      intro v33 hv33 lv33 uv33
      refine he_iload (n := 37) (i := 1) (by decide +kernel) rfl ?_
      have hroom : hv M 49 2 < 4 := by
        refine hp_room (f := fun j => hv M 50 j) (x := x1.toInt) (by omega) (fun j hj => hb_rg hm rfl hj hb_at1) ⟨p1, p2⟩ (hx 9) ?_
        intro j hj
        exact hn j (by omega)
      refine hb_sta (n := 38) (kind := 64) hm (by decide +kernel) rfl rfl (.inl rfl) (by omega) (show _ < (4 : Int) by omega) ?_
      generalize hM1 : hb_set M 50 (v33.toInt.toNat) x1 = M1
      have hm1 : mz_sh mz_GG M1 := by rw [← hM1]; exact hb_set_sh hm rfl hb_at1 (by omega) (by omega)
      have eM1 : ∀ b j, b ≠ 50 ∨ j ≠ v33.toInt.toNat → hv M1 b j = hv M b j := by intro b j h; rw [← hM1]; exact hb_set_n h
      have sM1 : hv M1 50 (v33.toInt.toNat) = x1.toInt := by rw [← hM1]; exact hb_set_v hm rfl (show _ < 4 by omega)
      have wM1 : ∀ b, b ≠ 50 → M1 b = M b := by intro b h; rw [← hM1]; exact hb_set_c h
      refine he_aload (n := 39) (i := 0) (by decide +kernel) rfl ?_
      refine he_dup_r (n := 40) (by decide +kernel) ?_
      refine hb_gfd (n := 43) (ci := 7) (j := 2) (ns := [1192, 19]) hm1 (by decide +kernel) rfl rfl (by decide) rfl ?_
      intro v40 hv40 lv40 uv40
      refine he_iconst (n := 44) (c := 1) (by decide +kernel) (by decide) ?_
      intro c43 hc43
      refine he_iadd (n := 45) (by decide +kernel) (by omega) (by omega) ?_
      intro v44 hv44
      have q9 : hv M1 49 2 = hv M 49 2 := eM1 _ _ (.inl (by decide))
      refine hb_pfd (n := 48) (ci := 7) (j := 2) (t := 0) (ns := [1192, 19]) hm1 (by decide +kernel) rfl rfl (by decide) (.inl rfl) ?_
      generalize hM2 : hb_set M1 49 2 v44 = M2
      have hm2 : mz_sh mz_GG M2 := by rw [← hM2]; exact hb_set_sh hm1 rfl rfl (by omega) (by omega)
      have eM2 : ∀ b j, b ≠ 49 ∨ j ≠ 2 → hv M2 b j = hv M1 b j := by intro b j h; rw [← hM2]; exact hb_set_n h
      have sM2 : hv M2 49 2 = v44.toInt := by rw [← hM2]; exact hb_set_v hm1 rfl (by decide)
      have wM2 : ∀ b, b ≠ 49 → M2 b = M1 b := by intro b h; rw [← hM2]; exact hb_set_c h
      refine he_iconst (n := 49) (c := 1) (by decide +kernel) (by decide) ?_
      intro c48 hc48
      refine he_retz (by decide +kernel) (by omega) ?_
      have ho : hb_only [49, 50] M M2 := hb_only_s (hb_only_s hb_only_r (by decide) wM1) (by decide) wM2
      refine K M2 _ hm2 ?_ (hb_only_fr ho (by decide)) (fun a ha => ho a ?_) (hb_only_same ho (by decide +kernel)) (by omega)
      · refine HX_m (p := 9) (fun k hk => hb_only_x ho ?_ (hx k)) ?_
        · intro a ha i
          exact hp_sp49 k hk a i (by revert ha; simp; omega)
        · have g1 : hv M2 49 2 = hv M 49 2 + 1 := by
            rw [sM2]
            have : hv M1 49 2 = hv M 49 2 := eM1 _ _ (.inl (by decide))
            omega
          show hxd (hv M2 49 2) (fun i => hv M2 50 i)
          rw [g1]
          refine hp_add (f := fun j => hv M 50 j) (x := x1.toInt) (by omega) (hx 9) (fun j hj => hn j (by omega)) ?_ ?_
          · show hv M2 50 (hv M 49 2).toNat = _
            rw [eM2 _ _ (.inl (by decide)), show (hv M 49 2).toNat = v33.toInt.toNat by omega]
            exact sM1
          · intro j hj
            show hv M2 50 j = hv M 50 j
            rw [eM2 _ _ (.inl (by decide)), eM1 _ _ (.inr (by omega))]
      · simp only [List.elem_eq_mem, decide_eq_false_iff_not, List.mem_cons, List.not_mem_nil, or_false]
        omega
    · skip
      refine he_cmpge_f (n := 10) (t := 28) (by decide +kernel) (by omega) ?_
      refine he_aload (n := 11) (i := 0) (by decide +kernel) rfl ?_
      refine he_getr (n := 14) (ci := 7) (j := 1) (ns := [1190, 15]) (b := 50) hm (by decide +kernel) rfl rfl (by decide +kernel) ?_
      refine he_iload (n := 15) (i := 2) (by decide +kernel) rfl ?_
      refine hb_ld (n := 16) (kind := 64) hm (by decide +kernel) rfl rfl (.inl rfl) (by omega) (show _ < (4 : Int) by omega) hb_at1 ?_
      intro v15 hv15 lv15 uv15
      refine he_iload (n := 17) (i := 1) (by decide +kernel) rfl ?_
      by_cases h17 : v15.toInt = x1.toInt
      · skip
        refine he_cmpne_f (n := 20) (t := 22) (by decide +kernel) (by omega) ?_
        refine he_iconst (n := 21) (c := 1) (by decide +kernel) (by decide) ?_
        intro c20 hc20
        refine he_retz (by decide +kernel) (by omega) ?_
        exact K M _ hm hx hb_fr_r (fun _ _ => rfl) hb_same_r (by omega)
      · skip
        refine he_cmpne_t (n := 20) (t := 22) (by decide +kernel) (by omega) ?_
        refine he_iinc (n := 25) (i := 2) (c := 1) (L' := fun v => [some (.ref 49), some (.int x1), some (.int v)]) (by decide +kernel) (by decide) rfl (fun _ => rfl) (by omega) (by omega) ?_
        intro i22 hi22
        refine he_goto (t := 2) (by decide +kernel) ?_
        refine ih i22 (by omega) (by omega) ?_ (by omega)
        intro j hj
        by_cases e : (j : Int) = x2.toInt
        · rw [show j = x2.toInt.toNat by omega, hv15]
          exact h17
        · exact hn j (by omega)
theorem hp_b49 {d z u : Nat} {Q : (Option Value ⊕ Nat) → mq_S → Prop} {M : Nat → mq_C} {x1 : Int32} (hm : mz_sh mz_GG M) (hx : HX M) (p1 : 0 ≤ x1.toInt) (p2 : x1.toInt ≤ 3)
    (K : ∀ (M' : Nat → mq_C) (r : Int32), mz_sh mz_GG M' → HX M' → mz_fr mz_q87 M M' → (∀ a, a < 8 → M' a = M a) → hb_same mz_GG mz_q87 M M' → r.toInt = 1 → Q (.inl (some (.int r))) (M', z, u)) : mq_R mq_PP d 88 0 [some (.ref 49), some (.int x1), none] [] (M, z, u) Q := by
  refine he_iconst (n := 1) (c := 0) (by decide +kernel) (by decide) ?_
  intro c0 hc0
  refine he_istore (n := 2) (i := 2) (by decide +kernel) rfl ?_
  have h2 := hb_rg hm (a := 49) (i := 2) rfl (by decide) rfl
  exact hp_a49 hm hx p1 p2 K 5 c0 (by omega) (by omega) (fun j hj => by omega) (by omega)
theorem hp_a60 {d z u : Nat} {Q : (Option Value ⊕ Nat) → mq_S → Prop} {M : Nat → mq_C} {x1 : Int32} (hm : mz_sh mz_GG M) (hx : HX M) (p1 : 0 ≤ x1.toInt) (p2 : x1.toInt ≤ 3)
    (K : ∀ (M' : Nat → mq_C) (r : Int32), mz_sh mz_GG M' → HX M' → mz_fr mz_q87 M M' → (∀ a, a < 8 → M' a = M a) → hb_same mz_GG mz_q87 M M' → r.toInt = 1 → Q (.inl (some (.int r))) (M', z, u)) : ∀ (m : Nat) (x2 : Int32), (m : Int) + x2.toInt = 5 → 0 ≤ x2.toInt → (∀ j : Nat, (j : Int) < x2.toInt → hv M 61 j ≠ x1.toInt) → x2.toInt ≤ hv M 60 2 → mq_R mq_PP d 88 2 [some (.ref 60), some (.int x1), some (.int x2)] [] (M, z, u) Q := by
  intro m
  induction m with
  | zero =>
    intro x2 e1 e2 hn hl
    have := hb_rg hm (a := 60) (i := 2) rfl (by decide) rfl
    omega
  | succ m ih =>
    intro x2 e1 e2 hn hl
    refine he_iload (n := 3) (i := 2) (by decide +kernel) rfl ?_
    refine he_aload (n := 4) (i := 0) (by decide +kernel) rfl ?_
    refine hb_gfd (n := 7) (ci := 7) (j := 2) (ns := [1192, 19]) hm (by decide +kernel) rfl rfl (by decide) rfl ?_
    intro v4 hv4 lv4 uv4
    by_cases h7 : v4.toInt ≤ x2.toInt
    · skip
      refine he_cmpge_t (n := 10) (t := 28) (by decide +kernel) (by omega) ?_
      refine he_aload (n := 29) (i := 0) (by decide +kernel) rfl ?_
      refine he_getr (n := 32) (ci := 7) (j := 1) (ns := [1190, 15]) (b := 61) hm (by decide +kernel) rfl rfl (by decide +kernel) ?_
      refine he_aload (n := 33) (i := 0) (by decide +kernel) rfl ?_
      refine hb_gfd (n := 36) (ci := 7) (j := 2) (ns := [1192, 19]) hm (by decide +kernel) rfl rfl (by decide) rfl ?_
      intro v33 hv33 lv33 uv33
      refine he_iload (n := 37) (i := 1) (by decide +kernel) rfl ?_
      have hroom : hv M 60 2 < 4 := by
        refine hp_room (f := fun j => hv M 61 j) (x := x1.toInt) (by omega) (fun j hj => hb_rg hm rfl hj hb_at1) ⟨p1, p2⟩ (hx 10) ?_
        intro j hj
        exact hn j (by omega)
      refine hb_sta (n := 38) (kind := 64) hm (by decide +kernel) rfl rfl (.inl rfl) (by omega) (show _ < (4 : Int) by omega) ?_
      generalize hM1 : hb_set M 61 (v33.toInt.toNat) x1 = M1
      have hm1 : mz_sh mz_GG M1 := by rw [← hM1]; exact hb_set_sh hm rfl hb_at1 (by omega) (by omega)
      have eM1 : ∀ b j, b ≠ 61 ∨ j ≠ v33.toInt.toNat → hv M1 b j = hv M b j := by intro b j h; rw [← hM1]; exact hb_set_n h
      have sM1 : hv M1 61 (v33.toInt.toNat) = x1.toInt := by rw [← hM1]; exact hb_set_v hm rfl (show _ < 4 by omega)
      have wM1 : ∀ b, b ≠ 61 → M1 b = M b := by intro b h; rw [← hM1]; exact hb_set_c h
      refine he_aload (n := 39) (i := 0) (by decide +kernel) rfl ?_
      refine he_dup_r (n := 40) (by decide +kernel) ?_
      refine hb_gfd (n := 43) (ci := 7) (j := 2) (ns := [1192, 19]) hm1 (by decide +kernel) rfl rfl (by decide) rfl ?_
      intro v40 hv40 lv40 uv40
      refine he_iconst (n := 44) (c := 1) (by decide +kernel) (by decide) ?_
      intro c43 hc43
      refine he_iadd (n := 45) (by decide +kernel) (by omega) (by omega) ?_
      intro v44 hv44
      have q9 : hv M1 60 2 = hv M 60 2 := eM1 _ _ (.inl (by decide))
      refine hb_pfd (n := 48) (ci := 7) (j := 2) (t := 0) (ns := [1192, 19]) hm1 (by decide +kernel) rfl rfl (by decide) (.inl rfl) ?_
      generalize hM2 : hb_set M1 60 2 v44 = M2
      have hm2 : mz_sh mz_GG M2 := by rw [← hM2]; exact hb_set_sh hm1 rfl rfl (by omega) (by omega)
      have eM2 : ∀ b j, b ≠ 60 ∨ j ≠ 2 → hv M2 b j = hv M1 b j := by intro b j h; rw [← hM2]; exact hb_set_n h
      have sM2 : hv M2 60 2 = v44.toInt := by rw [← hM2]; exact hb_set_v hm1 rfl (by decide)
      have wM2 : ∀ b, b ≠ 60 → M2 b = M1 b := by intro b h; rw [← hM2]; exact hb_set_c h
      refine he_iconst (n := 49) (c := 1) (by decide +kernel) (by decide) ?_
      intro c48 hc48
      refine he_retz (by decide +kernel) (by omega) ?_
      have ho : hb_only [60, 61] M M2 := hb_only_s (hb_only_s hb_only_r (by decide) wM1) (by decide) wM2
      refine K M2 _ hm2 ?_ (hb_only_fr ho (by decide)) (fun a ha => ho a ?_) (hb_only_same ho (by decide +kernel)) (by omega)
      · refine HX_m (p := 10) (fun k hk => hb_only_x ho ?_ (hx k)) ?_
        · intro a ha i
          exact hp_sp60 k hk a i (by revert ha; simp; omega)
        · have g1 : hv M2 60 2 = hv M 60 2 + 1 := by
            rw [sM2]
            have : hv M1 60 2 = hv M 60 2 := eM1 _ _ (.inl (by decide))
            omega
          show hxd (hv M2 60 2) (fun i => hv M2 61 i)
          rw [g1]
          refine hp_add (f := fun j => hv M 61 j) (x := x1.toInt) (by omega) (hx 10) (fun j hj => hn j (by omega)) ?_ ?_
          · show hv M2 61 (hv M 60 2).toNat = _
            rw [eM2 _ _ (.inl (by decide)), show (hv M 60 2).toNat = v33.toInt.toNat by omega]
            exact sM1
          · intro j hj
            show hv M2 61 j = hv M 61 j
            rw [eM2 _ _ (.inl (by decide)), eM1 _ _ (.inr (by omega))]
      · simp only [List.elem_eq_mem, decide_eq_false_iff_not, List.mem_cons, List.not_mem_nil, or_false]
        omega
    · skip
      refine he_cmpge_f (n := 10) (t := 28) (by decide +kernel) (by omega) ?_
      refine he_aload (n := 11) (i := 0) (by decide +kernel) rfl ?_
      refine he_getr (n := 14) (ci := 7) (j := 1) (ns := [1190, 15]) (b := 61) hm (by decide +kernel) rfl rfl (by decide +kernel) ?_
      refine he_iload (n := 15) (i := 2) (by decide +kernel) rfl ?_
      refine hb_ld (n := 16) (kind := 64) hm (by decide +kernel) rfl rfl (.inl rfl) (by omega) (show _ < (4 : Int) by omega) hb_at1 ?_
      intro v15 hv15 lv15 uv15
      refine he_iload (n := 17) (i := 1) (by decide +kernel) rfl ?_
      by_cases h17 : v15.toInt = x1.toInt
      · skip
        refine he_cmpne_f (n := 20) (t := 22) (by decide +kernel) (by omega) ?_
        refine he_iconst (n := 21) (c := 1) (by decide +kernel) (by decide) ?_
        intro c20 hc20
        refine he_retz (by decide +kernel) (by omega) ?_
        exact K M _ hm hx hb_fr_r (fun _ _ => rfl) hb_same_r (by omega)
      · skip
        refine he_cmpne_t (n := 20) (t := 22) (by decide +kernel) (by omega) ?_
        refine he_iinc (n := 25) (i := 2) (c := 1) (L' := fun v => [some (.ref 60), some (.int x1), some (.int v)]) (by decide +kernel) (by decide) rfl (fun _ => rfl) (by omega) (by omega) ?_
        intro i22 hi22
        refine he_goto (t := 2) (by decide +kernel) ?_
        refine ih i22 (by omega) (by omega) ?_ (by omega)
        intro j hj
        by_cases e : (j : Int) = x2.toInt
        · rw [show j = x2.toInt.toNat by omega, hv15]
          exact h17
        · exact hn j (by omega)
theorem hp_b60 {d z u : Nat} {Q : (Option Value ⊕ Nat) → mq_S → Prop} {M : Nat → mq_C} {x1 : Int32} (hm : mz_sh mz_GG M) (hx : HX M) (p1 : 0 ≤ x1.toInt) (p2 : x1.toInt ≤ 3)
    (K : ∀ (M' : Nat → mq_C) (r : Int32), mz_sh mz_GG M' → HX M' → mz_fr mz_q87 M M' → (∀ a, a < 8 → M' a = M a) → hb_same mz_GG mz_q87 M M' → r.toInt = 1 → Q (.inl (some (.int r))) (M', z, u)) : mq_R mq_PP d 88 0 [some (.ref 60), some (.int x1), none] [] (M, z, u) Q := by
  refine he_iconst (n := 1) (c := 0) (by decide +kernel) (by decide) ?_
  intro c0 hc0
  refine he_istore (n := 2) (i := 2) (by decide +kernel) rfl ?_
  have h2 := hb_rg hm (a := 60) (i := 2) rfl (by decide) rfl
  exact hp_a60 hm hx p1 p2 K 5 c0 (by omega) (by omega) (fun j hj => by omega) (by omega)
theorem hp_a71 {d z u : Nat} {Q : (Option Value ⊕ Nat) → mq_S → Prop} {M : Nat → mq_C} {x1 : Int32} (hm : mz_sh mz_GG M) (hx : HX M) (p1 : 0 ≤ x1.toInt) (p2 : x1.toInt ≤ 3)
    (K : ∀ (M' : Nat → mq_C) (r : Int32), mz_sh mz_GG M' → HX M' → mz_fr mz_q87 M M' → (∀ a, a < 8 → M' a = M a) → hb_same mz_GG mz_q87 M M' → r.toInt = 1 → Q (.inl (some (.int r))) (M', z, u)) : ∀ (m : Nat) (x2 : Int32), (m : Int) + x2.toInt = 5 → 0 ≤ x2.toInt → (∀ j : Nat, (j : Int) < x2.toInt → hv M 72 j ≠ x1.toInt) → x2.toInt ≤ hv M 71 2 → mq_R mq_PP d 88 2 [some (.ref 71), some (.int x1), some (.int x2)] [] (M, z, u) Q := by
  intro m
  induction m with
  | zero =>
    intro x2 e1 e2 hn hl
    have := hb_rg hm (a := 71) (i := 2) rfl (by decide) rfl
    omega
  | succ m ih =>
    intro x2 e1 e2 hn hl
    refine he_iload (n := 3) (i := 2) (by decide +kernel) rfl ?_
    refine he_aload (n := 4) (i := 0) (by decide +kernel) rfl ?_
    refine hb_gfd (n := 7) (ci := 7) (j := 2) (ns := [1192, 19]) hm (by decide +kernel) rfl rfl (by decide) rfl ?_
    intro v4 hv4 lv4 uv4
    by_cases h7 : v4.toInt ≤ x2.toInt
    · skip
      refine he_cmpge_t (n := 10) (t := 28) (by decide +kernel) (by omega) ?_
      refine he_aload (n := 29) (i := 0) (by decide +kernel) rfl ?_
      refine he_getr (n := 32) (ci := 7) (j := 1) (ns := [1190, 15]) (b := 72) hm (by decide +kernel) rfl rfl (by decide +kernel) ?_
      refine he_aload (n := 33) (i := 0) (by decide +kernel) rfl ?_
      refine hb_gfd (n := 36) (ci := 7) (j := 2) (ns := [1192, 19]) hm (by decide +kernel) rfl rfl (by decide) rfl ?_
      intro v33 hv33 lv33 uv33
      refine he_iload (n := 37) (i := 1) (by decide +kernel) rfl ?_
      have hroom : hv M 71 2 < 4 := by
        refine hp_room (f := fun j => hv M 72 j) (x := x1.toInt) (by omega) (fun j hj => hb_rg hm rfl hj hb_at1) ⟨p1, p2⟩ (hx 11) ?_
        intro j hj
        exact hn j (by omega)
      refine hb_sta (n := 38) (kind := 64) hm (by decide +kernel) rfl rfl (.inl rfl) (by omega) (show _ < (4 : Int) by omega) ?_
      generalize hM1 : hb_set M 72 (v33.toInt.toNat) x1 = M1
      have hm1 : mz_sh mz_GG M1 := by rw [← hM1]; exact hb_set_sh hm rfl hb_at1 (by omega) (by omega)
      have eM1 : ∀ b j, b ≠ 72 ∨ j ≠ v33.toInt.toNat → hv M1 b j = hv M b j := by intro b j h; rw [← hM1]; exact hb_set_n h
      have sM1 : hv M1 72 (v33.toInt.toNat) = x1.toInt := by rw [← hM1]; exact hb_set_v hm rfl (show _ < 4 by omega)
      have wM1 : ∀ b, b ≠ 72 → M1 b = M b := by intro b h; rw [← hM1]; exact hb_set_c h
      refine he_aload (n := 39) (i := 0) (by decide +kernel) rfl ?_
      refine he_dup_r (n := 40) (by decide +kernel) ?_
      refine hb_gfd (n := 43) (ci := 7) (j := 2) (ns := [1192, 19]) hm1 (by decide +kernel) rfl rfl (by decide) rfl ?_
      intro v40 hv40 lv40 uv40
      refine he_iconst (n := 44) (c := 1) (by decide +kernel) (by decide) ?_
      intro c43 hc43
      refine he_iadd (n := 45) (by decide +kernel) (by omega) (by omega) ?_
      intro v44 hv44
      have q9 : hv M1 71 2 = hv M 71 2 := eM1 _ _ (.inl (by decide))
      refine hb_pfd (n := 48) (ci := 7) (j := 2) (t := 0) (ns := [1192, 19]) hm1 (by decide +kernel) rfl rfl (by decide) (.inl rfl) ?_
      generalize hM2 : hb_set M1 71 2 v44 = M2
      have hm2 : mz_sh mz_GG M2 := by rw [← hM2]; exact hb_set_sh hm1 rfl rfl (by omega) (by omega)
      have eM2 : ∀ b j, b ≠ 71 ∨ j ≠ 2 → hv M2 b j = hv M1 b j := by intro b j h; rw [← hM2]; exact hb_set_n h
      have sM2 : hv M2 71 2 = v44.toInt := by rw [← hM2]; exact hb_set_v hm1 rfl (by decide)
      have wM2 : ∀ b, b ≠ 71 → M2 b = M1 b := by intro b h; rw [← hM2]; exact hb_set_c h
      refine he_iconst (n := 49) (c := 1) (by decide +kernel) (by decide) ?_
      intro c48 hc48
      refine he_retz (by decide +kernel) (by omega) ?_
      have ho : hb_only [71, 72] M M2 := hb_only_s (hb_only_s hb_only_r (by decide) wM1) (by decide) wM2
      refine K M2 _ hm2 ?_ (hb_only_fr ho (by decide)) (fun a ha => ho a ?_) (hb_only_same ho (by decide +kernel)) (by omega)
      · refine HX_m (p := 11) (fun k hk => hb_only_x ho ?_ (hx k)) ?_
        · intro a ha i
          exact hp_sp71 k hk a i (by revert ha; simp; omega)
        · have g1 : hv M2 71 2 = hv M 71 2 + 1 := by
            rw [sM2]
            have : hv M1 71 2 = hv M 71 2 := eM1 _ _ (.inl (by decide))
            omega
          show hxd (hv M2 71 2) (fun i => hv M2 72 i)
          rw [g1]
          refine hp_add (f := fun j => hv M 72 j) (x := x1.toInt) (by omega) (hx 11) (fun j hj => hn j (by omega)) ?_ ?_
          · show hv M2 72 (hv M 71 2).toNat = _
            rw [eM2 _ _ (.inl (by decide)), show (hv M 71 2).toNat = v33.toInt.toNat by omega]
            exact sM1
          · intro j hj
            show hv M2 72 j = hv M 72 j
            rw [eM2 _ _ (.inl (by decide)), eM1 _ _ (.inr (by omega))]
      · simp only [List.elem_eq_mem, decide_eq_false_iff_not, List.mem_cons, List.not_mem_nil, or_false]
        omega
    · skip
      refine he_cmpge_f (n := 10) (t := 28) (by decide +kernel) (by omega) ?_
      refine he_aload (n := 11) (i := 0) (by decide +kernel) rfl ?_
      refine he_getr (n := 14) (ci := 7) (j := 1) (ns := [1190, 15]) (b := 72) hm (by decide +kernel) rfl rfl (by decide +kernel) ?_
      refine he_iload (n := 15) (i := 2) (by decide +kernel) rfl ?_
      refine hb_ld (n := 16) (kind := 64) hm (by decide +kernel) rfl rfl (.inl rfl) (by omega) (show _ < (4 : Int) by omega) hb_at1 ?_
      intro v15 hv15 lv15 uv15
      refine he_iload (n := 17) (i := 1) (by decide +kernel) rfl ?_
      by_cases h17 : v15.toInt = x1.toInt
      · skip
        refine he_cmpne_f (n := 20) (t := 22) (by decide +kernel) (by omega) ?_
        refine he_iconst (n := 21) (c := 1) (by decide +kernel) (by decide) ?_
        intro c20 hc20
        refine he_retz (by decide +kernel) (by omega) ?_
        exact K M _ hm hx hb_fr_r (fun _ _ => rfl) hb_same_r (by omega)
      · skip
        refine he_cmpne_t (n := 20) (t := 22) (by decide +kernel) (by omega) ?_
        refine he_iinc (n := 25) (i := 2) (c := 1) (L' := fun v => [some (.ref 71), some (.int x1), some (.int v)]) (by decide +kernel) (by decide) rfl (fun _ => rfl) (by omega) (by omega) ?_
        intro i22 hi22
        refine he_goto (t := 2) (by decide +kernel) ?_
        refine ih i22 (by omega) (by omega) ?_ (by omega)
        intro j hj
        by_cases e : (j : Int) = x2.toInt
        · rw [show j = x2.toInt.toNat by omega, hv15]
          exact h17
        · exact hn j (by omega)
theorem hp_b71 {d z u : Nat} {Q : (Option Value ⊕ Nat) → mq_S → Prop} {M : Nat → mq_C} {x1 : Int32} (hm : mz_sh mz_GG M) (hx : HX M) (p1 : 0 ≤ x1.toInt) (p2 : x1.toInt ≤ 3)
    (K : ∀ (M' : Nat → mq_C) (r : Int32), mz_sh mz_GG M' → HX M' → mz_fr mz_q87 M M' → (∀ a, a < 8 → M' a = M a) → hb_same mz_GG mz_q87 M M' → r.toInt = 1 → Q (.inl (some (.int r))) (M', z, u)) : mq_R mq_PP d 88 0 [some (.ref 71), some (.int x1), none] [] (M, z, u) Q := by
  refine he_iconst (n := 1) (c := 0) (by decide +kernel) (by decide) ?_
  intro c0 hc0
  refine he_istore (n := 2) (i := 2) (by decide +kernel) rfl ?_
  have h2 := hb_rg hm (a := 71) (i := 2) rfl (by decide) rfl
  exact hp_a71 hm hx p1 p2 K 5 c0 (by omega) (by omega) (fun j hj => by omega) (by omega)
theorem hp_a82 {d z u : Nat} {Q : (Option Value ⊕ Nat) → mq_S → Prop} {M : Nat → mq_C} {x1 : Int32} (hm : mz_sh mz_GG M) (hx : HX M) (p1 : 0 ≤ x1.toInt) (p2 : x1.toInt ≤ 3)
    (K : ∀ (M' : Nat → mq_C) (r : Int32), mz_sh mz_GG M' → HX M' → mz_fr mz_q87 M M' → (∀ a, a < 8 → M' a = M a) → hb_same mz_GG mz_q87 M M' → r.toInt = 1 → Q (.inl (some (.int r))) (M', z, u)) : ∀ (m : Nat) (x2 : Int32), (m : Int) + x2.toInt = 5 → 0 ≤ x2.toInt → (∀ j : Nat, (j : Int) < x2.toInt → hv M 83 j ≠ x1.toInt) → x2.toInt ≤ hv M 82 2 → mq_R mq_PP d 88 2 [some (.ref 82), some (.int x1), some (.int x2)] [] (M, z, u) Q := by
  intro m
  induction m with
  | zero =>
    intro x2 e1 e2 hn hl
    have := hb_rg hm (a := 82) (i := 2) rfl (by decide) rfl
    omega
  | succ m ih =>
    intro x2 e1 e2 hn hl
    refine he_iload (n := 3) (i := 2) (by decide +kernel) rfl ?_
    refine he_aload (n := 4) (i := 0) (by decide +kernel) rfl ?_
    refine hb_gfd (n := 7) (ci := 7) (j := 2) (ns := [1192, 19]) hm (by decide +kernel) rfl rfl (by decide) rfl ?_
    intro v4 hv4 lv4 uv4
    by_cases h7 : v4.toInt ≤ x2.toInt
    · skip
      refine he_cmpge_t (n := 10) (t := 28) (by decide +kernel) (by omega) ?_
      refine he_aload (n := 29) (i := 0) (by decide +kernel) rfl ?_
      refine he_getr (n := 32) (ci := 7) (j := 1) (ns := [1190, 15]) (b := 83) hm (by decide +kernel) rfl rfl (by decide +kernel) ?_
      refine he_aload (n := 33) (i := 0) (by decide +kernel) rfl ?_
      refine hb_gfd (n := 36) (ci := 7) (j := 2) (ns := [1192, 19]) hm (by decide +kernel) rfl rfl (by decide) rfl ?_
      intro v33 hv33 lv33 uv33
      refine he_iload (n := 37) (i := 1) (by decide +kernel) rfl ?_
      have hroom : hv M 82 2 < 4 := by
        refine hp_room (f := fun j => hv M 83 j) (x := x1.toInt) (by omega) (fun j hj => hb_rg hm rfl hj hb_at1) ⟨p1, p2⟩ (hx 12) ?_
        intro j hj
        exact hn j (by omega)
      refine hb_sta (n := 38) (kind := 64) hm (by decide +kernel) rfl rfl (.inl rfl) (by omega) (show _ < (4 : Int) by omega) ?_
      generalize hM1 : hb_set M 83 (v33.toInt.toNat) x1 = M1
      have hm1 : mz_sh mz_GG M1 := by rw [← hM1]; exact hb_set_sh hm rfl hb_at1 (by omega) (by omega)
      have eM1 : ∀ b j, b ≠ 83 ∨ j ≠ v33.toInt.toNat → hv M1 b j = hv M b j := by intro b j h; rw [← hM1]; exact hb_set_n h
      have sM1 : hv M1 83 (v33.toInt.toNat) = x1.toInt := by rw [← hM1]; exact hb_set_v hm rfl (show _ < 4 by omega)
      have wM1 : ∀ b, b ≠ 83 → M1 b = M b := by intro b h; rw [← hM1]; exact hb_set_c h
      refine he_aload (n := 39) (i := 0) (by decide +kernel) rfl ?_
      refine he_dup_r (n := 40) (by decide +kernel) ?_
      refine hb_gfd (n := 43) (ci := 7) (j := 2) (ns := [1192, 19]) hm1 (by decide +kernel) rfl rfl (by decide) rfl ?_
      intro v40 hv40 lv40 uv40
      refine he_iconst (n := 44) (c := 1) (by decide +kernel) (by decide) ?_
      intro c43 hc43
      refine he_iadd (n := 45) (by decide +kernel) (by omega) (by omega) ?_
      intro v44 hv44
      have q9 : hv M1 82 2 = hv M 82 2 := eM1 _ _ (.inl (by decide))
      refine hb_pfd (n := 48) (ci := 7) (j := 2) (t := 0) (ns := [1192, 19]) hm1 (by decide +kernel) rfl rfl (by decide) (.inl rfl) ?_
      generalize hM2 : hb_set M1 82 2 v44 = M2
      have hm2 : mz_sh mz_GG M2 := by rw [← hM2]; exact hb_set_sh hm1 rfl rfl (by omega) (by omega)
      have eM2 : ∀ b j, b ≠ 82 ∨ j ≠ 2 → hv M2 b j = hv M1 b j := by intro b j h; rw [← hM2]; exact hb_set_n h
      have sM2 : hv M2 82 2 = v44.toInt := by rw [← hM2]; exact hb_set_v hm1 rfl (by decide)
      have wM2 : ∀ b, b ≠ 82 → M2 b = M1 b := by intro b h; rw [← hM2]; exact hb_set_c h
      refine he_iconst (n := 49) (c := 1) (by decide +kernel) (by decide) ?_
      intro c48 hc48
      refine he_retz (by decide +kernel) (by omega) ?_
      have ho : hb_only [82, 83] M M2 := hb_only_s (hb_only_s hb_only_r (by decide) wM1) (by decide) wM2
      refine K M2 _ hm2 ?_ (hb_only_fr ho (by decide)) (fun a ha => ho a ?_) (hb_only_same ho (by decide +kernel)) (by omega)
      · refine HX_m (p := 12) (fun k hk => hb_only_x ho ?_ (hx k)) ?_
        · intro a ha i
          exact hp_sp82 k hk a i (by revert ha; simp; omega)
        · have g1 : hv M2 82 2 = hv M 82 2 + 1 := by
            rw [sM2]
            have : hv M1 82 2 = hv M 82 2 := eM1 _ _ (.inl (by decide))
            omega
          show hxd (hv M2 82 2) (fun i => hv M2 83 i)
          rw [g1]
          refine hp_add (f := fun j => hv M 83 j) (x := x1.toInt) (by omega) (hx 12) (fun j hj => hn j (by omega)) ?_ ?_
          · show hv M2 83 (hv M 82 2).toNat = _
            rw [eM2 _ _ (.inl (by decide)), show (hv M 82 2).toNat = v33.toInt.toNat by omega]
            exact sM1
          · intro j hj
            show hv M2 83 j = hv M 83 j
            rw [eM2 _ _ (.inl (by decide)), eM1 _ _ (.inr (by omega))]
      · simp only [List.elem_eq_mem, decide_eq_false_iff_not, List.mem_cons, List.not_mem_nil, or_false]
        omega
    · skip
      refine he_cmpge_f (n := 10) (t := 28) (by decide +kernel) (by omega) ?_
      refine he_aload (n := 11) (i := 0) (by decide +kernel) rfl ?_
      refine he_getr (n := 14) (ci := 7) (j := 1) (ns := [1190, 15]) (b := 83) hm (by decide +kernel) rfl rfl (by decide +kernel) ?_
      refine he_iload (n := 15) (i := 2) (by decide +kernel) rfl ?_
      refine hb_ld (n := 16) (kind := 64) hm (by decide +kernel) rfl rfl (.inl rfl) (by omega) (show _ < (4 : Int) by omega) hb_at1 ?_
      intro v15 hv15 lv15 uv15
      refine he_iload (n := 17) (i := 1) (by decide +kernel) rfl ?_
      by_cases h17 : v15.toInt = x1.toInt
      · skip
        refine he_cmpne_f (n := 20) (t := 22) (by decide +kernel) (by omega) ?_
        refine he_iconst (n := 21) (c := 1) (by decide +kernel) (by decide) ?_
        intro c20 hc20
        refine he_retz (by decide +kernel) (by omega) ?_
        exact K M _ hm hx hb_fr_r (fun _ _ => rfl) hb_same_r (by omega)
      · skip
        refine he_cmpne_t (n := 20) (t := 22) (by decide +kernel) (by omega) ?_
        refine he_iinc (n := 25) (i := 2) (c := 1) (L' := fun v => [some (.ref 82), some (.int x1), some (.int v)]) (by decide +kernel) (by decide) rfl (fun _ => rfl) (by omega) (by omega) ?_
        intro i22 hi22
        refine he_goto (t := 2) (by decide +kernel) ?_
        refine ih i22 (by omega) (by omega) ?_ (by omega)
        intro j hj
        by_cases e : (j : Int) = x2.toInt
        · rw [show j = x2.toInt.toNat by omega, hv15]
          exact h17
        · exact hn j (by omega)
theorem hp_b82 {d z u : Nat} {Q : (Option Value ⊕ Nat) → mq_S → Prop} {M : Nat → mq_C} {x1 : Int32} (hm : mz_sh mz_GG M) (hx : HX M) (p1 : 0 ≤ x1.toInt) (p2 : x1.toInt ≤ 3)
    (K : ∀ (M' : Nat → mq_C) (r : Int32), mz_sh mz_GG M' → HX M' → mz_fr mz_q87 M M' → (∀ a, a < 8 → M' a = M a) → hb_same mz_GG mz_q87 M M' → r.toInt = 1 → Q (.inl (some (.int r))) (M', z, u)) : mq_R mq_PP d 88 0 [some (.ref 82), some (.int x1), none] [] (M, z, u) Q := by
  refine he_iconst (n := 1) (c := 0) (by decide +kernel) (by decide) ?_
  intro c0 hc0
  refine he_istore (n := 2) (i := 2) (by decide +kernel) rfl ?_
  have h2 := hb_rg hm (a := 82) (i := 2) rfl (by decide) rfl
  exact hp_a82 hm hx p1 p2 K 5 c0 (by omega) (by omega) (fun j hj => by omega) (by omega)
theorem hs_maddToPath_P : hc_maddToPath_P := by
  intro d z u M Q b0 x1 hd hz hm hx hb p1 p2 K
  simp only [List.mem_cons, List.not_mem_nil, or_false] at hb
  rcases hb with rfl | rfl | rfl | rfl
  · exact hp_b49 hm hx p1 (by omega) K
  · exact hp_b60 hm hx p1 (by omega) K
  · exact hp_b71 hm hx p1 (by omega) K
  · exact hp_b82 hm hx p1 (by omega) K
theorem hs_maddToPath : mz_Ct mz_GG mq_PP HX mz_q87 1 := hc_maddToPath hs_maddToPath_P
