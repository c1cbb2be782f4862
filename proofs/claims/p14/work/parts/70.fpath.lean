/-! isOnPath, addToPath, followPath. -/
def hp_FP (M0 M : Nat → mq_C) : Prop := hb_only [8, 42] M0 M ∧ ∀ i, i ≠ 10 → hv M 8 i = hv M0 8 i
def hp_PI (M : Nat → mq_C) : Prop := hxd (hv M 8 10) (fun j => hv M 42 j)
theorem hp_FPt {M0 M M' : Nat → mq_C} (h : hp_FP M0 M) (h' : hp_FP M M') : hp_FP M0 M' := ⟨hb_only_t h.1 h'.1, fun i hi => (h'.2 i hi).trans (h.2 i hi)⟩
theorem hp_sp8 (k i : Nat) : hsp k 42 i = false ∧ (hsp k 8 i = true → i = 7) := by
  match k with
  | 0 | 1 | 2 | 3 | 4 | 5 | 6 | 7 | 8 | 9 | 10 | 11 | 12 | 13 | 14 | 15 | 16 | 17 | 18 | 19 | 20 | 21 | 22 | 23 | 24 | 25 | 26 | 27 | 28 | 29 => exact ⟨by simp [hsp], by simp [hsp]⟩
  | n + 30 => exact ⟨rfl, fun h => by cases h⟩
theorem hp_HX {M M' : Nat → mq_C} (h : hp_FP M M') (hx : HX M) : HX M' := by
  intro k
  refine hxk_c (fun a i hs => ?_) (hx k)
  by_cases e : a = 8
  · subst e
    exact h.2 i (by have := (hp_sp8 k i).2 hs; omega)
  · refine hb_vc (h.1 a ?_) i
    simp only [List.elem_eq_mem, decide_eq_false_iff_not, List.mem_cons, List.not_mem_nil, or_false]
    rintro (h1 | rfl)
    · exact e h1
    · rw [(hp_sp8 k i).1] at hs
      cases hs
theorem hp_fsame {M M' : Nat → mq_C} (h : hp_FP M M') : hb_same mz_GG mz_q113 M M' := by
  refine hb_same_of (fun t => decide (t.1 = 8 ∧ t.2 ≠ 10 ∨ t.1 ≠ 8 ∧ t.1 ≠ 42)) ?_ (by decide +kernel)
  intro t ht
  rcases of_decide_eq_true ht with ⟨h1, h2⟩ | ⟨h1, h2⟩
  · rw [h1]
    exact h.2 _ h2
  · refine hb_vc (h.1 _ ?_) _
    simp only [List.elem_eq_mem, decide_eq_false_iff_not, List.mem_cons, List.not_mem_nil, or_false]
    omega
theorem hp_on1 {d z u : Nat} {Q : (Option Value ⊕ Nat) → mq_S → Prop} {M : Nat → mq_C} {x1 : Int32} (hm : mz_sh mz_GG M)
    (K1 : ∀ r : Int32, r.toInt = 1 → Q (.inl (some (.int r))) (M, z, u)) (K0 : ∀ r : Int32, r.toInt = 0 → (∀ j : Nat, (j : Int) < hv M 8 10 → hv M 42 j ≠ x1.toInt) → Q (.inl (some (.int r))) (M, z, u)) : ∀ (m : Nat) (x2 : Int32), (m : Int) + x2.toInt = 5 → 0 ≤ x2.toInt → (∀ j : Nat, (j : Int) < x2.toInt → hv M 42 j ≠ x1.toInt) → x2.toInt ≤ hv M 8 10 → mq_R mq_PP d 30 2 [some (.ref 8), some (.int x1), some (.int x2)] [] (M, z, u) Q := by
  intro m
  induction m with
  | zero =>
    intro x2 e1 e2 hn hl
    have := hb_rg hm (a := 8) (i := 10) rfl (by decide) rfl
    omega
  | succ m ih =>
    intro x2 e1 e2 hn hl
    refine he_iload (n := 3) (i := 2) (by decide +kernel) rfl ?_
    refine he_aload (n := 4) (i := 0) (by decide +kernel) rfl ?_
    refine hb_gfd (n := 7) (ci := 0) (j := 10) (ns := [2087, 58]) hm (by decide +kernel) rfl rfl (by decide) rfl ?_
    intro v4 hv4 lv4 uv4
    by_cases h7 : v4.toInt ≤ x2.toInt
    · skip
      refine he_cmpge_t (n := 10) (t := 28) (by decide +kernel) (by omega) ?_
      refine he_iconst (n := 29) (c := 0) (by decide +kernel) (by decide) ?_
      intro c28 hc28
      refine he_retz (by decide +kernel) (by omega) ?_
      exact K0 _ (by omega) (fun j hj => hn j (by omega))
    · skip
      refine he_cmpge_f (n := 10) (t := 28) (by decide +kernel) (by omega) ?_
      refine he_aload (n := 11) (i := 0) (by decide +kernel) rfl ?_
      refine he_getr (n := 14) (ci := 0) (j := 9) (ns := [2086, 55]) (b := 42) hm (by decide +kernel) rfl rfl (by decide +kernel) ?_
      refine he_iload (n := 15) (i := 2) (by decide +kernel) rfl ?_
      refine hb_ld (n := 16) (kind := 64) hm (by decide +kernel) rfl rfl (.inl rfl) (by omega) (show _ < (4 : Int) by omega) hb_at1 ?_
      intro v15 hv15 lv15 uv15
      refine he_iload (n := 17) (i := 1) (by decide +kernel) rfl ?_
      by_cases h17 : v15.toInt = x1.toInt
      · skip
        refine he_cmpne_f (n := 20) (t := 22) (by decide +kernel) (by omega) ?_
        refine he_iconst (n := 21) (c := 1) (by decide +kernel) (by decide) ?_
        intro c20 hc20
        refine he_retz (by decide +kernel) (by omega) ?_
        exact K1 _ (by omega)
      · skip
        refine he_cmpne_t (n := 20) (t := 22) (by decide +kernel) (by omega) ?_
        refine he_iinc (n := 25) (i := 2) (c := 1) (L' := fun v => [some (.ref 8), some (.int x1), some (.int v)]) (by decide +kernel) (by decide) rfl (fun _ => rfl) (by omega) (by omega) ?_
        intro i22 hi22
        refine he_goto (t := 2) (by decide +kernel) ?_
        refine ih i22 (by omega) (by omega) ?_ (by omega)
        intro j hj
        by_cases e : (j : Int) = x2.toInt
        · rw [show j = x2.toInt.toNat by omega, hv15]
          exact h17
        · exact hn j (by omega)
theorem hp_on {d z u : Nat} {Q : (Option Value ⊕ Nat) → mq_S → Prop} {M : Nat → mq_C} {x1 : Int32} (hm : mz_sh mz_GG M)
    (K1 : ∀ r : Int32, r.toInt = 1 → Q (.inl (some (.int r))) (M, z, u)) (K0 : ∀ r : Int32, r.toInt = 0 → (∀ j : Nat, (j : Int) < hv M 8 10 → hv M 42 j ≠ x1.toInt) → Q (.inl (some (.int r))) (M, z, u)) : mq_R mq_PP d 30 0 [some (.ref 8), some (.int x1), none] [] (M, z, u) Q := by
  refine he_iconst (n := 1) (c := 0) (by decide +kernel) (by decide) ?_
  intro c0 hc0
  refine he_istore (n := 2) (i := 2) (by decide +kernel) rfl ?_
  have h2 := hb_rg hm (a := 8) (i := 10) rfl (by decide) rfl
  exact hp_on1 hm K1 K0 5 c0 (by omega) (by omega) (fun j hj => by omega) (by omega)
theorem hp_lp47 {d z u : Nat} {Q : (Option Value ⊕ Nat) → mq_S → Prop} {M0 : Nat → mq_C} {x1 x2 : Int32} (p1 : 0 ≤ x2.toInt) (p2 : x2.toInt ≤ 3)
    (H : ∀ (Q' : (Option Value ⊕ Nat) → mq_S → Prop) (M : Nat → mq_C) (x y : Int32), y.toInt = x2.toInt + 1 → mz_sh mz_GG M → hp_PI M → 0 ≤ x.toInt → x.toInt ≤ 3 → (∀ M', mz_sh mz_GG M' → hp_PI M' → hp_FP M M' → Q' (.inl none) (M', z, u)) → mq_R mq_PP d 29 0 [some (.ref 8), some (.int x), some (.int y), none, none] [] (M, z, u) Q')
    (K : ∀ M', mz_sh mz_GG M' → hp_PI M' → hp_FP M0 M' → Q (.inl none) (M', z, u)) :
    ∀ (m : Nat) (M : Nat → mq_C) (x4 : Int32), (m : Int) + x4.toInt = 5 → 0 ≤ x4.toInt → mz_sh mz_GG M → hp_PI M → hp_FP M0 M → mq_R mq_PP (d + 1) 29 52 [some (.ref 8), some (.int x1), some (.int x2), some (.ref 47), some (.int x4)] [] (M, z, u) Q := by
  intro m
  induction m with
  | zero =>
    intro M x4 e1 e2 hm hp hf
    refine he_iload (n := 54) (i := 4) (by decide +kernel) rfl ?_
    refine he_aload (n := 55) (i := 3) (by decide +kernel) rfl ?_
    refine he_getr (n := 58) (ci := 1) (j := 3) (ns := [1223, 238]) (b := 49) hm (by decide +kernel) rfl rfl (by decide +kernel) ?_
    refine hb_gfd (n := 61) (ci := 7) (j := 2) (ns := [1193, 242]) hm (by decide +kernel) rfl rfl (by decide) rfl ?_
    intro v58 hv58 lv58 uv58
    have h61 : v58.toInt ≤ x4.toInt := by omega
    refine he_cmpge_t (n := 64) (t := 87) (by decide +kernel) (by omega) ?_
    refine he_ret (by decide +kernel) ?_
    exact K M hm hp hf
  | succ m ih =>
    intro M x4 e1 e2 hm hp hf
    refine he_iload (n := 54) (i := 4) (by decide +kernel) rfl ?_
    refine he_aload (n := 55) (i := 3) (by decide +kernel) rfl ?_
    refine he_getr (n := 58) (ci := 1) (j := 3) (ns := [1223, 238]) (b := 49) hm (by decide +kernel) rfl rfl (by decide +kernel) ?_
    refine hb_gfd (n := 61) (ci := 7) (j := 2) (ns := [1193, 242]) hm (by decide +kernel) rfl rfl (by decide) rfl ?_
    intro v58 hv58 lv58 uv58
    by_cases h61 : v58.toInt ≤ x4.toInt
    · skip
      refine he_cmpge_t (n := 64) (t := 87) (by decide +kernel) (by omega) ?_
      refine he_ret (by decide +kernel) ?_
      exact K M hm hp hf
    · skip
      refine he_cmpge_f (n := 64) (t := 87) (by decide +kernel) (by omega) ?_
      refine he_aload (n := 65) (i := 0) (by decide +kernel) rfl ?_
      refine he_aload (n := 66) (i := 3) (by decide +kernel) rfl ?_
      refine he_getr (n := 69) (ci := 1) (j := 3) (ns := [1223, 238]) (b := 49) hm (by decide +kernel) rfl rfl (by decide +kernel) ?_
      refine he_getr (n := 72) (ci := 7) (j := 1) (ns := [1191, 245]) (b := 50) hm (by decide +kernel) rfl rfl (by decide +kernel) ?_
      refine he_iload (n := 74) (i := 4) (by decide +kernel) rfl ?_
      refine hb_ld (n := 75) (kind := 64) hm (by decide +kernel) rfl rfl (.inl rfl) (by omega) (show _ < (4 : Int) by omega) hb_at1 ?_
      intro v74 hv74 lv74 uv74
      refine he_iload (n := 76) (i := 2) (by decide +kernel) rfl ?_
      refine he_iconst (n := 77) (c := 1) (by decide +kernel) (by decide) ?_
      intro c76 hc76
      refine he_iadd (n := 78) (by decide +kernel) (by omega) (by omega) ?_
      intro v77 hv77
      refine he_v2 (n := 81) (j := 29) (ci := 0) (mx := 5) (ns := [3132, 3134, 31, 232]) (by decide +kernel) ((hb_kd (a := 8) hm rfl).trans rfl) (by decide) (by show 3 ≤ 5; omega) ?_
      rw [mq_e29]
      refine H _ M v74 v77 (by omega) hm hp (by omega) (by omega) ?_
      intro M' hm' hp' hf'
      show mq_R mq_PP (d + 1) 29 81 _ [] (M', z, u) Q
      refine he_iinc (n := 84) (i := 4) (c := 1) (L' := fun v => [some (.ref 8), some (.int x1), some (.int x2), some (.ref 47), some (.int v)]) (by decide +kernel) (by decide) rfl (fun _ => rfl) (by omega) (by omega) ?_
      intro i81 hi81
      refine he_goto (t := 52) (by decide +kernel) ?_
      exact ih M' i81 (by omega) (by omega) hm' hp' (hp_FPt hf hf')
theorem hp_lp58 {d z u : Nat} {Q : (Option Value ⊕ Nat) → mq_S → Prop} {M0 : Nat → mq_C} {x1 x2 : Int32} (p1 : 0 ≤ x2.toInt) (p2 : x2.toInt ≤ 3)
    (H : ∀ (Q' : (Option Value ⊕ Nat) → mq_S → Prop) (M : Nat → mq_C) (x y : Int32), y.toInt = x2.toInt + 1 → mz_sh mz_GG M → hp_PI M → 0 ≤ x.toInt → x.toInt ≤ 3 → (∀ M', mz_sh mz_GG M' → hp_PI M' → hp_FP M M' → Q' (.inl none) (M', z, u)) → mq_R mq_PP d 29 0 [some (.ref 8), some (.int x), some (.int y), none, none] [] (M, z, u) Q')
    (K : ∀ M', mz_sh mz_GG M' → hp_PI M' → hp_FP M0 M' → Q (.inl none) (M', z, u)) :
    ∀ (m : Nat) (M : Nat → mq_C) (x4 : Int32), (m : Int) + x4.toInt = 5 → 0 ≤ x4.toInt → mz_sh mz_GG M → hp_PI M → hp_FP M0 M → mq_R mq_PP (d + 1) 29 52 [some (.ref 8), some (.int x1), some (.int x2), some (.ref 58), some (.int x4)] [] (M, z, u) Q := by
  intro m
  induction m with
  | zero =>
    intro M x4 e1 e2 hm hp hf
    refine he_iload (n := 54) (i := 4) (by decide +kernel) rfl ?_
    refine he_aload (n := 55) (i := 3) (by decide +kernel) rfl ?_
    refine he_getr (n := 58) (ci := 1) (j := 3) (ns := [1223, 238]) (b := 60) hm (by decide +kernel) rfl rfl (by decide +kernel) ?_
    refine hb_gfd (n := 61) (ci := 7) (j := 2) (ns := [1193, 242]) hm (by decide +kernel) rfl rfl (by decide) rfl ?_
    intro v58 hv58 lv58 uv58
    have h61 : v58.toInt ≤ x4.toInt := by omega
    refine he_cmpge_t (n := 64) (t := 87) (by decide +kernel) (by omega) ?_
    refine he_ret (by decide +kernel) ?_
    exact K M hm hp hf
  | succ m ih =>
    intro M x4 e1 e2 hm hp hf
    refine he_iload (n := 54) (i := 4) (by decide +kernel) rfl ?_
    refine he_aload (n := 55) (i := 3) (by decide +kernel) rfl ?_
    refine he_getr (n := 58) (ci := 1) (j := 3) (ns := [1223, 238]) (b := 60) hm (by decide +kernel) rfl rfl (by decide +kernel) ?_
    refine hb_gfd (n := 61) (ci := 7) (j := 2) (ns := [1193, 242]) hm (by decide +kernel) rfl rfl (by decide) rfl ?_
    intro v58 hv58 lv58 uv58
    by_cases h61 : v58.toInt ≤ x4.toInt
    · skip
      refine he_cmpge_t (n := 64) (t := 87) (by decide +kernel) (by omega) ?_
      refine he_ret (by decide +kernel) ?_
      exact K M hm hp hf
    · skip
      refine he_cmpge_f (n := 64) (t := 87) (by decide +kernel) (by omega) ?_
      refine he_aload (n := 65) (i := 0) (by decide +kernel) rfl ?_
      refine he_aload (n := 66) (i := 3) (by decide +kernel) rfl ?_
      refine he_getr (n := 69) (ci := 1) (j := 3) (ns := [1223, 238]) (b := 60) hm (by decide +kernel) rfl rfl (by decide +kernel) ?_
      refine he_getr (n := 72) (ci := 7) (j := 1) (ns := [1191, 245]) (b := 61) hm (by decide +kernel) rfl rfl (by decide +kernel) ?_
      refine he_iload (n := 74) (i := 4) (by decide +kernel) rfl ?_
      refine hb_ld (n := 75) (kind := 64) hm (by decide +kernel) rfl rfl (.inl rfl) (by omega) (show _ < (4 : Int) by omega) hb_at1 ?_
      intro v74 hv74 lv74 uv74
      refine he_iload (n := 76) (i := 2) (by decide +kernel) rfl ?_
      refine he_iconst (n := 77) (c := 1) (by decide +kernel) (by decide) ?_
      intro c76 hc76
      refine he_iadd (n := 78) (by decide +kernel) (by omega) (by omega) ?_
      intro v77 hv77
      refine he_v2 (n := 81) (j := 29) (ci := 0) (mx := 5) (ns := [3132, 3134, 31, 232]) (by decide +kernel) ((hb_kd (a := 8) hm rfl).trans rfl) (by decide) (by show 3 ≤ 5; omega) ?_
      rw [mq_e29]
      refine H _ M v74 v77 (by omega) hm hp (by omega) (by omega) ?_
      intro M' hm' hp' hf'
      show mq_R mq_PP (d + 1) 29 81 _ [] (M', z, u) Q
      refine he_iinc (n := 84) (i := 4) (c := 1) (L' := fun v => [some (.ref 8), some (.int x1), some (.int x2), some (.ref 58), some (.int v)]) (by decide +kernel) (by decide) rfl (fun _ => rfl) (by omega) (by omega) ?_
      intro i81 hi81
      refine he_goto (t := 52) (by decide +kernel) ?_
      exact ih M' i81 (by omega) (by omega) hm' hp' (hp_FPt hf hf')
theorem hp_lp69 {d z u : Nat} {Q : (Option Value ⊕ Nat) → mq_S → Prop} {M0 : Nat → mq_C} {x1 x2 : Int32} (p1 : 0 ≤ x2.toInt) (p2 : x2.toInt ≤ 3)
    (H : ∀ (Q' : (Option Value ⊕ Nat) → mq_S → Prop) (M : Nat → mq_C) (x y : Int32), y.toInt = x2.toInt + 1 → mz_sh mz_GG M → hp_PI M → 0 ≤ x.toInt → x.toInt ≤ 3 → (∀ M', mz_sh mz_GG M' → hp_PI M' → hp_FP M M' → Q' (.inl none) (M', z, u)) → mq_R mq_PP d 29 0 [some (.ref 8), some (.int x), some (.int y), none, none] [] (M, z, u) Q')
    (K : ∀ M', mz_sh mz_GG M' → hp_PI M' → hp_FP M0 M' → Q (.inl none) (M', z, u)) :
    ∀ (m : Nat) (M : Nat → mq_C) (x4 : Int32), (m : Int) + x4.toInt = 5 → 0 ≤ x4.toInt → mz_sh mz_GG M → hp_PI M → hp_FP M0 M → mq_R mq_PP (d + 1) 29 52 [some (.ref 8), some (.int x1), some (.int x2), some (.ref 69), some (.int x4)] [] (M, z, u) Q := by
  intro m
  induction m with
  | zero =>
    intro M x4 e1 e2 hm hp hf
    refine he_iload (n := 54) (i := 4) (by decide +kernel) rfl ?_
    refine he_aload (n := 55) (i := 3) (by decide +kernel) rfl ?_
    refine he_getr (n := 58) (ci := 1) (j := 3) (ns := [1223, 238]) (b := 71) hm (by decide +kernel) rfl rfl (by decide +kernel) ?_
    refine hb_gfd (n := 61) (ci := 7) (j := 2) (ns := [1193, 242]) hm (by decide +kernel) rfl rfl (by decide) rfl ?_
    intro v58 hv58 lv58 uv58
    have h61 : v58.toInt ≤ x4.toInt := by omega
    refine he_cmpge_t (n := 64) (t := 87) (by decide +kernel) (by omega) ?_
    refine he_ret (by decide +kernel) ?_
    exact K M hm hp hf
  | succ m ih =>
    intro M x4 e1 e2 hm hp hf
    refine he_iload (n := 54) (i := 4) (by decide +kernel) rfl ?_
    refine he_aload (n := 55) (i := 3) (by decide +kernel) rfl ?_
    refine he_getr (n := 58) (ci := 1) (j := 3) (ns := [1223, 238]) (b := 71) hm (by decide +kernel) rfl rfl (by decide +kernel) ?_
    refine hb_gfd (n := 61) (ci := 7) (j := 2) (ns := [1193, 242]) hm (by decide +kernel) rfl rfl (by decide) rfl ?_
    intro v58 hv58 lv58 uv58
    by_cases h61 : v58.toInt ≤ x4.toInt
    · skip
      refine he_cmpge_t (n := 64) (t := 87) (by decide +kernel) (by omega) ?_
      refine he_ret (by decide +kernel) ?_
      exact K M hm hp hf
    · skip
      refine he_cmpge_f (n := 64) (t := 87) (by decide +kernel) (by omega) ?_
      refine he_aload (n := 65) (i := 0) (by decide +kernel) rfl ?_
      refine he_aload (n := 66) (i := 3) (by decide +kernel) rfl ?_
      refine he_getr (n := 69) (ci := 1) (j := 3) (ns := [1223, 238]) (b := 71) hm (by decide +kernel) rfl rfl (by decide +kernel) ?_
      refine he_getr (n := 72) (ci := 7) (j := 1) (ns := [1191, 245]) (b := 72) hm (by decide +kernel) rfl rfl (by decide +kernel) ?_
      refine he_iload (n := 74) (i := 4) (by decide +kernel) rfl ?_
      refine hb_ld (n := 75) (kind := 64) hm (by decide +kernel) rfl rfl (.inl rfl) (by omega) (show _ < (4 : Int) by omega) hb_at1 ?_
      intro v74 hv74 lv74 uv74
      refine he_iload (n := 76) (i := 2) (by decide +kernel) rfl ?_
      refine he_iconst (n := 77) (c := 1) (by decide +kernel) (by decide) ?_
      intro c76 hc76
      refine he_iadd (n := 78) (by decide +kernel) (by omega) (by omega) ?_
      intro v77 hv77
      refine he_v2 (n := 81) (j := 29) (ci := 0) (mx := 5) (ns := [3132, 3134, 31, 232]) (by decide +kernel) ((hb_kd (a := 8) hm rfl).trans rfl) (by decide) (by show 3 ≤ 5; omega) ?_
      rw [mq_e29]
      refine H _ M v74 v77 (by omega) hm hp (by omega) (by omega) ?_
      intro M' hm' hp' hf'
      show mq_R mq_PP (d + 1) 29 81 _ [] (M', z, u) Q
      refine he_iinc (n := 84) (i := 4) (c := 1) (L' := fun v => [some (.ref 8), some (.int x1), some (.int x2), some (.ref 69), some (.int v)]) (by decide +kernel) (by decide) rfl (fun _ => rfl) (by omega) (by omega) ?_
      intro i81 hi81
      refine he_goto (t := 52) (by decide +kernel) ?_
      exact ih M' i81 (by omega) (by omega) hm' hp' (hp_FPt hf hf')
theorem hp_lp80 {d z u : Nat} {Q : (Option Value ⊕ Nat) → mq_S → Prop} {M0 : Nat → mq_C} {x1 x2 : Int32} (p1 : 0 ≤ x2.toInt) (p2 : x2.toInt ≤ 3)
    (H : ∀ (Q' : (Option Value ⊕ Nat) → mq_S → Prop) (M : Nat → mq_C) (x y : Int32), y.toInt = x2.toInt + 1 → mz_sh mz_GG M → hp_PI M → 0 ≤ x.toInt → x.toInt ≤ 3 → (∀ M', mz_sh mz_GG M' → hp_PI M' → hp_FP M M' → Q' (.inl none) (M', z, u)) → mq_R mq_PP d 29 0 [some (.ref 8), some (.int x), some (.int y), none, none] [] (M, z, u) Q')
    (K : ∀ M', mz_sh mz_GG M' → hp_PI M' → hp_FP M0 M' → Q (.inl none) (M', z, u)) :
    ∀ (m : Nat) (M : Nat → mq_C) (x4 : Int32), (m : Int) + x4.toInt = 5 → 0 ≤ x4.toInt → mz_sh mz_GG M → hp_PI M → hp_FP M0 M → mq_R mq_PP (d + 1) 29 52 [some (.ref 8), some (.int x1), some (.int x2), some (.ref 80), some (.int x4)] [] (M, z, u) Q := by
  intro m
  induction m with
  | zero =>
    intro M x4 e1 e2 hm hp hf
    refine he_iload (n := 54) (i := 4) (by decide +kernel) rfl ?_
    refine he_aload (n := 55) (i := 3) (by decide +kernel) rfl ?_
    refine he_getr (n := 58) (ci := 1) (j := 3) (ns := [1223, 238]) (b := 82) hm (by decide +kernel) rfl rfl (by decide +kernel) ?_
    refine hb_gfd (n := 61) (ci := 7) (j := 2) (ns := [1193, 242]) hm (by decide +kernel) rfl rfl (by decide) rfl ?_
    intro v58 hv58 lv58 uv58
    have h61 : v58.toInt ≤ x4.toInt := by omega
    refine he_cmpge_t (n := 64) (t := 87) (by decide +kernel) (by omega) ?_
    refine he_ret (by decide +kernel) ?_
    exact K M hm hp hf
  | succ m ih =>
    intro M x4 e1 e2 hm hp hf
    refine he_iload (n := 54) (i := 4) (by decide +kernel) rfl ?_
    refine he_aload (n := 55) (i := 3) (by decide +kernel) rfl ?_
    refine he_getr (n := 58) (ci := 1) (j := 3) (ns := [1223, 238]) (b := 82) hm (by decide +kernel) rfl rfl (by decide +kernel) ?_
    refine hb_gfd (n := 61) (ci := 7) (j := 2) (ns := [1193, 242]) hm (by decide +kernel) rfl rfl (by decide) rfl ?_
    intro v58 hv58 lv58 uv58
    by_cases h61 : v58.toInt ≤ x4.toInt
    · skip
      refine he_cmpge_t (n := 64) (t := 87) (by decide +kernel) (by omega) ?_
      refine he_ret (by decide +kernel) ?_
      exact K M hm hp hf
    · skip
      refine he_cmpge_f (n := 64) (t := 87) (by decide +kernel) (by omega) ?_
      refine he_aload (n := 65) (i := 0) (by decide +kernel) rfl ?_
      refine he_aload (n := 66) (i := 3) (by decide +kernel) rfl ?_
      refine he_getr (n := 69) (ci := 1) (j := 3) (ns := [1223, 238]) (b := 82) hm (by decide +kernel) rfl rfl (by decide +kernel) ?_
      refine he_getr (n := 72) (ci := 7) (j := 1) (ns := [1191, 245]) (b := 83) hm (by decide +kernel) rfl rfl (by decide +kernel) ?_
      refine he_iload (n := 74) (i := 4) (by decide +kernel) rfl ?_
      refine hb_ld (n := 75) (kind := 64) hm (by decide +kernel) rfl rfl (.inl rfl) (by omega) (show _ < (4 : Int) by omega) hb_at1 ?_
      intro v74 hv74 lv74 uv74
      refine he_iload (n := 76) (i := 2) (by decide +kernel) rfl ?_
      refine he_iconst (n := 77) (c := 1) (by decide +kernel) (by decide) ?_
      intro c76 hc76
      refine he_iadd (n := 78) (by decide +kernel) (by omega) (by omega) ?_
      intro v77 hv77
      refine he_v2 (n := 81) (j := 29) (ci := 0) (mx := 5) (ns := [3132, 3134, 31, 232]) (by decide +kernel) ((hb_kd (a := 8) hm rfl).trans rfl) (by decide) (by show 3 ≤ 5; omega) ?_
      rw [mq_e29]
      refine H _ M v74 v77 (by omega) hm hp (by omega) (by omega) ?_
      intro M' hm' hp' hf'
      show mq_R mq_PP (d + 1) 29 81 _ [] (M', z, u) Q
      refine he_iinc (n := 84) (i := 4) (c := 1) (L' := fun v => [some (.ref 8), some (.int x1), some (.int x2), some (.ref 80), some (.int v)]) (by decide +kernel) (by decide) rfl (fun _ => rfl) (by omega) (by omega) ?_
      intro i81 hi81
      refine he_goto (t := 52) (by decide +kernel) ?_
      exact ih M' i81 (by omega) (by omega) hm' hp' (hp_FPt hf hf')
theorem hp_ap {z u : Nat} : ∀ (t d : Nat) (Q : (Option Value ⊕ Nat) → mq_S → Prop) (M : Nat → mq_C) (x1 x2 : Int32), (t : Int) + x2.toInt = 4 → 0 ≤ x2.toInt → t + 2 ≤ d → mz_sh mz_GG M → hp_PI M → 0 ≤ x1.toInt → x1.toInt ≤ 3 → (∀ M', mz_sh mz_GG M' → hp_PI M' → hp_FP M M' → Q (.inl none) (M', z, u)) → mq_R mq_PP d 29 0 [some (.ref 8), some (.int x1), some (.int x2), none, none] [] (M, z, u) Q := by
  intro t
  induction t with
  | zero =>
    intro d Q M x1 x2 e1 e2 e3 hm hp p1 p2 K
    refine he_iload (n := 1) (i := 2) (by decide +kernel) rfl ?_
    refine he_iconst (n := 2) (c := 4) (by decide +kernel) (by decide) ?_
    intro c1 hc1
    refine he_cmpge_t (n := 5) (t := 13) (by decide +kernel) (by omega) ?_
    refine he_ret (by decide +kernel) ?_
    exact K M hm hp ⟨hb_only_r, fun _ _ => rfl⟩
  | succ t ih =>
    intro d Q M x1 x2 e1 e2 e3 hm hp p1 p2 K
    obtain ⟨d, rfl⟩ : ∃ d', d = d' + 1 := ⟨d - 1, by omega⟩
    refine he_iload (n := 1) (i := 2) (by decide +kernel) rfl ?_
    refine he_iconst (n := 2) (c := 4) (by decide +kernel) (by decide) ?_
    intro c1 hc1
    refine he_cmpge_f (n := 5) (t := 13) (by decide +kernel) (by omega) ?_
    refine he_aload (n := 6) (i := 0) (by decide +kernel) rfl ?_
    refine he_iload (n := 7) (i := 1) (by decide +kernel) rfl ?_
    refine he_v1 (n := 10) (j := 30) (ci := 0) (mx := 3) (ns := [3136, 3138, 32, 235]) (by decide +kernel) ((hb_kd (a := 8) hm rfl).trans rfl) (by decide) (by show 2 ≤ 3; omega) ?_
    rw [mq_e30]
    refine hp_on hm (fun r hr => ?_) (fun r hr hn => ?_)
    · show mq_R mq_PP (d + 1) 29 10 _ [.int r] (M, z, u) Q
      refine he_ifeq_f (n := 13) (t := 14) (by decide +kernel) (by omega) ?_
      refine he_ret (by decide +kernel) ?_
      exact K M hm hp ⟨hb_only_r, fun _ _ => rfl⟩
    · show mq_R mq_PP (d + 1) 29 10 _ [.int r] (M, z, u) Q
      refine he_ifeq_t (n := 13) (t := 14) (by decide +kernel) (by omega) ?_
      refine he_aload (n := 15) (i := 0) (by decide +kernel) rfl ?_
      refine he_getr (n := 18) (ci := 0) (j := 9) (ns := [2086, 55]) (b := 42) hm (by decide +kernel) rfl rfl (by decide +kernel) ?_
      refine he_aload (n := 19) (i := 0) (by decide +kernel) rfl ?_
      refine hb_gfd (n := 22) (ci := 0) (j := 10) (ns := [2087, 58]) hm (by decide +kernel) rfl rfl (by decide) rfl ?_
      intro v19 hv19 lv19 uv19
      refine he_iload (n := 23) (i := 1) (by decide +kernel) rfl ?_
      have hroom : hv M 8 10 < 4 := hp_room (f := fun j => hv M 42 j) (x := x1.toInt) (by omega) (fun j hj => hb_rg hm rfl hj hb_at1) ⟨p1, p2⟩ hp hn
      refine hb_sta (n := 24) (kind := 64) hm (by decide +kernel) rfl rfl (.inl rfl) (by omega) (show _ < (4 : Int) by omega) ?_
      generalize hM1 : hb_set M 42 (v19.toInt.toNat) x1 = M1
      have hm1 : mz_sh mz_GG M1 := by rw [← hM1]; exact hb_set_sh hm rfl hb_at1 (by omega) (by omega)
      have eM1 : ∀ b j, b ≠ 42 ∨ j ≠ v19.toInt.toNat → hv M1 b j = hv M b j := by intro b j h; rw [← hM1]; exact hb_set_n h
      have sM1 : hv M1 42 (v19.toInt.toNat) = x1.toInt := by rw [← hM1]; exact hb_set_v hm rfl (show _ < 4 by omega)
      have wM1 : ∀ b, b ≠ 42 → M1 b = M b := by intro b h; rw [← hM1]; exact hb_set_c h
      refine he_aload (n := 25) (i := 0) (by decide +kernel) rfl ?_
      refine he_dup_r (n := 26) (by decide +kernel) ?_
      refine hb_gfd (n := 29) (ci := 0) (j := 10) (ns := [2087, 58]) hm1 (by decide +kernel) rfl rfl (by decide) rfl ?_
      intro v26 hv26 lv26 uv26
      refine he_iconst (n := 30) (c := 1) (by decide +kernel) (by decide) ?_
      intro c29 hc29
      refine he_iadd (n := 31) (by decide +kernel) (by omega) (by omega) ?_
      intro v30 hv30
      have q9 : hv M1 8 10 = hv M 8 10 := eM1 _ _ (.inl (by decide))
      refine hb_pfd (n := 34) (ci := 0) (j := 10) (t := 0) (ns := [2087, 58]) hm1 (by decide +kernel) rfl rfl (by decide) (.inl rfl) ?_
      generalize hM2 : hb_set M1 8 10 v30 = M2
      have hm2 : mz_sh mz_GG M2 := by rw [← hM2]; exact hb_set_sh hm1 rfl rfl (by omega) (by omega)
      have eM2 : ∀ b j, b ≠ 8 ∨ j ≠ 10 → hv M2 b j = hv M1 b j := by intro b j h; rw [← hM2]; exact hb_set_n h
      have sM2 : hv M2 8 10 = v30.toInt := by rw [← hM2]; exact hb_set_v hm1 rfl (by decide)
      have wM2 : ∀ b, b ≠ 8 → M2 b = M1 b := by intro b h; rw [← hM2]; exact hb_set_c h
      refine he_aload (n := 35) (i := 0) (by decide +kernel) rfl ?_
      refine he_getr (n := 38) (ci := 0) (j := 2) (ns := [2079, 25]) (b := 37) hm2 (by decide +kernel) rfl rfl (by decide +kernel) ?_
      refine he_iload (n := 39) (i := 1) (by decide +kernel) rfl ?_
      have hf2 : hp_FP M M2 := ⟨hb_only_s (hb_only_s hb_only_r (by decide) wM1) (by decide) wM2, fun i hi => by rw [eM2 _ _ (.inr hi), eM1 _ _ (.inl (by decide))]⟩
      have hp2 : hp_PI M2 := by
        have g1 : hv M2 8 10 = hv M 8 10 + 1 := by
          rw [sM2]
          omega
        show hxd (hv M2 8 10) (fun i => hv M2 42 i)
        rw [g1]
        refine hp_add (f := fun j => hv M 42 j) (x := x1.toInt) (by omega) hp hn ?_ ?_
        · show hv M2 42 (hv M 8 10).toNat = _
          rw [eM2 _ _ (.inl (by decide)), show (hv M 8 10).toNat = v19.toInt.toNat by omega]
          exact sM1
        · intro j hj
          show hv M2 42 j = hv M 42 j
          rw [eM2 _ _ (.inl (by decide)), eM1 _ _ (.inr (by omega))]
      have hcase : x1.toInt = 0 ∨ x1.toInt = 1 ∨ x1.toInt = 2 ∨ x1.toInt = 3 := by omega
      rcases hcase with hc | hc | hc | hc
      · skip
        refine he_aald (n := 40) (kind := 71) (b := 47) hm2 (by decide +kernel) rfl rfl (by decide) (by omega) (by rw [show x1.toInt.toNat = 0 by omega]; decide +kernel) ?_
        refine he_astore (n := 41) (i := 3) (by decide +kernel) rfl ?_
        refine he_aload (n := 42) (i := 3) (by decide +kernel) rfl ?_
        refine hb_gfd (n := 45) (ci := 1) (j := 2) (ns := [1221, 220]) hm2 (by decide +kernel) rfl rfl (by decide) rfl ?_
        intro v42 hv42 lv42 uv42
        by_cases h45 : v42.toInt = 0
        · skip
          refine he_ifne_f (n := 48) (t := 49) (by decide +kernel) (by omega) ?_
          refine he_ret (by decide +kernel) ?_
          exact K M2 hm2 hp2 hf2
        · skip
          refine he_ifne_t (n := 48) (t := 49) (by decide +kernel) (by omega) ?_
          refine he_iconst (n := 50) (c := 0) (by decide +kernel) (by decide) ?_
          intro c49 hc49
          refine he_istore (n := 52) (i := 4) (by decide +kernel) rfl ?_
          refine hp_lp47 (M0 := M) e2 (by omega) ?_ K 5 M2 c49 (by omega) (by omega) hm2 hp2 hf2
          intro Q' M' x y hy hm' hp' q1 q2 K'
          exact ih d Q' M' x y (by omega) (by omega) (by omega) hm' hp' q1 q2 K'
      · skip
        refine he_aald (n := 40) (kind := 71) (b := 58) hm2 (by decide +kernel) rfl rfl (by decide) (by omega) (by rw [show x1.toInt.toNat = 1 by omega]; decide +kernel) ?_
        refine he_astore (n := 41) (i := 3) (by decide +kernel) rfl ?_
        refine he_aload (n := 42) (i := 3) (by decide +kernel) rfl ?_
        refine hb_gfd (n := 45) (ci := 1) (j := 2) (ns := [1221, 220]) hm2 (by decide +kernel) rfl rfl (by decide) rfl ?_
        intro v42 hv42 lv42 uv42
        by_cases h45 : v42.toInt = 0
        · skip
          refine he_ifne_f (n := 48) (t := 49) (by decide +kernel) (by omega) ?_
          refine he_ret (by decide +kernel) ?_
          exact K M2 hm2 hp2 hf2
        · skip
          refine he_ifne_t (n := 48) (t := 49) (by decide +kernel) (by omega) ?_
          refine he_iconst (n := 50) (c := 0) (by decide +kernel) (by decide) ?_
          intro c49 hc49
          refine he_istore (n := 52) (i := 4) (by decide +kernel) rfl ?_
          refine hp_lp58 (M0 := M) e2 (by omega) ?_ K 5 M2 c49 (by omega) (by omega) hm2 hp2 hf2
          intro Q' M' x y hy hm' hp' q1 q2 K'
          exact ih d Q' M' x y (by omega) (by omega) (by omega) hm' hp' q1 q2 K'
      · skip
        refine he_aald (n := 40) (kind := 71) (b := 69) hm2 (by decide +kernel) rfl rfl (by decide) (by omega) (by rw [show x1.toInt.toNat = 2 by omega]; decide +kernel) ?_
        refine he_astore (n := 41) (i := 3) (by decide +kernel) rfl ?_
        refine he_aload (n := 42) (i := 3) (by decide +kernel) rfl ?_
        refine hb_gfd (n := 45) (ci := 1) (j := 2) (ns := [1221, 220]) hm2 (by decide +kernel) rfl rfl (by decide) rfl ?_
        intro v42 hv42 lv42 uv42
        by_cases h45 : v42.toInt = 0
        · skip
          refine he_ifne_f (n := 48) (t := 49) (by decide +kernel) (by omega) ?_
          refine he_ret (by decide +kernel) ?_
          exact K M2 hm2 hp2 hf2
        · skip
          refine he_ifne_t (n := 48) (t := 49) (by decide +kernel) (by omega) ?_
          refine he_iconst (n := 50) (c := 0) (by decide +kernel) (by decide) ?_
          intro c49 hc49
          refine he_istore (n := 52) (i := 4) (by decide +kernel) rfl ?_
          refine hp_lp69 (M0 := M) e2 (by omega) ?_ K 5 M2 c49 (by omega) (by omega) hm2 hp2 hf2
          intro Q' M' x y hy hm' hp' q1 q2 K'
          exact ih d Q' M' x y (by omega) (by omega) (by omega) hm' hp' q1 q2 K'
      · skip
        refine he_aald (n := 40) (kind := 71) (b := 80) hm2 (by decide +kernel) rfl rfl (by decide) (by omega) (by rw [show x1.toInt.toNat = 3 by omega]; decide +kernel) ?_
        refine he_astore (n := 41) (i := 3) (by decide +kernel) rfl ?_
        refine he_aload (n := 42) (i := 3) (by decide +kernel) rfl ?_
        refine hb_gfd (n := 45) (ci := 1) (j := 2) (ns := [1221, 220]) hm2 (by decide +kernel) rfl rfl (by decide) rfl ?_
        intro v42 hv42 lv42 uv42
        by_cases h45 : v42.toInt = 0
        · skip
          refine he_ifne_f (n := 48) (t := 49) (by decide +kernel) (by omega) ?_
          refine he_ret (by decide +kernel) ?_
          exact K M2 hm2 hp2 hf2
        · skip
          refine he_ifne_t (n := 48) (t := 49) (by decide +kernel) (by omega) ?_
          refine he_iconst (n := 50) (c := 0) (by decide +kernel) (by decide) ?_
          intro c49 hc49
          refine he_istore (n := 52) (i := 4) (by decide +kernel) rfl ?_
          refine hp_lp80 (M0 := M) e2 (by omega) ?_ K 5 M2 c49 (by omega) (by omega) hm2 hp2 hf2
          intro Q' M' x y hy hm' hp' q1 q2 K'
          exact ih d Q' M' x y (by omega) (by omega) (by omega) hm' hp' q1 q2 K'
theorem hp_fl91 {d z u : Nat} {Q : (Option Value ⊕ Nat) → mq_S → Prop} {M0 : Nat → mq_C} (hd : 6 ≤ d) (K : ∀ M', mz_sh mz_GG M' → hp_FP M0 M' → Q (.inl none) (M', z, u)) :
    ∀ (m : Nat) (M : Nat → mq_C) (x2 : Int32), (m : Int) + x2.toInt = 5 → 0 ≤ x2.toInt → mz_sh mz_GG M → hp_PI M → hp_FP M0 M → mq_R mq_PP (d + 1) 28 15 [some (.ref 8), some (.ref 91), some (.int x2)] [] (M, z, u) Q := by
  intro m
  induction m with
  | zero =>
    intro M x2 e1 e2 hm hp hf
    refine he_iload (n := 16) (i := 2) (by decide +kernel) rfl ?_
    refine he_aload (n := 17) (i := 1) (by decide +kernel) rfl ?_
    refine hb_gfd (n := 20) (ci := 5) (j := 3) (ns := [2029, 226]) hm (by decide +kernel) rfl rfl (by decide) rfl ?_
    intro v17 hv17 lv17 uv17
    have h20 : v17.toInt ≤ x2.toInt := by omega
    refine he_cmpge_t (n := 23) (t := 40) (by decide +kernel) (by omega) ?_
    refine he_ret (by decide +kernel) ?_
    exact K M hm hf
  | succ m ih =>
    intro M x2 e1 e2 hm hp hf
    refine he_iload (n := 16) (i := 2) (by decide +kernel) rfl ?_
    refine he_aload (n := 17) (i := 1) (by decide +kernel) rfl ?_
    refine hb_gfd (n := 20) (ci := 5) (j := 3) (ns := [2029, 226]) hm (by decide +kernel) rfl rfl (by decide) rfl ?_
    intro v17 hv17 lv17 uv17
    by_cases h20 : v17.toInt ≤ x2.toInt
    · skip
      refine he_cmpge_t (n := 23) (t := 40) (by decide +kernel) (by omega) ?_
      refine he_ret (by decide +kernel) ?_
      exact K M hm hf
    · skip
      refine he_cmpge_f (n := 23) (t := 40) (by decide +kernel) (by omega) ?_
      refine he_aload (n := 24) (i := 0) (by decide +kernel) rfl ?_
      refine he_aload (n := 25) (i := 1) (by decide +kernel) rfl ?_
      refine he_getr (n := 28) (ci := 5) (j := 2) (ns := [2027, 229]) (b := 92) hm (by decide +kernel) rfl rfl (by decide +kernel) ?_
      refine he_iload (n := 29) (i := 2) (by decide +kernel) rfl ?_
      refine hb_ld (n := 30) (kind := 64) hm (by decide +kernel) rfl rfl (.inl rfl) (by omega) (show _ < (4 : Int) by omega) hb_at1 ?_
      intro v29 hv29 lv29 uv29
      refine he_iconst (n := 31) (c := 0) (by decide +kernel) (by decide) ?_
      intro c30 hc30
      refine he_v2 (n := 34) (j := 29) (ci := 0) (mx := 5) (ns := [3132, 3134, 31, 232]) (by decide +kernel) ((hb_kd (a := 8) hm rfl).trans rfl) (by decide) (by show 3 ≤ 5; omega) ?_
      rw [mq_e29]
      refine hp_ap 4 d _ M v29 c30 (by omega) (by omega) (by omega) hm hp (by omega) (by omega) ?_
      intro M' hm' hp' hf'
      show mq_R mq_PP (d + 1) 28 34 _ [] (M', z, u) Q
      refine he_iinc (n := 37) (i := 2) (c := 1) (L' := fun v => [some (.ref 8), some (.ref 91), some (.int v)]) (by decide +kernel) (by decide) rfl (fun _ => rfl) (by omega) (by omega) ?_
      intro i34 hi34
      refine he_goto (t := 15) (by decide +kernel) ?_
      exact ih M' i34 (by omega) (by omega) hm' hp' (hp_FPt hf hf')
theorem hp_fp91 {d z u : Nat} {Q : (Option Value ⊕ Nat) → mq_S → Prop} {M : Nat → mq_C} (hd : 8 ≤ d) (hm : mz_sh mz_GG M) (K : ∀ M', mz_sh mz_GG M' → hp_FP M M' → Q (.inl none) (M', z, u)) : mq_R mq_PP d 28 0 [some (.ref 8), some (.ref 91), none] [] (M, z, u) Q := by
  obtain ⟨d, rfl⟩ : ∃ d', d = d' + 1 := ⟨d - 1, by omega⟩
  refine he_aload (n := 1) (i := 0) (by decide +kernel) rfl ?_
  refine he_iconst (n := 2) (c := 0) (by decide +kernel) (by decide) ?_
  intro c1 hc1
  refine hb_pfd (n := 5) (ci := 0) (j := 10) (t := 0) (ns := [2087, 58]) hm (by decide +kernel) rfl rfl (by decide) (.inl rfl) ?_
  generalize hM1 : hb_set M 8 10 c1 = M1
  have hm1 : mz_sh mz_GG M1 := by rw [← hM1]; exact hb_set_sh hm rfl rfl (by omega) (by omega)
  have eM1 : ∀ b j, b ≠ 8 ∨ j ≠ 10 → hv M1 b j = hv M b j := by intro b j h; rw [← hM1]; exact hb_set_n h
  have sM1 : hv M1 8 10 = c1.toInt := by rw [← hM1]; exact hb_set_v hm rfl (by decide)
  have wM1 : ∀ b, b ≠ 8 → M1 b = M b := by intro b h; rw [← hM1]; exact hb_set_c h
  refine he_aload (n := 6) (i := 1) (by decide +kernel) rfl ?_
  refine hb_gfd (n := 9) (ci := 5) (j := 1) (ns := [2025, 149]) hm1 (by decide +kernel) rfl rfl (by decide) rfl ?_
  intro v6 hv6 lv6 uv6
  have hf1 : hp_FP M M1 := ⟨hb_only_s hb_only_r (by decide) wM1, fun i hi => eM1 _ _ (.inr hi)⟩
  have hp1 : hp_PI M1 := by
    intro i j h1 h2 h3
    have h3 : (j : Int) < hv M1 8 10 := h3
    rw [sM1] at h3
    omega
  by_cases h9 : v6.toInt = 0
  · skip
    refine he_ifeq_t (n := 12) (t := 13) (by decide +kernel) (by omega) ?_
    refine he_iconst (n := 14) (c := 0) (by decide +kernel) (by decide) ?_
    intro c13 hc13
    refine he_istore (n := 15) (i := 2) (by decide +kernel) rfl ?_
    exact hp_fl91 (M0 := M) (by omega) K 5 M1 c13 (by omega) (by omega) hm1 hp1 hf1
  · skip
    refine he_ifeq_f (n := 12) (t := 13) (by decide +kernel) (by omega) ?_
    refine he_ret (by decide +kernel) ?_
    exact K M1 hm1 hf1
theorem hp_fl96 {d z u : Nat} {Q : (Option Value ⊕ Nat) → mq_S → Prop} {M0 : Nat → mq_C} (hd : 6 ≤ d) (K : ∀ M', mz_sh mz_GG M' → hp_FP M0 M' → Q (.inl none) (M', z, u)) :
    ∀ (m : Nat) (M : Nat → mq_C) (x2 : Int32), (m : Int) + x2.toInt = 5 → 0 ≤ x2.toInt → mz_sh mz_GG M → hp_PI M → hp_FP M0 M → mq_R mq_PP (d + 1) 28 15 [some (.ref 8), some (.ref 96), some (.int x2)] [] (M, z, u) Q := by
  intro m
  induction m with
  | zero =>
    intro M x2 e1 e2 hm hp hf
    refine he_iload (n := 16) (i := 2) (by decide +kernel) rfl ?_
    refine he_aload (n := 17) (i := 1) (by decide +kernel) rfl ?_
    refine hb_gfd (n := 20) (ci := 5) (j := 3) (ns := [2029, 226]) hm (by decide +kernel) rfl rfl (by decide) rfl ?_
    intro v17 hv17 lv17 uv17
    have h20 : v17.toInt ≤ x2.toInt := by omega
    refine he_cmpge_t (n := 23) (t := 40) (by decide +kernel) (by omega) ?_
    refine he_ret (by decide +kernel) ?_
    exact K M hm hf
  | succ m ih =>
    intro M x2 e1 e2 hm hp hf
    refine he_iload (n := 16) (i := 2) (by decide +kernel) rfl ?_
    refine he_aload (n := 17) (i := 1) (by decide +kernel) rfl ?_
    refine hb_gfd (n := 20) (ci := 5) (j := 3) (ns := [2029, 226]) hm (by decide +kernel) rfl rfl (by decide) rfl ?_
    intro v17 hv17 lv17 uv17
    by_cases h20 : v17.toInt ≤ x2.toInt
    · skip
      refine he_cmpge_t (n := 23) (t := 40) (by decide +kernel) (by omega) ?_
      refine he_ret (by decide +kernel) ?_
      exact K M hm hf
    · skip
      refine he_cmpge_f (n := 23) (t := 40) (by decide +kernel) (by omega) ?_
      refine he_aload (n := 24) (i := 0) (by decide +kernel) rfl ?_
      refine he_aload (n := 25) (i := 1) (by decide +kernel) rfl ?_
      refine he_getr (n := 28) (ci := 5) (j := 2) (ns := [2027, 229]) (b := 97) hm (by decide +kernel) rfl rfl (by decide +kernel) ?_
      refine he_iload (n := 29) (i := 2) (by decide +kernel) rfl ?_
      refine hb_ld (n := 30) (kind := 64) hm (by decide +kernel) rfl rfl (.inl rfl) (by omega) (show _ < (4 : Int) by omega) hb_at1 ?_
      intro v29 hv29 lv29 uv29
      refine he_iconst (n := 31) (c := 0) (by decide +kernel) (by decide) ?_
      intro c30 hc30
      refine he_v2 (n := 34) (j := 29) (ci := 0) (mx := 5) (ns := [3132, 3134, 31, 232]) (by decide +kernel) ((hb_kd (a := 8) hm rfl).trans rfl) (by decide) (by show 3 ≤ 5; omega) ?_
      rw [mq_e29]
      refine hp_ap 4 d _ M v29 c30 (by omega) (by omega) (by omega) hm hp (by omega) (by omega) ?_
      intro M' hm' hp' hf'
      show mq_R mq_PP (d + 1) 28 34 _ [] (M', z, u) Q
      refine he_iinc (n := 37) (i := 2) (c := 1) (L' := fun v => [some (.ref 8), some (.ref 96), some (.int v)]) (by decide +kernel) (by decide) rfl (fun _ => rfl) (by omega) (by omega) ?_
      intro i34 hi34
      refine he_goto (t := 15) (by decide +kernel) ?_
      exact ih M' i34 (by omega) (by omega) hm' hp' (hp_FPt hf hf')
theorem hp_fp96 {d z u : Nat} {Q : (Option Value ⊕ Nat) → mq_S → Prop} {M : Nat → mq_C} (hd : 8 ≤ d) (hm : mz_sh mz_GG M) (K : ∀ M', mz_sh mz_GG M' → hp_FP M M' → Q (.inl none) (M', z, u)) : mq_R mq_PP d 28 0 [some (.ref 8), some (.ref 96), none] [] (M, z, u) Q := by
  obtain ⟨d, rfl⟩ : ∃ d', d = d' + 1 := ⟨d - 1, by omega⟩
  refine he_aload (n := 1) (i := 0) (by decide +kernel) rfl ?_
  refine he_iconst (n := 2) (c := 0) (by decide +kernel) (by decide) ?_
  intro c1 hc1
  refine hb_pfd (n := 5) (ci := 0) (j := 10) (t := 0) (ns := [2087, 58]) hm (by decide +kernel) rfl rfl (by decide) (.inl rfl) ?_
  generalize hM1 : hb_set M 8 10 c1 = M1
  have hm1 : mz_sh mz_GG M1 := by rw [← hM1]; exact hb_set_sh hm rfl rfl (by omega) (by omega)
  have eM1 : ∀ b j, b ≠ 8 ∨ j ≠ 10 → hv M1 b j = hv M b j := by intro b j h; rw [← hM1]; exact hb_set_n h
  have sM1 : hv M1 8 10 = c1.toInt := by rw [← hM1]; exact hb_set_v hm rfl (by decide)
  have wM1 : ∀ b, b ≠ 8 → M1 b = M b := by intro b h; rw [← hM1]; exact hb_set_c h
  refine he_aload (n := 6) (i := 1) (by decide +kernel) rfl ?_
  refine hb_gfd (n := 9) (ci := 5) (j := 1) (ns := [2025, 149]) hm1 (by decide +kernel) rfl rfl (by decide) rfl ?_
  intro v6 hv6 lv6 uv6
  have hf1 : hp_FP M M1 := ⟨hb_only_s hb_only_r (by decide) wM1, fun i hi => eM1 _ _ (.inr hi)⟩
  have hp1 : hp_PI M1 := by
    intro i j h1 h2 h3
    have h3 : (j : Int) < hv M1 8 10 := h3
    rw [sM1] at h3
    omega
  by_cases h9 : v6.toInt = 0
  · skip
    refine he_ifeq_t (n := 12) (t := 13) (by decide +kernel) (by omega) ?_
    refine he_iconst (n := 14) (c := 0) (by decide +kernel) (by decide) ?_
    intro c13 hc13
    refine he_istore (n := 15) (i := 2) (by decide +kernel) rfl ?_
    exact hp_fl96 (M0 := M) (by omega) K 5 M1 c13 (by omega) (by omega) hm1 hp1 hf1
  · skip
    refine he_ifeq_f (n := 12) (t := 13) (by decide +kernel) (by omega) ?_
    refine he_ret (by decide +kernel) ?_
    exact K M1 hm1 hf1
theorem hp_fl101 {d z u : Nat} {Q : (Option Value ⊕ Nat) → mq_S → Prop} {M0 : Nat → mq_C} (hd : 6 ≤ d) (K : ∀ M', mz_sh mz_GG M' → hp_FP M0 M' → Q (.inl none) (M', z, u)) :
    ∀ (m : Nat) (M : Nat → mq_C) (x2 : Int32), (m : Int) + x2.toInt = 5 → 0 ≤ x2.toInt → mz_sh mz_GG M → hp_PI M → hp_FP M0 M → mq_R mq_PP (d + 1) 28 15 [some (.ref 8), some (.ref 101), some (.int x2)] [] (M, z, u) Q := by
  intro m
  induction m with
  | zero =>
    intro M x2 e1 e2 hm hp hf
    refine he_iload (n := 16) (i := 2) (by decide +kernel) rfl ?_
    refine he_aload (n := 17) (i := 1) (by decide +kernel) rfl ?_
    refine hb_gfd (n := 20) (ci := 5) (j := 3) (ns := [2029, 226]) hm (by decide +kernel) rfl rfl (by decide) rfl ?_
    intro v17 hv17 lv17 uv17
    have h20 : v17.toInt ≤ x2.toInt := by omega
    refine he_cmpge_t (n := 23) (t := 40) (by decide +kernel) (by omega) ?_
    refine he_ret (by decide +kernel) ?_
    exact K M hm hf
  | succ m ih =>
    intro M x2 e1 e2 hm hp hf
    refine he_iload (n := 16) (i := 2) (by decide +kernel) rfl ?_
    refine he_aload (n := 17) (i := 1) (by decide +kernel) rfl ?_
    refine hb_gfd (n := 20) (ci := 5) (j := 3) (ns := [2029, 226]) hm (by decide +kernel) rfl rfl (by decide) rfl ?_
    intro v17 hv17 lv17 uv17
    by_cases h20 : v17.toInt ≤ x2.toInt
    · skip
      refine he_cmpge_t (n := 23) (t := 40) (by decide +kernel) (by omega) ?_
      refine he_ret (by decide +kernel) ?_
      exact K M hm hf
    · skip
      refine he_cmpge_f (n := 23) (t := 40) (by decide +kernel) (by omega) ?_
      refine he_aload (n := 24) (i := 0) (by decide +kernel) rfl ?_
      refine he_aload (n := 25) (i := 1) (by decide +kernel) rfl ?_
      refine he_getr (n := 28) (ci := 5) (j := 2) (ns := [2027, 229]) (b := 102) hm (by decide +kernel) rfl rfl (by decide +kernel) ?_
      refine he_iload (n := 29) (i := 2) (by decide +kernel) rfl ?_
      refine hb_ld (n := 30) (kind := 64) hm (by decide +kernel) rfl rfl (.inl rfl) (by omega) (show _ < (4 : Int) by omega) hb_at1 ?_
      intro v29 hv29 lv29 uv29
      refine he_iconst (n := 31) (c := 0) (by decide +kernel) (by decide) ?_
      intro c30 hc30
      refine he_v2 (n := 34) (j := 29) (ci := 0) (mx := 5) (ns := [3132, 3134, 31, 232]) (by decide +kernel) ((hb_kd (a := 8) hm rfl).trans rfl) (by decide) (by show 3 ≤ 5; omega) ?_
      rw [mq_e29]
      refine hp_ap 4 d _ M v29 c30 (by omega) (by omega) (by omega) hm hp (by omega) (by omega) ?_
      intro M' hm' hp' hf'
      show mq_R mq_PP (d + 1) 28 34 _ [] (M', z, u) Q
      refine he_iinc (n := 37) (i := 2) (c := 1) (L' := fun v => [some (.ref 8), some (.ref 101), some (.int v)]) (by decide +kernel) (by decide) rfl (fun _ => rfl) (by omega) (by omega) ?_
      intro i34 hi34
      refine he_goto (t := 15) (by decide +kernel) ?_
      exact ih M' i34 (by omega) (by omega) hm' hp' (hp_FPt hf hf')
theorem hp_fp101 {d z u : Nat} {Q : (Option Value ⊕ Nat) → mq_S → Prop} {M : Nat → mq_C} (hd : 8 ≤ d) (hm : mz_sh mz_GG M) (K : ∀ M', mz_sh mz_GG M' → hp_FP M M' → Q (.inl none) (M', z, u)) : mq_R mq_PP d 28 0 [some (.ref 8), some (.ref 101), none] [] (M, z, u) Q := by
  obtain ⟨d, rfl⟩ : ∃ d', d = d' + 1 := ⟨d - 1, by omega⟩
  refine he_aload (n := 1) (i := 0) (by decide +kernel) rfl ?_
  refine he_iconst (n := 2) (c := 0) (by decide +kernel) (by decide) ?_
  intro c1 hc1
  refine hb_pfd (n := 5) (ci := 0) (j := 10) (t := 0) (ns := [2087, 58]) hm (by decide +kernel) rfl rfl (by decide) (.inl rfl) ?_
  generalize hM1 : hb_set M 8 10 c1 = M1
  have hm1 : mz_sh mz_GG M1 := by rw [← hM1]; exact hb_set_sh hm rfl rfl (by omega) (by omega)
  have eM1 : ∀ b j, b ≠ 8 ∨ j ≠ 10 → hv M1 b j = hv M b j := by intro b j h; rw [← hM1]; exact hb_set_n h
  have sM1 : hv M1 8 10 = c1.toInt := by rw [← hM1]; exact hb_set_v hm rfl (by decide)
  have wM1 : ∀ b, b ≠ 8 → M1 b = M b := by intro b h; rw [← hM1]; exact hb_set_c h
  refine he_aload (n := 6) (i := 1) (by decide +kernel) rfl ?_
  refine hb_gfd (n := 9) (ci := 5) (j := 1) (ns := [2025, 149]) hm1 (by decide +kernel) rfl rfl (by decide) rfl ?_
  intro v6 hv6 lv6 uv6
  have hf1 : hp_FP M M1 := ⟨hb_only_s hb_only_r (by decide) wM1, fun i hi => eM1 _ _ (.inr hi)⟩
  have hp1 : hp_PI M1 := by
    intro i j h1 h2 h3
    have h3 : (j : Int) < hv M1 8 10 := h3
    rw [sM1] at h3
    omega
  by_cases h9 : v6.toInt = 0
  · skip
    refine he_ifeq_t (n := 12) (t := 13) (by decide +kernel) (by omega) ?_
    refine he_iconst (n := 14) (c := 0) (by decide +kernel) (by decide) ?_
    intro c13 hc13
    refine he_istore (n := 15) (i := 2) (by decide +kernel) rfl ?_
    exact hp_fl101 (M0 := M) (by omega) K 5 M1 c13 (by omega) (by omega) hm1 hp1 hf1
  · skip
    refine he_ifeq_f (n := 12) (t := 13) (by decide +kernel) (by omega) ?_
    refine he_ret (by decide +kernel) ?_
    exact K M1 hm1 hf1
theorem hp_fl106 {d z u : Nat} {Q : (Option Value ⊕ Nat) → mq_S → Prop} {M0 : Nat → mq_C} (hd : 6 ≤ d) (K : ∀ M', mz_sh mz_GG M' → hp_FP M0 M' → Q (.inl none) (M', z, u)) :
    ∀ (m : Nat) (M : Nat → mq_C) (x2 : Int32), (m : Int) + x2.toInt = 5 → 0 ≤ x2.toInt → mz_sh mz_GG M → hp_PI M → hp_FP M0 M → mq_R mq_PP (d + 1) 28 15 [some (.ref 8), some (.ref 106), some (.int x2)] [] (M, z, u) Q := by
  intro m
  induction m with
  | zero =>
    intro M x2 e1 e2 hm hp hf
    refine he_iload (n := 16) (i := 2) (by decide +kernel) rfl ?_
    refine he_aload (n := 17) (i := 1) (by decide +kernel) rfl ?_
    refine hb_gfd (n := 20) (ci := 5) (j := 3) (ns := [2029, 226]) hm (by decide +kernel) rfl rfl (by decide) rfl ?_
    intro v17 hv17 lv17 uv17
    have h20 : v17.toInt ≤ x2.toInt := by omega
    refine he_cmpge_t (n := 23) (t := 40) (by decide +kernel) (by omega) ?_
    refine he_ret (by decide +kernel) ?_
    exact K M hm hf
  | succ m ih =>
    intro M x2 e1 e2 hm hp hf
    refine he_iload (n := 16) (i := 2) (by decide +kernel) rfl ?_
    refine he_aload (n := 17) (i := 1) (by decide +kernel) rfl ?_
    refine hb_gfd (n := 20) (ci := 5) (j := 3) (ns := [2029, 226]) hm (by decide +kernel) rfl rfl (by decide) rfl ?_
    intro v17 hv17 lv17 uv17
    by_cases h20 : v17.toInt ≤ x2.toInt
    · skip
      refine he_cmpge_t (n := 23) (t := 40) (by decide +kernel) (by omega) ?_
      refine he_ret (by decide +kernel) ?_
      exact K M hm hf
    · skip
      refine he_cmpge_f (n := 23) (t := 40) (by decide +kernel) (by omega) ?_
      refine he_aload (n := 24) (i := 0) (by decide +kernel) rfl ?_
      refine he_aload (n := 25) (i := 1) (by decide +kernel) rfl ?_
      refine he_getr (n := 28) (ci := 5) (j := 2) (ns := [2027, 229]) (b := 107) hm (by decide +kernel) rfl rfl (by decide +kernel) ?_
      refine he_iload (n := 29) (i := 2) (by decide +kernel) rfl ?_
      refine hb_ld (n := 30) (kind := 64) hm (by decide +kernel) rfl rfl (.inl rfl) (by omega) (show _ < (4 : Int) by omega) hb_at1 ?_
      intro v29 hv29 lv29 uv29
      refine he_iconst (n := 31) (c := 0) (by decide +kernel) (by decide) ?_
      intro c30 hc30
      refine he_v2 (n := 34) (j := 29) (ci := 0) (mx := 5) (ns := [3132, 3134, 31, 232]) (by decide +kernel) ((hb_kd (a := 8) hm rfl).trans rfl) (by decide) (by show 3 ≤ 5; omega) ?_
      rw [mq_e29]
      refine hp_ap 4 d _ M v29 c30 (by omega) (by omega) (by omega) hm hp (by omega) (by omega) ?_
      intro M' hm' hp' hf'
      show mq_R mq_PP (d + 1) 28 34 _ [] (M', z, u) Q
      refine he_iinc (n := 37) (i := 2) (c := 1) (L' := fun v => [some (.ref 8), some (.ref 106), some (.int v)]) (by decide +kernel) (by decide) rfl (fun _ => rfl) (by omega) (by omega) ?_
      intro i34 hi34
      refine he_goto (t := 15) (by decide +kernel) ?_
      exact ih M' i34 (by omega) (by omega) hm' hp' (hp_FPt hf hf')
theorem hp_fp106 {d z u : Nat} {Q : (Option Value ⊕ Nat) → mq_S → Prop} {M : Nat → mq_C} (hd : 8 ≤ d) (hm : mz_sh mz_GG M) (K : ∀ M', mz_sh mz_GG M' → hp_FP M M' → Q (.inl none) (M', z, u)) : mq_R mq_PP d 28 0 [some (.ref 8), some (.ref 106), none] [] (M, z, u) Q := by
  obtain ⟨d, rfl⟩ : ∃ d', d = d' + 1 := ⟨d - 1, by omega⟩
  refine he_aload (n := 1) (i := 0) (by decide +kernel) rfl ?_
  refine he_iconst (n := 2) (c := 0) (by decide +kernel) (by decide) ?_
  intro c1 hc1
  refine hb_pfd (n := 5) (ci := 0) (j := 10) (t := 0) (ns := [2087, 58]) hm (by decide +kernel) rfl rfl (by decide) (.inl rfl) ?_
  generalize hM1 : hb_set M 8 10 c1 = M1
  have hm1 : mz_sh mz_GG M1 := by rw [← hM1]; exact hb_set_sh hm rfl rfl (by omega) (by omega)
  have eM1 : ∀ b j, b ≠ 8 ∨ j ≠ 10 → hv M1 b j = hv M b j := by intro b j h; rw [← hM1]; exact hb_set_n h
  have sM1 : hv M1 8 10 = c1.toInt := by rw [← hM1]; exact hb_set_v hm rfl (by decide)
  have wM1 : ∀ b, b ≠ 8 → M1 b = M b := by intro b h; rw [← hM1]; exact hb_set_c h
  refine he_aload (n := 6) (i := 1) (by decide +kernel) rfl ?_
  refine hb_gfd (n := 9) (ci := 5) (j := 1) (ns := [2025, 149]) hm1 (by decide +kernel) rfl rfl (by decide) rfl ?_
  intro v6 hv6 lv6 uv6
  have hf1 : hp_FP M M1 := ⟨hb_only_s hb_only_r (by decide) wM1, fun i hi => eM1 _ _ (.inr hi)⟩
  have hp1 : hp_PI M1 := by
    intro i j h1 h2 h3
    have h3 : (j : Int) < hv M1 8 10 := h3
    rw [sM1] at h3
    omega
  by_cases h9 : v6.toInt = 0
  · skip
    refine he_ifeq_t (n := 12) (t := 13) (by decide +kernel) (by omega) ?_
    refine he_iconst (n := 14) (c := 0) (by decide +kernel) (by decide) ?_
    intro c13 hc13
    refine he_istore (n := 15) (i := 2) (by decide +kernel) rfl ?_
    exact hp_fl106 (M0 := M) (by omega) K 5 M1 c13 (by omega) (by omega) hm1 hp1 hf1
  · skip
    refine he_ifeq_f (n := 12) (t := 13) (by decide +kernel) (by omega) ?_
    refine he_ret (by decide +kernel) ?_
    exact K M1 hm1 hf1
theorem hs_followPath_P : hc_followPath_P := by
  intro d z u M Q b1 hd hz hm hx hb K
  have K' : ∀ M', mz_sh mz_GG M' → hp_FP M M' → Q (.inl none) (M', z, u) := fun M' hm' hf => K M' hm' (hp_HX hf hx) (hb_only_fr hf.1 (by decide)) (hb_low hf.1 (by decide)) (hp_fsame hf)
  simp only [List.mem_cons, List.not_mem_nil, or_false] at hb
  rcases hb with rfl | rfl | rfl | rfl
  · exact hp_fp91 hd hm K'
  · exact hp_fp96 hd hm K'
  · exact hp_fp101 hd hm K'
  · exact hp_fp106 hd hm K'
theorem hs_followPath : mz_Ct mz_GG mq_PP HX mz_q113 8 := hc_followPath hs_followPath_P
