/-! The class's isOnPath, addToPath, followPath, exactly. -/
def xPV (M : Nat → mq_C) (v : List Int) : Prop := hv M 8 10 = (v.length : Int) ∧ ∀ j, j < v.length → hv M 42 j = v.getD j 0
def xOn (on : Int → List Int) (M : Nat → mq_C) : Prop := ∀ s : Nat, s < 4 → (hv M (47 + 11 * s) 2 = 0 → on (s : Int) = []) ∧ (¬ hv M (47 + 11 * s) 2 = 0 → hv M (49 + 11 * s) 2 = ((on (s : Int)).length : Int) ∧ ∀ i, i < (on (s : Int)).length → hv M (50 + 11 * s) i = (on (s : Int)).getD i 0)
theorem hp_FPc {M M' : Nat → mq_C} (h : hp_FP M M') {b : Nat} (h8 : b ≠ 8) (h42 : b ≠ 42) : M' b = M b := by
  refine h.1 b ?_
  simp only [List.elem_eq_mem, decide_eq_false_iff_not, List.mem_cons, List.not_mem_nil, or_false]
  omega
theorem xOn_c {on : Int → List Int} {M M' : Nat → mq_C} (h : ∀ b, 47 ≤ b → b ≤ 90 → M' b = M b) (g : xOn on M) : xOn on M' := by
  intro s hs
  have g := g s hs
  have e1 := fun i => hb_vc (h (47 + 11 * s) (by omega) (by omega)) i
  have e2 := fun i => hb_vc (h (49 + 11 * s) (by omega) (by omega)) i
  have e3 := fun i => hb_vc (h (50 + 11 * s) (by omega) (by omega)) i
  refine ⟨fun q => g.1 ((e1 2).symm.trans q), fun q => ?_⟩
  obtain ⟨g1, g2⟩ := g.2 (fun p => q ((e1 2).trans p))
  exact ⟨(e2 2).trans g1, fun i hi => (e3 i).trans (g2 i hi)⟩
theorem xOn_p {on : Int → List Int} {M M' : Nat → mq_C} (h : hp_FP M M') (g : xOn on M) : xOn on M' := xOn_c (fun b p q => hp_FPc h (by omega) (by omega)) g
theorem xq_on1 {d z u : Nat} {M : Nat → mq_C} {Q : (Option Value ⊕ Nat) → mq_S → Prop} {x1 : Int32} {v : List Int} (hm : mz_sh mz_GG M) (hP : xPV M v) (hv4 : v.length ≤ 4) (K1 : ∀ r : Int32, r.toInt = 1 → v.elem x1.toInt = true → Q (.inl (some (.int r))) (M, z, u)) (K0 : ∀ r : Int32, r.toInt = 0 → ¬ v.elem x1.toInt = true → Q (.inl (some (.int r))) (M, z, u)) : ∀ (m : Nat) (x2 : Int32), (m : Int) + x2.toInt = 5 → 0 ≤ x2.toInt → (∀ j : Nat, (j : Int) < x2.toInt → ¬ v.getD j 0 = x1.toInt) → x2.toInt ≤ (v.length : Int) → mq_R mq_PP d 30 2 [some (.ref 8), some (.int x1), some (.int x2)] [] (M, z, u) Q := by
  obtain ⟨hP1, hP2⟩ := hP
  intro m
  induction m with
  | zero =>
    intro x2 e1 e2 hn hl
    omega
  | succ m ih =>
    intro x2 e1 e2 hn hl
    refine he_iload (n := 3) (i := 2) (by decide +kernel) rfl ?_
    refine he_aload (n := 4) (i := 0) (by decide +kernel) rfl ?_
    refine hb_gfd (n := 7) (ci := 0) (j := 10) (ns := [2087, 58]) hm (by decide +kernel) rfl rfl (by decide) rfl ?_
    intro v4 hv4 lv4 uv4
    by_cases h7 : v4.toInt ≤ x2.toInt
    · skip
      refine he_cmpge_t (n := 10) (t := 28) (by decide +kernel) (by omega) ?_
      refine he_iconst (n := 29) (c := 0) (by decide +kernel) (by decide) ?_
      intro c28 hc28
      refine he_retz (by decide +kernel) (by omega) ?_
      refine K0 _ (by omega) (fun h => ?_)
      obtain ⟨j, hj, e⟩ := xo_mg h
      exact hn j (by omega) e
    · skip
      refine he_cmpge_f (n := 10) (t := 28) (by decide +kernel) (by omega) ?_
      refine he_aload (n := 11) (i := 0) (by decide +kernel) rfl ?_
      refine he_getr (n := 14) (ci := 0) (j := 9) (ns := [2086, 55]) (b := 42) hm (by decide +kernel) rfl rfl (by decide +kernel) ?_
      refine he_iload (n := 15) (i := 2) (by decide +kernel) rfl ?_
      refine hb_ld (n := 16) (kind := 64) hm (by decide +kernel) rfl rfl (.inl rfl) (by omega) (show _ < (4 : Int) by omega) hb_at1 ?_
      intro v15 hv15 lv15 uv15
      refine he_iload (n := 17) (i := 1) (by decide +kernel) rfl ?_
      have q15 : v.getD x2.toInt.toNat 0 = v15.toInt := by rw [← hv15]; exact (hP2 _ (by omega)).symm
      by_cases h17 : v15.toInt = x1.toInt
      · skip
        refine he_cmpne_f (n := 20) (t := 22) (by decide +kernel) (by omega) ?_
        refine he_iconst (n := 21) (c := 1) (by decide +kernel) (by decide) ?_
        intro c20 hc20
        refine he_retz (by decide +kernel) (by omega) ?_
        exact K1 _ (by omega) (xo_gme (j := x2.toInt.toNat) (by omega) (q15.trans h17))
      · skip
        refine he_cmpne_t (n := 20) (t := 22) (by decide +kernel) (by omega) ?_
        refine he_iinc (n := 25) (i := 2) (c := 1) (L' := fun v => [some (.ref (8)), some (.int x1), some (.int v)]) (by decide +kernel) (by decide) rfl (fun _ => rfl) (by omega) (by omega) ?_
        intro i22 hi22
        refine he_goto (t := 2) (by decide +kernel) ?_
        refine ih i22 (by omega) (by omega) ?_ (by omega)
        intro j hj
        by_cases e : (j : Int) = x2.toInt
        · rw [show j = x2.toInt.toNat by omega, q15]
          exact h17
        · exact hn j (by omega)
theorem xq_on {d z u : Nat} {M : Nat → mq_C} {Q : (Option Value ⊕ Nat) → mq_S → Prop} {x1 : Int32} {v : List Int} (hm : mz_sh mz_GG M) (hP : xPV M v) (hv4 : v.length ≤ 4) (K1 : ∀ r : Int32, r.toInt = 1 → v.elem x1.toInt = true → Q (.inl (some (.int r))) (M, z, u)) (K0 : ∀ r : Int32, r.toInt = 0 → ¬ v.elem x1.toInt = true → Q (.inl (some (.int r))) (M, z, u)) : mq_R mq_PP d 30 0 [some (.ref 8), some (.int x1), none] [] (M, z, u) Q := by
  refine he_iconst (n := 1) (c := 0) (by decide +kernel) (by decide) ?_
  intro c0 hc0
  refine he_istore (n := 2) (i := 2) (by decide +kernel) rfl ?_
  exact xq_on1 hm hP hv4 K1 K0 5 c0 (by omega) (by omega) (fun j hj => by omega) (by omega)
theorem xq_lp47 {d z u : Nat} {Q : (Option Value ⊕ Nat) → mq_S → Prop} {M0 : Nat → mq_C} {on : Int → List Int} {x1 x2 : Int32} {v0 : List Int} (ho : xon on) (hvv : xgv v0) (p1 : 0 ≤ x2.toInt) (p2 : x2.toInt ≤ 3) (pv : x2.toInt + 1 ≤ (v0.length : Int))
    (H : ∀ (Q' : (Option Value ⊕ Nat) → mq_S → Prop) (M : Nat → mq_C) (x y : Int32) (v : List Int), y.toInt = x2.toInt + 1 → mz_sh mz_GG M → xOn on M → xPV M v → xgv v → y.toInt ≤ (v.length : Int) → 0 ≤ x.toInt → x.toInt ≤ 3 → (∀ M', mz_sh mz_GG M' → hp_FP M M' → xPV M' (xpt on [x.toInt] v) → Q' (.inl none) (M', z, u)) → mq_R mq_PP d 29 0 [some (.ref 8), some (.int x), some (.int y), none, none] [] (M, z, u) Q')
    (K : ∀ M', mz_sh mz_GG M' → hp_FP M0 M' → xPV M' (xpt on (on 0) v0) → Q (.inl none) (M', z, u)) :
    ∀ (m : Nat) (M : Nat → mq_C) (x4 : Int32) (i : Nat), i + m = (on 0).length → x4.toInt = (i : Int) → mz_sh mz_GG M → xOn on M → ¬ hv M 47 2 = 0 → xPV M (xpt on ((on 0).take i) v0) → hp_FP M0 M → mq_R mq_PP (d + 1) 29 52 [some (.ref 8), some (.int x1), some (.int x2), some (.ref 47), some (.int x4)] [] (M, z, u) Q := by
  intro m
  have h4 := ho 0 (by decide) (by decide)
  have h4l := h4.1
  induction m with
  | zero =>
    intro M x4 i e1 e2 hm hO hrd hp hf
    have hO2 := (hO 0 (by decide)).2 hrd
    refine he_iload (n := 54) (i := 4) (by decide +kernel) rfl ?_
    refine he_aload (n := 55) (i := 3) (by decide +kernel) rfl ?_
    refine he_getr (n := 58) (ci := 1) (j := 3) (ns := [1223, 238]) (b := 49) hm (by decide +kernel) rfl rfl (by decide +kernel) ?_
    refine hb_gfd (n := 61) (ci := 7) (j := 2) (ns := [1193, 242]) hm (by decide +kernel) rfl rfl (by decide) rfl ?_
    intro v58 hv58 lv58 uv58
    have q58 : v58.toInt = ((on 0).length : Int) := by rw [← hv58]; exact hO2.1
    have h61 : v58.toInt ≤ x4.toInt := by omega
    refine he_cmpge_t (n := 64) (t := 87) (by decide +kernel) (by omega) ?_
    refine he_ret (by decide +kernel) ?_
    rw [List.take_of_length_le (by omega)] at hp
    exact K M hm hf hp
  | succ m ih =>
    intro M x4 i e1 e2 hm hO hrd hp hf
    have hO2 := (hO 0 (by decide)).2 hrd
    refine he_iload (n := 54) (i := 4) (by decide +kernel) rfl ?_
    refine he_aload (n := 55) (i := 3) (by decide +kernel) rfl ?_
    refine he_getr (n := 58) (ci := 1) (j := 3) (ns := [1223, 238]) (b := 49) hm (by decide +kernel) rfl rfl (by decide +kernel) ?_
    refine hb_gfd (n := 61) (ci := 7) (j := 2) (ns := [1193, 242]) hm (by decide +kernel) rfl rfl (by decide) rfl ?_
    intro v58 hv58 lv58 uv58
    have q58 : v58.toInt = ((on 0).length : Int) := by rw [← hv58]; exact hO2.1
    refine he_cmpge_f (n := 64) (t := 87) (by decide +kernel) (by omega) ?_
    refine he_aload (n := 65) (i := 0) (by decide +kernel) rfl ?_
    refine he_aload (n := 66) (i := 3) (by decide +kernel) rfl ?_
    refine he_getr (n := 69) (ci := 1) (j := 3) (ns := [1223, 238]) (b := 49) hm (by decide +kernel) rfl rfl (by decide +kernel) ?_
    refine he_getr (n := 72) (ci := 7) (j := 1) (ns := [1191, 245]) (b := 50) hm (by decide +kernel) rfl rfl (by decide +kernel) ?_
    refine he_iload (n := 74) (i := 4) (by decide +kernel) rfl ?_
    refine hb_ld (n := 75) (kind := 64) hm (by decide +kernel) rfl rfl (.inl rfl) (by omega) (show _ < (4 : Int) by omega) hb_at1 ?_
    intro v74 hv74 lv74 uv74
    refine he_iload (n := 76) (i := 2) (by decide +kernel) rfl ?_
    refine he_iconst (n := 77) (c := 1) (by decide +kernel) (by decide) ?_
    intro c76 hc76
    refine he_iadd (n := 78) (by decide +kernel) (by omega) (by omega) ?_
    intro v77 hv77
    have q74 : v74.toInt = (on 0).getD i 0 := by rw [← hv74, show x4.toInt.toNat = i by omega]; exact hO2.2 i (show i < (on 0).length by omega)
    have hx := h4.2 _ (xo_gdm (v := on 0) (j := i) (by omega))
    rw [← q74] at hx
    have hgv := xpt_gv ho hvv (xin_tk (i := i) h4.2)
    refine he_v2 (n := 81) (j := 29) (ci := 0) (mx := 5) (ns := [3132, 3134, 31, 232]) (by decide +kernel) ((hb_kd (a := 8) hm rfl).trans rfl) (by decide) (by show 3 ≤ 5; omega) ?_
    rw [mq_e29]
    refine H _ M v74 v77 _ (by omega) hm hO hp hgv.1 (by omega) (by omega) (by omega) ?_
    intro M' hm' hf' hp'
    show mq_R mq_PP (d + 1) 29 81 _ [] (M', z, u) Q
    refine he_iinc (n := 84) (i := 4) (c := 1) (L' := fun v => [some (.ref (8)), some (.int x1), some (.int x2), some (.ref (47)), some (.int v)]) (by decide +kernel) (by decide) rfl (fun _ => rfl) (by omega) (by omega) ?_
    intro i81 hi81
    refine he_goto (t := 52) (by decide +kernel) ?_
    refine ih M' i81 (i + 1) (by omega) (by omega) hm' (xOn_p hf' hO) (by rw [hb_vc (hp_FPc hf' (by decide) (by decide))]; exact hrd) ?_ (hp_FPt hf hf')
    rw [xo_tk (by omega), xpt_app' ho hvv (xin_tk h4.2) (xin1 (by rw [← q74]; omega) (by rw [← q74]; omega)) (by rw [List.length_take]; omega) (by show 1 ≤ 20; decide), ← q74]
    exact hp'
theorem xq_lp58 {d z u : Nat} {Q : (Option Value ⊕ Nat) → mq_S → Prop} {M0 : Nat → mq_C} {on : Int → List Int} {x1 x2 : Int32} {v0 : List Int} (ho : xon on) (hvv : xgv v0) (p1 : 0 ≤ x2.toInt) (p2 : x2.toInt ≤ 3) (pv : x2.toInt + 1 ≤ (v0.length : Int))
    (H : ∀ (Q' : (Option Value ⊕ Nat) → mq_S → Prop) (M : Nat → mq_C) (x y : Int32) (v : List Int), y.toInt = x2.toInt + 1 → mz_sh mz_GG M → xOn on M → xPV M v → xgv v → y.toInt ≤ (v.length : Int) → 0 ≤ x.toInt → x.toInt ≤ 3 → (∀ M', mz_sh mz_GG M' → hp_FP M M' → xPV M' (xpt on [x.toInt] v) → Q' (.inl none) (M', z, u)) → mq_R mq_PP d 29 0 [some (.ref 8), some (.int x), some (.int y), none, none] [] (M, z, u) Q')
    (K : ∀ M', mz_sh mz_GG M' → hp_FP M0 M' → xPV M' (xpt on (on 1) v0) → Q (.inl none) (M', z, u)) :
    ∀ (m : Nat) (M : Nat → mq_C) (x4 : Int32) (i : Nat), i + m = (on 1).length → x4.toInt = (i : Int) → mz_sh mz_GG M → xOn on M → ¬ hv M 58 2 = 0 → xPV M (xpt on ((on 1).take i) v0) → hp_FP M0 M → mq_R mq_PP (d + 1) 29 52 [some (.ref 8), some (.int x1), some (.int x2), some (.ref 58), some (.int x4)] [] (M, z, u) Q := by
  intro m
  have h4 := ho 1 (by decide) (by decide)
  have h4l := h4.1
  induction m with
  | zero =>
    intro M x4 i e1 e2 hm hO hrd hp hf
    have hO2 := (hO 1 (by decide)).2 hrd
    refine he_iload (n := 54) (i := 4) (by decide +kernel) rfl ?_
    refine he_aload (n := 55) (i := 3) (by decide +kernel) rfl ?_
    refine he_getr (n := 58) (ci := 1) (j := 3) (ns := [1223, 238]) (b := 60) hm (by decide +kernel) rfl rfl (by decide +kernel) ?_
    refine hb_gfd (n := 61) (ci := 7) (j := 2) (ns := [1193, 242]) hm (by decide +kernel) rfl rfl (by decide) rfl ?_
    intro v58 hv58 lv58 uv58
    have q58 : v58.toInt = ((on 1).length : Int) := by rw [← hv58]; exact hO2.1
    have h61 : v58.toInt ≤ x4.toInt := by omega
    refine he_cmpge_t (n := 64) (t := 87) (by decide +kernel) (by omega) ?_
    refine he_ret (by decide +kernel) ?_
    rw [List.take_of_length_le (by omega)] at hp
    exact K M hm hf hp
  | succ m ih =>
    intro M x4 i e1 e2 hm hO hrd hp hf
    have hO2 := (hO 1 (by decide)).2 hrd
    refine he_iload (n := 54) (i := 4) (by decide +kernel) rfl ?_
    refine he_aload (n := 55) (i := 3) (by decide +kernel) rfl ?_
    refine he_getr (n := 58) (ci := 1) (j := 3) (ns := [1223, 238]) (b := 60) hm (by decide +kernel) rfl rfl (by decide +kernel) ?_
    refine hb_gfd (n := 61) (ci := 7) (j := 2) (ns := [1193, 242]) hm (by decide +kernel) rfl rfl (by decide) rfl ?_
    intro v58 hv58 lv58 uv58
    have q58 : v58.toInt = ((on 1).length : Int) := by rw [← hv58]; exact hO2.1
    refine he_cmpge_f (n := 64) (t := 87) (by decide +kernel) (by omega) ?_
    refine he_aload (n := 65) (i := 0) (by decide +kernel) rfl ?_
    refine he_aload (n := 66) (i := 3) (by decide +kernel) rfl ?_
    refine he_getr (n := 69) (ci := 1) (j := 3) (ns := [1223, 238]) (b := 60) hm (by decide +kernel) rfl rfl (by decide +kernel) ?_
    refine he_getr (n := 72) (ci := 7) (j := 1) (ns := [1191, 245]) (b := 61) hm (by decide +kernel) rfl rfl (by decide +kernel) ?_
    refine he_iload (n := 74) (i := 4) (by decide +kernel) rfl ?_
    refine hb_ld (n := 75) (kind := 64) hm (by decide +kernel) rfl rfl (.inl rfl) (by omega) (show _ < (4 : Int) by omega) hb_at1 ?_
    intro v74 hv74 lv74 uv74
    refine he_iload (n := 76) (i := 2) (by decide +kernel) rfl ?_
    refine he_iconst (n := 77) (c := 1) (by decide +kernel) (by decide) ?_
    intro c76 hc76
    refine he_iadd (n := 78) (by decide +kernel) (by omega) (by omega) ?_
    intro v77 hv77
    have q74 : v74.toInt = (on 1).getD i 0 := by rw [← hv74, show x4.toInt.toNat = i by omega]; exact hO2.2 i (show i < (on 1).length by omega)
    have hx := h4.2 _ (xo_gdm (v := on 1) (j := i) (by omega))
    rw [← q74] at hx
    have hgv := xpt_gv ho hvv (xin_tk (i := i) h4.2)
    refine he_v2 (n := 81) (j := 29) (ci := 0) (mx := 5) (ns := [3132, 3134, 31, 232]) (by decide +kernel) ((hb_kd (a := 8) hm rfl).trans rfl) (by decide) (by show 3 ≤ 5; omega) ?_
    rw [mq_e29]
    refine H _ M v74 v77 _ (by omega) hm hO hp hgv.1 (by omega) (by omega) (by omega) ?_
    intro M' hm' hf' hp'
    show mq_R mq_PP (d + 1) 29 81 _ [] (M', z, u) Q
    refine he_iinc (n := 84) (i := 4) (c := 1) (L' := fun v => [some (.ref (8)), some (.int x1), some (.int x2), some (.ref (58)), some (.int v)]) (by decide +kernel) (by decide) rfl (fun _ => rfl) (by omega) (by omega) ?_
    intro i81 hi81
    refine he_goto (t := 52) (by decide +kernel) ?_
    refine ih M' i81 (i + 1) (by omega) (by omega) hm' (xOn_p hf' hO) (by rw [hb_vc (hp_FPc hf' (by decide) (by decide))]; exact hrd) ?_ (hp_FPt hf hf')
    rw [xo_tk (by omega), xpt_app' ho hvv (xin_tk h4.2) (xin1 (by rw [← q74]; omega) (by rw [← q74]; omega)) (by rw [List.length_take]; omega) (by show 1 ≤ 20; decide), ← q74]
    exact hp'
theorem xq_lp69 {d z u : Nat} {Q : (Option Value ⊕ Nat) → mq_S → Prop} {M0 : Nat → mq_C} {on : Int → List Int} {x1 x2 : Int32} {v0 : List Int} (ho : xon on) (hvv : xgv v0) (p1 : 0 ≤ x2.toInt) (p2 : x2.toInt ≤ 3) (pv : x2.toInt + 1 ≤ (v0.length : Int))
    (H : ∀ (Q' : (Option Value ⊕ Nat) → mq_S → Prop) (M : Nat → mq_C) (x y : Int32) (v : List Int), y.toInt = x2.toInt + 1 → mz_sh mz_GG M → xOn on M → xPV M v → xgv v → y.toInt ≤ (v.length : Int) → 0 ≤ x.toInt → x.toInt ≤ 3 → (∀ M', mz_sh mz_GG M' → hp_FP M M' → xPV M' (xpt on [x.toInt] v) → Q' (.inl none) (M', z, u)) → mq_R mq_PP d 29 0 [some (.ref 8), some (.int x), some (.int y), none, none] [] (M, z, u) Q')
    (K : ∀ M', mz_sh mz_GG M' → hp_FP M0 M' → xPV M' (xpt on (on 2) v0) → Q (.inl none) (M', z, u)) :
    ∀ (m : Nat) (M : Nat → mq_C) (x4 : Int32) (i : Nat), i + m = (on 2).length → x4.toInt = (i : Int) → mz_sh mz_GG M → xOn on M → ¬ hv M 69 2 = 0 → xPV M (xpt on ((on 2).take i) v0) → hp_FP M0 M → mq_R mq_PP (d + 1) 29 52 [some (.ref 8), some (.int x1), some (.int x2), some (.ref 69), some (.int x4)] [] (M, z, u) Q := by
  intro m
  have h4 := ho 2 (by decide) (by decide)
  have h4l := h4.1
  induction m with
  | zero =>
    intro M x4 i e1 e2 hm hO hrd hp hf
    have hO2 := (hO 2 (by decide)).2 hrd
    refine he_iload (n := 54) (i := 4) (by decide +kernel) rfl ?_
    refine he_aload (n := 55) (i := 3) (by decide +kernel) rfl ?_
    refine he_getr (n := 58) (ci := 1) (j := 3) (ns := [1223, 238]) (b := 71) hm (by decide +kernel) rfl rfl (by decide +kernel) ?_
    refine hb_gfd (n := 61) (ci := 7) (j := 2) (ns := [1193, 242]) hm (by decide +kernel) rfl rfl (by decide) rfl ?_
    intro v58 hv58 lv58 uv58
    have q58 : v58.toInt = ((on 2).length : Int) := by rw [← hv58]; exact hO2.1
    have h61 : v58.toInt ≤ x4.toInt := by omega
    refine he_cmpge_t (n := 64) (t := 87) (by decide +kernel) (by omega) ?_
    refine he_ret (by decide +kernel) ?_
    rw [List.take_of_length_le (by omega)] at hp
    exact K M hm hf hp
  | succ m ih =>
    intro M x4 i e1 e2 hm hO hrd hp hf
    have hO2 := (hO 2 (by decide)).2 hrd
    refine he_iload (n := 54) (i := 4) (by decide +kernel) rfl ?_
    refine he_aload (n := 55) (i := 3) (by decide +kernel) rfl ?_
    refine he_getr (n := 58) (ci := 1) (j := 3) (ns := [1223, 238]) (b := 71) hm (by decide +kernel) rfl rfl (by decide +kernel) ?_
    refine hb_gfd (n := 61) (ci := 7) (j := 2) (ns := [1193, 242]) hm (by decide +kernel) rfl rfl (by decide) rfl ?_
    intro v58 hv58 lv58 uv58
    have q58 : v58.toInt = ((on 2).length : Int) := by rw [← hv58]; exact hO2.1
    refine he_cmpge_f (n := 64) (t := 87) (by decide +kernel) (by omega) ?_
    refine he_aload (n := 65) (i := 0) (by decide +kernel) rfl ?_
    refine he_aload (n := 66) (i := 3) (by decide +kernel) rfl ?_
    refine he_getr (n := 69) (ci := 1) (j := 3) (ns := [1223, 238]) (b := 71) hm (by decide +kernel) rfl rfl (by decide +kernel) ?_
    refine he_getr (n := 72) (ci := 7) (j := 1) (ns := [1191, 245]) (b := 72) hm (by decide +kernel) rfl rfl (by decide +kernel) ?_
    refine he_iload (n := 74) (i := 4) (by decide +kernel) rfl ?_
    refine hb_ld (n := 75) (kind := 64) hm (by decide +kernel) rfl rfl (.inl rfl) (by omega) (show _ < (4 : Int) by omega) hb_at1 ?_
    intro v74 hv74 lv74 uv74
    refine he_iload (n := 76) (i := 2) (by decide +kernel) rfl ?_
    refine he_iconst (n := 77) (c := 1) (by decide +kernel) (by decide) ?_
    intro c76 hc76
    refine he_iadd (n := 78) (by decide +kernel) (by omega) (by omega) ?_
    intro v77 hv77
    have q74 : v74.toInt = (on 2).getD i 0 := by rw [← hv74, show x4.toInt.toNat = i by omega]; exact hO2.2 i (show i < (on 2).length by omega)
    have hx := h4.2 _ (xo_gdm (v := on 2) (j := i) (by omega))
    rw [← q74] at hx
    have hgv := xpt_gv ho hvv (xin_tk (i := i) h4.2)
    refine he_v2 (n := 81) (j := 29) (ci := 0) (mx := 5) (ns := [3132, 3134, 31, 232]) (by decide +kernel) ((hb_kd (a := 8) hm rfl).trans rfl) (by decide) (by show 3 ≤ 5; omega) ?_
    rw [mq_e29]
    refine H _ M v74 v77 _ (by omega) hm hO hp hgv.1 (by omega) (by omega) (by omega) ?_
    intro M' hm' hf' hp'
    show mq_R mq_PP (d + 1) 29 81 _ [] (M', z, u) Q
    refine he_iinc (n := 84) (i := 4) (c := 1) (L' := fun v => [some (.ref (8)), some (.int x1), some (.int x2), some (.ref (69)), some (.int v)]) (by decide +kernel) (by decide) rfl (fun _ => rfl) (by omega) (by omega) ?_
    intro i81 hi81
    refine he_goto (t := 52) (by decide +kernel) ?_
    refine ih M' i81 (i + 1) (by omega) (by omega) hm' (xOn_p hf' hO) (by rw [hb_vc (hp_FPc hf' (by decide) (by decide))]; exact hrd) ?_ (hp_FPt hf hf')
    rw [xo_tk (by omega), xpt_app' ho hvv (xin_tk h4.2) (xin1 (by rw [← q74]; omega) (by rw [← q74]; omega)) (by rw [List.length_take]; omega) (by show 1 ≤ 20; decide), ← q74]
    exact hp'
theorem xq_lp80 {d z u : Nat} {Q : (Option Value ⊕ Nat) → mq_S → Prop} {M0 : Nat → mq_C} {on : Int → List Int} {x1 x2 : Int32} {v0 : List Int} (ho : xon on) (hvv : xgv v0) (p1 : 0 ≤ x2.toInt) (p2 : x2.toInt ≤ 3) (pv : x2.toInt + 1 ≤ (v0.length : Int))
    (H : ∀ (Q' : (Option Value ⊕ Nat) → mq_S → Prop) (M : Nat → mq_C) (x y : Int32) (v : List Int), y.toInt = x2.toInt + 1 → mz_sh mz_GG M → xOn on M → xPV M v → xgv v → y.toInt ≤ (v.length : Int) → 0 ≤ x.toInt → x.toInt ≤ 3 → (∀ M', mz_sh mz_GG M' → hp_FP M M' → xPV M' (xpt on [x.toInt] v) → Q' (.inl none) (M', z, u)) → mq_R mq_PP d 29 0 [some (.ref 8), some (.int x), some (.int y), none, none] [] (M, z, u) Q')
    (K : ∀ M', mz_sh mz_GG M' → hp_FP M0 M' → xPV M' (xpt on (on 3) v0) → Q (.inl none) (M', z, u)) :
    ∀ (m : Nat) (M : Nat → mq_C) (x4 : Int32) (i : Nat), i + m = (on 3).length → x4.toInt = (i : Int) → mz_sh mz_GG M → xOn on M → ¬ hv M 80 2 = 0 → xPV M (xpt on ((on 3).take i) v0) → hp_FP M0 M → mq_R mq_PP (d + 1) 29 52 [some (.ref 8), some (.int x1), some (.int x2), some (.ref 80), some (.int x4)] [] (M, z, u) Q := by
  intro m
  have h4 := ho 3 (by decide) (by decide)
  have h4l := h4.1
  induction m with
  | zero =>
    intro M x4 i e1 e2 hm hO hrd hp hf
    have hO2 := (hO 3 (by decide)).2 hrd
    refine he_iload (n := 54) (i := 4) (by decide +kernel) rfl ?_
    refine he_aload (n := 55) (i := 3) (by decide +kernel) rfl ?_
    refine he_getr (n := 58) (ci := 1) (j := 3) (ns := [1223, 238]) (b := 82) hm (by decide +kernel) rfl rfl (by decide +kernel) ?_
    refine hb_gfd (n := 61) (ci := 7) (j := 2) (ns := [1193, 242]) hm (by decide +kernel) rfl rfl (by decide) rfl ?_
    intro v58 hv58 lv58 uv58
    have q58 : v58.toInt = ((on 3).length : Int) := by rw [← hv58]; exact hO2.1
    have h61 : v58.toInt ≤ x4.toInt := by omega
    refine he_cmpge_t (n := 64) (t := 87) (by decide +kernel) (by omega) ?_
    refine he_ret (by decide +kernel) ?_
    rw [List.take_of_length_le (by omega)] at hp
    exact K M hm hf hp
  | succ m ih =>
    intro M x4 i e1 e2 hm hO hrd hp hf
    have hO2 := (hO 3 (by decide)).2 hrd
    refine he_iload (n := 54) (i := 4) (by decide +kernel) rfl ?_
    refine he_aload (n := 55) (i := 3) (by decide +kernel) rfl ?_
    refine he_getr (n := 58) (ci := 1) (j := 3) (ns := [1223, 238]) (b := 82) hm (by decide +kernel) rfl rfl (by decide +kernel) ?_
    refine hb_gfd (n := 61) (ci := 7) (j := 2) (ns := [1193, 242]) hm (by decide +kernel) rfl rfl (by decide) rfl ?_
    intro v58 hv58 lv58 uv58
    have q58 : v58.toInt = ((on 3).length : Int) := by rw [← hv58]; exact hO2.1
    refine he_cmpge_f (n := 64) (t := 87) (by decide +kernel) (by omega) ?_
    refine he_aload (n := 65) (i := 0) (by decide +kernel) rfl ?_
    refine he_aload (n := 66) (i := 3) (by decide +kernel) rfl ?_
    refine he_getr (n := 69) (ci := 1) (j := 3) (ns := [1223, 238]) (b := 82) hm (by decide +kernel) rfl rfl (by decide +kernel) ?_
    refine he_getr (n := 72) (ci := 7) (j := 1) (ns := [1191, 245]) (b := 83) hm (by decide +kernel) rfl rfl (by decide +kernel) ?_
    refine he_iload (n := 74) (i := 4) (by decide +kernel) rfl ?_
    refine hb_ld (n := 75) (kind := 64) hm (by decide +kernel) rfl rfl (.inl rfl) (by omega) (show _ < (4 : Int) by omega) hb_at1 ?_
    intro v74 hv74 lv74 uv74
    refine he_iload (n := 76) (i := 2) (by decide +kernel) rfl ?_
    refine he_iconst (n := 77) (c := 1) (by decide +kernel) (by decide) ?_
    intro c76 hc76
    refine he_iadd (n := 78) (by decide +kernel) (by omega) (by omega) ?_
    intro v77 hv77
    have q74 : v74.toInt = (on 3).getD i 0 := by rw [← hv74, show x4.toInt.toNat = i by omega]; exact hO2.2 i (show i < (on 3).length by omega)
    have hx := h4.2 _ (xo_gdm (v := on 3) (j := i) (by omega))
    rw [← q74] at hx
    have hgv := xpt_gv ho hvv (xin_tk (i := i) h4.2)
    refine he_v2 (n := 81) (j := 29) (ci := 0) (mx := 5) (ns := [3132, 3134, 31, 232]) (by decide +kernel) ((hb_kd (a := 8) hm rfl).trans rfl) (by decide) (by show 3 ≤ 5; omega) ?_
    rw [mq_e29]
    refine H _ M v74 v77 _ (by omega) hm hO hp hgv.1 (by omega) (by omega) (by omega) ?_
    intro M' hm' hf' hp'
    show mq_R mq_PP (d + 1) 29 81 _ [] (M', z, u) Q
    refine he_iinc (n := 84) (i := 4) (c := 1) (L' := fun v => [some (.ref (8)), some (.int x1), some (.int x2), some (.ref (80)), some (.int v)]) (by decide +kernel) (by decide) rfl (fun _ => rfl) (by omega) (by omega) ?_
    intro i81 hi81
    refine he_goto (t := 52) (by decide +kernel) ?_
    refine ih M' i81 (i + 1) (by omega) (by omega) hm' (xOn_p hf' hO) (by rw [hb_vc (hp_FPc hf' (by decide) (by decide))]; exact hrd) ?_ (hp_FPt hf hf')
    rw [xo_tk (by omega), xpt_app' ho hvv (xin_tk h4.2) (xin1 (by rw [← q74]; omega) (by rw [← q74]; omega)) (by rw [List.length_take]; omega) (by show 1 ≤ 20; decide), ← q74]
    exact hp'
theorem xq_ap {z u : Nat} {on : Int → List Int} (ho : xon on) : ∀ (t d : Nat) (Q : (Option Value ⊕ Nat) → mq_S → Prop) (M : Nat → mq_C) (x1 x2 : Int32) (v : List Int), (t : Int) + x2.toInt = 4 → 0 ≤ x2.toInt → t + 2 ≤ d → mz_sh mz_GG M → xOn on M → xPV M v → xgv v → x2.toInt ≤ (v.length : Int) → 0 ≤ x1.toInt → x1.toInt ≤ 3 → (∀ M', mz_sh mz_GG M' → hp_FP M M' → xPV M' (xpt on [x1.toInt] v) → Q (.inl none) (M', z, u)) → mq_R mq_PP d 29 0 [some (.ref 8), some (.int x1), some (.int x2), none, none] [] (M, z, u) Q := by
  intro t
  induction t with
  | zero =>
    intro d Q M x1 x2 v e1 e2 e3 hm hO hp hvv hvl p1 p2 K
    rw [xpt_1in ho hvv p1 p2 (xgv_full hvv (by omega) p1 p2)] at K
    refine he_iload (n := 1) (i := 2) (by decide +kernel) rfl ?_
    refine he_iconst (n := 2) (c := 4) (by decide +kernel) (by decide) ?_
    intro c1 hc1
    refine he_cmpge_t (n := 5) (t := 13) (by decide +kernel) (by omega) ?_
    refine he_ret (by decide +kernel) ?_
    exact K M hm ⟨hb_only_r, fun _ _ => rfl⟩ hp
  | succ t ih =>
    intro d Q M x1 x2 v e1 e2 e3 hm hO hp hvv hvl p1 p2 K
    obtain ⟨d, rfl⟩ : ∃ d', d = d' + 1 := ⟨d - 1, by omega⟩
    refine he_iload (n := 1) (i := 2) (by decide +kernel) rfl ?_
    refine he_iconst (n := 2) (c := 4) (by decide +kernel) (by decide) ?_
    intro c1 hc1
    refine he_cmpge_f (n := 5) (t := 13) (by decide +kernel) (by omega) ?_
    refine he_aload (n := 6) (i := 0) (by decide +kernel) rfl ?_
    refine he_iload (n := 7) (i := 1) (by decide +kernel) rfl ?_
    refine he_v1 (n := 10) (j := 30) (ci := 0) (mx := 3) (ns := [3136, 3138, 32, 235]) (by decide +kernel) ((hb_kd (a := 8) hm rfl).trans rfl) (by decide) (by show 2 ≤ 3; omega) ?_
    rw [mq_e30]
    have hv4 : v.length ≤ 4 := hvv.1
    refine xq_on hm hp hv4 (fun r hr hin => ?_) (fun r hr hn => ?_)
    · show mq_R mq_PP (d + 1) 29 10 _ [.int r] (M, z, u) Q
      rw [xpt_1in ho hvv p1 p2 hin] at K
      refine he_ifeq_f (n := 13) (t := 14) (by decide +kernel) (by omega) ?_
      refine he_ret (by decide +kernel) ?_
      exact K M hm ⟨hb_only_r, fun _ _ => rfl⟩ hp
    · show mq_R mq_PP (d + 1) 29 10 _ [.int r] (M, z, u) Q
      rw [xpt_1out ho hvv p1 p2 hn] at K
      have hroom := xgv_room hvv p1 p2 hn
      have hgv' := xgv_add hvv p1 p2 hn
      have hl' : (v ++ [x1.toInt]).length = v.length + 1 := by rw [List.length_append]; rfl
      have hp1' := hp.1
      refine he_ifeq_t (n := 13) (t := 14) (by decide +kernel) (by omega) ?_
      refine he_aload (n := 15) (i := 0) (by decide +kernel) rfl ?_
      refine he_getr (n := 18) (ci := 0) (j := 9) (ns := [2086, 55]) (b := 42) hm (by decide +kernel) rfl rfl (by decide +kernel) ?_
      refine he_aload (n := 19) (i := 0) (by decide +kernel) rfl ?_
      refine hb_gfd (n := 22) (ci := 0) (j := 10) (ns := [2087, 58]) hm (by decide +kernel) rfl rfl (by decide) rfl ?_
      intro v19 hv19 lv19 uv19
      refine he_iload (n := 23) (i := 1) (by decide +kernel) rfl ?_
      refine hb_sta (n := 24) (kind := 64) hm (by decide +kernel) rfl rfl (.inl rfl) (by omega) (show _ < (4 : Int) by omega) ?_
      generalize hM1 : hb_set M 42 (v19.toInt.toNat) x1 = M1
      have hm1 : mz_sh mz_GG M1 := by rw [← hM1]; exact hb_set_sh hm rfl hb_at1 (by omega) (by omega)
      have eM1 : ∀ b j, b ≠ 42 ∨ j ≠ v19.toInt.toNat → hv M1 b j = hv M b j := by intro b j h; rw [← hM1]; exact hb_set_n h
      have sM1 : hv M1 42 (v19.toInt.toNat) = x1.toInt := by rw [← hM1]; exact hb_set_v hm rfl (show _ < 4 by omega)
      have wM1 : ∀ b, b ≠ 42 → M1 b = M b := by intro b h; rw [← hM1]; exact hb_set_c h
      refine he_aload (n := 25) (i := 0) (by decide +kernel) rfl ?_
      refine he_dup_r (n := 26) (by decide +kernel) ?_
      refine hb_gfd (n := 29) (ci := 0) (j := 10) (ns := [2087, 58]) hm1 (by decide +kernel) rfl rfl (by decide) rfl ?_
      intro v26 hv26 lv26 uv26
      refine he_iconst (n := 30) (c := 1) (by decide +kernel) (by decide) ?_
      intro c29 hc29
      refine he_iadd (n := 31) (by decide +kernel) (by omega) (by omega) ?_
      intro v30 hv30
      have q9 : hv M1 8 10 = hv M 8 10 := eM1 _ _ (.inl (by decide))
      refine hb_pfd (n := 34) (ci := 0) (j := 10) (t := 0) (ns := [2087, 58]) hm1 (by decide +kernel) rfl rfl (by decide) (.inl rfl) ?_
      generalize hM2 : hb_set M1 8 10 v30 = M2
      have hm2 : mz_sh mz_GG M2 := by rw [← hM2]; exact hb_set_sh hm1 rfl rfl (by omega) (by omega)
      have eM2 : ∀ b j, b ≠ 8 ∨ j ≠ 10 → hv M2 b j = hv M1 b j := by intro b j h; rw [← hM2]; exact hb_set_n h
      have sM2 : hv M2 8 10 = v30.toInt := by rw [← hM2]; exact hb_set_v hm1 rfl (by decide)
      have wM2 : ∀ b, b ≠ 8 → M2 b = M1 b := by intro b h; rw [← hM2]; exact hb_set_c h
      refine he_aload (n := 35) (i := 0) (by decide +kernel) rfl ?_
      refine he_getr (n := 38) (ci := 0) (j := 2) (ns := [2079, 25]) (b := 37) hm2 (by decide +kernel) rfl rfl (by decide +kernel) ?_
      refine he_iload (n := 39) (i := 1) (by decide +kernel) rfl ?_
      have hf2 : hp_FP M M2 := ⟨hb_only_s (hb_only_s hb_only_r (by decide) wM1) (by decide) wM2, fun i hi => by rw [eM2 _ _ (.inr hi), eM1 _ _ (.inl (by decide))]⟩
      have hp2 : xPV M2 (v ++ [x1.toInt]) := by
        refine ⟨by rw [sM2, hl']; omega, fun j hj => ?_⟩
        rw [xo_gap, eM2 _ _ (.inl (by decide))]
        by_cases e : j = v.length
        · rw [if_pos e, show j = v19.toInt.toNat by omega]
          exact sM1
        · rw [if_neg e, eM1 _ _ (.inr (by omega))]
          exact hp.2 j (by omega)
      have hO2 := xOn_p hf2 hO
      have hcase : x1.toInt = 0 ∨ x1.toInt = 1 ∨ x1.toInt = 2 ∨ x1.toInt = 3 := by omega
      rcases hcase with hc | hc | hc | hc
      · have hOc := hO2 0 (by decide)
        rw [hc] at K hp2 hgv' hl'
        refine he_aald (n := 40) (kind := 71) (b := 47) hm2 (by decide +kernel) rfl rfl (by decide) (by omega) (by rw [show x1.toInt.toNat = 0 by omega]; decide +kernel) ?_
        refine he_astore (n := 41) (i := 3) (by decide +kernel) rfl ?_
        refine he_aload (n := 42) (i := 3) (by decide +kernel) rfl ?_
        refine hb_gfd (n := 45) (ci := 1) (j := 2) (ns := [1221, 220]) hm2 (by decide +kernel) rfl rfl (by decide) rfl ?_
        intro v42 hv42 lv42 uv42
        by_cases h45 : v42.toInt = 0
        · have hno : on 0 = [] := hOc.1 (hv42.trans h45)
          rw [hno] at K
          refine he_ifne_f (n := 48) (t := 49) (by decide +kernel) (by omega) ?_
          refine he_ret (by decide +kernel) ?_
          exact K M2 hm2 hf2 hp2
        · skip
          refine he_ifne_t (n := 48) (t := 49) (by decide +kernel) (by omega) ?_
          refine he_iconst (n := 50) (c := 0) (by decide +kernel) (by decide) ?_
          intro c49 hc49
          refine he_istore (n := 52) (i := 4) (by decide +kernel) rfl ?_
          refine xq_lp47 (M0 := M) ho hgv' e2 (by omega) (by omega) ?_ K (on 0).length M2 c49 0 (by omega) (by omega) hm2 hO2 (by rw [hv42]; exact h45) hp2 hf2
          intro Q' M' x y v' hy hm' hO' hp' g' q0 q1 q2 K'
          exact ih d Q' M' x y v' (by omega) (by omega) (by omega) hm' hO' hp' g' q0 q1 q2 K'
      · have hOc := hO2 1 (by decide)
        rw [hc] at K hp2 hgv' hl'
        refine he_aald (n := 40) (kind := 71) (b := 58) hm2 (by decide +kernel) rfl rfl (by decide) (by omega) (by rw [show x1.toInt.toNat = 1 by omega]; decide +kernel) ?_
        refine he_astore (n := 41) (i := 3) (by decide +kernel) rfl ?_
        refine he_aload (n := 42) (i := 3) (by decide +kernel) rfl ?_
        refine hb_gfd (n := 45) (ci := 1) (j := 2) (ns := [1221, 220]) hm2 (by decide +kernel) rfl rfl (by decide) rfl ?_
        intro v42 hv42 lv42 uv42
        by_cases h45 : v42.toInt = 0
        · have hno : on 1 = [] := hOc.1 (hv42.trans h45)
          rw [hno] at K
          refine he_ifne_f (n := 48) (t := 49) (by decide +kernel) (by omega) ?_
          refine he_ret (by decide +kernel) ?_
          exact K M2 hm2 hf2 hp2
        · skip
          refine he_ifne_t (n := 48) (t := 49) (by decide +kernel) (by omega) ?_
          refine he_iconst (n := 50) (c := 0) (by decide +kernel) (by decide) ?_
          intro c49 hc49
          refine he_istore (n := 52) (i := 4) (by decide +kernel) rfl ?_
          refine xq_lp58 (M0 := M) ho hgv' e2 (by omega) (by omega) ?_ K (on 1).length M2 c49 0 (by omega) (by omega) hm2 hO2 (by rw [hv42]; exact h45) hp2 hf2
          intro Q' M' x y v' hy hm' hO' hp' g' q0 q1 q2 K'
          exact ih d Q' M' x y v' (by omega) (by omega) (by omega) hm' hO' hp' g' q0 q1 q2 K'
      · have hOc := hO2 2 (by decide)
        rw [hc] at K hp2 hgv' hl'
        refine he_aald (n := 40) (kind := 71) (b := 69) hm2 (by decide +kernel) rfl rfl (by decide) (by omega) (by rw [show x1.toInt.toNat = 2 by omega]; decide +kernel) ?_
        refine he_astore (n := 41) (i := 3) (by decide +kernel) rfl ?_
        refine he_aload (n := 42) (i := 3) (by decide +kernel) rfl ?_
        refine hb_gfd (n := 45) (ci := 1) (j := 2) (ns := [1221, 220]) hm2 (by decide +kernel) rfl rfl (by decide) rfl ?_
        intro v42 hv42 lv42 uv42
        by_cases h45 : v42.toInt = 0
        · have hno : on 2 = [] := hOc.1 (hv42.trans h45)
          rw [hno] at K
          refine he_ifne_f (n := 48) (t := 49) (by decide +kernel) (by omega) ?_
          refine he_ret (by decide +kernel) ?_
          exact K M2 hm2 hf2 hp2
        · skip
          refine he_ifne_t (n := 48) (t := 49) (by decide +kernel) (by omega) ?_
          refine he_iconst (n := 50) (c := 0) (by decide +kernel) (by decide) ?_
          intro c49 hc49
          refine he_istore (n := 52) (i := 4) (by decide +kernel) rfl ?_
          refine xq_lp69 (M0 := M) ho hgv' e2 (by omega) (by omega) ?_ K (on 2).length M2 c49 0 (by omega) (by omega) hm2 hO2 (by rw [hv42]; exact h45) hp2 hf2
          intro Q' M' x y v' hy hm' hO' hp' g' q0 q1 q2 K'
          exact ih d Q' M' x y v' (by omega) (by omega) (by omega) hm' hO' hp' g' q0 q1 q2 K'
      · have hOc := hO2 3 (by decide)
        rw [hc] at K hp2 hgv' hl'
        refine he_aald (n := 40) (kind := 71) (b := 80) hm2 (by decide +kernel) rfl rfl (by decide) (by omega) (by rw [show x1.toInt.toNat = 3 by omega]; decide +kernel) ?_
        refine he_astore (n := 41) (i := 3) (by decide +kernel) rfl ?_
        refine he_aload (n := 42) (i := 3) (by decide +kernel) rfl ?_
        refine hb_gfd (n := 45) (ci := 1) (j := 2) (ns := [1221, 220]) hm2 (by decide +kernel) rfl rfl (by decide) rfl ?_
        intro v42 hv42 lv42 uv42
        by_cases h45 : v42.toInt = 0
        · have hno : on 3 = [] := hOc.1 (hv42.trans h45)
          rw [hno] at K
          refine he_ifne_f (n := 48) (t := 49) (by decide +kernel) (by omega) ?_
          refine he_ret (by decide +kernel) ?_
          exact K M2 hm2 hf2 hp2
        · skip
          refine he_ifne_t (n := 48) (t := 49) (by decide +kernel) (by omega) ?_
          refine he_iconst (n := 50) (c := 0) (by decide +kernel) (by decide) ?_
          intro c49 hc49
          refine he_istore (n := 52) (i := 4) (by decide +kernel) rfl ?_
          refine xq_lp80 (M0 := M) ho hgv' e2 (by omega) (by omega) ?_ K (on 3).length M2 c49 0 (by omega) (by omega) hm2 hO2 (by rw [hv42]; exact h45) hp2 hf2
          intro Q' M' x y v' hy hm' hO' hp' g' q0 q1 q2 K'
          exact ih d Q' M' x y v' (by omega) (by omega) (by omega) hm' hO' hp' g' q0 q1 q2 K'
/-- the list of a loader's archives -/
def xAp (M : Nat → mq_C) (b : Nat) (la : List Int) : Prop := hv M b 3 = (la.length : Int) ∧ la.length ≤ 4 ∧ xin la ∧ ∀ j, j < la.length → hv M (b + 1) j = la.getD j 0
def xFP (on : Int → List Int) (cl : Int) (la : List Int) : List Int := if cl = 0 then xpt on la [] else []
theorem xq_fl91 {d z u : Nat} {Q : (Option Value ⊕ Nat) → mq_S → Prop} {M0 : Nat → mq_C} {on : Int → List Int} {la : List Int} (hd : 6 ≤ d) (ho : xon on) (hA : xAp M0 91 la) (K : ∀ M', mz_sh mz_GG M' → hp_FP M0 M' → xPV M' (xpt on la []) → Q (.inl none) (M', z, u)) :
    ∀ (m : Nat) (M : Nat → mq_C) (x2 : Int32) (i : Nat), i + m = la.length → x2.toInt = (i : Int) → mz_sh mz_GG M → xOn on M → xPV M (xpt on (la.take i) []) → hp_FP M0 M → mq_R mq_PP (d + 1) 28 15 [some (.ref 8), some (.ref 91), some (.int x2)] [] (M, z, u) Q := by
  obtain ⟨a1, a2, a3, a4⟩ := hA
  intro m
  induction m with
  | zero =>
    intro M x2 i e1 e2 hm hO hp hf
    have k1 := fun j => hb_vc (hp_FPc hf (b := 91) (by decide) (by decide)) j
    refine he_iload (n := 16) (i := 2) (by decide +kernel) rfl ?_
    refine he_aload (n := 17) (i := 1) (by decide +kernel) rfl ?_
    refine hb_gfd (n := 20) (ci := 5) (j := 3) (ns := [2029, 226]) hm (by decide +kernel) rfl rfl (by decide) rfl ?_
    intro v17 hv17 lv17 uv17
    have q17 : v17.toInt = (la.length : Int) := by rw [← hv17, k1]; exact a1
    have h20 : v17.toInt ≤ x2.toInt := by omega
    refine he_cmpge_t (n := 23) (t := 40) (by decide +kernel) (by omega) ?_
    refine he_ret (by decide +kernel) ?_
    rw [List.take_of_length_le (by omega)] at hp
    exact K M hm hf hp
  | succ m ih =>
    intro M x2 i e1 e2 hm hO hp hf
    have k1 := fun j => hb_vc (hp_FPc hf (b := 91) (by decide) (by decide)) j
    have k2 := fun j => hb_vc (hp_FPc hf (b := 92) (by decide) (by decide)) j
    refine he_iload (n := 16) (i := 2) (by decide +kernel) rfl ?_
    refine he_aload (n := 17) (i := 1) (by decide +kernel) rfl ?_
    refine hb_gfd (n := 20) (ci := 5) (j := 3) (ns := [2029, 226]) hm (by decide +kernel) rfl rfl (by decide) rfl ?_
    intro v17 hv17 lv17 uv17
    have q17 : v17.toInt = (la.length : Int) := by rw [← hv17, k1]; exact a1
    refine he_cmpge_f (n := 23) (t := 40) (by decide +kernel) (by omega) ?_
    refine he_aload (n := 24) (i := 0) (by decide +kernel) rfl ?_
    refine he_aload (n := 25) (i := 1) (by decide +kernel) rfl ?_
    refine he_getr (n := 28) (ci := 5) (j := 2) (ns := [2027, 229]) (b := 92) hm (by decide +kernel) rfl rfl (by decide +kernel) ?_
    refine he_iload (n := 29) (i := 2) (by decide +kernel) rfl ?_
    refine hb_ld (n := 30) (kind := 64) hm (by decide +kernel) rfl rfl (.inl rfl) (by omega) (show _ < (4 : Int) by omega) hb_at1 ?_
    intro v29 hv29 lv29 uv29
    refine he_iconst (n := 31) (c := 0) (by decide +kernel) (by decide) ?_
    intro c30 hc30
    have q29 : v29.toInt = la.getD i 0 := by rw [← hv29, show x2.toInt.toNat = i by omega, k2]; exact a4 i (by omega)
    have hx := a3 _ (xo_gdm (v := la) (j := i) (by omega))
    rw [← q29] at hx
    have hgv := xpt_gv ho xgv_nil (xin_tk (i := i) a3)
    refine he_v2 (n := 34) (j := 29) (ci := 0) (mx := 5) (ns := [3132, 3134, 31, 232]) (by decide +kernel) ((hb_kd (a := 8) hm rfl).trans rfl) (by decide) (by show 3 ≤ 5; omega) ?_
    rw [mq_e29]
    refine xq_ap ho 4 d _ M v29 c30 _ (by omega) (by omega) (by omega) hm hO hp hgv.1 (by omega) (by omega) (by omega) ?_
    intro M' hm' hf' hp'
    show mq_R mq_PP (d + 1) 28 34 _ [] (M', z, u) Q
    refine he_iinc (n := 37) (i := 2) (c := 1) (L' := fun v => [some (.ref (8)), some (.ref (91)), some (.int v)]) (by decide +kernel) (by decide) rfl (fun _ => rfl) (by omega) (by omega) ?_
    intro i34 hi34
    refine he_goto (t := 15) (by decide +kernel) ?_
    refine ih M' i34 (i + 1) (by omega) (by omega) hm' (xOn_p hf' hO) ?_ (hp_FPt hf hf')
    rw [xo_tk (by omega), xpt_app' ho xgv_nil (xin_tk a3) (xin1 (by rw [← q29]; omega) (by rw [← q29]; omega)) (by rw [List.length_take]; omega) (by show 1 ≤ 20; decide), ← q29]
    exact hp'
theorem xq_fp91 {d z u : Nat} {Q : (Option Value ⊕ Nat) → mq_S → Prop} {M : Nat → mq_C} {on : Int → List Int} {la : List Int} (hd : 8 ≤ d) (hm : mz_sh mz_GG M) (ho : xon on) (hO : xOn on M) (hA : xAp M 91 la) (K : ∀ M', mz_sh mz_GG M' → hp_FP M M' → xPV M' (xFP on (hv M 91 1) la) → Q (.inl none) (M', z, u)) : mq_R mq_PP d 28 0 [some (.ref 8), some (.ref 91), none] [] (M, z, u) Q := by
  obtain ⟨d, rfl⟩ : ∃ d', d = d' + 1 := ⟨d - 1, by omega⟩
  unfold xFP at K
  refine he_aload (n := 1) (i := 0) (by decide +kernel) rfl ?_
  refine he_iconst (n := 2) (c := 0) (by decide +kernel) (by decide) ?_
  intro c1 hc1
  refine hb_pfd (n := 5) (ci := 0) (j := 10) (t := 0) (ns := [2087, 58]) hm (by decide +kernel) rfl rfl (by decide) (.inl rfl) ?_
  generalize hM1 : hb_set M 8 10 c1 = M1
  have hm1 : mz_sh mz_GG M1 := by rw [← hM1]; exact hb_set_sh hm rfl rfl (by omega) (by omega)
  have eM1 : ∀ b j, b ≠ 8 ∨ j ≠ 10 → hv M1 b j = hv M b j := by intro b j h; rw [← hM1]; exact hb_set_n h
  have sM1 : hv M1 8 10 = c1.toInt := by rw [← hM1]; exact hb_set_v hm rfl (by decide)
  have wM1 : ∀ b, b ≠ 8 → M1 b = M b := by intro b h; rw [← hM1]; exact hb_set_c h
  refine he_aload (n := 6) (i := 1) (by decide +kernel) rfl ?_
  refine hb_gfd (n := 9) (ci := 5) (j := 1) (ns := [2025, 149]) hm1 (by decide +kernel) rfl rfl (by decide) rfl ?_
  intro v6 hv6 lv6 uv6
  have hf1 : hp_FP M M1 := ⟨hb_only_s hb_only_r (by decide) wM1, fun i hi => eM1 _ _ (.inr hi)⟩
  have hp1 : xPV M1 [] := ⟨by rw [sM1]; show _ = (0 : Int); omega, fun j hj => absurd hj (Nat.not_lt_zero j)⟩
  have q6 : hv M 91 1 = v6.toInt := by rw [← hv6]; exact (hb_vc (wM1 _ (by decide)) 1).symm
  rw [q6] at K
  by_cases h9 : v6.toInt = 0
  · rw [if_pos h9] at K
    refine he_ifeq_t (n := 12) (t := 13) (by decide +kernel) (by omega) ?_
    refine he_iconst (n := 14) (c := 0) (by decide +kernel) (by decide) ?_
    intro c13 hc13
    refine he_istore (n := 15) (i := 2) (by decide +kernel) rfl ?_
    exact xq_fl91 (M0 := M) (by omega) ho hA K la.length M1 c13 0 (by omega) (by omega) hm1 (xOn_p hf1 hO) hp1 hf1
  · rw [if_neg h9] at K
    refine he_ifeq_f (n := 12) (t := 13) (by decide +kernel) (by omega) ?_
    refine he_ret (by decide +kernel) ?_
    exact K M1 hm1 hf1 hp1
theorem xq_fl96 {d z u : Nat} {Q : (Option Value ⊕ Nat) → mq_S → Prop} {M0 : Nat → mq_C} {on : Int → List Int} {la : List Int} (hd : 6 ≤ d) (ho : xon on) (hA : xAp M0 96 la) (K : ∀ M', mz_sh mz_GG M' → hp_FP M0 M' → xPV M' (xpt on la []) → Q (.inl none) (M', z, u)) :
    ∀ (m : Nat) (M : Nat → mq_C) (x2 : Int32) (i : Nat), i + m = la.length → x2.toInt = (i : Int) → mz_sh mz_GG M → xOn on M → xPV M (xpt on (la.take i) []) → hp_FP M0 M → mq_R mq_PP (d + 1) 28 15 [some (.ref 8), some (.ref 96), some (.int x2)] [] (M, z, u) Q := by
  obtain ⟨a1, a2, a3, a4⟩ := hA
  intro m
  induction m with
  | zero =>
    intro M x2 i e1 e2 hm hO hp hf
    have k1 := fun j => hb_vc (hp_FPc hf (b := 96) (by decide) (by decide)) j
    refine he_iload (n := 16) (i := 2) (by decide +kernel) rfl ?_
    refine he_aload (n := 17) (i := 1) (by decide +kernel) rfl ?_
    refine hb_gfd (n := 20) (ci := 5) (j := 3) (ns := [2029, 226]) hm (by decide +kernel) rfl rfl (by decide) rfl ?_
    intro v17 hv17 lv17 uv17
    have q17 : v17.toInt = (la.length : Int) := by rw [← hv17, k1]; exact a1
    have h20 : v17.toInt ≤ x2.toInt := by omega
    refine he_cmpge_t (n := 23) (t := 40) (by decide +kernel) (by omega) ?_
    refine he_ret (by decide +kernel) ?_
    rw [List.take_of_length_le (by omega)] at hp
    exact K M hm hf hp
  | succ m ih =>
    intro M x2 i e1 e2 hm hO hp hf
    have k1 := fun j => hb_vc (hp_FPc hf (b := 96) (by decide) (by decide)) j
    have k2 := fun j => hb_vc (hp_FPc hf (b := 97) (by decide) (by decide)) j
    refine he_iload (n := 16) (i := 2) (by decide +kernel) rfl ?_
    refine he_aload (n := 17) (i := 1) (by decide +kernel) rfl ?_
    refine hb_gfd (n := 20) (ci := 5) (j := 3) (ns := [2029, 226]) hm (by decide +kernel) rfl rfl (by decide) rfl ?_
    intro v17 hv17 lv17 uv17
    have q17 : v17.toInt = (la.length : Int) := by rw [← hv17, k1]; exact a1
    refine he_cmpge_f (n := 23) (t := 40) (by decide +kernel) (by omega) ?_
    refine he_aload (n := 24) (i := 0) (by decide +kernel) rfl ?_
    refine he_aload (n := 25) (i := 1) (by decide +kernel) rfl ?_
    refine he_getr (n := 28) (ci := 5) (j := 2) (ns := [2027, 229]) (b := 97) hm (by decide +kernel) rfl rfl (by decide +kernel) ?_
    refine he_iload (n := 29) (i := 2) (by decide +kernel) rfl ?_
    refine hb_ld (n := 30) (kind := 64) hm (by decide +kernel) rfl rfl (.inl rfl) (by omega) (show _ < (4 : Int) by omega) hb_at1 ?_
    intro v29 hv29 lv29 uv29
    refine he_iconst (n := 31) (c := 0) (by decide +kernel) (by decide) ?_
    intro c30 hc30
    have q29 : v29.toInt = la.getD i 0 := by rw [← hv29, show x2.toInt.toNat = i by omega, k2]; exact a4 i (by omega)
    have hx := a3 _ (xo_gdm (v := la) (j := i) (by omega))
    rw [← q29] at hx
    have hgv := xpt_gv ho xgv_nil (xin_tk (i := i) a3)
    refine he_v2 (n := 34) (j := 29) (ci := 0) (mx := 5) (ns := [3132, 3134, 31, 232]) (by decide +kernel) ((hb_kd (a := 8) hm rfl).trans rfl) (by decide) (by show 3 ≤ 5; omega) ?_
    rw [mq_e29]
    refine xq_ap ho 4 d _ M v29 c30 _ (by omega) (by omega) (by omega) hm hO hp hgv.1 (by omega) (by omega) (by omega) ?_
    intro M' hm' hf' hp'
    show mq_R mq_PP (d + 1) 28 34 _ [] (M', z, u) Q
    refine he_iinc (n := 37) (i := 2) (c := 1) (L' := fun v => [some (.ref (8)), some (.ref (96)), some (.int v)]) (by decide +kernel) (by decide) rfl (fun _ => rfl) (by omega) (by omega) ?_
    intro i34 hi34
    refine he_goto (t := 15) (by decide +kernel) ?_
    refine ih M' i34 (i + 1) (by omega) (by omega) hm' (xOn_p hf' hO) ?_ (hp_FPt hf hf')
    rw [xo_tk (by omega), xpt_app' ho xgv_nil (xin_tk a3) (xin1 (by rw [← q29]; omega) (by rw [← q29]; omega)) (by rw [List.length_take]; omega) (by show 1 ≤ 20; decide), ← q29]
    exact hp'
theorem xq_fp96 {d z u : Nat} {Q : (Option Value ⊕ Nat) → mq_S → Prop} {M : Nat → mq_C} {on : Int → List Int} {la : List Int} (hd : 8 ≤ d) (hm : mz_sh mz_GG M) (ho : xon on) (hO : xOn on M) (hA : xAp M 96 la) (K : ∀ M', mz_sh mz_GG M' → hp_FP M M' → xPV M' (xFP on (hv M 96 1) la) → Q (.inl none) (M', z, u)) : mq_R mq_PP d 28 0 [some (.ref 8), some (.ref 96), none] [] (M, z, u) Q := by
  obtain ⟨d, rfl⟩ : ∃ d', d = d' + 1 := ⟨d - 1, by omega⟩
  unfold xFP at K
  refine he_aload (n := 1) (i := 0) (by decide +kernel) rfl ?_
  refine he_iconst (n := 2) (c := 0) (by decide +kernel) (by decide) ?_
  intro c1 hc1
  refine hb_pfd (n := 5) (ci := 0) (j := 10) (t := 0) (ns := [2087, 58]) hm (by decide +kernel) rfl rfl (by decide) (.inl rfl) ?_
  generalize hM1 : hb_set M 8 10 c1 = M1
  have hm1 : mz_sh mz_GG M1 := by rw [← hM1]; exact hb_set_sh hm rfl rfl (by omega) (by omega)
  have eM1 : ∀ b j, b ≠ 8 ∨ j ≠ 10 → hv M1 b j = hv M b j := by intro b j h; rw [← hM1]; exact hb_set_n h
  have sM1 : hv M1 8 10 = c1.toInt := by rw [← hM1]; exact hb_set_v hm rfl (by decide)
  have wM1 : ∀ b, b ≠ 8 → M1 b = M b := by intro b h; rw [← hM1]; exact hb_set_c h
  refine he_aload (n := 6) (i := 1) (by decide +kernel) rfl ?_
  refine hb_gfd (n := 9) (ci := 5) (j := 1) (ns := [2025, 149]) hm1 (by decide +kernel) rfl rfl (by decide) rfl ?_
  intro v6 hv6 lv6 uv6
  have hf1 : hp_FP M M1 := ⟨hb_only_s hb_only_r (by decide) wM1, fun i hi => eM1 _ _ (.inr hi)⟩
  have hp1 : xPV M1 [] := ⟨by rw [sM1]; show _ = (0 : Int); omega, fun j hj => absurd hj (Nat.not_lt_zero j)⟩
  have q6 : hv M 96 1 = v6.toInt := by rw [← hv6]; exact (hb_vc (wM1 _ (by decide)) 1).symm
  rw [q6] at K
  by_cases h9 : v6.toInt = 0
  · rw [if_pos h9] at K
    refine he_ifeq_t (n := 12) (t := 13) (by decide +kernel) (by omega) ?_
    refine he_iconst (n := 14) (c := 0) (by decide +kernel) (by decide) ?_
    intro c13 hc13
    refine he_istore (n := 15) (i := 2) (by decide +kernel) rfl ?_
    exact xq_fl96 (M0 := M) (by omega) ho hA K la.length M1 c13 0 (by omega) (by omega) hm1 (xOn_p hf1 hO) hp1 hf1
  · rw [if_neg h9] at K
    refine he_ifeq_f (n := 12) (t := 13) (by decide +kernel) (by omega) ?_
    refine he_ret (by decide +kernel) ?_
    exact K M1 hm1 hf1 hp1
theorem xq_fl101 {d z u : Nat} {Q : (Option Value ⊕ Nat) → mq_S → Prop} {M0 : Nat → mq_C} {on : Int → List Int} {la : List Int} (hd : 6 ≤ d) (ho : xon on) (hA : xAp M0 101 la) (K : ∀ M', mz_sh mz_GG M' → hp_FP M0 M' → xPV M' (xpt on la []) → Q (.inl none) (M', z, u)) :
    ∀ (m : Nat) (M : Nat → mq_C) (x2 : Int32) (i : Nat), i + m = la.length → x2.toInt = (i : Int) → mz_sh mz_GG M → xOn on M → xPV M (xpt on (la.take i) []) → hp_FP M0 M → mq_R mq_PP (d + 1) 28 15 [some (.ref 8), some (.ref 101), some (.int x2)] [] (M, z, u) Q := by
  obtain ⟨a1, a2, a3, a4⟩ := hA
  intro m
  induction m with
  | zero =>
    intro M x2 i e1 e2 hm hO hp hf
    have k1 := fun j => hb_vc (hp_FPc hf (b := 101) (by decide) (by decide)) j
    refine he_iload (n := 16) (i := 2) (by decide +kernel) rfl ?_
    refine he_aload (n := 17) (i := 1) (by decide +kernel) rfl ?_
    refine hb_gfd (n := 20) (ci := 5) (j := 3) (ns := [2029, 226]) hm (by decide +kernel) rfl rfl (by decide) rfl ?_
    intro v17 hv17 lv17 uv17
    have q17 : v17.toInt = (la.length : Int) := by rw [← hv17, k1]; exact a1
    have h20 : v17.toInt ≤ x2.toInt := by omega
    refine he_cmpge_t (n := 23) (t := 40) (by decide +kernel) (by omega) ?_
    refine he_ret (by decide +kernel) ?_
    rw [List.take_of_length_le (by omega)] at hp
    exact K M hm hf hp
  | succ m ih =>
    intro M x2 i e1 e2 hm hO hp hf
    have k1 := fun j => hb_vc (hp_FPc hf (b := 101) (by decide) (by decide)) j
    have k2 := fun j => hb_vc (hp_FPc hf (b := 102) (by decide) (by decide)) j
    refine he_iload (n := 16) (i := 2) (by decide +kernel) rfl ?_
    refine he_aload (n := 17) (i := 1) (by decide +kernel) rfl ?_
    refine hb_gfd (n := 20) (ci := 5) (j := 3) (ns := [2029, 226]) hm (by decide +kernel) rfl rfl (by decide) rfl ?_
    intro v17 hv17 lv17 uv17
    have q17 : v17.toInt = (la.length : Int) := by rw [← hv17, k1]; exact a1
    refine he_cmpge_f (n := 23) (t := 40) (by decide +kernel) (by omega) ?_
    refine he_aload (n := 24) (i := 0) (by decide +kernel) rfl ?_
    refine he_aload (n := 25) (i := 1) (by decide +kernel) rfl ?_
    refine he_getr (n := 28) (ci := 5) (j := 2) (ns := [2027, 229]) (b := 102) hm (by decide +kernel) rfl rfl (by decide +kernel) ?_
    refine he_iload (n := 29) (i := 2) (by decide +kernel) rfl ?_
    refine hb_ld (n := 30) (kind := 64) hm (by decide +kernel) rfl rfl (.inl rfl) (by omega) (show _ < (4 : Int) by omega) hb_at1 ?_
    intro v29 hv29 lv29 uv29
    refine he_iconst (n := 31) (c := 0) (by decide +kernel) (by decide) ?_
    intro c30 hc30
    have q29 : v29.toInt = la.getD i 0 := by rw [← hv29, show x2.toInt.toNat = i by omega, k2]; exact a4 i (by omega)
    have hx := a3 _ (xo_gdm (v := la) (j := i) (by omega))
    rw [← q29] at hx
    have hgv := xpt_gv ho xgv_nil (xin_tk (i := i) a3)
    refine he_v2 (n := 34) (j := 29) (ci := 0) (mx := 5) (ns := [3132, 3134, 31, 232]) (by decide +kernel) ((hb_kd (a := 8) hm rfl).trans rfl) (by decide) (by show 3 ≤ 5; omega) ?_
    rw [mq_e29]
    refine xq_ap ho 4 d _ M v29 c30 _ (by omega) (by omega) (by omega) hm hO hp hgv.1 (by omega) (by omega) (by omega) ?_
    intro M' hm' hf' hp'
    show mq_R mq_PP (d + 1) 28 34 _ [] (M', z, u) Q
    refine he_iinc (n := 37) (i := 2) (c := 1) (L' := fun v => [some (.ref (8)), some (.ref (101)), some (.int v)]) (by decide +kernel) (by decide) rfl (fun _ => rfl) (by omega) (by omega) ?_
    intro i34 hi34
    refine he_goto (t := 15) (by decide +kernel) ?_
    refine ih M' i34 (i + 1) (by omega) (by omega) hm' (xOn_p hf' hO) ?_ (hp_FPt hf hf')
    rw [xo_tk (by omega), xpt_app' ho xgv_nil (xin_tk a3) (xin1 (by rw [← q29]; omega) (by rw [← q29]; omega)) (by rw [List.length_take]; omega) (by show 1 ≤ 20; decide), ← q29]
    exact hp'
theorem xq_fp101 {d z u : Nat} {Q : (Option Value ⊕ Nat) → mq_S → Prop} {M : Nat → mq_C} {on : Int → List Int} {la : List Int} (hd : 8 ≤ d) (hm : mz_sh mz_GG M) (ho : xon on) (hO : xOn on M) (hA : xAp M 101 la) (K : ∀ M', mz_sh mz_GG M' → hp_FP M M' → xPV M' (xFP on (hv M 101 1) la) → Q (.inl none) (M', z, u)) : mq_R mq_PP d 28 0 [some (.ref 8), some (.ref 101), none] [] (M, z, u) Q := by
  obtain ⟨d, rfl⟩ : ∃ d', d = d' + 1 := ⟨d - 1, by omega⟩
  unfold xFP at K
  refine he_aload (n := 1) (i := 0) (by decide +kernel) rfl ?_
  refine he_iconst (n := 2) (c := 0) (by decide +kernel) (by decide) ?_
  intro c1 hc1
  refine hb_pfd (n := 5) (ci := 0) (j := 10) (t := 0) (ns := [2087, 58]) hm (by decide +kernel) rfl rfl (by decide) (.inl rfl) ?_
  generalize hM1 : hb_set M 8 10 c1 = M1
  have hm1 : mz_sh mz_GG M1 := by rw [← hM1]; exact hb_set_sh hm rfl rfl (by omega) (by omega)
  have eM1 : ∀ b j, b ≠ 8 ∨ j ≠ 10 → hv M1 b j = hv M b j := by intro b j h; rw [← hM1]; exact hb_set_n h
  have sM1 : hv M1 8 10 = c1.toInt := by rw [← hM1]; exact hb_set_v hm rfl (by decide)
  have wM1 : ∀ b, b ≠ 8 → M1 b = M b := by intro b h; rw [← hM1]; exact hb_set_c h
  refine he_aload (n := 6) (i := 1) (by decide +kernel) rfl ?_
  refine hb_gfd (n := 9) (ci := 5) (j := 1) (ns := [2025, 149]) hm1 (by decide +kernel) rfl rfl (by decide) rfl ?_
  intro v6 hv6 lv6 uv6
  have hf1 : hp_FP M M1 := ⟨hb_only_s hb_only_r (by decide) wM1, fun i hi => eM1 _ _ (.inr hi)⟩
  have hp1 : xPV M1 [] := ⟨by rw [sM1]; show _ = (0 : Int); omega, fun j hj => absurd hj (Nat.not_lt_zero j)⟩
  have q6 : hv M 101 1 = v6.toInt := by rw [← hv6]; exact (hb_vc (wM1 _ (by decide)) 1).symm
  rw [q6] at K
  by_cases h9 : v6.toInt = 0
  · rw [if_pos h9] at K
    refine he_ifeq_t (n := 12) (t := 13) (by decide +kernel) (by omega) ?_
    refine he_iconst (n := 14) (c := 0) (by decide +kernel) (by decide) ?_
    intro c13 hc13
    refine he_istore (n := 15) (i := 2) (by decide +kernel) rfl ?_
    exact xq_fl101 (M0 := M) (by omega) ho hA K la.length M1 c13 0 (by omega) (by omega) hm1 (xOn_p hf1 hO) hp1 hf1
  · rw [if_neg h9] at K
    refine he_ifeq_f (n := 12) (t := 13) (by decide +kernel) (by omega) ?_
    refine he_ret (by decide +kernel) ?_
    exact K M1 hm1 hf1 hp1
theorem xq_fl106 {d z u : Nat} {Q : (Option Value ⊕ Nat) → mq_S → Prop} {M0 : Nat → mq_C} {on : Int → List Int} {la : List Int} (hd : 6 ≤ d) (ho : xon on) (hA : xAp M0 106 la) (K : ∀ M', mz_sh mz_GG M' → hp_FP M0 M' → xPV M' (xpt on la []) → Q (.inl none) (M', z, u)) :
    ∀ (m : Nat) (M : Nat → mq_C) (x2 : Int32) (i : Nat), i + m = la.length → x2.toInt = (i : Int) → mz_sh mz_GG M → xOn on M → xPV M (xpt on (la.take i) []) → hp_FP M0 M → mq_R mq_PP (d + 1) 28 15 [some (.ref 8), some (.ref 106), some (.int x2)] [] (M, z, u) Q := by
  obtain ⟨a1, a2, a3, a4⟩ := hA
  intro m
  induction m with
  | zero =>
    intro M x2 i e1 e2 hm hO hp hf
    have k1 := fun j => hb_vc (hp_FPc hf (b := 106) (by decide) (by decide)) j
    refine he_iload (n := 16) (i := 2) (by decide +kernel) rfl ?_
    refine he_aload (n := 17) (i := 1) (by decide +kernel) rfl ?_
    refine hb_gfd (n := 20) (ci := 5) (j := 3) (ns := [2029, 226]) hm (by decide +kernel) rfl rfl (by decide) rfl ?_
    intro v17 hv17 lv17 uv17
    have q17 : v17.toInt = (la.length : Int) := by rw [← hv17, k1]; exact a1
    have h20 : v17.toInt ≤ x2.toInt := by omega
    refine he_cmpge_t (n := 23) (t := 40) (by decide +kernel) (by omega) ?_
    refine he_ret (by decide +kernel) ?_
    rw [List.take_of_length_le (by omega)] at hp
    exact K M hm hf hp
  | succ m ih =>
    intro M x2 i e1 e2 hm hO hp hf
    have k1 := fun j => hb_vc (hp_FPc hf (b := 106) (by decide) (by decide)) j
    have k2 := fun j => hb_vc (hp_FPc hf (b := 107) (by decide) (by decide)) j
    refine he_iload (n := 16) (i := 2) (by decide +kernel) rfl ?_
    refine he_aload (n := 17) (i := 1) (by decide +kernel) rfl ?_
    refine hb_gfd (n := 20) (ci := 5) (j := 3) (ns := [2029, 226]) hm (by decide +kernel) rfl rfl (by decide) rfl ?_
    intro v17 hv17 lv17 uv17
    have q17 : v17.toInt = (la.length : Int) := by rw [← hv17, k1]; exact a1
    refine he_cmpge_f (n := 23) (t := 40) (by decide +kernel) (by omega) ?_
    refine he_aload (n := 24) (i := 0) (by decide +kernel) rfl ?_
    refine he_aload (n := 25) (i := 1) (by decide +kernel) rfl ?_
    refine he_getr (n := 28) (ci := 5) (j := 2) (ns := [2027, 229]) (b := 107) hm (by decide +kernel) rfl rfl (by decide +kernel) ?_
    refine he_iload (n := 29) (i := 2) (by decide +kernel) rfl ?_
    refine hb_ld (n := 30) (kind := 64) hm (by decide +kernel) rfl rfl (.inl rfl) (by omega) (show _ < (4 : Int) by omega) hb_at1 ?_
    intro v29 hv29 lv29 uv29
    refine he_iconst (n := 31) (c := 0) (by decide +kernel) (by decide) ?_
    intro c30 hc30
    have q29 : v29.toInt = la.getD i 0 := by rw [← hv29, show x2.toInt.toNat = i by omega, k2]; exact a4 i (by omega)
    have hx := a3 _ (xo_gdm (v := la) (j := i) (by omega))
    rw [← q29] at hx
    have hgv := xpt_gv ho xgv_nil (xin_tk (i := i) a3)
    refine he_v2 (n := 34) (j := 29) (ci := 0) (mx := 5) (ns := [3132, 3134, 31, 232]) (by decide +kernel) ((hb_kd (a := 8) hm rfl).trans rfl) (by decide) (by show 3 ≤ 5; omega) ?_
    rw [mq_e29]
    refine xq_ap ho 4 d _ M v29 c30 _ (by omega) (by omega) (by omega) hm hO hp hgv.1 (by omega) (by omega) (by omega) ?_
    intro M' hm' hf' hp'
    show mq_R mq_PP (d + 1) 28 34 _ [] (M', z, u) Q
    refine he_iinc (n := 37) (i := 2) (c := 1) (L' := fun v => [some (.ref (8)), some (.ref (106)), some (.int v)]) (by decide +kernel) (by decide) rfl (fun _ => rfl) (by omega) (by omega) ?_
    intro i34 hi34
    refine he_goto (t := 15) (by decide +kernel) ?_
    refine ih M' i34 (i + 1) (by omega) (by omega) hm' (xOn_p hf' hO) ?_ (hp_FPt hf hf')
    rw [xo_tk (by omega), xpt_app' ho xgv_nil (xin_tk a3) (xin1 (by rw [← q29]; omega) (by rw [← q29]; omega)) (by rw [List.length_take]; omega) (by show 1 ≤ 20; decide), ← q29]
    exact hp'
theorem xq_fp106 {d z u : Nat} {Q : (Option Value ⊕ Nat) → mq_S → Prop} {M : Nat → mq_C} {on : Int → List Int} {la : List Int} (hd : 8 ≤ d) (hm : mz_sh mz_GG M) (ho : xon on) (hO : xOn on M) (hA : xAp M 106 la) (K : ∀ M', mz_sh mz_GG M' → hp_FP M M' → xPV M' (xFP on (hv M 106 1) la) → Q (.inl none) (M', z, u)) : mq_R mq_PP d 28 0 [some (.ref 8), some (.ref 106), none] [] (M, z, u) Q := by
  obtain ⟨d, rfl⟩ : ∃ d', d = d' + 1 := ⟨d - 1, by omega⟩
  unfold xFP at K
  refine he_aload (n := 1) (i := 0) (by decide +kernel) rfl ?_
  refine he_iconst (n := 2) (c := 0) (by decide +kernel) (by decide) ?_
  intro c1 hc1
  refine hb_pfd (n := 5) (ci := 0) (j := 10) (t := 0) (ns := [2087, 58]) hm (by decide +kernel) rfl rfl (by decide) (.inl rfl) ?_
  generalize hM1 : hb_set M 8 10 c1 = M1
  have hm1 : mz_sh mz_GG M1 := by rw [← hM1]; exact hb_set_sh hm rfl rfl (by omega) (by omega)
  have eM1 : ∀ b j, b ≠ 8 ∨ j ≠ 10 → hv M1 b j = hv M b j := by intro b j h; rw [← hM1]; exact hb_set_n h
  have sM1 : hv M1 8 10 = c1.toInt := by rw [← hM1]; exact hb_set_v hm rfl (by decide)
  have wM1 : ∀ b, b ≠ 8 → M1 b = M b := by intro b h; rw [← hM1]; exact hb_set_c h
  refine he_aload (n := 6) (i := 1) (by decide +kernel) rfl ?_
  refine hb_gfd (n := 9) (ci := 5) (j := 1) (ns := [2025, 149]) hm1 (by decide +kernel) rfl rfl (by decide) rfl ?_
  intro v6 hv6 lv6 uv6
  have hf1 : hp_FP M M1 := ⟨hb_only_s hb_only_r (by decide) wM1, fun i hi => eM1 _ _ (.inr hi)⟩
  have hp1 : xPV M1 [] := ⟨by rw [sM1]; show _ = (0 : Int); omega, fun j hj => absurd hj (Nat.not_lt_zero j)⟩
  have q6 : hv M 106 1 = v6.toInt := by rw [← hv6]; exact (hb_vc (wM1 _ (by decide)) 1).symm
  rw [q6] at K
  by_cases h9 : v6.toInt = 0
  · rw [if_pos h9] at K
    refine he_ifeq_t (n := 12) (t := 13) (by decide +kernel) (by omega) ?_
    refine he_iconst (n := 14) (c := 0) (by decide +kernel) (by decide) ?_
    intro c13 hc13
    refine he_istore (n := 15) (i := 2) (by decide +kernel) rfl ?_
    exact xq_fl106 (M0 := M) (by omega) ho hA K la.length M1 c13 0 (by omega) (by omega) hm1 (xOn_p hf1 hO) hp1 hf1
  · rw [if_neg h9] at K
    refine he_ifeq_f (n := 12) (t := 13) (by decide +kernel) (by omega) ?_
    refine he_ret (by decide +kernel) ?_
    exact K M1 hm1 hf1 hp1
