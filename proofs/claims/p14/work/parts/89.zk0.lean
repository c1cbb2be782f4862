/-! The model's inflater, exactly: bits, numbers, what it gives out. -/
/-- the model at work: all but its own cells and three of its slots stand as they stood -/
def yU (M0 M : Nat → mq_C) : Prop := mz_sh mz_GG M ∧ (∀ b, b ≠ 234 → b < 253 ∨ 257 ≤ b → M b = M0 b) ∧ ∀ j, j ≠ 23 → j ≠ 24 → j ≠ 25 → hv M 234 j = hv M0 234 j
def yV (E : Nat) (sh : Int) (M0 M : Nat → mq_C) (a : Nat) (o : List Int) : Prop := yU M0 M ∧ hv M 234 23 = (a : Int) ∧ 8 * hv M 234 21 = (E : Int) ∧ hv M 234 24 = sh ∧ a ≤ E ∧ hv M 234 25 = (o.length : Int) ∧ ∀ i, i < o.length → hv M 253 i = o.getD i 0
theorem yU_set {j : Nat} {M0 M M' : Nat → mq_C} {v : Int32} (h : yU M0 M) (hM : hb_set M 234 j v = M') (hs : mz_sh mz_GG M') (hj : j = 23 ∨ j = 24 ∨ j = 25) : yU M0 M' := by
  refine ⟨hs, fun b n1 hb => ?_, fun i n1 n2 n3 => ?_⟩
  · rw [← hM, hb_set_c n1]
    exact h.2.1 b n1 hb
  · rw [← hM]
    exact (hb_set_n (.inr (by omega))).trans (h.2.2 i n1 n2 n3)
theorem yV_at {sh : Int} {E a a' : Nat} {M0 M M' : Nat → mq_C} {o : List Int} {v : Int32} (h : yV E sh M0 M a o) (hM : hb_set M 234 23 v = M') (hs : mz_sh mz_GG M') (hv' : v.toInt = (a' : Int)) (ha : a' ≤ E) : yV E sh M0 M' a' o := by
  obtain ⟨h1, h2, h3, h4, h5, h6, h7⟩ := h
  have e : ∀ b j, b ≠ 234 ∨ j ≠ 23 → hv M' b j = hv M b j := by intro b j h; rw [← hM]; exact hb_set_n h
  refine ⟨yU_set h1 hM hs (by decide), ?_, by rw [e _ _ (.inr (by decide))]; exact h3, by rw [e _ _ (.inr (by decide))]; exact h4, ha, by rw [e _ _ (.inr (by decide))]; exact h6, fun i hi => by rw [e _ _ (.inl (by decide))]; exact h7 i hi⟩
  have t : hv (hb_set M 234 23 v) 234 23 = v.toInt := hb_set_v h1.1 rfl (by decide)
  rw [← hM, t]
  exact hv'
theorem yV_sh {sh : Int} {E a : Nat} {M0 M M' : Nat → mq_C} {o : List Int} {v : Int32} (h : yV E sh M0 M a o) (hM : hb_set M 234 24 v = M') (hs : mz_sh mz_GG M') (hv' : v.toInt = 1) : yV E 1 M0 M' a o := by
  obtain ⟨h1, h2, h3, h4, h5, h6, h7⟩ := h
  have e : ∀ b j, b ≠ 234 ∨ j ≠ 24 → hv M' b j = hv M b j := by intro b j h; rw [← hM]; exact hb_set_n h
  refine ⟨yU_set h1 hM hs (by decide), by rw [e _ _ (.inr (by decide))]; exact h2, by rw [e _ _ (.inr (by decide))]; exact h3, ?_, h5, by rw [e _ _ (.inr (by decide))]; exact h6, fun i hi => by rw [e _ _ (.inl (by decide))]; exact h7 i hi⟩
  have t : hv (hb_set M 234 24 v) 234 24 = v.toInt := hb_set_v h1.1 rfl (by decide)
  rw [← hM, t]
  exact hv'
theorem yV_app {sh : Int} {E a i : Nat} {M0 M M1 M2 : Nat → mq_C} {o : List Int} {v w : Int32} (h : yV E sh M0 M a o) (hM1 : hb_set M 253 i v = M1) (hs1 : mz_sh mz_GG M1) (hi : i = o.length) (hl : o.length < 200) (hM2 : hb_set M1 234 25 w = M2) (hs2 : mz_sh mz_GG M2) (hw : w.toInt = (o.length : Int) + 1) : yV E sh M0 M2 a (o ++ [v.toInt]) := by
  obtain ⟨h1, h2, h3, h4, h5, h6, h7⟩ := h
  have e1 : ∀ b j, b ≠ 253 ∨ j ≠ i → hv M1 b j = hv M b j := by intro b j h; rw [← hM1]; exact hb_set_n h
  have e2 : ∀ b j, b ≠ 234 ∨ j ≠ 25 → hv M2 b j = hv M1 b j := by intro b j h; rw [← hM2]; exact hb_set_n h
  have hU1 : yU M0 M1 := ⟨hs1, fun b n1 hb => by rw [← hM1, hb_set_c (by omega)]; exact h1.2.1 b n1 hb, fun j n1 n2 n3 => by rw [e1 _ _ (.inl (by decide))]; exact h1.2.2 j n1 n2 n3⟩
  refine ⟨yU_set hU1 hM2 hs2 (by decide), ?_, ?_, ?_, h5, ?_, fun j hj => ?_⟩
  · rw [e2 _ _ (.inr (by decide)), e1 _ _ (.inl (by decide))]; exact h2
  · rw [e2 _ _ (.inr (by decide)), e1 _ _ (.inl (by decide))]; exact h3
  · rw [e2 _ _ (.inr (by decide)), e1 _ _ (.inl (by decide))]; exact h4
  · have t : hv (hb_set M1 234 25 w) 234 25 = w.toInt := hb_set_v hs1 rfl (by decide)
    rw [← hM2, t, hw, List.length_append]
    rfl
  · rw [e2 _ _ (.inl (by decide))]
    rw [List.length_append] at hj
    have hj : j < o.length + 1 := hj
    by_cases ej : j = o.length
    · have t : hv (hb_set M 253 i v) 253 i = v.toInt := hb_set_v h1.1 rfl (show i < 201 by omega)
      rw [ej, xL_last, ← hi, ← hM1, t]
    · rw [e1 _ _ (.inr (by omega)), xL_get (by omega)]
      exact h7 j (by omega)
theorem xB_div {M : Nat → mq_C} {v s : Int32} {i : Nat} (h0 : 0 ≤ v.toInt) (h1 : v.toInt ≤ 255) (h2 : s.toInt = ((i % 8 : Nat) : Int)) (hv' : hv M 252 (i / 8) = v.toInt) : ((v >>> (s &&& 31)) &&& 1).toInt = xB M 252 i := by
  rw [xe_bit h0 h1 (by omega) (by omega)]
  unfold xB
  rw [hv', show s.toInt.toNat = i % 8 by omega]
theorem ym_bit {sh : Int} {d z u E a : Nat} {M0 M : Nat → mq_C} {o : List Int} {Q : (Option Value ⊕ Nat) → mq_S → Prop} (hE : E ≤ 1920) (hV : yV E sh M0 M a o)
    (K1 : ∀ (M' : Nat → mq_C) (r : Int32), a < E → yV E sh M0 M' (a + 1) o → r.toInt = xB M0 252 a → (∀ b, b ≠ 234 → M' b = M b) → Q (.inl (some (.int r))) (M', z, u))
    (K2 : ∀ (M' : Nat → mq_C) (r : Int32), ¬ a < E → yV E 1 M0 M' a o → r.toInt = 0 → (∀ b, b ≠ 234 → M' b = M b) → Q (.inl (some (.int r))) (M', z, u)) : mq_R mq_PP d 108 0 [some (.ref 234), none] [] (M, z, u) Q := by
  have vA : hv M 234 23 = (a : Int) := hV.2.1
  have vE : 8 * hv M 234 21 = (E : Int) := hV.2.2.1
  refine he_aload (n := 1) (i := 0) (by decide +kernel) rfl ?_
  refine hb_gfd (n := 4) (ci := 9) (j := 23) (ns := [4200, 129]) hV.1.1 (by decide +kernel) rfl rfl (by decide) rfl ?_
  intro v1 hv1 lv1 uv1
  refine he_iconst (n := 6) (c := 8) (by decide +kernel) (by decide) ?_
  intro c4 hc4
  refine he_aload (n := 7) (i := 0) (by decide +kernel) rfl ?_
  refine hb_gfd (n := 10) (ci := 9) (j := 21) (ns := [4198, 132]) hV.1.1 (by decide +kernel) rfl rfl (by decide) rfl ?_
  intro v7 hv7 lv7 uv7
  refine he_imul (n := 11) (p := 8 * v7.toInt) (by decide +kernel) (by rw [hc4]) (by omega) (by omega) ?_
  intro v10 hv10
  have q1 : v1.toInt = (a : Int) := by rw [← hv1]; exact vA
  have q7 : 8 * v7.toInt = (E : Int) := by rw [← hv7]; exact vE
  by_cases h11 : a < E
  · skip
    refine he_cmplt_t (n := 14) (t := 21) (by decide +kernel) (by omega) ?_
    refine he_aload (n := 22) (i := 0) (by decide +kernel) rfl ?_
    refine he_getr (n := 25) (ci := 9) (j := 22) (ns := [4199, 62]) (b := 252) hV.1.1 (by decide +kernel) rfl rfl (by decide +kernel) ?_
    refine he_aload (n := 26) (i := 0) (by decide +kernel) rfl ?_
    refine hb_gfd (n := 29) (ci := 9) (j := 23) (ns := [4200, 129]) hV.1.1 (by decide +kernel) rfl rfl (by decide) rfl ?_
    intro v26 hv26 lv26 uv26
    have q26 : v26.toInt = (a : Int) := by rw [← hv26]; exact vA
    refine he_iconst (n := 31) (c := 8) (by decide +kernel) (by decide) ?_
    intro c29 hc29
    refine xe_div (c := 8) (n := 32) (by decide +kernel) hc29 (by decide) (by omega) ?_
    intro v31 hv31
    refine hb_ld (n := 33) (kind := 64) hV.1.1 (by decide +kernel) rfl rfl (.inl rfl) (by omega) (show _ < (240 : Int) by omega) hb_at1 ?_
    intro v32 hv32 lv32 uv32
    refine he_aload (n := 34) (i := 0) (by decide +kernel) rfl ?_
    refine hb_gfd (n := 37) (ci := 9) (j := 23) (ns := [4200, 129]) hV.1.1 (by decide +kernel) rfl rfl (by decide) rfl ?_
    intro v34 hv34 lv34 uv34
    have q34 : v34.toInt = (a : Int) := by rw [← hv34]; exact vA
    refine he_iconst (n := 39) (c := 8) (by decide +kernel) (by decide) ?_
    intro c37 hc37
    refine xe_rem (c := 8) (n := 40) (by decide +kernel) hc37 (by decide) (by omega) ?_
    intro v39 hv39
    refine he_ex2 (o := 16) (n := 41) (by decide +kernel) rfl ?_
    intro v40 hv40
    have ev40 : v40 = v32 >>> (v39 &&& 31) := hv40
    have bv40 := mz_i32 v40
    refine he_iconst (n := 42) (c := 1) (by decide +kernel) (by decide) ?_
    intro c41 hc41
    refine he_ex2 (o := 12) (n := 43) (by decide +kernel) rfl ?_
    intro v42 hv42
    have ev42 : v42 = v40 &&& c41 := hv42
    have bv42 := mz_i32 v42
    refine he_istore (n := 44) (i := 1) (by decide +kernel) rfl ?_
    refine he_aload (n := 45) (i := 0) (by decide +kernel) rfl ?_
    refine he_dup_r (n := 46) (by decide +kernel) ?_
    refine hb_gfd (n := 49) (ci := 9) (j := 23) (ns := [4200, 129]) hV.1.1 (by decide +kernel) rfl rfl (by decide) rfl ?_
    intro v46 hv46 lv46 uv46
    have q46 : v46.toInt = (a : Int) := by rw [← hv46]; exact vA
    refine he_iconst (n := 50) (c := 1) (by decide +kernel) (by decide) ?_
    intro c49 hc49
    refine he_iadd (n := 51) (by decide +kernel) (by omega) (by omega) ?_
    intro v50 hv50
    refine hb_pfd (n := 54) (ci := 9) (j := 23) (t := 0) (ns := [4200, 129]) hV.1.1 (by decide +kernel) rfl rfl (by decide) (.inl rfl) ?_
    generalize hM1 : hb_set M 234 23 v50 = M1
    have hm1 : mz_sh mz_GG M1 := by rw [← hM1]; exact hb_set_sh hV.1.1 rfl rfl (by omega) (by omega)
    have eM1 : ∀ b j, b ≠ 234 ∨ j ≠ 23 → hv M1 b j = hv M b j := by intro b j h; rw [← hM1]; exact hb_set_n h
    have sM1 : hv M1 234 23 = v50.toInt := by rw [← hM1]; exact hb_set_v hV.1.1 rfl (by decide)
    have wM1 : ∀ b, b ≠ 234 → M1 b = M b := by intro b h; rw [← hM1]; exact hb_set_c h
    refine he_iload (n := 55) (i := 1) (by decide +kernel) rfl ?_
    refine he_reti (by decide +kernel) ?_
    have e32 : hv M0 252 (a / 8) = v32.toInt := by rw [← hb_vc (hV.1.2.1 252 (by decide) (by decide)), ← hv32, show v31.toInt.toNat = a / 8 by omega]
    refine K1 M1 _ h11 (yV_at hV hM1 hm1 (by omega) (by omega)) ?_ wM1
    rw [ev42, ev40, show c41 = 1 by rw [he_eqi]; exact hc41]
    exact xB_div (by omega) (by omega) (by omega) e32
  · skip
    refine he_cmplt_f (n := 14) (t := 21) (by decide +kernel) (by omega) ?_
    refine he_aload (n := 15) (i := 0) (by decide +kernel) rfl ?_
    refine he_iconst (n := 16) (c := 1) (by decide +kernel) (by decide) ?_
    intro c15 hc15
    refine hb_pfd (n := 19) (ci := 9) (j := 24) (t := 1) (ns := [4201, 135]) hV.1.1 (by decide +kernel) rfl rfl (by decide) (.inr ⟨rfl, he_01 (by omega)⟩) ?_
    generalize hM1 : hb_set M 234 24 c15 = M1
    have hm1 : mz_sh mz_GG M1 := by rw [← hM1]; exact hb_set_sh hV.1.1 rfl rfl (by omega) (by omega)
    have eM1 : ∀ b j, b ≠ 234 ∨ j ≠ 24 → hv M1 b j = hv M b j := by intro b j h; rw [← hM1]; exact hb_set_n h
    have sM1 : hv M1 234 24 = c15.toInt := by rw [← hM1]; exact hb_set_v hV.1.1 rfl (by decide)
    have wM1 : ∀ b, b ≠ 234 → M1 b = M b := by intro b h; rw [← hM1]; exact hb_set_c h
    refine he_iconst (n := 20) (c := 0) (by decide +kernel) (by decide) ?_
    intro c19 hc19
    refine he_reti (by decide +kernel) ?_
    exact K2 M1 _ h11 (yV_sh hV hM1 hm1 (by omega)) (by omega) wM1
theorem ym_num_l {d z u E a k : Nat} {sh : Int} {M0 Mb : Nat → mq_C} {o : List Int} {Q : (Option Value ⊕ Nat) → mq_S → Prop} {x1 : Int32} (hE : E ≤ 1920) (hk : k ≤ 16) (hx : x1.toInt = (k : Int))
    (K1 : ∀ (M' : Nat → mq_C) (r : Int32), a + k ≤ E → yV E sh M0 M' (a + k) o → r.toInt = xb (xB M0 252) a k → (∀ b, b ≠ 234 → M' b = Mb b) → Q (.inl (some (.int r))) (M', z, u))
    (K2 : ∀ (M' : Nat → mq_C) (r : Int32) (a' : Nat), ¬ a + k ≤ E → yV E 1 M0 M' a' o → 0 ≤ r.toInt → r.toInt < 2 ^ k → (∀ b, b ≠ 234 → M' b = Mb b) → Q (.inl (some (.int r))) (M', z, u)) : ∀ (m j : Nat) (M : Nat → mq_C) (v i : Int32) (sh' : Int) (a' : Nat), j + m = k → i.toInt = (j : Int) → 0 ≤ v.toInt → v.toInt < 2 ^ j → yV E sh' M0 M a' o → (∀ b, b ≠ 234 → M b = Mb b) → (a + j ≤ E → sh' = sh ∧ a' = a + j ∧ v.toInt = xb (xB M0 252) a j) → (¬ a + j ≤ E → sh' = 1 ∧ a' = E) → mq_R mq_PP (d + 1) 109 4 [some (.ref 234), some (.int x1), some (.int v), some (.int i)] [] (M, z, u) Q := by
  intro m
  induction m with
  | zero =>
    intro j M v i sh' a' e1 e2 g1 g2 hV hF h0 h1
    obtain rfl : j = k := by omega
    refine he_iload (n := 5) (i := 3) (by decide +kernel) rfl ?_
    refine he_iload (n := 6) (i := 1) (by decide +kernel) rfl ?_
    refine he_cmpge_t (n := 9) (t := 24) (by decide +kernel) (by omega) ?_
    refine he_iload (n := 25) (i := 2) (by decide +kernel) rfl ?_
    refine he_reti (by decide +kernel) ?_
    by_cases h : a + j ≤ E
    · obtain ⟨q1, q2, q3⟩ := h0 h
      rw [q1, q2] at hV
      exact K1 M v h hV q3 hF
    · obtain ⟨q1, q2⟩ := h1 h
      rw [q1] at hV
      exact K2 M v a' h hV g1 g2 hF
  | succ m ih =>
    intro j M v i sh' a' e1 e2 g1 g2 hV hF h0 h1
    refine he_iload (n := 5) (i := 3) (by decide +kernel) rfl ?_
    refine he_iload (n := 6) (i := 1) (by decide +kernel) rfl ?_
    refine he_cmpge_f (n := 9) (t := 24) (by decide +kernel) (by omega) ?_
    refine he_iload (n := 10) (i := 2) (by decide +kernel) rfl ?_
    refine he_aload (n := 11) (i := 0) (by decide +kernel) rfl ?_
    refine he_v0 (n := 14) (j := 108) (ci := 9) (mx := 2) (ns := [5153, 5155, 54, 139]) (by decide +kernel) ((hb_kd (a := 234) hV.1.1 rfl).trans rfl) (by show 1 ≤ 8; omega) (by show 1 ≤ 2; omega) ?_
    rw [mq_e108]
    have st : ∀ (M2 : Nat → mq_C) (r : Int32) (sh2 : Int) (a2 : Nat), (r.toInt = 0 ∨ r.toInt = 1) → yV E sh2 M0 M2 a2 o → (∀ b, b ≠ 234 → M2 b = M b) → (a + (j + 1) ≤ E → sh2 = sh ∧ a2 = a + (j + 1) ∧ r.toInt = xB M0 252 (a + j)) → (¬ a + (j + 1) ≤ E → sh2 = 1 ∧ a2 = E) → mq_R mq_PP (d + 1) 109 14 [some (.ref 234), some (.int x1), some (.int v), some (.int i)] [.int r, .int v] (M2, z, u) Q := by
      intro M2 r sh2 a2 hr hV2 hF2 k0 k1
      refine he_iload (n := 15) (i := 3) (by decide +kernel) rfl ?_
      refine he_ex2 (o := 15) (n := 16) (by decide +kernel) rfl ?_
      intro v15 hv15
      have ev15 : v15 = r <<< (i &&& 31) := hv15
      have bv15 := mz_i32 v15
      refine he_ex2 (o := 13) (n := 17) (by decide +kernel) rfl ?_
      intro v16 hv16
      have ev16 : v16 = v ||| v15 := hv16
      have bv16 := mz_i32 v16
      refine he_istore (n := 18) (i := 2) (by decide +kernel) rfl ?_
      refine he_iinc (n := 21) (i := 3) (c := 1) (L' := fun v => [some (.ref (234)), some (.int x1), some (.int v16), some (.int v)]) (by decide +kernel) (by decide) rfl (fun _ => rfl) (by omega) (by omega) ?_
      intro i18 hi18
      refine he_goto (t := 4) (by decide +kernel) ?_
      have q16 : v16.toInt = v.toInt + r.toInt * 2 ^ j := by
        rw [ev16, ev15]
        exact xe_or (k := j) (by omega) g1 g2 hr e2
      have hpos : (0 : Int) < 2 ^ j := Int.pow_pos (by decide)
      have e2' : (2 : Int) ^ (j + 1) = 2 ^ j * 2 := Int.pow_succ 2 j
      have hb : 0 ≤ r.toInt * 2 ^ j ∧ r.toInt * 2 ^ j ≤ 2 ^ j := by rcases hr with h | h <;> rw [h] <;> omega
      refine ih (j + 1) M2 v16 _ sh2 a2 (by omega) (by omega) (by omega) (by omega) hV2 (fun b hb => (hF2 b hb).trans (hF b hb)) (fun h => ?_) k1
      obtain ⟨q1, q2, q3⟩ := k0 h
      refine ⟨q1, q2, ?_⟩
      rw [q16, (h0 (by omega)).2.2, q3]
      rfl
    refine ym_bit hE hV ?_ ?_
    · intro M2 r hlt hV2 hr hF2
      show mq_R mq_PP (d + 1) 109 14 _ [.int r, .int v] (M2, z, u) Q
      by_cases h : a + j ≤ E
      · obtain ⟨q1, q2, q3⟩ := h0 h
        rw [q1] at hV2
        exact st M2 r sh (a' + 1) (by rw [hr]; exact xB_01 _) hV2 hF2 (fun _ => ⟨rfl, by omega, by rw [hr, q2]⟩) (fun h2 => absurd (by omega : a + (j + 1) ≤ E) h2)
      · obtain ⟨q1, q2⟩ := h1 h
        omega
    · intro M2 r hlt hV2 hr hF2
      show mq_R mq_PP (d + 1) 109 14 _ [.int r, .int v] (M2, z, u) Q
      have haE := hV.2.2.2.2.1
      refine st M2 r 1 a' (.inl hr) hV2 hF2 (fun h2 => ?_) (fun _ => ⟨rfl, by omega⟩)
      obtain ⟨q1, q2, q3⟩ := h0 (by omega)
      omega
theorem ym_num {sh : Int} {d z u E a : Nat} {M0 M : Nat → mq_C} {o : List Int} {Q : (Option Value ⊕ Nat) → mq_S → Prop} {k : Nat} {x1 : Int32} (hE : E ≤ 1920) (hk : k ≤ 16) (hx : x1.toInt = (k : Int)) (hV : yV E sh M0 M a o)
    (K1 : ∀ (M' : Nat → mq_C) (r : Int32), a + k ≤ E → yV E sh M0 M' (a + k) o → r.toInt = xb (xB M0 252) a k → (∀ b, b ≠ 234 → M' b = M b) → Q (.inl (some (.int r))) (M', z, u))
    (K2 : ∀ (M' : Nat → mq_C) (r : Int32) (a' : Nat), ¬ a + k ≤ E → yV E 1 M0 M' a' o → 0 ≤ r.toInt → r.toInt < 2 ^ k → (∀ b, b ≠ 234 → M' b = M b) → Q (.inl (some (.int r))) (M', z, u)) : mq_R mq_PP (d + 1) 109 0 [some (.ref 234), some (.int x1), none, none] [] (M, z, u) Q := by
  refine he_iconst (n := 1) (c := 0) (by decide +kernel) (by decide) ?_
  intro c0 hc0
  refine he_istore (n := 2) (i := 2) (by decide +kernel) rfl ?_
  refine he_iconst (n := 3) (c := 0) (by decide +kernel) (by decide) ?_
  intro c2 hc2
  refine he_istore (n := 4) (i := 3) (by decide +kernel) rfl ?_
  have haE := hV.2.2.2.2.1
  exact ym_num_l hE hk hx K1 K2 k 0 M _ _ sh a (by omega) (by omega) (by omega) (by show _ < (1 : Int); omega) hV (fun _ _ => rfl) (fun _ => ⟨rfl, rfl, by show _ = (0 : Int); omega⟩) (fun h => absurd (by omega : a + 0 ≤ E) h)
theorem ym_give {sh : Int} {d z u E a : Nat} {M0 M : Nat → mq_C} {o : List Int} {Q : (Option Value ⊕ Nat) → mq_S → Prop} {x1 : Int32} (hV : yV E sh M0 M a o) (hx : 0 ≤ x1.toInt ∧ x1.toInt ≤ 255)
    (K1 : ∀ (M' : Nat → mq_C) (r : Int32), o.length < 200 → yV E sh M0 M' a (o ++ [x1.toInt]) → r.toInt = 1 → (∀ b, b ≠ 234 → b ≠ 253 → M' b = M b) → Q (.inl (some (.int r))) (M', z, u))
    (K2 : ∀ r : Int32, ¬ o.length < 200 → r.toInt = 0 → Q (.inl (some (.int r))) (M, z, u)) : mq_R mq_PP d 110 0 [some (.ref 234), some (.int x1)] [] (M, z, u) Q := by
  have vL : hv M 234 25 = (o.length : Int) := hV.2.2.2.2.2.1
  refine he_aload (n := 1) (i := 0) (by decide +kernel) rfl ?_
  refine hb_gfd (n := 4) (ci := 9) (j := 25) (ns := [4202, 143]) hV.1.1 (by decide +kernel) rfl rfl (by decide) rfl ?_
  intro v1 hv1 lv1 uv1
  refine he_iconst (n := 7) (c := 200) (by decide +kernel) (by decide) ?_
  intro c4 hc4
  have q1 : v1.toInt = (o.length : Int) := by rw [← hv1]; exact vL
  by_cases h7 : v1.toInt = c4.toInt
  · skip
    refine he_cmpne_f (n := 10) (t := 12) (by decide +kernel) (by omega) ?_
    refine he_iconst (n := 11) (c := 0) (by decide +kernel) (by decide) ?_
    intro c10 hc10
    refine he_retz (by decide +kernel) (by omega) ?_
    exact K2 _ (by omega) (by omega)
  · skip
    refine he_cmpne_t (n := 10) (t := 12) (by decide +kernel) (by omega) ?_
    refine he_aload (n := 13) (i := 0) (by decide +kernel) rfl ?_
    refine he_getr (n := 16) (ci := 9) (j := 26) (ns := [4203, 65]) (b := 253) hV.1.1 (by decide +kernel) rfl rfl (by decide +kernel) ?_
    refine he_aload (n := 17) (i := 0) (by decide +kernel) rfl ?_
    refine hb_gfd (n := 20) (ci := 9) (j := 25) (ns := [4202, 143]) hV.1.1 (by decide +kernel) rfl rfl (by decide) rfl ?_
    intro v17 hv17 lv17 uv17
    have q17 : v17.toInt = (o.length : Int) := by rw [← hv17]; exact vL
    refine he_iload (n := 21) (i := 1) (by decide +kernel) rfl ?_
    refine hb_sta (n := 22) (kind := 64) hV.1.1 (by decide +kernel) rfl rfl (.inl rfl) (by omega) (show _ < (201 : Int) by omega) ?_
    generalize hM1 : hb_set M 253 (v17.toInt.toNat) x1 = M1
    have hm1 : mz_sh mz_GG M1 := by rw [← hM1]; exact hb_set_sh hV.1.1 rfl hb_at1 (by omega) (by omega)
    have eM1 : ∀ b j, b ≠ 253 ∨ j ≠ v17.toInt.toNat → hv M1 b j = hv M b j := by intro b j h; rw [← hM1]; exact hb_set_n h
    have sM1 : hv M1 253 (v17.toInt.toNat) = x1.toInt := by rw [← hM1]; exact hb_set_v hV.1.1 rfl (show _ < 201 by omega)
    have wM1 : ∀ b, b ≠ 253 → M1 b = M b := by intro b h; rw [← hM1]; exact hb_set_c h
    refine he_aload (n := 23) (i := 0) (by decide +kernel) rfl ?_
    refine he_dup_r (n := 24) (by decide +kernel) ?_
    refine hb_gfd (n := 27) (ci := 9) (j := 25) (ns := [4202, 143]) hm1 (by decide +kernel) rfl rfl (by decide) rfl ?_
    intro v24 hv24 lv24 uv24
    have q24 : v24.toInt = (o.length : Int) := by rw [← hv24, eM1 _ _ (.inl (by decide))]; exact vL
    refine he_iconst (n := 28) (c := 1) (by decide +kernel) (by decide) ?_
    intro c27 hc27
    refine he_iadd (n := 29) (by decide +kernel) (by omega) (by omega) ?_
    intro v28 hv28
    refine hb_pfd (n := 32) (ci := 9) (j := 25) (t := 0) (ns := [4202, 143]) hm1 (by decide +kernel) rfl rfl (by decide) (.inl rfl) ?_
    generalize hM2 : hb_set M1 234 25 v28 = M2
    have hm2 : mz_sh mz_GG M2 := by rw [← hM2]; exact hb_set_sh hm1 rfl rfl (by omega) (by omega)
    have eM2 : ∀ b j, b ≠ 234 ∨ j ≠ 25 → hv M2 b j = hv M1 b j := by intro b j h; rw [← hM2]; exact hb_set_n h
    have sM2 : hv M2 234 25 = v28.toInt := by rw [← hM2]; exact hb_set_v hm1 rfl (by decide)
    have wM2 : ∀ b, b ≠ 234 → M2 b = M1 b := by intro b h; rw [← hM2]; exact hb_set_c h
    refine he_iconst (n := 33) (c := 1) (by decide +kernel) (by decide) ?_
    intro c32 hc32
    refine he_retz (by decide +kernel) (by omega) ?_
    exact K1 M2 _ (by omega) (yV_app hV hM1 hm1 (by omega) (by omega) hM2 hm2 (by omega)) (by omega) (fun b n1 n2 => (wM2 b n1).trans (wM1 b n2))
