/-! Lines of a manifest; the model's isManifest, exactly. -/
theorem xmb_r {s s' : xMs} {b : Int} (h : xmb s b = some s') : 32 ≤ b ∧ b ≤ 126 := by
  unfold xmb at h
  by_cases h1 : s.1 = 80
  · rw [if_pos h1] at h
    by_cases g : 48 ≤ b ∧ b < 52
    · omega
    · rw [if_neg g] at h
      cases h
  · rw [if_neg h1] at h
    by_cases h2 : s.1 = 86
    · rw [if_pos h2] at h
      by_cases g : b = 89 ∧ s.2.2.1 = 0
      · omega
      · rw [if_neg g] at h
        cases h
    · rw [if_neg h2] at h
      by_cases h3 : s.1 = 90
      · rw [if_pos h3] at h
        by_cases g : 97 ≤ b ∧ b < 101
        · omega
        · rw [if_neg g] at h
          cases h
      · rw [if_neg h3] at h
        by_cases g : 32 ≤ b ∧ b ≤ 126
        · exact g
        · rw [if_neg g] at h
          cases h
theorem xmbs_r {t : Nat → Int} : ∀ (m i : Nat) (s s' : xMs), xmbs t m i s = some s' → ∀ k, i ≤ k → k < i + m → 32 ≤ t k ∧ t k ≤ 126 := by
  intro m
  induction m with
  | zero => intro i s s' _ k h1 h2; omega
  | succ m ih =>
    intro i s s' h k h1 h2
    have h : (match xmb s (t i) with | some s' => xmbs t m (i + 1) s' | none => none) = some s' := h
    cases hx : xmb s (t i) with
    | none => rw [hx] at h; cases h
    | some s1 =>
      rw [hx] at h
      by_cases e : k = i
      · rw [e]
        exact xmb_r hx
      · exact ih (i + 1) s1 s' h k (by omega) (by omega)
theorem xml_r {t : Nat → Int} {s s' : xMs} {f e : Nat} (h : xml t s f e = some s') : ∀ k, f ≤ k → k < e → 32 ≤ t k ∧ t k ≤ 126 := by
  unfold xml at h
  by_cases h1 : e = f ∨ 8 < e - f
  · rw [if_pos h1] at h
    cases h
  · rw [if_neg h1] at h
    intro k k1 k2
    by_cases h2 : t f = 32
    · rw [if_pos h2] at h
      by_cases h3 : s.1 = -1
      · rw [if_pos h3] at h
        cases h
      · rw [if_neg h3] at h
        by_cases ek : k = f
        · rw [ek, h2]
          omega
        · exact xmbs_r _ _ _ _ h k (by omega) (by omega)
    · rw [if_neg h2] at h
      by_cases h3 : xmc t s f e
      · rw [if_pos h3] at h
        obtain ⟨c1, c2, c3, c4, c5⟩ := h3
        by_cases ek : k = f
        · rw [ek]
          omega
        · by_cases ek2 : k = f + 1
          · rw [ek2, c4]
            omega
          · exact xmbs_r _ _ _ _ h k (by omega) (by omega)
      · rw [if_neg h3] at h
        cases h
theorem xmr_sk {t : Nat → Int} {f : Nat} {s : xMs} : ∀ (k m i : Nat), (∀ j, i ≤ j → j < i + k → ¬ t j = 10) → xmr t (k + m) i f s = xmr t m (i + k) f s := by
  intro k
  induction k with
  | zero => intro m i _; rw [Nat.zero_add, Nat.add_zero]
  | succ k ih =>
    intro m i h
    rw [show k + 1 + m = (k + m) + 1 by omega]
    show (if t i = 10 then _ else xmr t (k + m) (i + 1) f s) = _
    rw [if_neg (h i (by omega) (by omega)), ih m (i + 1) (fun j h1 h2 => h j (by omega) (by omega)), show i + 1 + k = i + (k + 1) by omega]
/-- a line that is none: it has no end, or is refused -/
theorem xmr_no {t : Nat → Int} {n a : Nat} {s : xMs} (ha : a < n) (h : ∀ e, a ≤ e → e < n → t e = 10 → (∀ j, a ≤ j → j < e → ¬ t j = 10) → xml t s a e = none) : ∀ f s', xmr t (n - a) a a s = some (f, s') → f = a := by
  intro f s' hx
  have key : ∀ (k i : Nat), i + k = n → a ≤ i → (∀ j, a ≤ j → j < i → ¬ t j = 10) → xmr t k i a s = some (f, s') → f = a := by
    intro k
    induction k with
    | zero =>
      intro i _ _ _ hh
      have hh : some (a, s) = some (f, s') := hh
      cases hh
      rfl
    | succ k ih =>
      intro i h1 h2 h3 hh
      have hh : (if t i = 10 then (match xml t s a i with | some s' => xmr t k (i + 1) (i + 1) s' | none => none) else xmr t k (i + 1) a s) = some (f, s') := hh
      by_cases g : t i = 10
      · rw [if_pos g, h i h2 (by omega) g h3] at hh
        cases hh
      · rw [if_neg g] at hh
        exact ih (i + 1) (by omega) (by omega) (fun j a1 a2 => by
          by_cases e : j = i
          · rw [e]
            exact g
          · exact h3 j a1 (by omega)) hh
  exact key (n - a) a (by omega) (Nat.le_refl _) (fun j a1 a2 => by omega) hx
theorem xman_no {t : Nat → Int} {n a : Nat} {s : xMs} (ha : a < n) (hR : xmr t (n - a) a a s = xmr t n 0 0 xm0) (h : ∀ e, a ≤ e → e < n → t e = 10 → (∀ j, a ≤ j → j < e → ¬ t j = 10) → xml t s a e = none) : xman t n = none := by
  unfold xman
  rw [← hR]
  cases hx : xmr t (n - a) a a s with
  | none => rfl
  | some p =>
    obtain ⟨f, s'⟩ := p
    have := xmr_no ha h f s' hx
    show (if f = n ∧ _ then some s' else none) = none
    rw [if_neg (fun g => by omega)]
theorem xo_a1 {x : Int32} : ((x &&& Int32.ofInt 1).toInt = 0 ∨ (x &&& Int32.ofInt 1).toInt = 1) := by
  have h := mz_and32 (X := x) (Y := Int32.ofInt 1) (by decide)
  have e : (Int32.ofInt 1).toInt = 1 := by decide
  omega
theorem yp_scan {d z u s n : Nat} {M0 : Nat → mq_C} {Q : (Option Value ⊕ Nat) → mq_S → Prop} {x1 : Int32} {M : Nat → mq_C} {st : xMs} {x2 x3 x4 : Int32} {a : Nat} (h1 : x1.toInt = (s : Int)) (hs : s < 4) (hn : hv M0 234 25 = (n : Int)) (hn2 : n ≤ 200) (hV : yMV s M0 M st) (h4 : x4.toInt = (a : Int)) {o6 o7 : Option Value} (Kb : ∀ (r : Int32) (e : Nat), a ≤ e → e < n → (∀ j, a ≤ j → j < e → ¬ hv M0 253 j = 10) → ¬ hv M0 253 e = 10 → ¬ (32 ≤ hv M0 253 e ∧ hv M0 253 e ≤ 126) → r.toInt = 0 → Q (.inl (some (.int r))) (M, z, u)) (K : ∀ (x5 : Int32) (e : Nat), x5.toInt = (e : Int) → a ≤ e → e ≤ n → (∀ j, a ≤ j → j < e → ¬ hv M0 253 j = 10) → (e < n → hv M0 253 e = 10) → (∀ j, a ≤ j → j < e → 32 ≤ hv M0 253 j ∧ hv M0 253 j ≤ 126) → mq_R mq_PP (d + 1) 137 73 [some (.ref 234), some (.int x1), some (.int x2), some (.int x3), some (.int x4), some (.int x5), o6, o7] [] (M, z, u) Q) : ∀ (m e : Nat) (x5 : Int32), e + m = n → a ≤ e → x5.toInt = (e : Int) → (∀ j, a ≤ j → j < e → ¬ hv M0 253 j = 10) → (∀ j, a ≤ j → j < e → 32 ≤ hv M0 253 j ∧ hv M0 253 j ≤ 126) → mq_R mq_PP (d + 1) 137 20 [some (.ref 234), some (.int x1), some (.int x2), some (.int x3), some (.int x4), some (.int x5), o6, o7] [] (M, z, u) Q := by
  intro m
  have hn' : hv M 234 25 = (n : Int) := (hb_vc (hV.2.1 234 (by decide)) 25).trans hn
  have t3 : ∀ j, hv M 253 j = hv M0 253 j := fun j => hb_vc (hV.2.1 253 (by decide)) j
  induction m with
  | zero =>
    intro e x5 e1 e2 e3 e4 e5
    refine he_iload (n := 22) (i := 5) (by decide +kernel) rfl ?_
    refine he_aload (n := 23) (i := 0) (by decide +kernel) rfl ?_
    refine hb_gfd (n := 26) (ci := 9) (j := 25) (ns := [4202, 143]) hV.1 (by decide +kernel) rfl rfl (by decide) rfl ?_
    intro v23 hv23 lv23 uv23
    refine he_cmpge_t (n := 29) (t := 73) (by decide +kernel) (by omega) ?_
    exact K x5 e e3 e2 (by omega) e4 (fun h => by omega) e5
  | succ m ih =>
    intro e x5 e1 e2 e3 e4 e5
    have i5 : x5.toInt.toNat = e := by omega
    refine he_iload (n := 22) (i := 5) (by decide +kernel) rfl ?_
    refine he_aload (n := 23) (i := 0) (by decide +kernel) rfl ?_
    refine hb_gfd (n := 26) (ci := 9) (j := 25) (ns := [4202, 143]) hV.1 (by decide +kernel) rfl rfl (by decide) rfl ?_
    intro v23 hv23 lv23 uv23
    refine he_cmpge_f (n := 29) (t := 73) (by decide +kernel) (by omega) ?_
    refine he_aload (n := 30) (i := 0) (by decide +kernel) rfl ?_
    refine he_getr (n := 33) (ci := 9) (j := 26) (ns := [4203, 65]) (b := 253) hV.1 (by decide +kernel) rfl rfl (by decide +kernel) ?_
    refine he_iload (n := 35) (i := 5) (by decide +kernel) rfl ?_
    refine hb_ld (n := 36) (kind := 64) hV.1 (by decide +kernel) rfl rfl (.inl rfl) (by omega) (show _ < (201 : Int) by omega) hb_at1 ?_
    intro v35 hv35 lv35 uv35
    refine he_iconst (n := 38) (c := 10) (by decide +kernel) (by decide) ?_
    intro c36 hc36
    rw [i5, t3] at hv35
    by_cases g38 : v35.toInt = c36.toInt
    · skip
      refine he_cmpeq_t (n := 41) (t := 73) (by decide +kernel) (by omega) ?_
      exact K x5 e e3 e2 (by omega) e4 (fun _ => by omega) e5
    refine he_cmpeq_f (n := 41) (t := 73) (by decide +kernel) (by omega) ?_
    refine he_aload (n := 42) (i := 0) (by decide +kernel) rfl ?_
    refine he_getr (n := 45) (ci := 9) (j := 26) (ns := [4203, 65]) (b := 253) hV.1 (by decide +kernel) rfl rfl (by decide +kernel) ?_
    refine he_iload (n := 47) (i := 5) (by decide +kernel) rfl ?_
    refine hb_ld (n := 48) (kind := 64) hV.1 (by decide +kernel) rfl rfl (.inl rfl) (by omega) (show _ < (201 : Int) by omega) hb_at1 ?_
    intro v47 hv47 lv47 uv47
    refine he_iconst (n := 50) (c := 32) (by decide +kernel) (by decide) ?_
    intro c48 hc48
    rw [i5, t3] at hv47
    by_cases g50 : v47.toInt < c48.toInt
    · skip
      refine he_cmplt_t (n := 53) (t := 65) (by decide +kernel) (by omega) ?_
      refine he_iconst (n := 66) (c := 0) (by decide +kernel) (by decide) ?_
      intro c65 hc65
      refine he_retz (by decide +kernel) (by omega) ?_
      exact Kb _ e e2 (by omega) e4 (by omega) (by omega) (by omega)
    refine he_cmplt_f (n := 53) (t := 65) (by decide +kernel) (by omega) ?_
    refine he_aload (n := 54) (i := 0) (by decide +kernel) rfl ?_
    refine he_getr (n := 57) (ci := 9) (j := 26) (ns := [4203, 65]) (b := 253) hV.1 (by decide +kernel) rfl rfl (by decide +kernel) ?_
    refine he_iload (n := 59) (i := 5) (by decide +kernel) rfl ?_
    refine hb_ld (n := 60) (kind := 64) hV.1 (by decide +kernel) rfl rfl (.inl rfl) (by omega) (show _ < (201 : Int) by omega) hb_at1 ?_
    intro v59 hv59 lv59 uv59
    refine he_iconst (n := 62) (c := 126) (by decide +kernel) (by decide) ?_
    intro c60 hc60
    rw [i5, t3] at hv59
    by_cases g62 : v59.toInt ≤ c60.toInt
    rotate_left
    · skip
      refine he_cmple_f (n := 65) (t := 67) (by decide +kernel) (by omega) ?_
      refine he_iconst (n := 66) (c := 0) (by decide +kernel) (by decide) ?_
      intro c65 hc65
      refine he_retz (by decide +kernel) (by omega) ?_
      exact Kb _ e e2 (by omega) e4 (by omega) (by omega) (by omega)
    refine he_cmple_t (n := 65) (t := 67) (by decide +kernel) (by omega) ?_
    refine he_iinc (n := 70) (i := 5) (c := 1) (L' := fun v => [some (.ref (234)), some (.int x1), some (.int x2), some (.int x3), some (.int x4), some (.int v), o6, o7]) (by decide +kernel) (by decide) rfl (fun _ => rfl) (by omega) (by omega) ?_
    intro i67 hi67
    refine he_goto (t := 20) (by decide +kernel) ?_
    refine ih (e + 1) _ (by omega) (by omega) (by omega) (fun j j1 j2 => ?_) (fun j j1 j2 => ?_)
    · by_cases ej : j = e
      · rw [ej]
        omega
      · exact e4 j j1 (by omega)
    · by_cases ej : j = e
      · rw [ej]
        omega
      · exact e5 j j1 (by omega)
theorem yp_line {d z u s n : Nat} {M0 : Nat → mq_C} {Q : (Option Value ⊕ Nat) → mq_S → Prop} {x1 : Int32} {x2 x3 x4 x5 x6 : Int32} {e : Nat} {c : Int} {R : Option xMs} (h1 : x1.toInt = (s : Int)) (hs : s < 4) (hn : hv M0 234 25 = (n : Int)) (hn2 : n ≤ 200) (h3 : x3.toInt = c) (h5 : x5.toInt = (e : Int)) (he : e ≤ n) (hr : ∀ k, k < e → 0 ≤ hv M0 253 k ∧ hv M0 253 k ≤ 255) (Ka : ∀ (M : Nat → mq_C) (st : xMs) (x7 : Int32), R = some st → st.1 = c → yMV s M0 M st → mq_R mq_PP (d + 1) 137 223 [some (.ref 234), some (.int x1), some (.int x2), some (.int x3), some (.int x4), some (.int x5), some (.int x6), some (.int x7)] [] (M, z, u) Q) (Kb : ∀ (M' : Nat → mq_C) (r : Int32), R = none → r.toInt = 0 → mz_sh mz_GG M' → (∀ b, b < 245 ∨ 248 < b → M' b = M0 b) → (∀ b j, b = 245 ∨ b = 248 → j ≠ s → hv M' b j = hv M0 b j) → (∀ j, j < 4 * s ∨ 4 * s + 4 ≤ j → hv M' 246 j = hv M0 246 j) → Q (.inl (some (.int r))) (M', z, u)) : ∀ (m i : Nat) (st : xMs) (M : Nat → mq_C) (x7 : Int32), i + m = e → x7.toInt = (i : Int) → (∀ k, i ≤ k → k < e → 32 ≤ hv M0 253 k ∧ hv M0 253 k ≤ 126) → st.1 = c → xmbs (hv M0 253) m i st = R → yMV s M0 M st → mq_R mq_PP (d + 1) 137 192 [some (.ref 234), some (.int x1), some (.int x2), some (.int x3), some (.int x4), some (.int x5), some (.int x6), some (.int x7)] [] (M, z, u) Q := by
  intro m
  induction m with
  | zero =>
    intro i st M x7 e1 e2 er ec eR hV
    refine he_iload (n := 194) (i := 7) (by decide +kernel) rfl ?_
    refine he_iload (n := 196) (i := 5) (by decide +kernel) rfl ?_
    refine he_cmpge_t (n := 199) (t := 223) (by decide +kernel) (by omega) ?_
    exact Ka M st x7 eR.symm ec hV
  | succ m ih =>
    intro i st M x7 e1 e2 er ec eR hV
    have eR : (match xmb st (hv M0 253 i) with | some s' => xmbs (hv M0 253) m (i + 1) s' | none => none) = R := eR
    refine he_iload (n := 194) (i := 7) (by decide +kernel) rfl ?_
    refine he_iload (n := 196) (i := 5) (by decide +kernel) rfl ?_
    refine he_cmpge_f (n := 199) (t := 223) (by decide +kernel) (by omega) ?_
    refine he_aload (n := 200) (i := 0) (by decide +kernel) rfl ?_
    refine he_iload (n := 201) (i := 1) (by decide +kernel) rfl ?_
    refine he_iload (n := 202) (i := 3) (by decide +kernel) rfl ?_
    refine he_aload (n := 203) (i := 0) (by decide +kernel) rfl ?_
    refine he_getr (n := 206) (ci := 9) (j := 26) (ns := [4203, 65]) (b := 253) hV.1 (by decide +kernel) rfl rfl (by decide +kernel) ?_
    refine he_iload (n := 208) (i := 7) (by decide +kernel) rfl ?_
    refine hb_ld (n := 209) (kind := 64) hV.1 (by decide +kernel) rfl rfl (.inl rfl) (by omega) (show _ < (201 : Int) by omega) hb_at1 ?_
    intro v208 hv208 lv208 uv208
    have q208 : hv M0 253 i = v208.toInt := by rw [← hv208, show x7.toInt.toNat = i by omega]; exact (hb_vc (hV.2.1 253 (by decide)) i).symm
    have hri := er i (by omega) (by omega)
    rw [q208] at eR hri
    refine he_v3 (n := 212) (j := 136) (ci := 9) (mx := 6) (ns := [6062, 6064, 82, 228]) (by decide +kernel) ((hb_kd (a := 234) hV.1 rfl).trans rfl) (by show 0 ≤ 8; omega) (by show 4 ≤ 6; omega) ?_
    rw [mq_e136]
    refine yp_det (st := st) h1 hs (by omega) hri.1 hri.2 hV ?_ ?_
    · intro M' r st' hx hr hV'
      rw [hx] at eR
      have ec' : st'.1 = c := by
        have h9 := hx
        unfold xmb at h9
        by_cases g1 : st.1 = 80
        · rw [if_pos g1] at h9
          by_cases g : 48 ≤ v208.toInt ∧ v208.toInt < 52
          · rw [if_pos g] at h9
            cases h9
            exact ec
          · rw [if_neg g] at h9
            cases h9
        · rw [if_neg g1] at h9
          by_cases g2 : st.1 = 86
          · rw [if_pos g2] at h9
            by_cases g : v208.toInt = 89 ∧ st.2.2.1 = 0
            · rw [if_pos g] at h9
              cases h9
              exact ec
            · rw [if_neg g] at h9
              cases h9
          · rw [if_neg g2] at h9
            by_cases g3 : st.1 = 90
            · rw [if_pos g3] at h9
              by_cases g : 97 ≤ v208.toInt ∧ v208.toInt < 101
              · rw [if_pos g] at h9
                cases h9
                exact ec
              · rw [if_neg g] at h9
                cases h9
            · rw [if_neg g3] at h9
              by_cases g : 32 ≤ v208.toInt ∧ v208.toInt ≤ 126
              · rw [if_pos g] at h9
                cases h9
                exact ec
              · rw [if_neg g] at h9
                cases h9
      show mq_R mq_PP (d + 1) 137 212 _ [.int r] (M', z, u) Q
      refine he_ifne_t (n := 215) (t := 217) (by decide +kernel) (by omega) ?_
      refine he_iinc (n := 220) (i := 7) (c := 1) (L' := fun v => [some (.ref (234)), some (.int x1), some (.int x2), some (.int x3), some (.int x4), some (.int x5), some (.int x6), some (.int v)]) (by decide +kernel) (by decide) rfl (fun _ => rfl) (by omega) (by omega) ?_
      intro ib217 hib217
      refine he_goto (t := 192) (by decide +kernel) ?_
      exact ih (i + 1) st' M' _ (by omega) (by omega) (fun k k1 k2 => er k (by omega) k2) ec' eR hV'
    · intro M' r hx hr _ hm' f1 f2 f3
      rw [hx] at eR
      show mq_R mq_PP (d + 1) 137 212 _ [.int r] (M', z, u) Q
      refine he_ifne_f (n := 215) (t := 217) (by decide +kernel) (by omega) ?_
      refine he_iconst (n := 216) (c := 0) (by decide +kernel) (by decide) ?_
      intro cb215 hcb215
      refine he_retz (by decide +kernel) (by omega) ?_
      exact Kb M' _ eR.symm (by omega) hm' f1 f2 f3
theorem xmb_m {s s' : xMs} {b : Int} (h : xmb s b = some s') : s'.1 = s.1 ∧ s'.2.1 = s.2.1 := by
  unfold xmb at h
  by_cases h1 : s.1 = 80
  · rw [if_pos h1] at h
    by_cases g : 48 ≤ b ∧ b < 52
    · rw [if_pos g] at h
      cases h
      exact ⟨rfl, rfl⟩
    · rw [if_neg g] at h
      cases h
  · rw [if_neg h1] at h
    by_cases h2 : s.1 = 86
    · rw [if_pos h2] at h
      by_cases g : b = 89 ∧ s.2.2.1 = 0
      · rw [if_pos g] at h
        cases h
        exact ⟨rfl, rfl⟩
      · rw [if_neg g] at h
        cases h
    · rw [if_neg h2] at h
      by_cases h3 : s.1 = 90
      · rw [if_pos h3] at h
        by_cases g : 97 ≤ b ∧ b < 101
        · rw [if_pos g] at h
          cases h
          exact ⟨rfl, rfl⟩
        · rw [if_neg g] at h
          cases h
      · rw [if_neg h3] at h
        by_cases g : 32 ≤ b ∧ b ≤ 126
        · rw [if_pos g] at h
          cases h
          exact ⟨rfl, rfl⟩
        · rw [if_neg g] at h
          cases h
theorem xmbs_m {t : Nat → Int} : ∀ (m i : Nat) (s s' : xMs), xmbs t m i s = some s' → s'.1 = s.1 ∧ s'.2.1 = s.2.1 := by
  intro m
  induction m with
  | zero =>
    intro i s s' h
    have h : some s = some s' := h
    cases h
    exact ⟨rfl, rfl⟩
  | succ m ih =>
    intro i s s' h
    have h : (match xmb s (t i) with | some s' => xmbs t m (i + 1) s' | none => none) = some s' := h
    cases hx : xmb s (t i) with
    | none => rw [hx] at h; cases h
    | some s1 =>
      rw [hx] at h
      have h1 := xmb_m hx
      have h2 := ih (i + 1) s1 s' h
      exact ⟨h2.1.trans h1.1, h2.2.trans h1.2⟩
theorem yp_man_l {d z u s n : Nat} {M0 : Nat → mq_C} {Q : (Option Value ⊕ Nat) → mq_S → Prop} {x1 : Int32} (h1 : x1.toInt = (s : Int)) (hs : s < 4) (hn : hv M0 234 25 = (n : Int)) (hn2 : n ≤ 200) (hr : ∀ k, k < n → 0 ≤ hv M0 253 k ∧ hv M0 253 k ≤ 255) (K1 : ∀ (M' : Nat → mq_C) (r : Int32) (st' : xMs), xman (hv M0 253) n = some st' → r.toInt = 1 → yMV s M0 M' st' → Q (.inl (some (.int r))) (M', z, u)) (K0 : ∀ (M' : Nat → mq_C) (r : Int32), xman (hv M0 253) n = none → r.toInt = 0 → mz_sh mz_GG M' → (∀ b, b < 245 ∨ 248 < b → M' b = M0 b) → (∀ b j, b = 245 ∨ b = 248 → j ≠ s → hv M' b j = hv M0 b j) → (∀ j, j < 4 * s ∨ 4 * s + 4 ≤ j → hv M' 246 j = hv M0 246 j) → Q (.inl (some (.int r))) (M', z, u)) : ∀ (m a : Nat) (st : xMs) (M : Nat → mq_C) (x2 x3 x4 : Int32) (o5 o6 o7 : Option Value), n ≤ a + m → a ≤ n → x4.toInt = (a : Int) → x2 = st.2.1 → (st.1 = -1 ∧ x3.toInt = 0 ∨ 65 ≤ st.1 ∧ st.1 ≤ 90 ∧ x3.toInt = st.1) → xmr (hv M0 253) (n - a) a a st = xmr (hv M0 253) n 0 0 xm0 → yMV s M0 M st → mq_R mq_PP (d + 1) 137 7 [some (.ref 234), some (.int x1), some (.int x2), some (.int x3), some (.int x4), o5, o6, o7] [] (M, z, u) Q := by
  intro m
  have done : ∀ (st : xMs) (M : Nat → mq_C) (x2 x3 x4 : Int32) (o5 o6 o7 : Option Value), x2 = st.2.1 → xmr (hv M0 253) 0 n n st = xmr (hv M0 253) n 0 0 xm0 → yMV s M0 M st → mq_R mq_PP (d + 1) 137 232 [some (.ref 234), some (.int x1), some (.int x2), some (.int x3), some (.int x4), o5, o6, o7] [] (M, z, u) Q := by
    intro st M x2 x3 x4 o5 o6 o7 e2 eR hV
    have dx : xman (hv M0 253) n = (if n = n ∧ (st.2.2.1 = 1 ∨ ¬ xseen st.2.1 86) then some st else none) := by
      unfold xman
      rw [← eR]
      rfl
    refine he_iload (n := 233) (i := 2) (by decide +kernel) rfl ?_
    refine he_iconst (n := 235) (c := 21) (by decide +kernel) (by decide) ?_
    intro c233 hc233
    refine he_ex2 (o := 16) (n := 236) (by decide +kernel) rfl ?_
    intro v235 hv235
    have ev235 : v235 = x2 >>> (c233 &&& 31) := hv235
    have bv235 := mz_i32 v235
    refine he_iconst (n := 237) (c := 1) (by decide +kernel) (by decide) ?_
    intro c236 hc236
    refine he_ex2 (o := 12) (n := 238) (by decide +kernel) rfl ?_
    intro v237 hv237
    have ev237 : v237 = v235 &&& c236 := hv237
    have bv237 := mz_i32 v237
    have e7 : c233 = Int32.ofInt (86 - 65) := xe_oi (by omega)
    have e9 : c236 = Int32.ofInt 1 := xe_oi (by omega)
    have hse : xseen st.2.1 86 ↔ v237.toInt = 1 := by
      unfold xseen
      rw [← e7, ← e9, ← e2, ← ev235, ← ev237]
    have h01 : v237.toInt = 0 ∨ v237.toInt = 1 := by
      rw [ev237, e9]
      exact xo_a1
    by_cases g238 : v237.toInt = 0
    · rw [if_pos ⟨rfl, .inr (fun h => by have := hse.mp h; omega)⟩] at dx
      refine he_ifeq_t (n := 241) (t := 250) (by decide +kernel) (by omega) ?_
      refine he_iconst (n := 251) (c := 1) (by decide +kernel) (by decide) ?_
      intro c250 hc250
      refine he_goto (t := 255) (by decide +kernel) ?_
      refine he_retz (by decide +kernel) (by omega) ?_
      exact K1 M _ st dx (by omega) hV
    refine he_ifeq_f (n := 241) (t := 250) (by decide +kernel) (by omega) ?_
    refine he_aload (n := 242) (i := 0) (by decide +kernel) rfl ?_
    refine he_getr (n := 245) (ci := 9) (j := 14) (ns := [4191, 50]) (b := 248) hV.1 (by decide +kernel) rfl rfl (by decide +kernel) ?_
    refine he_iload (n := 246) (i := 1) (by decide +kernel) rfl ?_
    refine hb_ld (n := 247) (kind := 65) hV.1 (by decide +kernel) rfl rfl (.inr rfl) (by omega) (show _ < (4 : Int) by omega) hb_at1 ?_
    intro v246 hv246 lv246 uv246
    have q246 : v246.toInt = st.2.2.1 := by rw [← hv246, show x1.toInt.toNat = s by omega]; exact hV.2.2.2.2.1
    by_cases g247 : v246.toInt = 0
    · rw [if_neg (fun h => h.2.elim (fun h' => by omega) (fun h' => h' (hse.mpr (by omega))))] at dx
      refine he_ifeq_t (n := 250) (t := 254) (by decide +kernel) (by omega) ?_
      refine he_iconst (n := 255) (c := 0) (by decide +kernel) (by decide) ?_
      intro c254 hc254
      refine he_retz (by decide +kernel) (by omega) ?_
      exact K0 M _ dx (by omega) hV.1 hV.2.1 hV.2.2.1 hV.2.2.2.1
    · rw [if_pos ⟨rfl, .inl (by omega)⟩] at dx
      refine he_ifeq_f (n := 250) (t := 254) (by decide +kernel) (by omega) ?_
      refine he_iconst (n := 251) (c := 1) (by decide +kernel) (by decide) ?_
      intro c250 hc250
      refine he_goto (t := 255) (by decide +kernel) ?_
      refine he_retz (by decide +kernel) (by omega) ?_
      exact K1 M _ st dx (by omega) hV
  induction m with
  | zero =>
    intro a st M x2 x3 x4 o5 o6 o7 e1 e1' e4 e2 e3 eR hV
    have hn' : hv M 234 25 = (n : Int) := (hb_vc (hV.2.1 234 (by decide)) 25).trans hn
    obtain rfl : a = n := by omega
    refine he_iload (n := 9) (i := 4) (by decide +kernel) rfl ?_
    refine he_aload (n := 10) (i := 0) (by decide +kernel) rfl ?_
    refine hb_gfd (n := 13) (ci := 9) (j := 25) (ns := [4202, 143]) hV.1 (by decide +kernel) rfl rfl (by decide) rfl ?_
    intro v10 hv10 lv10 uv10
    refine he_cmpge_t (n := 16) (t := 232) (by decide +kernel) (by omega) ?_
    rw [Nat.sub_self] at eR
    exact done st M _ _ _ _ _ _ e2 eR hV
  | succ m ih =>
    intro a st M x2 x3 x4 o5 o6 o7 e1 e1' e4 e2 e3 eR hV
    have hn' : hv M 234 25 = (n : Int) := (hb_vc (hV.2.1 234 (by decide)) 25).trans hn
    have t3 : ∀ j, hv M 253 j = hv M0 253 j := fun j => hb_vc (hV.2.1 253 (by decide)) j
    by_cases han : a = n
    · subst han
      refine he_iload (n := 9) (i := 4) (by decide +kernel) rfl ?_
      refine he_aload (n := 10) (i := 0) (by decide +kernel) rfl ?_
      refine hb_gfd (n := 13) (ci := 9) (j := 25) (ns := [4202, 143]) hV.1 (by decide +kernel) rfl rfl (by decide) rfl ?_
      intro v10 hv10 lv10 uv10
      refine he_cmpge_t (n := 16) (t := 232) (by decide +kernel) (by omega) ?_
      rw [Nat.sub_self] at eR
      exact done st M _ _ _ _ _ _ e2 eR hV
    have han : a < n := by omega
    refine he_iload (n := 9) (i := 4) (by decide +kernel) rfl ?_
    refine he_aload (n := 10) (i := 0) (by decide +kernel) rfl ?_
    refine hb_gfd (n := 13) (ci := 9) (j := 25) (ns := [4202, 143]) hV.1 (by decide +kernel) rfl rfl (by decide) rfl ?_
    intro va10 hva10 lva10 uva10
    refine he_cmpge_f (n := 16) (t := 232) (by decide +kernel) (by omega) ?_
    refine he_iload (n := 18) (i := 4) (by decide +kernel) rfl ?_
    refine he_istore (n := 20) (i := 5) (by decide +kernel) rfl ?_
    refine yp_scan (s := s) (n := n) (st := st) (a := a) h1 hs hn hn2 hV e4 ?_ ?_ (n - a) a _ (by omega) (Nat.le_refl _) e4 (fun j j1 j2 => by omega) (fun j j1 j2 => by omega)
    · intro r e g1 g2 g3 g4 g5 hr0
      refine K0 M r (xman_no han eR (fun e' h1' h2' h3' h4' => ?_)) hr0 hV.1 hV.2.1 hV.2.2.1 hV.2.2.2.1
      cases hx : xml (hv M0 253) st a e' with
      | none => rfl
      | some s' =>
        exfalso
        by_cases hee : e < e'
        · exact g5 (xml_r hx e g1 hee)
        · by_cases hee2 : e' = e
          · rw [hee2] at h3'
            exact g4 h3'
          · exact g3 e' h1' (by omega) h3'
    intro x5 e h5 g1 g2 g3 g4 gr
    refine he_iload (n := 75) (i := 5) (by decide +kernel) rfl ?_
    refine he_aload (n := 76) (i := 0) (by decide +kernel) rfl ?_
    refine hb_gfd (n := 79) (ci := 9) (j := 25) (ns := [4202, 143]) hV.1 (by decide +kernel) rfl rfl (by decide) rfl ?_
    intro vb76 hvb76 lvb76 uvb76
    have noK : ∀ r : Int32, r.toInt = 0 → (∀ e', a ≤ e' → e' < n → hv M0 253 e' = 10 → (∀ j, a ≤ j → j < e' → ¬ hv M0 253 j = 10) → xml (hv M0 253) st a e' = none) → Q (.inl (some (.int r))) (M, z, u) := fun r hr0 hno => K0 M r (xman_no han eR hno) hr0 hV.1 hV.2.1 hV.2.2.1 hV.2.2.2.1
    by_cases g79 : e = n
    · skip
      refine he_cmpeq_t (n := 82) (t := 99) (by decide +kernel) (by omega) ?_
      refine he_iconst (n := 100) (c := 0) (by decide +kernel) (by decide) ?_
      intro cb99 hcb99
      refine he_retz (by decide +kernel) (by omega) ?_
      exact noK _ (by omega) (fun e' h1' h2' h3' _ => absurd h3' (g3 e' h1' (by omega)))
    have hen : e < n := by omega
    have h10 := g4 hen
    have only : ∀ e', a ≤ e' → e' < n → hv M0 253 e' = 10 → (∀ j, a ≤ j → j < e' → ¬ hv M0 253 j = 10) → e' = e := fun e' p1 p2 p3 p4 => by
      rcases Nat.lt_trichotomy e' e with q | q | q
      · exact absurd p3 (g3 e' p1 q)
      · exact q
      · exact absurd h10 (p4 e g1 q)
    have noL : ∀ r : Int32, r.toInt = 0 → xml (hv M0 253) st a e = none → Q (.inl (some (.int r))) (M, z, u) := fun r hr0 hno => noK r hr0 (fun e' p1 p2 p3 p4 => by rw [only e' p1 p2 p3 p4]; exact hno)
    have eS : xmr (hv M0 253) (n - a) a a st = (match xml (hv M0 253) st a e with | some s' => xmr (hv M0 253) (n - (e + 1)) (e + 1) (e + 1) s' | none => none) := by
      rw [show n - a = (e - a) + ((n - (e + 1)) + 1) by omega, xmr_sk (e - a) _ a (fun j p1 p2 => g3 j p1 (by omega)), show a + (e - a) = e by omega]
      show (if hv M0 253 e = 10 then _ else _) = _
      rw [if_pos h10]
      rfl
    refine he_cmpeq_f (n := 82) (t := 99) (by decide +kernel) (by omega) ?_
    refine he_iload (n := 84) (i := 5) (by decide +kernel) rfl ?_
    refine he_iload (n := 86) (i := 4) (by decide +kernel) rfl ?_
    by_cases g86 : e = a
    · skip
      refine he_cmpeq_t (n := 89) (t := 99) (by decide +kernel) (by omega) ?_
      refine he_iconst (n := 100) (c := 0) (by decide +kernel) (by decide) ?_
      intro cb99 hcb99
      refine he_retz (by decide +kernel) (by omega) ?_
      exact noL _ (by omega) (if_pos (.inl g86))
    refine he_cmpeq_f (n := 89) (t := 99) (by decide +kernel) (by omega) ?_
    refine he_iload (n := 91) (i := 5) (by decide +kernel) rfl ?_
    refine he_iload (n := 93) (i := 4) (by decide +kernel) rfl ?_
    refine he_isub (n := 94) (by decide +kernel) (by omega) (by omega) ?_
    intro vb93 hvb93
    refine he_iconst (n := 96) (c := 8) (by decide +kernel) (by decide) ?_
    intro cb94 hcb94
    by_cases g96 : 8 < e - a
    · skip
      refine he_cmple_f (n := 99) (t := 101) (by decide +kernel) (by omega) ?_
      refine he_iconst (n := 100) (c := 0) (by decide +kernel) (by decide) ?_
      intro cb99 hcb99
      refine he_retz (by decide +kernel) (by omega) ?_
      exact noL _ (by omega) (if_pos (.inr g96))
    refine he_cmple_t (n := 99) (t := 101) (by decide +kernel) (by omega) ?_
    refine he_iload (n := 103) (i := 4) (by decide +kernel) rfl ?_
    refine he_iconst (n := 104) (c := 1) (by decide +kernel) (by decide) ?_
    intro cb103 hcb103
    refine he_iadd (n := 105) (by decide +kernel) (by omega) (by omega) ?_
    intro vb104 hvb104
    refine he_istore (n := 107) (i := 6) (by decide +kernel) rfl ?_
    refine he_aload (n := 108) (i := 0) (by decide +kernel) rfl ?_
    refine he_getr (n := 111) (ci := 9) (j := 26) (ns := [4203, 65]) (b := 253) hV.1 (by decide +kernel) rfl rfl (by decide +kernel) ?_
    refine he_iload (n := 113) (i := 4) (by decide +kernel) rfl ?_
    refine hb_ld (n := 114) (kind := 64) hV.1 (by decide +kernel) rfl rfl (.inl rfl) (by omega) (show _ < (201 : Int) by omega) hb_at1 ?_
    intro vb113 hvb113 lvb113 uvb113
    refine he_iconst (n := 116) (c := 32) (by decide +kernel) (by decide) ?_
    intro cb114 hcb114
    rw [show x4.toInt.toNat = a by omega, t3] at hvb113
    have dx : xml (hv M0 253) st a e = (if hv M0 253 a = 32 then (if st.1 = -1 then none else xmbs (hv M0 253) (e - (a + 1)) (a + 1) st) else if xmc (hv M0 253) st a e then xmbs (hv M0 253) (e - (a + 2)) (a + 2) (hv M0 253 a, xmset st.2.1 (hv M0 253 a), st.2.2.1, st.2.2.2) else none) := by unfold xml; rw [if_neg (by omega)]
    have tail : ∀ (st1 : xMs) (y2 y3 y6 : Int32) (g : Nat), y6.toInt = (g : Int) → a < g → g ≤ e → y2 = st1.2.1 → (65 ≤ st1.1 ∧ st1.1 ≤ 90 ∧ y3.toInt = st1.1) → xml (hv M0 253) st a e = xmbs (hv M0 253) (e - g) g st1 → (∀ k, g ≤ k → k < e → 32 ≤ hv M0 253 k ∧ hv M0 253 k ≤ 126) → yMV s M0 M st1 → mq_R mq_PP (d + 1) 137 188 [some (.ref 234), some (.int x1), some (.int y2), some (.int y3), some (.int x4), some (.int x5), some (.int y6), o7] [] (M, z, u) Q := by
      intro st1 y2 y3 y6 g k1 k2 k3 k4 k5 k6 k7 kV
      refine he_iload (n := 190) (i := 6) (by decide +kernel) rfl ?_
      refine he_istore (n := 192) (i := 7) (by decide +kernel) rfl ?_
      refine yp_line (s := s) (n := n) (e := e) (c := st1.1) (R := xmbs (hv M0 253) (e - g) g st1) h1 hs hn hn2 k5.2.2 h5 (by omega) (fun k hk => hr k (by omega)) ?_ ?_ (e - g) g st1 M _ (by omega) k1 k7 rfl rfl kV
      · intro M2 st2 x7 hR hc2 hV2
        have hmm := xmbs_m _ _ _ _ hR
        refine he_iload (n := 225) (i := 5) (by decide +kernel) rfl ?_
        refine he_iconst (n := 226) (c := 1) (by decide +kernel) (by decide) ?_
        intro cu225 hcu225
        refine he_iadd (n := 227) (by decide +kernel) (by omega) (by omega) ?_
        intro vu226 hvu226
        refine he_istore (n := 229) (i := 4) (by decide +kernel) rfl ?_
        refine he_goto (t := 7) (by decide +kernel) ?_
        refine ih (e + 1) st2 M2 _ _ _ _ _ _ (by omega) (by omega) (by omega) (by rw [hmm.2]; exact k4) (.inr (by rw [hc2]; exact k5)) ?_ hV2
        rw [← eR, eS, k6, hR]
      · intro M' r hR hr0 hm' f1 f2 f3
        exact K0 M' r (xman_no han eR (fun e' p1 p2 p3 p4 => by rw [only e' p1 p2 p3 p4, k6]; exact hR)) hr0 hm' f1 f2 f3
    by_cases g116 : hv M0 253 a = 32
    · rw [if_pos g116] at dx
      refine he_cmpeq_t (n := 119) (t := 182) (by decide +kernel) (by omega) ?_
      by_cases gc : st.1 = -1
      · rw [if_pos gc] at dx
        refine he_iload (n := 183) (i := 3) (by decide +kernel) rfl ?_
        refine he_ifne_f (n := 186) (t := 188) (by decide +kernel) (by omega) ?_
        refine he_iconst (n := 187) (c := 0) (by decide +kernel) (by decide) ?_
        intro cv186 hcv186
        refine he_retz (by decide +kernel) (by omega) ?_
        exact noL _ (by omega) dx
      · rw [if_neg gc] at dx
        refine he_iload (n := 183) (i := 3) (by decide +kernel) rfl ?_
        refine he_ifne_t (n := 186) (t := 188) (by decide +kernel) (by omega) ?_
        exact tail st _ _ _ (a + 1) (by omega) (by omega) (by omega) e2 (by omega) dx (fun k p1 p2 => gr k (by omega) p2) hV
    · rw [if_neg g116] at dx
      refine he_cmpeq_f (n := 119) (t := 182) (by decide +kernel) (by omega) ?_
      refine he_aload (n := 120) (i := 0) (by decide +kernel) rfl ?_
      refine he_getr (n := 123) (ci := 9) (j := 26) (ns := [4203, 65]) (b := 253) hV.1 (by decide +kernel) rfl rfl (by decide +kernel) ?_
      refine he_iload (n := 125) (i := 4) (by decide +kernel) rfl ?_
      refine hb_ld (n := 126) (kind := 64) hV.1 (by decide +kernel) rfl rfl (.inl rfl) (by omega) (show _ < (201 : Int) by omega) hb_at1 ?_
      intro vb125 hvb125 lvb125 uvb125
      refine he_istore (n := 127) (i := 3) (by decide +kernel) rfl ?_
      refine he_iload (n := 129) (i := 4) (by decide +kernel) rfl ?_
      refine he_iconst (n := 130) (c := 2) (by decide +kernel) (by decide) ?_
      intro cb129 hcb129
      refine he_iadd (n := 131) (by decide +kernel) (by omega) (by omega) ?_
      intro vb130 hvb130
      refine he_istore (n := 133) (i := 6) (by decide +kernel) rfl ?_
      refine he_iload (n := 134) (i := 3) (by decide +kernel) rfl ?_
      refine he_iconst (n := 136) (c := 65) (by decide +kernel) (by decide) ?_
      intro cb134 hcb134
      rw [show x4.toInt.toNat = a by omega, t3] at hvb125
      by_cases g136 : vb125.toInt < 65
      · skip
        refine he_cmplt_t (n := 139) (t := 171) (by decide +kernel) (by omega) ?_
        refine he_iconst (n := 172) (c := 0) (by decide +kernel) (by decide) ?_
        intro cb171 hcb171
        refine he_retz (by decide +kernel) (by omega) ?_
        exact noL _ (by omega) (by rw [dx, if_neg (fun h => by obtain ⟨q1, q2, q3, q4, q5⟩ := h; omega)])
      refine he_cmplt_f (n := 139) (t := 171) (by decide +kernel) (by omega) ?_
      refine he_iload (n := 140) (i := 3) (by decide +kernel) rfl ?_
      refine he_iconst (n := 142) (c := 90) (by decide +kernel) (by decide) ?_
      intro cb140 hcb140
      by_cases g142 : 90 < vb125.toInt
      · skip
        refine he_cmpgt_t (n := 145) (t := 171) (by decide +kernel) (by omega) ?_
        refine he_iconst (n := 172) (c := 0) (by decide +kernel) (by decide) ?_
        intro cb171 hcb171
        refine he_retz (by decide +kernel) (by omega) ?_
        exact noL _ (by omega) (by rw [dx, if_neg (fun h => by obtain ⟨q1, q2, q3, q4, q5⟩ := h; omega)])
      refine he_cmpgt_f (n := 145) (t := 171) (by decide +kernel) (by omega) ?_
      refine he_aload (n := 146) (i := 0) (by decide +kernel) rfl ?_
      refine he_getr (n := 149) (ci := 9) (j := 26) (ns := [4203, 65]) (b := 253) hV.1 (by decide +kernel) rfl rfl (by decide +kernel) ?_
      refine he_iload (n := 151) (i := 4) (by decide +kernel) rfl ?_
      refine he_iconst (n := 152) (c := 1) (by decide +kernel) (by decide) ?_
      intro cb151 hcb151
      refine he_iadd (n := 153) (by decide +kernel) (by omega) (by omega) ?_
      intro vb152 hvb152
      refine hb_ld (n := 154) (kind := 64) hV.1 (by decide +kernel) rfl rfl (.inl rfl) (by omega) (show _ < (201 : Int) by omega) hb_at1 ?_
      intro vb153 hvb153 lvb153 uvb153
      refine he_iconst (n := 156) (c := 58) (by decide +kernel) (by decide) ?_
      intro cb154 hcb154
      have q153 : hv M0 253 (a + 1) = vb153.toInt := by rw [← hvb153, show vb152.toInt.toNat = a + 1 by omega, t3]
      by_cases g156 : vb153.toInt = 58
      rotate_left
      · skip
        refine he_cmpne_t (n := 159) (t := 171) (by decide +kernel) (by omega) ?_
        refine he_iconst (n := 172) (c := 0) (by decide +kernel) (by decide) ?_
        intro cb171 hcb171
        refine he_retz (by decide +kernel) (by omega) ?_
        exact noL _ (by omega) (by rw [dx, if_neg (fun h => by obtain ⟨q1, q2, q3, q4, q5⟩ := h; omega)])
      refine he_cmpne_f (n := 159) (t := 171) (by decide +kernel) (by omega) ?_
      refine he_iload (n := 160) (i := 2) (by decide +kernel) rfl ?_
      refine he_iload (n := 161) (i := 3) (by decide +kernel) rfl ?_
      refine he_iconst (n := 163) (c := 65) (by decide +kernel) (by decide) ?_
      intro cb161 hcb161
      refine he_isub (n := 164) (by decide +kernel) (by omega) (by omega) ?_
      intro vb163 hvb163
      refine he_ex2 (o := 16) (n := 165) (by decide +kernel) rfl ?_
      intro vb164 hvb164
      have evb164 : vb164 = x2 >>> (vb163 &&& 31) := hvb164
      have bvb164 := mz_i32 vb164
      refine he_iconst (n := 166) (c := 1) (by decide +kernel) (by decide) ?_
      intro cb165 hcb165
      refine he_ex2 (o := 12) (n := 167) (by decide +kernel) rfl ?_
      intro vb166 hvb166
      have evb166 : vb166 = vb164 &&& cb165 := hvb166
      have bvb166 := mz_i32 vb166
      refine he_iconst (n := 168) (c := 1) (by decide +kernel) (by decide) ?_
      intro cb167 hcb167
      have h2e : 2 ≤ e - a := by
        by_cases q : e = a + 1
        · rw [← q] at q153
          omega
        · omega
      have e7 : vb163 = Int32.ofInt (hv M0 253 a - 65) := xe_oi (by omega)
      have e9 : cb165 = Int32.ofInt 1 := xe_oi (by omega)
      have hse : xseen st.2.1 (hv M0 253 a) ↔ vb166.toInt = 1 := by
        unfold xseen
        rw [← e7, ← e9, ← e2, ← evb164, ← evb166]
      by_cases g168 : vb166.toInt = 1
      · skip
        refine he_cmpne_f (n := 171) (t := 173) (by decide +kernel) (by omega) ?_
        refine he_iconst (n := 172) (c := 0) (by decide +kernel) (by decide) ?_
        intro cb171 hcb171
        refine he_retz (by decide +kernel) (by omega) ?_
        exact noL _ (by omega) (by rw [dx, if_neg (fun h => h.2.2.2.2 (hse.mpr g168))])
      refine he_cmpne_t (n := 171) (t := 173) (by decide +kernel) (by omega) ?_
      refine he_iload (n := 174) (i := 2) (by decide +kernel) rfl ?_
      refine he_iconst (n := 175) (c := 1) (by decide +kernel) (by decide) ?_
      intro cb174 hcb174
      refine he_iload (n := 176) (i := 3) (by decide +kernel) rfl ?_
      refine he_iconst (n := 178) (c := 65) (by decide +kernel) (by decide) ?_
      intro cb176 hcb176
      refine he_isub (n := 179) (by decide +kernel) (by omega) (by omega) ?_
      intro vb178 hvb178
      refine he_ex2 (o := 15) (n := 180) (by decide +kernel) rfl ?_
      intro vb179 hvb179
      have evb179 : vb179 = cb174 <<< (vb178 &&& 31) := hvb179
      have bvb179 := mz_i32 vb179
      refine he_ex2 (o := 13) (n := 181) (by decide +kernel) rfl ?_
      intro vb180 hvb180
      have evb180 : vb180 = x2 ||| vb179 := hvb180
      have bvb180 := mz_i32 vb180
      refine he_istore (n := 182) (i := 2) (by decide +kernel) rfl ?_
      rw [if_pos ⟨h2e, by omega, by omega, by omega, fun h => g168 (hse.mp h)⟩] at dx
      have q180 : vb180 = xmset st.2.1 (hv M0 253 a) := by
        rw [evb180, evb179, e2, show vb178 = Int32.ofInt (hv M0 253 a - 65) from xe_oi (by omega), show cb174 = Int32.ofInt 1 from xe_oi (by omega)]
        rfl
      refine he_iload (n := 183) (i := 3) (by decide +kernel) rfl ?_
      refine he_ifne_t (n := 186) (t := 188) (by decide +kernel) (by omega) ?_
      exact tail (hv M0 253 a, xmset st.2.1 (hv M0 253 a), st.2.2.1, st.2.2.2) _ _ _ (a + 2) (by omega) (by omega) (by omega) q180 ⟨by show 65 ≤ hv M0 253 a; omega, by show hv M0 253 a ≤ 90; omega, by show _ = hv M0 253 a; omega⟩ dx (fun k p1 p2 => gr k (by omega) p2) hV
theorem yp_man {d z u s n : Nat} {M0 : Nat → mq_C} {Q : (Option Value ⊕ Nat) → mq_S → Prop} {x1 : Int32} {M : Nat → mq_C} (h1 : x1.toInt = (s : Int)) (hs : s < 4) (hn : hv M0 234 25 = (n : Int)) (hn2 : n ≤ 200) (hr : ∀ k, k < n → 0 ≤ hv M0 253 k ∧ hv M0 253 k ≤ 255) (hV : yMV s M0 M xm0) (K1 : ∀ (M' : Nat → mq_C) (r : Int32) (st' : xMs), xman (hv M0 253) n = some st' → r.toInt = 1 → yMV s M0 M' st' → Q (.inl (some (.int r))) (M', z, u)) (K0 : ∀ (M' : Nat → mq_C) (r : Int32), xman (hv M0 253) n = none → r.toInt = 0 → mz_sh mz_GG M' → (∀ b, b < 245 ∨ 248 < b → M' b = M0 b) → (∀ b j, b = 245 ∨ b = 248 → j ≠ s → hv M' b j = hv M0 b j) → (∀ j, j < 4 * s ∨ 4 * s + 4 ≤ j → hv M' 246 j = hv M0 246 j) → Q (.inl (some (.int r))) (M', z, u)) : mq_R mq_PP (d + 1) 137 0 [some (.ref 234), some (.int x1), none, none, none, none, none, none] [] (M, z, u) Q := by
  refine he_iconst (n := 1) (c := 0) (by decide +kernel) (by decide) ?_
  intro c0 hc0
  refine he_istore (n := 2) (i := 2) (by decide +kernel) rfl ?_
  refine he_iconst (n := 3) (c := 0) (by decide +kernel) (by decide) ?_
  intro c2 hc2
  refine he_istore (n := 4) (i := 3) (by decide +kernel) rfl ?_
  refine he_iconst (n := 5) (c := 0) (by decide +kernel) (by decide) ?_
  intro c4 hc4
  refine he_istore (n := 7) (i := 4) (by decide +kernel) rfl ?_
  exact yp_man_l h1 hs hn hn2 hr K1 K0 n 0 xm0 M _ _ _ _ _ _ (by omega) (by omega) (by omega) (xo_i32 (by show _ = (0 : Int32).toInt; rw [show (0 : Int32).toInt = 0 from rfl]; omega)) (.inl ⟨rfl, by omega⟩) (by rw [Nat.sub_zero]) hV
