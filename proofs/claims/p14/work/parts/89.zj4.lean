/-! The class's unpacker: what it gives out. -/
theorem xL_get {o : List Int} {x : Int} {i : Nat} (h : i < o.length) : (o ++ [x]).getD i 0 = o.getD i 0 := by
  rw [List.getD_eq_getElem?_getD, List.getD_eq_getElem?_getD, List.getElem?_append_left h]
theorem xL_last {o : List Int} {x : Int} : (o ++ [x]).getD o.length 0 = x := by
  rw [List.getD_eq_getElem?_getD, List.getElem?_append_right (Nat.le_refl _), Nat.sub_self]
  rfl
theorem xV_app {bk : Int} {pk f E a i : Nat} {M0 M M1 M2 : Nat → mq_C} {o : List Int} {v w : Int32} (h : xV pk f E bk M0 M a o) (hM1 : hb_set M 10 i v = M1) (hs1 : mz_sh mz_GG M1) (hi : i = o.length) (hl : o.length < 200) (hM2 : hb_set M1 9 1 w = M2) (hs2 : mz_sh mz_GG M2) (hw : w.toInt = (o.length : Int) + 1) : xV pk f E bk M0 M2 a (o ++ [v.toInt]) := by
  obtain ⟨h1, h2, h3, h4, h5, h6, h7⟩ := h
  have e1 : ∀ b j, b ≠ 10 ∨ j ≠ i → hv M1 b j = hv M b j := by intro b j h; rw [← hM1]; exact hb_set_n h
  have e2 : ∀ b j, b ≠ 9 ∨ j ≠ 1 → hv M2 b j = hv M1 b j := by intro b j h; rw [← hM2]; exact hb_set_n h
  have hU1 : xU pk M0 M1 := ⟨hs1, fun b hb => by rw [← hM1, hb_set_c (by omega)]; exact h1.2.1 b hb, by rw [← hM1, hb_set_c (by decide)]; exact h1.2.2⟩
  refine ⟨xU_set hU1 hM2 hs2 (by decide), ?_, ?_, ?_, h5, ?_, fun j hj => ?_⟩
  · rw [e2 _ _ (.inr (by decide)), e1 _ _ (.inl (by decide))]; exact h2
  · rw [e2 _ _ (.inr (by decide)), e1 _ _ (.inl (by decide))]; exact h3
  · rw [e2 _ _ (.inr (by decide)), e1 _ _ (.inl (by decide))]; exact h4
  · have t : hv (hb_set M1 9 1 w) 9 1 = w.toInt := hb_set_v hs1 rfl (by decide)
    rw [← hM2, t, hw, List.length_append]
    rfl
  · rw [e2 _ _ (.inl (by decide))]
    rw [List.length_append] at hj
    have hj : j < o.length + 1 := hj
    by_cases ej : j = o.length
    · have t : hv (hb_set M 10 i v) 10 i = v.toInt := hb_set_v h1.1 rfl (show i < 200 by omega)
      rw [ej, xL_last, ← hi, ← hM1, t]
    · rw [e1 _ _ (.inr (by omega)), xL_get (by omega)]
      exact h7 j (by omega)
theorem xj_addByte {bk : Int} {d z u pk f E a : Nat} {M0 M : Nat → mq_C} {o : List Int} {Q : (Option Value ⊕ Nat) → mq_S → Prop} {x1 : Int32} (hV : xV pk f E bk M0 M a o) (hx : 0 ≤ x1.toInt ∧ x1.toInt ≤ 255)
    (K1 : ∀ M' : Nat → mq_C, o.length < 200 → xV pk f E bk M0 M' a (o ++ [x1.toInt]) → (∀ b, b ≠ 9 → b ≠ 10 → M' b = M b) → Q (.inl none) (M', z, u))
    (K2 : ∀ M' : Nat → mq_C, ¬ o.length < 200 → xV pk f E 1 M0 M' a o → (∀ b, b ≠ 9 → b ≠ 10 → M' b = M b) → Q (.inl none) (M', z, u)) : mq_R mq_PP d 102 0 [some (.ref 9), some (.int x1)] [] (M, z, u) Q := by
  have vL : hv M 9 1 = (o.length : Int) := hV.2.2.2.2.2.1
  refine he_aload (n := 1) (i := 0) (by decide +kernel) rfl ?_
  refine hb_gfd (n := 4) (ci := 8) (j := 1) (ns := [1068, 15]) hV.1.1 (by decide +kernel) rfl rfl (by decide) rfl ?_
  intro v1 hv1 lv1 uv1
  refine he_iconst (n := 7) (c := 200) (by decide +kernel) (by decide) ?_
  intro c4 hc4
  have q1 : v1.toInt = (o.length : Int) := by rw [← hv1]; exact vL
  by_cases h7 : v1.toInt = c4.toInt
  · skip
    refine he_cmpne_f (n := 10) (t := 16) (by decide +kernel) (by omega) ?_
    refine he_aload (n := 11) (i := 0) (by decide +kernel) rfl ?_
    refine he_iconst (n := 12) (c := 1) (by decide +kernel) (by decide) ?_
    intro c11 hc11
    refine hb_pfd (n := 15) (ci := 8) (j := 5) (t := 1) (ns := [1074, 28]) hV.1.1 (by decide +kernel) rfl rfl (by decide) (.inr ⟨rfl, he_01 (by omega)⟩) ?_
    generalize hM1 : hb_set M 9 5 c11 = M1
    have hm1 : mz_sh mz_GG M1 := by rw [← hM1]; exact hb_set_sh hV.1.1 rfl rfl (by omega) (by omega)
    have eM1 : ∀ b j, b ≠ 9 ∨ j ≠ 5 → hv M1 b j = hv M b j := by intro b j h; rw [← hM1]; exact hb_set_n h
    have sM1 : hv M1 9 5 = c11.toInt := by rw [← hM1]; exact hb_set_v hV.1.1 rfl (by decide)
    have wM1 : ∀ b, b ≠ 9 → M1 b = M b := by intro b h; rw [← hM1]; exact hb_set_c h
    refine he_ret (by decide +kernel) ?_
    exact K2 M1 (by omega) (xV_br hV hM1 hm1 (by omega)) (fun b n1 _ => wM1 b n1)
  · skip
    refine he_cmpne_t (n := 10) (t := 16) (by decide +kernel) (by omega) ?_
    refine he_aload (n := 17) (i := 0) (by decide +kernel) rfl ?_
    refine he_getr (n := 20) (ci := 8) (j := 0) (ns := [1065, 11]) (b := 10) hV.1.1 (by decide +kernel) rfl rfl (by decide +kernel) ?_
    refine he_aload (n := 21) (i := 0) (by decide +kernel) rfl ?_
    refine hb_gfd (n := 24) (ci := 8) (j := 1) (ns := [1068, 15]) hV.1.1 (by decide +kernel) rfl rfl (by decide) rfl ?_
    intro v21 hv21 lv21 uv21
    have q21 : v21.toInt = (o.length : Int) := by rw [← hv21]; exact vL
    refine he_iload (n := 25) (i := 1) (by decide +kernel) rfl ?_
    refine hb_sta (n := 26) (kind := 64) hV.1.1 (by decide +kernel) rfl rfl (.inl rfl) (by omega) (show _ < (200 : Int) by omega) ?_
    generalize hM1 : hb_set M 10 (v21.toInt.toNat) x1 = M1
    have hm1 : mz_sh mz_GG M1 := by rw [← hM1]; exact hb_set_sh hV.1.1 rfl hb_at1 (by omega) (by omega)
    have eM1 : ∀ b j, b ≠ 10 ∨ j ≠ v21.toInt.toNat → hv M1 b j = hv M b j := by intro b j h; rw [← hM1]; exact hb_set_n h
    have sM1 : hv M1 10 (v21.toInt.toNat) = x1.toInt := by rw [← hM1]; exact hb_set_v hV.1.1 rfl (show _ < 200 by omega)
    have wM1 : ∀ b, b ≠ 10 → M1 b = M b := by intro b h; rw [← hM1]; exact hb_set_c h
    refine he_aload (n := 27) (i := 0) (by decide +kernel) rfl ?_
    refine he_dup_r (n := 28) (by decide +kernel) ?_
    refine hb_gfd (n := 31) (ci := 8) (j := 1) (ns := [1068, 15]) hm1 (by decide +kernel) rfl rfl (by decide) rfl ?_
    intro v28 hv28 lv28 uv28
    have q28 : v28.toInt = (o.length : Int) := by rw [← hv28, eM1 _ _ (.inl (by decide))]; exact vL
    refine he_iconst (n := 32) (c := 1) (by decide +kernel) (by decide) ?_
    intro c31 hc31
    refine he_iadd (n := 33) (by decide +kernel) (by omega) (by omega) ?_
    intro v32 hv32
    refine hb_pfd (n := 36) (ci := 8) (j := 1) (t := 0) (ns := [1068, 15]) hm1 (by decide +kernel) rfl rfl (by decide) (.inl rfl) ?_
    generalize hM2 : hb_set M1 9 1 v32 = M2
    have hm2 : mz_sh mz_GG M2 := by rw [← hM2]; exact hb_set_sh hm1 rfl rfl (by omega) (by omega)
    have eM2 : ∀ b j, b ≠ 9 ∨ j ≠ 1 → hv M2 b j = hv M1 b j := by intro b j h; rw [← hM2]; exact hb_set_n h
    have sM2 : hv M2 9 1 = v32.toInt := by rw [← hM2]; exact hb_set_v hm1 rfl (by decide)
    have wM2 : ∀ b, b ≠ 9 → M2 b = M1 b := by intro b h; rw [← hM2]; exact hb_set_c h
    refine he_ret (by decide +kernel) ?_
    exact K1 M2 (by omega) (xV_app hV hM1 hm1 (by omega) (by omega) hM2 hm2 (by omega)) (fun b n1 n2 => (wM2 b n1).trans (wM1 b n2))
/-- n bytes once more, from so far back -/
def xcb (far : Nat) : Nat → List Int → List Int
  | 0, o => o
  | n + 1, o => xcb far n (o ++ [o.getD (o.length - far) 0])
theorem xj_copyBack_l {bk : Int} {d z u pk f E a : Nat} {M0 M0' : Nat → mq_C} {Q : (Option Value ⊕ Nat) → mq_S → Prop} {x1 x2 : Int32} {far : Nat} (h2 : x2.toInt = (far : Int)) (hfar : 1 ≤ far) {R : List Int}
    (K : ∀ M' : Nat → mq_C, xV pk f E bk M0 M' a R → (∀ b, b ≠ 9 → b ≠ 10 → M' b = M0' b) → Q (.inl none) (M', z, u)) : ∀ (m : Nat) (M : Nat → mq_C) (o : List Int) (i : Int32), i.toInt + (m : Int) = x1.toInt → 0 ≤ i.toInt → x1.toInt ≤ 258 → far ≤ o.length → o.length + m ≤ 200 → xV pk f E bk M0 M a o → (∀ b, b ≠ 9 → b ≠ 10 → M b = M0' b) → xcb far m o = R → mq_R mq_PP d 105 35 [some (.ref 9), some (.int x1), some (.int x2), some (.int i)] [] (M, z, u) Q := by
  intro m
  induction m with
  | zero =>
    intro M o i e1 e2 e3 e4 e5 hV hF hR
    refine he_iload (n := 36) (i := 3) (by decide +kernel) rfl ?_
    refine he_iload (n := 37) (i := 1) (by decide +kernel) rfl ?_
    refine he_cmpge_t (n := 40) (t := 76) (by decide +kernel) (by omega) ?_
    refine he_ret (by decide +kernel) ?_
    exact K M (by rw [← hR]; exact hV) hF
  | succ m ih =>
    intro M o i e1 e2 e3 e4 e5 hV hF hR
    have vL : hv M 9 1 = (o.length : Int) := hV.2.2.2.2.2.1
    refine he_iload (n := 36) (i := 3) (by decide +kernel) rfl ?_
    refine he_iload (n := 37) (i := 1) (by decide +kernel) rfl ?_
    refine he_cmpge_f (n := 40) (t := 76) (by decide +kernel) (by omega) ?_
    refine he_aload (n := 41) (i := 0) (by decide +kernel) rfl ?_
    refine he_getr (n := 44) (ci := 8) (j := 0) (ns := [1065, 11]) (b := 10) hV.1.1 (by decide +kernel) rfl rfl (by decide +kernel) ?_
    refine he_aload (n := 45) (i := 0) (by decide +kernel) rfl ?_
    refine hb_gfd (n := 48) (ci := 8) (j := 1) (ns := [1068, 15]) hV.1.1 (by decide +kernel) rfl rfl (by decide) rfl ?_
    intro v45 hv45 lv45 uv45
    refine he_aload (n := 49) (i := 0) (by decide +kernel) rfl ?_
    refine he_getr (n := 52) (ci := 8) (j := 0) (ns := [1065, 11]) (b := 10) hV.1.1 (by decide +kernel) rfl rfl (by decide +kernel) ?_
    refine he_aload (n := 53) (i := 0) (by decide +kernel) rfl ?_
    refine hb_gfd (n := 56) (ci := 8) (j := 1) (ns := [1068, 15]) hV.1.1 (by decide +kernel) rfl rfl (by decide) rfl ?_
    intro v53 hv53 lv53 uv53
    refine he_iload (n := 57) (i := 2) (by decide +kernel) rfl ?_
    have q45 : v45.toInt = (o.length : Int) := by rw [← hv45]; exact vL
    have q53 : v53.toInt = (o.length : Int) := by rw [← hv53]; exact vL
    refine he_isub (n := 58) (by decide +kernel) (by omega) (by omega) ?_
    intro v57 hv57
    refine hb_ld (n := 59) (kind := 64) hV.1.1 (by decide +kernel) rfl rfl (.inl rfl) (by omega) (show _ < (200 : Int) by omega) hb_at1 ?_
    intro v58 hv58 lv58 uv58
    have q58 : v58.toInt = o.getD (o.length - far) 0 := by
      rw [← hv58, show v57.toInt.toNat = o.length - far by omega]
      exact hV.2.2.2.2.2.2 _ (by omega)
    refine hb_sta (n := 60) (kind := 64) hV.1.1 (by decide +kernel) rfl rfl (.inl rfl) (by omega) (show _ < (200 : Int) by omega) ?_
    generalize hM1 : hb_set M 10 (v45.toInt.toNat) v58 = M1
    have hm1 : mz_sh mz_GG M1 := by rw [← hM1]; exact hb_set_sh hV.1.1 rfl hb_at1 (by omega) (by omega)
    have eM1 : ∀ b j, b ≠ 10 ∨ j ≠ v45.toInt.toNat → hv M1 b j = hv M b j := by intro b j h; rw [← hM1]; exact hb_set_n h
    have sM1 : hv M1 10 (v45.toInt.toNat) = v58.toInt := by rw [← hM1]; exact hb_set_v hV.1.1 rfl (show _ < 200 by omega)
    have wM1 : ∀ b, b ≠ 10 → M1 b = M b := by intro b h; rw [← hM1]; exact hb_set_c h
    refine he_aload (n := 61) (i := 0) (by decide +kernel) rfl ?_
    refine he_dup_r (n := 62) (by decide +kernel) ?_
    refine hb_gfd (n := 65) (ci := 8) (j := 1) (ns := [1068, 15]) hm1 (by decide +kernel) rfl rfl (by decide) rfl ?_
    intro v62 hv62 lv62 uv62
    have q62 : v62.toInt = (o.length : Int) := by rw [← hv62, eM1 _ _ (.inl (by decide))]; exact vL
    refine he_iconst (n := 66) (c := 1) (by decide +kernel) (by decide) ?_
    intro c65 hc65
    refine he_iadd (n := 67) (by decide +kernel) (by omega) (by omega) ?_
    intro v66 hv66
    refine hb_pfd (n := 70) (ci := 8) (j := 1) (t := 0) (ns := [1068, 15]) hm1 (by decide +kernel) rfl rfl (by decide) (.inl rfl) ?_
    generalize hM2 : hb_set M1 9 1 v66 = M2
    have hm2 : mz_sh mz_GG M2 := by rw [← hM2]; exact hb_set_sh hm1 rfl rfl (by omega) (by omega)
    have eM2 : ∀ b j, b ≠ 9 ∨ j ≠ 1 → hv M2 b j = hv M1 b j := by intro b j h; rw [← hM2]; exact hb_set_n h
    have sM2 : hv M2 9 1 = v66.toInt := by rw [← hM2]; exact hb_set_v hm1 rfl (by decide)
    have wM2 : ∀ b, b ≠ 9 → M2 b = M1 b := by intro b h; rw [← hM2]; exact hb_set_c h
    refine he_iinc (n := 73) (i := 3) (c := 1) (L' := fun v => [some (.ref (9)), some (.int x1), some (.int x2), some (.int v)]) (by decide +kernel) (by decide) rfl (fun _ => rfl) (by omega) (by omega) ?_
    intro i70 hi70
    refine he_goto (t := 35) (by decide +kernel) ?_
    have hV2 := xV_app hV hM1 hm1 (by omega) (by omega) hM2 hm2 (by omega)
    refine ih M2 _ _ (by omega) (by omega) e3 (by rw [List.length_append]; omega) (by rw [List.length_append]; show o.length + 1 + m ≤ 200; omega) hV2 (fun b n1 n2 => ((wM2 b n1).trans (wM1 b n2)).trans (hF b n1 n2)) ?_
    rw [q58]
    exact hR
theorem xj_copyBack {bk : Int} {d z u pk f E a : Nat} {M0 M : Nat → mq_C} {o : List Int} {Q : (Option Value ⊕ Nat) → mq_S → Prop} {x1 x2 : Int32} {n far : Nat} (hV : xV pk f E bk M0 M a o) (h1 : x1.toInt = (n : Int)) (hn : n ≤ 258) (h2 : x2.toInt = (far : Int)) (hfar : 1 ≤ far ∨ ¬ bk = 0) (hb : bk = 0 ∨ bk = 1)
    (K1 : ∀ M' : Nat → mq_C, bk = 0 → far ≤ o.length → n ≤ 200 - o.length → xV pk f E 0 M0 M' a (xcb far n o) → (∀ b, b ≠ 9 → b ≠ 10 → M' b = M b) → Q (.inl none) (M', z, u))
    (K2 : ∀ M' : Nat → mq_C, (bk = 1 ∨ o.length < far ∨ 200 - o.length < n) → xV pk f E 1 M0 M' a o → (∀ b, b ≠ 9 → b ≠ 10 → M' b = M b) → Q (.inl none) (M', z, u)) : mq_R mq_PP d 105 0 [some (.ref 9), some (.int x1), some (.int x2), none] [] (M, z, u) Q := by
  have vL : hv M 9 1 = (o.length : Int) := hV.2.2.2.2.2.1
  have vB : hv M 9 5 = bk := hV.2.2.2.1
  refine he_aload (n := 1) (i := 0) (by decide +kernel) rfl ?_
  refine hb_gfd (n := 4) (ci := 8) (j := 5) (ns := [1074, 28]) hV.1.1 (by decide +kernel) rfl rfl (by decide) rfl ?_
  intro v1 hv1 lv1 uv1
  have q1 : v1.toInt = bk := by rw [← hv1]; exact vB
  by_cases h4 : v1.toInt = 0
  · skip
    refine he_ifne_f (n := 7) (t := 27) (by decide +kernel) (by omega) ?_
    refine he_iload (n := 8) (i := 2) (by decide +kernel) rfl ?_
    refine he_aload (n := 9) (i := 0) (by decide +kernel) rfl ?_
    refine hb_gfd (n := 12) (ci := 8) (j := 1) (ns := [1068, 15]) hV.1.1 (by decide +kernel) rfl rfl (by decide) rfl ?_
    intro v9 hv9 lv9 uv9
    have q9 : v9.toInt = (o.length : Int) := by rw [← hv9]; exact vL
    by_cases h12 : v9.toInt < x2.toInt
    · skip
      refine he_cmpgt_t (n := 15) (t := 27) (by decide +kernel) (by omega) ?_
      refine he_aload (n := 28) (i := 0) (by decide +kernel) rfl ?_
      refine he_iconst (n := 29) (c := 1) (by decide +kernel) (by decide) ?_
      intro c28 hc28
      refine hb_pfd (n := 32) (ci := 8) (j := 5) (t := 1) (ns := [1074, 28]) hV.1.1 (by decide +kernel) rfl rfl (by decide) (.inr ⟨rfl, he_01 (by omega)⟩) ?_
      generalize hM1 : hb_set M 9 5 c28 = M1
      have hm1 : mz_sh mz_GG M1 := by rw [← hM1]; exact hb_set_sh hV.1.1 rfl rfl (by omega) (by omega)
      have eM1 : ∀ b j, b ≠ 9 ∨ j ≠ 5 → hv M1 b j = hv M b j := by intro b j h; rw [← hM1]; exact hb_set_n h
      have sM1 : hv M1 9 5 = c28.toInt := by rw [← hM1]; exact hb_set_v hV.1.1 rfl (by decide)
      have wM1 : ∀ b, b ≠ 9 → M1 b = M b := by intro b h; rw [← hM1]; exact hb_set_c h
      refine he_ret (by decide +kernel) ?_
      exact K2 M1 (.inr (.inl (by omega))) (xV_br hV hM1 hm1 (by omega)) (fun b n1 _ => wM1 b n1)
    · skip
      refine he_cmpgt_f (n := 15) (t := 27) (by decide +kernel) (by omega) ?_
      refine he_iload (n := 16) (i := 1) (by decide +kernel) rfl ?_
      refine he_iconst (n := 19) (c := 200) (by decide +kernel) (by decide) ?_
      intro c16 hc16
      refine he_aload (n := 20) (i := 0) (by decide +kernel) rfl ?_
      refine hb_gfd (n := 23) (ci := 8) (j := 1) (ns := [1068, 15]) hV.1.1 (by decide +kernel) rfl rfl (by decide) rfl ?_
      intro v20 hv20 lv20 uv20
      refine he_isub (n := 24) (by decide +kernel) (by omega) (by omega) ?_
      intro v23 hv23
      have q20 : v20.toInt = (o.length : Int) := by rw [← hv20]; exact vL
      by_cases h24 : x1.toInt ≤ v23.toInt
      · skip
        refine he_cmple_t (n := 27) (t := 33) (by decide +kernel) (by omega) ?_
        refine he_iconst (n := 34) (c := 0) (by decide +kernel) (by decide) ?_
        intro c33 hc33
        refine he_istore (n := 35) (i := 3) (by decide +kernel) rfl ?_
        obtain rfl : bk = 0 := by omega
        exact xj_copyBack_l h2 (by omega) (fun M' h1 h2 => K1 M' rfl (by omega) (by omega) h1 h2) n M o _ (by omega) (by omega) (by omega) (by omega) (by omega) hV (fun _ _ _ => rfl) rfl
      · skip
        refine he_cmple_f (n := 27) (t := 33) (by decide +kernel) (by omega) ?_
        refine he_aload (n := 28) (i := 0) (by decide +kernel) rfl ?_
        refine he_iconst (n := 29) (c := 1) (by decide +kernel) (by decide) ?_
        intro c28 hc28
        refine hb_pfd (n := 32) (ci := 8) (j := 5) (t := 1) (ns := [1074, 28]) hV.1.1 (by decide +kernel) rfl rfl (by decide) (.inr ⟨rfl, he_01 (by omega)⟩) ?_
        generalize hM1 : hb_set M 9 5 c28 = M1
        have hm1 : mz_sh mz_GG M1 := by rw [← hM1]; exact hb_set_sh hV.1.1 rfl rfl (by omega) (by omega)
        have eM1 : ∀ b j, b ≠ 9 ∨ j ≠ 5 → hv M1 b j = hv M b j := by intro b j h; rw [← hM1]; exact hb_set_n h
        have sM1 : hv M1 9 5 = c28.toInt := by rw [← hM1]; exact hb_set_v hV.1.1 rfl (by decide)
        have wM1 : ∀ b, b ≠ 9 → M1 b = M b := by intro b h; rw [← hM1]; exact hb_set_c h
        refine he_ret (by decide +kernel) ?_
        exact K2 M1 (.inr (.inr (by omega))) (xV_br hV hM1 hm1 (by omega)) (fun b n1 _ => wM1 b n1)
  · skip
    refine he_ifne_t (n := 7) (t := 27) (by decide +kernel) (by omega) ?_
    refine he_aload (n := 28) (i := 0) (by decide +kernel) rfl ?_
    refine he_iconst (n := 29) (c := 1) (by decide +kernel) (by decide) ?_
    intro c28 hc28
    refine hb_pfd (n := 32) (ci := 8) (j := 5) (t := 1) (ns := [1074, 28]) hV.1.1 (by decide +kernel) rfl rfl (by decide) (.inr ⟨rfl, he_01 (by omega)⟩) ?_
    generalize hM1 : hb_set M 9 5 c28 = M1
    have hm1 : mz_sh mz_GG M1 := by rw [← hM1]; exact hb_set_sh hV.1.1 rfl rfl (by omega) (by omega)
    have eM1 : ∀ b j, b ≠ 9 ∨ j ≠ 5 → hv M1 b j = hv M b j := by intro b j h; rw [← hM1]; exact hb_set_n h
    have sM1 : hv M1 9 5 = c28.toInt := by rw [← hM1]; exact hb_set_v hV.1.1 rfl (by decide)
    have wM1 : ∀ b, b ≠ 9 → M1 b = M b := by intro b h; rw [← hM1]; exact hb_set_c h
    refine he_ret (by decide +kernel) ?_
    exact K2 M1 (.inl (by omega)) (xV_br hV hM1 hm1 (by omega)) (fun b n1 _ => wM1 b n1)
/-- n whole bytes -/
def xby (B : Nat → Int) : Nat → Nat → List Int → List Int
  | 0, _, o => o
  | n + 1, a, o => xby B n (a + 8) (o ++ [xb B a 8])
theorem xe_byte {v : Int} (h0 : 0 ≤ v) (h1 : v ≤ 255) : v = v / 1 % 2 + v / 2 % 2 * 2 + v / 4 % 2 * 4 + v / 8 % 2 * 8 + v / 16 % 2 * 16 + v / 32 % 2 * 32 + v / 64 % 2 * 64 + v / 128 % 2 * 128 := by omega
theorem xB_byte {M : Nat → mq_C} {pk f q : Nat} (h0 : 0 ≤ hv M pk (f + q)) (h1 : hv M pk (f + q) ≤ 255) : xb (fun i => xB M pk (8 * f + i)) (8 * q) 8 = hv M pk (f + q) := by
  have e : ∀ i, i < 8 → xB M pk (8 * f + (8 * q + i)) = hv M pk (f + q) / 2 ^ i % 2 := by
    intro i hi
    unfold xB
    rw [show (8 * f + (8 * q + i)) / 8 = f + q by omega, show (8 * f + (8 * q + i)) % 8 = i by omega]
  have t := xe_byte h0 h1
  show 0 + xB M pk (8 * f + (8 * q + 0)) * 2 ^ 0 + xB M pk (8 * f + (8 * q + 1)) * 2 ^ 1 + xB M pk (8 * f + (8 * q + 2)) * 2 ^ 2 + xB M pk (8 * f + (8 * q + 3)) * 2 ^ 3 + xB M pk (8 * f + (8 * q + 4)) * 2 ^ 4 + xB M pk (8 * f + (8 * q + 5)) * 2 ^ 5 + xB M pk (8 * f + (8 * q + 6)) * 2 ^ 6 + xB M pk (8 * f + (8 * q + 7)) * 2 ^ 7 = _
  rw [e 0 (by decide), e 1 (by decide), e 2 (by decide), e 3 (by decide), e 4 (by decide), e 5 (by decide), e 6 (by decide), e 7 (by decide)]
  generalize hv M pk (f + q) = v at t ⊢
  have p0 : (2 : Int) ^ 0 = 1 := by decide
  have p1 : (2 : Int) ^ 1 = 2 := by decide
  have p2 : (2 : Int) ^ 2 = 4 := by decide
  have p3 : (2 : Int) ^ 3 = 8 := by decide
  have p4 : (2 : Int) ^ 4 = 16 := by decide
  have p5 : (2 : Int) ^ 5 = 32 := by decide
  have p6 : (2 : Int) ^ 6 = 64 := by decide
  have p7 : (2 : Int) ^ 7 = 128 := by decide
  rw [p0, p1, p2, p3, p4, p5, p6, p7]
  generalize v / 1 % 2 = a0 at t ⊢
  generalize v / 2 % 2 = a1 at t ⊢
  generalize v / 4 % 2 = a2 at t ⊢
  generalize v / 8 % 2 = a3 at t ⊢
  generalize v / 16 % 2 = a4 at t ⊢
  generalize v / 32 % 2 = a5 at t ⊢
  generalize v / 64 % 2 = a6 at t ⊢
  generalize v / 128 % 2 = a7 at t ⊢
  omega
theorem xj_copyBytes_l {bk : Int} {d z u pk f E : Nat} {M0 M0' : Nat → mq_C} {Q : (Option Value ⊕ Nat) → mq_S → Prop} {ln : Nat} {x1 : Int32} (hp : mz_GG.1 pk = some (64, ln, 1, [(0, 0, 255)])) (he : 8 * f + E ≤ 8 * ln) (hl : ln ≤ 240) (h9 : pk < 9 ∨ 24 ≤ pk) {R : List Int} {aR : Nat}
    (K : ∀ M' : Nat → mq_C, xV pk f E bk M0 M' aR R → (∀ b, b ≠ 9 → b ≠ 10 → M' b = M0' b) → Q (.inl none) (M', z, u)) : ∀ (m q : Nat) (M : Nat → mq_C) (o : List Int) (i : Int32), i.toInt + (m : Int) = x1.toInt → 0 ≤ i.toInt → x1.toInt ≤ 65535 → o.length + m ≤ 200 → 8 * q + 8 * m ≤ E → xV pk f E bk M0 M (8 * q) o → (∀ b, b ≠ 9 → b ≠ 10 → M b = M0' b) → xby (fun i => xB M0 pk (8 * f + i)) m (8 * q) o = R → 8 * q + 8 * m = aR → mq_R mq_PP d 95 36 [some (.ref 9), some (.int x1), some (.int i)] [] (M, z, u) Q := by
  intro m
  induction m with
  | zero =>
    intro q M o i e1 e2 e3 e4 e5 hV hF hR hA
    refine he_iload (n := 37) (i := 2) (by decide +kernel) rfl ?_
    refine he_iload (n := 38) (i := 1) (by decide +kernel) rfl ?_
    refine he_cmpge_t (n := 41) (t := 88) (by decide +kernel) (by omega) ?_
    refine he_ret (by decide +kernel) ?_
    exact K M (by rw [← hR, ← hA]; exact hV) hF
  | succ m ih =>
    intro q M o i e1 e2 e3 e4 e5 hV hF hR hA
    have vL : hv M 9 1 = (o.length : Int) := hV.2.2.2.2.2.1
    have vA : hv M 9 3 = 8 * (f : Int) + ((8 * q : Nat) : Int) := hV.2.1
    refine he_iload (n := 37) (i := 2) (by decide +kernel) rfl ?_
    refine he_iload (n := 38) (i := 1) (by decide +kernel) rfl ?_
    refine he_cmpge_f (n := 41) (t := 88) (by decide +kernel) (by omega) ?_
    refine he_aload (n := 42) (i := 0) (by decide +kernel) rfl ?_
    refine he_getr (n := 45) (ci := 8) (j := 0) (ns := [1065, 11]) (b := 10) hV.1.1 (by decide +kernel) rfl rfl (by decide +kernel) ?_
    refine he_aload (n := 46) (i := 0) (by decide +kernel) rfl ?_
    refine hb_gfd (n := 49) (ci := 8) (j := 1) (ns := [1068, 15]) hV.1.1 (by decide +kernel) rfl rfl (by decide) rfl ?_
    intro v46 hv46 lv46 uv46
    refine he_aload (n := 50) (i := 0) (by decide +kernel) rfl ?_
    refine xe_getr (n := 53) (ci := 8) (j := 2) (ns := [1071, 19]) (b := pk) (by decide +kernel) ((hb_kd (a := 9) hV.1.1 rfl).trans rfl) (hV.1.2.2) ?_
    refine he_aload (n := 54) (i := 0) (by decide +kernel) rfl ?_
    refine hb_gfd (n := 57) (ci := 8) (j := 3) (ns := [1072, 22]) hV.1.1 (by decide +kernel) rfl rfl (by decide) rfl ?_
    intro v54 hv54 lv54 uv54
    refine he_iconst (n := 58) (c := 3) (by decide +kernel) (by decide) ?_
    intro c57 hc57
    refine he_ex2 (o := 16) (n := 59) (by decide +kernel) rfl ?_
    intro v58 hv58
    have ev58 : v58 = v54 >>> (c57 &&& 31) := hv58
    have bv58 := mz_i32 v58
    have q46 : v46.toInt = (o.length : Int) := by rw [← hv46]; exact vL
    have q54 : v54.toInt = 8 * (f : Int) + ((8 * q : Nat) : Int) := by rw [← hv54]; exact vA
    have q58 : v58.toInt = v54.toInt / 8 := xe_shr3 (by omega) hc57 ev58
    refine hb_ld (n := 60) (kind := 64) hV.1.1 (by decide +kernel) hp rfl (.inl rfl) (by omega) (show _ < (ln : Int) by omega) hb_at1 ?_
    intro v59 hv59 lv59 uv59
    have q59 : hv M0 pk (f + q) = v59.toInt := by rw [← hv59, hb_vc (hV.1.2.1 pk h9), show v58.toInt.toNat = f + q by omega]
    have q59' : xb (fun i => xB M0 pk (8 * f + i)) (8 * q) 8 = v59.toInt := by rw [xB_byte (by omega) (by omega)]; exact q59
    refine hb_sta (n := 61) (kind := 64) hV.1.1 (by decide +kernel) rfl rfl (.inl rfl) (by omega) (show _ < (200 : Int) by omega) ?_
    generalize hM1 : hb_set M 10 (v46.toInt.toNat) v59 = M1
    have hm1 : mz_sh mz_GG M1 := by rw [← hM1]; exact hb_set_sh hV.1.1 rfl hb_at1 (by omega) (by omega)
    have eM1 : ∀ b j, b ≠ 10 ∨ j ≠ v46.toInt.toNat → hv M1 b j = hv M b j := by intro b j h; rw [← hM1]; exact hb_set_n h
    have sM1 : hv M1 10 (v46.toInt.toNat) = v59.toInt := by rw [← hM1]; exact hb_set_v hV.1.1 rfl (show _ < 200 by omega)
    have wM1 : ∀ b, b ≠ 10 → M1 b = M b := by intro b h; rw [← hM1]; exact hb_set_c h
    refine he_aload (n := 62) (i := 0) (by decide +kernel) rfl ?_
    refine he_dup_r (n := 63) (by decide +kernel) ?_
    refine hb_gfd (n := 66) (ci := 8) (j := 1) (ns := [1068, 15]) hm1 (by decide +kernel) rfl rfl (by decide) rfl ?_
    intro v63 hv63 lv63 uv63
    have q63 : v63.toInt = (o.length : Int) := by rw [← hv63, eM1 _ _ (.inl (by decide))]; exact vL
    refine he_iconst (n := 67) (c := 1) (by decide +kernel) (by decide) ?_
    intro c66 hc66
    refine he_iadd (n := 68) (by decide +kernel) (by omega) (by omega) ?_
    intro v67 hv67
    refine hb_pfd (n := 71) (ci := 8) (j := 1) (t := 0) (ns := [1068, 15]) hm1 (by decide +kernel) rfl rfl (by decide) (.inl rfl) ?_
    generalize hM2 : hb_set M1 9 1 v67 = M2
    have hm2 : mz_sh mz_GG M2 := by rw [← hM2]; exact hb_set_sh hm1 rfl rfl (by omega) (by omega)
    have eM2 : ∀ b j, b ≠ 9 ∨ j ≠ 1 → hv M2 b j = hv M1 b j := by intro b j h; rw [← hM2]; exact hb_set_n h
    have sM2 : hv M2 9 1 = v67.toInt := by rw [← hM2]; exact hb_set_v hm1 rfl (by decide)
    have wM2 : ∀ b, b ≠ 9 → M2 b = M1 b := by intro b h; rw [← hM2]; exact hb_set_c h
    refine he_aload (n := 72) (i := 0) (by decide +kernel) rfl ?_
    refine he_dup_r (n := 73) (by decide +kernel) ?_
    refine hb_gfd (n := 76) (ci := 8) (j := 3) (ns := [1072, 22]) hm2 (by decide +kernel) rfl rfl (by decide) rfl ?_
    intro v73 hv73 lv73 uv73
    have q73 : v73.toInt = 8 * (f : Int) + ((8 * q : Nat) : Int) := by rw [← hv73, eM2 _ _ (.inr (by decide)), eM1 _ _ (.inl (by decide))]; exact vA
    refine he_iconst (n := 78) (c := 8) (by decide +kernel) (by decide) ?_
    intro c76 hc76
    refine he_iadd (n := 79) (by decide +kernel) (by omega) (by omega) ?_
    intro v78 hv78
    refine hb_pfd (n := 82) (ci := 8) (j := 3) (t := 0) (ns := [1072, 22]) hm2 (by decide +kernel) rfl rfl (by decide) (.inl rfl) ?_
    generalize hM3 : hb_set M2 9 3 v78 = M3
    have hm3 : mz_sh mz_GG M3 := by rw [← hM3]; exact hb_set_sh hm2 rfl rfl (by omega) (by omega)
    have eM3 : ∀ b j, b ≠ 9 ∨ j ≠ 3 → hv M3 b j = hv M2 b j := by intro b j h; rw [← hM3]; exact hb_set_n h
    have sM3 : hv M3 9 3 = v78.toInt := by rw [← hM3]; exact hb_set_v hm2 rfl (by decide)
    have wM3 : ∀ b, b ≠ 9 → M3 b = M2 b := by intro b h; rw [← hM3]; exact hb_set_c h
    refine he_iinc (n := 85) (i := 2) (c := 1) (L' := fun v => [some (.ref (9)), some (.int x1), some (.int v)]) (by decide +kernel) (by decide) rfl (fun _ => rfl) (by omega) (by omega) ?_
    intro i82 hi82
    refine he_goto (t := 36) (by decide +kernel) ?_
    have hV2 := xV_app hV hM1 hm1 (by omega) (by omega) hM2 hm2 (by omega)
    have hV3 : xV pk f E bk M0 M3 (8 * (q + 1)) (o ++ [v59.toInt]) := xV_at hV2 hM3 hm3 (by omega) (by omega)
    refine ih (q + 1) M3 _ _ (by omega) (by omega) e3 (by rw [List.length_append]; show o.length + 1 + m ≤ 200; omega) (by omega) hV3 (fun b n1 n2 => ((wM3 b n1).trans ((wM2 b n1).trans (wM1 b n2))).trans (hF b n1 n2)) ?_ (by omega)
    rw [← q59', show 8 * (q + 1) = 8 * q + 8 by omega]
    exact hR
theorem xj_copyBytes {bk : Int} {d z u pk f E : Nat} {M0 M : Nat → mq_C} {o : List Int} {Q : (Option Value ⊕ Nat) → mq_S → Prop} {ln q n : Nat} {x1 : Int32} (hp : mz_GG.1 pk = some (64, ln, 1, [(0, 0, 255)])) (he : 8 * f + E ≤ 8 * ln) (hl : ln ≤ 240) (h9 : pk < 9 ∨ 24 ≤ pk) (hV : xV pk f E bk M0 M (8 * q) o) (h1 : x1.toInt = (n : Int)) (hn : n ≤ 65535)
    (K1 : ∀ M' : Nat → mq_C, n ≤ 200 - o.length → 8 * q + 8 * n ≤ E → xV pk f E bk M0 M' (8 * q + 8 * n) (xby (fun i => xB M0 pk (8 * f + i)) n (8 * q) o) → (∀ b, b ≠ 9 → b ≠ 10 → M' b = M b) → Q (.inl none) (M', z, u))
    (K2 : ∀ M' : Nat → mq_C, (200 - o.length < n ∨ E < 8 * q + 8 * n) → xV pk f E 1 M0 M' (8 * q) o → (∀ b, b ≠ 9 → b ≠ 10 → M' b = M b) → Q (.inl none) (M', z, u)) : mq_R mq_PP d 95 0 [some (.ref 9), some (.int x1), none] [] (M, z, u) Q := by
  have vL : hv M 9 1 = (o.length : Int) := hV.2.2.2.2.2.1
  have vA : hv M 9 3 = 8 * (f : Int) + ((8 * q : Nat) : Int) := hV.2.1
  have vE : hv M 9 4 = 8 * (f : Int) + (E : Int) := hV.2.2.1
  refine he_iload (n := 1) (i := 1) (by decide +kernel) rfl ?_
  refine he_iconst (n := 4) (c := 200) (by decide +kernel) (by decide) ?_
  intro c1 hc1
  refine he_aload (n := 5) (i := 0) (by decide +kernel) rfl ?_
  refine hb_gfd (n := 8) (ci := 8) (j := 1) (ns := [1068, 15]) hV.1.1 (by decide +kernel) rfl rfl (by decide) rfl ?_
  intro v5 hv5 lv5 uv5
  refine he_isub (n := 9) (by decide +kernel) (by omega) (by omega) ?_
  intro v8 hv8
  have q5 : v5.toInt = (o.length : Int) := by rw [← hv5]; exact vL
  by_cases h9' : v8.toInt < x1.toInt
  · skip
    refine he_cmpgt_t (n := 12) (t := 28) (by decide +kernel) (by omega) ?_
    refine he_aload (n := 29) (i := 0) (by decide +kernel) rfl ?_
    refine he_iconst (n := 30) (c := 1) (by decide +kernel) (by decide) ?_
    intro c29 hc29
    refine hb_pfd (n := 33) (ci := 8) (j := 5) (t := 1) (ns := [1074, 28]) hV.1.1 (by decide +kernel) rfl rfl (by decide) (.inr ⟨rfl, he_01 (by omega)⟩) ?_
    generalize hM1 : hb_set M 9 5 c29 = M1
    have hm1 : mz_sh mz_GG M1 := by rw [← hM1]; exact hb_set_sh hV.1.1 rfl rfl (by omega) (by omega)
    have eM1 : ∀ b j, b ≠ 9 ∨ j ≠ 5 → hv M1 b j = hv M b j := by intro b j h; rw [← hM1]; exact hb_set_n h
    have sM1 : hv M1 9 5 = c29.toInt := by rw [← hM1]; exact hb_set_v hV.1.1 rfl (by decide)
    have wM1 : ∀ b, b ≠ 9 → M1 b = M b := by intro b h; rw [← hM1]; exact hb_set_c h
    refine he_ret (by decide +kernel) ?_
    exact K2 M1 (.inl (by omega)) (xV_br hV hM1 hm1 (by omega)) (fun b n1 _ => wM1 b n1)
  · skip
    refine he_cmpgt_f (n := 12) (t := 28) (by decide +kernel) (by omega) ?_
    refine he_iconst (n := 14) (c := 8) (by decide +kernel) (by decide) ?_
    intro c12 hc12
    refine he_iload (n := 15) (i := 1) (by decide +kernel) rfl ?_
    refine he_imul (n := 16) (p := 8 * x1.toInt) (by decide +kernel) (by rw [hc12]) (by omega) (by omega) ?_
    intro v15 hv15
    refine he_aload (n := 17) (i := 0) (by decide +kernel) rfl ?_
    refine hb_gfd (n := 20) (ci := 8) (j := 4) (ns := [1073, 25]) hV.1.1 (by decide +kernel) rfl rfl (by decide) rfl ?_
    intro v17 hv17 lv17 uv17
    refine he_aload (n := 21) (i := 0) (by decide +kernel) rfl ?_
    refine hb_gfd (n := 24) (ci := 8) (j := 3) (ns := [1072, 22]) hV.1.1 (by decide +kernel) rfl rfl (by decide) rfl ?_
    intro v21 hv21 lv21 uv21
    refine he_isub (n := 25) (by decide +kernel) (by omega) (by omega) ?_
    intro v24 hv24
    have q17 : v17.toInt = 8 * (f : Int) + (E : Int) := by rw [← hv17]; exact vE
    have q21 : v21.toInt = 8 * (f : Int) + ((8 * q : Nat) : Int) := by rw [← hv21]; exact vA
    by_cases h25 : v15.toInt ≤ v24.toInt
    · skip
      refine he_cmple_t (n := 28) (t := 34) (by decide +kernel) (by omega) ?_
      refine he_iconst (n := 35) (c := 0) (by decide +kernel) (by decide) ?_
      intro c34 hc34
      refine he_istore (n := 36) (i := 2) (by decide +kernel) rfl ?_
      exact xj_copyBytes_l hp he hl h9 (fun M' h1 h2 => K1 M' (by omega) (by omega) h1 h2) n q M o _ (by omega) (by omega) (by omega) (by omega) (by omega) hV (fun _ _ _ => rfl) rfl rfl
    · skip
      refine he_cmple_f (n := 28) (t := 34) (by decide +kernel) (by omega) ?_
      refine he_aload (n := 29) (i := 0) (by decide +kernel) rfl ?_
      refine he_iconst (n := 30) (c := 1) (by decide +kernel) (by decide) ?_
      intro c29 hc29
      refine hb_pfd (n := 33) (ci := 8) (j := 5) (t := 1) (ns := [1074, 28]) hV.1.1 (by decide +kernel) rfl rfl (by decide) (.inr ⟨rfl, he_01 (by omega)⟩) ?_
      generalize hM1 : hb_set M 9 5 c29 = M1
      have hm1 : mz_sh mz_GG M1 := by rw [← hM1]; exact hb_set_sh hV.1.1 rfl rfl (by omega) (by omega)
      have eM1 : ∀ b j, b ≠ 9 ∨ j ≠ 5 → hv M1 b j = hv M b j := by intro b j h; rw [← hM1]; exact hb_set_n h
      have sM1 : hv M1 9 5 = c29.toInt := by rw [← hM1]; exact hb_set_v hV.1.1 rfl (by decide)
      have wM1 : ∀ b, b ≠ 9 → M1 b = M b := by intro b h; rw [← hM1]; exact hb_set_c h
      refine he_ret (by decide +kernel) ?_
      exact K2 M1 (.inr (by omega)) (xV_br hV hM1 hm1 (by omega)) (fun b n1 _ => wM1 b n1)
