/-! The model's put, peek, spoil, finish and enter, byte by byte. -/
def m6_put (M M' : Nat → mq_C) (v : Int64) (n r : Int) : Prop := (r = 1 ∧ ∀ t : Nat, hv M' 249 t = if hv M 234 15 ≤ (t : Int) ∧ (t : Int) < hv M 234 15 + ((xll v n.toNat).length : Int) then (xll v n.toNat).getD (t - (hv M 234 15).toNat) 0 else hv M 249 t) ∨ (r = 0 ∧ M' 249 = M 249)
def m6_peek (M : Nat → mq_C) (p q r : Int) : Prop := (∃ s : Nat, s < 4 ∧ p = (s : Int) ∧ 0 ≤ q ∧ q < hv M 236 s ∧ r = hv M 235 (240 * s + q.toNat)) ∨ (r = -1 ∧ ∀ s : Nat, s < 4 → p = (s : Int) → ¬ (0 ≤ q ∧ q < hv M 236 s))
def m6_spoil (M M' : Nat → mq_C) (p q : Int) (x : Int32) (r : Int) : Prop := (r = 0 ∧ M' 235 = M 235 ∧ ∀ s : Nat, s < 4 → p = (s : Int) → ¬ (0 ≤ q ∧ q < hv M 236 s ∧ 0 ≤ x.toInt ∧ x.toInt ≤ 255)) ∨ (r = 1 ∧ 0 ≤ x.toInt ∧ x.toInt ≤ 255 ∧ ∃ s : Nat, s < 4 ∧ p = (s : Int) ∧ 0 ≤ q ∧ q < hv M 236 s ∧ hv M' 235 (240 * s + q.toNat) = (Int32.ofInt (hv M 235 (240 * s + q.toNat)) ^^^ x).toInt ∧ ∀ t, t ≠ 240 * s + q.toNat → hv M' 235 t = hv M 235 t)
def m6_l (M : Nat → mq_C) : List Int := xrow M 250 (hv M 234 17).toNat ++ yrecs M (hv M 234 19).toNat ++ [80, hv M 234 19] ++ xnz (hv M 234 17) 2
def m6_fin (M M' : Nat → mq_C) (p r : Int) : Prop := (r = 0 ∧ M' 235 = M 235 ∧ M' 236 = M 236) ∨ (r = 1 ∧ ∃ s : Nat, s < 4 ∧ p = (s : Int) ∧ (∀ j, j ≠ s → hv M' 236 j = hv M 236 j) ∧ hv M' 236 s = ((m6_l M).length : Int) ∧ ∀ t : Nat, hv M' 235 t = if 240 * s ≤ t ∧ t < 240 * s + (m6_l M).length then (m6_l M).getD (t - 240 * s) 0 else hv M 235 t)
def m6_ent (M M' : Nat → mq_C) (x1 x2 r : Int) : Prop := (r = 0 ∧ M' 250 = M 250 ∧ M' 251 = M 251 ∧ hv M' 234 15 = hv M 234 15 ∧ hv M' 234 17 = hv M 234 17 ∧ hv M' 234 19 = hv M 234 19) ∨ (r = 1 ∧ ∃ (su le : Int) (D B n : Nat), hv M 234 15 = (D : Int) ∧ hv M 234 17 = (B : Int) ∧ hv M 234 19 = (n : Int) ∧ hv M' 234 15 = 0 ∧ hv M' 234 17 = (B : Int) + 2 + (D : Int) ∧ hv M' 234 19 = (n : Int) + 1 ∧ (∀ t : Nat, hv M' 250 t = if t = B then 75 else if t = B + 1 then x2 else if B + 2 ≤ t ∧ t < B + 2 + D then hv M 249 (t - (B + 2)) else hv M 250 t) ∧ (∀ j, j < 6 * n → hv M' 251 j = hv M 251 j) ∧ yrec M' n = xrec x1 x2 su le (D : Int) (B : Int) ∧ (∀ o', xop x2 (8 * D) (xB M 249) = some o' → su = (xsum o').toInt ∧ le = (o'.length : Int)) ∧ (xop x2 (8 * D) (xB M 249) = none → su = 0 ∧ le = 0))
theorem ym_putx {d z u : Nat} {M : Nat → mq_C} {Q : (Option Value ⊕ Nat) → mq_S → Prop} {x1 : Int64} {x3 : Int32} (hm : mz_sh mz_GG M) (K : ∀ (M' : Nat → mq_C) (r : Int32), m6_put M M' x1 x3.toInt r.toInt → Q (.inl (some (.int r))) (M', z, u)) : mq_R mq_PP d 122 0 [some (.ref 234), some (.long x1), none, some (.int x3), none] [] (M, z, u) Q := by
  refine ym_put hm ?_
  intro M1 M' r hm1 w1 s1 t1 k1 k0
  by_cases hc : 1 ≤ x3.toInt ∧ x3.toInt ≤ 8 ∧ hv M 234 15 + x3.toInt ≤ 120
  · obtain ⟨h1, h2⟩ := k1 hc
    refine K M' r (.inl ⟨h1, fun t => ?_⟩)
    have h3 := h2.2.2.2.2 t
    rw [s1 15 (by decide), hb_vc (w1 249 (by decide))] at h3
    exact h3
  · obtain ⟨h1, rfl⟩ := k0 hc
    exact K _ r (.inr ⟨h1, w1 249 (by decide)⟩)
theorem ym_peek {d z u : Nat} {M : Nat → mq_C} {Q : (Option Value ⊕ Nat) → mq_S → Prop} {x1 x2 : Int32} (hm : mz_sh mz_GG M) (K : ∀ (M' : Nat → mq_C) (r : Int32), m6_peek M x1.toInt x2.toInt r.toInt → Q (.inl (some (.int r))) (M', z, u)) : mq_R mq_PP (d + 1) 129 0 [some (.ref 234), some (.int x1), some (.int x2)] [] (M, z, u) Q := by
  refine he_aload (n := 1) (i := 0) (by decide +kernel) rfl ?_
  refine he_iconst (n := 2) (c := 0) (by decide +kernel) (by decide) ?_
  intro c1 hc1
  refine hb_pfd (n := 5) (ci := 9) (j := 0) (t := 0) (ns := [4177, 126]) hm (by decide +kernel) rfl rfl (by decide) (.inl rfl) ?_
  generalize hM1 : hb_set M 234 0 c1 = M1
  have hm1 : mz_sh mz_GG M1 := by rw [← hM1]; exact hb_set_sh hm rfl rfl (by omega) (by omega)
  have eM1 : ∀ b j, b ≠ 234 ∨ j ≠ 0 → hv M1 b j = hv M b j := by intro b j h; rw [← hM1]; exact hb_set_n h
  have sM1 : hv M1 234 0 = c1.toInt := by rw [← hM1]; exact hb_set_v hm rfl (by decide)
  have wM1 : ∀ b, b ≠ 234 → M1 b = M b := by intro b h; rw [← hM1]; exact hb_set_c h
  refine he_iload (n := 6) (i := 1) (by decide +kernel) rfl ?_
  refine he_iconst (n := 7) (c := 4) (by decide +kernel) (by decide) ?_
  intro c6 hc6
  refine he_s2 (n := 10) (j := 107) (mx := 2) (ns := [5207, 5208, 1011, 210]) (by decide +kernel) (by show 0 ≤ 8; omega) (by show 2 ≤ 2; omega) ?_
  rw [mq_e107]
  refine ym_out ?_
  intro r1 ra1 rb1
  show mq_R mq_PP (d + 1) 129 10 _ [.int r1] (M1, z, u) Q
  by_cases g : 0 ≤ x1.toInt ∧ x1.toInt ≤ 3
  rotate_left
  · have hr1 := rb1 (fun h => g ⟨h.1, by omega⟩)
    refine he_ifne_t (n := 13) (t := 38) (by decide +kernel) (by omega) ?_
    refine he_iconst (n := 39) (c := -1) (by decide +kernel) (by decide) ?_
    intro c38 hc38
    refine he_goto (t := 54) (by decide +kernel) ?_
    refine he_reti (by decide +kernel) ?_
    exact K _ _ (.inr ⟨by omega, fun s h1 h2 => absurd ⟨by omega, by omega⟩ g⟩)
  have hr1 := ra1 ⟨g.1, by omega⟩
  obtain ⟨g1, g2⟩ := id g
  refine he_ifne_f (n := 13) (t := 38) (by decide +kernel) (by omega) ?_
  refine he_iload (n := 14) (i := 2) (by decide +kernel) rfl ?_
  refine he_aload (n := 15) (i := 0) (by decide +kernel) rfl ?_
  refine he_getr (n := 18) (ci := 9) (j := 2) (ns := [4179, 13]) (b := 236) hm1 (by decide +kernel) rfl rfl (by decide +kernel) ?_
  refine he_iload (n := 19) (i := 1) (by decide +kernel) rfl ?_
  refine he_iconst (n := 20) (c := 4) (by decide +kernel) (by decide) ?_
  intro c19 hc19
  refine he_s2 (n := 23) (j := 107) (mx := 2) (ns := [5207, 5208, 1011, 210]) (by decide +kernel) (by show 2 ≤ 8; omega) (by show 2 ≤ 2; omega) ?_
  rw [mq_e107]
  refine ym_out ?_
  intro r2 ra2 rb2
  show mq_R mq_PP (d + 1) 129 23 _ [.int r2, .ref 236, .int x2] (M1, z, u) Q
  have hr2 := ra2 ⟨g1, by omega⟩
  refine he_ifeq_t (n := 26) (t := 30) (by decide +kernel) (by omega) ?_
  refine he_iload (n := 31) (i := 1) (by decide +kernel) rfl ?_
  refine hb_ld (n := 32) (kind := 64) hm1 (by decide +kernel) rfl rfl (.inl rfl) (by omega) (show _ < (4 : Int) by omega) hb_at1 ?_
  intro v31 hv31 lv31 uv31
  have q31 : hv M 236 x1.toInt.toNat = v31.toInt := (eM1 _ _ (.inl (by decide))).symm.trans hv31
  refine he_s2 (n := 35) (j := 107) (mx := 2) (ns := [5207, 5208, 1011, 210]) (by decide +kernel) (by show 0 ≤ 8; omega) (by show 2 ≤ 2; omega) ?_
  rw [mq_e107]
  refine ym_out ?_
  intro r3 ra3 rb3
  show mq_R mq_PP (d + 1) 129 35 _ [.int r3] (M1, z, u) Q
  by_cases hc : 0 ≤ x2.toInt ∧ x2.toInt < v31.toInt
  · have hr3 := ra3 hc
    obtain ⟨c1, c2⟩ := id hc
    refine he_ifeq_t (n := 38) (t := 42) (by decide +kernel) (by omega) ?_
    refine he_aload (n := 43) (i := 0) (by decide +kernel) rfl ?_
    refine he_getr (n := 46) (ci := 9) (j := 1) (ns := [4178, 7]) (b := 235) hm1 (by decide +kernel) rfl rfl (by decide +kernel) ?_
    refine he_iconst (n := 49) (c := 240) (by decide +kernel) (by decide) ?_
    intro c46 hc46
    refine he_iload (n := 50) (i := 1) (by decide +kernel) rfl ?_
    refine he_imul (n := 51) (p := 240 * x1.toInt) (by decide +kernel) (by rw [hc46]) (by omega) (by omega) ?_
    intro v50 hv50
    refine he_iload (n := 52) (i := 2) (by decide +kernel) rfl ?_
    refine he_iadd (n := 53) (by decide +kernel) (by omega) (by omega) ?_
    intro v52 hv52
    refine hb_ld (n := 54) (kind := 64) hm1 (by decide +kernel) rfl rfl (.inl rfl) (by omega) (show _ < (960 : Int) by omega) hb_at1 ?_
    intro v53 hv53 lv53 uv53
    refine he_reti (by decide +kernel) ?_
    refine K _ _ (.inl ⟨x1.toInt.toNat, by omega, by omega, hc.1, by rw [q31]; exact hc.2, ?_⟩)
    rw [← hv53, eM1 _ _ (.inl (by decide)), show v52.toInt.toNat = 240 * x1.toInt.toNat + x2.toInt.toNat by omega]
  · have hr3 := rb3 hc
    refine he_ifeq_f (n := 38) (t := 42) (by decide +kernel) (by omega) ?_
    refine he_iconst (n := 39) (c := -1) (by decide +kernel) (by decide) ?_
    intro c38 hc38
    refine he_goto (t := 54) (by decide +kernel) ?_
    refine he_reti (by decide +kernel) ?_
    refine K _ _ (.inr ⟨by omega, fun s h1 h2 => ?_⟩)
    obtain rfl : s = x1.toInt.toNat := by omega
    rw [q31]
    exact hc
theorem ym_spoil {d z u : Nat} {M : Nat → mq_C} {Q : (Option Value ⊕ Nat) → mq_S → Prop} {x1 x2 x3 : Int32} (hm : mz_sh mz_GG M) (K : ∀ (M' : Nat → mq_C) (r : Int32), m6_spoil M M' x1.toInt x2.toInt x3 r.toInt → Q (.inl (some (.int r))) (M', z, u)) : mq_R mq_PP (d + 1) 128 0 [some (.ref 234), some (.int x1), some (.int x2), some (.int x3)] [] (M, z, u) Q := by
  refine he_aload (n := 1) (i := 0) (by decide +kernel) rfl ?_
  refine he_iconst (n := 2) (c := 0) (by decide +kernel) (by decide) ?_
  intro c1 hc1
  refine hb_pfd (n := 5) (ci := 9) (j := 0) (t := 0) (ns := [4177, 126]) hm (by decide +kernel) rfl rfl (by decide) (.inl rfl) ?_
  generalize hM1 : hb_set M 234 0 c1 = M1
  have hm1 : mz_sh mz_GG M1 := by rw [← hM1]; exact hb_set_sh hm rfl rfl (by omega) (by omega)
  have eM1 : ∀ b j, b ≠ 234 ∨ j ≠ 0 → hv M1 b j = hv M b j := by intro b j h; rw [← hM1]; exact hb_set_n h
  have sM1 : hv M1 234 0 = c1.toInt := by rw [← hM1]; exact hb_set_v hm rfl (by decide)
  have wM1 : ∀ b, b ≠ 234 → M1 b = M b := by intro b h; rw [← hM1]; exact hb_set_c h
  refine he_iload (n := 6) (i := 1) (by decide +kernel) rfl ?_
  refine he_iconst (n := 7) (c := 4) (by decide +kernel) (by decide) ?_
  intro c6 hc6
  have e35 : M1 235 = M 235 := wM1 235 (by decide)
  refine he_s2 (n := 10) (j := 107) (mx := 2) (ns := [5207, 5208, 1011, 210]) (by decide +kernel) (by show 0 ≤ 8; omega) (by show 2 ≤ 2; omega) ?_
  rw [mq_e107]
  refine ym_out ?_
  intro r1 ra1 rb1
  show mq_R mq_PP (d + 1) 128 10 _ [.int r1] (M1, z, u) Q
  by_cases g : 0 ≤ x1.toInt ∧ x1.toInt ≤ 3
  rotate_left
  · have hr1 := rb1 (fun h => g ⟨h.1, by omega⟩)
    refine he_ifne_t (n := 13) (t := 48) (by decide +kernel) (by omega) ?_
    refine he_iconst (n := 49) (c := 0) (by decide +kernel) (by decide) ?_
    intro c48 hc48
    refine he_retz (by decide +kernel) (by omega) ?_
    exact K _ _ (.inl ⟨by omega, e35, fun s h1 h2 => absurd ⟨by omega, by omega⟩ g⟩)
  have hr1 := ra1 ⟨g.1, by omega⟩
  obtain ⟨g1, g2⟩ := id g
  refine he_ifne_f (n := 13) (t := 48) (by decide +kernel) (by omega) ?_
  refine he_iload (n := 14) (i := 3) (by decide +kernel) rfl ?_
  refine he_iconst (n := 17) (c := 256) (by decide +kernel) (by decide) ?_
  intro c14 hc14
  refine he_s2 (n := 20) (j := 107) (mx := 2) (ns := [5207, 5208, 1011, 210]) (by decide +kernel) (by show 0 ≤ 8; omega) (by show 2 ≤ 2; omega) ?_
  rw [mq_e107]
  refine ym_out ?_
  intro r2 ra2 rb2
  show mq_R mq_PP (d + 1) 128 20 _ [.int r2] (M1, z, u) Q
  by_cases gb : 0 ≤ x3.toInt ∧ x3.toInt ≤ 255
  rotate_left
  · have hr2 := rb2 (fun h => gb ⟨h.1, by omega⟩)
    refine he_ifne_t (n := 23) (t := 48) (by decide +kernel) (by omega) ?_
    refine he_iconst (n := 49) (c := 0) (by decide +kernel) (by decide) ?_
    intro c48 hc48
    refine he_retz (by decide +kernel) (by omega) ?_
    exact K _ _ (.inl ⟨by omega, e35, fun s h1 h2 h3 => gb h3.2.2⟩)
  have hr2 := ra2 ⟨gb.1, by omega⟩
  obtain ⟨gb1, gb2⟩ := id gb
  refine he_ifne_f (n := 23) (t := 48) (by decide +kernel) (by omega) ?_
  refine he_iload (n := 24) (i := 2) (by decide +kernel) rfl ?_
  refine he_aload (n := 25) (i := 0) (by decide +kernel) rfl ?_
  refine he_getr (n := 28) (ci := 9) (j := 2) (ns := [4179, 13]) (b := 236) hm1 (by decide +kernel) rfl rfl (by decide +kernel) ?_
  refine he_iload (n := 29) (i := 1) (by decide +kernel) rfl ?_
  refine he_iconst (n := 30) (c := 4) (by decide +kernel) (by decide) ?_
  intro c29 hc29
  refine he_s2 (n := 33) (j := 107) (mx := 2) (ns := [5207, 5208, 1011, 210]) (by decide +kernel) (by show 2 ≤ 8; omega) (by show 2 ≤ 2; omega) ?_
  rw [mq_e107]
  refine ym_out ?_
  intro r3 ra3 rb3
  show mq_R mq_PP (d + 1) 128 33 _ [.int r3, .ref 236, .int x2] (M1, z, u) Q
  have hr3 := ra3 ⟨g1, by omega⟩
  refine he_ifeq_t (n := 36) (t := 40) (by decide +kernel) (by omega) ?_
  refine he_iload (n := 41) (i := 1) (by decide +kernel) rfl ?_
  refine hb_ld (n := 42) (kind := 64) hm1 (by decide +kernel) rfl rfl (.inl rfl) (by omega) (show _ < (4 : Int) by omega) hb_at1 ?_
  intro v41 hv41 lv41 uv41
  have q41 : hv M 236 x1.toInt.toNat = v41.toInt := (eM1 _ _ (.inl (by decide))).symm.trans hv41
  refine he_s2 (n := 45) (j := 107) (mx := 2) (ns := [5207, 5208, 1011, 210]) (by decide +kernel) (by show 0 ≤ 8; omega) (by show 2 ≤ 2; omega) ?_
  rw [mq_e107]
  refine ym_out ?_
  intro r4 ra4 rb4
  show mq_R mq_PP (d + 1) 128 45 _ [.int r4] (M1, z, u) Q
  by_cases hc : 0 ≤ x2.toInt ∧ x2.toInt < v41.toInt
  rotate_left
  · have hr4 := rb4 hc
    refine he_ifeq_f (n := 48) (t := 50) (by decide +kernel) (by omega) ?_
    refine he_iconst (n := 49) (c := 0) (by decide +kernel) (by decide) ?_
    intro c48 hc48
    refine he_retz (by decide +kernel) (by omega) ?_
    refine K _ _ (.inl ⟨by omega, e35, fun s h1 h2 h3 => ?_⟩)
    obtain rfl : s = x1.toInt.toNat := by omega
    rw [q41] at h3
    exact hc ⟨h3.1, h3.2.1⟩
  have hr4 := ra4 hc
  obtain ⟨c1, c2⟩ := id hc
  refine he_ifeq_t (n := 48) (t := 50) (by decide +kernel) (by omega) ?_
  refine he_aload (n := 51) (i := 0) (by decide +kernel) rfl ?_
  refine he_getr (n := 54) (ci := 9) (j := 1) (ns := [4178, 7]) (b := 235) hm1 (by decide +kernel) rfl rfl (by decide +kernel) ?_
  refine he_iconst (n := 57) (c := 240) (by decide +kernel) (by decide) ?_
  intro c54 hc54
  refine he_iload (n := 58) (i := 1) (by decide +kernel) rfl ?_
  refine he_imul (n := 59) (p := 240 * x1.toInt) (by decide +kernel) (by rw [hc54]) (by omega) (by omega) ?_
  intro v58 hv58
  refine he_iload (n := 60) (i := 2) (by decide +kernel) rfl ?_
  refine he_iadd (n := 61) (by decide +kernel) (by omega) (by omega) ?_
  intro v60 hv60
  refine he_aload (n := 62) (i := 0) (by decide +kernel) rfl ?_
  refine he_getr (n := 65) (ci := 9) (j := 1) (ns := [4178, 7]) (b := 235) hm1 (by decide +kernel) rfl rfl (by decide +kernel) ?_
  refine he_iconst (n := 68) (c := 240) (by decide +kernel) (by decide) ?_
  intro c65 hc65
  refine he_iload (n := 69) (i := 1) (by decide +kernel) rfl ?_
  refine he_imul (n := 70) (p := 240 * x1.toInt) (by decide +kernel) (by rw [hc65]) (by omega) (by omega) ?_
  intro v69 hv69
  refine he_iload (n := 71) (i := 2) (by decide +kernel) rfl ?_
  refine he_iadd (n := 72) (by decide +kernel) (by omega) (by omega) ?_
  intro v71 hv71
  refine hb_ld (n := 73) (kind := 64) hm1 (by decide +kernel) rfl rfl (.inl rfl) (by omega) (show _ < (960 : Int) by omega) hb_at1 ?_
  intro v72 hv72 lv72 uv72
  refine he_iload (n := 74) (i := 3) (by decide +kernel) rfl ?_
  refine he_ex2 (o := 14) (n := 75) (by decide +kernel) rfl ?_
  intro v74 hv74
  have ev74 : v74 = v72 ^^^ x3 := hv74
  have bv74 := mz_i32 v74
  have hxr := xx_xor (X := v72) (Y := x3) (by omega) (by omega) (by omega) (by omega)
  rw [← ev74] at hxr
  obtain ⟨xr0, xr1⟩ := hxr
  refine hb_sta (n := 76) (kind := 64) hm1 (by decide +kernel) rfl rfl (.inl rfl) (by omega) (show _ < (960 : Int) by omega) ?_
  generalize hM2 : hb_set M1 235 (v60.toInt.toNat) v74 = M2
  have hm2 : mz_sh mz_GG M2 := by rw [← hM2]; exact hb_set_sh hm1 rfl hb_at1 (by omega) (by omega)
  have eM2 : ∀ b j, b ≠ 235 ∨ j ≠ v60.toInt.toNat → hv M2 b j = hv M1 b j := by intro b j h; rw [← hM2]; exact hb_set_n h
  have sM2 : hv M2 235 (v60.toInt.toNat) = v74.toInt := by rw [← hM2]; exact hb_set_v hm1 rfl (show _ < 960 by omega)
  have wM2 : ∀ b, b ≠ 235 → M2 b = M1 b := by intro b h; rw [← hM2]; exact hb_set_c h
  refine he_iconst (n := 77) (c := 1) (by decide +kernel) (by decide) ?_
  intro c76 hc76
  refine he_retz (by decide +kernel) (by omega) ?_
  have i1 : v60.toInt.toNat = 240 * x1.toInt.toNat + x2.toInt.toNat := by omega
  have i2 : v71.toInt.toNat = 240 * x1.toInt.toNat + x2.toInt.toNat := by omega
  refine K _ _ (.inr ⟨by omega, gb1, gb2, x1.toInt.toNat, by omega, by omega, c1, by rw [q41]; exact c2, ?_, fun t ht => ?_⟩)
  · rw [← i1, sM2, ev74, show v72 = Int32.ofInt (hv M 235 (240 * x1.toInt.toNat + x2.toInt.toNat)) from xe_oi (by rw [← hv72, i2]; exact eM1 _ _ (.inl (by decide))), i1]
  · rw [eM2 _ _ (.inr (by rw [i1]; exact ht))]
    exact eM1 _ _ (.inl (by decide))
theorem ym_finx {d z u : Nat} {M : Nat → mq_C} {Q : (Option Value ⊕ Nat) → mq_S → Prop} {x1 : Int32} (hm : mz_sh mz_GG M) (ht : lx_th M) (b0 : 0 ≤ hv M 234 17) (n0 : 0 ≤ hv M 234 19) (n6 : hv M 234 19 ≤ 6) (hT : hv M 234 17 + ((yrecs M (hv M 234 19).toNat).length : Int) + 4 ≤ 240) (K : ∀ (M' : Nat → mq_C) (r : Int32), m6_fin M M' x1.toInt r.toInt → Q (.inl (some (.int r))) (M', z, u)) : mq_R mq_PP (d + 2) 127 0 [some (.ref 234), some (.int x1), none, none, none] [] (M, z, u) Q := by
  by_cases hg : (0 ≤ x1.toInt ∧ x1.toInt ≤ 3) ∧ hv M 237 x1.toInt.toNat = 0
  · obtain ⟨g, g0⟩ := hg
    have hz0 : hv M 236 x1.toInt.toNat = 0 := by
      rcases ht x1.toInt.toNat (by omega) with h | h
      · exact h.2
      · omega
    refine ym_finish (s := x1.toInt.toNat) (B := (hv M 234 17).toNat) (n := (hv M 234 19).toNat) (by omega) (by omega) hm g0 hz0 (by omega) (by omega) (by omega) (by omega) ?_
    intro M1 M2 M' r hr w1 s1 t1 p1 q1 hG hm' w' s' t17 t19
    have e17 : (((hv M 234 17).toNat : Nat) : Int) = hv M 234 17 := by omega
    have e19 : (((hv M 234 19).toNat : Nat) : Int) = hv M 234 19 := by omega
    rw [e17, e19] at hG
    have hG : yGR x1.toInt.toNat M1 M2 (m6_l M) := hG
    refine K M' r (.inr ⟨hr, x1.toInt.toNat, by omega, by omega, fun j hj => ?_, ?_, fun t => ?_⟩)
    · rw [hb_vc (w' 236 (by decide)), hG.2.2.1 j hj, hb_vc (w1 236 (by decide) (by decide))]
    · rw [hb_vc (w' 236 (by decide)), hG.2.2.2.1, hb_vc (w1 236 (by decide) (by decide)), hz0, Int.zero_add]
    have h3 := hG.2.2.2.2 t
    rw [hb_vc (w1 236 (by decide) (by decide)), hz0, hb_vc (w1 235 (by decide) (by decide))] at h3
    rw [hb_vc (w' 235 (by decide)), h3]
    by_cases c : 240 * x1.toInt.toNat ≤ t ∧ t < 240 * x1.toInt.toNat + (m6_l M).length
    · rw [if_pos c, if_pos ⟨by omega, by omega⟩]
      congr 1
    · rw [if_neg c, if_neg (fun h => c ⟨by omega, by omega⟩)]
  refine he_aload (n := 1) (i := 0) (by decide +kernel) rfl ?_
  refine he_iconst (n := 2) (c := 0) (by decide +kernel) (by decide) ?_
  intro c1 hc1
  refine hb_pfd (n := 5) (ci := 9) (j := 0) (t := 0) (ns := [4177, 126]) hm (by decide +kernel) rfl rfl (by decide) (.inl rfl) ?_
  generalize hM1 : hb_set M 234 0 c1 = M1
  have hm1 : mz_sh mz_GG M1 := by rw [← hM1]; exact hb_set_sh hm rfl rfl (by omega) (by omega)
  have eM1 : ∀ b j, b ≠ 234 ∨ j ≠ 0 → hv M1 b j = hv M b j := by intro b j h; rw [← hM1]; exact hb_set_n h
  have sM1 : hv M1 234 0 = c1.toInt := by rw [← hM1]; exact hb_set_v hm rfl (by decide)
  have wM1 : ∀ b, b ≠ 234 → M1 b = M b := by intro b h; rw [← hM1]; exact hb_set_c h
  refine he_iload (n := 6) (i := 1) (by decide +kernel) rfl ?_
  refine he_iconst (n := 7) (c := 4) (by decide +kernel) (by decide) ?_
  intro c6 hc6
  have e35 : M1 235 = M 235 ∧ M1 236 = M 236 := ⟨wM1 235 (by decide), wM1 236 (by decide)⟩
  refine he_s2 (n := 10) (j := 107) (mx := 2) (ns := [5207, 5208, 1011, 210]) (by decide +kernel) (by show 0 ≤ 8; omega) (by show 2 ≤ 2; omega) ?_
  rw [mq_e107]
  refine ym_out ?_
  intro r1 ra1 rb1
  show mq_R mq_PP (d + 2) 127 10 _ [.int r1] (M1, z, u) Q
  by_cases g : 0 ≤ x1.toInt ∧ x1.toInt ≤ 3
  rotate_left
  · have hr1 := rb1 (fun h => g ⟨h.1, by omega⟩)
    refine he_ifne_t (n := 13) (t := 34) (by decide +kernel) (by omega) ?_
    refine he_iconst (n := 35) (c := 0) (by decide +kernel) (by decide) ?_
    intro c34 hc34
    refine he_retz (by decide +kernel) (by omega) ?_
    exact K _ _ (.inl ⟨by omega, e35.1, e35.2⟩)
  have hr1 := ra1 ⟨g.1, by omega⟩
  have g9 : ¬ hv M 237 x1.toInt.toNat = 0 := fun h => hg ⟨g, h⟩
  obtain ⟨g1, g2⟩ := id g
  refine he_ifne_f (n := 13) (t := 34) (by decide +kernel) (by omega) ?_
  refine he_aload (n := 14) (i := 0) (by decide +kernel) rfl ?_
  refine he_getr (n := 17) (ci := 9) (j := 3) (ns := [4180, 16]) (b := 237) hm1 (by decide +kernel) rfl rfl (by decide +kernel) ?_
  refine he_iload (n := 18) (i := 1) (by decide +kernel) rfl ?_
  refine he_iconst (n := 19) (c := 4) (by decide +kernel) (by decide) ?_
  intro c18 hc18
  refine he_s2 (n := 22) (j := 107) (mx := 2) (ns := [5207, 5208, 1011, 210]) (by decide +kernel) (by show 1 ≤ 8; omega) (by show 2 ≤ 2; omega) ?_
  rw [mq_e107]
  refine ym_out ?_
  intro r2 ra2 rb2
  show mq_R mq_PP (d + 2) 127 22 _ [.int r2, .ref 237] (M1, z, u) Q
  have hr2 := ra2 ⟨g1, by omega⟩
  refine he_ifeq_t (n := 25) (t := 29) (by decide +kernel) (by omega) ?_
  refine he_iload (n := 30) (i := 1) (by decide +kernel) rfl ?_
  refine hb_ld (n := 31) (kind := 65) hm1 (by decide +kernel) rfl rfl (.inr rfl) (by omega) (show _ < (4 : Int) by omega) hb_at1 ?_
  intro v30 hv30 lv30 uv30
  have q30 : hv M 237 x1.toInt.toNat = v30.toInt := (eM1 _ _ (.inl (by decide))).symm.trans hv30
  refine he_ifeq_f (n := 34) (t := 36) (by decide +kernel) (by omega) ?_
  refine he_iconst (n := 35) (c := 0) (by decide +kernel) (by decide) ?_
  intro c34 hc34
  refine he_retz (by decide +kernel) (by omega) ?_
  exact K _ _ (.inl ⟨by omega, e35.1, e35.2⟩)
theorem ym_e64 {d z u : Nat} {Q : (Option Value ⊕ Nat) → mq_S → Prop} {M : Nat → mq_C} {x1 x2 x3 x4 : Int32} (hm : mz_sh mz_GG M) (r19 : 0 ≤ hv M 234 19) (r19' : hv M 234 19 ≤ 6) (r17 : 0 ≤ hv M 234 17) (r17' : hv M 234 17 ≤ 240) (r15 : 0 ≤ hv M 234 15) (r15' : hv M 234 15 ≤ 120) {D B n : Nat} (hD : hv M 234 15 = (D : Int)) (hB : hv M 234 17 = (B : Int)) (hN : hv M 234 19 = (n : Int)) (h3 : x3.toInt = hv M 234 17 + 2 + hv M 234 15 + 12 + hb_nm x1.toInt + 4 + hb_sum (hn_g M) 6)
    (K0 : ∀ r : Int32, r.toInt = 0 → Q (.inl (some (.int r))) (M, z, u)) (K : ∀ (M' : Nat → mq_C) (r : Int32) (su le : Int), r.toInt = 1 → mz_sh mz_GG M' → (∀ b, b ≠ 234 → b < 250 ∨ 257 ≤ b → M' b = M b) → (∀ j, j ≠ 15 → j ≠ 17 → j ≠ 19 → j ≠ 21 → j ≠ 23 → j ≠ 24 → j ≠ 25 → hv M' 234 j = hv M 234 j) → hv M' 234 15 = 0 → hv M' 234 17 = (B : Int) + 2 + (D : Int) → hv M' 234 19 = (n : Int) + 1 → (∀ t : Nat, hv M' 250 t = if t = B then 75 else if t = B + 1 then x2.toInt else if B + 2 ≤ t ∧ t < B + 2 + D then hv M 249 (t - (B + 2)) else hv M 250 t) → (∀ j, j < 6 * n → hv M' 251 j = hv M 251 j) → hv M' 251 (6 * n) = x1.toInt → hv M' 251 (6 * n + 1) = x2.toInt → hv M' 251 (6 * n + 2) = su → hv M' 251 (6 * n + 3) = le → hv M' 251 (6 * n + 4) = (D : Int) → hv M' 251 (6 * n + 5) = (B : Int) → (∀ o', xop x2.toInt (8 * D) (xB M 249) = some o' → su = (xsum o').toInt ∧ le = (o'.length : Int)) → (xop x2.toInt (8 * D) (xB M 249) = none → su = 0 ∧ le = 0) → Q (.inl (some (.int r))) (M', z, u)) : mq_R mq_PP (d + 6) 124 64 [some (.ref 234), some (.int x1), some (.int x2), some (.int x3), some (.int x4), none, none] [] (M, z, u) Q := by
  have hs0 := hn_g0 (M := M) 6
  have hn0 := hn_nm x1.toInt
  refine he_iload (n := 65) (i := 1) (by decide +kernel) rfl ?_
  refine he_s1 (n := 68) (j := 123) (mx := 4) (ns := [5142, 5143, 1011, 194]) (by decide +kernel) (by decide) (by show 1 ≤ 4; omega) ?_
  rw [mq_e123]
  refine hn_ns ?_
  intro r1 hr1
  show mq_R mq_PP (d + 6) 124 68 _ [.int r1] (M, z, u) Q
  by_cases h68 : r1.toInt = 0
  · skip
    refine he_ifeq_t (n := 71) (t := 97) (by decide +kernel) (by omega) ?_
    refine he_iconst (n := 98) (c := 0) (by decide +kernel) (by decide) ?_
    intro c97 hc97
    refine he_retz (by decide +kernel) (by omega) ?_
    exact K0 _ (by omega)
  · skip
    refine he_ifeq_f (n := 71) (t := 97) (by decide +kernel) (by omega) ?_
    refine he_iload (n := 72) (i := 2) (by decide +kernel) rfl ?_
    by_cases h72 : x2.toInt = 0
    · skip
      refine he_ifeq_t (n := 75) (t := 81) (by decide +kernel) (by omega) ?_
      refine he_aload (n := 82) (i := 0) (by decide +kernel) rfl ?_
      refine hb_gfd (n := 85) (ci := 9) (j := 19) (ns := [4196, 197]) hm (by decide +kernel) rfl rfl (by decide) rfl ?_
      intro v82 hv82 lv82 uv82
      refine he_iconst (n := 87) (c := 6) (by decide +kernel) (by decide) ?_
      intro c85 hc85
      by_cases h87 : v82.toInt = c85.toInt
      · skip
        refine he_cmpeq_t (n := 90) (t := 97) (by decide +kernel) (by omega) ?_
        refine he_iconst (n := 98) (c := 0) (by decide +kernel) (by decide) ?_
        intro c97 hc97
        refine he_retz (by decide +kernel) (by omega) ?_
        exact K0 _ (by omega)
      · skip
        refine he_cmpeq_f (n := 90) (t := 97) (by decide +kernel) (by omega) ?_
        refine he_iload (n := 91) (i := 3) (by decide +kernel) rfl ?_
        refine he_iconst (n := 94) (c := 240) (by decide +kernel) (by decide) ?_
        intro c91 hc91
        by_cases h94 : x3.toInt ≤ c91.toInt
        · skip
          refine he_cmple_t (n := 97) (t := 99) (by decide +kernel) (by omega) ?_
          exact ym_e99 (D := D) (B := B) (n := n) hm hD (by omega) hB hN (by omega) (by omega) (by omega) K
        · skip
          refine he_cmple_f (n := 97) (t := 99) (by decide +kernel) (by omega) ?_
          refine he_iconst (n := 98) (c := 0) (by decide +kernel) (by decide) ?_
          intro c97 hc97
          refine he_retz (by decide +kernel) (by omega) ?_
          exact K0 _ (by omega)
    · skip
      refine he_ifeq_f (n := 75) (t := 81) (by decide +kernel) (by omega) ?_
      refine he_iload (n := 76) (i := 2) (by decide +kernel) rfl ?_
      refine he_iconst (n := 78) (c := 8) (by decide +kernel) (by decide) ?_
      intro c76 hc76
      by_cases h78 : ¬ x2.toInt = c76.toInt
      · skip
        refine he_cmpne_t (n := 81) (t := 97) (by decide +kernel) (by omega) ?_
        refine he_iconst (n := 98) (c := 0) (by decide +kernel) (by decide) ?_
        intro c97 hc97
        refine he_retz (by decide +kernel) (by omega) ?_
        exact K0 _ (by omega)
      · skip
        refine he_cmpne_f (n := 81) (t := 97) (by decide +kernel) (by omega) ?_
        refine he_aload (n := 82) (i := 0) (by decide +kernel) rfl ?_
        refine hb_gfd (n := 85) (ci := 9) (j := 19) (ns := [4196, 197]) hm (by decide +kernel) rfl rfl (by decide) rfl ?_
        intro v82 hv82 lv82 uv82
        refine he_iconst (n := 87) (c := 6) (by decide +kernel) (by decide) ?_
        intro c85 hc85
        by_cases h87 : v82.toInt = c85.toInt
        · skip
          refine he_cmpeq_t (n := 90) (t := 97) (by decide +kernel) (by omega) ?_
          refine he_iconst (n := 98) (c := 0) (by decide +kernel) (by decide) ?_
          intro c97 hc97
          refine he_retz (by decide +kernel) (by omega) ?_
          exact K0 _ (by omega)
        · skip
          refine he_cmpeq_f (n := 90) (t := 97) (by decide +kernel) (by omega) ?_
          refine he_iload (n := 91) (i := 3) (by decide +kernel) rfl ?_
          refine he_iconst (n := 94) (c := 240) (by decide +kernel) (by decide) ?_
          intro c91 hc91
          by_cases h94 : x3.toInt ≤ c91.toInt
          · skip
            refine he_cmple_t (n := 97) (t := 99) (by decide +kernel) (by omega) ?_
            exact ym_e99 (D := D) (B := B) (n := n) hm hD (by omega) hB hN (by omega) (by omega) (by omega) K
          · skip
            refine he_cmple_f (n := 97) (t := 99) (by decide +kernel) (by omega) ?_
            refine he_iconst (n := 98) (c := 0) (by decide +kernel) (by decide) ?_
            intro c97 hc97
            refine he_retz (by decide +kernel) (by omega) ?_
            exact K0 _ (by omega)
theorem ym_e30 {d z u : Nat} {Q : (Option Value ⊕ Nat) → mq_S → Prop} {M : Nat → mq_C} {x1 x2 : Int32} (hm : mz_sh mz_GG M) (r19 : 0 ≤ hv M 234 19) (r19' : hv M 234 19 ≤ 6) (r17 : 0 ≤ hv M 234 17) (r17' : hv M 234 17 ≤ 240) (r15 : 0 ≤ hv M 234 15) (r15' : hv M 234 15 ≤ 120) {D B n : Nat} (hD : hv M 234 15 = (D : Int)) (hB : hv M 234 17 = (B : Int)) (hN : hv M 234 19 = (n : Int))
    (K0 : ∀ r : Int32, r.toInt = 0 → Q (.inl (some (.int r))) (M, z, u)) (K : ∀ (M' : Nat → mq_C) (r : Int32) (su le : Int), r.toInt = 1 → mz_sh mz_GG M' → (∀ b, b ≠ 234 → b < 250 ∨ 257 ≤ b → M' b = M b) → (∀ j, j ≠ 15 → j ≠ 17 → j ≠ 19 → j ≠ 21 → j ≠ 23 → j ≠ 24 → j ≠ 25 → hv M' 234 j = hv M 234 j) → hv M' 234 15 = 0 → hv M' 234 17 = (B : Int) + 2 + (D : Int) → hv M' 234 19 = (n : Int) + 1 → (∀ t : Nat, hv M' 250 t = if t = B then 75 else if t = B + 1 then x2.toInt else if B + 2 ≤ t ∧ t < B + 2 + D then hv M 249 (t - (B + 2)) else hv M 250 t) → (∀ j, j < 6 * n → hv M' 251 j = hv M 251 j) → hv M' 251 (6 * n) = x1.toInt → hv M' 251 (6 * n + 1) = x2.toInt → hv M' 251 (6 * n + 2) = su → hv M' 251 (6 * n + 3) = le → hv M' 251 (6 * n + 4) = (D : Int) → hv M' 251 (6 * n + 5) = (B : Int) → (∀ o', xop x2.toInt (8 * D) (xB M 249) = some o' → su = (xsum o').toInt ∧ le = (o'.length : Int)) → (xop x2.toInt (8 * D) (xB M 249) = none → su = 0 ∧ le = 0) → Q (.inl (some (.int r))) (M', z, u)) : ∀ (m : Nat) (x3 x4 : Int32), x4.toInt + (m : Int) = hv M 234 19 → 0 ≤ x4.toInt → x3.toInt = hv M 234 17 + 2 + hv M 234 15 + 12 + hb_nm x1.toInt + 4 + hb_sum (hn_g M) x4.toInt.toNat → x3.toInt ≤ 400 + 16 * x4.toInt → mq_R mq_PP (d + 6) 124 30 [some (.ref 234), some (.int x1), some (.int x2), some (.int x3), some (.int x4), none, none] [] (M, z, u) Q := by
  intro m
  induction m with
  | zero =>
    intro x3 x4 e1 e2 e3 e4
    refine he_iload (n := 32) (i := 4) (by decide +kernel) rfl ?_
    refine he_aload (n := 33) (i := 0) (by decide +kernel) rfl ?_
    refine hb_gfd (n := 36) (ci := 9) (j := 19) (ns := [4196, 197]) hm (by decide +kernel) rfl rfl (by decide) rfl ?_
    intro v33 hv33 lv33 uv33
    refine he_cmpge_t (n := 39) (t := 64) (by decide +kernel) (by omega) ?_
    refine ym_e64 hm r19 r19' r17 r17' r15 r15' hD hB hN ?_ K0 K
    rw [e3]
    have t2 := hn_tail (f := hn_g M) (c := x4.toInt.toNat) (fun e he => by unfold hn_g; rw [if_neg (by omega)]) (6 - x4.toInt.toNat)
    rw [show x4.toInt.toNat + (6 - x4.toInt.toNat) = 6 by omega] at t2
    rw [t2]
  | succ m ih =>
    intro x3 x4 e1 e2 e3 e4
    have hs0 := hn_g0 (M := M) x4.toInt.toNat
    have hn0 := hn_nm x1.toInt
    refine he_iload (n := 32) (i := 4) (by decide +kernel) rfl ?_
    refine he_aload (n := 33) (i := 0) (by decide +kernel) rfl ?_
    refine hb_gfd (n := 36) (ci := 9) (j := 19) (ns := [4196, 197]) hm (by decide +kernel) rfl rfl (by decide) rfl ?_
    intro v33 hv33 lv33 uv33
    refine he_cmpge_f (n := 39) (t := 64) (by decide +kernel) (by omega) ?_
    refine he_iload (n := 40) (i := 3) (by decide +kernel) rfl ?_
    refine he_iconst (n := 42) (c := 12) (by decide +kernel) (by decide) ?_
    intro c40 hc40
    refine he_aload (n := 43) (i := 0) (by decide +kernel) rfl ?_
    refine he_getr (n := 46) (ci := 9) (j := 20) (ns := [4197, 59]) (b := 251) hm (by decide +kernel) rfl rfl (by decide +kernel) ?_
    refine he_iconst (n := 48) (c := 6) (by decide +kernel) (by decide) ?_
    intro c46 hc46
    refine he_iload (n := 50) (i := 4) (by decide +kernel) rfl ?_
    refine he_imul (n := 51) (p := 6 * x4.toInt) (by decide +kernel) (by rw [hc46]) (by omega) (by omega) ?_
    intro v50 hv50
    refine hb_ld (n := 52) (kind := 64) hm (by decide +kernel) rfl rfl (.inl rfl) (by omega) (show _ < (36 : Int) by omega) hb_at1 ?_
    intro v51 hv51 lv51 uv51
    refine he_s1 (n := 55) (j := 123) (mx := 4) (ns := [5142, 5143, 1011, 194]) (by decide +kernel) (by show 2 ≤ 8; omega) (by show 1 ≤ 4; omega) ?_
    rw [mq_e123]
    refine hn_ns ?_
    intro r2 hr2
    show mq_R mq_PP (d + 6) 124 55 _ [.int r2, .int c40, .int x3] (M, z, u) Q
    have hr2b := hn_nm v51.toInt
    refine he_iadd (n := 56) (by decide +kernel) (by omega) (by omega) ?_
    intro v55 hv55
    refine he_iadd (n := 57) (by decide +kernel) (by omega) (by omega) ?_
    intro v56 hv56
    refine he_istore (n := 58) (i := 3) (by decide +kernel) rfl ?_
    refine he_iinc (n := 61) (i := 4) (c := 1) (L' := fun v => [some (.ref (234)), some (.int x1), some (.int x2), some (.int v56), some (.int v), none, none]) (by decide +kernel) (by decide) rfl (fun _ => rfl) (by omega) (by omega) ?_
    intro i58 hi58
    refine he_goto (t := 30) (by decide +kernel) ?_
    refine ih _ _ (by omega) (by omega) ?_ (by omega)
    rw [show i58.toInt.toNat = x4.toInt.toNat + 1 by omega]
    have e9 : hb_sum (hn_g M) (x4.toInt.toNat + 1) = hb_sum (hn_g M) x4.toInt.toNat + hn_g M x4.toInt.toNat := rfl
    have e8 : hn_g M x4.toInt.toNat = 12 + hb_nm v51.toInt := by
      unfold hn_g
      rw [if_pos (by omega), ← hv51, show 6 * x4.toInt.toNat = v50.toInt.toNat by omega]
    rw [e9, e8]
    omega
theorem ym_enter {d z u : Nat} {M : Nat → mq_C} {Q : (Option Value ⊕ Nat) → mq_S → Prop} {x1 x2 : Int32} (hm : mz_sh mz_GG M)
    (K : ∀ (M' : Nat → mq_C) (r : Int32), m6_ent M M' x1.toInt x2.toInt r.toInt → Q (.inl (some (.int r))) (M', z, u)) : mq_R mq_PP (d + 6) 124 0 [some (.ref 234), some (.int x1), some (.int x2), none, none, none, none] [] (M, z, u) Q := by
  refine he_aload (n := 1) (i := 0) (by decide +kernel) rfl ?_
  refine he_iconst (n := 2) (c := 0) (by decide +kernel) (by decide) ?_
  intro c1 hc1
  refine hb_pfd (n := 5) (ci := 9) (j := 0) (t := 0) (ns := [4177, 126]) hm (by decide +kernel) rfl rfl (by decide) (.inl rfl) ?_
  generalize hM1 : hb_set M 234 0 c1 = M1
  have hm1 : mz_sh mz_GG M1 := by rw [← hM1]; exact hb_set_sh hm rfl rfl (by omega) (by omega)
  have eM1 : ∀ b j, b ≠ 234 ∨ j ≠ 0 → hv M1 b j = hv M b j := by intro b j h; rw [← hM1]; exact hb_set_n h
  have sM1 : hv M1 234 0 = c1.toInt := by rw [← hM1]; exact hb_set_v hm rfl (by decide)
  have wM1 : ∀ b, b ≠ 234 → M1 b = M b := by intro b h; rw [← hM1]; exact hb_set_c h
  refine he_aload (n := 6) (i := 0) (by decide +kernel) rfl ?_
  refine hb_gfd (n := 9) (ci := 9) (j := 17) (ns := [4194, 191]) hm1 (by decide +kernel) rfl rfl (by decide) rfl ?_
  intro v6 hv6 lv6 uv6
  refine he_iconst (n := 10) (c := 2) (by decide +kernel) (by decide) ?_
  intro c9 hc9
  refine he_iadd (n := 11) (by decide +kernel) (by omega) (by omega) ?_
  intro v10 hv10
  refine he_aload (n := 12) (i := 0) (by decide +kernel) rfl ?_
  refine hb_gfd (n := 15) (ci := 9) (j := 15) (ns := [4192, 186]) hm1 (by decide +kernel) rfl rfl (by decide) rfl ?_
  intro v12 hv12 lv12 uv12
  refine he_iadd (n := 16) (by decide +kernel) (by omega) (by omega) ?_
  intro v15 hv15
  refine he_iconst (n := 18) (c := 12) (by decide +kernel) (by decide) ?_
  intro c16 hc16
  refine he_iadd (n := 19) (by decide +kernel) (by omega) (by omega) ?_
  intro v18 hv18
  refine he_iload (n := 20) (i := 1) (by decide +kernel) rfl ?_
  obtain ⟨⟨r1, r2⟩, ⟨r3, r4⟩, r5, r6⟩ := hn_rg hm1
  refine he_s1 (n := 23) (j := 123) (mx := 4) (ns := [5142, 5143, 1011, 194]) (by decide +kernel) (by show 1 ≤ 8; omega) (by show 1 ≤ 4; omega) ?_
  rw [mq_e123]
  refine hn_ns ?_
  intro r0 hr0
  have hn0 := hn_nm x1.toInt
  show mq_R mq_PP (d + 6) 124 23 _ [.int r0, .int v18] (M1, z, u) Q
  refine he_iadd (n := 24) (by decide +kernel) (by omega) (by omega) ?_
  intro v23 hv23
  refine he_iconst (n := 25) (c := 4) (by decide +kernel) (by decide) ?_
  intro c24 hc24
  refine he_iadd (n := 26) (by decide +kernel) (by omega) (by omega) ?_
  intro v25 hv25
  refine he_istore (n := 27) (i := 3) (by decide +kernel) rfl ?_
  refine he_iconst (n := 28) (c := 0) (by decide +kernel) (by decide) ?_
  intro c27 hc27
  refine he_istore (n := 30) (i := 4) (by decide +kernel) rfl ?_
  have q15 := eM1 234 15 (.inr (by decide))
  have q17 := eM1 234 17 (.inr (by decide))
  have q19 := eM1 234 19 (.inr (by decide))
  have x49 : xB M1 249 = xB M 249 := by funext i; unfold xB; rw [hb_vc (wM1 249 (by decide))]
  refine ym_e30 (D := (hv M 234 15).toNat) (B := (hv M 234 17).toNat) (n := (hv M 234 19).toNat) hm1 r1 r2 r3 r4 r5 r6 (by omega) (by omega) (by omega) ?_ ?_ (hv M1 234 19).toNat _ _ (by omega) (by omega) ?_ (by omega)
  · intro r hr
    exact K M1 r (.inl ⟨hr, wM1 250 (by decide), wM1 251 (by decide), q15, q17, q19⟩)
  · intro M' r su le hr hm' w' s' t15 t17 t19 t50 t51 a0 a1 a2 a3 a4 a5 k1 k0
    rw [x49] at k1 k0
    refine K M' r (.inr ⟨hr, su, le, (hv M 234 15).toNat, (hv M 234 17).toNat, (hv M 234 19).toNat, by omega, by omega, by omega, t15, t17, t19, fun t => ?_, fun j hj => ?_, ?_, k1, k0⟩)
    · rw [t50 t, hb_vc (wM1 249 (by decide)), hb_vc (wM1 250 (by decide))]
    · rw [t51 j hj, hb_vc (wM1 251 (by decide))]
    · unfold yrec
      rw [a0, a1, a2, a3, a4, a5]
  · rw [show c27.toInt.toNat = 0 by omega]
    have e0 : hb_sum (hn_g M1) 0 = 0 := rfl
    rw [e0]
    omega
