/-! The model's isSound, exactly. -/
/-- what reading archive s may change -/
def yS (s : Nat) (M0 M : Nat → mq_C) : Prop := mz_sh mz_GG M ∧ (∀ b, b < 238 ∨ 244 < b → M b = M0 b) ∧ (∀ j, j ≠ s → hv M 238 j = hv M0 238 j) ∧ ∀ b j, 239 ≤ b → b ≤ 244 → (j < 6 * s ∨ 6 * s + 6 ≤ j) → hv M b j = hv M0 b j
theorem yp_snd_l {d z u s len n dir : Nat} {M0 : Nat → mq_C} {Q : (Option Value ⊕ Nat) → mq_S → Prop} {x1 x2 x3 x5 : Int32} {R : Option (List xRc × Nat)} (h1 : x1.toInt = (s : Int)) (hs : s < 4) (hlen : 4 ≤ len ∧ len ≤ 240) (h2 : x2.toInt = (len : Int) - 4) (h3 : x3.toInt = (dir : Int)) (h5 : x5.toInt = (n : Int)) (hn6 : n ≤ 6) (K : ∀ (M' : Nat → mq_C) (r : Int32), yS s M0 M' → (∀ l, R = some (l, len - 4) → r.toInt = 1 ∧ hv M' 238 s = (l.length : Int) ∧ l.length = n ∧ ∀ i, i < l.length → ycr M' s i = l.getD i xd0) → ((R = none ∨ ∃ l a, R = some (l, a) ∧ a ≠ len - 4) → r.toInt = 0) → Q (.inl (some (.int r))) (M', z, u)) : ∀ (m : Nat) (l : List xRc) (a : Nat) (M : Nat → mq_C) (x4 x6 : Int32), l.length + m = n → x6.toInt = (l.length : Int) → x4.toInt = (a : Int) → dir ≤ a → a ≤ 70000 → xrcs (ybt M0 s) (len - 4) dir m l a = R → yS s M0 M → (∀ i, i < l.length → ycr M s i = l.getD i xd0) → mq_R mq_PP (d + 3) 133 71 [some (.ref 234), some (.int x1), some (.int x2), some (.int x3), some (.int x4), some (.int x5), some (.int x6)] [] (M, z, u) Q := by
  intro m
  induction m with
  | zero =>
    intro l a M x4 x6 e1 e2 e3 e4 e5 eR hS hc
    have eR : some (l, a) = R := eR
    refine he_iload (n := 73) (i := 6) (by decide +kernel) rfl ?_
    refine he_iload (n := 75) (i := 5) (by decide +kernel) rfl ?_
    refine he_cmpge_t (n := 78) (t := 102) (by decide +kernel) (by omega) ?_
    refine he_iload (n := 104) (i := 4) (by decide +kernel) rfl ?_
    refine he_iload (n := 105) (i := 2) (by decide +kernel) rfl ?_
    by_cases h105 : x4.toInt = x2.toInt
    rotate_left
    · skip
      refine he_cmpeq_f (n := 108) (t := 110) (by decide +kernel) (by omega) ?_
      refine he_iconst (n := 109) (c := 0) (by decide +kernel) (by decide) ?_
      intro c108 hc108
      refine he_retz (by decide +kernel) (by omega) ?_
      refine K M _ hS (fun l' hl' => ?_) (fun _ => by omega)
      rw [← eR] at hl'
      cases hl'
      omega
    refine he_cmpeq_t (n := 108) (t := 110) (by decide +kernel) (by omega) ?_
    refine he_aload (n := 111) (i := 0) (by decide +kernel) rfl ?_
    refine he_getr (n := 114) (ci := 9) (j := 4) (ns := [4181, 20]) (b := 238) hS.1 (by decide +kernel) rfl rfl (by decide +kernel) ?_
    refine he_iload (n := 115) (i := 1) (by decide +kernel) rfl ?_
    refine he_iload (n := 117) (i := 5) (by decide +kernel) rfl ?_
    refine hb_sta (n := 118) (kind := 64) hS.1 (by decide +kernel) rfl rfl (.inl rfl) (by omega) (show _ < (4 : Int) by omega) ?_
    generalize hM1 : hb_set M 238 (x1.toInt.toNat) x5 = M1
    have hm1 : mz_sh mz_GG M1 := by rw [← hM1]; exact hb_set_sh hS.1 rfl hb_at1 (by omega) (by omega)
    have eM1 : ∀ b j, b ≠ 238 ∨ j ≠ x1.toInt.toNat → hv M1 b j = hv M b j := by intro b j h; rw [← hM1]; exact hb_set_n h
    have sM1 : hv M1 238 (x1.toInt.toNat) = x5.toInt := by rw [← hM1]; exact hb_set_v hS.1 rfl (show _ < 4 by omega)
    have wM1 : ∀ b, b ≠ 238 → M1 b = M b := by intro b h; rw [← hM1]; exact hb_set_c h
    refine he_iconst (n := 119) (c := 1) (by decide +kernel) (by decide) ?_
    intro c118 hc118
    refine he_retz (by decide +kernel) (by omega) ?_
    have hS1 : yS s M0 M1 := ⟨hm1, fun b hb => by rw [wM1 b (by omega)]; exact hS.2.1 b hb, fun j hj => by rw [eM1 _ _ (.inr (by omega))]; exact hS.2.2.1 j hj, fun b j p q t => by rw [eM1 _ _ (.inl (by omega))]; exact hS.2.2.2 b j p q t⟩
    refine K M1 _ hS1 (fun l' hl' => ?_) (fun h => ?_)
    · rw [← eR] at hl'
      cases hl'
      refine ⟨by omega, ?_, by omega, fun i hi => ?_⟩
      · rw [show s = x1.toInt.toNat by omega, sM1]
        omega
      · rw [ycr_c (M := M) (fun b p q => eM1 _ _ (.inl (by omega)))]
        exact hc i hi
    · exfalso
      rcases h with h | ⟨l', a', h, h'⟩
      · rw [← eR] at h
        cases h
      · rw [← eR] at h
        cases h
        omega
  | succ m ih =>
    intro l a M x4 x6 e1 e2 e3 e4 e5 eR hS hc
    have eB : ybt M s = ybt M0 s := funext fun t => hb_vc (hS.2.1 235 (by decide)) _
    have eR : (match xrcd (ybt M0 s) (len - 4) dir l a with | some (r, a') => xrcs (ybt M0 s) (len - 4) dir m (l ++ [r]) a' | none => none) = R := eR
    refine he_iload (n := 73) (i := 6) (by decide +kernel) rfl ?_
    refine he_iload (n := 75) (i := 5) (by decide +kernel) rfl ?_
    refine he_cmpge_f (n := 78) (t := 102) (by decide +kernel) (by omega) ?_
    refine he_iload (n := 80) (i := 4) (by decide +kernel) rfl ?_
    refine he_iflt_f (n := 83) (t := 102) (by decide +kernel) (by omega) ?_
    refine he_aload (n := 84) (i := 0) (by decide +kernel) rfl ?_
    refine he_iload (n := 85) (i := 1) (by decide +kernel) rfl ?_
    refine he_iload (n := 87) (i := 6) (by decide +kernel) rfl ?_
    refine he_iload (n := 89) (i := 4) (by decide +kernel) rfl ?_
    refine he_iload (n := 90) (i := 3) (by decide +kernel) rfl ?_
    refine he_iload (n := 91) (i := 2) (by decide +kernel) rfl ?_
    refine he_v5 (n := 94) (j := 132) (ci := 9) (mx := 14) (ns := [6046, 6048, 78, 224]) (by decide +kernel) ((hb_kd (a := 234) hS.1 rfl).trans rfl) (by show 0 ≤ 8; omega) (by show 6 ≤ 14; omega) ?_
    rw [mq_e132]
    refine yp_rec (s := s) (i := l.length) (a := a) (e := len - 4) (dir := dir) (l := l) hS.1 h1 hs e2 (by omega) e3 h3 (by omega) (by omega) e4 e5 rfl hc ?_
    intro M1 y4 hm1 w1 k1 r1 r0
    rw [eB] at r1 r0
    show mq_R mq_PP (d + 3) 133 94 _ [.int y4] (M1, z, u) Q
    have hS1 : yS s M0 M1 := ⟨hm1, fun b hb => (w1 b (by omega)).trans (hS.2.1 b hb), fun j hj => (hb_vc (w1 238 (by decide)) j).trans (hS.2.2.1 j hj), fun b j p q t => (k1 b j (by omega)).trans (hS.2.2.2 b j p q t)⟩
    have g3 : ∀ i, i < l.length → ycr M1 s i = l.getD i xd0 := fun i hi => by rw [ycr_c (M := M) (fun b _ _ => k1 b _ (by omega))]; exact hc i hi
    cases hx : xrcd (ybt M0 s) (len - 4) dir l a with
    | none =>
      have hy := r0 hx
      rw [hx] at eR
      refine he_istore (n := 96) (i := 4) (by decide +kernel) rfl ?_
      refine he_iinc (n := 99) (i := 6) (c := 1) (L' := fun v => [some (.ref (234)), some (.int x1), some (.int x2), some (.int x3), some (.int y4), some (.int x5), some (.int v)]) (by decide +kernel) (by decide) rfl (fun _ => rfl) (by omega) (by omega) ?_
      intro ib96 hib96
      refine he_goto (t := 71) (by decide +kernel) ?_
      by_cases hmm : l.length + 1 < n
      · skip
        refine he_iload (n := 73) (i := 6) (by decide +kernel) rfl ?_
        refine he_iload (n := 75) (i := 5) (by decide +kernel) rfl ?_
        refine he_cmpge_f (n := 78) (t := 102) (by decide +kernel) (by omega) ?_
        refine he_iload (n := 80) (i := 4) (by decide +kernel) rfl ?_
        refine he_iflt_t (n := 83) (t := 102) (by decide +kernel) (by omega) ?_
        refine he_iload (n := 104) (i := 4) (by decide +kernel) rfl ?_
        refine he_iload (n := 105) (i := 2) (by decide +kernel) rfl ?_
        refine he_cmpeq_f (n := 108) (t := 110) (by decide +kernel) (by omega) ?_
        refine he_iconst (n := 109) (c := 0) (by decide +kernel) (by decide) ?_
        intro cb108 hcb108
        refine he_retz (by decide +kernel) (by omega) ?_
        exact K M1 _ hS1 (fun l' hl' => by rw [← eR] at hl'; cases hl') (fun _ => by omega)
      · skip
        refine he_iload (n := 73) (i := 6) (by decide +kernel) rfl ?_
        refine he_iload (n := 75) (i := 5) (by decide +kernel) rfl ?_
        refine he_cmpge_t (n := 78) (t := 102) (by decide +kernel) (by omega) ?_
        refine he_iload (n := 104) (i := 4) (by decide +kernel) rfl ?_
        refine he_iload (n := 105) (i := 2) (by decide +kernel) rfl ?_
        refine he_cmpeq_f (n := 108) (t := 110) (by decide +kernel) (by omega) ?_
        refine he_iconst (n := 109) (c := 0) (by decide +kernel) (by decide) ?_
        intro cb108 hcb108
        refine he_retz (by decide +kernel) (by omega) ?_
        exact K M1 _ hS1 (fun l' hl' => by rw [← eR] at hl'; cases hl') (fun _ => by omega)
    | some p =>
      obtain ⟨rec, a'⟩ := p
      obtain ⟨hy, hrec⟩ := r1 rec a' hx
      obtain ⟨_, g1, g2⟩ := xrcd_u hx
      rw [hx] at eR
      have ha' : a' ≤ a + 16 := by
        have h9 := hx
        unfold xrcd at h9
        by_cases c : xrk (ybt M0 s) (len - 4) a ∧ xrf (xrr (ybt M0 s) a (ybt M0 s a).toNat) (ybt M0 s a).toNat ∧ xrb2 (ybt M0 s) dir (xrr (ybt M0 s) a (ybt M0 s a).toNat) ∧ (l.all fun k => decide (xap (xrr (ybt M0 s) a (ybt M0 s a).toNat) k)) = true
        · rw [if_pos c] at h9
          cases h9
          have := c.1.2.2.1
          omega
        · rw [if_neg c] at h9
          cases h9
      refine he_istore (n := 96) (i := 4) (by decide +kernel) rfl ?_
      refine he_iinc (n := 99) (i := 6) (c := 1) (L' := fun v => [some (.ref (234)), some (.int x1), some (.int x2), some (.int x3), some (.int y4), some (.int x5), some (.int v)]) (by decide +kernel) (by decide) rfl (fun _ => rfl) (by omega) (by omega) ?_
      intro ib96 hib96
      refine he_goto (t := 71) (by decide +kernel) ?_
      refine ih (l ++ [rec]) a' M1 _ _ (by rw [List.length_append]; show _ + 1 + _ = _; omega) (by rw [List.length_append]; show _ = ((_ + 1 : Nat) : Int); omega) hy (by omega) (by omega) eR hS1 (fun i hi => ?_)
      rw [List.length_append] at hi
      have hi : i < l.length + 1 := hi
      by_cases e : i = l.length
      · rw [e, xo_gb]
        exact hrec
      · rw [xo_ga (by omega)]
        exact g3 i (by omega)
theorem yp_snd {d z u s len : Nat} {M : Nat → mq_C} {Q : (Option Value ⊕ Nat) → mq_S → Prop} {x1 : Int32} (hm : mz_sh mz_GG M) (h1 : x1.toInt = (s : Int)) (hs : s < 4) (hl : hv M 236 s = (len : Int)) (hl2 : len ≤ 240) (K : ∀ (M' : Nat → mq_C) (r : Int32), yS s M M' → (∀ l, xsnd (ybt M s) len = some l → r.toInt = 1 ∧ hv M' 238 s = (l.length : Int) ∧ l.length ≤ 6 ∧ ∀ i, i < l.length → ycr M' s i = l.getD i xd0) → (xsnd (ybt M s) len = none → r.toInt = 0) → Q (.inl (some (.int r))) (M', z, u)) : mq_R mq_PP (d + 3) 133 0 [some (.ref 234), some (.int x1), none, none, none, none, none] [] (M, z, u) Q := by
  have hss : x1.toInt.toNat = s := by omega
  refine he_aload (n := 1) (i := 0) (by decide +kernel) rfl ?_
  refine he_getr (n := 4) (ci := 9) (j := 4) (ns := [4181, 20]) (b := 238) hm (by decide +kernel) rfl rfl (by decide +kernel) ?_
  refine he_iload (n := 5) (i := 1) (by decide +kernel) rfl ?_
  refine he_iconst (n := 6) (c := 0) (by decide +kernel) (by decide) ?_
  intro c5 hc5
  refine hb_sta (n := 7) (kind := 64) hm (by decide +kernel) rfl rfl (.inl rfl) (by omega) (show _ < (4 : Int) by omega) ?_
  generalize hM1 : hb_set M 238 (x1.toInt.toNat) c5 = M1
  have hm1 : mz_sh mz_GG M1 := by rw [← hM1]; exact hb_set_sh hm rfl hb_at1 (by omega) (by omega)
  have eM1 : ∀ b j, b ≠ 238 ∨ j ≠ x1.toInt.toNat → hv M1 b j = hv M b j := by intro b j h; rw [← hM1]; exact hb_set_n h
  have sM1 : hv M1 238 (x1.toInt.toNat) = c5.toInt := by rw [← hM1]; exact hb_set_v hm rfl (show _ < 4 by omega)
  have wM1 : ∀ b, b ≠ 238 → M1 b = M b := by intro b h; rw [← hM1]; exact hb_set_c h
  refine he_aload (n := 8) (i := 0) (by decide +kernel) rfl ?_
  refine he_getr (n := 11) (ci := 9) (j := 2) (ns := [4179, 13]) (b := 236) hm1 (by decide +kernel) rfl rfl (by decide +kernel) ?_
  refine he_iload (n := 12) (i := 1) (by decide +kernel) rfl ?_
  refine hb_ld (n := 13) (kind := 64) hm1 (by decide +kernel) rfl rfl (.inl rfl) (by omega) (show _ < (4 : Int) by omega) hb_at1 ?_
  intro v12 hv12 lv12 uv12
  rw [hss, eM1 _ _ (.inl (by decide)), hl] at hv12
  refine he_iconst (n := 14) (c := 4) (by decide +kernel) (by decide) ?_
  intro c13 hc13
  refine he_isub (n := 15) (by decide +kernel) (by omega) (by omega) ?_
  intro v14 hv14
  refine he_istore (n := 16) (i := 2) (by decide +kernel) rfl ?_
  refine he_iload (n := 17) (i := 2) (by decide +kernel) rfl ?_
  have hS1 : yS s M M1 := ⟨hm1, fun b hb => wM1 b (by omega), fun j hj => eM1 _ _ (.inr (by omega)), fun b j p q t => eM1 _ _ (.inl (by omega))⟩
  have eB : ybt M1 s = ybt M s := funext fun t => hb_vc (hS1.2.1 235 (by decide)) _
  have no : ∀ r : Int32, r.toInt = 0 → ¬ (4 ≤ len ∧ ybt M s (len - 4) = 80 ∧ ybt M s (len - 3) ≤ 6) → Q (.inl (some (.int r))) (M1, z, u) := fun r hr hn => K M1 r hS1 (fun l hl' => by unfold xsnd at hl'; rw [if_neg hn] at hl'; cases hl') (fun _ => hr)
  by_cases g17 : v14.toInt < 0
  · skip
    refine he_iflt_t (n := 20) (t := 44) (by decide +kernel) (by omega) ?_
    refine he_iconst (n := 45) (c := 0) (by decide +kernel) (by decide) ?_
    intro c44 hc44
    refine he_retz (by decide +kernel) (by omega) ?_
    exact no _ (by omega) (fun h => by omega)
  refine he_iflt_f (n := 20) (t := 44) (by decide +kernel) (by omega) ?_
  refine he_aload (n := 21) (i := 0) (by decide +kernel) rfl ?_
  refine he_iload (n := 22) (i := 1) (by decide +kernel) rfl ?_
  refine he_iload (n := 23) (i := 2) (by decide +kernel) rfl ?_
  refine he_v2 (n := 26) (j := 130) (ci := 9) (mx := 3) (ns := [6038, 6040, 76, 217]) (by decide +kernel) ((hb_kd (a := 234) hm1 rfl).trans rfl) (by show 0 ≤ 8; omega) (by show 3 ≤ 3; omega) ?_
  rw [mq_e130]
  refine yp_by (s := s) (t := len - 4) hm1 h1 hs (by omega) (by omega) ?_
  intro b1 hb1 lb1 ub1
  rw [eB] at hb1
  show mq_R mq_PP (d + 3) 133 26 _ [.int b1] (M1, z, u) Q
  refine he_iconst (n := 28) (c := 80) (by decide +kernel) (by decide) ?_
  intro cb26 hcb26
  by_cases g28 : b1.toInt = 80
  rotate_left
  · skip
    refine he_cmpne_t (n := 31) (t := 44) (by decide +kernel) (by omega) ?_
    refine he_iconst (n := 45) (c := 0) (by decide +kernel) (by decide) ?_
    intro cb44 hcb44
    refine he_retz (by decide +kernel) (by omega) ?_
    exact no _ (by omega) (fun h => by omega)
  refine he_cmpne_f (n := 31) (t := 44) (by decide +kernel) (by omega) ?_
  refine he_aload (n := 32) (i := 0) (by decide +kernel) rfl ?_
  refine he_iload (n := 33) (i := 1) (by decide +kernel) rfl ?_
  refine he_iload (n := 34) (i := 2) (by decide +kernel) rfl ?_
  refine he_iconst (n := 35) (c := 1) (by decide +kernel) (by decide) ?_
  intro cb34 hcb34
  refine he_iadd (n := 36) (by decide +kernel) (by omega) (by omega) ?_
  intro vb35 hvb35
  refine he_v2 (n := 39) (j := 130) (ci := 9) (mx := 3) (ns := [6038, 6040, 76, 217]) (by decide +kernel) ((hb_kd (a := 234) hm1 rfl).trans rfl) (by show 0 ≤ 8; omega) (by show 3 ≤ 3; omega) ?_
  rw [mq_e130]
  refine yp_by (s := s) (t := len - 3) hm1 h1 hs (by omega) (by omega) ?_
  intro b2 hb2 lb2 ub2
  rw [eB] at hb2
  show mq_R mq_PP (d + 3) 133 39 _ [.int b2] (M1, z, u) Q
  refine he_iconst (n := 41) (c := 6) (by decide +kernel) (by decide) ?_
  intro cc39 hcc39
  by_cases g41 : b2.toInt ≤ 6
  rotate_left
  · skip
    refine he_cmple_f (n := 44) (t := 46) (by decide +kernel) (by omega) ?_
    refine he_iconst (n := 45) (c := 0) (by decide +kernel) (by decide) ?_
    intro cc44 hcc44
    refine he_retz (by decide +kernel) (by omega) ?_
    exact no _ (by omega) (fun h => by omega)
  refine he_cmple_t (n := 44) (t := 46) (by decide +kernel) (by omega) ?_
  refine he_aload (n := 47) (i := 0) (by decide +kernel) rfl ?_
  refine he_iload (n := 48) (i := 1) (by decide +kernel) rfl ?_
  refine he_iload (n := 49) (i := 2) (by decide +kernel) rfl ?_
  refine he_iconst (n := 50) (c := 2) (by decide +kernel) (by decide) ?_
  intro cc49 hcc49
  refine he_iadd (n := 51) (by decide +kernel) (by omega) (by omega) ?_
  intro vc50 hvc50
  refine he_v2 (n := 54) (j := 131) (ci := 9) (mx := 3) (ns := [6042, 6044, 77, 221]) (by decide +kernel) ((hb_kd (a := 234) hm1 rfl).trans rfl) (by show 0 ≤ 8; omega) (by show 3 ≤ 3; omega) ?_
  rw [mq_e131]
  refine yp_two (s := s) (t := len - 2) hm1 h1 hs (by omega) (by omega) ?_
  intro x3 hx3 lx3 ux3
  rw [eB] at hx3
  show mq_R mq_PP (d + 3) 133 54 _ [.int x3] (M1, z, u) Q
  refine he_istore (n := 55) (i := 3) (by decide +kernel) rfl ?_
  refine he_iload (n := 56) (i := 3) (by decide +kernel) rfl ?_
  refine he_istore (n := 58) (i := 4) (by decide +kernel) rfl ?_
  refine he_aload (n := 59) (i := 0) (by decide +kernel) rfl ?_
  refine he_iload (n := 60) (i := 1) (by decide +kernel) rfl ?_
  refine he_iload (n := 61) (i := 2) (by decide +kernel) rfl ?_
  refine he_iconst (n := 62) (c := 1) (by decide +kernel) (by decide) ?_
  intro ce61 hce61
  refine he_iadd (n := 63) (by decide +kernel) (by omega) (by omega) ?_
  intro ve62 hve62
  refine he_v2 (n := 66) (j := 130) (ci := 9) (mx := 3) (ns := [6038, 6040, 76, 217]) (by decide +kernel) ((hb_kd (a := 234) hm1 rfl).trans rfl) (by show 0 ≤ 8; omega) (by show 3 ≤ 3; omega) ?_
  rw [mq_e130]
  refine yp_by (s := s) (t := len - 3) hm1 h1 hs (by omega) (by omega) ?_
  intro x5 hx5 lx5 ux5
  rw [eB] at hx5
  show mq_R mq_PP (d + 3) 133 66 _ [.int x5] (M1, z, u) Q
  refine he_istore (n := 68) (i := 5) (by decide +kernel) rfl ?_
  refine he_iconst (n := 69) (c := 0) (by decide +kernel) (by decide) ?_
  intro cf68 hcf68
  refine he_istore (n := 71) (i := 6) (by decide +kernel) rfl ?_
  refine yp_snd_l (M0 := M) (len := len) (n := x5.toInt.toNat) (dir := xnN (ybt M s) (len - 2) 2) (R := xrcs (ybt M s) (len - 4) (xnN (ybt M s) (len - 2) 2) x5.toInt.toNat [] (xnN (ybt M s) (len - 2) 2)) h1 hs ⟨by omega, hl2⟩ (by omega) hx3 (by omega) (by omega) ?_ x5.toInt.toNat [] (xnN (ybt M s) (len - 2) 2) M1 _ _ (by show 0 + _ = _; omega) (by show _ = ((0 : Nat) : Int); omega) hx3 (Nat.le_refl _) (by omega) rfl hS1 (fun i hi => absurd hi (Nat.not_lt_zero i))
  intro M' r hS' k3 k4
  have hX : xsnd (ybt M s) len = (match xrcs (ybt M s) (len - 4) (xnN (ybt M s) (len - 2) 2) x5.toInt.toNat [] (xnN (ybt M s) (len - 2) 2) with | some (l, a) => if a = len - 4 then some l else none | none => none) := by
    unfold xsnd
    rw [if_pos ⟨by omega, by omega, by omega⟩, show (ybt M s (len - 3)).toNat = x5.toInt.toNat by omega]
    rfl
  generalize xrcs (ybt M s) (len - 4) (xnN (ybt M s) (len - 2) 2) x5.toInt.toNat [] (xnN (ybt M s) (len - 2) 2) = R at k3 k4 hX
  refine K M' r hS' (fun l hl' => ?_) (fun h => ?_)
  · rw [hX] at hl'
    rcases R with _ | ⟨l1, a1⟩
    · cases hl'
    · have hl' : (if a1 = len - 4 then some l1 else none) = some l := hl'
      by_cases ea : a1 = len - 4
      · rw [if_pos ea] at hl'
        cases hl'
        obtain ⟨t1, t2, t3, t4⟩ := k3 l (by rw [ea])
        exact ⟨t1, t2, by omega, t4⟩
      · rw [if_neg ea] at hl'
        cases hl'
  · rw [hX] at h
    rcases R with _ | ⟨l1, a1⟩
    · exact k4 (.inl rfl)
    · have h : (if a1 = len - 4 then some l1 else none) = none := h
      by_cases ea : a1 = len - 4
      · rw [if_pos ea] at h
        cases h
      · exact k4 (.inr ⟨l1, a1, rfl, ea⟩)
