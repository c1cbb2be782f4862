/-! The model's isReadable, contentAt and content, exactly. -/
theorem xrcs_p {p : xRc → Prop} {b : Nat → Int} {e dir : Nat} (h : ∀ l a r a', xrcd b e dir l a = some (r, a') → p r) : ∀ (m : Nat) (l : List xRc) (a : Nat) (l' : List xRc) (a' : Nat), (∀ r ∈ l, p r) → xrcs b e dir m l a = some (l', a') → ∀ r ∈ l', p r := by
  intro m
  induction m with
  | zero =>
    intro l a l' a' h1 h2
    have h2 : some (l, a) = some (l', a') := h2
    cases h2
    exact h1
  | succ m ih =>
    intro l a l' a' h1 h2
    have h2 : (match xrcd b e dir l a with | some (r, a') => xrcs b e dir m (l ++ [r]) a' | none => none) = some (l', a') := h2
    cases hx : xrcd b e dir l a with
    | none => rw [hx] at h2; cases h2
    | some q =>
      obtain ⟨r, a1⟩ := q
      rw [hx] at h2
      refine ih (l ++ [r]) a1 l' a' (fun r' hr' => ?_) h2
      rcases List.mem_append.mp hr' with h3 | h3
      · exact h1 r' h3
      · rw [List.mem_singleton.mp h3]
        exact h _ _ _ _ hx
theorem xsnd_m {b : Nat → Int} {len : Nat} {l : List xRc} (h : xsnd b len = some l) : ∀ r ∈ l, r.2.1 = 0 ∨ r.2.1 = 8 := by
  unfold xsnd at h
  by_cases c : 4 ≤ len ∧ b (len - 4) = 80 ∧ b (len - 3) ≤ 6
  · rw [if_pos c] at h
    cases hx : xrcs b (len - 4) (xnN b (len - 2) 2) (b (len - 3)).toNat [] (xnN b (len - 2) 2) with
    | none => rw [hx] at h; cases h
    | some q =>
      obtain ⟨l1, a1⟩ := q
      rw [hx] at h
      have h : (if a1 = len - 4 then some l1 else none) = some l := h
      by_cases ea : a1 = len - 4
      · rw [if_pos ea] at h
        cases h
        refine xrcs_p (fun l a r a' hh => ?_) _ _ _ _ _ (fun r hr => by cases hr) hx
        unfold xrcd at hh
        by_cases cc : xrk b (len - 4) a ∧ xrf (xrr b a (b a).toNat) (b a).toNat ∧ xrb2 b (xnN b (len - 2) 2) (xrr b a (b a).toNat) ∧ (l.all fun k => decide (xap (xrr b a (b a).toNat) k)) = true
        · rw [if_pos cc] at hh
          cases hh
          exact cc.2.1.2.2
        · rw [if_neg cc] at hh
          cases hh
      · rw [if_neg ea] at h
        cases h
  · rw [if_neg c] at h
    cases h
/-- reading archive s changes only what the model keeps of it, and its rows for unpacking -/
def yR (s : Nat) (M0 M : Nat → mq_C) : Prop := mz_sh mz_GG M ∧ (∀ b, b ≠ 234 → b < 238 ∨ 248 < b → b < 252 ∨ 257 ≤ b → M b = M0 b) ∧ (∀ j, j ≠ 21 → j ≠ 23 → j ≠ 24 → j ≠ 25 → hv M 234 j = hv M0 234 j) ∧ (∀ b j, b = 238 ∨ b = 245 ∨ b = 248 → j ≠ s → hv M b j = hv M0 b j) ∧ (∀ b j, 239 ≤ b → b ≤ 244 → (j < 6 * s ∨ 6 * s + 6 ≤ j) → hv M b j = hv M0 b j) ∧ ∀ j, j < 4 * s ∨ 4 * s + 4 ≤ j → hv M 246 j = hv M0 246 j
def yEX (s : Nat) (b : Nat → Int) (len : Nat) (M : Nat → mq_C) (r : Int) : Prop := (∀ l st, xrd b len = some (l, st) → r = 1 ∧ hv M 238 s = (l.length : Int) ∧ l.length ≤ 6 ∧ (∀ i, i < l.length → ycr M s i = l.getD i xd0) ∧ hv M 248 s = st.2.2.1 ∧ hv M 245 s = (st.2.2.2.length : Int) ∧ ∀ i, i < st.2.2.2.length → hv M 246 (4 * s + i) = st.2.2.2.getD i 0) ∧ (xrd b len = none → r = 0)
theorem yp_read {d z u s len : Nat} {M : Nat → mq_C} {Q : (Option Value ⊕ Nat) → mq_S → Prop} {x1 : Int32} (hm : mz_sh mz_GG M) (h1 : x1.toInt = (s : Int)) (hs : s < 4) (hl : hv M 236 s = (len : Int)) (hl2 : len ≤ 240) (K : ∀ (M' : Nat → mq_C) (r : Int32), yR s M M' → yEX s (ybt M s) len M' r.toInt → Q (.inl (some (.int r))) (M', z, u)) : mq_R mq_PP (d + 7) 138 0 [some (.ref 234), some (.int x1), none] [] (M, z, u) Q := by
  have hss : x1.toInt.toNat = s := by omega
  refine he_aload (n := 1) (i := 0) (by decide +kernel) rfl ?_
  refine he_getr (n := 4) (ci := 9) (j := 11) (ns := [4188, 41]) (b := 245) hm (by decide +kernel) rfl rfl (by decide +kernel) ?_
  refine he_iload (n := 5) (i := 1) (by decide +kernel) rfl ?_
  refine he_iconst (n := 6) (c := 0) (by decide +kernel) (by decide) ?_
  intro c5 hc5
  refine hb_sta (n := 7) (kind := 64) hm (by decide +kernel) rfl rfl (.inl rfl) (by omega) (show _ < (4 : Int) by omega) ?_
  generalize hM1 : hb_set M 245 (x1.toInt.toNat) c5 = M1
  have hm1 : mz_sh mz_GG M1 := by rw [← hM1]; exact hb_set_sh hm rfl hb_at1 (by omega) (by omega)
  have eM1 : ∀ b j, b ≠ 245 ∨ j ≠ x1.toInt.toNat → hv M1 b j = hv M b j := by intro b j h; rw [← hM1]; exact hb_set_n h
  have sM1 : hv M1 245 (x1.toInt.toNat) = c5.toInt := by rw [← hM1]; exact hb_set_v hm rfl (show _ < 4 by omega)
  have wM1 : ∀ b, b ≠ 245 → M1 b = M b := by intro b h; rw [← hM1]; exact hb_set_c h
  refine he_aload (n := 8) (i := 0) (by decide +kernel) rfl ?_
  refine he_getr (n := 11) (ci := 9) (j := 13) (ns := [4190, 47]) (b := 247) hm1 (by decide +kernel) rfl rfl (by decide +kernel) ?_
  refine he_iload (n := 12) (i := 1) (by decide +kernel) rfl ?_
  refine he_iconst (n := 13) (c := 0) (by decide +kernel) (by decide) ?_
  intro c12 hc12
  refine hb_sta (n := 14) (kind := 64) hm1 (by decide +kernel) rfl rfl (.inl rfl) (by omega) (show _ < (4 : Int) by omega) ?_
  generalize hM2 : hb_set M1 247 (x1.toInt.toNat) c12 = M2
  have hm2 : mz_sh mz_GG M2 := by rw [← hM2]; exact hb_set_sh hm1 rfl hb_at1 (by omega) (by omega)
  have eM2 : ∀ b j, b ≠ 247 ∨ j ≠ x1.toInt.toNat → hv M2 b j = hv M1 b j := by intro b j h; rw [← hM2]; exact hb_set_n h
  have sM2 : hv M2 247 (x1.toInt.toNat) = c12.toInt := by rw [← hM2]; exact hb_set_v hm1 rfl (show _ < 4 by omega)
  have wM2 : ∀ b, b ≠ 247 → M2 b = M1 b := by intro b h; rw [← hM2]; exact hb_set_c h
  refine he_aload (n := 15) (i := 0) (by decide +kernel) rfl ?_
  refine he_getr (n := 18) (ci := 9) (j := 14) (ns := [4191, 50]) (b := 248) hm2 (by decide +kernel) rfl rfl (by decide +kernel) ?_
  refine he_iload (n := 19) (i := 1) (by decide +kernel) rfl ?_
  refine he_iconst (n := 20) (c := 0) (by decide +kernel) (by decide) ?_
  intro c19 hc19
  refine hb_sta (n := 21) (kind := 65) hm2 (by decide +kernel) rfl rfl (.inr ⟨rfl, he_01 (by omega)⟩) (by omega) (show _ < (4 : Int) by omega) ?_
  generalize hM3 : hb_set M2 248 (x1.toInt.toNat) c19 = M3
  have hm3 : mz_sh mz_GG M3 := by rw [← hM3]; exact hb_set_sh hm2 rfl hb_at1 (by omega) (by omega)
  have eM3 : ∀ b j, b ≠ 248 ∨ j ≠ x1.toInt.toNat → hv M3 b j = hv M2 b j := by intro b j h; rw [← hM3]; exact hb_set_n h
  have sM3 : hv M3 248 (x1.toInt.toNat) = c19.toInt := by rw [← hM3]; exact hb_set_v hm2 rfl (show _ < 4 by omega)
  have wM3 : ∀ b, b ≠ 248 → M3 b = M2 b := by intro b h; rw [← hM3]; exact hb_set_c h
  refine he_aload (n := 22) (i := 0) (by decide +kernel) rfl ?_
  refine he_iload (n := 23) (i := 1) (by decide +kernel) rfl ?_
  have hV3 : yMV s M M3 xm0 := by
    refine ⟨hm3, fun b hb => by rw [wM3 b (by omega), wM2 b (by omega), wM1 b (by omega)], fun b j hb hj => by rw [eM3 _ _ (.inr (by omega)), eM2 _ _ (.inr (by omega)), eM1 _ _ (.inr (by omega))], fun j hj => by rw [eM3 _ _ (.inl (by decide)), eM2 _ _ (.inl (by decide)), eM1 _ _ (.inl (by decide))], ?_, ?_, fun i hi => absurd hi (Nat.not_lt_zero i), ?_⟩
    · rw [show s = x1.toInt.toNat by omega, sM3]
      show _ = 0
      omega
    · rw [eM3 _ _ (.inl (by decide)), eM2 _ _ (.inl (by decide)), show s = x1.toInt.toNat by omega, sM1]
      show _ = 0
      omega
    · intro i j q1 q2 q3
      exfalso
      rw [eM3 _ _ (.inl (by decide)), eM2 _ _ (.inl (by decide)), show s = x1.toInt.toNat by omega, sM1] at q3
      omega
  have eB3 : ybt M3 s = ybt M s := funext fun t => hb_vc (hV3.2.1 235 (by decide)) _
  refine he_v1 (n := 26) (j := 133) (ci := 9) (mx := 7) (ns := [6034, 6036, 75, 231]) (by decide +kernel) ((hb_kd (a := 234) hm3 rfl).trans rfl) (by show 0 ≤ 8; omega) (by show 2 ≤ 7; omega) ?_
  rw [mq_e133]
  refine yp_snd (s := s) (len := len) hm3 h1 hs ((hb_vc (hV3.2.1 236 (by decide)) s).trans hl) hl2 ?_
  intro M4 r4 hS4 s1 s0
  rw [eB3] at s1 s0
  show mq_R mq_PP (d + 7) 138 26 _ [.int r4] (M4, z, u) Q
  have eB4 : ybt M4 s = ybt M s := by rw [← eB3]; exact funext fun t => hb_vc (hS4.2.1 235 (by decide)) _
  have hR4 : yR s M M4 := ⟨hS4.1, fun b p q t => (hS4.2.1 b (by omega)).trans (hV3.2.1 b (by omega)), fun j _ _ _ _ => (hb_vc (hS4.2.1 234 (by decide)) j).trans (hb_vc (hV3.2.1 234 (by decide)) j), fun b j hb hj => by
      rcases hb with rfl | hb
      · exact (hS4.2.2.1 j hj).trans (hb_vc (hV3.2.1 238 (by decide)) j)
      · exact (hb_vc (hS4.2.1 b (by omega)) j).trans (hV3.2.2.1 b j hb hj), fun b j p q t => (hS4.2.2.2 b j p q t).trans (hb_vc (hV3.2.1 b (by omega)) j), fun j hj => (hb_vc (hS4.2.1 246 (by decide)) j).trans (hV3.2.2.2.1 j hj)⟩
  cases hx : xsnd (ybt M s) len with
  | none =>
    have h0 := s0 hx
    refine he_ifne_f (n := 29) (t := 31) (by decide +kernel) (by omega) ?_
    refine he_iconst (n := 30) (c := 0) (by decide +kernel) (by decide) ?_
    intro cb29 hcb29
    refine he_retz (by decide +kernel) (by omega) ?_
    exact K M4 _ hR4 ⟨fun l st h => (by unfold xrd at h; rw [hx] at h; cases h), fun _ => by omega⟩
  | some l =>
    obtain ⟨h41, h4n, h46, hc4⟩ := s1 l hx
    refine he_ifne_t (n := 29) (t := 31) (by decide +kernel) (by omega) ?_
    refine he_aload (n := 32) (i := 0) (by decide +kernel) rfl ?_
    refine he_iload (n := 33) (i := 1) (by decide +kernel) rfl ?_
    refine he_iconst (n := 35) (c := 77) (by decide +kernel) (by decide) ?_
    intro cb33 hcb33
    refine he_v2 (n := 38) (j := 134) (ci := 9) (mx := 4) (ns := [6050, 6052, 79, 234]) (by decide +kernel) ((hb_kd (a := 234) hS4.1 rfl).trans rfl) (by show 0 ≤ 8; omega) (by show 3 ≤ 4; omega) ?_
    rw [mq_e134]
    refine yp_ro (s := s) (n := l.length) hS4.1 h1 hs h4n h46 ?_
    intro r5 hr5
    show mq_R mq_PP (d + 7) 138 38 _ [.int r5] (M4, z, u) Q
    rw [show cb33.toInt = 77 by omega] at hr5
    have hnm : ∀ i, i < l.length → hv M4 239 (6 * s + i) = (l.getD i xd0).1 := fun i hi => by rw [← hc4 i hi]; rfl
    have dX : xrd (ybt M s) len = (match l.find? (fun r => decide (r.1 = 77)) with | none => some (l, xm0) | some r => match xcont (ybt M s) r with | none => none | some o => match xman (fun i => o.getD i 0) o.length with | none => none | some st => some (l, st)) := by
      unfold xrd
      rw [hx]
      rfl
    have u4 : ∀ b t, 245 ≤ b → b ≤ 248 → hv M4 b t = hv M3 b t := fun b t p q => hb_vc (hS4.2.1 b (by omega)) t
    rcases hr5 with ⟨j, j1, j2, j3, j4⟩ | ⟨j1, j2⟩
    rotate_left
    · rw [xo_fn l (fun i hi => by rw [← hnm i hi]; exact j2 i hi)] at dX
      refine he_istore (n := 39) (i := 2) (by decide +kernel) rfl ?_
      refine he_iload (n := 40) (i := 2) (by decide +kernel) rfl ?_
      refine he_iflt_t (n := 43) (t := 60) (by decide +kernel) (by omega) ?_
      refine he_iconst (n := 61) (c := 1) (by decide +kernel) (by decide) ?_
      intro cc60 hcc60
      refine he_goto (t := 65) (by decide +kernel) ?_
      refine he_retz (by decide +kernel) (by omega) ?_
      refine K M4 _ hR4 ⟨fun l' st h => ?_, fun h => by rw [dX] at h; cases h⟩
      rw [dX] at h
      cases h
      exact ⟨by omega, h4n, h46, hc4, by rw [u4 _ _ (by decide) (by decide)]; exact hV3.2.2.2.2.1, by rw [u4 _ _ (by decide) (by decide)]; exact hV3.2.2.2.2.2.1, fun i hi => absurd hi (Nat.not_lt_zero i)⟩
    rw [xo_fd l j j1 (by rw [← hnm j j1]; exact j3) (fun i hi => by rw [← hnm i (by omega)]; exact j4 i hi)] at dX
    have dX : xrd (ybt M s) len = (match xcont (ybt M s) (l.getD j xd0) with | none => none | some o => match xman (fun i => o.getD i 0) o.length with | none => none | some st => some (l, st)) := dX
    refine he_istore (n := 39) (i := 2) (by decide +kernel) rfl ?_
    refine he_iload (n := 40) (i := 2) (by decide +kernel) rfl ?_
    refine he_iflt_f (n := 43) (t := 60) (by decide +kernel) (by omega) ?_
    refine he_aload (n := 44) (i := 0) (by decide +kernel) rfl ?_
    refine he_iload (n := 45) (i := 1) (by decide +kernel) rfl ?_
    refine he_iload (n := 46) (i := 2) (by decide +kernel) rfl ?_
    refine he_v2 (n := 49) (j := 135) (ci := 9) (mx := 5) (ns := [6054, 6056, 80, 237]) (by decide +kernel) ((hb_kd (a := 234) hS4.1 rfl).trans rfl) (by show 0 ≤ 8; omega) (by show 3 ≤ 5; omega) ?_
    rw [mq_e135]
    have hu : xut (ycr M4 s j) ≤ 240 := by rw [hc4 j j1]; have := xsnd_u hx _ (xo_gm j1); omega
    have h08 : hv M4 240 (6 * s + j) = 0 ∨ hv M4 240 (6 * s + j) = 8 := by
      have h9 := xsnd_m hx _ (xo_gm j1)
      rw [← hc4 j j1] at h9
      exact h9
    refine yp_unp (s := s) (i := j) hS4.1 h1 hs j2 (by omega) hu h08 ?_
    intro M5 r6 hW5 t1 t0
    rw [hc4 j j1, eB4] at t1 t0
    show mq_R mq_PP (d + 7) 138 49 _ [.int r6] (M5, z, u) Q
    have hR5 : yR s M M5 := ⟨hW5.1, fun b p q t => (hW5.2.1 b p (by omega)).trans (hR4.2.1 b p q t), fun j a1 a2 a3 a4 => (hW5.2.2 j a1 a2 a3 a4).trans (hR4.2.2.1 j a1 a2 a3 a4), fun b j hb hj => (hb_vc (hW5.2.1 b (by omega) (by omega)) j).trans (hR4.2.2.2.1 b j hb hj), fun b j p q t => (hb_vc (hW5.2.1 b (by omega) (by omega)) j).trans (hR4.2.2.2.2.1 b j p q t), fun j hj => (hb_vc (hW5.2.1 246 (by decide) (by decide)) j).trans (hR4.2.2.2.2.2 j hj)⟩
    have c5 : ∀ b t, 238 ≤ b → b ≤ 248 → hv M5 b t = hv M4 b t := fun b t p q => hb_vc (hW5.2.1 b (by omega) (by omega)) t
    cases hco : xcont (ybt M s) (l.getD j xd0) with
    | none =>
      have h6 := t0 hco
      rw [hco] at dX
      have dX : xrd (ybt M s) len = none := dX
      refine he_ifeq_t (n := 52) (t := 64) (by decide +kernel) (by omega) ?_
      refine he_iconst (n := 65) (c := 0) (by decide +kernel) (by decide) ?_
      intro ce64 hce64
      refine he_retz (by decide +kernel) (by omega) ?_
      exact K M5 _ hR5 ⟨fun l' st h => (by rw [dX] at h; cases h), fun _ => by omega⟩
    | some o =>
      obtain ⟨h6, g25, g200, g53⟩ := t1 o hco
      rw [hco] at dX
      have dX : xrd (ybt M s) len = (match xman (fun i => o.getD i 0) o.length with | none => none | some st => some (l, st)) := dX
      refine he_ifeq_f (n := 52) (t := 64) (by decide +kernel) (by omega) ?_
      refine he_aload (n := 53) (i := 0) (by decide +kernel) rfl ?_
      refine he_iload (n := 54) (i := 1) (by decide +kernel) rfl ?_
      refine he_v1 (n := 57) (j := 137) (ci := 9) (mx := 8) (ns := [6058, 6060, 81, 240]) (by decide +kernel) ((hb_kd (a := 234) hW5.1 rfl).trans rfl) (by show 0 ≤ 8; omega) (by show 2 ≤ 8; omega) ?_
      rw [mq_e137]
      have hV5 : yMV s M5 M5 xm0 := by
        have u5 : ∀ b t, 245 ≤ b → b ≤ 248 → hv M5 b t = hv M3 b t := fun b t p q => (c5 b t (by omega) q).trans (u4 b t p q)
        refine ⟨hW5.1, fun _ _ => rfl, fun _ _ _ _ => rfl, fun _ _ => rfl, by rw [u5 _ _ (by decide) (by decide)]; exact hV3.2.2.2.2.1, by rw [u5 _ _ (by decide) (by decide)]; exact hV3.2.2.2.2.2.1, fun i hi => absurd hi (Nat.not_lt_zero i), ?_⟩
        rw [u5 _ _ (by decide) (by decide), show (fun i => hv M5 246 (4 * s + i)) = fun i => hv M3 246 (4 * s + i) from funext fun i => u5 _ _ (by decide) (by decide)]
        exact hV3.2.2.2.2.2.2.2
      have eT : xman (hv M5 253) o.length = xman (fun i => o.getD i 0) o.length := xman_c (fun k hk => g53 k hk)
      refine yp_man (s := s) (n := o.length) h1 hs g25 g200 (fun k hk => xx_rng (c := _) hW5.1 (a := 253) (i := k) (lo := 0) (hi := 255) rfl (show k < 201 by omega) hb_at1) hV5 ?_ ?_
      · intro M6 r7 st hx6 hr7 hV6
        rw [eT] at hx6
        rw [hx6] at dX
        show mq_R mq_PP (d + 7) 138 57 _ [.int r7] (M6, z, u) Q
        have hR6 : yR s M M6 := ⟨hV6.1, fun b p q t => (hV6.2.1 b (by omega)).trans (hR5.2.1 b p q t), fun j a1 a2 a3 a4 => (hb_vc (hV6.2.1 234 (by decide)) j).trans (hR5.2.2.1 j a1 a2 a3 a4), fun b j hb hj => by
            rcases hb with rfl | hb
            · exact (hb_vc (hV6.2.1 238 (by decide)) j).trans (hR5.2.2.2.1 238 j (.inl rfl) hj)
            · exact (hV6.2.2.1 b j hb hj).trans (hR5.2.2.2.1 b j (.inr hb) hj), fun b j p q t => (hb_vc (hV6.2.1 b (by omega)) j).trans (hR5.2.2.2.2.1 b j p q t), fun j hj => (hV6.2.2.2.1 j hj).trans (hR5.2.2.2.2.2 j hj)⟩
        refine he_ifeq_f (n := 60) (t := 64) (by decide +kernel) (by omega) ?_
        refine he_iconst (n := 61) (c := 1) (by decide +kernel) (by decide) ?_
        intro cf60 hcf60
        refine he_goto (t := 65) (by decide +kernel) ?_
        refine he_retz (by decide +kernel) (by omega) ?_
        refine K M6 _ hR6 ⟨fun l' st' h => ?_, fun h => by rw [dX] at h; cases h⟩
        rw [dX] at h
        cases h
        have c6 : ∀ b t, 238 ≤ b → b ≤ 244 → hv M6 b t = hv M4 b t := fun b t p q => (hb_vc (hV6.2.1 b (by omega)) t).trans (c5 b t p (by omega))
        refine ⟨by omega, by rw [c6 _ _ (by decide) (by decide)]; exact h4n, h46, fun i hi => ?_, hV6.2.2.2.2.1, hV6.2.2.2.2.2.1, hV6.2.2.2.2.2.2.1⟩
        rw [ycr_c (M := M4) (fun b p q => c6 b _ (by omega) q)]
        exact hc4 i hi
      · intro M6 r7 hx6 hr7 hm6 f1 f2 f3
        rw [eT] at hx6
        rw [hx6] at dX
        show mq_R mq_PP (d + 7) 138 57 _ [.int r7] (M6, z, u) Q
        have hR6 : yR s M M6 := ⟨hm6, fun b p q t => (f1 b (by omega)).trans (hR5.2.1 b p q t), fun j a1 a2 a3 a4 => (hb_vc (f1 234 (by decide)) j).trans (hR5.2.2.1 j a1 a2 a3 a4), fun b j hb hj => by
            rcases hb with rfl | hb
            · exact (hb_vc (f1 238 (by decide)) j).trans (hR5.2.2.2.1 238 j (.inl rfl) hj)
            · exact (f2 b j hb hj).trans (hR5.2.2.2.1 b j (.inr hb) hj), fun b j p q t => (hb_vc (f1 b (by omega)) j).trans (hR5.2.2.2.2.1 b j p q t), fun j hj => (f3 j hj).trans (hR5.2.2.2.2.2 j hj)⟩
        refine he_ifeq_t (n := 60) (t := 64) (by decide +kernel) (by omega) ?_
        refine he_iconst (n := 65) (c := 0) (by decide +kernel) (by decide) ?_
        intro cf64 hcf64
        refine he_retz (by decide +kernel) (by omega) ?_
        exact K M6 _ hR6 ⟨fun l' st' h => (by rw [dX] at h; cases h), fun _ => by omega⟩
/-- what content answers -/
def xans (b : Nat → Nat → Int) (len : Nat → Nat) (p i : Int) : Int := if 0 ≤ p ∧ p < 32 then (match xrd (b (p / 8).toNat) (len (p / 8).toNat) with
  | none => -2
  | some (l, _) => if p % 8 < (l.length : Int) then (match xcont (b (p / 8).toNat) (l.getD (p % 8).toNat xd0) with
    | none => -2
    | some o => if 0 ≤ i ∧ i < (o.length : Int) then o.getD i.toNat 0 else -1) else -2) else -2
def xan1 (b : Nat → Nat → Int) (len : Nat → Nat) (p : Int) : Option (List Int) := if 0 ≤ p ∧ p < 32 then (match xrd (b (p / 8).toNat) (len (p / 8).toNat) with
  | none => none
  | some (l, _) => if p % 8 < (l.length : Int) then xcont (b (p / 8).toNat) (l.getD (p % 8).toNat xd0) else none) else none
theorem xan1_a {b : Nat → Nat → Int} {len : Nat → Nat} {p i : Int} : xans b len p i = (match xan1 b len p with | none => -2 | some o => if 0 ≤ i ∧ i < (o.length : Int) then o.getD i.toNat 0 else -1) := by
  unfold xans xan1
  by_cases h : 0 ≤ p ∧ p < 32
  · rw [if_pos h, if_pos h]
    cases hx : xrd (b (p / 8).toNat) (len (p / 8).toNat) with
    | none => rfl
    | some q =>
      obtain ⟨l, st⟩ := q
      show (if p % 8 < (l.length : Int) then (match xcont (b (p / 8).toNat) (l.getD (p % 8).toNat xd0) with | none => -2 | some o => if 0 ≤ i ∧ i < (o.length : Int) then o.getD i.toNat 0 else -1) else -2) = (match (if p % 8 < (l.length : Int) then xcont (b (p / 8).toNat) (l.getD (p % 8).toNat xd0) else none) with | none => -2 | some o => if 0 ≤ i ∧ i < (o.length : Int) then o.getD i.toNat 0 else -1)
      by_cases g : p % 8 < (l.length : Int)
      · rw [if_pos g, if_pos g]
      · rw [if_neg g, if_neg g]
  · rw [if_neg h, if_neg h]
theorem yp_at {d z u : Nat} {M : Nat → mq_C} {Q : (Option Value ⊕ Nat) → mq_S → Prop} {x1 : Int32} (hm : mz_sh mz_GG M) (K : ∀ (M' : Nat → mq_C) (r : Int32), mz_sh mz_GG M' → (∀ o, xan1 (ybt M) (fun s => (hv M 236 s).toNat) x1.toInt = some o → r.toInt = 1 ∧ hv M' 234 25 = (o.length : Int) ∧ o.length ≤ 200 ∧ ∀ t, t < o.length → hv M' 253 t = o.getD t 0) → (xan1 (ybt M) (fun s => (hv M 236 s).toNat) x1.toInt = none → r.toInt = 0) → Q (.inl (some (.int r))) (M', z, u)) : mq_R mq_PP (d + 8) 162 0 [some (.ref 234), some (.int x1)] [] (M, z, u) Q := by
  refine he_iload (n := 1) (i := 1) (by decide +kernel) rfl ?_
  refine he_iconst (n := 3) (c := 32) (by decide +kernel) (by decide) ?_
  intro c1 hc1
  refine he_s2 (n := 6) (j := 107) (mx := 2) (ns := [5207, 5208, 1011, 210]) (by decide +kernel) (by show 0 ≤ 8; omega) (by show 2 ≤ 2; omega) ?_
  rw [mq_e107]
  refine ym_out ?_
  intro r1 ra rb
  show mq_R mq_PP (d + 8) 162 6 _ [.int r1] (M, z, u) Q
  unfold xan1 at K
  by_cases g : 0 ≤ x1.toInt ∧ x1.toInt < 32
  rotate_left
  · have hr1 := rb (fun h => g ⟨h.1, by omega⟩)
    rw [if_neg g] at K
    refine he_ifne_t (n := 9) (t := 55) (by decide +kernel) (by omega) ?_
    refine he_iconst (n := 56) (c := 0) (by decide +kernel) (by decide) ?_
    intro c55 hc55
    refine he_retz (by decide +kernel) (by omega) ?_
    exact K M _ hm (fun o h => by cases h) (fun _ => by omega)
  have hr1 := ra ⟨g.1, by omega⟩
  rw [if_pos g] at K
  obtain ⟨g1, g2⟩ := id g
  refine he_ifne_f (n := 9) (t := 55) (by decide +kernel) (by omega) ?_
  refine he_aload (n := 10) (i := 0) (by decide +kernel) rfl ?_
  refine he_iload (n := 11) (i := 1) (by decide +kernel) rfl ?_
  refine he_iconst (n := 13) (c := 8) (by decide +kernel) (by decide) ?_
  intro c11 hc11
  refine xe_div (c := 8) (n := 14) (by decide +kernel) hc11 (by decide) (by omega) ?_
  intro v13 hv13
  generalize hs' : (x1.toInt / 8).toNat = s at K
  have hs : s < 4 := by omega
  have h2 := xx_rng (c := _) hm (a := 236) (i := s) (lo := 0) (hi := 240) rfl (show s < 4 from hs) hb_at1
  refine he_v1 (n := 17) (j := 138) (ci := 9) (mx := 3) (ns := [6030, 6032, 74, 250]) (by decide +kernel) ((hb_kd (a := 234) hm rfl).trans rfl) (by show 0 ≤ 8; omega) (by show 2 ≤ 3; omega) ?_
  rw [mq_e138]
  refine yp_read (s := s) (len := (hv M 236 s).toNat) hm (by omega) hs (by omega) (by omega) ?_
  intro M2 r2 hR2 hE2
  show mq_R mq_PP (d + 8) 162 17 _ [.int r2] (M2, z, u) Q
  cases hx : xrd (ybt M s) (hv M 236 s).toNat with
  | none =>
    have h0 := hE2.2 hx
    rw [hx] at K
    refine he_ifeq_t (n := 20) (t := 55) (by decide +kernel) (by omega) ?_
    refine he_iconst (n := 56) (c := 0) (by decide +kernel) (by decide) ?_
    intro cb55 hcb55
    refine he_retz (by decide +kernel) (by omega) ?_
    exact K M2 _ hR2.1 (fun o h => by cases h) (fun _ => by omega)
  | some q =>
    obtain ⟨l, st⟩ := q
    obtain ⟨e1, e2, e3, e4, _, _, _⟩ := hE2.1 l st hx
    rw [hx] at K
    have K := fun (M' : Nat → mq_C) (r : Int32) (q1 : mz_sh mz_GG M') (q2 : ∀ o, (if x1.toInt % 8 < (l.length : Int) then xcont (ybt M s) (l.getD (x1.toInt % 8).toNat xd0) else none) = some o → r.toInt = 1 ∧ hv M' 234 25 = (o.length : Int) ∧ o.length ≤ 200 ∧ ∀ t, t < o.length → hv M' 253 t = o.getD t 0) (q3 : (if x1.toInt % 8 < (l.length : Int) then xcont (ybt M s) (l.getD (x1.toInt % 8).toNat xd0) else none) = none → r.toInt = 0) => K M' r q1 q2 q3
    refine he_ifeq_f (n := 20) (t := 55) (by decide +kernel) (by omega) ?_
    refine he_iload (n := 21) (i := 1) (by decide +kernel) rfl ?_
    refine he_iconst (n := 23) (c := 8) (by decide +kernel) (by decide) ?_
    intro cb21 hcb21
    refine xe_rem (c := 8) (n := 24) (by decide +kernel) hcb21 (by decide) (by omega) ?_
    intro vb23 hvb23
    refine he_aload (n := 25) (i := 0) (by decide +kernel) rfl ?_
    refine he_getr (n := 28) (ci := 9) (j := 4) (ns := [4181, 20]) (b := 238) hR2.1 (by decide +kernel) rfl rfl (by decide +kernel) ?_
    refine he_iload (n := 29) (i := 1) (by decide +kernel) rfl ?_
    refine he_iconst (n := 31) (c := 8) (by decide +kernel) (by decide) ?_
    intro cb29 hcb29
    refine xe_div (c := 8) (n := 32) (by decide +kernel) hcb29 (by decide) (by omega) ?_
    intro vb31 hvb31
    refine hb_ld (n := 33) (kind := 64) hR2.1 (by decide +kernel) rfl rfl (.inl rfl) (by omega) (show _ < (4 : Int) by omega) hb_at1 ?_
    intro vb32 hvb32 lvb32 uvb32
    have q32 : vb32.toInt = (l.length : Int) := by rw [← hvb32, show vb31.toInt.toNat = s by omega]; exact e2
    by_cases g33 : x1.toInt % 8 < (l.length : Int)
    rotate_left
    · rw [if_neg g33] at K
      refine he_cmpge_t (n := 36) (t := 55) (by decide +kernel) (by omega) ?_
      refine he_iconst (n := 56) (c := 0) (by decide +kernel) (by decide) ?_
      intro cb55 hcb55
      refine he_retz (by decide +kernel) (by omega) ?_
      exact K M2 _ hR2.1 (fun o h => by cases h) (fun _ => by omega)
    rw [if_pos g33] at K
    generalize hi' : (x1.toInt % 8).toNat = i at K
    have hil : i < l.length := by omega
    refine he_cmpge_f (n := 36) (t := 55) (by decide +kernel) (by omega) ?_
    refine he_aload (n := 37) (i := 0) (by decide +kernel) rfl ?_
    refine he_iload (n := 38) (i := 1) (by decide +kernel) rfl ?_
    refine he_iconst (n := 40) (c := 8) (by decide +kernel) (by decide) ?_
    intro cb38 hcb38
    refine xe_div (c := 8) (n := 41) (by decide +kernel) hcb38 (by decide) (by omega) ?_
    intro vb40 hvb40
    refine he_iload (n := 42) (i := 1) (by decide +kernel) rfl ?_
    refine he_iconst (n := 44) (c := 8) (by decide +kernel) (by decide) ?_
    intro cb42 hcb42
    refine xe_rem (c := 8) (n := 45) (by decide +kernel) hcb42 (by decide) (by omega) ?_
    intro vb44 hvb44
    refine he_v2 (n := 48) (j := 135) (ci := 9) (mx := 5) (ns := [6054, 6056, 80, 237]) (by decide +kernel) ((hb_kd (a := 234) hR2.1 rfl).trans rfl) (by show 0 ≤ 8; omega) (by show 3 ≤ 5; omega) ?_
    rw [mq_e135]
    have hsx : ∃ l', xsnd (ybt M s) (hv M 236 s).toNat = some l' ∧ l' = l := by
      unfold xrd at hx
      cases hy : xsnd (ybt M s) (hv M 236 s).toNat with
      | none => rw [hy] at hx; cases hx
      | some l1 =>
        refine ⟨l1, rfl, ?_⟩
        rw [hy] at hx
        have hx : (match l1.find? (fun r => decide (r.1 = 77)) with | none => some (l1, xm0) | some r => match xcont (ybt M s) r with | none => none | some o => match xman (fun i => o.getD i 0) o.length with | none => none | some s => some (l1, s)) = some (l, st) := hx
        split at hx
        · cases hx
          rfl
        · split at hx
          · cases hx
          · split at hx
            · cases hx
            · cases hx
              rfl
    obtain ⟨l', hsx, rfl⟩ := hsx
    have eB2 : ybt M2 s = ybt M s := funext fun t => hb_vc (hR2.2.1 235 (by decide) (by decide) (by decide)) _
    have hu : xut (ycr M2 s i) ≤ 240 := by rw [e4 i hil]; have := xsnd_u hsx _ (xo_gm hil); omega
    have h08 : hv M2 240 (6 * s + i) = 0 ∨ hv M2 240 (6 * s + i) = 8 := by
      have h9 := xsnd_m hsx _ (xo_gm hil)
      rw [← e4 i hil] at h9
      exact h9
    refine yp_unp (s := s) (i := i) hR2.1 (by omega) hs (by omega) (by omega) hu h08 ?_
    intro M3 r3 hW3 t1 t0
    rw [e4 i hil, eB2] at t1 t0
    show mq_R mq_PP (d + 8) 162 48 _ [.int r3] (M3, z, u) Q
    cases hco : xcont (ybt M s) (l'.getD i xd0) with
    | none =>
      have h3 := t0 hco
      rw [hco] at K
      refine he_ifeq_t (n := 51) (t := 55) (by decide +kernel) (by omega) ?_
      refine he_iconst (n := 56) (c := 0) (by decide +kernel) (by decide) ?_
      intro cc55 hcc55
      refine he_retz (by decide +kernel) (by omega) ?_
      exact K M3 _ hW3.1 (fun o h => by cases h) (fun _ => by omega)
    | some o =>
      obtain ⟨h3, g25, g200, g53⟩ := t1 o hco
      rw [hco] at K
      refine he_ifeq_f (n := 51) (t := 55) (by decide +kernel) (by omega) ?_
      refine he_iconst (n := 52) (c := 1) (by decide +kernel) (by decide) ?_
      intro cc51 hcc51
      refine he_goto (t := 56) (by decide +kernel) ?_
      refine he_retz (by decide +kernel) (by omega) ?_
      exact K M3 _ hW3.1 (fun o' h => by cases h; exact ⟨by omega, g25, g200, g53⟩) (fun h => by cases h)
theorem ym_cont {d z u : Nat} {M : Nat → mq_C} {Q : (Option Value ⊕ Nat) → mq_S → Prop} {x1 x2 : Int32} (hm : mz_sh mz_GG M) (K : ∀ (M' : Nat → mq_C) (r : Int32), r.toInt = xans (ybt M) (fun s => (hv M 236 s).toNat) x1.toInt x2.toInt → Q (.inl (some (.int r))) (M', z, u)) : mq_R mq_PP (d + 9) 163 0 [some (.ref 234), some (.int x1), some (.int x2)] [] (M, z, u) Q := by
  refine he_aload (n := 1) (i := 0) (by decide +kernel) rfl ?_
  refine he_iconst (n := 2) (c := 0) (by decide +kernel) (by decide) ?_
  intro c1 hc1
  refine hb_pfd (n := 5) (ci := 9) (j := 0) (t := 0) (ns := [4177, 126]) hm (by decide +kernel) rfl rfl (by decide) (.inl rfl) ?_
  generalize hM1 : hb_set M 234 0 c1 = M1
  have hm1 : mz_sh mz_GG M1 := by rw [← hM1]; exact hb_set_sh hm rfl rfl (by omega) (by omega)
  have eM1 : ∀ b j, b ≠ 234 ∨ j ≠ 0 → hv M1 b j = hv M b j := by intro b j h; rw [← hM1]; exact hb_set_n h
  have sM1 : hv M1 234 0 = c1.toInt := by rw [← hM1]; exact hb_set_v hm rfl (by decide)
  have wM1 : ∀ b, b ≠ 234 → M1 b = M b := by intro b h; rw [← hM1]; exact hb_set_c h
  refine he_aload (n := 6) (i := 0) (by decide +kernel) rfl ?_
  refine he_iload (n := 7) (i := 1) (by decide +kernel) rfl ?_
  refine he_v1 (n := 10) (j := 162) (ci := 9) (mx := 2) (ns := [6117, 6119, 89, 336]) (by decide +kernel) ((hb_kd (a := 234) hm1 rfl).trans rfl) (by show 0 ≤ 8; omega) (by show 2 ≤ 2; omega) ?_
  rw [mq_e162]
  have eY : ybt M1 = ybt M := funext fun s => funext fun t => hb_vc (wM1 235 (by decide)) _
  have eL : (fun s => (hv M1 236 s).toNat) = fun s => (hv M 236 s).toNat := funext fun s => by rw [hb_vc (wM1 236 (by decide))]
  refine yp_at hm1 ?_
  intro M2 r2 hm2 k1 k0
  rw [eY, eL] at k1 k0
  rw [xan1_a] at K
  show mq_R mq_PP (d + 9) 163 10 _ [.int r2] (M2, z, u) Q
  cases hx : xan1 (ybt M) (fun s => (hv M 236 s).toNat) x1.toInt with
  | none =>
    have h0 := k0 hx
    rw [hx] at K
    refine he_ifne_f (n := 13) (t := 18) (by decide +kernel) (by omega) ?_
    refine he_iconst (n := 15) (c := -2) (by decide +kernel) (by decide) ?_
    intro cb13 hcb13
    refine he_goto (t := 39) (by decide +kernel) ?_
    refine he_reti (by decide +kernel) ?_
    exact K M2 _ (by show _ = (-2 : Int); omega)
  | some o =>
    obtain ⟨h1, g25, g200, g53⟩ := k1 o hx
    rw [hx] at K
    have K := fun (M' : Nat → mq_C) (r : Int32) (q : r.toInt = (if 0 ≤ x2.toInt ∧ x2.toInt < (o.length : Int) then o.getD x2.toInt.toNat 0 else -1)) => K M' r q
    refine he_ifne_t (n := 13) (t := 18) (by decide +kernel) (by omega) ?_
    refine he_iload (n := 19) (i := 2) (by decide +kernel) rfl ?_
    refine he_aload (n := 20) (i := 0) (by decide +kernel) rfl ?_
    refine hb_gfd (n := 23) (ci := 9) (j := 25) (ns := [4202, 143]) hm2 (by decide +kernel) rfl rfl (by decide) rfl ?_
    intro vb20 hvb20 lvb20 uvb20
    have q20 : vb20.toInt = (o.length : Int) := by rw [← hvb20]; exact g25
    refine he_s2 (n := 26) (j := 107) (mx := 2) (ns := [5207, 5208, 1011, 210]) (by decide +kernel) (by show 0 ≤ 8; omega) (by show 2 ≤ 2; omega) ?_
    rw [mq_e107]
    refine ym_out ?_
    intro r3 ra rb
    show mq_R mq_PP (d + 9) 163 26 _ [.int r3] (M2, z, u) Q
    by_cases g : 0 ≤ x2.toInt ∧ x2.toInt < (o.length : Int)
    rotate_left
    · have hr3 := rb (fun h => g ⟨h.1, by omega⟩)
      rw [if_neg g] at K
      refine he_ifeq_f (n := 29) (t := 33) (by decide +kernel) (by omega) ?_
      refine he_iconst (n := 30) (c := -1) (by decide +kernel) (by decide) ?_
      intro cc29 hcc29
      refine he_goto (t := 39) (by decide +kernel) ?_
      refine he_reti (by decide +kernel) ?_
      exact K M2 _ (by omega)
    have hr3 := ra ⟨g.1, by omega⟩
    rw [if_pos g] at K
    obtain ⟨p1, p2⟩ := id g
    refine he_ifeq_t (n := 29) (t := 33) (by decide +kernel) (by omega) ?_
    refine he_aload (n := 34) (i := 0) (by decide +kernel) rfl ?_
    refine he_getr (n := 37) (ci := 9) (j := 26) (ns := [4203, 65]) (b := 253) hm2 (by decide +kernel) rfl rfl (by decide +kernel) ?_
    refine he_iload (n := 38) (i := 2) (by decide +kernel) rfl ?_
    refine hb_ld (n := 39) (kind := 64) hm2 (by decide +kernel) rfl rfl (.inl rfl) (by omega) (show _ < (201 : Int) by omega) hb_at1 ?_
    intro vc38 hvc38 lvc38 uvc38
    refine he_reti (by decide +kernel) ?_
    exact K M2 _ (by rw [← g53 x2.toInt.toNat (by omega)]; exact hvc38.symm)
