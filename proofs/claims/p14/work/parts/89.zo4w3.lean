/-! Archive 3. -/
theorem xo_seen80 {d z u : Nat} {Q : (Option Value ⊕ Nat) → mq_S → Prop} {M : Nat → mq_C} {mk x1 : Int32} (hm : mz_sh mz_GG M) (hk : hv M 82 5 = mk.toInt) (h0 : 0 ≤ x1.toInt) (h1 : x1.toInt ≤ 255) (K : ∀ r : Int32, (xseen mk x1.toInt → r.toInt = 1) → (¬ xseen mk x1.toInt → r.toInt = 0) → Q (.inl (some (.int r))) (M, z, u)) : mq_R mq_PP d 84 0 [some (.ref 82), some (.int x1)] [] (M, z, u) Q := by
  refine he_aload (n := 1) (i := 0) (by decide +kernel) rfl ?_
  refine hb_gfd (n := 4) (ci := 7) (j := 5) (ns := [1197, 30]) hm (by decide +kernel) rfl rfl (by decide) rfl ?_
  intro v1 hv1 lv1 uv1
  refine he_iload (n := 5) (i := 1) (by decide +kernel) rfl ?_
  refine he_iconst (n := 7) (c := 65) (by decide +kernel) (by decide) ?_
  intro c5 hc5
  refine he_isub (n := 8) (by decide +kernel) (by omega) (by omega) ?_
  intro v7 hv7
  refine he_ex2 (o := 16) (n := 9) (by decide +kernel) rfl ?_
  intro v8 hv8
  have ev8 : v8 = v1 >>> (v7 &&& 31) := hv8
  have bv8 := mz_i32 v8
  refine he_iconst (n := 10) (c := 1) (by decide +kernel) (by decide) ?_
  intro c9 hc9
  refine he_ex2 (o := 12) (n := 11) (by decide +kernel) rfl ?_
  intro v10 hv10
  have ev10 : v10 = v8 &&& c9 := hv10
  have bv10 := mz_i32 v10
  refine he_iconst (n := 12) (c := 1) (by decide +kernel) (by decide) ?_
  intro c11 hc11
  have e1 : v1 = mk := xo_i32 (by omega)
  have e7 : v7 = Int32.ofInt (x1.toInt - 65) := xe_oi (by omega)
  have e9 : c9 = Int32.ofInt 1 := xe_oi (by omega)
  unfold xseen at K
  rw [← e7, ← e9, ← e1, ← ev8, ← ev10] at K
  by_cases h12 : v10.toInt = c11.toInt
  · skip
    refine he_cmpne_f (n := 15) (t := 19) (by decide +kernel) (by omega) ?_
    refine he_iconst (n := 16) (c := 1) (by decide +kernel) (by decide) ?_
    intro c15 hc15
    refine he_goto (t := 20) (by decide +kernel) ?_
    refine he_retz (by decide +kernel) (by omega) ?_
    exact K _ (fun _ => by omega) (fun h => absurd (by omega) h)
  · skip
    refine he_cmpne_t (n := 15) (t := 19) (by decide +kernel) (by omega) ?_
    refine he_iconst (n := 20) (c := 0) (by decide +kernel) (by decide) ?_
    intro c19 hc19
    refine he_retz (by decide +kernel) (by omega) ?_
    exact K _ (fun h => by omega) (fun _ => by omega)
theorem xo_bwc80 {d z u : Nat} {Q : (Option Value ⊕ Nat) → mq_S → Prop} {M : Nat → mq_C} {s : xMs} {x2 x3 : Int32} {f e : Nat} (hm : mz_sh mz_GG M) (hk : hv M 82 5 = s.2.1.toInt) (h2 : x2.toInt = (f : Int)) (h3 : x3.toInt = (e : Int)) (hfe : f ≤ e) (he : e ≤ 200) (hf : f < 200) (K : ∀ r : Int32, (xmc (hv M 10) s f e → r.toInt = 1) → (¬ xmc (hv M 10) s f e → r.toInt = 0) → Q (.inl (some (.int r))) (M, z, u)) : mq_R mq_PP (d + 1) 86 0 [some (.ref 82), some (.ref 10), some (.int x2), some (.int x3)] [] (M, z, u) Q := by
  have hff : x2.toInt.toNat = f := by omega
  refine he_iload (n := 1) (i := 3) (by decide +kernel) rfl ?_
  refine he_iload (n := 2) (i := 2) (by decide +kernel) rfl ?_
  refine he_isub (n := 3) (by decide +kernel) (by omega) (by omega) ?_
  intro v2 hv2
  refine he_iconst (n := 4) (c := 2) (by decide +kernel) (by decide) ?_
  intro c3 hc3
  by_cases g4 : v2.toInt < c3.toInt
  · skip
    refine he_cmplt_t (n := 7) (t := 47) (by decide +kernel) (by omega) ?_
    refine he_iconst (n := 48) (c := 0) (by decide +kernel) (by decide) ?_
    intro c47 hc47
    refine he_retz (by decide +kernel) (by omega) ?_
    exact K _ (fun h => by exfalso; obtain ⟨t1, t2, t3, t4, t5⟩ := h; omega) (fun _ => by omega)
  refine he_cmplt_f (n := 7) (t := 47) (by decide +kernel) (by omega) ?_
  refine he_aload (n := 8) (i := 1) (by decide +kernel) rfl ?_
  refine he_iload (n := 9) (i := 2) (by decide +kernel) rfl ?_
  refine hb_ld (n := 10) (kind := 64) hm (by decide +kernel) rfl rfl (.inl rfl) (by omega) (show _ < (200 : Int) by omega) hb_at1 ?_
  intro v9 hv9 lv9 uv9
  refine he_iconst (n := 12) (c := 65) (by decide +kernel) (by decide) ?_
  intro c10 hc10
  rw [hff] at hv9
  by_cases g12 : v9.toInt < c10.toInt
  · skip
    refine he_cmplt_t (n := 15) (t := 47) (by decide +kernel) (by omega) ?_
    refine he_iconst (n := 48) (c := 0) (by decide +kernel) (by decide) ?_
    intro c47 hc47
    refine he_retz (by decide +kernel) (by omega) ?_
    exact K _ (fun h => by exfalso; obtain ⟨t1, t2, t3, t4, t5⟩ := h; omega) (fun _ => by omega)
  refine he_cmplt_f (n := 15) (t := 47) (by decide +kernel) (by omega) ?_
  refine he_aload (n := 16) (i := 1) (by decide +kernel) rfl ?_
  refine he_iload (n := 17) (i := 2) (by decide +kernel) rfl ?_
  refine hb_ld (n := 18) (kind := 64) hm (by decide +kernel) rfl rfl (.inl rfl) (by omega) (show _ < (200 : Int) by omega) hb_at1 ?_
  intro v17 hv17 lv17 uv17
  refine he_iconst (n := 20) (c := 90) (by decide +kernel) (by decide) ?_
  intro c18 hc18
  rw [hff] at hv17
  by_cases g20 : c18.toInt < v17.toInt
  · skip
    refine he_cmpgt_t (n := 23) (t := 47) (by decide +kernel) (by omega) ?_
    refine he_iconst (n := 48) (c := 0) (by decide +kernel) (by decide) ?_
    intro c47 hc47
    refine he_retz (by decide +kernel) (by omega) ?_
    exact K _ (fun h => by exfalso; obtain ⟨t1, t2, t3, t4, t5⟩ := h; omega) (fun _ => by omega)
  refine he_cmpgt_f (n := 23) (t := 47) (by decide +kernel) (by omega) ?_
  refine he_aload (n := 24) (i := 1) (by decide +kernel) rfl ?_
  refine he_iload (n := 25) (i := 2) (by decide +kernel) rfl ?_
  refine he_iconst (n := 26) (c := 1) (by decide +kernel) (by decide) ?_
  intro c25 hc25
  refine he_iadd (n := 27) (by decide +kernel) (by omega) (by omega) ?_
  intro v26 hv26
  refine hb_ld (n := 28) (kind := 64) hm (by decide +kernel) rfl rfl (.inl rfl) (by omega) (show _ < (200 : Int) by omega) hb_at1 ?_
  intro v27 hv27 lv27 uv27
  refine he_iconst (n := 30) (c := 58) (by decide +kernel) (by decide) ?_
  intro c28 hc28
  have q27 : hv M 10 (f + 1) = v27.toInt := by rw [← hv27, show v26.toInt.toNat = f + 1 by omega]
  by_cases g30 : v27.toInt = c28.toInt
  rotate_left
  · skip
    refine he_cmpne_t (n := 33) (t := 47) (by decide +kernel) (by omega) ?_
    refine he_iconst (n := 48) (c := 0) (by decide +kernel) (by decide) ?_
    intro c47 hc47
    refine he_retz (by decide +kernel) (by omega) ?_
    exact K _ (fun h => by exfalso; obtain ⟨t1, t2, t3, t4, t5⟩ := h; omega) (fun _ => by omega)
  refine he_cmpne_f (n := 33) (t := 47) (by decide +kernel) (by omega) ?_
  refine he_aload (n := 34) (i := 0) (by decide +kernel) rfl ?_
  refine he_aload (n := 35) (i := 1) (by decide +kernel) rfl ?_
  refine he_iload (n := 36) (i := 2) (by decide +kernel) rfl ?_
  refine hb_ld (n := 37) (kind := 64) hm (by decide +kernel) rfl rfl (.inl rfl) (by omega) (show _ < (200 : Int) by omega) hb_at1 ?_
  intro v36 hv36 lv36 uv36
  rw [hff] at hv36
  refine he_v1 (n := 40) (j := 84) (ci := 7) (mx := 2) (ns := [3052, 3054, 21, 40]) (by decide +kernel) ((hb_kd (a := 82) hm rfl).trans rfl) (by show 0 ≤ 8; omega) (by show 2 ≤ 2; omega) ?_
  rw [mq_e84]
  refine xo_seen80 hm hk (by omega) (by omega) ?_
  intro r1 ra rb
  show mq_R mq_PP (d + 1) 86 40 _ [.int r1] (M, z, u) Q
  rw [← hv36] at ra rb
  by_cases g40 : xseen s.2.1 (hv M 10 f)
  · have hr1 := ra g40
    refine he_ifne_t (n := 43) (t := 47) (by decide +kernel) (by omega) ?_
    refine he_iconst (n := 48) (c := 0) (by decide +kernel) (by decide) ?_
    intro c47 hc47
    refine he_retz (by decide +kernel) (by omega) ?_
    exact K _ (fun h => absurd g40 h.2.2.2.2) (fun _ => by omega)
  · have hr1 := rb g40
    refine he_ifne_f (n := 43) (t := 47) (by decide +kernel) (by omega) ?_
    refine he_iconst (n := 44) (c := 1) (by decide +kernel) (by decide) ?_
    intro c43 hc43
    refine he_goto (t := 48) (by decide +kernel) ?_
    refine he_retz (by decide +kernel) (by omega) ?_
    exact K _ (fun _ => by omega) (fun h => absurd ⟨by omega, by omega, by omega, by omega, g40⟩ h)
theorem xo_atp80_l {d z u : Nat} {Q : (Option Value ⊕ Nat) → mq_S → Prop} {M0 M : Nat → mq_C} {s : xMs} {x1 : Int32} (hV : xMV 80 M0 M s) (h0 : 0 ≤ x1.toInt) (h3 : x1.toInt ≤ 3) (K : ∀ (M' : Nat → mq_C) (r : Int32), r.toInt = 1 → xMV 80 M0 M' (s.1, s.2.1, s.2.2.1, xmadd s.2.2.2 x1.toInt) → Q (.inl (some (.int r))) (M', z, u)) : ∀ (m j : Nat) (i2 : Int32), j + m = s.2.2.2.length → i2.toInt = (j : Int) → (∀ t, t < j → ¬ s.2.2.2.getD t 0 = x1.toInt) → mq_R mq_PP d 88 2 [some (.ref 82), some (.int x1), some (.int i2)] [] (M, z, u) Q := by
  intro m
  obtain ⟨y1, y2, y3, y4, y5, y6, y7, y8, y9, y10⟩ := id hV
  have y6 : hv M 82 2 = (s.2.2.2.length : Int) := y6
  have y7 : ∀ i, i < s.2.2.2.length → hv M 83 i = s.2.2.2.getD i 0 := y7
  have y8 : hxd (hv M 82 2) (fun i => hv M 83 i) := y8
  have l4 : hv M 82 2 ≤ 4 := (xx_rng (c := _) y1 (a := 82) (i := 2) (lo := 0) (hi := 4) rfl (by decide) rfl).2
  induction m with
  | zero =>
    intro j i2 e1 e2 e3
    have hne : ¬ s.2.2.2.elem x1.toInt = true := fun h => by
      obtain ⟨t, ht, et⟩ := List.getElem_of_mem (List.elem_iff.mp h)
      refine e3 t (by omega) ?_
      rw [List.getD_eq_getElem?_getD, List.getElem?_eq_getElem ht]
      exact et
    have hroom : hv M 82 2 < 4 := hp_room l4 (fun t ht => xx_rng (c := _) y1 (a := 83) (i := t) (lo := 0) (hi := 3) rfl (show t < 4 from ht) hb_at1) ⟨h0, h3⟩ y8 (fun t ht => by
      show ¬ hv M 83 t = _
      rw [y7 t (by omega)]
      exact e3 t (by omega))
    refine he_iload (n := 3) (i := 2) (by decide +kernel) rfl ?_
    refine he_aload (n := 4) (i := 0) (by decide +kernel) rfl ?_
    refine hb_gfd (n := 7) (ci := 7) (j := 2) (ns := [1192, 19]) y1 (by decide +kernel) rfl rfl (by decide) rfl ?_
    intro v4 hv4 lv4 uv4
    refine he_cmpge_t (n := 10) (t := 28) (by decide +kernel) (by omega) ?_
    refine he_aload (n := 29) (i := 0) (by decide +kernel) rfl ?_
    refine he_getr (n := 32) (ci := 7) (j := 1) (ns := [1190, 15]) (b := 83) y1 (by decide +kernel) rfl rfl (by decide +kernel) ?_
    refine he_aload (n := 33) (i := 0) (by decide +kernel) rfl ?_
    refine hb_gfd (n := 36) (ci := 7) (j := 2) (ns := [1192, 19]) y1 (by decide +kernel) rfl rfl (by decide) rfl ?_
    intro v33 hv33 lv33 uv33
    refine he_iload (n := 37) (i := 1) (by decide +kernel) rfl ?_
    refine hb_sta (n := 38) (kind := 64) y1 (by decide +kernel) rfl rfl (.inl rfl) (by omega) (show _ < (4 : Int) by omega) ?_
    generalize hM1 : hb_set M 83 (v33.toInt.toNat) x1 = M1
    have hm1 : mz_sh mz_GG M1 := by rw [← hM1]; exact hb_set_sh y1 rfl hb_at1 (by omega) (by omega)
    have eM1 : ∀ b j, b ≠ 83 ∨ j ≠ v33.toInt.toNat → hv M1 b j = hv M b j := by intro b j h; rw [← hM1]; exact hb_set_n h
    have sM1 : hv M1 83 (v33.toInt.toNat) = x1.toInt := by rw [← hM1]; exact hb_set_v y1 rfl (show _ < 4 by omega)
    have wM1 : ∀ b, b ≠ 83 → M1 b = M b := by intro b h; rw [← hM1]; exact hb_set_c h
    refine he_aload (n := 39) (i := 0) (by decide +kernel) rfl ?_
    refine he_dup_r (n := 40) (by decide +kernel) ?_
    refine hb_gfd (n := 43) (ci := 7) (j := 2) (ns := [1192, 19]) hm1 (by decide +kernel) rfl rfl (by decide) rfl ?_
    intro v40 hv40 lv40 uv40
    refine he_iconst (n := 44) (c := 1) (by decide +kernel) (by decide) ?_
    intro c43 hc43
    refine he_iadd (n := 45) (by decide +kernel) (by omega) (by omega) ?_
    intro v44 hv44
    have q40 : hv M1 82 2 = hv M 82 2 := eM1 _ _ (.inl (by decide))
    refine hb_pfd (n := 48) (ci := 7) (j := 2) (t := 0) (ns := [1192, 19]) hm1 (by decide +kernel) rfl rfl (by decide) (.inl rfl) ?_
    generalize hM2 : hb_set M1 82 2 v44 = M2
    have hm2 : mz_sh mz_GG M2 := by rw [← hM2]; exact hb_set_sh hm1 rfl rfl (by omega) (by omega)
    have eM2 : ∀ b j, b ≠ 82 ∨ j ≠ 2 → hv M2 b j = hv M1 b j := by intro b j h; rw [← hM2]; exact hb_set_n h
    have sM2 : hv M2 82 2 = v44.toInt := by rw [← hM2]; exact hb_set_v hm1 rfl (by decide)
    have wM2 : ∀ b, b ≠ 82 → M2 b = M1 b := by intro b h; rw [← hM2]; exact hb_set_c h
    refine he_iconst (n := 49) (c := 1) (by decide +kernel) (by decide) ?_
    intro c48 hc48
    refine he_retz (by decide +kernel) (by omega) ?_
    have i33 : v33.toInt.toNat = s.2.2.2.length := by omega
    refine K M2 _ (by omega) ⟨hm2, fun b hb => by rw [wM2 b (by omega), wM1 b (by omega)]; exact y2 b hb, ?_, ?_, ?_, ?_, ?_, ?_, y9, y10⟩
    · rw [eM2 _ _ (.inr (by decide)), eM1 _ _ (.inl (by decide))]
      exact y3
    · rw [eM2 _ _ (.inr (by decide)), eM1 _ _ (.inl (by decide))]
      exact y4
    · rw [eM2 _ _ (.inr (by decide)), eM1 _ _ (.inl (by decide))]
      exact y5
    · show _ = ((xmadd s.2.2.2 x1.toInt).length : Int)
      unfold xmadd
      rw [if_neg hne, List.length_append, sM2]
      show _ = ((_ + 1 : Nat) : Int)
      have := eM1 82 2 (.inl (by decide))
      omega
    · show ∀ i, i < (xmadd s.2.2.2 x1.toInt).length → hv M2 (80 + 3) i = (xmadd s.2.2.2 x1.toInt).getD i 0
      unfold xmadd
      rw [if_neg hne]
      intro i hi
      rw [List.length_append] at hi
      have hi : i < s.2.2.2.length + 1 := hi
      rw [eM2 _ _ (.inl (by decide))]
      by_cases e : i = s.2.2.2.length
      · rw [e, xx_gr (Nat.le_refl _), Nat.sub_self, ← i33, sM1]
        rfl
      · rw [xx_gl (by omega), eM1 _ _ (.inr (by omega))]
        exact y7 i (by omega)
    · have e2' : hv M2 (80 + 2) 2 = hv M 82 2 + 1 := by
        show hv M2 82 2 = _
        have := eM1 82 2 (.inl (by decide))
        rw [sM2]
        omega
      rw [e2']
      refine hp_add (by omega) y8 (x := x1.toInt) (fun t ht => ?_) ?_ (fun t ht => ?_)
      · show ¬ hv M 83 t = _
        rw [y7 t (by omega)]
        exact e3 t (by omega)
      · show hv M2 83 _ = _
        rw [eM2 _ _ (.inl (by decide)), show (hv M 82 2).toNat = v33.toInt.toNat by omega]
        exact sM1
      · show hv M2 83 t = hv M 83 t
        rw [eM2 _ _ (.inl (by decide)), eM1 _ _ (.inr (by omega))]
  | succ m ih =>
    intro j i2 e1 e2 e3
    refine he_iload (n := 3) (i := 2) (by decide +kernel) rfl ?_
    refine he_aload (n := 4) (i := 0) (by decide +kernel) rfl ?_
    refine hb_gfd (n := 7) (ci := 7) (j := 2) (ns := [1192, 19]) y1 (by decide +kernel) rfl rfl (by decide) rfl ?_
    intro v4 hv4 lv4 uv4
    refine he_cmpge_f (n := 10) (t := 28) (by decide +kernel) (by omega) ?_
    refine he_aload (n := 11) (i := 0) (by decide +kernel) rfl ?_
    refine he_getr (n := 14) (ci := 7) (j := 1) (ns := [1190, 15]) (b := 83) y1 (by decide +kernel) rfl rfl (by decide +kernel) ?_
    refine he_iload (n := 15) (i := 2) (by decide +kernel) rfl ?_
    refine hb_ld (n := 16) (kind := 64) y1 (by decide +kernel) rfl rfl (.inl rfl) (by omega) (show _ < (4 : Int) by omega) hb_at1 ?_
    intro v15 hv15 lv15 uv15
    refine he_iload (n := 17) (i := 1) (by decide +kernel) rfl ?_
    have q15 : s.2.2.2.getD j 0 = v15.toInt := by rw [← y7 j (by omega), ← hv15, show i2.toInt.toNat = j by omega]
    by_cases hc : v15.toInt = x1.toInt
    · skip
      refine he_cmpne_f (n := 20) (t := 22) (by decide +kernel) (by omega) ?_
      refine he_iconst (n := 21) (c := 1) (by decide +kernel) (by decide) ?_
      intro c20 hc20
      refine he_retz (by decide +kernel) (by omega) ?_
      have hel : s.2.2.2.elem x1.toInt = true := List.elem_iff.mpr (by
        rw [← hc, ← q15, List.getD_eq_getElem?_getD, List.getElem?_eq_getElem (show j < s.2.2.2.length by omega)]
        exact List.getElem_mem _)
      refine K M _ (by omega) ?_
      have e : xmadd s.2.2.2 x1.toInt = s.2.2.2 := if_pos hel
      rw [e]
      exact hV
    · skip
      refine he_cmpne_t (n := 20) (t := 22) (by decide +kernel) (by omega) ?_
      refine he_iinc (n := 25) (i := 2) (c := 1) (L' := fun v => [some (.ref (82)), some (.int x1), some (.int v)]) (by decide +kernel) (by decide) rfl (fun _ => rfl) (by omega) (by omega) ?_
      intro i22 hi22
      refine he_goto (t := 2) (by decide +kernel) ?_
      refine ih (j + 1) _ (by omega) (by omega) (fun t ht => ?_)
      by_cases e : t = j
      · rw [e, q15]
        exact hc
      · exact e3 t (by omega)
theorem xo_atp80 {d z u : Nat} {Q : (Option Value ⊕ Nat) → mq_S → Prop} {M0 M : Nat → mq_C} {s : xMs} {x1 : Int32} (hV : xMV 80 M0 M s) (h0 : 0 ≤ x1.toInt) (h3 : x1.toInt ≤ 3) (K : ∀ (M' : Nat → mq_C) (r : Int32), r.toInt = 1 → xMV 80 M0 M' (s.1, s.2.1, s.2.2.1, xmadd s.2.2.2 x1.toInt) → Q (.inl (some (.int r))) (M', z, u)) : mq_R mq_PP d 88 0 [some (.ref 82), some (.int x1), none] [] (M, z, u) Q := by
  refine he_iconst (n := 1) (c := 0) (by decide +kernel) (by decide) ?_
  intro c0 hc0
  refine he_istore (n := 2) (i := 2) (by decide +kernel) rfl ?_
  exact xo_atp80_l hV h0 h3 K s.2.2.2.length 0 _ (by omega) (by omega) (fun t ht => absurd ht (Nat.not_lt_zero t))
theorem xo_seal80 {d z u : Nat} {Q : (Option Value ⊕ Nat) → mq_S → Prop} {M0 M : Nat → mq_C} {s : xMs} {x1 : Int32} (hV : xMV 80 M0 M s) (h0 : 0 ≤ x1.toInt) (h3 : x1.toInt ≤ 3) (K : ∀ (M' : Nat → mq_C) (r : Int32), r.toInt = 1 → xMV 80 M0 M' s → Q (.inl (some (.int r))) (M', z, u)) : mq_R mq_PP d 89 0 [some (.ref 82), some (.int x1)] [] (M, z, u) Q := by
  obtain ⟨y1, y2, y3, y4, y5, y6, y7, y8, y9, y10⟩ := id hV
  refine he_aload (n := 1) (i := 0) (by decide +kernel) rfl ?_
  refine he_getr (n := 4) (ci := 7) (j := 3) (ns := [1194, 23]) (b := 84) y1 (by decide +kernel) rfl rfl (by decide +kernel) ?_
  refine he_iload (n := 5) (i := 1) (by decide +kernel) rfl ?_
  refine he_iconst (n := 6) (c := 1) (by decide +kernel) (by decide) ?_
  intro c5 hc5
  refine hb_sta (n := 7) (kind := 65) y1 (by decide +kernel) rfl rfl (.inr ⟨rfl, he_01 (by omega)⟩) (by omega) (show _ < (4 : Int) by omega) ?_
  generalize hM1 : hb_set M 84 (x1.toInt.toNat) c5 = M1
  have hm1 : mz_sh mz_GG M1 := by rw [← hM1]; exact hb_set_sh y1 rfl hb_at1 (by omega) (by omega)
  have eM1 : ∀ b j, b ≠ 84 ∨ j ≠ x1.toInt.toNat → hv M1 b j = hv M b j := by intro b j h; rw [← hM1]; exact hb_set_n h
  have sM1 : hv M1 84 (x1.toInt.toNat) = c5.toInt := by rw [← hM1]; exact hb_set_v y1 rfl (show _ < 4 by omega)
  have wM1 : ∀ b, b ≠ 84 → M1 b = M b := by intro b h; rw [← hM1]; exact hb_set_c h
  refine he_iconst (n := 8) (c := 1) (by decide +kernel) (by decide) ?_
  intro c7 hc7
  refine he_retz (by decide +kernel) (by omega) ?_
  have uu : ∀ b t, b ≠ 84 → hv M1 b t = hv M b t := fun b t hb => eM1 _ _ (.inl hb)
  refine K M1 _ (by omega) ⟨hm1, fun b hb => by rw [wM1 b (by omega)]; exact y2 b hb, by rw [uu _ _ (by decide)]; exact y3, by rw [uu _ _ (by decide)]; exact y4, by rw [uu _ _ (by decide)]; exact y5, by rw [uu _ _ (by decide)]; exact y6, fun i hi => by rw [uu _ _ (by decide)]; exact y7 i hi, ?_, y9, y10⟩
  rw [uu _ _ (by decide), show (fun i => hv M1 (80 + 3) i) = fun i => hv M (80 + 3) i from funext fun i => uu _ _ (by decide)]
  exact y8
theorem xo_rb80 {d z u : Nat} {Q : (Option Value ⊕ Nat) → mq_S → Prop} {M0 M : Nat → mq_C} {s : xMs} {x1 : Int32} (hV : xMV 80 M0 M s) (h0 : 0 ≤ x1.toInt) (h3 : x1.toInt ≤ 255) (K1 : ∀ (M' : Nat → mq_C) (r : Int32) (s' : xMs), xmb s x1.toInt = some s' → r.toInt = 1 → xMV 80 M0 M' s' → Q (.inl (some (.int r))) (M', z, u)) (K0 : ∀ (M' : Nat → mq_C) (r : Int32), xmb s x1.toInt = none → r.toInt = 0 → mz_sh mz_GG M' → (∀ b, b < 80 + 2 ∨ 80 + 4 < b → M' b = M0 b) → Q (.inl (some (.int r))) (M', z, u)) : mq_R mq_PP (d + 1) 87 0 [some (.ref 82), some (.int x1)] [] (M, z, u) Q := by
  obtain ⟨y1, y2, y3, y4, y5, y6, y7, y8, y9, y10⟩ := id hV
  have y5 : hv M 82 6 = s.2.2.1 := y5
  refine he_aload (n := 1) (i := 0) (by decide +kernel) rfl ?_
  refine hb_gfd (n := 4) (ci := 7) (j := 4) (ns := [1196, 27]) y1 (by decide +kernel) rfl rfl (by decide) rfl ?_
  intro cp hcp lcp ucp
  have hcap : cp.toInt = s.1 := by rw [← hcp]; exact y3
  have wP : s.1 = 80 → mq_R mq_PP (d + 1) 87 40 [some (.ref 82), some (.int x1)] [] (M, z, u) Q := by
    intro hs
    have dx : xmb s x1.toInt = (if 48 ≤ x1.toInt ∧ x1.toInt < 52 then some (s.1, s.2.1, s.2.2.1, xmadd s.2.2.2 (x1.toInt - 48)) else none) := by unfold xmb; rw [if_pos hs]
    by_cases hb : 48 ≤ x1.toInt ∧ x1.toInt < 52
    · rw [if_pos hb] at dx
      refine he_iload (n := 41) (i := 1) (by decide +kernel) rfl ?_
      refine he_iconst (n := 43) (c := 48) (by decide +kernel) (by decide) ?_
      intro cp41 hcp41
      refine he_cmplt_f (n := 46) (t := 67) (by decide +kernel) (by omega) ?_
      refine he_iload (n := 47) (i := 1) (by decide +kernel) rfl ?_
      refine he_iconst (n := 49) (c := 52) (by decide +kernel) (by decide) ?_
      intro cp47 hcp47
      refine he_cmpge_f (n := 52) (t := 67) (by decide +kernel) (by omega) ?_
      refine he_aload (n := 53) (i := 0) (by decide +kernel) rfl ?_
      refine he_iload (n := 54) (i := 1) (by decide +kernel) rfl ?_
      refine he_iconst (n := 56) (c := 48) (by decide +kernel) (by decide) ?_
      intro cp54 hcp54
      refine he_isub (n := 57) (by decide +kernel) (by omega) (by omega) ?_
      intro vp56 hvp56
      refine he_v1 (n := 60) (j := 88) (ci := 7) (mx := 3) (ns := [3060, 3062, 23, 50]) (by decide +kernel) ((hb_kd (a := 82) y1 rfl).trans rfl) (by show 0 ≤ 8; omega) (by show 2 ≤ 3; omega) ?_
      rw [mq_e88]
      refine xo_atp80 hV (by omega) (by omega) ?_
      intro M' r1 hr1 hV'
      show mq_R mq_PP (d + 1) 87 60 _ [.int r1] (M', z, u) Q
      rw [show vp56.toInt = x1.toInt - 48 by omega] at hV'
      refine he_ifeq_f (n := 63) (t := 67) (by decide +kernel) (by omega) ?_
      refine he_iconst (n := 64) (c := 1) (by decide +kernel) (by decide) ?_
      intro cq63 hcq63
      refine he_goto (t := 68) (by decide +kernel) ?_
      refine he_retz (by decide +kernel) (by omega) ?_
      exact K1 M' _ _ dx (by omega) hV'
    · rw [if_neg hb] at dx
      by_cases hb2 : x1.toInt < 48
      · skip
        refine he_iload (n := 41) (i := 1) (by decide +kernel) rfl ?_
        refine he_iconst (n := 43) (c := 48) (by decide +kernel) (by decide) ?_
        intro cp41 hcp41
        refine he_cmplt_t (n := 46) (t := 67) (by decide +kernel) (by omega) ?_
        refine he_iconst (n := 68) (c := 0) (by decide +kernel) (by decide) ?_
        intro cp67 hcp67
        refine he_retz (by decide +kernel) (by omega) ?_
        exact K0 M _ dx (by omega) y1 y2
      · skip
        refine he_iload (n := 41) (i := 1) (by decide +kernel) rfl ?_
        refine he_iconst (n := 43) (c := 48) (by decide +kernel) (by decide) ?_
        intro cp41 hcp41
        refine he_cmplt_f (n := 46) (t := 67) (by decide +kernel) (by omega) ?_
        refine he_iload (n := 47) (i := 1) (by decide +kernel) rfl ?_
        refine he_iconst (n := 49) (c := 52) (by decide +kernel) (by decide) ?_
        intro cp47 hcp47
        refine he_cmpge_t (n := 52) (t := 67) (by decide +kernel) (by omega) ?_
        refine he_iconst (n := 68) (c := 0) (by decide +kernel) (by decide) ?_
        intro cp67 hcp67
        refine he_retz (by decide +kernel) (by omega) ?_
        exact K0 M _ dx (by omega) y1 y2
  have wZ : s.1 = 90 → mq_R mq_PP (d + 1) 87 69 [some (.ref 82), some (.int x1)] [] (M, z, u) Q := by
    intro hs
    have dx : xmb s x1.toInt = (if 97 ≤ x1.toInt ∧ x1.toInt < 101 then some s else none) := by unfold xmb; rw [if_neg (by omega), if_neg (by omega), if_pos hs]
    by_cases hb : 97 ≤ x1.toInt ∧ x1.toInt < 101
    · rw [if_pos hb] at dx
      refine he_iload (n := 70) (i := 1) (by decide +kernel) rfl ?_
      refine he_iconst (n := 72) (c := 97) (by decide +kernel) (by decide) ?_
      intro cp70 hcp70
      refine he_cmplt_f (n := 75) (t := 96) (by decide +kernel) (by omega) ?_
      refine he_iload (n := 76) (i := 1) (by decide +kernel) rfl ?_
      refine he_iconst (n := 78) (c := 101) (by decide +kernel) (by decide) ?_
      intro cp76 hcp76
      refine he_cmpge_f (n := 81) (t := 96) (by decide +kernel) (by omega) ?_
      refine he_aload (n := 82) (i := 0) (by decide +kernel) rfl ?_
      refine he_iload (n := 83) (i := 1) (by decide +kernel) rfl ?_
      refine he_iconst (n := 85) (c := 97) (by decide +kernel) (by decide) ?_
      intro cp83 hcp83
      refine he_isub (n := 86) (by decide +kernel) (by omega) (by omega) ?_
      intro vp85 hvp85
      refine he_v1 (n := 89) (j := 89) (ci := 7) (mx := 2) (ns := [3064, 3066, 24, 53]) (by decide +kernel) ((hb_kd (a := 82) y1 rfl).trans rfl) (by show 0 ≤ 8; omega) (by show 2 ≤ 2; omega) ?_
      rw [mq_e89]
      refine xo_seal80 hV (by omega) (by omega) ?_
      intro M' r1 hr1 hV'
      show mq_R mq_PP (d + 1) 87 89 _ [.int r1] (M', z, u) Q
      refine he_ifeq_f (n := 92) (t := 96) (by decide +kernel) (by omega) ?_
      refine he_iconst (n := 93) (c := 1) (by decide +kernel) (by decide) ?_
      intro cq92 hcq92
      refine he_goto (t := 97) (by decide +kernel) ?_
      refine he_retz (by decide +kernel) (by omega) ?_
      exact K1 M' _ _ dx (by omega) hV'
    · rw [if_neg hb] at dx
      by_cases hb2 : x1.toInt < 97
      · skip
        refine he_iload (n := 70) (i := 1) (by decide +kernel) rfl ?_
        refine he_iconst (n := 72) (c := 97) (by decide +kernel) (by decide) ?_
        intro cp70 hcp70
        refine he_cmplt_t (n := 75) (t := 96) (by decide +kernel) (by omega) ?_
        refine he_iconst (n := 97) (c := 0) (by decide +kernel) (by decide) ?_
        intro cp96 hcp96
        refine he_retz (by decide +kernel) (by omega) ?_
        exact K0 M _ dx (by omega) y1 y2
      · skip
        refine he_iload (n := 70) (i := 1) (by decide +kernel) rfl ?_
        refine he_iconst (n := 72) (c := 97) (by decide +kernel) (by decide) ?_
        intro cp70 hcp70
        refine he_cmplt_f (n := 75) (t := 96) (by decide +kernel) (by omega) ?_
        refine he_iload (n := 76) (i := 1) (by decide +kernel) rfl ?_
        refine he_iconst (n := 78) (c := 101) (by decide +kernel) (by decide) ?_
        intro cp76 hcp76
        refine he_cmpge_t (n := 81) (t := 96) (by decide +kernel) (by omega) ?_
        refine he_iconst (n := 97) (c := 0) (by decide +kernel) (by decide) ?_
        intro cp96 hcp96
        refine he_retz (by decide +kernel) (by omega) ?_
        exact K0 M _ dx (by omega) y1 y2
  have wV : s.1 = 86 → mq_R mq_PP (d + 1) 87 98 [some (.ref 82), some (.int x1)] [] (M, z, u) Q := by
    intro hs
    have dx : xmb s x1.toInt = (if x1.toInt = 89 ∧ s.2.2.1 = 0 then some (s.1, s.2.1, 1, s.2.2.2) else none) := by unfold xmb; rw [if_neg (by omega), if_pos hs]
    refine he_aload (n := 99) (i := 0) (by decide +kernel) rfl ?_
    refine he_dup_r (n := 100) (by decide +kernel) ?_
    refine hb_gfd (n := 103) (ci := 7) (j := 6) (ns := [1198, 33]) y1 (by decide +kernel) rfl rfl (by decide) rfl ?_
    intro vp100 hvp100 lvp100 uvp100
    refine he_iconst (n := 104) (c := 1) (by decide +kernel) (by decide) ?_
    intro cp103 hcp103
    refine he_iadd (n := 105) (by decide +kernel) (by omega) (by omega) ?_
    intro vp104 hvp104
    refine hb_pfd (n := 108) (ci := 7) (j := 6) (t := 0) (ns := [1198, 33]) y1 (by decide +kernel) rfl rfl (by decide) (.inl rfl) ?_
    generalize hMp1 : hb_set M 82 6 vp104 = Mp1
    have hmp1 : mz_sh mz_GG Mp1 := by rw [← hMp1]; exact hb_set_sh y1 rfl rfl (by omega) (by omega)
    have eMp1 : ∀ b j, b ≠ 82 ∨ j ≠ 6 → hv Mp1 b j = hv M b j := by intro b j h; rw [← hMp1]; exact hb_set_n h
    have sMp1 : hv Mp1 82 6 = vp104.toInt := by rw [← hMp1]; exact hb_set_v y1 rfl (by decide)
    have wMp1 : ∀ b, b ≠ 82 → Mp1 b = M b := by intro b h; rw [← hMp1]; exact hb_set_c h
    refine he_iload (n := 109) (i := 1) (by decide +kernel) rfl ?_
    refine he_iconst (n := 111) (c := 89) (by decide +kernel) (by decide) ?_
    intro cp109 hcp109
    have kw : ∀ b, b < 80 + 2 ∨ 80 + 4 < b → Mp1 b = M0 b := fun b hb => by rw [wMp1 b (by omega)]; exact y2 b hb
    have q100 : vp100.toInt = s.2.2.1 := by rw [← hvp100]; exact y5
    by_cases hb : x1.toInt = cp109.toInt
    rotate_left
    · rw [if_neg (fun h => hb (by omega))] at dx
      refine he_cmpne_t (n := 114) (t := 126) (by decide +kernel) (by omega) ?_
      refine he_iconst (n := 127) (c := 0) (by decide +kernel) (by decide) ?_
      intro cp126 hcp126
      refine he_retz (by decide +kernel) (by omega) ?_
      exact K0 Mp1 _ dx (by omega) hmp1 kw
    refine he_cmpne_f (n := 114) (t := 126) (by decide +kernel) (by omega) ?_
    refine he_aload (n := 115) (i := 0) (by decide +kernel) rfl ?_
    refine hb_gfd (n := 118) (ci := 7) (j := 6) (ns := [1198, 33]) hmp1 (by decide +kernel) rfl rfl (by decide) rfl ?_
    intro vp115 hvp115 lvp115 uvp115
    refine he_iconst (n := 119) (c := 1) (by decide +kernel) (by decide) ?_
    intro cp118 hcp118
    by_cases hb2 : vp115.toInt = cp118.toInt
    rotate_left
    · rw [if_neg (fun h => hb2 (by omega))] at dx
      refine he_cmpne_t (n := 122) (t := 126) (by decide +kernel) (by omega) ?_
      refine he_iconst (n := 127) (c := 0) (by decide +kernel) (by decide) ?_
      intro cp126 hcp126
      refine he_retz (by decide +kernel) (by omega) ?_
      exact K0 Mp1 _ dx (by omega) hmp1 kw
    rw [if_pos ⟨by omega, by omega⟩] at dx
    refine he_cmpne_f (n := 122) (t := 126) (by decide +kernel) (by omega) ?_
    refine he_iconst (n := 123) (c := 1) (by decide +kernel) (by decide) ?_
    intro cp122 hcp122
    refine he_goto (t := 127) (by decide +kernel) ?_
    refine he_retz (by decide +kernel) (by omega) ?_
    refine K1 Mp1 _ _ dx (by omega) ⟨hmp1, kw, by rw [eMp1 _ _ (.inr (by decide))]; exact y3, by rw [eMp1 _ _ (.inr (by decide))]; exact y4, ?_, by rw [eMp1 _ _ (.inr (by decide))]; exact y6, fun i hi => by rw [eMp1 _ _ (.inl (by decide))]; exact y7 i hi, ?_, .inr rfl, y10⟩
    · show hv Mp1 82 6 = 1
      omega
    · rw [eMp1 _ _ (.inr (by decide)), show (fun i => hv Mp1 (80 + 3) i) = fun i => hv M (80 + 3) i from funext fun i => eMp1 _ _ (.inl (by decide))]
      exact y8
  have wO : ¬ s.1 = 80 → ¬ s.1 = 86 → ¬ s.1 = 90 → mq_R mq_PP (d + 1) 87 128 [some (.ref 82), some (.int x1)] [] (M, z, u) Q := by
    intro hs1 hs2 hs3
    have dx : xmb s x1.toInt = (if 32 ≤ x1.toInt ∧ x1.toInt ≤ 126 then some s else none) := by unfold xmb; rw [if_neg hs1, if_neg hs2, if_neg hs3]
    by_cases hb : 32 ≤ x1.toInt ∧ x1.toInt ≤ 126
    · rw [if_pos hb] at dx
      refine he_iload (n := 129) (i := 1) (by decide +kernel) rfl ?_
      refine he_iconst (n := 131) (c := 32) (by decide +kernel) (by decide) ?_
      intro cp129 hcp129
      refine he_cmplt_f (n := 134) (t := 144) (by decide +kernel) (by omega) ?_
      refine he_iload (n := 135) (i := 1) (by decide +kernel) rfl ?_
      refine he_iconst (n := 137) (c := 126) (by decide +kernel) (by decide) ?_
      intro cp135 hcp135
      refine he_cmpgt_f (n := 140) (t := 144) (by decide +kernel) (by omega) ?_
      refine he_iconst (n := 141) (c := 1) (by decide +kernel) (by decide) ?_
      intro cp140 hcp140
      refine he_goto (t := 145) (by decide +kernel) ?_
      refine he_retz (by decide +kernel) (by omega) ?_
      exact K1 M _ _ dx (by omega) hV
    · rw [if_neg hb] at dx
      by_cases hb2 : x1.toInt < 32
      · skip
        refine he_iload (n := 129) (i := 1) (by decide +kernel) rfl ?_
        refine he_iconst (n := 131) (c := 32) (by decide +kernel) (by decide) ?_
        intro cp129 hcp129
        refine he_cmplt_t (n := 134) (t := 144) (by decide +kernel) (by omega) ?_
        refine he_iconst (n := 145) (c := 0) (by decide +kernel) (by decide) ?_
        intro cp144 hcp144
        refine he_retz (by decide +kernel) (by omega) ?_
        exact K0 M _ dx (by omega) y1 y2
      · skip
        refine he_iload (n := 129) (i := 1) (by decide +kernel) rfl ?_
        refine he_iconst (n := 131) (c := 32) (by decide +kernel) (by decide) ?_
        intro cp129 hcp129
        refine he_cmplt_f (n := 134) (t := 144) (by decide +kernel) (by omega) ?_
        refine he_iload (n := 135) (i := 1) (by decide +kernel) rfl ?_
        refine he_iconst (n := 137) (c := 126) (by decide +kernel) (by decide) ?_
        intro cp135 hcp135
        refine he_cmpgt_t (n := 140) (t := 144) (by decide +kernel) (by omega) ?_
        refine he_iconst (n := 145) (c := 0) (by decide +kernel) (by decide) ?_
        intro cp144 hcp144
        refine he_retz (by decide +kernel) (by omega) ?_
        exact K0 M _ dx (by omega) y1 y2
  rw [mq_R_at (o := (51, [40, 98, 69, 128], [80, 86, 90])) (by decide +kernel), mq_x_switch (n := 0)]
  simp only [mq_swR]
  exact ⟨fun h => wP (by omega), fun h1 => ⟨fun h => wV (by omega), fun h2 => ⟨fun h => wZ (by omega), fun h3 => wO (by omega) (by omega) (by omega)⟩⟩⟩
