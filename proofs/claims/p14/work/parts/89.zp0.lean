/-! The model's byteOf, two, recordOf, unpacked, exactly. -/
def ybt (M : Nat → mq_C) (s t : Nat) : Int := hv M 235 (240 * s + t)
/-- record i of archive s, as the model keeps it -/
def ycr (M : Nat → mq_C) (s i : Nat) : xRc := (hv M 239 (6 * s + i), hv M 240 (6 * s + i), hv M 241 (6 * s + i), hv M 242 (6 * s + i), hv M 243 (6 * s + i), hv M 244 (6 * s + i))
theorem ycr_c {M M' : Nat → mq_C} {s i : Nat} (h : ∀ b, 239 ≤ b → b ≤ 244 → hv M' b (6 * s + i) = hv M b (6 * s + i)) : ycr M' s i = ycr M s i := by
  unfold ycr
  rw [h 239 (by omega) (by omega), h 240 (by omega) (by omega), h 241 (by omega) (by omega), h 242 (by omega) (by omega), h 243 (by omega) (by omega), h 244 (by omega) (by omega)]
theorem ybt_r {M : Nat → mq_C} (hm : mz_sh mz_GG M) {s t : Nat} (hs : s < 4) (ht : t < 240) : 0 ≤ ybt M s t ∧ ybt M s t ≤ 255 := xx_rng (c := _) hm (a := 235) (i := 240 * s + t) (lo := 0) (hi := 255) rfl (show 240 * s + t < 960 by omega) hb_at1
theorem xnN_2 {b : Nat → Int} {a : Nat} (h0 : 0 ≤ b a) (h1 : 0 ≤ b (a + 1)) : ((xnN b a 2 : Nat) : Int) = b a + 256 * b (a + 1) := by
  show ((0 + (b (a + 0)).toNat * 2 ^ (8 * 0) + (b (a + 1)).toNat * 2 ^ (8 * 1) : Nat) : Int) = _
  have e0 : (2 : Nat) ^ (8 * 0) = 1 := by decide
  have e1 : (2 : Nat) ^ (8 * 1) = 256 := by decide
  rw [e0, e1, Nat.add_zero]
  omega
theorem yp_by {d z u s : Nat} {M : Nat → mq_C} {Q : (Option Value ⊕ Nat) → mq_S → Prop} {x1 x2 : Int32} {t : Nat} (hm : mz_sh mz_GG M) (h1 : x1.toInt = (s : Int)) (hs : s < 4) (h2 : x2.toInt = (t : Int)) (ht : t < 240) (K : ∀ r : Int32, r.toInt = ybt M s t → 0 ≤ r.toInt → r.toInt ≤ 255 → Q (.inl (some (.int r))) (M, z, u)) : mq_R mq_PP d 130 0 [some (.ref 234), some (.int x1), some (.int x2)] [] (M, z, u) Q := by
  refine he_aload (n := 1) (i := 0) (by decide +kernel) rfl ?_
  refine he_getr (n := 4) (ci := 9) (j := 1) (ns := [4178, 7]) (b := 235) hm (by decide +kernel) rfl rfl (by decide +kernel) ?_
  refine he_iconst (n := 7) (c := 240) (by decide +kernel) (by decide) ?_
  intro c4 hc4
  refine he_iload (n := 8) (i := 1) (by decide +kernel) rfl ?_
  refine he_imul (n := 9) (p := 240 * x1.toInt) (by decide +kernel) (by rw [hc4]) (by omega) (by omega) ?_
  intro v8 hv8
  refine he_iload (n := 10) (i := 2) (by decide +kernel) rfl ?_
  refine he_iadd (n := 11) (by decide +kernel) (by omega) (by omega) ?_
  intro v10 hv10
  refine hb_ld (n := 12) (kind := 64) hm (by decide +kernel) rfl rfl (.inl rfl) (by omega) (show _ < (960 : Int) by omega) hb_at1 ?_
  intro v11 hv11 lv11 uv11
  refine he_reti (by decide +kernel) ?_
  refine K _ ?_ (by omega) (by omega)
  unfold ybt
  rw [← hv11, show v10.toInt.toNat = 240 * s + t by omega]
theorem yp_two {d z u s : Nat} {M : Nat → mq_C} {Q : (Option Value ⊕ Nat) → mq_S → Prop} {x1 x2 : Int32} {t : Nat} (hm : mz_sh mz_GG M) (h1 : x1.toInt = (s : Int)) (hs : s < 4) (h2 : x2.toInt = (t : Int)) (ht : t + 1 < 240) (K : ∀ r : Int32, r.toInt = ((xnN (ybt M s) t 2 : Nat) : Int) → 0 ≤ r.toInt → r.toInt ≤ 65535 → Q (.inl (some (.int r))) (M, z, u)) : mq_R mq_PP (d + 1) 131 0 [some (.ref 234), some (.int x1), some (.int x2)] [] (M, z, u) Q := by
  refine he_aload (n := 1) (i := 0) (by decide +kernel) rfl ?_
  refine he_iload (n := 2) (i := 1) (by decide +kernel) rfl ?_
  refine he_iload (n := 3) (i := 2) (by decide +kernel) rfl ?_
  refine he_v2 (n := 6) (j := 130) (ci := 9) (mx := 3) (ns := [6038, 6040, 76, 217]) (by decide +kernel) ((hb_kd (a := 234) hm rfl).trans rfl) (by show 0 ≤ 8; omega) (by show 3 ≤ 3; omega) ?_
  rw [mq_e130]
  refine yp_by hm h1 hs h2 (by omega) ?_
  intro r1 hr1 lr1 ur1
  show mq_R mq_PP (d + 1) 131 6 _ [.int r1] (M, z, u) Q
  refine he_iconst (n := 9) (c := 256) (by decide +kernel) (by decide) ?_
  intro c6 hc6
  refine he_aload (n := 10) (i := 0) (by decide +kernel) rfl ?_
  refine he_iload (n := 11) (i := 1) (by decide +kernel) rfl ?_
  refine he_iload (n := 12) (i := 2) (by decide +kernel) rfl ?_
  refine he_iconst (n := 13) (c := 1) (by decide +kernel) (by decide) ?_
  intro c12 hc12
  refine he_iadd (n := 14) (by decide +kernel) (by omega) (by omega) ?_
  intro v13 hv13
  refine he_v2 (n := 17) (j := 130) (ci := 9) (mx := 3) (ns := [6038, 6040, 76, 217]) (by decide +kernel) ((hb_kd (a := 234) hm rfl).trans rfl) (by show 2 ≤ 8; omega) (by show 3 ≤ 3; omega) ?_
  rw [mq_e130]
  refine yp_by (t := t + 1) hm h1 hs (by omega) (by omega) ?_
  intro r2 hr2 lr2 ur2
  show mq_R mq_PP (d + 1) 131 17 _ [.int r2, .int c6, .int r1] (M, z, u) Q
  refine he_imul (n := 18) (p := 256 * r2.toInt) (by decide +kernel) (by rw [hc6]) (by omega) (by omega) ?_
  intro vb17 hvb17
  refine he_iadd (n := 19) (by decide +kernel) (by omega) (by omega) ?_
  intro vb18 hvb18
  refine he_reti (by decide +kernel) ?_
  have b0 := ybt_r hm hs (t := t) (by omega)
  have b1 := ybt_r hm hs (t := t + 1) (by omega)
  exact K _ (by rw [xnN_2 b0.1 b1.1]; omega) (by omega) (by omega)
theorem yp_ro_l {d z u s : Nat} {M : Nat → mq_C} {Q : (Option Value ⊕ Nat) → mq_S → Prop} {x1 x2 : Int32} {n : Nat} (hm : mz_sh mz_GG M) (h1 : x1.toInt = (s : Int)) (hs : s < 4) (hn : hv M 238 s = (n : Int)) (hn6 : n ≤ 6) (K : ∀ r : Int32, xfs (fun i => hv M 239 (6 * s + i)) n x2.toInt r.toInt → Q (.inl (some (.int r))) (M, z, u)) : ∀ (m j : Nat) (i : Int32), j + m = n → i.toInt = (j : Int) → (∀ t, t < j → ¬ hv M 239 (6 * s + t) = x2.toInt) → mq_R mq_PP d 134 2 [some (.ref 234), some (.int x1), some (.int x2), some (.int i)] [] (M, z, u) Q := by
  intro m
  have hss : x1.toInt.toNat = s := by omega
  induction m with
  | zero =>
    intro j i e1 e2 e3
    refine he_iload (n := 3) (i := 3) (by decide +kernel) rfl ?_
    refine he_aload (n := 4) (i := 0) (by decide +kernel) rfl ?_
    refine he_getr (n := 7) (ci := 9) (j := 4) (ns := [4181, 20]) (b := 238) hm (by decide +kernel) rfl rfl (by decide +kernel) ?_
    refine he_iload (n := 8) (i := 1) (by decide +kernel) rfl ?_
    refine hb_ld (n := 9) (kind := 64) hm (by decide +kernel) rfl rfl (.inl rfl) (by omega) (show _ < (4 : Int) by omega) hb_at1 ?_
    intro v8 hv8 lv8 uv8
    rw [hss, hn] at hv8
    refine he_cmpge_t (n := 12) (t := 35) (by decide +kernel) (by omega) ?_
    refine he_iconst (n := 36) (c := -1) (by decide +kernel) (by decide) ?_
    intro c35 hc35
    refine he_reti (by decide +kernel) ?_
    exact K _ (.inr ⟨by omega, fun t ht => e3 t (by omega)⟩)
  | succ m ih =>
    intro j i e1 e2 e3
    refine he_iload (n := 3) (i := 3) (by decide +kernel) rfl ?_
    refine he_aload (n := 4) (i := 0) (by decide +kernel) rfl ?_
    refine he_getr (n := 7) (ci := 9) (j := 4) (ns := [4181, 20]) (b := 238) hm (by decide +kernel) rfl rfl (by decide +kernel) ?_
    refine he_iload (n := 8) (i := 1) (by decide +kernel) rfl ?_
    refine hb_ld (n := 9) (kind := 64) hm (by decide +kernel) rfl rfl (.inl rfl) (by omega) (show _ < (4 : Int) by omega) hb_at1 ?_
    intro v8 hv8 lv8 uv8
    rw [hss, hn] at hv8
    refine he_cmpge_f (n := 12) (t := 35) (by decide +kernel) (by omega) ?_
    refine he_aload (n := 13) (i := 0) (by decide +kernel) rfl ?_
    refine he_getr (n := 16) (ci := 9) (j := 5) (ns := [4182, 23]) (b := 239) hm (by decide +kernel) rfl rfl (by decide +kernel) ?_
    refine he_iconst (n := 18) (c := 6) (by decide +kernel) (by decide) ?_
    intro c16 hc16
    refine he_iload (n := 19) (i := 1) (by decide +kernel) rfl ?_
    refine he_imul (n := 20) (p := 6 * x1.toInt) (by decide +kernel) (by rw [hc16]) (by omega) (by omega) ?_
    intro v19 hv19
    refine he_iload (n := 21) (i := 3) (by decide +kernel) rfl ?_
    refine he_iadd (n := 22) (by decide +kernel) (by omega) (by omega) ?_
    intro v21 hv21
    refine hb_ld (n := 23) (kind := 64) hm (by decide +kernel) rfl rfl (.inl rfl) (by omega) (show _ < (24 : Int) by omega) hb_at1 ?_
    intro v22 hv22 lv22 uv22
    refine he_iload (n := 24) (i := 2) (by decide +kernel) rfl ?_
    have q22 : hv M 239 (6 * s + j) = v22.toInt := by rw [← hv22, show v21.toInt.toNat = 6 * s + j by omega]
    by_cases hc : v22.toInt = x2.toInt
    · skip
      refine he_cmpne_f (n := 27) (t := 29) (by decide +kernel) (by omega) ?_
      refine he_iload (n := 28) (i := 3) (by decide +kernel) rfl ?_
      refine he_reti (by decide +kernel) ?_
      exact K _ (.inl ⟨j, by omega, e2, by show hv M 239 (6 * s + j) = _; rw [q22]; exact hc, e3⟩)
    · skip
      refine he_cmpne_t (n := 27) (t := 29) (by decide +kernel) (by omega) ?_
      refine he_iinc (n := 32) (i := 3) (c := 1) (L' := fun v => [some (.ref (234)), some (.int x1), some (.int x2), some (.int v)]) (by decide +kernel) (by decide) rfl (fun _ => rfl) (by omega) (by omega) ?_
      intro i29 hi29
      refine he_goto (t := 2) (by decide +kernel) ?_
      refine ih (j + 1) _ (by omega) (by omega) (fun t ht => ?_)
      by_cases e : t = j
      · rw [e, q22]
        exact hc
      · exact e3 t (by omega)
theorem yp_ro {d z u s : Nat} {M : Nat → mq_C} {Q : (Option Value ⊕ Nat) → mq_S → Prop} {x1 x2 : Int32} {n : Nat} (hm : mz_sh mz_GG M) (h1 : x1.toInt = (s : Int)) (hs : s < 4) (hn : hv M 238 s = (n : Int)) (hn6 : n ≤ 6) (K : ∀ r : Int32, xfs (fun i => hv M 239 (6 * s + i)) n x2.toInt r.toInt → Q (.inl (some (.int r))) (M, z, u)) : mq_R mq_PP d 134 0 [some (.ref 234), some (.int x1), some (.int x2), none] [] (M, z, u) Q := by
  refine he_iconst (n := 1) (c := 0) (by decide +kernel) (by decide) ?_
  intro c0 hc0
  refine he_istore (n := 2) (i := 3) (by decide +kernel) rfl ?_
  exact yp_ro_l hm h1 hs hn hn6 K n 0 _ (by omega) (by omega) (fun t ht => absurd ht (Nat.not_lt_zero t))
/-- unpacking changes only the model's own rows for it -/
def yW (M0 M : Nat → mq_C) : Prop := mz_sh mz_GG M ∧ (∀ b, b ≠ 234 → b < 252 ∨ 257 ≤ b → M b = M0 b) ∧ ∀ j, j ≠ 21 → j ≠ 23 → j ≠ 24 → j ≠ 25 → hv M 234 j = hv M0 234 j
theorem yp_src {d z u s : Nat} {Q : (Option Value ⊕ Nat) → mq_S → Prop} {M0 : Nat → mq_C} {x1 x2 x3 : Int32} {i c f : Nat} (h1 : x1.toInt = (s : Int)) (hs : s < 4) (hi : i < 6) (h3 : x3.toInt = 6 * (s : Int) + (i : Int)) (hf : hv M0 244 (6 * s + i) = (f : Int)) (hfc : f + 2 + c ≤ 240) {o4 : Option Value} (K : ∀ (M : Nat → mq_C) (k : Int32), yW M0 M → hv M 234 21 = (c : Int) → (∀ t, t < c → hv M 252 t = ybt M0 s (f + 2 + t)) → mq_R mq_PP (d + 1) 135 58 [some (.ref 234), some (.int x1), some (.int x2), some (.int x3), some (.int k)] [] (M, z, u) Q) : ∀ (m j : Nat) (M : Nat → mq_C) (k : Int32), j + m = c → k.toInt = (j : Int) → yW M0 M → hv M 234 21 = (c : Int) → (∀ t, t < j → hv M 252 t = ybt M0 s (f + 2 + t)) → mq_R mq_PP (d + 1) 135 20 [some (.ref 234), some (.int x1), some (.int x2), some (.int x3), some (.int k)] [] (M, z, u) Q := by
  intro m
  induction m with
  | zero =>
    intro j M k e1 e2 hW hc ht
    refine he_iload (n := 22) (i := 4) (by decide +kernel) rfl ?_
    refine he_aload (n := 23) (i := 0) (by decide +kernel) rfl ?_
    refine hb_gfd (n := 26) (ci := 9) (j := 21) (ns := [4198, 132]) hW.1 (by decide +kernel) rfl rfl (by decide) rfl ?_
    intro v23 hv23 lv23 uv23
    refine he_cmpge_t (n := 29) (t := 58) (by decide +kernel) (by omega) ?_
    exact K M k hW hc (fun t h => ht t (by omega))
  | succ m ih =>
    intro j M k e1 e2 hW hc ht
    refine he_iload (n := 22) (i := 4) (by decide +kernel) rfl ?_
    refine he_aload (n := 23) (i := 0) (by decide +kernel) rfl ?_
    refine hb_gfd (n := 26) (ci := 9) (j := 21) (ns := [4198, 132]) hW.1 (by decide +kernel) rfl rfl (by decide) rfl ?_
    intro v23 hv23 lv23 uv23
    refine he_cmpge_f (n := 29) (t := 58) (by decide +kernel) (by omega) ?_
    refine he_aload (n := 30) (i := 0) (by decide +kernel) rfl ?_
    refine he_getr (n := 33) (ci := 9) (j := 22) (ns := [4199, 62]) (b := 252) hW.1 (by decide +kernel) rfl rfl (by decide +kernel) ?_
    refine he_iload (n := 35) (i := 4) (by decide +kernel) rfl ?_
    refine he_aload (n := 36) (i := 0) (by decide +kernel) rfl ?_
    refine he_iload (n := 37) (i := 1) (by decide +kernel) rfl ?_
    refine he_aload (n := 38) (i := 0) (by decide +kernel) rfl ?_
    refine he_getr (n := 41) (ci := 9) (j := 10) (ns := [4187, 38]) (b := 244) hW.1 (by decide +kernel) rfl rfl (by decide +kernel) ?_
    refine he_iload (n := 42) (i := 3) (by decide +kernel) rfl ?_
    refine hb_ld (n := 43) (kind := 64) hW.1 (by decide +kernel) rfl rfl (.inl rfl) (by omega) (show _ < (24 : Int) by omega) hb_at1 ?_
    intro v42 hv42 lv42 uv42
    have q42 : v42.toInt = (f : Int) := by rw [← hv42, show x3.toInt.toNat = 6 * s + i by omega, hb_vc (hW.2.1 244 (by decide) (by decide))]; exact hf
    refine he_iconst (n := 44) (c := 2) (by decide +kernel) (by decide) ?_
    intro c43 hc43
    refine he_iadd (n := 45) (by decide +kernel) (by omega) (by omega) ?_
    intro v44 hv44
    refine he_iload (n := 47) (i := 4) (by decide +kernel) rfl ?_
    refine he_iadd (n := 48) (by decide +kernel) (by omega) (by omega) ?_
    intro v47 hv47
    refine he_v2 (n := 51) (j := 130) (ci := 9) (mx := 3) (ns := [6038, 6040, 76, 217]) (by decide +kernel) ((hb_kd (a := 234) hW.1 rfl).trans rfl) (by show 2 ≤ 8; omega) (by show 3 ≤ 3; omega) ?_
    rw [mq_e130]
    refine yp_by (s := s) (t := f + 2 + j) hW.1 h1 hs (by omega) (by omega) ?_
    intro r1 hr1 lr1 ur1
    show mq_R mq_PP (d + 1) 135 51 _ [.int r1, .int k, .ref 252] (M, z, u) Q
    have q1 : r1.toInt = ybt M0 s (f + 2 + j) := by rw [hr1]; unfold ybt; exact hb_vc (hW.2.1 235 (by decide) (by decide)) _
    refine hb_sta (n := 52) (kind := 64) hW.1 (by decide +kernel) rfl rfl (.inl rfl) (by omega) (show _ < (240 : Int) by omega) ?_
    generalize hMb1 : hb_set M 252 (k.toInt.toNat) r1 = Mb1
    have hmb1 : mz_sh mz_GG Mb1 := by rw [← hMb1]; exact hb_set_sh hW.1 rfl hb_at1 (by omega) (by omega)
    have eMb1 : ∀ b j, b ≠ 252 ∨ j ≠ k.toInt.toNat → hv Mb1 b j = hv M b j := by intro b j h; rw [← hMb1]; exact hb_set_n h
    have sMb1 : hv Mb1 252 (k.toInt.toNat) = r1.toInt := by rw [← hMb1]; exact hb_set_v hW.1 rfl (show _ < 240 by omega)
    have wMb1 : ∀ b, b ≠ 252 → Mb1 b = M b := by intro b h; rw [← hMb1]; exact hb_set_c h
    refine he_iinc (n := 55) (i := 4) (c := 1) (L' := fun v => [some (.ref (234)), some (.int x1), some (.int x2), some (.int x3), some (.int v)]) (by decide +kernel) (by decide) rfl (fun _ => rfl) (by omega) (by omega) ?_
    intro ib52 hib52
    refine he_goto (t := 20) (by decide +kernel) ?_
    refine ih (j + 1) Mb1 _ (by omega) (by omega) ⟨hmb1, fun b p q => by rw [wMb1 b (by omega)]; exact hW.2.1 b p q, fun t a1 a2 a3 a4 => by rw [eMb1 _ _ (.inl (by decide))]; exact hW.2.2 t a1 a2 a3 a4⟩ (by rw [eMb1 _ _ (.inl (by decide))]; exact hc) (fun t h => ?_)
    by_cases e : t = j
    · rw [e, ← q1, show j = k.toInt.toNat by omega]
      exact sMb1
    · rw [eMb1 _ _ (.inr (by omega))]
      exact ht t (by omega)
theorem yp_unp {d z u s : Nat} {M : Nat → mq_C} {Q : (Option Value ⊕ Nat) → mq_S → Prop} {x1 x2 : Int32} {i : Nat} (hm : mz_sh mz_GG M) (h1 : x1.toInt = (s : Int)) (hs : s < 4) (h2 : x2.toInt = (i : Int)) (hi : i < 6) (hu : xut (ycr M s i) ≤ 240) (h08 : hv M 240 (6 * s + i) = 0 ∨ hv M 240 (6 * s + i) = 8) (K : ∀ (M' : Nat → mq_C) (r : Int32), yW M M' → (∀ o, xcont (ybt M s) (ycr M s i) = some o → r.toInt = 1 ∧ hv M' 234 25 = (o.length : Int) ∧ o.length ≤ 200 ∧ ∀ t, t < o.length → hv M' 253 t = o.getD t 0) → (xcont (ybt M s) (ycr M s i) = none → r.toInt = 0) → Q (.inl (some (.int r))) (M', z, u)) : mq_R mq_PP (d + 6) 135 0 [some (.ref 234), some (.int x1), some (.int x2), none, none] [] (M, z, u) Q := by
  have hu : hv M 244 (6 * s + i) + 2 + hv M 243 (6 * s + i) ≤ 240 := hu
  have rp := xx_rng (c := _) hm (a := 244) (i := 6 * s + i) (lo := 0) (hi := 65535) rfl (show 6 * s + i < 24 by omega) hb_at1
  have rk := xx_rng (c := _) hm (a := 243) (i := 6 * s + i) (lo := 0) (hi := 65535) rfl (show 6 * s + i < 24 by omega) hb_at1
  obtain ⟨f, hf⟩ : ∃ f : Nat, hv M 244 (6 * s + i) = (f : Int) := ⟨(hv M 244 (6 * s + i)).toNat, by omega⟩
  obtain ⟨c, hc⟩ : ∃ c : Nat, hv M 243 (6 * s + i) = (c : Int) := ⟨(hv M 243 (6 * s + i)).toNat, by omega⟩
  refine he_iconst (n := 2) (c := 6) (by decide +kernel) (by decide) ?_
  intro c0 hc0
  refine he_iload (n := 3) (i := 1) (by decide +kernel) rfl ?_
  refine he_imul (n := 4) (p := 6 * x1.toInt) (by decide +kernel) (by rw [hc0]) (by omega) (by omega) ?_
  intro v3 hv3
  refine he_iload (n := 5) (i := 2) (by decide +kernel) rfl ?_
  refine he_iadd (n := 6) (by decide +kernel) (by omega) (by omega) ?_
  intro v5 hv5
  refine he_istore (n := 7) (i := 3) (by decide +kernel) rfl ?_
  refine he_aload (n := 8) (i := 0) (by decide +kernel) rfl ?_
  refine he_aload (n := 9) (i := 0) (by decide +kernel) rfl ?_
  refine he_getr (n := 12) (ci := 9) (j := 9) (ns := [4186, 35]) (b := 243) hm (by decide +kernel) rfl rfl (by decide +kernel) ?_
  refine he_iload (n := 13) (i := 3) (by decide +kernel) rfl ?_
  refine hb_ld (n := 14) (kind := 64) hm (by decide +kernel) rfl rfl (.inl rfl) (by omega) (show _ < (24 : Int) by omega) hb_at1 ?_
  intro v13 hv13 lv13 uv13
  have ix : v5.toInt.toNat = 6 * s + i := by omega
  rw [ix, hc] at hv13
  refine hb_pfd (n := 17) (ci := 9) (j := 21) (t := 0) (ns := [4198, 132]) hm (by decide +kernel) rfl rfl (by decide) (.inl rfl) ?_
  generalize hM1 : hb_set M 234 21 v13 = M1
  have hm1 : mz_sh mz_GG M1 := by rw [← hM1]; exact hb_set_sh hm rfl rfl (by omega) (by omega)
  have eM1 : ∀ b j, b ≠ 234 ∨ j ≠ 21 → hv M1 b j = hv M b j := by intro b j h; rw [← hM1]; exact hb_set_n h
  have sM1 : hv M1 234 21 = v13.toInt := by rw [← hM1]; exact hb_set_v hm rfl (by decide)
  have wM1 : ∀ b, b ≠ 234 → M1 b = M b := by intro b h; rw [← hM1]; exact hb_set_c h
  refine he_iconst (n := 18) (c := 0) (by decide +kernel) (by decide) ?_
  intro c17 hc17
  refine he_istore (n := 20) (i := 4) (by decide +kernel) rfl ?_
  refine yp_src (M0 := M) (s := s) (i := i) (c := c) (f := f) h1 hs hi (by omega) hf (by omega) (o4 := none) ?_ c 0 M1 _ (by omega) (by omega) ⟨hm1, fun b p _ => wM1 b p, fun j a1 _ _ _ => eM1 _ _ (.inr a1)⟩ (by rw [sM1]; omega) (fun t h => absurd h (Nat.not_lt_zero t))
  intro M2 k2 hW2 hc2 ht2
  refine he_aload (n := 59) (i := 0) (by decide +kernel) rfl ?_
  refine he_aload (n := 60) (i := 0) (by decide +kernel) rfl ?_
  refine he_getr (n := 63) (ci := 9) (j := 6) (ns := [4183, 26]) (b := 240) hW2.1 (by decide +kernel) rfl rfl (by decide +kernel) ?_
  refine he_iload (n := 64) (i := 3) (by decide +kernel) rfl ?_
  refine hb_ld (n := 65) (kind := 64) hW2.1 (by decide +kernel) rfl rfl (.inl rfl) (by omega) (show _ < (24 : Int) by omega) hb_at1 ?_
  intro va64 hva64 lva64 uva64
  have q64 : va64.toInt = hv M 240 (6 * s + i) := by rw [← hva64, ix]; exact hb_vc (hW2.2.1 240 (by decide) (by decide)) _
  refine he_v1 (n := 68) (j := 120) (ci := 9) (mx := 4) (ns := [5145, 5147, 52, 200]) (by decide +kernel) ((hb_kd (a := 234) hW2.1 rfl).trans rfl) (by show 0 ≤ 8; omega) (by show 2 ≤ 4; omega) ?_
  rw [mq_e120]
  refine ym_opened (cnt := c) hW2.1 hc2 (by omega) (by omega) ?_
  intro M3 r3 hU3 k1 k0
  have hW3 : yW M M3 := ⟨hU3.1, fun b p q => (hU3.2.1 b p (by omega)).trans (hW2.2.1 b p q), fun j a1 a2 a3 a4 => (hU3.2.2 j a2 a3 a4).trans (hW2.2.2 j a1 a2 a3 a4)⟩
  have eX : xop va64.toInt (8 * c) (xB M2 252) = xop (hv M 240 (6 * s + i)) (8 * c) (fun t => xbit (ybt M s) (8 * (f + 2) + t)) := by
    rw [q64]
    refine xop_e (fun t ht => ?_) (by omega)
    unfold xB xbit
    rw [ht2 (t / 8) (by omega), show (8 * (f + 2) + t) / 8 = f + 2 + t / 8 by omega, show (8 * (f + 2) + t) % 8 = t % 8 by omega]
  rw [eX] at k1 k0
  have eC : xcont (ybt M s) (ycr M s i) = (match xop (hv M 240 (6 * s + i)) (8 * c) (fun t => xbit (ybt M s) (8 * (f + 2) + t)) with | some o => if (o.length : Int) = hv M 242 (6 * s + i) ∧ (xsum o).toInt = hv M 241 (6 * s + i) then some o else none | none => none) := by
    show (match xop (hv M 240 (6 * s + i)) (8 * (hv M 243 (6 * s + i)).toNat) (fun t => xbit (ybt M s) (8 * ((hv M 244 (6 * s + i)).toNat + 2) + t)) with | some o => if (o.length : Int) = hv M 242 (6 * s + i) ∧ (xsum o).toInt = hv M 241 (6 * s + i) then some o else none | none => none) = _
    rw [hf, hc]
    rfl
  rw [eC] at K
  clear eC eX
  show mq_R mq_PP (d + 6) 135 68 _ [.int r3] (M3, z, u) Q
  cases hxo : xop (hv M 240 (6 * s + i)) (8 * c) (fun t => xbit (ybt M s) (8 * (f + 2) + t)) with
  | none =>
    have hr3 := k0 hxo
    rw [hxo] at K
    refine he_ifeq_t (n := 71) (t := 101) (by decide +kernel) (by omega) ?_
    refine he_iconst (n := 102) (c := 0) (by decide +kernel) (by decide) ?_
    intro cb101 hcb101
    refine he_retz (by decide +kernel) (by omega) ?_
    exact K M3 _ hW3 (fun o h => by cases h) (fun _ => by omega)
  | some o' =>
    obtain ⟨hr3, g2, ho, g3⟩ := k1 o' hxo
    rw [hxo] at K
    have K := fun (M' : Nat → mq_C) (r : Int32) (g1 : yW M M') (g4 : ∀ o, (if (o'.length : Int) = hv M 242 (6 * s + i) ∧ (xsum o').toInt = hv M 241 (6 * s + i) then some o' else none) = some o → r.toInt = 1 ∧ hv M' 234 25 = (o.length : Int) ∧ o.length ≤ 200 ∧ ∀ t, t < o.length → hv M' 253 t = o.getD t 0) (g5 : (if (o'.length : Int) = hv M 242 (6 * s + i) ∧ (xsum o').toInt = hv M 241 (6 * s + i) then some o' else none) = none → r.toInt = 0) => K M' r g1 g4 g5
    refine he_ifeq_f (n := 71) (t := 101) (by decide +kernel) (by omega) ?_
    refine he_aload (n := 72) (i := 0) (by decide +kernel) rfl ?_
    refine hb_gfd (n := 75) (ci := 9) (j := 25) (ns := [4202, 143]) hU3.1 (by decide +kernel) rfl rfl (by decide) rfl ?_
    intro vb72 hvb72 lvb72 uvb72
    refine he_aload (n := 76) (i := 0) (by decide +kernel) rfl ?_
    refine he_getr (n := 79) (ci := 9) (j := 8) (ns := [4185, 32]) (b := 242) hU3.1 (by decide +kernel) rfl rfl (by decide +kernel) ?_
    refine he_iload (n := 80) (i := 3) (by decide +kernel) rfl ?_
    refine hb_ld (n := 81) (kind := 64) hU3.1 (by decide +kernel) rfl rfl (.inl rfl) (by omega) (show _ < (24 : Int) by omega) hb_at1 ?_
    intro vb80 hvb80 lvb80 uvb80
    have q72 : vb72.toInt = (o'.length : Int) := by rw [← hvb72]; exact g2
    have q80 : vb80.toInt = hv M 242 (6 * s + i) := by rw [← hvb80, ix]; exact hb_vc (hW3.2.1 242 (by decide) (by decide)) _
    by_cases g81 : vb72.toInt = vb80.toInt
    rotate_left
    · rw [if_neg (fun h => g81 (by omega))] at K
      refine he_cmpne_t (n := 84) (t := 101) (by decide +kernel) (by omega) ?_
      refine he_iconst (n := 102) (c := 0) (by decide +kernel) (by decide) ?_
      intro cb101 hcb101
      refine he_retz (by decide +kernel) (by omega) ?_
      exact K M3 _ hW3 (fun o h => by cases h) (fun _ => by omega)
    refine he_cmpne_f (n := 84) (t := 101) (by decide +kernel) (by omega) ?_
    refine he_aload (n := 85) (i := 0) (by decide +kernel) rfl ?_
    refine he_v0 (n := 88) (j := 121) (ci := 9) (mx := 4) (ns := [5198, 5200, 64, 203]) (by decide +kernel) ((hb_kd (a := 234) hU3.1 rfl).trans rfl) (by show 0 ≤ 8; omega) (by show 1 ≤ 4; omega) ?_
    rw [mq_e121]
    refine xm_sum (o := o') hU3.1 g2 g3 ho ?_
    show mq_R mq_PP (d + 6) 135 88 _ [.int (xsum o')] (M3, z, u) Q
    generalize hsu : xsum o' = sv at K
    refine he_aload (n := 89) (i := 0) (by decide +kernel) rfl ?_
    refine he_getr (n := 92) (ci := 9) (j := 7) (ns := [4184, 29]) (b := 241) hU3.1 (by decide +kernel) rfl rfl (by decide +kernel) ?_
    refine he_iload (n := 93) (i := 3) (by decide +kernel) rfl ?_
    refine hb_ld (n := 94) (kind := 64) hU3.1 (by decide +kernel) rfl rfl (.inl rfl) (by omega) (show _ < (24 : Int) by omega) hb_at1 ?_
    intro vc93 hvc93 lvc93 uvc93
    have q93 : vc93.toInt = hv M 241 (6 * s + i) := by rw [← hvc93, ix]; exact hb_vc (hW3.2.1 241 (by decide) (by decide)) _
    by_cases g94 : sv.toInt = vc93.toInt
    · rw [if_pos ⟨by omega, by omega⟩] at K
      refine he_cmpne_f (n := 97) (t := 101) (by decide +kernel) (by omega) ?_
      refine he_iconst (n := 98) (c := 1) (by decide +kernel) (by decide) ?_
      intro cc97 hcc97
      refine he_goto (t := 102) (by decide +kernel) ?_
      refine he_retz (by decide +kernel) (by omega) ?_
      exact K M3 _ hW3 (fun o h => by cases h; exact ⟨by omega, g2, ho, g3⟩) (fun h => by cases h)
    · rw [if_neg (fun h => g94 (by omega))] at K
      refine he_cmpne_t (n := 97) (t := 101) (by decide +kernel) (by omega) ?_
      refine he_iconst (n := 102) (c := 0) (by decide +kernel) (by decide) ?_
      intro cc101 hcc101
      refine he_retz (by decide +kernel) (by omega) ?_
      exact K M3 _ hW3 (fun o h => by cases h) (fun _ => by omega)
