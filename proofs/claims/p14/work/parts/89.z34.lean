/-! enter of the model, exactly. -/
def lx_ok (M M' : Nat → mq_C) (x r : Int) : Prop := r = 1 ∧ hv M' 234 15 = 0 ∧ hv M' 234 17 = hv M 234 17 + 2 + hv M 234 15 ∧ hb_sum (hn_g M') 6 = hb_sum (hn_g M) 6 + 12 + hb_nm x ∧ hv M' 234 19 = hv M 234 19 + 1
theorem lx_e305 {d z u : Nat} {Q : (Option Value ⊕ Nat) → mq_S → Prop} {M Mc : Nat → mq_C} {x1 x2 x3 x4 x5 x6 : Int32} (hC : ∀ c ∈ mz_Cs, c.2 < 8 → mz_Ct mz_GG mq_PP HX c.1 c.2) (hd : 8 ≤ d) (hz : 272 ≤ z) (hc : hn_C M Mc) (h19 : hv M 234 19 ≤ 5) (h19' : 0 ≤ hv M 234 19) (hb0 : 0 ≤ hv M 234 17) (hd0 : 0 ≤ hv M 234 15) (tot : hv M 234 17 + 2 + hv M 234 15 + 12 + hb_nm x1.toInt + 4 + hb_sum (hn_g M) 6 ≤ 240) (hbd : hv M 234 17 + hv M 234 15 ≤ 222) (hx2 : 0 ≤ x2.toInt) (hx2' : x2.toInt ≤ 8) (hd15 : hv M 234 15 ≤ 120) (h51 : hv Mc 251 (6 * (hv M 234 19).toNat) = x1.toInt)
    (K : ∀ (M' : Nat → mq_C) (r : Int32), mz_sh mz_GG M' → HX M' → hn_S M M' → lx_ok M M' x1.toInt r.toInt → Q (.inl (some (.int r))) (M', z, u)) : mq_R mq_PP d 124 305 [some (.ref 234), some (.int x1), some (.int x2), some (.int x3), some (.int x4), some (.int x5), some (.int x6)] [] (Mc, z, u) Q := by
  obtain ⟨hm, hx, hS, e17, e19, e15, e51⟩ := id hc
  refine he_aload (n := 306) (i := 0) (by decide +kernel) rfl ?_
  refine he_dup_r (n := 307) (by decide +kernel) ?_
  refine hb_gfd (n := 310) (ci := 9) (j := 17) (ns := [4194, 191]) hm (by decide +kernel) rfl rfl (by decide) rfl ?_
  intro v307 hv307 lv307 uv307
  have q307 : v307.toInt = hv M 234 17 := by rw [← hv307]; exact e17
  refine he_iconst (n := 311) (c := 2) (by decide +kernel) (by decide) ?_
  intro c310 hc310
  refine he_aload (n := 312) (i := 0) (by decide +kernel) rfl ?_
  refine hb_gfd (n := 315) (ci := 9) (j := 15) (ns := [4192, 186]) hm (by decide +kernel) rfl rfl (by decide) rfl ?_
  intro v312 hv312 lv312 uv312
  have q312 : v312.toInt = hv M 234 15 := by rw [← hv312]; exact e15
  refine he_iadd (n := 316) (by decide +kernel) (by omega) (by omega) ?_
  intro v315 hv315
  refine he_iadd (n := 317) (by decide +kernel) (by omega) (by omega) ?_
  intro v316 hv316
  refine hb_pfd (n := 320) (ci := 9) (j := 17) (t := 0) (ns := [4194, 191]) hm (by decide +kernel) rfl rfl (by decide) (.inl rfl) ?_
  generalize hM1 : hb_set Mc 234 17 v316 = M1
  have hm1 : mz_sh mz_GG M1 := by rw [← hM1]; exact hb_set_sh hm rfl rfl (by omega) (by omega)
  have eM1 : ∀ b j, b ≠ 234 ∨ j ≠ 17 → hv M1 b j = hv Mc b j := by intro b j h; rw [← hM1]; exact hb_set_n h
  have sM1 : hv M1 234 17 = v316.toInt := by rw [← hM1]; exact hb_set_v hm rfl (by decide)
  have wM1 : ∀ b, b ≠ 234 → M1 b = Mc b := by intro b h; rw [← hM1]; exact hb_set_c h
  refine he_aload (n := 321) (i := 0) (by decide +kernel) rfl ?_
  refine he_dup_r (n := 322) (by decide +kernel) ?_
  refine hb_gfd (n := 325) (ci := 9) (j := 19) (ns := [4196, 197]) hm1 (by decide +kernel) rfl rfl (by decide) rfl ?_
  intro v322 hv322 lv322 uv322
  have q322 : v322.toInt = hv M 234 19 := by rw [← hv322, eM1 _ _ (.inr (by decide))]; exact e19
  refine he_iconst (n := 326) (c := 1) (by decide +kernel) (by decide) ?_
  intro c325 hc325
  refine he_iadd (n := 327) (by decide +kernel) (by omega) (by omega) ?_
  intro v326 hv326
  refine hb_pfd (n := 330) (ci := 9) (j := 19) (t := 0) (ns := [4196, 197]) hm1 (by decide +kernel) rfl rfl (by decide) (.inl rfl) ?_
  generalize hM2 : hb_set M1 234 19 v326 = M2
  have hm2 : mz_sh mz_GG M2 := by rw [← hM2]; exact hb_set_sh hm1 rfl rfl (by omega) (by omega)
  have eM2 : ∀ b j, b ≠ 234 ∨ j ≠ 19 → hv M2 b j = hv M1 b j := by intro b j h; rw [← hM2]; exact hb_set_n h
  have sM2 : hv M2 234 19 = v326.toInt := by rw [← hM2]; exact hb_set_v hm1 rfl (by decide)
  have wM2 : ∀ b, b ≠ 234 → M2 b = M1 b := by intro b h; rw [← hM2]; exact hb_set_c h
  refine he_aload (n := 331) (i := 0) (by decide +kernel) rfl ?_
  refine he_iconst (n := 332) (c := 0) (by decide +kernel) (by decide) ?_
  intro c331 hc331
  refine hb_pfd (n := 335) (ci := 9) (j := 15) (t := 0) (ns := [4192, 186]) hm2 (by decide +kernel) rfl rfl (by decide) (.inl rfl) ?_
  generalize hM3 : hb_set M2 234 15 c331 = M3
  have hm3 : mz_sh mz_GG M3 := by rw [← hM3]; exact hb_set_sh hm2 rfl rfl (by omega) (by omega)
  have eM3 : ∀ b j, b ≠ 234 ∨ j ≠ 15 → hv M3 b j = hv M2 b j := by intro b j h; rw [← hM3]; exact hb_set_n h
  have sM3 : hv M3 234 15 = c331.toInt := by rw [← hM3]; exact hb_set_v hm2 rfl (by decide)
  have wM3 : ∀ b, b ≠ 234 → M3 b = M2 b := by intro b h; rw [← hM3]; exact hb_set_c h
  refine he_iconst (n := 336) (c := 1) (by decide +kernel) (by decide) ?_
  intro c335 hc335
  refine he_retz (by decide +kernel) (by omega) ?_
  obtain ⟨c, hc19⟩ : ∃ c : Nat, hv M 234 19 = (c : Int) := ⟨(hv M 234 19).toNat, by omega⟩
  rw [show 6 * (hv M 234 19).toNat = 6 * c by omega] at h51
  have s17 : hv M3 234 17 = hv M 234 17 + 2 + hv M 234 15 := by
    rw [eM3 _ _ (.inr (by decide)), eM2 _ _ (.inr (by decide)), sM1]
    omega
  have s19 : hv M3 234 19 = (c : Int) + 1 := by
    rw [eM3 _ _ (.inr (by decide)), sM2]
    omega
  have s51 : ∀ i, hv M3 251 i = hv Mc 251 i := fun i => by rw [hb_vc (wM3 251 (by decide)), hb_vc (wM2 251 (by decide)), hb_vc (wM1 251 (by decide))]
  have k1 : hb_sum (fun e => if (e : Int) < hv M3 234 19 then 12 + hb_nm (hv M3 251 (6 * e)) else 0) 6 = hb_sum (hn_g M) 6 + 12 + hb_nm x1.toInt := by
    have t1 := hn_tail (f := fun e => if (e : Int) < hv M3 234 19 then 12 + hb_nm (hv M3 251 (6 * e)) else 0) (c := c + 1) (fun e he => by
      show (if (e : Int) < hv M3 234 19 then _ else (0 : Int)) = 0
      rw [if_neg (by omega)]) (5 - c)
    have t2 := hn_tail (f := hn_g M) (c := c) (fun e he => by unfold hn_g; rw [if_neg (by omega)]) (6 - c)
    rw [show c + 1 + (5 - c) = 6 by omega] at t1
    rw [show c + (6 - c) = 6 by omega] at t2
    rw [t1, t2]
    show hb_sum (fun e => if (e : Int) < hv M3 234 19 then 12 + hb_nm (hv M3 251 (6 * e)) else 0) c + (if (c : Int) < hv M3 234 19 then 12 + hb_nm (hv M3 251 (6 * c)) else 0) = _
    rw [if_pos (by omega), s51, h51, hb_sum_c c (g := hn_g M)]
    · omega
    · intro i hi
      unfold hn_g
      rw [if_pos (by omega), if_pos (by omega), s51, e51 _ (by omega)]
  have s15 : hv M3 234 15 = 0 := by
    rw [sM3]
    omega
  have kg : hb_sum (hn_g M3) 6 = hb_sum (hn_g M) 6 + 12 + hb_nm x1.toInt := k1
  refine K M3 _ hm3 (fun k => ?_) (hn_St hS (hn_St (hn_S4 (i := 17) (by omega) wM1 eM1) (hn_St (hn_S4 (i := 19) (by omega) wM2 eM2) (hn_S4 (i := 15) (by omega) wM3 eM3)))) ⟨by omega, s15, s17, kg, by omega⟩
  by_cases e : k = 25
  · subst e
    show hx12 M3
    unfold hx12
    rw [k1, s17]
    omega
  · rw [← hM3]
    refine hxk_s (hn_sp2 k _ e (by omega)) ?_
    rw [← hM2]
    refine hxk_s (hn_sp2 k _ e (by omega)) ?_
    rw [← hM1]
    exact hxk_s (hn_sp2 k _ e (by omega)) (hx k)
theorem lx_e269 {d z u : Nat} {Q : (Option Value ⊕ Nat) → mq_S → Prop} {M : Nat → mq_C} {x1 x2 x3 x4 x5 : Int32} (hC : ∀ c ∈ mz_Cs, c.2 < 8 → mz_Ct mz_GG mq_PP HX c.1 c.2) (hd : 8 ≤ d) (hz : 272 ≤ z) (h19 : hv M 234 19 ≤ 5) (h19' : 0 ≤ hv M 234 19) (hb0 : 0 ≤ hv M 234 17) (hd0 : 0 ≤ hv M 234 15) (tot : hv M 234 17 + 2 + hv M 234 15 + 12 + hb_nm x1.toInt + 4 + hb_sum (hn_g M) 6 ≤ 240) (hbd : hv M 234 17 + hv M 234 15 ≤ 222) (hx2 : 0 ≤ x2.toInt) (hx2' : x2.toInt ≤ 8) (hd15 : hv M 234 15 ≤ 120)
    (K : ∀ (M' : Nat → mq_C) (r : Int32), mz_sh mz_GG M' → HX M' → hn_S M M' → lx_ok M M' x1.toInt r.toInt → Q (.inl (some (.int r))) (M', z, u)) : ∀ (m : Nat) (Mc : Nat → mq_C) (x6 : Int32), hn_C M Mc → hv Mc 251 (6 * (hv M 234 19).toNat) = x1.toInt → 0 ≤ x6.toInt → hv M 234 15 ≤ x6.toInt + (m : Int) ∧ x6.toInt ≤ 120 → mq_R mq_PP d 124 269 [some (.ref 234), some (.int x1), some (.int x2), some (.int x3), some (.int x4), some (.int x5), some (.int x6)] [] (Mc, z, u) Q := by
  intro m
  induction m with
  | zero =>
    intro Mc x6 hc h51 h6 h6m
    obtain ⟨hm, hx, hS, e17, e19, e15, e51⟩ := id hc
    refine hn_b4 HX_same (fun c hc h => hC c hc (by omega)) (by omega) hz hm hx (by omega) (by omega) (by omega) ?_ ?_
    · intro M2  gs gx gw g8 ge 
      intros
      obtain ⟨hc2, e2⟩ := hn_Cf (q' := hn_b4_q) hc gs gx gw g8 ge (by decide) (by decide) rfl rfl rfl rfl
      exact lx_e305 hC hd hz hc2 h19 h19' hb0 hd0 tot hbd hx2 hx2' hd15 (by rw [hb_vc e2]; exact h51) K
    · intro M2 y6 gs gx gw g8 ge 
      intros
      obtain ⟨hc2, e2⟩ := hn_Cf (q' := hn_b4_q) hc gs gx gw g8 ge (by decide) (by decide) rfl rfl rfl rfl
      omega
  | succ m ih =>
    intro Mc x6 hc h51 h6 h6m
    obtain ⟨hm, hx, hS, e17, e19, e15, e51⟩ := id hc
    refine hn_b4 HX_same (fun c hc h => hC c hc (by omega)) (by omega) hz hm hx (by omega) (by omega) (by omega) ?_ ?_
    · intro M2  gs gx gw g8 ge 
      intros
      obtain ⟨hc2, e2⟩ := hn_Cf (q' := hn_b4_q) hc gs gx gw g8 ge (by decide) (by decide) rfl rfl rfl rfl
      exact lx_e305 hC hd hz hc2 h19 h19' hb0 hd0 tot hbd hx2 hx2' hd15 (by rw [hb_vc e2]; exact h51) K
    · intro M2 y6 gs gx gw g8 ge 
      intros
      obtain ⟨hc2, e2⟩ := hn_Cf (q' := hn_b4_q) hc gs gx gw g8 ge (by decide) (by decide) rfl rfl rfl rfl
      exact ih M2 y6 hc2 (by rw [hb_vc e2]; exact h51) (by omega) (by omega)
theorem lx_e243 {o6 : Option Value} {d z u : Nat} {Q : (Option Value ⊕ Nat) → mq_S → Prop} {M Mc : Nat → mq_C} {x1 x2 x3 x4 x5 : Int32} (hC : ∀ c ∈ mz_Cs, c.2 < 8 → mz_Ct mz_GG mq_PP HX c.1 c.2) (hd : 8 ≤ d) (hz : 272 ≤ z) (hc : hn_C M Mc) (h19 : hv M 234 19 ≤ 5) (h19' : 0 ≤ hv M 234 19) (hb0 : 0 ≤ hv M 234 17) (hd0 : 0 ≤ hv M 234 15) (tot : hv M 234 17 + 2 + hv M 234 15 + 12 + hb_nm x1.toInt + 4 + hb_sum (hn_g M) 6 ≤ 240) (hbd : hv M 234 17 + hv M 234 15 ≤ 222) (hx2 : 0 ≤ x2.toInt) (hx2' : x2.toInt ≤ 8) (hd15 : hv M 234 15 ≤ 120) (h51 : hv Mc 251 (6 * (hv M 234 19).toNat) = x1.toInt) (h6 : mq_nl o6 = true)
    (K : ∀ (M' : Nat → mq_C) (r : Int32), mz_sh mz_GG M' → HX M' → hn_S M M' → lx_ok M M' x1.toInt r.toInt → Q (.inl (some (.int r))) (M', z, u)) : mq_R mq_PP d 124 243 [some (.ref 234), some (.int x1), some (.int x2), some (.int x3), some (.int x4), some (.int x5), o6] [] (Mc, z, u) Q := by
  obtain ⟨hm, hx, hS, e17, e19, e15, e51⟩ := id hc
  refine hn_b3 HX_same (fun c hc h => hC c hc (by omega)) (by omega) hz hm hx h6 (by omega) (by omega) (by omega) ?_
  · intro M2 y6 gs gx gw g8 ge 
    intros
    obtain ⟨hc2, e2⟩ := hn_Cf (q' := hn_b3_q) hc gs gx gw g8 ge (by decide) (by decide) rfl rfl rfl rfl
    exact lx_e269 hC hd hz h19 h19' hb0 hd0 tot hbd hx2 hx2' hd15 K 120 M2 y6 hc2 (by rw [hb_vc e2]; exact h51) (by omega) (by omega)
theorem lx_e194 {o6 : Option Value} {d z u : Nat} {Q : (Option Value ⊕ Nat) → mq_S → Prop} {M Mc : Nat → mq_C} {x1 x2 x3 x4 x5 v ix : Int32} (hC : ∀ c ∈ mz_Cs, c.2 < 8 → mz_Ct mz_GG mq_PP HX c.1 c.2) (hd : 8 ≤ d) (hz : 272 ≤ z) (hc : hn_C M Mc) (h19 : hv M 234 19 ≤ 5) (h19' : 0 ≤ hv M 234 19) (hb0 : 0 ≤ hv M 234 17) (hd0 : 0 ≤ hv M 234 15) (tot : hv M 234 17 + 2 + hv M 234 15 + 12 + hb_nm x1.toInt + 4 + hb_sum (hn_g M) 6 ≤ 240) (hbd : hv M 234 17 + hv M 234 15 ≤ 222) (hx2 : 0 ≤ x2.toInt) (hx2' : x2.toInt ≤ 8) (hd15 : hv M 234 15 ≤ 120) (h51 : hv Mc 251 (6 * (hv M 234 19).toNat) = x1.toInt) (h5 : x5.toInt = 6 * hv M 234 19) (hix : ix.toInt = x5.toInt + 2) (h6 : mq_nl o6 = true)
    (K : ∀ (M' : Nat → mq_C) (r : Int32), mz_sh mz_GG M' → HX M' → hn_S M M' → lx_ok M M' x1.toInt r.toInt → Q (.inl (some (.int r))) (M', z, u)) : mq_R mq_PP d 124 194 [some (.ref 234), some (.int x1), some (.int x2), some (.int x3), some (.int x4), some (.int x5), o6] [.int v, .int ix, .ref 251] (Mc, z, u) Q := by
  obtain ⟨hm, hx, hS, e17, e19, e15, e51⟩ := id hc
  have bv := mz_i32 v
  refine hb_sta (n := 195) (kind := 64) hm (by decide +kernel) rfl rfl (.inl rfl) (by omega) (show _ < (36 : Int) by omega) ?_
  generalize hM1 : hb_set Mc 251 (ix.toInt.toNat) v = M1
  have hm1 : mz_sh mz_GG M1 := by rw [← hM1]; exact hb_set_sh hm rfl hb_at1 (by omega) (by omega)
  have eM1 : ∀ b j, b ≠ 251 ∨ j ≠ ix.toInt.toNat → hv M1 b j = hv Mc b j := by intro b j h; rw [← hM1]; exact hb_set_n h
  have sM1 : hv M1 251 (ix.toInt.toNat) = v.toInt := by rw [← hM1]; exact hb_set_v hm rfl (show _ < 36 by omega)
  have wM1 : ∀ b, b ≠ 251 → M1 b = Mc b := by intro b h; rw [← hM1]; exact hb_set_c h
  refine he_aload (n := 196) (i := 0) (by decide +kernel) rfl ?_
  refine he_getr (n := 199) (ci := 9) (j := 20) (ns := [4197, 59]) (b := 251) hm1 (by decide +kernel) rfl rfl (by decide +kernel) ?_
  refine he_iload (n := 201) (i := 5) (by decide +kernel) rfl ?_
  refine he_iconst (n := 202) (c := 3) (by decide +kernel) (by decide) ?_
  intro c201 hc201
  refine he_iadd (n := 203) (by decide +kernel) (by omega) (by omega) ?_
  intro v202 hv202
  refine he_iload (n := 205) (i := 4) (by decide +kernel) rfl ?_
  by_cases h205 : x4.toInt = 0
  · skip
    refine he_ifeq_t (n := 208) (t := 215) (by decide +kernel) (by omega) ?_
    refine he_iconst (n := 216) (c := 0) (by decide +kernel) (by decide) ?_
    intro c215 hc215
    refine hb_sta (n := 217) (kind := 64) hm1 (by decide +kernel) rfl rfl (.inl rfl) (by omega) (show _ < (36 : Int) by omega) ?_
    generalize hM2 : hb_set M1 251 (v202.toInt.toNat) c215 = M2
    have hm2 : mz_sh mz_GG M2 := by rw [← hM2]; exact hb_set_sh hm1 rfl hb_at1 (by omega) (by omega)
    have eM2 : ∀ b j, b ≠ 251 ∨ j ≠ v202.toInt.toNat → hv M2 b j = hv M1 b j := by intro b j h; rw [← hM2]; exact hb_set_n h
    have sM2 : hv M2 251 (v202.toInt.toNat) = c215.toInt := by rw [← hM2]; exact hb_set_v hm1 rfl (show _ < 36 by omega)
    have wM2 : ∀ b, b ≠ 251 → M2 b = M1 b := by intro b h; rw [← hM2]; exact hb_set_c h
    refine he_aload (n := 218) (i := 0) (by decide +kernel) rfl ?_
    refine he_getr (n := 221) (ci := 9) (j := 20) (ns := [4197, 59]) (b := 251) hm2 (by decide +kernel) rfl rfl (by decide +kernel) ?_
    refine he_iload (n := 223) (i := 5) (by decide +kernel) rfl ?_
    refine he_iconst (n := 224) (c := 4) (by decide +kernel) (by decide) ?_
    intro c223 hc223
    refine he_iadd (n := 225) (by decide +kernel) (by omega) (by omega) ?_
    intro v224 hv224
    refine he_aload (n := 226) (i := 0) (by decide +kernel) rfl ?_
    refine hb_gfd (n := 229) (ci := 9) (j := 15) (ns := [4192, 186]) hm2 (by decide +kernel) rfl rfl (by decide) rfl ?_
    intro v226 hv226 lv226 uv226
    refine hb_sta (n := 230) (kind := 64) hm2 (by decide +kernel) rfl rfl (.inl rfl) (by omega) (show _ < (36 : Int) by omega) ?_
    generalize hM3 : hb_set M2 251 (v224.toInt.toNat) v226 = M3
    have hm3 : mz_sh mz_GG M3 := by rw [← hM3]; exact hb_set_sh hm2 rfl hb_at1 (by omega) (by omega)
    have eM3 : ∀ b j, b ≠ 251 ∨ j ≠ v224.toInt.toNat → hv M3 b j = hv M2 b j := by intro b j h; rw [← hM3]; exact hb_set_n h
    have sM3 : hv M3 251 (v224.toInt.toNat) = v226.toInt := by rw [← hM3]; exact hb_set_v hm2 rfl (show _ < 36 by omega)
    have wM3 : ∀ b, b ≠ 251 → M3 b = M2 b := by intro b h; rw [← hM3]; exact hb_set_c h
    refine he_aload (n := 231) (i := 0) (by decide +kernel) rfl ?_
    refine he_getr (n := 234) (ci := 9) (j := 20) (ns := [4197, 59]) (b := 251) hm3 (by decide +kernel) rfl rfl (by decide +kernel) ?_
    refine he_iload (n := 236) (i := 5) (by decide +kernel) rfl ?_
    refine he_iconst (n := 237) (c := 5) (by decide +kernel) (by decide) ?_
    intro c236 hc236
    refine he_iadd (n := 238) (by decide +kernel) (by omega) (by omega) ?_
    intro v237 hv237
    refine he_aload (n := 239) (i := 0) (by decide +kernel) rfl ?_
    refine hb_gfd (n := 242) (ci := 9) (j := 17) (ns := [4194, 191]) hm3 (by decide +kernel) rfl rfl (by decide) rfl ?_
    intro v239 hv239 lv239 uv239
    refine hb_sta (n := 243) (kind := 64) hm3 (by decide +kernel) rfl rfl (.inl rfl) (by omega) (show _ < (36 : Int) by omega) ?_
    generalize hM4 : hb_set M3 251 (v237.toInt.toNat) v239 = M4
    have hm4 : mz_sh mz_GG M4 := by rw [← hM4]; exact hb_set_sh hm3 rfl hb_at1 (by omega) (by omega)
    have eM4 : ∀ b j, b ≠ 251 ∨ j ≠ v237.toInt.toNat → hv M4 b j = hv M3 b j := by intro b j h; rw [← hM4]; exact hb_set_n h
    have sM4 : hv M4 251 (v237.toInt.toNat) = v239.toInt := by rw [← hM4]; exact hb_set_v hm3 rfl (show _ < 36 by omega)
    have wM4 : ∀ b, b ≠ 251 → M4 b = M3 b := by intro b h; rw [← hM4]; exact hb_set_c h
    have hc1 : hn_C M M1 := hn_Cs hc hm1 hM1 (by omega)
    have hc2 : hn_C M M2 := hn_Cs hc1 hm2 hM2 (by omega)
    have hc3 : hn_C M M3 := hn_Cs hc2 hm3 hM3 (by omega)
    have hc4 : hn_C M M4 := hn_Cs hc3 hm4 hM4 (by omega)
    exact lx_e243 hC hd hz hc4 h19 h19' hb0 hd0 tot hbd hx2 hx2' hd15 (by rw [eM4 _ _ (.inr (by omega)), eM3 _ _ (.inr (by omega)), eM2 _ _ (.inr (by omega)), eM1 _ _ (.inr (by omega))]; exact h51) h6 K
  · skip
    refine he_ifeq_f (n := 208) (t := 215) (by decide +kernel) (by omega) ?_
    refine he_aload (n := 209) (i := 0) (by decide +kernel) rfl ?_
    refine hb_gfd (n := 212) (ci := 9) (j := 25) (ns := [4202, 143]) hm1 (by decide +kernel) rfl rfl (by decide) rfl ?_
    intro v209 hv209 lv209 uv209
    refine he_goto (t := 216) (by decide +kernel) ?_
    refine hb_sta (n := 217) (kind := 64) hm1 (by decide +kernel) rfl rfl (.inl rfl) (by omega) (show _ < (36 : Int) by omega) ?_
    generalize hM2 : hb_set M1 251 (v202.toInt.toNat) v209 = M2
    have hm2 : mz_sh mz_GG M2 := by rw [← hM2]; exact hb_set_sh hm1 rfl hb_at1 (by omega) (by omega)
    have eM2 : ∀ b j, b ≠ 251 ∨ j ≠ v202.toInt.toNat → hv M2 b j = hv M1 b j := by intro b j h; rw [← hM2]; exact hb_set_n h
    have sM2 : hv M2 251 (v202.toInt.toNat) = v209.toInt := by rw [← hM2]; exact hb_set_v hm1 rfl (show _ < 36 by omega)
    have wM2 : ∀ b, b ≠ 251 → M2 b = M1 b := by intro b h; rw [← hM2]; exact hb_set_c h
    refine he_aload (n := 218) (i := 0) (by decide +kernel) rfl ?_
    refine he_getr (n := 221) (ci := 9) (j := 20) (ns := [4197, 59]) (b := 251) hm2 (by decide +kernel) rfl rfl (by decide +kernel) ?_
    refine he_iload (n := 223) (i := 5) (by decide +kernel) rfl ?_
    refine he_iconst (n := 224) (c := 4) (by decide +kernel) (by decide) ?_
    intro c223 hc223
    refine he_iadd (n := 225) (by decide +kernel) (by omega) (by omega) ?_
    intro v224 hv224
    refine he_aload (n := 226) (i := 0) (by decide +kernel) rfl ?_
    refine hb_gfd (n := 229) (ci := 9) (j := 15) (ns := [4192, 186]) hm2 (by decide +kernel) rfl rfl (by decide) rfl ?_
    intro v226 hv226 lv226 uv226
    refine hb_sta (n := 230) (kind := 64) hm2 (by decide +kernel) rfl rfl (.inl rfl) (by omega) (show _ < (36 : Int) by omega) ?_
    generalize hM3 : hb_set M2 251 (v224.toInt.toNat) v226 = M3
    have hm3 : mz_sh mz_GG M3 := by rw [← hM3]; exact hb_set_sh hm2 rfl hb_at1 (by omega) (by omega)
    have eM3 : ∀ b j, b ≠ 251 ∨ j ≠ v224.toInt.toNat → hv M3 b j = hv M2 b j := by intro b j h; rw [← hM3]; exact hb_set_n h
    have sM3 : hv M3 251 (v224.toInt.toNat) = v226.toInt := by rw [← hM3]; exact hb_set_v hm2 rfl (show _ < 36 by omega)
    have wM3 : ∀ b, b ≠ 251 → M3 b = M2 b := by intro b h; rw [← hM3]; exact hb_set_c h
    refine he_aload (n := 231) (i := 0) (by decide +kernel) rfl ?_
    refine he_getr (n := 234) (ci := 9) (j := 20) (ns := [4197, 59]) (b := 251) hm3 (by decide +kernel) rfl rfl (by decide +kernel) ?_
    refine he_iload (n := 236) (i := 5) (by decide +kernel) rfl ?_
    refine he_iconst (n := 237) (c := 5) (by decide +kernel) (by decide) ?_
    intro c236 hc236
    refine he_iadd (n := 238) (by decide +kernel) (by omega) (by omega) ?_
    intro v237 hv237
    refine he_aload (n := 239) (i := 0) (by decide +kernel) rfl ?_
    refine hb_gfd (n := 242) (ci := 9) (j := 17) (ns := [4194, 191]) hm3 (by decide +kernel) rfl rfl (by decide) rfl ?_
    intro v239 hv239 lv239 uv239
    refine hb_sta (n := 243) (kind := 64) hm3 (by decide +kernel) rfl rfl (.inl rfl) (by omega) (show _ < (36 : Int) by omega) ?_
    generalize hM4 : hb_set M3 251 (v237.toInt.toNat) v239 = M4
    have hm4 : mz_sh mz_GG M4 := by rw [← hM4]; exact hb_set_sh hm3 rfl hb_at1 (by omega) (by omega)
    have eM4 : ∀ b j, b ≠ 251 ∨ j ≠ v237.toInt.toNat → hv M4 b j = hv M3 b j := by intro b j h; rw [← hM4]; exact hb_set_n h
    have sM4 : hv M4 251 (v237.toInt.toNat) = v239.toInt := by rw [← hM4]; exact hb_set_v hm3 rfl (show _ < 36 by omega)
    have wM4 : ∀ b, b ≠ 251 → M4 b = M3 b := by intro b h; rw [← hM4]; exact hb_set_c h
    have hc1 : hn_C M M1 := hn_Cs hc hm1 hM1 (by omega)
    have hc2 : hn_C M M2 := hn_Cs hc1 hm2 hM2 (by omega)
    have hc3 : hn_C M M3 := hn_Cs hc2 hm3 hM3 (by omega)
    have hc4 : hn_C M M4 := hn_Cs hc3 hm4 hM4 (by omega)
    exact lx_e243 hC hd hz hc4 h19 h19' hb0 hd0 tot hbd hx2 hx2' hd15 (by rw [eM4 _ _ (.inr (by omega)), eM3 _ _ (.inr (by omega)), eM2 _ _ (.inr (by omega)), eM1 _ _ (.inr (by omega))]; exact h51) h6 K
theorem lx_e155 {o6 : Option Value} {d z u : Nat} {Q : (Option Value ⊕ Nat) → mq_S → Prop} {M Mc : Nat → mq_C} {x1 x2 x3 x4 x5 : Int32} (hC : ∀ c ∈ mz_Cs, c.2 < 8 → mz_Ct mz_GG mq_PP HX c.1 c.2) (hd : 8 ≤ d + 1) (hz : 272 ≤ z) (hc : hn_C M Mc) (h19 : hv M 234 19 ≤ 5) (h19' : 0 ≤ hv M 234 19) (hb0 : 0 ≤ hv M 234 17) (hd0 : 0 ≤ hv M 234 15) (tot : hv M 234 17 + 2 + hv M 234 15 + 12 + hb_nm x1.toInt + 4 + hb_sum (hn_g M) 6 ≤ 240) (hbd : hv M 234 17 + hv M 234 15 ≤ 222) (hx2 : 0 ≤ x2.toInt) (hx2' : x2.toInt ≤ 8) (hd15 : hv M 234 15 ≤ 120) (h5 : x5.toInt = 6 * hv M 234 19) (h6 : mq_nl o6 = true)
    (K : ∀ (M' : Nat → mq_C) (r : Int32), mz_sh mz_GG M' → HX M' → hn_S M M' → lx_ok M M' x1.toInt r.toInt → Q (.inl (some (.int r))) (M', z, u)) : mq_R mq_PP (d + 1) 124 155 [some (.ref 234), some (.int x1), some (.int x2), some (.int x3), some (.int x4), some (.int x5), o6] [] (Mc, z, u) Q := by
  obtain ⟨hm, hx, hS, e17, e19, e15, e51⟩ := id hc
  have bx1 := mz_i32 x1
  refine he_aload (n := 156) (i := 0) (by decide +kernel) rfl ?_
  refine he_getr (n := 159) (ci := 9) (j := 20) (ns := [4197, 59]) (b := 251) hm (by decide +kernel) rfl rfl (by decide +kernel) ?_
  refine he_iload (n := 161) (i := 5) (by decide +kernel) rfl ?_
  refine he_iload (n := 162) (i := 1) (by decide +kernel) rfl ?_
  refine hb_sta (n := 163) (kind := 64) hm (by decide +kernel) rfl rfl (.inl rfl) (by omega) (show _ < (36 : Int) by omega) ?_
  generalize hM1 : hb_set Mc 251 (x5.toInt.toNat) x1 = M1
  have hm1 : mz_sh mz_GG M1 := by rw [← hM1]; exact hb_set_sh hm rfl hb_at1 (by omega) (by omega)
  have eM1 : ∀ b j, b ≠ 251 ∨ j ≠ x5.toInt.toNat → hv M1 b j = hv Mc b j := by intro b j h; rw [← hM1]; exact hb_set_n h
  have sM1 : hv M1 251 (x5.toInt.toNat) = x1.toInt := by rw [← hM1]; exact hb_set_v hm rfl (show _ < 36 by omega)
  have wM1 : ∀ b, b ≠ 251 → M1 b = Mc b := by intro b h; rw [← hM1]; exact hb_set_c h
  refine he_aload (n := 164) (i := 0) (by decide +kernel) rfl ?_
  refine he_getr (n := 167) (ci := 9) (j := 20) (ns := [4197, 59]) (b := 251) hm1 (by decide +kernel) rfl rfl (by decide +kernel) ?_
  refine he_iload (n := 169) (i := 5) (by decide +kernel) rfl ?_
  refine he_iconst (n := 170) (c := 1) (by decide +kernel) (by decide) ?_
  intro c169 hc169
  refine he_iadd (n := 171) (by decide +kernel) (by omega) (by omega) ?_
  intro v170 hv170
  refine he_iload (n := 172) (i := 2) (by decide +kernel) rfl ?_
  refine hb_sta (n := 173) (kind := 64) hm1 (by decide +kernel) rfl rfl (.inl rfl) (by omega) (show _ < (36 : Int) by omega) ?_
  generalize hM2 : hb_set M1 251 (v170.toInt.toNat) x2 = M2
  have hm2 : mz_sh mz_GG M2 := by rw [← hM2]; exact hb_set_sh hm1 rfl hb_at1 (by omega) (by omega)
  have eM2 : ∀ b j, b ≠ 251 ∨ j ≠ v170.toInt.toNat → hv M2 b j = hv M1 b j := by intro b j h; rw [← hM2]; exact hb_set_n h
  have sM2 : hv M2 251 (v170.toInt.toNat) = x2.toInt := by rw [← hM2]; exact hb_set_v hm1 rfl (show _ < 36 by omega)
  have wM2 : ∀ b, b ≠ 251 → M2 b = M1 b := by intro b h; rw [← hM2]; exact hb_set_c h
  refine he_aload (n := 174) (i := 0) (by decide +kernel) rfl ?_
  refine he_getr (n := 177) (ci := 9) (j := 20) (ns := [4197, 59]) (b := 251) hm2 (by decide +kernel) rfl rfl (by decide +kernel) ?_
  refine he_iload (n := 179) (i := 5) (by decide +kernel) rfl ?_
  refine he_iconst (n := 180) (c := 2) (by decide +kernel) (by decide) ?_
  intro c179 hc179
  refine he_iadd (n := 181) (by decide +kernel) (by omega) (by omega) ?_
  intro v180 hv180
  refine he_iload (n := 183) (i := 4) (by decide +kernel) rfl ?_
  have hc1 : hn_C M M1 := hn_Cs hc hm1 hM1 (by omega)
  have hc2 : hn_C M M2 := hn_Cs hc1 hm2 hM2 (by omega)
  have h51 : hv M2 251 (6 * (hv M 234 19).toNat) = x1.toInt := by
    rw [eM2 _ _ (.inr (by omega)), show 6 * (hv M 234 19).toNat = x5.toInt.toNat by omega]
    exact sM1
  by_cases h183 : x4.toInt = 0
  · skip
    refine he_ifeq_t (n := 186) (t := 193) (by decide +kernel) (by omega) ?_
    refine he_iconst (n := 194) (c := 0) (by decide +kernel) (by decide) ?_
    intro c193 hc193
    exact lx_e194 hC hd hz hc2 h19 h19' hb0 hd0 tot hbd hx2 hx2' hd15 h51 h5 (by omega) h6 K
  · skip
    refine he_ifeq_f (n := 186) (t := 193) (by decide +kernel) (by omega) ?_
    refine he_aload (n := 187) (i := 0) (by decide +kernel) rfl ?_
    refine he_v0 (n := 190) (j := 121) (ci := 9) (mx := 4) (ns := [5198, 5200, 64, 203]) (by decide +kernel) ((hb_kd (a := 234) hm2 rfl).trans rfl) (by show 2 ≤ 8; omega) (by show 1 ≤ 4; omega) ?_
    rw [mq_e121]
    refine hu_msum (hC (mz_q66, 1) (List.mem_of_getElem? (show mz_Cs[66]? = _ from rfl)) (by decide)) (by omega) hz hm2 hc2.2.1 ?_
    intro Ms rs gs gx gw g8 ge
    obtain ⟨hcs, es⟩ := hn_Cf (q' := mz_q66) hc2 gs gx gw g8 ge (by decide) (by decide) rfl rfl rfl rfl
    show mq_R mq_PP (d + 1) 124 190 _ [.int rs, .int v180, .ref 251] (Ms, z, u) Q
    refine he_goto (t := 194) (by decide +kernel) ?_
    exact lx_e194 hC hd hz hcs h19 h19' hb0 hd0 tot hbd hx2 hx2' hd15 (by rw [hb_vc es]; exact h51) h5 (by omega) h6 K
theorem lx_e110 {d z u : Nat} {Q : (Option Value ⊕ Nat) → mq_S → Prop} {M : Nat → mq_C} {x1 x2 x3 : Int32} (hC : ∀ c ∈ mz_Cs, c.2 < 8 → mz_Ct mz_GG mq_PP HX c.1 c.2) (hd : 8 ≤ d + 1) (hz : 272 ≤ z) (h19 : hv M 234 19 ≤ 5) (h19' : 0 ≤ hv M 234 19) (hb0 : 0 ≤ hv M 234 17) (hd0 : 0 ≤ hv M 234 15) (tot : hv M 234 17 + 2 + hv M 234 15 + 12 + hb_nm x1.toInt + 4 + hb_sum (hn_g M) 6 ≤ 240) (hbd : hv M 234 17 + hv M 234 15 ≤ 222) (hx2 : 0 ≤ x2.toInt) (hx2' : x2.toInt ≤ 8) (hd15 : hv M 234 15 ≤ 120)
    (K : ∀ (M' : Nat → mq_C) (r : Int32), mz_sh mz_GG M' → HX M' → hn_S M M' → lx_ok M M' x1.toInt r.toInt → Q (.inl (some (.int r))) (M', z, u)) : ∀ (m : Nat) (Mc : Nat → mq_C) (x4 : Int32) (o5 o6 : Option Value), hn_C M Mc → 0 ≤ x4.toInt → hv M 234 15 ≤ x4.toInt + (m : Int) ∧ x4.toInt ≤ 120 → mq_nl o5 = true → mq_nl o6 = true → mq_R mq_PP (d + 1) 124 110 [some (.ref 234), some (.int x1), some (.int x2), some (.int x3), some (.int x4), o5, o6] [] (Mc, z, u) Q := by
  intro m
  induction m with
  | zero =>
    intro Mc x4 o5 o6 hc h6 h6m h5 h6'
    obtain ⟨hm, hx, hS, e17, e19, e15, e51⟩ := id hc
    refine hn_b2 HX_same (fun c hc h => hC c hc (by omega)) (by omega) hz hm hx h5 h6' (by omega) (by omega) ?_ ?_
    · intro M2 y4 y5 w6 gs gx gw g8 ge hw6
      intros
      obtain ⟨hc2, e2⟩ := hn_Cf (q' := hn_b2_q) hc gs gx gw g8 ge (by decide) (by decide) rfl rfl rfl rfl
      exact lx_e155 hC hd hz hc2 h19 h19' hb0 hd0 tot hbd hx2 hx2' hd15 (by omega) hw6 K
    · intro M2 y4 w5 w6 gs gx gw g8 ge hw5 hw6
      intros
      obtain ⟨hc2, e2⟩ := hn_Cf (q' := hn_b2_q) hc gs gx gw g8 ge (by decide) (by decide) rfl rfl rfl rfl
      omega
  | succ m ih =>
    intro Mc x4 o5 o6 hc h6 h6m h5 h6'
    obtain ⟨hm, hx, hS, e17, e19, e15, e51⟩ := id hc
    refine hn_b2 HX_same (fun c hc h => hC c hc (by omega)) (by omega) hz hm hx h5 h6' (by omega) (by omega) ?_ ?_
    · intro M2 y4 y5 w6 gs gx gw g8 ge hw6
      intros
      obtain ⟨hc2, e2⟩ := hn_Cf (q' := hn_b2_q) hc gs gx gw g8 ge (by decide) (by decide) rfl rfl rfl rfl
      exact lx_e155 hC hd hz hc2 h19 h19' hb0 hd0 tot hbd hx2 hx2' hd15 (by omega) hw6 K
    · intro M2 y4 w5 w6 gs gx gw g8 ge hw5 hw6
      intros
      obtain ⟨hc2, e2⟩ := hn_Cf (q' := hn_b2_q) hc gs gx gw g8 ge (by decide) (by decide) rfl rfl rfl rfl
      exact ih M2 y4 _ _ hc2 (by omega) (by omega) hw5 hw6
theorem lx_e99 {d z u : Nat} {Q : (Option Value ⊕ Nat) → mq_S → Prop} {M Mc : Nat → mq_C} {x1 x2 x3 x4 : Int32} (hC : ∀ c ∈ mz_Cs, c.2 < 8 → mz_Ct mz_GG mq_PP HX c.1 c.2) (hd : 8 ≤ d + 1) (hz : 272 ≤ z) (hc : hn_C M Mc) (h19 : hv M 234 19 ≤ 5) (h19' : 0 ≤ hv M 234 19) (hb0 : 0 ≤ hv M 234 17) (hd0 : 0 ≤ hv M 234 15) (tot : hv M 234 17 + 2 + hv M 234 15 + 12 + hb_nm x1.toInt + 4 + hb_sum (hn_g M) 6 ≤ 240) (hbd : hv M 234 17 + hv M 234 15 ≤ 222) (hx2 : 0 ≤ x2.toInt) (hx2' : x2.toInt ≤ 8) (hd15 : hv M 234 15 ≤ 120) 
    (K : ∀ (M' : Nat → mq_C) (r : Int32), mz_sh mz_GG M' → HX M' → hn_S M M' → lx_ok M M' x1.toInt r.toInt → Q (.inl (some (.int r))) (M', z, u)) : mq_R mq_PP (d + 1) 124 99 [some (.ref 234), some (.int x1), some (.int x2), some (.int x3), some (.int x4), none, none] [] (Mc, z, u) Q := by
  obtain ⟨hm, hx, hS, e17, e19, e15, e51⟩ := id hc
  refine hn_b1 HX_same (fun c hc h => hC c hc (by omega)) (by omega) hz hm hx rfl rfl ?_
  · intro M2 y4 w5 w6 gs gx gw g8 ge hw5 hw6
    intros
    obtain ⟨hc2, e2⟩ := hn_Cf (q' := hn_b1_q) hc gs gx gw g8 ge (by decide) (by decide) rfl rfl rfl rfl
    exact lx_e110 hC hd hz h19 h19' hb0 hd0 tot hbd hx2 hx2' hd15 K 120 M2 y4 _ _ hc2 (by omega) (by omega) hw5 hw6
theorem lx_e64 {d z u : Nat} {Q : (Option Value ⊕ Nat) → mq_S → Prop} {M : Nat → mq_C} {x1 x2 x3 x4 : Int32} (hC : ∀ c ∈ mz_Cs, c.2 < 8 → mz_Ct mz_GG mq_PP HX c.1 c.2) (hd : 8 ≤ d + 1) (hz : 272 ≤ z) (hm : mz_sh mz_GG M) (hx : HX M) (r19 : 0 ≤ hv M 234 19) (r19' : hv M 234 19 ≤ 6) (r17 : 0 ≤ hv M 234 17) (r17' : hv M 234 17 ≤ 240) (r15 : 0 ≤ hv M 234 15) (r15' : hv M 234 15 ≤ 120) (h3 : x3.toInt = hv M 234 17 + 2 + hv M 234 15 + 12 + hb_nm x1.toInt + 4 + hb_sum (hn_g M) 6)
    (K : ∀ (M' : Nat → mq_C) (r : Int32), mz_sh mz_GG M' → HX M' → hn_S M M' → lr_enter (hv M 234 15) (hv M 234 17) (hb_sum (hn_g M) 6) (hv M 234 19) (hb_nm x1.toInt) x2.toInt (hv M' 234 15) (hv M' 234 17) (hb_sum (hn_g M') 6) (hv M' 234 19) r.toInt → Q (.inl (some (.int r))) (M', z, u)) : mq_R mq_PP (d + 1) 124 64 [some (.ref 234), some (.int x1), some (.int x2), some (.int x3), some (.int x4), none, none] [] (M, z, u) Q := by
  have hs0 := hn_g0 (M := M) 6
  have hn0 := hn_nm x1.toInt
  refine he_iload (n := 65) (i := 1) (by decide +kernel) rfl ?_
  refine he_s1 (n := 68) (j := 123) (mx := 4) (ns := [5142, 5143, 1011, 194]) (by decide +kernel) (by decide) (by show 1 ≤ 4; omega) ?_
  rw [mq_e123]
  refine hn_ns ?_
  intro r1 hr1
  show mq_R mq_PP (d + 1) 124 68 _ [.int r1] (M, z, u) Q
  by_cases h68 : r1.toInt = 0
  · skip
    refine he_ifeq_t (n := 71) (t := 97) (by decide +kernel) (by omega) ?_
    refine he_iconst (n := 98) (c := 0) (by decide +kernel) (by decide) ?_
    intro c97 hc97
    refine he_retz (by decide +kernel) (by omega) ?_
    exact K M _ hm hx hn_Sr (by unfold lr_enter; omega)
  · skip
    refine he_ifeq_f (n := 71) (t := 97) (by decide +kernel) (by omega) ?_
    refine he_iload (n := 72) (i := 2) (by decide +kernel) rfl ?_
    by_cases h72 : x2.toInt = 0
    · skip
      refine he_ifeq_t (n := 75) (t := 81) (by decide +kernel) (by omega) ?_
      refine he_aload (n := 82) (i := 0) (by decide +kernel) rfl ?_
      refine hb_gfd (n := 85) (ci := 9) (j := 19) (ns := [4196, 197]) hm (by decide +kernel) rfl rfl (by decide) rfl ?_
      intro v82 hv82 lv82 uv82
      refine he_iconst (n := 87) (c := 6) (by decide +kernel) (by decide) ?_
      intro c85 hc85
      by_cases h87 : v82.toInt = c85.toInt
      · skip
        refine he_cmpeq_t (n := 90) (t := 97) (by decide +kernel) (by omega) ?_
        refine he_iconst (n := 98) (c := 0) (by decide +kernel) (by decide) ?_
        intro c97 hc97
        refine he_retz (by decide +kernel) (by omega) ?_
        exact K M _ hm hx hn_Sr (by unfold lr_enter; omega)
      · skip
        refine he_cmpeq_f (n := 90) (t := 97) (by decide +kernel) (by omega) ?_
        refine he_iload (n := 91) (i := 3) (by decide +kernel) rfl ?_
        refine he_iconst (n := 94) (c := 240) (by decide +kernel) (by decide) ?_
        intro c91 hc91
        by_cases h94 : x3.toInt ≤ c91.toInt
        · skip
          refine he_cmple_t (n := 97) (t := 99) (by decide +kernel) (by omega) ?_
          exact lx_e99 hC hd hz ⟨hm, hx, hn_Sr, rfl, rfl, rfl, fun _ _ => rfl⟩ (by omega) (by omega) (by omega) (by omega) (by omega) (by omega) (by omega) (by omega) (by omega) (fun M' r a b c h => K M' r a b c (by unfold lr_enter; unfold lx_ok at h; omega))
        · skip
          refine he_cmple_f (n := 97) (t := 99) (by decide +kernel) (by omega) ?_
          refine he_iconst (n := 98) (c := 0) (by decide +kernel) (by decide) ?_
          intro c97 hc97
          refine he_retz (by decide +kernel) (by omega) ?_
          exact K M _ hm hx hn_Sr (by unfold lr_enter; omega)
    · skip
      refine he_ifeq_f (n := 75) (t := 81) (by decide +kernel) (by omega) ?_
      refine he_iload (n := 76) (i := 2) (by decide +kernel) rfl ?_
      refine he_iconst (n := 78) (c := 8) (by decide +kernel) (by decide) ?_
      intro c76 hc76
      by_cases h78 : ¬ x2.toInt = c76.toInt
      · skip
        refine he_cmpne_t (n := 81) (t := 97) (by decide +kernel) (by omega) ?_
        refine he_iconst (n := 98) (c := 0) (by decide +kernel) (by decide) ?_
        intro c97 hc97
        refine he_retz (by decide +kernel) (by omega) ?_
        exact K M _ hm hx hn_Sr (by unfold lr_enter; omega)
      · skip
        refine he_cmpne_f (n := 81) (t := 97) (by decide +kernel) (by omega) ?_
        refine he_aload (n := 82) (i := 0) (by decide +kernel) rfl ?_
        refine hb_gfd (n := 85) (ci := 9) (j := 19) (ns := [4196, 197]) hm (by decide +kernel) rfl rfl (by decide) rfl ?_
        intro v82 hv82 lv82 uv82
        refine he_iconst (n := 87) (c := 6) (by decide +kernel) (by decide) ?_
        intro c85 hc85
        by_cases h87 : v82.toInt = c85.toInt
        · skip
          refine he_cmpeq_t (n := 90) (t := 97) (by decide +kernel) (by omega) ?_
          refine he_iconst (n := 98) (c := 0) (by decide +kernel) (by decide) ?_
          intro c97 hc97
          refine he_retz (by decide +kernel) (by omega) ?_
          exact K M _ hm hx hn_Sr (by unfold lr_enter; omega)
        · skip
          refine he_cmpeq_f (n := 90) (t := 97) (by decide +kernel) (by omega) ?_
          refine he_iload (n := 91) (i := 3) (by decide +kernel) rfl ?_
          refine he_iconst (n := 94) (c := 240) (by decide +kernel) (by decide) ?_
          intro c91 hc91
          by_cases h94 : x3.toInt ≤ c91.toInt
          · skip
            refine he_cmple_t (n := 97) (t := 99) (by decide +kernel) (by omega) ?_
            exact lx_e99 hC hd hz ⟨hm, hx, hn_Sr, rfl, rfl, rfl, fun _ _ => rfl⟩ (by omega) (by omega) (by omega) (by omega) (by omega) (by omega) (by omega) (by omega) (by omega) (fun M' r a b c h => K M' r a b c (by unfold lr_enter; unfold lx_ok at h; omega))
          · skip
            refine he_cmple_f (n := 97) (t := 99) (by decide +kernel) (by omega) ?_
            refine he_iconst (n := 98) (c := 0) (by decide +kernel) (by decide) ?_
            intro c97 hc97
            refine he_retz (by decide +kernel) (by omega) ?_
            exact K M _ hm hx hn_Sr (by unfold lr_enter; omega)
theorem lx_e30 {d z u : Nat} {Q : (Option Value ⊕ Nat) → mq_S → Prop} {M : Nat → mq_C} {x1 x2 : Int32} (hC : ∀ c ∈ mz_Cs, c.2 < 8 → mz_Ct mz_GG mq_PP HX c.1 c.2) (hd : 8 ≤ d + 1) (hz : 272 ≤ z) (hm : mz_sh mz_GG M) (hx : HX M) (r19 : 0 ≤ hv M 234 19) (r19' : hv M 234 19 ≤ 6) (r17 : 0 ≤ hv M 234 17) (r17' : hv M 234 17 ≤ 240) (r15 : 0 ≤ hv M 234 15) (r15' : hv M 234 15 ≤ 120)
    (K : ∀ (M' : Nat → mq_C) (r : Int32), mz_sh mz_GG M' → HX M' → hn_S M M' → lr_enter (hv M 234 15) (hv M 234 17) (hb_sum (hn_g M) 6) (hv M 234 19) (hb_nm x1.toInt) x2.toInt (hv M' 234 15) (hv M' 234 17) (hb_sum (hn_g M') 6) (hv M' 234 19) r.toInt → Q (.inl (some (.int r))) (M', z, u)) : ∀ (m : Nat) (x3 x4 : Int32), x4.toInt + (m : Int) = hv M 234 19 → 0 ≤ x4.toInt → x3.toInt = hv M 234 17 + 2 + hv M 234 15 + 12 + hb_nm x1.toInt + 4 + hb_sum (hn_g M) x4.toInt.toNat → x3.toInt ≤ 400 + 16 * x4.toInt → mq_R mq_PP (d + 1) 124 30 [some (.ref 234), some (.int x1), some (.int x2), some (.int x3), some (.int x4), none, none] [] (M, z, u) Q := by
  intro m
  induction m with
  | zero =>
    intro x3 x4 e1 e2 e3 e4
    refine he_iload (n := 32) (i := 4) (by decide +kernel) rfl ?_
    refine he_aload (n := 33) (i := 0) (by decide +kernel) rfl ?_
    refine hb_gfd (n := 36) (ci := 9) (j := 19) (ns := [4196, 197]) hm (by decide +kernel) rfl rfl (by decide) rfl ?_
    intro v33 hv33 lv33 uv33
    refine he_cmpge_t (n := 39) (t := 64) (by decide +kernel) (by omega) ?_
    refine lx_e64 hC hd hz hm hx r19 r19' r17 r17' r15 r15' ?_ K
    rw [e3]
    have t2 := hn_tail (f := hn_g M) (c := x4.toInt.toNat) (fun e he => by unfold hn_g; rw [if_neg (by omega)]) (6 - x4.toInt.toNat)
    rw [show x4.toInt.toNat + (6 - x4.toInt.toNat) = 6 by omega] at t2
    rw [t2]
  | succ m ih =>
    intro x3 x4 e1 e2 e3 e4
    have hs0 := hn_g0 (M := M) x4.toInt.toNat
    have hn0 := hn_nm x1.toInt
    refine he_iload (n := 32) (i := 4) (by decide +kernel) rfl ?_
    refine he_aload (n := 33) (i := 0) (by decide +kernel) rfl ?_
    refine hb_gfd (n := 36) (ci := 9) (j := 19) (ns := [4196, 197]) hm (by decide +kernel) rfl rfl (by decide) rfl ?_
    intro v33 hv33 lv33 uv33
    refine he_cmpge_f (n := 39) (t := 64) (by decide +kernel) (by omega) ?_
    refine he_iload (n := 40) (i := 3) (by decide +kernel) rfl ?_
    refine he_iconst (n := 42) (c := 12) (by decide +kernel) (by decide) ?_
    intro c40 hc40
    refine he_aload (n := 43) (i := 0) (by decide +kernel) rfl ?_
    refine he_getr (n := 46) (ci := 9) (j := 20) (ns := [4197, 59]) (b := 251) hm (by decide +kernel) rfl rfl (by decide +kernel) ?_
    refine he_iconst (n := 48) (c := 6) (by decide +kernel) (by decide) ?_
    intro c46 hc46
    refine he_iload (n := 50) (i := 4) (by decide +kernel) rfl ?_
    refine he_imul (n := 51) (p := 6 * x4.toInt) (by decide +kernel) (by rw [hc46]) (by omega) (by omega) ?_
    intro v50 hv50
    refine hb_ld (n := 52) (kind := 64) hm (by decide +kernel) rfl rfl (.inl rfl) (by omega) (show _ < (36 : Int) by omega) hb_at1 ?_
    intro v51 hv51 lv51 uv51
    refine he_s1 (n := 55) (j := 123) (mx := 4) (ns := [5142, 5143, 1011, 194]) (by decide +kernel) (by show 2 ≤ 8; omega) (by show 1 ≤ 4; omega) ?_
    rw [mq_e123]
    refine hn_ns ?_
    intro r2 hr2
    show mq_R mq_PP (d + 1) 124 55 _ [.int r2, .int c40, .int x3] (M, z, u) Q
    have hr2b := hn_nm v51.toInt
    refine he_iadd (n := 56) (by decide +kernel) (by omega) (by omega) ?_
    intro v55 hv55
    refine he_iadd (n := 57) (by decide +kernel) (by omega) (by omega) ?_
    intro v56 hv56
    refine he_istore (n := 58) (i := 3) (by decide +kernel) rfl ?_
    refine he_iinc (n := 61) (i := 4) (c := 1) (L' := fun v => [some (.ref (234)), some (.int x1), some (.int x2), some (.int v56), some (.int v), none, none]) (by decide +kernel) (by decide) rfl (fun _ => rfl) (by omega) (by omega) ?_
    intro i58 hi58
    refine he_goto (t := 30) (by decide +kernel) ?_
    refine ih _ _ (by omega) (by omega) ?_ (by omega)
    rw [show i58.toInt.toNat = x4.toInt.toNat + 1 by omega]
    have e9 : hb_sum (hn_g M) (x4.toInt.toNat + 1) = hb_sum (hn_g M) x4.toInt.toNat + hn_g M x4.toInt.toNat := rfl
    have e8 : hn_g M x4.toInt.toNat = 12 + hb_nm v51.toInt := by
      unfold hn_g
      rw [if_pos (by omega), ← hv51, show 6 * x4.toInt.toNat = v50.toInt.toNat by omega]
    rw [e9, e8]
    omega
theorem lx_menter {d z u : Nat} {M : Nat → mq_C} {Q : (Option Value ⊕ Nat) → mq_S → Prop} {x1 x2 : Int32} (hd : 8 ≤ d) (hz : 272 ≤ z) (hm : mz_sh mz_GG M) (hx : HX M)
    (K : ∀ (M' : Nat → mq_C) (r : Int32), mz_sh mz_GG M' → HX M' → hn_S M M' → lr_enter (hv M 234 15) (hv M 234 17) (hb_sum (hn_g M) 6) (hv M 234 19) (hb_nm x1.toInt) x2.toInt (hv M' 234 15) (hv M' 234 17) (hb_sum (hn_g M') 6) (hv M' 234 19) r.toInt → Q (.inl (some (.int r))) (M', z, u)) : mq_R mq_PP d 124 0 [some (.ref 234), some (.int x1), some (.int x2), none, none, none, none] [] (M, z, u) Q := by
  have hC : ∀ c ∈ mz_Cs, c.2 < 8 → mz_Ct mz_GG mq_PP HX c.1 c.2 := fun c hc _ => ha_all c hc
  obtain ⟨d, rfl⟩ : ∃ d', d = d' + 1 := ⟨d - 1, by omega⟩
  refine he_aload (n := 1) (i := 0) (by decide +kernel) rfl ?_
  refine he_iconst (n := 2) (c := 0) (by decide +kernel) (by decide) ?_
  intro c1 hc1
  refine hb_pfd (n := 5) (ci := 9) (j := 0) (t := 0) (ns := [4177, 126]) hm (by decide +kernel) rfl rfl (by decide) (.inl rfl) ?_
  generalize hM1 : hb_set M 234 0 c1 = M1
  have hm1 : mz_sh mz_GG M1 := by rw [← hM1]; exact hb_set_sh hm rfl rfl (by omega) (by omega)
  have eM1 : ∀ b j, b ≠ 234 ∨ j ≠ 0 → hv M1 b j = hv M b j := by intro b j h; rw [← hM1]; exact hb_set_n h
  have sM1 : hv M1 234 0 = c1.toInt := by rw [← hM1]; exact hb_set_v hm rfl (by decide)
  have wM1 : ∀ b, b ≠ 234 → M1 b = M b := by intro b h; rw [← hM1]; exact hb_set_c h
  refine he_aload (n := 6) (i := 0) (by decide +kernel) rfl ?_
  refine hb_gfd (n := 9) (ci := 9) (j := 17) (ns := [4194, 191]) hm1 (by decide +kernel) rfl rfl (by decide) rfl ?_
  intro v6 hv6 lv6 uv6
  refine he_iconst (n := 10) (c := 2) (by decide +kernel) (by decide) ?_
  intro c9 hc9
  refine he_iadd (n := 11) (by decide +kernel) (by omega) (by omega) ?_
  intro v10 hv10
  refine he_aload (n := 12) (i := 0) (by decide +kernel) rfl ?_
  refine hb_gfd (n := 15) (ci := 9) (j := 15) (ns := [4192, 186]) hm1 (by decide +kernel) rfl rfl (by decide) rfl ?_
  intro v12 hv12 lv12 uv12
  refine he_iadd (n := 16) (by decide +kernel) (by omega) (by omega) ?_
  intro v15 hv15
  refine he_iconst (n := 18) (c := 12) (by decide +kernel) (by decide) ?_
  intro c16 hc16
  refine he_iadd (n := 19) (by decide +kernel) (by omega) (by omega) ?_
  intro v18 hv18
  refine he_iload (n := 20) (i := 1) (by decide +kernel) rfl ?_
  have hx1 : HX M1 := fun t => by rw [← hM1]; exact hxk_s (hm_sp t _ _ (by omega)) (hx t)
  have hS1 : hn_S M M1 := hn_S4 (i := 0) (by omega) wM1 eM1
  obtain ⟨⟨r1, r2⟩, ⟨r3, r4⟩, r5, r6⟩ := hn_rg hm1
  refine he_s1 (n := 23) (j := 123) (mx := 4) (ns := [5142, 5143, 1011, 194]) (by decide +kernel) (by show 1 ≤ 8; omega) (by show 1 ≤ 4; omega) ?_
  rw [mq_e123]
  refine hn_ns ?_
  intro r0 hr0
  have hn0 := hn_nm x1.toInt
  show mq_R mq_PP (d + 1) 124 23 _ [.int r0, .int v18] (M1, z, u) Q
  refine he_iadd (n := 24) (by decide +kernel) (by omega) (by omega) ?_
  intro v23 hv23
  refine he_iconst (n := 25) (c := 4) (by decide +kernel) (by decide) ?_
  intro c24 hc24
  refine he_iadd (n := 26) (by decide +kernel) (by omega) (by omega) ?_
  intro v25 hv25
  refine he_istore (n := 27) (i := 3) (by decide +kernel) rfl ?_
  refine he_iconst (n := 28) (c := 0) (by decide +kernel) (by decide) ?_
  intro c27 hc27
  refine he_istore (n := 30) (i := 4) (by decide +kernel) rfl ?_
  refine lx_e30 hC hd hz hm1 hx1 r1 r2 r3 r4 r5 r6 ?_ (hv M1 234 19).toNat _ _ (by omega) (by omega) ?_ (by omega)
  · intro M' r g1 g2 g3 g4
    have q15 := eM1 234 15 (.inr (by decide))
    have q17 := eM1 234 17 (.inr (by decide))
    have q19 := eM1 234 19 (.inr (by decide))
    have qg : hb_sum (hn_g M1) 6 = hb_sum (hn_g M) 6 := hb_sum_c 6 (fun i _ => by unfold hn_g; rw [q19, hb_vc (wM1 251 (by decide))])
    rw [q15, q17, q19, qg] at g4
    exact K M' r g1 g2 (hn_St hS1 g3) g4
  · rw [show c27.toInt.toNat = 0 by omega]
    have e0 : hb_sum (hn_g M1) 0 = 0 := rfl
    rw [e0]
    omega
