/-! The model's enter behind its checks, exactly. -/
theorem ym_src {d z u : Nat} {Mb : Nat → mq_C} {Q : (Option Value ⊕ Nat) → mq_S → Prop} {x1 x2 x3 : Int32} {D : Nat} (hD : hv Mb 234 15 = (D : Int)) (h1 : D ≤ 120) {o5 o6 : Option Value} (K : ∀ (M : Nat → mq_C) (i : Int32), mz_sh mz_GG M → (∀ b, b ≠ 252 → M b = Mb b) → (∀ t, t < D → hv M 252 t = hv Mb 249 t) → mq_R mq_PP d 124 139 [some (.ref 234), some (.int x1), some (.int x2), some (.int x3), some (.int i), o5, o6] [] (M, z, u) Q) : ∀ (m j : Nat) (M : Nat → mq_C) (i : Int32), j + m = D → i.toInt = (j : Int) → mz_sh mz_GG M → (∀ b, b ≠ 252 → M b = Mb b) → (∀ t, t < j → hv M 252 t = hv Mb 249 t) → mq_R mq_PP d 124 110 [some (.ref 234), some (.int x1), some (.int x2), some (.int x3), some (.int i), o5, o6] [] (M, z, u) Q := by
  intro m
  induction m with
  | zero =>
    intro j M i e1 e2 hm hw hc
    obtain rfl : j = D := by omega
    have q15 : hv M 234 15 = (j : Int) := by show hb_w mz_GG ((M 234).2[15]?) = _; rw [hw 234 (by decide)]; exact hD
    refine he_iload (n := 112) (i := 4) (by decide +kernel) rfl ?_
    refine he_aload (n := 113) (i := 0) (by decide +kernel) rfl ?_
    refine hb_gfd (n := 116) (ci := 9) (j := 15) (ns := [4192, 186]) hm (by decide +kernel) rfl rfl (by decide) rfl ?_
    intro v113 hv113 lv113 uv113
    refine he_cmpge_t (n := 119) (t := 139) (by decide +kernel) (by omega) ?_
    exact K M i hm hw hc
  | succ m ih =>
    intro j M i e1 e2 hm hw hc
    have q15 : hv M 234 15 = (D : Int) := by show hb_w mz_GG ((M 234).2[15]?) = _; rw [hw 234 (by decide)]; exact hD
    have q49 : ∀ t, hv M 249 t = hv Mb 249 t := fun t => by show hb_w mz_GG ((M 249).2[t]?) = _; rw [hw 249 (by decide)]; try rfl
    refine he_iload (n := 112) (i := 4) (by decide +kernel) rfl ?_
    refine he_aload (n := 113) (i := 0) (by decide +kernel) rfl ?_
    refine hb_gfd (n := 116) (ci := 9) (j := 15) (ns := [4192, 186]) hm (by decide +kernel) rfl rfl (by decide) rfl ?_
    intro v113 hv113 lv113 uv113
    refine he_cmpge_f (n := 119) (t := 139) (by decide +kernel) (by omega) ?_
    refine he_aload (n := 120) (i := 0) (by decide +kernel) rfl ?_
    refine he_getr (n := 123) (ci := 9) (j := 22) (ns := [4199, 62]) (b := 252) hm (by decide +kernel) rfl rfl (by decide +kernel) ?_
    refine he_iload (n := 125) (i := 4) (by decide +kernel) rfl ?_
    refine he_aload (n := 126) (i := 0) (by decide +kernel) rfl ?_
    refine he_getr (n := 129) (ci := 9) (j := 16) (ns := [4193, 53]) (b := 249) hm (by decide +kernel) rfl rfl (by decide +kernel) ?_
    refine he_iload (n := 131) (i := 4) (by decide +kernel) rfl ?_
    refine hb_ld (n := 132) (kind := 64) hm (by decide +kernel) rfl rfl (.inl rfl) (by omega) (show _ < (120 : Int) by omega) hb_at1 ?_
    intro v131 hv131 lv131 uv131
    refine hb_sta (n := 133) (kind := 64) hm (by decide +kernel) rfl rfl (.inl rfl) (by omega) (show _ < (240 : Int) by omega) ?_
    generalize hM1 : hb_set M 252 (i.toInt.toNat) v131 = M1
    have hm1 : mz_sh mz_GG M1 := by rw [← hM1]; exact hb_set_sh hm rfl hb_at1 (by omega) (by omega)
    have eM1 : ∀ b j, b ≠ 252 ∨ j ≠ i.toInt.toNat → hv M1 b j = hv M b j := by intro b j h; rw [← hM1]; exact hb_set_n h
    have sM1 : hv M1 252 (i.toInt.toNat) = v131.toInt := by rw [← hM1]; exact hb_set_v hm rfl (show _ < 240 by omega)
    have wM1 : ∀ b, b ≠ 252 → M1 b = M b := by intro b h; rw [← hM1]; exact hb_set_c h
    refine he_iinc (n := 136) (i := 4) (c := 1) (L' := fun v => [some (.ref (234)), some (.int x1), some (.int x2), some (.int x3), some (.int v), o5, o6]) (by decide +kernel) (by decide) rfl (fun _ => rfl) (by omega) (by omega) ?_
    intro i133 hi133
    refine he_goto (t := 110) (by decide +kernel) ?_
    refine ih (j + 1) M1 _ (by omega) (by omega) hm1 (fun b hb => (wM1 b hb).trans (hw b hb)) (fun t ht => ?_)
    by_cases e : t = i.toInt.toNat
    · rw [e, sM1, ← hv131, q49]
    · rw [eM1 _ _ (.inr e)]
      exact hc t (by omega)
theorem ym_bod {d z u : Nat} {Mb : Nat → mq_C} {Q : (Option Value ⊕ Nat) → mq_S → Prop} {x1 x2 x3 : Int32} {D B : Nat} (hD : hv Mb 234 15 = (D : Int)) (hB : hv Mb 234 17 = (B : Int)) (h1 : B + 2 + D ≤ 240) {o4 : Option Value} {y5 : Int32} (K : ∀ (M : Nat → mq_C) (i : Int32), mz_sh mz_GG M → (∀ b, b ≠ 250 → M b = Mb b) → (∀ t : Nat, hv M 250 t = if B + 2 ≤ t ∧ t < B + 2 + D then hv Mb 249 (t - (B + 2)) else hv Mb 250 t) → mq_R mq_PP d 124 305 [some (.ref 234), some (.int x1), some (.int x2), some (.int x3), o4, some (.int y5), some (.int i)] [] (M, z, u) Q) : ∀ (m j : Nat) (M : Nat → mq_C) (i : Int32), j + m = D → i.toInt = (j : Int) → mz_sh mz_GG M → (∀ b, b ≠ 250 → M b = Mb b) → (∀ t : Nat, hv M 250 t = if B + 2 ≤ t ∧ t < B + 2 + j then hv Mb 249 (t - (B + 2)) else hv Mb 250 t) → mq_R mq_PP d 124 269 [some (.ref 234), some (.int x1), some (.int x2), some (.int x3), o4, some (.int y5), some (.int i)] [] (M, z, u) Q := by
  intro m
  induction m with
  | zero =>
    intro j M i e1 e2 hm hw hc
    obtain rfl : j = D := by omega
    have q15 : hv M 234 15 = (j : Int) := by show hb_w mz_GG ((M 234).2[15]?) = _; rw [hw 234 (by decide)]; exact hD
    refine he_iload (n := 271) (i := 6) (by decide +kernel) rfl ?_
    refine he_aload (n := 272) (i := 0) (by decide +kernel) rfl ?_
    refine hb_gfd (n := 275) (ci := 9) (j := 15) (ns := [4192, 186]) hm (by decide +kernel) rfl rfl (by decide) rfl ?_
    intro v272 hv272 lv272 uv272
    refine he_cmpge_t (n := 278) (t := 305) (by decide +kernel) (by omega) ?_
    exact K M i hm hw hc
  | succ m ih =>
    intro j M i e1 e2 hm hw hc
    have q15 : hv M 234 15 = (D : Int) := by show hb_w mz_GG ((M 234).2[15]?) = _; rw [hw 234 (by decide)]; exact hD
    have q17 : hv M 234 17 = (B : Int) := by show hb_w mz_GG ((M 234).2[17]?) = _; rw [hw 234 (by decide)]; exact hB
    have q49 : ∀ t, hv M 249 t = hv Mb 249 t := fun t => by show hb_w mz_GG ((M 249).2[t]?) = _; rw [hw 249 (by decide)]; try rfl
    refine he_iload (n := 271) (i := 6) (by decide +kernel) rfl ?_
    refine he_aload (n := 272) (i := 0) (by decide +kernel) rfl ?_
    refine hb_gfd (n := 275) (ci := 9) (j := 15) (ns := [4192, 186]) hm (by decide +kernel) rfl rfl (by decide) rfl ?_
    intro v272 hv272 lv272 uv272
    refine he_cmpge_f (n := 278) (t := 305) (by decide +kernel) (by omega) ?_
    refine he_aload (n := 279) (i := 0) (by decide +kernel) rfl ?_
    refine he_getr (n := 282) (ci := 9) (j := 18) (ns := [4195, 56]) (b := 250) hm (by decide +kernel) rfl rfl (by decide +kernel) ?_
    refine he_aload (n := 283) (i := 0) (by decide +kernel) rfl ?_
    refine hb_gfd (n := 286) (ci := 9) (j := 17) (ns := [4194, 191]) hm (by decide +kernel) rfl rfl (by decide) rfl ?_
    intro v283 hv283 lv283 uv283
    refine he_iconst (n := 287) (c := 2) (by decide +kernel) (by decide) ?_
    intro c286 hc286
    refine he_iadd (n := 288) (by decide +kernel) (by omega) (by omega) ?_
    intro v287 hv287
    refine he_iload (n := 290) (i := 6) (by decide +kernel) rfl ?_
    refine he_iadd (n := 291) (by decide +kernel) (by omega) (by omega) ?_
    intro v290 hv290
    refine he_aload (n := 292) (i := 0) (by decide +kernel) rfl ?_
    refine he_getr (n := 295) (ci := 9) (j := 16) (ns := [4193, 53]) (b := 249) hm (by decide +kernel) rfl rfl (by decide +kernel) ?_
    refine he_iload (n := 297) (i := 6) (by decide +kernel) rfl ?_
    refine hb_ld (n := 298) (kind := 64) hm (by decide +kernel) rfl rfl (.inl rfl) (by omega) (show _ < (120 : Int) by omega) hb_at1 ?_
    intro v297 hv297 lv297 uv297
    refine hb_sta (n := 299) (kind := 64) hm (by decide +kernel) rfl rfl (.inl rfl) (by omega) (show _ < (240 : Int) by omega) ?_
    generalize hM1 : hb_set M 250 (v290.toInt.toNat) v297 = M1
    have hm1 : mz_sh mz_GG M1 := by rw [← hM1]; exact hb_set_sh hm rfl hb_at1 (by omega) (by omega)
    have eM1 : ∀ b j, b ≠ 250 ∨ j ≠ v290.toInt.toNat → hv M1 b j = hv M b j := by intro b j h; rw [← hM1]; exact hb_set_n h
    have sM1 : hv M1 250 (v290.toInt.toNat) = v297.toInt := by rw [← hM1]; exact hb_set_v hm rfl (show _ < 240 by omega)
    have wM1 : ∀ b, b ≠ 250 → M1 b = M b := by intro b h; rw [← hM1]; exact hb_set_c h
    refine he_iinc (n := 302) (i := 6) (c := 1) (L' := fun v => [some (.ref (234)), some (.int x1), some (.int x2), some (.int x3), o4, some (.int y5), some (.int v)]) (by decide +kernel) (by decide) rfl (fun _ => rfl) (by omega) (by omega) ?_
    intro i299 hi299
    refine he_goto (t := 269) (by decide +kernel) ?_
    refine ih (j + 1) M1 _ (by omega) (by omega) hm1 (fun b hb => (wM1 b hb).trans (hw b hb)) (fun t => ?_)
    by_cases e : t = v290.toInt.toNat
    · rw [if_pos (by omega), show t - (B + 2) = i.toInt.toNat by omega, ← q49, hv297, e, sM1]
    · rw [eM1 _ _ (.inr e), hc t]
      by_cases c : B + 2 ≤ t ∧ t < B + 2 + j
      · rw [if_pos c, if_pos (by omega)]
      · rw [if_neg c, if_neg (by omega)]
theorem ym_e217 {d z u : Nat} {Mb : Nat → mq_C} {Q : (Option Value ⊕ Nat) → mq_S → Prop} {x1 x2 x3 : Int32} {D B n : Nat} {i5 : Int32} {o4 o6 : Option Value} (hm : mz_sh mz_GG Mb) (hD : hv Mb 234 15 = (D : Int)) (hD1 : D ≤ 120) (hB : hv Mb 234 17 = (B : Int)) (hn : hv Mb 234 19 = (n : Int)) (hn5 : n ≤ 5) (h1 : B + 2 + D ≤ 240) (h5 : i5.toInt = 6 * (n : Int)) (h0 : 0 ≤ x2.toInt) (h8 : x2.toInt ≤ 8) (K : ∀ (M' : Nat → mq_C) (r : Int32), r.toInt = 1 → mz_sh mz_GG M' → (∀ b, b ≠ 234 → b ≠ 250 → b ≠ 251 → M' b = Mb b) → (∀ j, j ≠ 15 → j ≠ 17 → j ≠ 19 → hv M' 234 j = hv Mb 234 j) → hv M' 234 15 = 0 → hv M' 234 17 = (B : Int) + 2 + (D : Int) → hv M' 234 19 = (n : Int) + 1 → (∀ t : Nat, hv M' 250 t = if t = B then 75 else if t = B + 1 then x2.toInt else if B + 2 ≤ t ∧ t < B + 2 + D then hv Mb 249 (t - (B + 2)) else hv Mb 250 t) → (∀ j, j ≠ 6 * n + 4 → j ≠ 6 * n + 5 → hv M' 251 j = hv Mb 251 j) → hv M' 251 (6 * n + 4) = (D : Int) → hv M' 251 (6 * n + 5) = (B : Int) → Q (.inl (some (.int r))) (M', z, u)) : mq_R mq_PP d 124 217 [some (.ref 234), some (.int x1), some (.int x2), some (.int x3), o4, some (.int i5), o6] [] (Mb, z, u) Q := by
  have bx1 := mz_i32 x1
  refine he_aload (n := 218) (i := 0) (by decide +kernel) rfl ?_
  refine he_getr (n := 221) (ci := 9) (j := 20) (ns := [4197, 59]) (b := 251) hm (by decide +kernel) rfl rfl (by decide +kernel) ?_
  refine he_iload (n := 223) (i := 5) (by decide +kernel) rfl ?_
  refine he_iconst (n := 224) (c := 4) (by decide +kernel) (by decide) ?_
  intro c223 hc223
  refine he_iadd (n := 225) (by decide +kernel) (by omega) (by omega) ?_
  intro v224 hv224
  refine he_aload (n := 226) (i := 0) (by decide +kernel) rfl ?_
  refine hb_gfd (n := 229) (ci := 9) (j := 15) (ns := [4192, 186]) hm (by decide +kernel) rfl rfl (by decide) rfl ?_
  intro v226 hv226 lv226 uv226
  have q226 : v226.toInt = (D : Int) := by rw [← hv226]; exact hD
  refine hb_sta (n := 230) (kind := 64) hm (by decide +kernel) rfl rfl (.inl rfl) (by omega) (show _ < (36 : Int) by omega) ?_
  generalize hM1 : hb_set Mb 251 (v224.toInt.toNat) v226 = M1
  have hm1 : mz_sh mz_GG M1 := by rw [← hM1]; exact hb_set_sh hm rfl hb_at1 (by omega) (by omega)
  have eM1 : ∀ b j, b ≠ 251 ∨ j ≠ v224.toInt.toNat → hv M1 b j = hv Mb b j := by intro b j h; rw [← hM1]; exact hb_set_n h
  have sM1 : hv M1 251 (v224.toInt.toNat) = v226.toInt := by rw [← hM1]; exact hb_set_v hm rfl (show _ < 36 by omega)
  have wM1 : ∀ b, b ≠ 251 → M1 b = Mb b := by intro b h; rw [← hM1]; exact hb_set_c h
  refine he_aload (n := 231) (i := 0) (by decide +kernel) rfl ?_
  refine he_getr (n := 234) (ci := 9) (j := 20) (ns := [4197, 59]) (b := 251) hm1 (by decide +kernel) rfl rfl (by decide +kernel) ?_
  refine he_iload (n := 236) (i := 5) (by decide +kernel) rfl ?_
  refine he_iconst (n := 237) (c := 5) (by decide +kernel) (by decide) ?_
  intro c236 hc236
  refine he_iadd (n := 238) (by decide +kernel) (by omega) (by omega) ?_
  intro v237 hv237
  refine he_aload (n := 239) (i := 0) (by decide +kernel) rfl ?_
  refine hb_gfd (n := 242) (ci := 9) (j := 17) (ns := [4194, 191]) hm1 (by decide +kernel) rfl rfl (by decide) rfl ?_
  intro v239 hv239 lv239 uv239
  have q239 : v239.toInt = (B : Int) := by rw [← hv239, eM1 _ _ (.inl (by decide))]; exact hB
  refine hb_sta (n := 243) (kind := 64) hm1 (by decide +kernel) rfl rfl (.inl rfl) (by omega) (show _ < (36 : Int) by omega) ?_
  generalize hM2 : hb_set M1 251 (v237.toInt.toNat) v239 = M2
  have hm2 : mz_sh mz_GG M2 := by rw [← hM2]; exact hb_set_sh hm1 rfl hb_at1 (by omega) (by omega)
  have eM2 : ∀ b j, b ≠ 251 ∨ j ≠ v237.toInt.toNat → hv M2 b j = hv M1 b j := by intro b j h; rw [← hM2]; exact hb_set_n h
  have sM2 : hv M2 251 (v237.toInt.toNat) = v239.toInt := by rw [← hM2]; exact hb_set_v hm1 rfl (show _ < 36 by omega)
  have wM2 : ∀ b, b ≠ 251 → M2 b = M1 b := by intro b h; rw [← hM2]; exact hb_set_c h
  refine he_aload (n := 244) (i := 0) (by decide +kernel) rfl ?_
  refine he_getr (n := 247) (ci := 9) (j := 18) (ns := [4195, 56]) (b := 250) hm2 (by decide +kernel) rfl rfl (by decide +kernel) ?_
  refine he_aload (n := 248) (i := 0) (by decide +kernel) rfl ?_
  refine hb_gfd (n := 251) (ci := 9) (j := 17) (ns := [4194, 191]) hm2 (by decide +kernel) rfl rfl (by decide) rfl ?_
  intro v248 hv248 lv248 uv248
  have q248 : v248.toInt = (B : Int) := by rw [← hv248, eM2 _ _ (.inl (by decide)), eM1 _ _ (.inl (by decide))]; exact hB
  refine he_iconst (n := 253) (c := 75) (by decide +kernel) (by decide) ?_
  intro c251 hc251
  refine hb_sta (n := 254) (kind := 64) hm2 (by decide +kernel) rfl rfl (.inl rfl) (by omega) (show _ < (240 : Int) by omega) ?_
  generalize hM3 : hb_set M2 250 (v248.toInt.toNat) c251 = M3
  have hm3 : mz_sh mz_GG M3 := by rw [← hM3]; exact hb_set_sh hm2 rfl hb_at1 (by omega) (by omega)
  have eM3 : ∀ b j, b ≠ 250 ∨ j ≠ v248.toInt.toNat → hv M3 b j = hv M2 b j := by intro b j h; rw [← hM3]; exact hb_set_n h
  have sM3 : hv M3 250 (v248.toInt.toNat) = c251.toInt := by rw [← hM3]; exact hb_set_v hm2 rfl (show _ < 240 by omega)
  have wM3 : ∀ b, b ≠ 250 → M3 b = M2 b := by intro b h; rw [← hM3]; exact hb_set_c h
  refine he_aload (n := 255) (i := 0) (by decide +kernel) rfl ?_
  refine he_getr (n := 258) (ci := 9) (j := 18) (ns := [4195, 56]) (b := 250) hm3 (by decide +kernel) rfl rfl (by decide +kernel) ?_
  refine he_aload (n := 259) (i := 0) (by decide +kernel) rfl ?_
  refine hb_gfd (n := 262) (ci := 9) (j := 17) (ns := [4194, 191]) hm3 (by decide +kernel) rfl rfl (by decide) rfl ?_
  intro v259 hv259 lv259 uv259
  have q259 : v259.toInt = (B : Int) := by rw [← hv259, eM3 _ _ (.inl (by decide)), eM2 _ _ (.inl (by decide)), eM1 _ _ (.inl (by decide))]; exact hB
  refine he_iconst (n := 263) (c := 1) (by decide +kernel) (by decide) ?_
  intro c262 hc262
  refine he_iadd (n := 264) (by decide +kernel) (by omega) (by omega) ?_
  intro v263 hv263
  refine he_iload (n := 265) (i := 2) (by decide +kernel) rfl ?_
  refine hb_sta (n := 266) (kind := 64) hm3 (by decide +kernel) rfl rfl (.inl rfl) (by omega) (show _ < (240 : Int) by omega) ?_
  generalize hM4 : hb_set M3 250 (v263.toInt.toNat) x2 = M4
  have hm4 : mz_sh mz_GG M4 := by rw [← hM4]; exact hb_set_sh hm3 rfl hb_at1 (by omega) (by omega)
  have eM4 : ∀ b j, b ≠ 250 ∨ j ≠ v263.toInt.toNat → hv M4 b j = hv M3 b j := by intro b j h; rw [← hM4]; exact hb_set_n h
  have sM4 : hv M4 250 (v263.toInt.toNat) = x2.toInt := by rw [← hM4]; exact hb_set_v hm3 rfl (show _ < 240 by omega)
  have wM4 : ∀ b, b ≠ 250 → M4 b = M3 b := by intro b h; rw [← hM4]; exact hb_set_c h
  refine he_iconst (n := 267) (c := 0) (by decide +kernel) (by decide) ?_
  intro c266 hc266
  refine he_istore (n := 269) (i := 6) (by decide +kernel) rfl ?_
  have u4 : ∀ b j, b ≠ 250 → b ≠ 251 → hv M4 b j = hv Mb b j := fun b j n1 n2 => by rw [eM4 _ _ (.inl n1), eM3 _ _ (.inl n1), eM2 _ _ (.inl n2), eM1 _ _ (.inl n2)]
  refine ym_bod (D := D) (B := B) (by rw [u4 _ _ (by decide) (by decide)]; exact hD) (by rw [u4 _ _ (by decide) (by decide)]; exact hB) h1 ?_ D 0 M4 _ (Nat.zero_add _) (by omega) hm4 (fun _ _ => rfl) (fun t => by rw [if_neg (by omega)])
  intro M5 i6 hm5 wM5 rM5
  have u5 : ∀ b j, b ≠ 250 → hv M5 b j = hv M4 b j := fun b j n1 => by show hb_w mz_GG ((M5 b).2[j]?) = _; rw [wM5 b n1]; try rfl
  refine he_aload (n := 306) (i := 0) (by decide +kernel) rfl ?_
  refine he_dup_r (n := 307) (by decide +kernel) ?_
  refine hb_gfd (n := 310) (ci := 9) (j := 17) (ns := [4194, 191]) hm5 (by decide +kernel) rfl rfl (by decide) rfl ?_
  intro ve307 hve307 lve307 uve307
  have q307 : ve307.toInt = (B : Int) := by rw [← hve307, u5 _ _ (by decide), u4 _ _ (by decide) (by decide)]; exact hB
  refine he_iconst (n := 311) (c := 2) (by decide +kernel) (by decide) ?_
  intro ce310 hce310
  refine he_aload (n := 312) (i := 0) (by decide +kernel) rfl ?_
  refine hb_gfd (n := 315) (ci := 9) (j := 15) (ns := [4192, 186]) hm5 (by decide +kernel) rfl rfl (by decide) rfl ?_
  intro ve312 hve312 lve312 uve312
  have q312 : ve312.toInt = (D : Int) := by rw [← hve312, u5 _ _ (by decide), u4 _ _ (by decide) (by decide)]; exact hD
  refine he_iadd (n := 316) (by decide +kernel) (by omega) (by omega) ?_
  intro ve315 hve315
  refine he_iadd (n := 317) (by decide +kernel) (by omega) (by omega) ?_
  intro ve316 hve316
  refine hb_pfd (n := 320) (ci := 9) (j := 17) (t := 0) (ns := [4194, 191]) hm5 (by decide +kernel) rfl rfl (by decide) (.inl rfl) ?_
  generalize hMe1 : hb_set M5 234 17 ve316 = Me1
  have hme1 : mz_sh mz_GG Me1 := by rw [← hMe1]; exact hb_set_sh hm5 rfl rfl (by omega) (by omega)
  have eMe1 : ∀ b j, b ≠ 234 ∨ j ≠ 17 → hv Me1 b j = hv M5 b j := by intro b j h; rw [← hMe1]; exact hb_set_n h
  have sMe1 : hv Me1 234 17 = ve316.toInt := by rw [← hMe1]; exact hb_set_v hm5 rfl (by decide)
  have wMe1 : ∀ b, b ≠ 234 → Me1 b = M5 b := by intro b h; rw [← hMe1]; exact hb_set_c h
  refine he_aload (n := 321) (i := 0) (by decide +kernel) rfl ?_
  refine he_dup_r (n := 322) (by decide +kernel) ?_
  refine hb_gfd (n := 325) (ci := 9) (j := 19) (ns := [4196, 197]) hme1 (by decide +kernel) rfl rfl (by decide) rfl ?_
  intro ve322 hve322 lve322 uve322
  have q322 : ve322.toInt = (n : Int) := by rw [← hve322, eMe1 _ _ (.inr (by decide)), u5 _ _ (by decide), u4 _ _ (by decide) (by decide)]; exact hn
  refine he_iconst (n := 326) (c := 1) (by decide +kernel) (by decide) ?_
  intro ce325 hce325
  refine he_iadd (n := 327) (by decide +kernel) (by omega) (by omega) ?_
  intro ve326 hve326
  refine hb_pfd (n := 330) (ci := 9) (j := 19) (t := 0) (ns := [4196, 197]) hme1 (by decide +kernel) rfl rfl (by decide) (.inl rfl) ?_
  generalize hMe2 : hb_set Me1 234 19 ve326 = Me2
  have hme2 : mz_sh mz_GG Me2 := by rw [← hMe2]; exact hb_set_sh hme1 rfl rfl (by omega) (by omega)
  have eMe2 : ∀ b j, b ≠ 234 ∨ j ≠ 19 → hv Me2 b j = hv Me1 b j := by intro b j h; rw [← hMe2]; exact hb_set_n h
  have sMe2 : hv Me2 234 19 = ve326.toInt := by rw [← hMe2]; exact hb_set_v hme1 rfl (by decide)
  have wMe2 : ∀ b, b ≠ 234 → Me2 b = Me1 b := by intro b h; rw [← hMe2]; exact hb_set_c h
  refine he_aload (n := 331) (i := 0) (by decide +kernel) rfl ?_
  refine he_iconst (n := 332) (c := 0) (by decide +kernel) (by decide) ?_
  intro ce331 hce331
  refine hb_pfd (n := 335) (ci := 9) (j := 15) (t := 0) (ns := [4192, 186]) hme2 (by decide +kernel) rfl rfl (by decide) (.inl rfl) ?_
  generalize hMe3 : hb_set Me2 234 15 ce331 = Me3
  have hme3 : mz_sh mz_GG Me3 := by rw [← hMe3]; exact hb_set_sh hme2 rfl rfl (by omega) (by omega)
  have eMe3 : ∀ b j, b ≠ 234 ∨ j ≠ 15 → hv Me3 b j = hv Me2 b j := by intro b j h; rw [← hMe3]; exact hb_set_n h
  have sMe3 : hv Me3 234 15 = ce331.toInt := by rw [← hMe3]; exact hb_set_v hme2 rfl (by decide)
  have wMe3 : ∀ b, b ≠ 234 → Me3 b = Me2 b := by intro b h; rw [← hMe3]; exact hb_set_c h
  refine he_iconst (n := 336) (c := 1) (by decide +kernel) (by decide) ?_
  intro ce335 hce335
  refine he_retz (by decide +kernel) (by omega) ?_
  have u8 : ∀ b j, b ≠ 234 → hv Me3 b j = hv M5 b j := fun b j n1 => by rw [eMe3 _ _ (.inl n1), eMe2 _ _ (.inl n1), eMe1 _ _ (.inl n1)]
  refine K Me3 _ (by omega) hme3 (fun b n1 n2 n3 => by rw [wMe3 b n1, wMe2 b n1, wMe1 b n1, wM5 b n2, wM4 b n2, wM3 b n2, wM2 b n3, wM1 b n3]) (fun j n1 n2 n3 => by rw [eMe3 _ _ (.inr n1), eMe2 _ _ (.inr n3), eMe1 _ _ (.inr n2), u5 _ _ (by decide), u4 _ _ (by decide) (by decide)]) (by rw [sMe3]; omega) (by rw [eMe3 _ _ (.inr (by decide)), eMe2 _ _ (.inr (by decide)), sMe1]; omega) (by rw [eMe3 _ _ (.inr (by decide)), sMe2]; omega) (fun t => ?_) (fun j n1 n2 => ?_) ?_ ?_
  · rw [u8 _ _ (by decide), rM5 t]
    by_cases a1 : t = B
    · rw [if_neg (by omega), if_pos a1, eM4 _ _ (.inr (by omega)), show t = v248.toInt.toNat by omega, sM3]
      omega
    · rw [if_neg a1]
      by_cases a2 : t = B + 1
      · rw [if_neg (by omega), if_pos a2, show t = v263.toInt.toNat by omega, sM4]
      · rw [if_neg a2, u4 _ _ (by decide) (by decide), eM4 _ _ (.inr (by omega)), eM3 _ _ (.inr (by omega)), eM2 _ _ (.inl (by decide)), eM1 _ _ (.inl (by decide))]
  · rw [u8 _ _ (by decide), u5 _ _ (by decide), eM4 _ _ (.inl (by decide)), eM3 _ _ (.inl (by decide)), eM2 _ _ (.inr (by omega)), eM1 _ _ (.inr (by omega))]
  · rw [u8 _ _ (by decide), u5 _ _ (by decide), eM4 _ _ (.inl (by decide)), eM3 _ _ (.inl (by decide)), eM2 _ _ (.inr (by omega)), show 6 * n + 4 = v224.toInt.toNat by omega, sM1]
    omega
  · rw [u8 _ _ (by decide), u5 _ _ (by decide), eM4 _ _ (.inl (by decide)), eM3 _ _ (.inl (by decide)), show 6 * n + 5 = v237.toInt.toNat by omega, sM2]
    omega
theorem ym_e99 {d z u : Nat} {Mb : Nat → mq_C} {Q : (Option Value ⊕ Nat) → mq_S → Prop} {x1 x2 x3 : Int32} {D B n : Nat} {o4 : Option Value} (hm : mz_sh mz_GG Mb) (hD : hv Mb 234 15 = (D : Int)) (hD1 : D ≤ 120) (hB : hv Mb 234 17 = (B : Int)) (hn : hv Mb 234 19 = (n : Int)) (hn5 : n ≤ 5) (h1 : B + 2 + D ≤ 240) (hx : x2.toInt = 0 ∨ x2.toInt = 8) (K : ∀ (M' : Nat → mq_C) (r : Int32) (su le : Int), r.toInt = 1 → mz_sh mz_GG M' → (∀ b, b ≠ 234 → b < 250 ∨ 257 ≤ b → M' b = Mb b) → (∀ j, j ≠ 15 → j ≠ 17 → j ≠ 19 → j ≠ 21 → j ≠ 23 → j ≠ 24 → j ≠ 25 → hv M' 234 j = hv Mb 234 j) → hv M' 234 15 = 0 → hv M' 234 17 = (B : Int) + 2 + (D : Int) → hv M' 234 19 = (n : Int) + 1 → (∀ t : Nat, hv M' 250 t = if t = B then 75 else if t = B + 1 then x2.toInt else if B + 2 ≤ t ∧ t < B + 2 + D then hv Mb 249 (t - (B + 2)) else hv Mb 250 t) → (∀ j, j < 6 * n → hv M' 251 j = hv Mb 251 j) → hv M' 251 (6 * n) = x1.toInt → hv M' 251 (6 * n + 1) = x2.toInt → hv M' 251 (6 * n + 2) = su → hv M' 251 (6 * n + 3) = le → hv M' 251 (6 * n + 4) = (D : Int) → hv M' 251 (6 * n + 5) = (B : Int) → (∀ o', xop x2.toInt (8 * D) (xB Mb 249) = some o' → su = (xsum o').toInt ∧ le = (o'.length : Int)) → (xop x2.toInt (8 * D) (xB Mb 249) = none → su = 0 ∧ le = 0) → Q (.inl (some (.int r))) (M', z, u)) : mq_R mq_PP (d + 6) 124 99 [some (.ref 234), some (.int x1), some (.int x2), some (.int x3), o4, none, none] [] (Mb, z, u) Q := by
  have bx1 := mz_i32 x1
  refine he_aload (n := 100) (i := 0) (by decide +kernel) rfl ?_
  refine he_aload (n := 101) (i := 0) (by decide +kernel) rfl ?_
  refine hb_gfd (n := 104) (ci := 9) (j := 15) (ns := [4192, 186]) hm (by decide +kernel) rfl rfl (by decide) rfl ?_
  intro v101 hv101 lv101 uv101
  have q101 : v101.toInt = (D : Int) := by rw [← hv101]; exact hD
  refine hb_pfd (n := 107) (ci := 9) (j := 21) (t := 0) (ns := [4198, 132]) hm (by decide +kernel) rfl rfl (by decide) (.inl rfl) ?_
  generalize hM1 : hb_set Mb 234 21 v101 = M1
  have hm1 : mz_sh mz_GG M1 := by rw [← hM1]; exact hb_set_sh hm rfl rfl (by omega) (by omega)
  have eM1 : ∀ b j, b ≠ 234 ∨ j ≠ 21 → hv M1 b j = hv Mb b j := by intro b j h; rw [← hM1]; exact hb_set_n h
  have sM1 : hv M1 234 21 = v101.toInt := by rw [← hM1]; exact hb_set_v hm rfl (by decide)
  have wM1 : ∀ b, b ≠ 234 → M1 b = Mb b := by intro b h; rw [← hM1]; exact hb_set_c h
  refine he_iconst (n := 108) (c := 0) (by decide +kernel) (by decide) ?_
  intro c107 hc107
  refine he_istore (n := 110) (i := 4) (by decide +kernel) rfl ?_
  refine ym_src (Mb := M1) (D := D) (by rw [eM1 _ _ (.inr (by decide))]; exact hD) hD1 ?_ D 0 M1 _ (Nat.zero_add _) (by omega) hm1 (fun _ _ => rfl) (fun t ht => absurd ht (Nat.not_lt_zero _))
  intro M2 i4 hm2 wM2 cM2
  have u2 : ∀ b j, b ≠ 252 → hv M2 b j = hv M1 b j := fun b j n1 => by show hb_w mz_GG ((M2 b).2[j]?) = _; rw [wM2 b n1]; try rfl
  have eX : xop x2.toInt (8 * D) (xB M2 252) = xop x2.toInt (8 * D) (xB Mb 249) := by
    refine xop_e (fun i hi => ?_) (by omega)
    unfold xB
    rw [cM2 _ (by omega), eM1 _ _ (.inl (by decide))]
  refine he_aload (n := 140) (i := 0) (by decide +kernel) rfl ?_
  refine he_iload (n := 141) (i := 2) (by decide +kernel) rfl ?_
  refine he_v1 (n := 144) (j := 120) (ci := 9) (mx := 4) (ns := [5145, 5147, 52, 200]) (by decide +kernel) ((hb_kd (a := 234) hm2 rfl).trans rfl) (by show 0 ≤ 8; omega) (by show 2 ≤ 4; omega) ?_
  rw [mq_e120]
  refine ym_opened (cnt := D) hm2 (by rw [u2 _ _ (by decide), sM1]; omega) (by omega) hx ?_
  intro M3 r hU k1 k0
  rw [eX] at k1 k0
  show mq_R mq_PP (d + 6) 124 144 _ [.int r] (M3, z, u) Q
  have u3 : ∀ b j, b ≠ 234 → b < 252 ∨ 257 ≤ b → hv M3 b j = hv Mb b j := fun b j n1 n2 => by
    show hb_w mz_GG ((M3 b).2[j]?) = _
    rw [hU.2.1 b n1 (by omega), wM2 b (by omega), wM1 b n1]
    try rfl
  have s3 : ∀ j, j ≠ 21 → j ≠ 23 → j ≠ 24 → j ≠ 25 → hv M3 234 j = hv Mb 234 j := fun j n0 n1 n2 n3 => by rw [hU.2.2 j n1 n2 n3, u2 _ _ (by decide), eM1 _ _ (.inr n0)]
  cases hxo : xop x2.toInt (8 * D) (xB Mb 249) with
  | some o' =>
    obtain ⟨g1, g2, g3, g4⟩ := k1 o' hxo
    refine he_istore (n := 146) (i := 4) (by decide +kernel) rfl ?_
    refine he_iconst (n := 148) (c := 6) (by decide +kernel) (by decide) ?_
    intro cb146 hcb146
    refine he_aload (n := 149) (i := 0) (by decide +kernel) rfl ?_
    refine hb_gfd (n := 152) (ci := 9) (j := 19) (ns := [4196, 197]) hU.1 (by decide +kernel) rfl rfl (by decide) rfl ?_
    intro vb149 hvb149 lvb149 uvb149
    have q149 : vb149.toInt = (n : Int) := by rw [← hvb149, s3 _ (by decide) (by decide) (by decide) (by decide)]; exact hn
    refine he_imul (n := 153) (p := 6 * vb149.toInt) (by decide +kernel) (by rw [hcb146]) (by omega) (by omega) ?_
    intro vb152 hvb152
    refine he_istore (n := 155) (i := 5) (by decide +kernel) rfl ?_
    refine he_aload (n := 156) (i := 0) (by decide +kernel) rfl ?_
    refine he_getr (n := 159) (ci := 9) (j := 20) (ns := [4197, 59]) (b := 251) hU.1 (by decide +kernel) rfl rfl (by decide +kernel) ?_
    refine he_iload (n := 161) (i := 5) (by decide +kernel) rfl ?_
    refine he_iload (n := 162) (i := 1) (by decide +kernel) rfl ?_
    refine hb_sta (n := 163) (kind := 64) hU.1 (by decide +kernel) rfl rfl (.inl rfl) (by omega) (show _ < (36 : Int) by omega) ?_
    generalize hMb1 : hb_set M3 251 (vb152.toInt.toNat) x1 = Mb1
    have hmb1 : mz_sh mz_GG Mb1 := by rw [← hMb1]; exact hb_set_sh hU.1 rfl hb_at1 (by omega) (by omega)
    have eMb1 : ∀ b j, b ≠ 251 ∨ j ≠ vb152.toInt.toNat → hv Mb1 b j = hv M3 b j := by intro b j h; rw [← hMb1]; exact hb_set_n h
    have sMb1 : hv Mb1 251 (vb152.toInt.toNat) = x1.toInt := by rw [← hMb1]; exact hb_set_v hU.1 rfl (show _ < 36 by omega)
    have wMb1 : ∀ b, b ≠ 251 → Mb1 b = M3 b := by intro b h; rw [← hMb1]; exact hb_set_c h
    refine he_aload (n := 164) (i := 0) (by decide +kernel) rfl ?_
    refine he_getr (n := 167) (ci := 9) (j := 20) (ns := [4197, 59]) (b := 251) hmb1 (by decide +kernel) rfl rfl (by decide +kernel) ?_
    refine he_iload (n := 169) (i := 5) (by decide +kernel) rfl ?_
    refine he_iconst (n := 170) (c := 1) (by decide +kernel) (by decide) ?_
    intro cb169 hcb169
    refine he_iadd (n := 171) (by decide +kernel) (by omega) (by omega) ?_
    intro vb170 hvb170
    refine he_iload (n := 172) (i := 2) (by decide +kernel) rfl ?_
    refine hb_sta (n := 173) (kind := 64) hmb1 (by decide +kernel) rfl rfl (.inl rfl) (by omega) (show _ < (36 : Int) by omega) ?_
    generalize hMb2 : hb_set Mb1 251 (vb170.toInt.toNat) x2 = Mb2
    have hmb2 : mz_sh mz_GG Mb2 := by rw [← hMb2]; exact hb_set_sh hmb1 rfl hb_at1 (by omega) (by omega)
    have eMb2 : ∀ b j, b ≠ 251 ∨ j ≠ vb170.toInt.toNat → hv Mb2 b j = hv Mb1 b j := by intro b j h; rw [← hMb2]; exact hb_set_n h
    have sMb2 : hv Mb2 251 (vb170.toInt.toNat) = x2.toInt := by rw [← hMb2]; exact hb_set_v hmb1 rfl (show _ < 36 by omega)
    have wMb2 : ∀ b, b ≠ 251 → Mb2 b = Mb1 b := by intro b h; rw [← hMb2]; exact hb_set_c h
    refine he_aload (n := 174) (i := 0) (by decide +kernel) rfl ?_
    refine he_getr (n := 177) (ci := 9) (j := 20) (ns := [4197, 59]) (b := 251) hmb2 (by decide +kernel) rfl rfl (by decide +kernel) ?_
    refine he_iload (n := 179) (i := 5) (by decide +kernel) rfl ?_
    refine he_iconst (n := 180) (c := 2) (by decide +kernel) (by decide) ?_
    intro cb179 hcb179
    refine he_iadd (n := 181) (by decide +kernel) (by omega) (by omega) ?_
    intro vb180 hvb180
    refine he_iload (n := 183) (i := 4) (by decide +kernel) rfl ?_
    refine he_ifeq_f (n := 186) (t := 193) (by decide +kernel) (by omega) ?_
    refine he_aload (n := 187) (i := 0) (by decide +kernel) rfl ?_
    refine he_v0 (n := 190) (j := 121) (ci := 9) (mx := 4) (ns := [5198, 5200, 64, 203]) (by decide +kernel) ((hb_kd (a := 234) hmb2 rfl).trans rfl) (by show 2 ≤ 8; omega) (by show 1 ≤ 4; omega) ?_
    rw [mq_e121]
    refine xm_sum (o := o') hmb2 (by rw [eMb2 _ _ (.inl (by decide)), eMb1 _ _ (.inl (by decide))]; exact g2) (fun i hi => by rw [eMb2 _ _ (.inl (by decide)), eMb1 _ _ (.inl (by decide))]; exact g4 i hi) g3 ?_
    show mq_R mq_PP (d + 6) 124 190 _ [.int (xsum o'), .int vb180, .ref 251] (Mb2, z, u) Q
    generalize hsu : xsum o' = sv
    have bsv := mz_i32 sv
    refine he_goto (t := 194) (by decide +kernel) ?_
    refine hb_sta (n := 195) (kind := 64) hmb2 (by decide +kernel) rfl rfl (.inl rfl) (by omega) (show _ < (36 : Int) by omega) ?_
    generalize hMb3 : hb_set Mb2 251 (vb180.toInt.toNat) sv = Mb3
    have hmb3 : mz_sh mz_GG Mb3 := by rw [← hMb3]; exact hb_set_sh hmb2 rfl hb_at1 (by omega) (by omega)
    have eMb3 : ∀ b j, b ≠ 251 ∨ j ≠ vb180.toInt.toNat → hv Mb3 b j = hv Mb2 b j := by intro b j h; rw [← hMb3]; exact hb_set_n h
    have sMb3 : hv Mb3 251 (vb180.toInt.toNat) = sv.toInt := by rw [← hMb3]; exact hb_set_v hmb2 rfl (show _ < 36 by omega)
    have wMb3 : ∀ b, b ≠ 251 → Mb3 b = Mb2 b := by intro b h; rw [← hMb3]; exact hb_set_c h
    refine he_aload (n := 196) (i := 0) (by decide +kernel) rfl ?_
    refine he_getr (n := 199) (ci := 9) (j := 20) (ns := [4197, 59]) (b := 251) hmb3 (by decide +kernel) rfl rfl (by decide +kernel) ?_
    refine he_iload (n := 201) (i := 5) (by decide +kernel) rfl ?_
    refine he_iconst (n := 202) (c := 3) (by decide +kernel) (by decide) ?_
    intro cb201 hcb201
    refine he_iadd (n := 203) (by decide +kernel) (by omega) (by omega) ?_
    intro vb202 hvb202
    refine he_iload (n := 205) (i := 4) (by decide +kernel) rfl ?_
    refine he_ifeq_f (n := 208) (t := 215) (by decide +kernel) (by omega) ?_
    refine he_aload (n := 209) (i := 0) (by decide +kernel) rfl ?_
    refine hb_gfd (n := 212) (ci := 9) (j := 25) (ns := [4202, 143]) hmb3 (by decide +kernel) rfl rfl (by decide) rfl ?_
    intro vb209 hvb209 lvb209 uvb209
    have q209 : vb209.toInt = (o'.length : Int) := by rw [← hvb209, eMb3 _ _ (.inl (by decide)), eMb2 _ _ (.inl (by decide)), eMb1 _ _ (.inl (by decide))]; exact g2
    refine he_goto (t := 216) (by decide +kernel) ?_
    refine hb_sta (n := 217) (kind := 64) hmb3 (by decide +kernel) rfl rfl (.inl rfl) (by omega) (show _ < (36 : Int) by omega) ?_
    generalize hMb4 : hb_set Mb3 251 (vb202.toInt.toNat) vb209 = Mb4
    have hmb4 : mz_sh mz_GG Mb4 := by rw [← hMb4]; exact hb_set_sh hmb3 rfl hb_at1 (by omega) (by omega)
    have eMb4 : ∀ b j, b ≠ 251 ∨ j ≠ vb202.toInt.toNat → hv Mb4 b j = hv Mb3 b j := by intro b j h; rw [← hMb4]; exact hb_set_n h
    have sMb4 : hv Mb4 251 (vb202.toInt.toNat) = vb209.toInt := by rw [← hMb4]; exact hb_set_v hmb3 rfl (show _ < 36 by omega)
    have wMb4 : ∀ b, b ≠ 251 → Mb4 b = Mb3 b := by intro b h; rw [← hMb4]; exact hb_set_c h
    have ub : ∀ b j, b ≠ 251 → hv Mb4 b j = hv M3 b j := fun b j n1 => by rw [eMb4 _ _ (.inl n1), eMb3 _ _ (.inl n1), eMb2 _ _ (.inl n1), eMb1 _ _ (.inl n1)]
    refine ym_e217 (Mb := Mb4) (D := D) (B := B) (n := n) hmb4 (by rw [ub _ _ (by decide), s3 _ (by decide) (by decide) (by decide) (by decide)]; exact hD) hD1 (by rw [ub _ _ (by decide), s3 _ (by decide) (by decide) (by decide) (by decide)]; exact hB) (by rw [ub _ _ (by decide), s3 _ (by decide) (by decide) (by decide) (by decide)]; exact hn) hn5 h1 (by omega) (by omega) (by omega) ?_
    intro M' r' hr' hm' w' s' t15 t17 t19 t50 t51 t514 t515
    refine K M' r' (sv.toInt) (o'.length : Int) hr' hm' (fun b n1 n2 => ?_) (fun j n1 n2 n3 n4 n5 n6 n7 => ?_) t15 t17 t19 (fun t => ?_) (fun j hj => ?_) ?_ ?_ ?_ ?_ t514 t515 ?_ ?_
    · rw [w' b n1 (by omega) (by omega), wMb4 b (by omega), wMb3 b (by omega), wMb2 b (by omega), wMb1 b (by omega), hU.2.1 b n1 (by omega), wM2 b (by omega), wM1 b n1]
    · rw [s' j n1 n2 n3, ub _ _ (by decide), s3 j n4 n5 n6 n7]
    · rw [t50 t, ub _ _ (by decide), ub _ _ (by decide), u3 _ _ (by decide) (by omega), u3 _ _ (by decide) (by omega)]
    · rw [t51 j (by omega) (by omega), eMb4 _ _ (.inr (by omega)), eMb3 _ _ (.inr (by omega)), eMb2 _ _ (.inr (by omega)), eMb1 _ _ (.inr (by omega)), u3 _ _ (by decide) (by omega)]
    · rw [t51 _ (by omega) (by omega), eMb4 _ _ (.inr (by omega)), eMb3 _ _ (.inr (by omega)), eMb2 _ _ (.inr (by omega)), show 6 * n = vb152.toInt.toNat by omega, sMb1]
    · rw [t51 _ (by omega) (by omega), eMb4 _ _ (.inr (by omega)), eMb3 _ _ (.inr (by omega)), show 6 * n + 1 = vb170.toInt.toNat by omega, sMb2]
    · rw [t51 _ (by omega) (by omega), eMb4 _ _ (.inr (by omega)), show 6 * n + 2 = vb180.toInt.toNat by omega, sMb3]
    · rw [t51 _ (by omega) (by omega), show 6 * n + 3 = vb202.toInt.toNat by omega, sMb4]; omega
    · intro o'' e; rw [hxo] at e; cases e; exact ⟨by rw [hsu], rfl⟩
    · intro e; rw [hxo] at e; cases e
  | none =>
    have g0 := k0 hxo
    refine he_istore (n := 146) (i := 4) (by decide +kernel) rfl ?_
    refine he_iconst (n := 148) (c := 6) (by decide +kernel) (by decide) ?_
    intro cb146 hcb146
    refine he_aload (n := 149) (i := 0) (by decide +kernel) rfl ?_
    refine hb_gfd (n := 152) (ci := 9) (j := 19) (ns := [4196, 197]) hU.1 (by decide +kernel) rfl rfl (by decide) rfl ?_
    intro vb149 hvb149 lvb149 uvb149
    have q149 : vb149.toInt = (n : Int) := by rw [← hvb149, s3 _ (by decide) (by decide) (by decide) (by decide)]; exact hn
    refine he_imul (n := 153) (p := 6 * vb149.toInt) (by decide +kernel) (by rw [hcb146]) (by omega) (by omega) ?_
    intro vb152 hvb152
    refine he_istore (n := 155) (i := 5) (by decide +kernel) rfl ?_
    refine he_aload (n := 156) (i := 0) (by decide +kernel) rfl ?_
    refine he_getr (n := 159) (ci := 9) (j := 20) (ns := [4197, 59]) (b := 251) hU.1 (by decide +kernel) rfl rfl (by decide +kernel) ?_
    refine he_iload (n := 161) (i := 5) (by decide +kernel) rfl ?_
    refine he_iload (n := 162) (i := 1) (by decide +kernel) rfl ?_
    refine hb_sta (n := 163) (kind := 64) hU.1 (by decide +kernel) rfl rfl (.inl rfl) (by omega) (show _ < (36 : Int) by omega) ?_
    generalize hMb1 : hb_set M3 251 (vb152.toInt.toNat) x1 = Mb1
    have hmb1 : mz_sh mz_GG Mb1 := by rw [← hMb1]; exact hb_set_sh hU.1 rfl hb_at1 (by omega) (by omega)
    have eMb1 : ∀ b j, b ≠ 251 ∨ j ≠ vb152.toInt.toNat → hv Mb1 b j = hv M3 b j := by intro b j h; rw [← hMb1]; exact hb_set_n h
    have sMb1 : hv Mb1 251 (vb152.toInt.toNat) = x1.toInt := by rw [← hMb1]; exact hb_set_v hU.1 rfl (show _ < 36 by omega)
    have wMb1 : ∀ b, b ≠ 251 → Mb1 b = M3 b := by intro b h; rw [← hMb1]; exact hb_set_c h
    refine he_aload (n := 164) (i := 0) (by decide +kernel) rfl ?_
    refine he_getr (n := 167) (ci := 9) (j := 20) (ns := [4197, 59]) (b := 251) hmb1 (by decide +kernel) rfl rfl (by decide +kernel) ?_
    refine he_iload (n := 169) (i := 5) (by decide +kernel) rfl ?_
    refine he_iconst (n := 170) (c := 1) (by decide +kernel) (by decide) ?_
    intro cb169 hcb169
    refine he_iadd (n := 171) (by decide +kernel) (by omega) (by omega) ?_
    intro vb170 hvb170
    refine he_iload (n := 172) (i := 2) (by decide +kernel) rfl ?_
    refine hb_sta (n := 173) (kind := 64) hmb1 (by decide +kernel) rfl rfl (.inl rfl) (by omega) (show _ < (36 : Int) by omega) ?_
    generalize hMb2 : hb_set Mb1 251 (vb170.toInt.toNat) x2 = Mb2
    have hmb2 : mz_sh mz_GG Mb2 := by rw [← hMb2]; exact hb_set_sh hmb1 rfl hb_at1 (by omega) (by omega)
    have eMb2 : ∀ b j, b ≠ 251 ∨ j ≠ vb170.toInt.toNat → hv Mb2 b j = hv Mb1 b j := by intro b j h; rw [← hMb2]; exact hb_set_n h
    have sMb2 : hv Mb2 251 (vb170.toInt.toNat) = x2.toInt := by rw [← hMb2]; exact hb_set_v hmb1 rfl (show _ < 36 by omega)
    have wMb2 : ∀ b, b ≠ 251 → Mb2 b = Mb1 b := by intro b h; rw [← hMb2]; exact hb_set_c h
    refine he_aload (n := 174) (i := 0) (by decide +kernel) rfl ?_
    refine he_getr (n := 177) (ci := 9) (j := 20) (ns := [4197, 59]) (b := 251) hmb2 (by decide +kernel) rfl rfl (by decide +kernel) ?_
    refine he_iload (n := 179) (i := 5) (by decide +kernel) rfl ?_
    refine he_iconst (n := 180) (c := 2) (by decide +kernel) (by decide) ?_
    intro cb179 hcb179
    refine he_iadd (n := 181) (by decide +kernel) (by omega) (by omega) ?_
    intro vb180 hvb180
    refine he_iload (n := 183) (i := 4) (by decide +kernel) rfl ?_
    refine he_ifeq_t (n := 186) (t := 193) (by decide +kernel) (by omega) ?_
    refine he_iconst (n := 194) (c := 0) (by decide +kernel) (by decide) ?_
    intro cb193 hcb193
    refine hb_sta (n := 195) (kind := 64) hmb2 (by decide +kernel) rfl rfl (.inl rfl) (by omega) (show _ < (36 : Int) by omega) ?_
    generalize hMb3 : hb_set Mb2 251 (vb180.toInt.toNat) cb193 = Mb3
    have hmb3 : mz_sh mz_GG Mb3 := by rw [← hMb3]; exact hb_set_sh hmb2 rfl hb_at1 (by omega) (by omega)
    have eMb3 : ∀ b j, b ≠ 251 ∨ j ≠ vb180.toInt.toNat → hv Mb3 b j = hv Mb2 b j := by intro b j h; rw [← hMb3]; exact hb_set_n h
    have sMb3 : hv Mb3 251 (vb180.toInt.toNat) = cb193.toInt := by rw [← hMb3]; exact hb_set_v hmb2 rfl (show _ < 36 by omega)
    have wMb3 : ∀ b, b ≠ 251 → Mb3 b = Mb2 b := by intro b h; rw [← hMb3]; exact hb_set_c h
    refine he_aload (n := 196) (i := 0) (by decide +kernel) rfl ?_
    refine he_getr (n := 199) (ci := 9) (j := 20) (ns := [4197, 59]) (b := 251) hmb3 (by decide +kernel) rfl rfl (by decide +kernel) ?_
    refine he_iload (n := 201) (i := 5) (by decide +kernel) rfl ?_
    refine he_iconst (n := 202) (c := 3) (by decide +kernel) (by decide) ?_
    intro cb201 hcb201
    refine he_iadd (n := 203) (by decide +kernel) (by omega) (by omega) ?_
    intro vb202 hvb202
    refine he_iload (n := 205) (i := 4) (by decide +kernel) rfl ?_
    refine he_ifeq_t (n := 208) (t := 215) (by decide +kernel) (by omega) ?_
    refine he_iconst (n := 216) (c := 0) (by decide +kernel) (by decide) ?_
    intro cb215 hcb215
    refine hb_sta (n := 217) (kind := 64) hmb3 (by decide +kernel) rfl rfl (.inl rfl) (by omega) (show _ < (36 : Int) by omega) ?_
    generalize hMb4 : hb_set Mb3 251 (vb202.toInt.toNat) cb215 = Mb4
    have hmb4 : mz_sh mz_GG Mb4 := by rw [← hMb4]; exact hb_set_sh hmb3 rfl hb_at1 (by omega) (by omega)
    have eMb4 : ∀ b j, b ≠ 251 ∨ j ≠ vb202.toInt.toNat → hv Mb4 b j = hv Mb3 b j := by intro b j h; rw [← hMb4]; exact hb_set_n h
    have sMb4 : hv Mb4 251 (vb202.toInt.toNat) = cb215.toInt := by rw [← hMb4]; exact hb_set_v hmb3 rfl (show _ < 36 by omega)
    have wMb4 : ∀ b, b ≠ 251 → Mb4 b = Mb3 b := by intro b h; rw [← hMb4]; exact hb_set_c h
    have ub : ∀ b j, b ≠ 251 → hv Mb4 b j = hv M3 b j := fun b j n1 => by rw [eMb4 _ _ (.inl n1), eMb3 _ _ (.inl n1), eMb2 _ _ (.inl n1), eMb1 _ _ (.inl n1)]
    refine ym_e217 (Mb := Mb4) (D := D) (B := B) (n := n) hmb4 (by rw [ub _ _ (by decide), s3 _ (by decide) (by decide) (by decide) (by decide)]; exact hD) hD1 (by rw [ub _ _ (by decide), s3 _ (by decide) (by decide) (by decide) (by decide)]; exact hB) (by rw [ub _ _ (by decide), s3 _ (by decide) (by decide) (by decide) (by decide)]; exact hn) hn5 h1 (by omega) (by omega) (by omega) ?_
    intro M' r' hr' hm' w' s' t15 t17 t19 t50 t51 t514 t515
    refine K M' r' 0 0 hr' hm' (fun b n1 n2 => ?_) (fun j n1 n2 n3 n4 n5 n6 n7 => ?_) t15 t17 t19 (fun t => ?_) (fun j hj => ?_) ?_ ?_ ?_ ?_ t514 t515 ?_ ?_
    · rw [w' b n1 (by omega) (by omega), wMb4 b (by omega), wMb3 b (by omega), wMb2 b (by omega), wMb1 b (by omega), hU.2.1 b n1 (by omega), wM2 b (by omega), wM1 b n1]
    · rw [s' j n1 n2 n3, ub _ _ (by decide), s3 j n4 n5 n6 n7]
    · rw [t50 t, ub _ _ (by decide), ub _ _ (by decide), u3 _ _ (by decide) (by omega), u3 _ _ (by decide) (by omega)]
    · rw [t51 j (by omega) (by omega), eMb4 _ _ (.inr (by omega)), eMb3 _ _ (.inr (by omega)), eMb2 _ _ (.inr (by omega)), eMb1 _ _ (.inr (by omega)), u3 _ _ (by decide) (by omega)]
    · rw [t51 _ (by omega) (by omega), eMb4 _ _ (.inr (by omega)), eMb3 _ _ (.inr (by omega)), eMb2 _ _ (.inr (by omega)), show 6 * n = vb152.toInt.toNat by omega, sMb1]
    · rw [t51 _ (by omega) (by omega), eMb4 _ _ (.inr (by omega)), eMb3 _ _ (.inr (by omega)), show 6 * n + 1 = vb170.toInt.toNat by omega, sMb2]
    · rw [t51 _ (by omega) (by omega), eMb4 _ _ (.inr (by omega)), show 6 * n + 2 = vb180.toInt.toNat by omega, sMb3]; omega
    · rw [t51 _ (by omega) (by omega), show 6 * n + 3 = vb202.toInt.toNat by omega, sMb4]; omega
    · intro o'' e; rw [hxo] at e; cases e
    · exact fun _ => ⟨rfl, rfl⟩
