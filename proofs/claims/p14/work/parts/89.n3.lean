/-! finish of the model. -/
theorem hu_out {X : (Nat → mq_C) → Prop} (hq : mz_Ct mz_GG mq_PP X mz_q38 1) {d z u : Nat} {M : Nat → mq_C} {Q : (Option Value ⊕ Nat) → mq_S → Prop} {x0 : Int32} {x1 : Int32} (hd : 1 ≤ d) (hz : 272 ≤ z) (hm : mz_sh mz_GG M) (hx : X M)
    (w0 : ∀ (M' : Nat → mq_C) (r : Int32), mz_sh mz_GG M' → X M' → mz_fr mz_q38 M M' → (∀ a, a < 8 → M' a = M a) → hb_same mz_GG mz_q38 M M' → r.toInt = 0 → 0 ≤ x0.toInt → 0 ≤ (-1) - x0.toInt + x1.toInt → Q (.inl (some (.int r))) (M', z, u))
    (w1 : ∀ (M' : Nat → mq_C) (r : Int32), mz_sh mz_GG M' → X M' → mz_fr mz_q38 M M' → (∀ a, a < 8 → M' a = M a) → hb_same mz_GG mz_q38 M M' → r.toInt = 1 → 0 ≤ (-1) - x0.toInt → Q (.inl (some (.int r))) (M', z, u))
    (w2 : ∀ (M' : Nat → mq_C) (r : Int32), mz_sh mz_GG M' → X M' → mz_fr mz_q38 M M' → (∀ a, a < 8 → M' a = M a) → hb_same mz_GG mz_q38 M M' → r.toInt = 1 → 0 ≤ x0.toInt - x1.toInt → Q (.inl (some (.int r))) (M', z, u)) : mq_R mq_PP d 107 0 [some (.int x0), some (.int x1)] [] (M, z, u) Q := by
  refine hb_use mz_GG mq_PP X (q := mz_q38) (vs := [.int x0, .int x1]) hq (by decide +kernel) hd (show hb_pk mz_GG [(0, 0), (0, 0)] _ from ⟨trivial, trivial, trivial⟩) hm hx hz ?_ ?_
  · exact hb_nil
  · intro r S hpo
    obtain ⟨b1, b2, b3, b4, b5, p, hp, res, hf, hre⟩ := hpo
    rcases List.mem_cons.mp hp with rfl | hp
    · obtain ⟨x, rfl, hr, hz1, hu1⟩ := mz_re_0 mz_GG hre rfl
      obtain ⟨M', z', u'⟩ := S
      cases hz1
      cases hu1
      obtain ⟨f0, hf⟩ := hb_unc hf
      have f0 : 0 ≤ 0 + (1 * res + 0) := f0
      rw [← hr] at f0
      obtain ⟨f1, hf⟩ := hb_unc hf
      have f1 : 0 ≤ 0 + ((-1) * res + 0) := f1
      rw [← hr] at f1
      obtain ⟨f2, hf⟩ := hb_unc hf
      have f2 : 0 ≤ 0 + (1 * x0.toInt + 0) := f2
      obtain ⟨f3, hf⟩ := hb_unc hf
      have f3 : 0 ≤ -1 + ((-1) * x0.toInt + (1 * x1.toInt + 0)) := f3
      exact w0 M' x b1 b2 b3 b4 b5 (by have h1 := f0; have h2 := f1; omega) (by have h1 := f2; omega) (by have h1 := f3; omega)
    rcases List.mem_cons.mp hp with rfl | hp
    · obtain ⟨x, rfl, hr, hz1, hu1⟩ := mz_re_0 mz_GG hre rfl
      obtain ⟨M', z', u'⟩ := S
      cases hz1
      cases hu1
      obtain ⟨f0, hf⟩ := hb_unc hf
      have f0 : 0 ≤ -1 + (1 * res + 0) := f0
      rw [← hr] at f0
      obtain ⟨f1, hf⟩ := hb_unc hf
      have f1 : 0 ≤ 1 + ((-1) * res + 0) := f1
      rw [← hr] at f1
      obtain ⟨f2, hf⟩ := hb_unc hf
      have f2 : 0 ≤ -1 + ((-1) * x0.toInt + 0) := f2
      exact w1 M' x b1 b2 b3 b4 b5 (by have h1 := f0; have h2 := f1; omega) (by have h1 := f2; omega)
    rcases List.mem_cons.mp hp with rfl | hp
    · obtain ⟨x, rfl, hr, hz1, hu1⟩ := mz_re_0 mz_GG hre rfl
      obtain ⟨M', z', u'⟩ := S
      cases hz1
      cases hu1
      obtain ⟨f0, hf⟩ := hb_unc hf
      have f0 : 0 ≤ -1 + (1 * res + 0) := f0
      rw [← hr] at f0
      obtain ⟨f1, hf⟩ := hb_unc hf
      have f1 : 0 ≤ 1 + ((-1) * res + 0) := f1
      rw [← hr] at f1
      obtain ⟨f2, hf⟩ := hb_unc hf
      have f2 : 0 ≤ 0 + (1 * x0.toInt + ((-1) * x1.toInt + 0)) := f2
      exact w2 M' x b1 b2 b3 b4 b5 (by have h1 := f0; have h2 := f1; omega) (by have h1 := f2; omega)
    cases hp
theorem hn_and8 {y v c : Int32} (hc : c.toInt = 255) (hv : v = y &&& c) : 0 ≤ v.toInt ∧ v.toInt ≤ 255 := by
  obtain rfl : c = 255 := by rw [he_eqi]; exact hc
  have e3 : v.toBitVec.toNat = y.toBitVec.toNat % 256 := by
    rw [hv]
    show (y.toBitVec &&& (255 : Int32).toBitVec).toNat = _
    rw [BitVec.toNat_and]
    exact Nat.and_two_pow_sub_one_eq_mod _ 8
  rw [hn_it (x := v) (by omega)]
  omega
def hn_F (s : Nat) (sz : Int) (M Mc : Nat → mq_C) : Prop := mz_sh mz_GG Mc ∧ (∀ a, a ≠ 235 → a ≠ 236 → Mc a = M a) ∧ hv Mc 236 s = sz ∧ ∀ i, i ≠ s → hv Mc 236 i = hv M 236 i
theorem hn_add {d z u s : Nat} {Q : (Option Value ⊕ Nat) → mq_S → Prop} {M Mc : Nat → mq_C} {x1 x2 : Int32} {sz : Int} (h : hn_F s sz M Mc) (hs : s < 4) (p1 : x1.toInt = (s : Int)) (h0 : 0 ≤ sz) (h1 : sz ≤ 239) (K : ∀ M' : Nat → mq_C, hn_F s (sz + 1) M M' → Q (.inl none) (M', z, u)) : mq_R mq_PP d 125 0 [some (.ref 234), some (.int x1), some (.int x2)] [] (Mc, z, u) Q := by
  obtain ⟨hm, h2, h3, h4⟩ := h
  refine he_aload (n := 1) (i := 0) (by decide +kernel) rfl ?_
  refine he_getr (n := 4) (ci := 9) (j := 1) (ns := [4178, 7]) (b := 235) hm (by decide +kernel) rfl rfl (by decide +kernel) ?_
  refine he_iconst (n := 7) (c := 240) (by decide +kernel) (by decide) ?_
  intro c4 hc4
  refine he_iload (n := 8) (i := 1) (by decide +kernel) rfl ?_
  refine he_imul (n := 9) (p := 240 * x1.toInt) (by decide +kernel) (by rw [hc4]) (by omega) (by omega) ?_
  intro v8 hv8
  refine he_aload (n := 10) (i := 0) (by decide +kernel) rfl ?_
  refine he_getr (n := 13) (ci := 9) (j := 2) (ns := [4179, 13]) (b := 236) hm (by decide +kernel) rfl rfl (by decide +kernel) ?_
  refine he_iload (n := 14) (i := 1) (by decide +kernel) rfl ?_
  refine hb_ld (n := 15) (kind := 64) hm (by decide +kernel) rfl rfl (.inl rfl) (by omega) (show _ < (4 : Int) by omega) hb_at1 ?_
  intro v14 hv14 lv14 uv14
  have q14 : v14.toInt = sz := by rw [← hv14, show x1.toInt.toNat = s by omega]; exact h3
  refine he_iadd (n := 16) (by decide +kernel) (by omega) (by omega) ?_
  intro v15 hv15
  refine he_iload (n := 17) (i := 2) (by decide +kernel) rfl ?_
  refine he_iconst (n := 20) (c := 255) (by decide +kernel) (by decide) ?_
  intro c17 hc17
  refine he_ex2 (o := 12) (n := 21) (by decide +kernel) rfl ?_
  intro v20 hv20
  have ev20 : v20 = x2 &&& c17 := hv20
  have bv20 := mz_i32 v20
  have q20 := hn_and8 hc17 ev20
  refine hb_sta (n := 22) (kind := 64) hm (by decide +kernel) rfl rfl (.inl rfl) (by omega) (show _ < (960 : Int) by omega) ?_
  generalize hM1 : hb_set Mc 235 (v15.toInt.toNat) v20 = M1
  have hm1 : mz_sh mz_GG M1 := by rw [← hM1]; exact hb_set_sh hm rfl hb_at1 (by omega) (by omega)
  have eM1 : ∀ b j, b ≠ 235 ∨ j ≠ v15.toInt.toNat → hv M1 b j = hv Mc b j := by intro b j h; rw [← hM1]; exact hb_set_n h
  have sM1 : hv M1 235 (v15.toInt.toNat) = v20.toInt := by rw [← hM1]; exact hb_set_v hm rfl (show _ < 960 by omega)
  have wM1 : ∀ b, b ≠ 235 → M1 b = Mc b := by intro b h; rw [← hM1]; exact hb_set_c h
  refine he_aload (n := 23) (i := 0) (by decide +kernel) rfl ?_
  refine he_getr (n := 26) (ci := 9) (j := 2) (ns := [4179, 13]) (b := 236) hm1 (by decide +kernel) rfl rfl (by decide +kernel) ?_
  refine he_iload (n := 27) (i := 1) (by decide +kernel) rfl ?_
  refine he_dup2 (n := 28) (by decide +kernel) ?_
  refine hb_ld (n := 29) (kind := 64) hm1 (by decide +kernel) rfl rfl (.inl rfl) (by omega) (show _ < (4 : Int) by omega) hb_at1 ?_
  intro v28 hv28 lv28 uv28
  have q28 : v28.toInt = sz := by rw [← hv28, eM1 _ _ (.inl (by decide)), show x1.toInt.toNat = s by omega]; exact h3
  refine he_iconst (n := 30) (c := 1) (by decide +kernel) (by decide) ?_
  intro c29 hc29
  refine he_iadd (n := 31) (by decide +kernel) (by omega) (by omega) ?_
  intro v30 hv30
  refine hb_sta (n := 32) (kind := 64) hm1 (by decide +kernel) rfl rfl (.inl rfl) (by omega) (show _ < (4 : Int) by omega) ?_
  generalize hM2 : hb_set M1 236 (x1.toInt.toNat) v30 = M2
  have hm2 : mz_sh mz_GG M2 := by rw [← hM2]; exact hb_set_sh hm1 rfl hb_at1 (by omega) (by omega)
  have eM2 : ∀ b j, b ≠ 236 ∨ j ≠ x1.toInt.toNat → hv M2 b j = hv M1 b j := by intro b j h; rw [← hM2]; exact hb_set_n h
  have sM2 : hv M2 236 (x1.toInt.toNat) = v30.toInt := by rw [← hM2]; exact hb_set_v hm1 rfl (show _ < 4 by omega)
  have wM2 : ∀ b, b ≠ 236 → M2 b = M1 b := by intro b h; rw [← hM2]; exact hb_set_c h
  refine he_ret (by decide +kernel) ?_
  refine K M2 ⟨hm2, fun a a1 a2 => by rw [wM2 a a2, wM1 a a1, h2 a a1 a2], ?_, fun i hi => by rw [eM2 _ _ (.inr (by omega)), eM1 _ _ (.inl (by decide)), h4 i hi]⟩
  rw [show s = x1.toInt.toNat by omega, sM2]
  omega
theorem hn_add2 {d z u s : Nat} {Q : (Option Value ⊕ Nat) → mq_S → Prop} {M Mc : Nat → mq_C} {x1 x2 : Int32} {sz : Int} (h : hn_F s sz M Mc) (hs : s < 4) (p1 : x1.toInt = (s : Int)) (h0 : 0 ≤ sz) (h1 : sz ≤ 238) (K : ∀ M' : Nat → mq_C, hn_F s (sz + 1 + 1) M M' → Q (.inl none) (M', z, u)) : mq_R mq_PP (d + 1) 126 0 [some (.ref 234), some (.int x1), some (.int x2)] [] (Mc, z, u) Q := by
  refine he_aload (n := 1) (i := 0) (by decide +kernel) rfl ?_
  refine he_iload (n := 2) (i := 1) (by decide +kernel) rfl ?_
  refine he_iload (n := 3) (i := 2) (by decide +kernel) rfl ?_
  refine he_v2 (n := 6) (j := 125) (ci := 9) (mx := 3) (ns := [5210, 5212, 65, 206]) (by decide +kernel) ((hb_kd (a := 234) h.1 rfl).trans rfl) (by decide) (by show 3 ≤ 3; omega) ?_
  rw [mq_e125]
  refine hn_add h hs p1 (by omega) (by omega) ?_
  intro Ma ha
  show mq_R mq_PP (d + 1) 126 6 _ [] (Ma, z, u) Q
  refine he_aload (n := 7) (i := 0) (by decide +kernel) rfl ?_
  refine he_iload (n := 8) (i := 1) (by decide +kernel) rfl ?_
  refine he_iload (n := 9) (i := 2) (by decide +kernel) rfl ?_
  refine he_iconst (n := 11) (c := 8) (by decide +kernel) (by decide) ?_
  intro c9 hc9
  refine he_any2 (o := 16) (n := 12) (by decide +kernel) rfl ?_
  intro v11
  have bv11 := mz_i32 v11
  refine he_v2 (n := 15) (j := 125) (ci := 9) (mx := 3) (ns := [5210, 5212, 65, 206]) (by decide +kernel) ((hb_kd (a := 234) ha.1 rfl).trans rfl) (by decide) (by show 3 ≤ 3; omega) ?_
  rw [mq_e125]
  refine hn_add ha hs p1 (by omega) (by omega) ?_
  intro Mb hb
  show mq_R mq_PP (d + 1) 126 15 _ [] (Mb, z, u) Q
  refine he_ret (by decide +kernel) ?_
  exact K Mb hb
theorem hn_f218 {d z u s : Nat} {Q : (Option Value ⊕ Nat) → mq_S → Prop} {M : Nat → mq_C} {x1 : Int32} (hs : s < 4) (p1 : x1.toInt = (s : Int)) (r19 : 0 ≤ hv M 234 19) (r19' : hv M 234 19 ≤ 6) (r17 : 0 ≤ hv M 234 17) (tot : hv M 234 17 + hb_sum (hn_g M) 6 + 4 ≤ 240)
    (K : ∀ Mc : Nat → mq_C, hn_F s (hv M 234 17 + hb_sum (hn_g M) 6 + 4) M Mc → ∀ (l2 : Int32) (o3 o4 : Option Value), mq_R mq_PP (d + 2) 127 243 [some (.ref 234), some (.int x1), some (.int l2), o3, o4] [] (Mc, z, u) Q) {Mc : Nat → mq_C} (h : hn_F s (hv M 234 17 + hb_sum (hn_g M) 6) M Mc) (l2 : Int32) (o3 o4 : Option Value) : mq_R mq_PP (d + 2) 127 218 [some (.ref 234), some (.int x1), some (.int l2), o3, o4] [] (Mc, z, u) Q := by
  have hs0 := hn_g0 (M := M) 6
  refine he_aload (n := 219) (i := 0) (by decide +kernel) rfl ?_
  refine he_iload (n := 220) (i := 1) (by decide +kernel) rfl ?_
  refine he_iconst (n := 222) (c := 80) (by decide +kernel) (by decide) ?_
  intro c220 hc220
  refine he_v2 (n := 225) (j := 125) (ci := 9) (mx := 3) (ns := [5210, 5212, 65, 206]) (by decide +kernel) ((hb_kd (a := 234) h.1 rfl).trans rfl) (by decide) (by show 3 ≤ 3; omega) ?_
  rw [mq_e125]
  refine hn_add h hs p1 (by omega) (by omega) ?_
  intro Ma ha
  show mq_R mq_PP (d + 2) 127 225 _ [] (Ma, z, u) Q
  refine he_aload (n := 226) (i := 0) (by decide +kernel) rfl ?_
  refine he_iload (n := 227) (i := 1) (by decide +kernel) rfl ?_
  refine he_aload (n := 228) (i := 0) (by decide +kernel) rfl ?_
  refine hb_gfd (n := 231) (ci := 9) (j := 19) (ns := [4196, 197]) ha.1 (by decide +kernel) rfl rfl (by decide) rfl ?_
  intro v228 hv228 lv228 uv228
  refine he_v2 (n := 234) (j := 125) (ci := 9) (mx := 3) (ns := [5210, 5212, 65, 206]) (by decide +kernel) ((hb_kd (a := 234) ha.1 rfl).trans rfl) (by decide) (by show 3 ≤ 3; omega) ?_
  rw [mq_e125]
  refine hn_add ha hs p1 (by omega) (by omega) ?_
  intro Mb hb
  show mq_R mq_PP (d + 2) 127 234 _ [] (Mb, z, u) Q
  refine he_aload (n := 235) (i := 0) (by decide +kernel) rfl ?_
  refine he_iload (n := 236) (i := 1) (by decide +kernel) rfl ?_
  refine he_aload (n := 237) (i := 0) (by decide +kernel) rfl ?_
  refine hb_gfd (n := 240) (ci := 9) (j := 17) (ns := [4194, 191]) hb.1 (by decide +kernel) rfl rfl (by decide) rfl ?_
  intro v237 hv237 lv237 uv237
  refine he_v2 (n := 243) (j := 126) (ci := 9) (mx := 3) (ns := [5214, 5216, 66, 214]) (by decide +kernel) ((hb_kd (a := 234) hb.1 rfl).trans rfl) (by decide) (by show 3 ≤ 3; omega) ?_
  rw [mq_e126]
  refine hn_add2 hb hs p1 (by omega) (by omega) ?_
  intro Me he
  show mq_R mq_PP (d + 2) 127 243 _ [] (Me, z, u) Q
  refine K Me ?_ l2 o3 o4
  rw [show hv M 234 17 + hb_sum (hn_g M) 6 + 4 = hv M 234 17 + hb_sum (hn_g M) 6 + 1 + 1 + 1 + 1 by omega]
  exact he
theorem hn_f102 {d z u s : Nat} {Q : (Option Value ⊕ Nat) → mq_S → Prop} {M : Nat → mq_C} {x1 : Int32} (hs : s < 4) (p1 : x1.toInt = (s : Int)) (r19 : 0 ≤ hv M 234 19) (r19' : hv M 234 19 ≤ 6) (r17 : 0 ≤ hv M 234 17) (tot : hv M 234 17 + hb_sum (hn_g M) 6 + 4 ≤ 240) {l2 l3 : Int32} {sz : Int} (h0 : 0 ≤ sz) (h1 : sz + l3.toInt ≤ 240) (i0 : 0 ≤ l2.toInt) (i1 : l2.toInt ≤ 30) (hl3 : l3.toInt ≤ 4)
    (K : ∀ (Mc : Nat → mq_C) (l4 : Int32), hn_F s (sz + l3.toInt) M Mc → mq_R mq_PP (d + 2) 127 131 [some (.ref 234), some (.int x1), some (.int l2), some (.int l3), some (.int l4)] [] (Mc, z, u) Q) : ∀ (m : Nat) (Mc : Nat → mq_C) (l4 : Int32), l4.toInt + (m : Int) = l3.toInt → 0 ≤ l4.toInt → hn_F s (sz + l4.toInt) M Mc → mq_R mq_PP (d + 2) 127 102 [some (.ref 234), some (.int x1), some (.int l2), some (.int l3), some (.int l4)] [] (Mc, z, u) Q := by
  intro m
  induction m with
  | zero =>
    intro Mc l4 e1 e2 h
    refine he_iload (n := 104) (i := 4) (by decide +kernel) rfl ?_
    refine he_iload (n := 105) (i := 3) (by decide +kernel) rfl ?_
    refine he_cmpge_t (n := 108) (t := 131) (by decide +kernel) (by omega) ?_
    rw [show sz + l4.toInt = sz + l3.toInt by omega] at h
    exact K Mc l4 h
  | succ m ih =>
    intro Mc l4 e1 e2 h
    refine he_iload (n := 104) (i := 4) (by decide +kernel) rfl ?_
    refine he_iload (n := 105) (i := 3) (by decide +kernel) rfl ?_
    refine he_cmpge_f (n := 108) (t := 131) (by decide +kernel) (by omega) ?_
    refine he_aload (n := 109) (i := 0) (by decide +kernel) rfl ?_
    refine he_iload (n := 110) (i := 1) (by decide +kernel) rfl ?_
    refine he_aload (n := 111) (i := 0) (by decide +kernel) rfl ?_
    refine he_getr (n := 114) (ci := 9) (j := 20) (ns := [4197, 59]) (b := 251) h.1 (by decide +kernel) rfl rfl (by decide +kernel) ?_
    refine he_iload (n := 115) (i := 2) (by decide +kernel) rfl ?_
    refine hb_ld (n := 116) (kind := 64) h.1 (by decide +kernel) rfl rfl (.inl rfl) (by omega) (show _ < (36 : Int) by omega) hb_at1 ?_
    intro v115 hv115 lv115 uv115
    refine he_iconst (n := 118) (c := 8) (by decide +kernel) (by decide) ?_
    intro c116 hc116
    refine he_iload (n := 120) (i := 4) (by decide +kernel) rfl ?_
    refine he_imul (n := 121) (p := 8 * l4.toInt) (by decide +kernel) (by rw [hc116]) (by omega) (by omega) ?_
    intro v120 hv120
    refine he_any2 (o := 16) (n := 122) (by decide +kernel) rfl ?_
    intro v121
    have bv121 := mz_i32 v121
    refine he_v2 (n := 125) (j := 125) (ci := 9) (mx := 3) (ns := [5210, 5212, 65, 206]) (by decide +kernel) ((hb_kd (a := 234) h.1 rfl).trans rfl) (by decide) (by show 3 ≤ 3; omega) ?_
    rw [mq_e125]
    refine hn_add h hs p1 (by omega) (by omega) ?_
    intro Ma ha
    show mq_R mq_PP (d + 2) 127 125 _ [] (Ma, z, u) Q
    refine he_iinc (n := 128) (i := 4) (c := 1) (L' := fun v => [some (.ref (234)), some (.int x1), some (.int l2), some (.int l3), some (.int v)]) (by decide +kernel) (by decide) rfl (fun _ => rfl) (by omega) (by omega) ?_
    intro i125 hi125
    refine he_goto (t := 102) (by decide +kernel) ?_
    refine ih Ma i125 (by omega) (by omega) ?_
    rw [show sz + i125.toInt = sz + l4.toInt + 1 by omega]
    exact ha
