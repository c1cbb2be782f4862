/-! The model's fixed, exactly. -/
set_option maxRecDepth 100000 in
theorem yf_L : xf xfL 288 = 32768 := by decide +kernel
theorem yf_D : xf xfD 32 = 32768 := by decide +kernel
/-- what arranging code 1 leaves of code 0 -/
theorem yT_0 {M M' : Nat → mq_C} {n : Nat} {fl : Nat → Int} (hn : n ≤ 320) (h : yT M 0 n fl) (h5 : ∀ i, i < 16 * 1 ∨ 16 * 1 + 16 ≤ i → hv M' 255 i = hv M 255 i) (h6 : ∀ i, i < 320 * 1 ∨ 320 * 1 + 320 ≤ i → hv M' 256 i = hv M 256 i) : yT M' 0 n fl := by
  refine ⟨fun b h1 h2 => ?_, fun i h1 h2 => ?_⟩
  · rw [h5 _ (by omega)]
    exact h.1 b h1 h2
  · have hp := xp_b (f := fl) (n := n) h1 h2
    have hq := xq_le (f := fl) (b := (fl i).toNat + 1) n
    have hq0 := xq_0 (f := fl) (n := n) (b := (fl i).toNat)
    rw [h6 _ (by omega)]
    exact h.2 i h1 h2
theorem ym_fx1 {d z u : Nat} {Mb : Nat → mq_C} {Q : (Option Value ⊕ Nat) → mq_S → Prop} (G : ∀ (M : Nat → mq_C) (k : Int32), mz_sh mz_GG M → (∀ b, b ≠ 254 → M b = Mb b) → (∀ t, t < 288 → hv M 254 t = xfL t) → k.toInt = 288 → mq_R mq_PP d 114 63 [some (.ref 234), some (.int k)] [] (M, z, u) Q) : ∀ (m j : Nat) (M : Nat → mq_C) (k : Int32), j + m = 288 → k.toInt = (j : Int) → mz_sh mz_GG M → (∀ b, b ≠ 254 → M b = Mb b) → (∀ t, t < j → hv M 254 t = xfL t) → mq_R mq_PP d 114 2 [some (.ref 234), some (.int k)] [] (M, z, u) Q := by
  intro m
  induction m with
  | zero =>
    intro j M k e1 e2 hm hF hZ
    refine he_iload (n := 3) (i := 1) (by decide +kernel) rfl ?_
    refine he_iconst (n := 6) (c := 288) (by decide +kernel) (by decide) ?_
    intro c3 hc3
    refine he_cmpge_t (n := 9) (t := 59) (by decide +kernel) (by omega) ?_
    refine he_iconst (n := 62) (c := 288) (by decide +kernel) (by decide) ?_
    intro c59 hc59
    refine he_istore (n := 63) (i := 1) (by decide +kernel) rfl ?_
    exact G M _ hm hF (fun t ht => hZ t (by omega)) (by omega)
  | succ m ih =>
    intro j M k e1 e2 hm hF hZ
    have r52 : ∀ v : Int32, v.toInt = xfL j → 0 ≤ v.toInt → v.toInt ≤ 15 → mq_R mq_PP d 114 52 [some (.ref 234), some (.int k)] [.int v, .int k, .ref 254] (M, z, u) Q := by
      intro v hv' v0 v1
      refine hb_sta (n := 53) (kind := 64) hm (by decide +kernel) rfl rfl (.inl rfl) (by omega) (show _ < (320 : Int) by omega) ?_
      generalize hM1 : hb_set M 254 (k.toInt.toNat) v = M1
      have hm1 : mz_sh mz_GG M1 := by rw [← hM1]; exact hb_set_sh hm rfl hb_at1 (by omega) (by omega)
      have eM1 : ∀ b j, b ≠ 254 ∨ j ≠ k.toInt.toNat → hv M1 b j = hv M b j := by intro b j h; rw [← hM1]; exact hb_set_n h
      have sM1 : hv M1 254 (k.toInt.toNat) = v.toInt := by rw [← hM1]; exact hb_set_v hm rfl (show _ < 320 by omega)
      have wM1 : ∀ b, b ≠ 254 → M1 b = M b := by intro b h; rw [← hM1]; exact hb_set_c h
      refine he_iinc (n := 56) (i := 1) (c := 1) (L' := fun v => [some (.ref (234)), some (.int v)]) (by decide +kernel) (by decide) rfl (fun _ => rfl) (by omega) (by omega) ?_
      intro i53 hi53
      refine he_goto (t := 2) (by decide +kernel) ?_
      refine ih (j + 1) M1 _ (by omega) (by omega) hm1 (fun b hb => (wM1 b hb).trans (hF b hb)) (fun t ht => ?_)
      by_cases htj : t = j
      · rw [htj, ← hv', show j = k.toInt.toNat by omega]
        exact sM1
      · rw [eM1 _ _ (.inr (by omega))]
        exact hZ t (by omega)
    unfold xfL at r52
    refine he_iload (n := 3) (i := 1) (by decide +kernel) rfl ?_
    refine he_iconst (n := 6) (c := 288) (by decide +kernel) (by decide) ?_
    intro c3 hc3
    refine he_cmpge_f (n := 9) (t := 59) (by decide +kernel) (by omega) ?_
    refine he_aload (n := 10) (i := 0) (by decide +kernel) rfl ?_
    refine he_getr (n := 13) (ci := 9) (j := 27) (ns := [4204, 68]) (b := 254) hm (by decide +kernel) rfl rfl (by decide +kernel) ?_
    refine he_iload (n := 14) (i := 1) (by decide +kernel) rfl ?_
    refine he_iload (n := 15) (i := 1) (by decide +kernel) rfl ?_
    refine he_iconst (n := 18) (c := 144) (by decide +kernel) (by decide) ?_
    intro c15 hc15
    by_cases h18 : j < 144
    · skip
      refine he_cmpge_f (n := 21) (t := 26) (by decide +kernel) (by omega) ?_
      refine he_iconst (n := 23) (c := 8) (by decide +kernel) (by decide) ?_
      intro c21 hc21
      refine he_goto (t := 52) (by decide +kernel) ?_
      exact r52 _ (by rw [if_pos h18]; omega) (by omega) (by omega)
    · skip
      refine he_cmpge_t (n := 21) (t := 26) (by decide +kernel) (by omega) ?_
      refine he_iload (n := 27) (i := 1) (by decide +kernel) rfl ?_
      refine he_iconst (n := 30) (c := 256) (by decide +kernel) (by decide) ?_
      intro c27 hc27
      by_cases h30 : j < 256
      · skip
        refine he_cmpge_f (n := 33) (t := 38) (by decide +kernel) (by omega) ?_
        refine he_iconst (n := 35) (c := 9) (by decide +kernel) (by decide) ?_
        intro c33 hc33
        refine he_goto (t := 52) (by decide +kernel) ?_
        exact r52 _ (by rw [if_neg h18, if_pos h30]; omega) (by omega) (by omega)
      · skip
        refine he_cmpge_t (n := 33) (t := 38) (by decide +kernel) (by omega) ?_
        refine he_iload (n := 39) (i := 1) (by decide +kernel) rfl ?_
        refine he_iconst (n := 42) (c := 280) (by decide +kernel) (by decide) ?_
        intro c39 hc39
        by_cases h42 : j < 280
        · skip
          refine he_cmpge_f (n := 45) (t := 50) (by decide +kernel) (by omega) ?_
          refine he_iconst (n := 47) (c := 7) (by decide +kernel) (by decide) ?_
          intro c45 hc45
          refine he_goto (t := 52) (by decide +kernel) ?_
          exact r52 _ (by rw [if_neg h18, if_neg h30, if_pos h42]; omega) (by omega) (by omega)
        · skip
          refine he_cmpge_t (n := 45) (t := 50) (by decide +kernel) (by omega) ?_
          refine he_iconst (n := 52) (c := 8) (by decide +kernel) (by decide) ?_
          intro c50 hc50
          exact r52 _ (by rw [if_neg h18, if_neg h30, if_neg h42]; omega) (by omega) (by omega)
theorem ym_fx2 {d z u : Nat} {Mb : Nat → mq_C} {Q : (Option Value ⊕ Nat) → mq_S → Prop} (G : ∀ (M : Nat → mq_C) (k : Int32), mz_sh mz_GG M → (∀ b, b ≠ 254 → M b = Mb b) → (∀ t, t < 288 → hv M 254 t = hv Mb 254 t) → (∀ t, 288 ≤ t → t < 320 → hv M 254 t = 5) → mq_R mq_PP d 114 83 [some (.ref 234), some (.int k)] [] (M, z, u) Q) : ∀ (m j : Nat) (M : Nat → mq_C) (k : Int32), j + m = 320 → 288 ≤ j → k.toInt = (j : Int) → mz_sh mz_GG M → (∀ b, b ≠ 254 → M b = Mb b) → (∀ t, t < 288 → hv M 254 t = hv Mb 254 t) → (∀ t, 288 ≤ t → t < j → hv M 254 t = 5) → mq_R mq_PP d 114 63 [some (.ref 234), some (.int k)] [] (M, z, u) Q := by
  intro m
  induction m with
  | zero =>
    intro j M k e1 e0 e2 hm hF hL hZ
    refine he_iload (n := 64) (i := 1) (by decide +kernel) rfl ?_
    refine he_iconst (n := 67) (c := 320) (by decide +kernel) (by decide) ?_
    intro c64 hc64
    refine he_cmpge_t (n := 70) (t := 83) (by decide +kernel) (by omega) ?_
    exact G M _ hm hF hL (fun t h1 ht => hZ t h1 (by omega))
  | succ m ih =>
    intro j M k e1 e0 e2 hm hF hL hZ
    refine he_iload (n := 64) (i := 1) (by decide +kernel) rfl ?_
    refine he_iconst (n := 67) (c := 320) (by decide +kernel) (by decide) ?_
    intro c64 hc64
    refine he_cmpge_f (n := 70) (t := 83) (by decide +kernel) (by omega) ?_
    refine he_aload (n := 71) (i := 0) (by decide +kernel) rfl ?_
    refine he_getr (n := 74) (ci := 9) (j := 27) (ns := [4204, 68]) (b := 254) hm (by decide +kernel) rfl rfl (by decide +kernel) ?_
    refine he_iload (n := 75) (i := 1) (by decide +kernel) rfl ?_
    refine he_iconst (n := 76) (c := 5) (by decide +kernel) (by decide) ?_
    intro c75 hc75
    refine hb_sta (n := 77) (kind := 64) hm (by decide +kernel) rfl rfl (.inl rfl) (by omega) (show _ < (320 : Int) by omega) ?_
    generalize hM1 : hb_set M 254 (k.toInt.toNat) c75 = M1
    have hm1 : mz_sh mz_GG M1 := by rw [← hM1]; exact hb_set_sh hm rfl hb_at1 (by omega) (by omega)
    have eM1 : ∀ b j, b ≠ 254 ∨ j ≠ k.toInt.toNat → hv M1 b j = hv M b j := by intro b j h; rw [← hM1]; exact hb_set_n h
    have sM1 : hv M1 254 (k.toInt.toNat) = c75.toInt := by rw [← hM1]; exact hb_set_v hm rfl (show _ < 320 by omega)
    have wM1 : ∀ b, b ≠ 254 → M1 b = M b := by intro b h; rw [← hM1]; exact hb_set_c h
    refine he_iinc (n := 80) (i := 1) (c := 1) (L' := fun v => [some (.ref (234)), some (.int v)]) (by decide +kernel) (by decide) rfl (fun _ => rfl) (by omega) (by omega) ?_
    intro i77 hi77
    refine he_goto (t := 63) (by decide +kernel) ?_
    refine ih (j + 1) M1 _ (by omega) (by omega) (by omega) hm1 (fun b hb => (wM1 b hb).trans (hF b hb)) (fun t ht => ?_) (fun t h1 ht => ?_)
    · rw [eM1 _ _ (.inr (by omega))]
      exact hL t ht
    · by_cases htj : t = j
      · rw [htj, show j = k.toInt.toNat by omega, sM1]
        omega
      · rw [eM1 _ _ (.inr (by omega))]
        exact hZ t h1 (by omega)
theorem ym_fixed {sh : Int} {d z u E a : Nat} {M0 M : Nat → mq_C} {o : List Int} {Q : (Option Value ⊕ Nat) → mq_S → Prop} (hV : yV E sh M0 M a o)
    (K : ∀ (M' : Nat → mq_C) (r : Int32), r.toInt = 1 → yV E sh M0 M' a o → yT M' 0 288 xfL → yT M' 1 32 xfD → (∀ b, b < 254 ∨ 257 ≤ b → M' b = M b) → Q (.inl (some (.int r))) (M', z, u)) : mq_R mq_PP (d + 1) 114 0 [some (.ref 234), none] [] (M, z, u) Q := by
  refine he_iconst (n := 1) (c := 0) (by decide +kernel) (by decide) ?_
  intro c0 hc0
  refine he_istore (n := 2) (i := 1) (by decide +kernel) rfl ?_
  refine ym_fx1 (Mb := M) (fun M1 k1 hm1 hF1 hx1 hk1 => ?_) 288 0 M _ (by decide) (by omega) hV.1.1 (fun _ _ => rfl) (fun t ht => absurd ht (Nat.not_lt_zero t))
  refine ym_fx2 (Mb := M1) (fun M2 k2 hm2 hF2 hL2 hD2 => ?_) 32 288 M1 k1 (by decide) (Nat.le_refl _) (by omega) hm1 (fun _ _ => rfl) (fun _ _ => rfl) (fun t h1 h2 => absurd h2 (by omega))
  refine he_aload (n := 84) (i := 0) (by decide +kernel) rfl ?_
  refine he_iconst (n := 85) (c := 0) (by decide +kernel) (by decide) ?_
  intro c84 hc84
  refine he_iconst (n := 86) (c := 0) (by decide +kernel) (by decide) ?_
  intro c85 hc85
  refine he_iconst (n := 89) (c := 288) (by decide +kernel) (by decide) ?_
  intro c86 hc86
  refine he_v3 (n := 92) (j := 112) (ci := 9) (mx := 8) (ns := [5174, 5176, 59, 156]) (by decide +kernel) ((hb_kd (a := 234) hm2 rfl).trans rfl) (by show 0 ≤ 8; omega) (by show 4 ≤ 8; omega) ?_
  rw [mq_e112]
  refine ym_arrange (wn := 0) (fr := 0) (n := 288) (fl := xfL) (by decide) (by omega) (by omega) (by omega) (by decide) (by decide) (fun i hi => by rw [Nat.zero_add, hL2 i hi]; exact (hx1 i hi).symm) hm2 ?_
  intro M3 r1 hm3 hF3 ha3 hb3 hT3 hg1 hg0
  show mq_R mq_PP (d + 1) 114 92 _ [.int r1] (M3, z, u) Q
  have hr1 := hg1 (ygd_0.mpr yf_L)
  refine he_istore (n := 93) (i := 1) (by decide +kernel) rfl ?_
  refine he_aload (n := 94) (i := 0) (by decide +kernel) rfl ?_
  refine he_iconst (n := 95) (c := 1) (by decide +kernel) (by decide) ?_
  intro c94 hc94
  refine he_iconst (n := 98) (c := 288) (by decide +kernel) (by decide) ?_
  intro c95 hc95
  refine he_iconst (n := 100) (c := 32) (by decide +kernel) (by decide) ?_
  intro c98 hc98
  refine he_v3 (n := 103) (j := 112) (ci := 9) (mx := 8) (ns := [5174, 5176, 59, 156]) (by decide +kernel) ((hb_kd (a := 234) hm3 rfl).trans rfl) (by show 0 ≤ 8; omega) (by show 4 ≤ 8; omega) ?_
  rw [mq_e112]
  refine ym_arrange (wn := 1) (fr := 288) (n := 32) (fl := xfD) (by decide) (by omega) (by omega) (by omega) (by decide) (by decide) (fun i hi => by rw [hb_vc (hF3 254 (by decide) (by decide)), hD2 (288 + i) (by omega) (by omega)]; rfl) hm3 ?_
  intro M4 r2 hm4 hF4 ha4 hb4 hT4 hi1 hi0
  show mq_R mq_PP (d + 1) 114 103 _ [.int r2] (M4, z, u) Q
  have hr2 := hi1 (ygd_1.mpr (.inl yf_D))
  refine he_ifeq_f (n := 106) (t := 114) (by decide +kernel) (by omega) ?_
  refine he_iload (n := 107) (i := 1) (by decide +kernel) rfl ?_
  refine he_ifeq_f (n := 110) (t := 114) (by decide +kernel) (by omega) ?_
  refine he_iconst (n := 111) (c := 1) (by decide +kernel) (by decide) ?_
  intro c110 hc110
  refine he_goto (t := 115) (by decide +kernel) ?_
  refine he_retz (by decide +kernel) (by omega) ?_
  have hFF : ∀ b, b < 254 ∨ 257 ≤ b → M4 b = M b := fun b hb => by rw [hF4 b (by omega) (by omega), hF3 b (by omega) (by omega), hF2 b (by omega), hF1 b (by omega)]
  exact K M4 _ (by omega) (yV_fr hV hm4 (hFF 234 (by decide)) (hFF 253 (by decide)) (fun b _ hb => hFF b (by omega))) (yT_0 (by decide) hT3 ha4 hb4) hT4 hFF
theorem ym_dynamic {d z u E a : Nat} {M0 M : Nat → mq_C} {o : List Int} {Q : (Option Value ⊕ Nat) → mq_S → Prop} (hE : E ≤ 1920) (hV : yV E 0 M0 M a o)
    (K1 : ∀ (M' : Nat → mq_C) (r : Int32) (a' : Nat) (l : List Int) (nl nd : Nat), xcd E (xB M0 252) a = some (a', l, nl, nd) → nl ≤ 286 → nd ≤ 30 → r.toInt = 1 → yV E 0 M0 M' a' o → yT M' 0 nl (fun i => l.getD i 0) → yT M' 1 nd (fun i => l.getD (nl + i) 0) → (∀ b, b ≠ 234 → b < 254 ∨ 257 ≤ b → M' b = M b) → Q (.inl (some (.int r))) (M', z, u))
    (K2 : ∀ (M' : Nat → mq_C) (r : Int32) (sh' : Int) (a' : Nat), xcd E (xB M0 252) a = none → (sh' = 0 ∨ sh' = 1) → yV E sh' M0 M' a' o → r.toInt = 0 → (∀ b, b ≠ 234 → b < 254 ∨ 257 ≤ b → M' b = M b) → Q (.inl (some (.int r))) (M', z, u)) : mq_R mq_PP (d + 2) 116 0 [some (.ref 234), none, none, none, none, none, none, none, none] [] (M, z, u) Q := by
  have b5 := xb_b (B := (xB M0 252)) (fun i => xB_01 _) a 5
  have b5' := xb_b (B := (xB M0 252)) (fun i => xB_01 _) (a + 5) 5
  have b4 := xb_b (B := (xB M0 252)) (fun i => xB_01 _) (a + 10) 4
  have p32 : (2 : Int) ^ 5 = 32 := by decide
  have p16 : (2 : Int) ^ 4 = 16 := by decide
  have r289 : ∀ (M6 : Nat → mq_C) (nl nd nc k : Int32) (a6 : Nat) (l : List Int) (o5 o6 o7 o8 : Option Value), nl.toInt = (((xb (xB M0 252) a 5).toNat + 257) : Nat) → nd.toInt = (((xb (xB M0 252) (a + 5) 5).toNat + 1) : Nat) → ((xb (xB M0 252) a 5).toNat + 257) ≤ 286 → ((xb (xB M0 252) (a + 5) 5).toNat + 1) ≤ 30 → yV E 0 M0 M6 a6 o → (∀ b, b ≠ 234 → b < 254 ∨ 257 ≤ b → M6 b = M b) → (∀ t, t < ((xb (xB M0 252) a 5).toNat + 257) + ((xb (xB M0 252) (a + 5) 5).toNat + 1) → hv M6 254 t = l.getD t 0) → (xcd E (xB M0 252) a = if xgd l ((xb (xB M0 252) a 5).toNat + 257) ((xb (xB M0 252) (a + 5) 5).toNat + 1) then some (a6, l, ((xb (xB M0 252) a 5).toNat + 257), ((xb (xB M0 252) (a + 5) 5).toNat + 1)) else none) → mq_R mq_PP (d + 2) 116 289 [some (.ref 234), some (.int nl), some (.int nd), some (.int nc), some (.int k), o5, o6, o7, o8] [] (M6, z, u) Q := by
    intro M6 nl nd nc k a6 l o5 o6 o7 o8 g1 g2 g3 g4 hV6 hF6 g5 g6
    generalize hNL : ((xb (xB M0 252) a 5).toNat + 257) = NLv at g1 g3 g5 g6
    generalize hND : ((xb (xB M0 252) (a + 5) 5).toNat + 1) = NDv at g2 g4 g5 g6
    have h257 : 257 ≤ NLv := by omega
    unfold xgd at g6
    refine he_aload (n := 290) (i := 0) (by decide +kernel) rfl ?_
    refine he_getr (n := 293) (ci := 9) (j := 27) (ns := [4204, 68]) (b := 254) hV6.1.1 (by decide +kernel) rfl rfl (by decide +kernel) ?_
    refine he_iconst (n := 296) (c := 256) (by decide +kernel) (by decide) ?_
    intro c293 hc293
    refine hb_ld (n := 297) (kind := 64) hV6.1.1 (by decide +kernel) rfl rfl (.inl rfl) (by omega) (show _ < (320 : Int) by omega) hb_at1 ?_
    intro v296 hv296 lv296 uv296
    have q296 : v296.toInt = l.getD 256 0 := by rw [← hv296, show c293.toInt.toNat = 256 by omega]; exact g5 256 (by omega)
    by_cases h297 : v296.toInt = 0
    · rw [if_neg (fun h => h.1 (by omega))] at g6
      refine he_ifne_f (n := 300) (t := 302) (by decide +kernel) (by omega) ?_
      refine he_iconst (n := 301) (c := 0) (by decide +kernel) (by decide) ?_
      intro c300 hc300
      refine he_retz (by decide +kernel) (by omega) ?_
      exact K2 M6 _ 0 a6 g6 (.inl rfl) hV6 (by omega) hF6
    · skip
      refine he_ifne_t (n := 300) (t := 302) (by decide +kernel) (by omega) ?_
      refine he_aload (n := 303) (i := 0) (by decide +kernel) rfl ?_
      refine he_iconst (n := 304) (c := 0) (by decide +kernel) (by decide) ?_
      intro c303 hc303
      refine he_iconst (n := 305) (c := 0) (by decide +kernel) (by decide) ?_
      intro c304 hc304
      refine he_iload (n := 306) (i := 1) (by decide +kernel) rfl ?_
      refine he_v3 (n := 309) (j := 112) (ci := 9) (mx := 8) (ns := [5174, 5176, 59, 156]) (by decide +kernel) ((hb_kd (a := 234) hV6.1.1 rfl).trans rfl) (by show 0 ≤ 8; omega) (by show 4 ≤ 8; omega) ?_
      rw [mq_e112]
      refine ym_arrange (wn := 0) (fr := 0) (n := NLv) (fl := fun i => l.getD i 0) (by decide) (by omega) (by omega) (by omega) (by omega) (by omega) (fun i hi => by rw [Nat.zero_add]; exact (g5 i (by omega)).symm) hV6.1.1 ?_
      intro M7 r1 hm7 hF7 ha7 hb7 hT7 hg1 hg0
      show mq_R mq_PP (d + 2) 116 309 _ [.int r1] (M7, z, u) Q
      rw [ygd_0] at hg1 hg0
      refine he_istore (n := 311) (i := 5) (by decide +kernel) rfl ?_
      refine he_aload (n := 312) (i := 0) (by decide +kernel) rfl ?_
      refine he_iconst (n := 313) (c := 1) (by decide +kernel) (by decide) ?_
      intro c312 hc312
      refine he_iload (n := 314) (i := 1) (by decide +kernel) rfl ?_
      refine he_iload (n := 315) (i := 2) (by decide +kernel) rfl ?_
      refine he_v3 (n := 318) (j := 112) (ci := 9) (mx := 8) (ns := [5174, 5176, 59, 156]) (by decide +kernel) ((hb_kd (a := 234) hm7 rfl).trans rfl) (by show 0 ≤ 8; omega) (by show 4 ≤ 8; omega) ?_
      rw [mq_e112]
      refine ym_arrange (wn := 1) (fr := NLv) (n := NDv) (fl := fun i => l.getD (NLv + i) 0) (by decide) (by omega) (by omega) (by omega) (by omega) (by omega) (fun i hi => by rw [hb_vc (hF7 254 (by decide) (by decide))]; exact (g5 (NLv + i) (by omega)).symm) hm7 ?_
      intro M8 r2 hm8 hF8 ha8 hb8 hT8 hi1 hi0
      show mq_R mq_PP (d + 2) 116 318 _ [.int r2] (M8, z, u) Q
      rw [ygd_1] at hi1 hi0
      have hFF : ∀ b, b < 254 ∨ 257 ≤ b → M8 b = M6 b := fun b hb => by rw [hF8 b (by omega) (by omega), hF7 b (by omega) (by omega)]
      have hV8 : yV E 0 M0 M8 a6 o := yV_fr hV6 hm8 (hFF 234 (by decide)) (hFF 253 (by decide)) (fun b _ hb => hFF b (by omega))
      have hF8' : (∀ b, b ≠ 234 → b < 254 ∨ 257 ≤ b → M8 b = M b) := fun b n1 hb => (hFF b hb).trans (hF6 b n1 hb)
      by_cases hD : xf (fun i => l.getD (NLv + i) 0) NDv = 32768 ∨ xf (fun i => l.getD (NLv + i) 0) NDv = 0 ∨ xf (fun i => l.getD (NLv + i) 0) NDv = 16384 ∧ xc (fun i => l.getD (NLv + i) 0) NDv 1 = 1
      rotate_left
      · have := hi0 hD
        rw [if_neg (fun h => hD h.2.2)] at g6
        refine he_ifeq_t (n := 321) (t := 330) (by decide +kernel) (by omega) ?_
        refine he_iconst (n := 331) (c := 0) (by decide +kernel) (by decide) ?_
        intro c330 hc330
        refine he_retz (by decide +kernel) (by omega) ?_
        exact K2 M8 _ 0 a6 g6 (.inl rfl) hV8 (by omega) hF8'
      by_cases hL : xf (fun i => l.getD i 0) NLv = 32768
      · have := hi1 hD
        have := hg1 hL
        rw [if_pos ⟨by omega, hL, hD⟩] at g6
        refine he_ifeq_f (n := 321) (t := 330) (by decide +kernel) (by omega) ?_
        refine he_iload (n := 323) (i := 5) (by decide +kernel) rfl ?_
        refine he_ifeq_f (n := 326) (t := 330) (by decide +kernel) (by omega) ?_
        refine he_iconst (n := 327) (c := 1) (by decide +kernel) (by decide) ?_
        intro c326 hc326
        refine he_goto (t := 331) (by decide +kernel) ?_
        refine he_retz (by decide +kernel) (by omega) ?_
        exact K1 M8 _ a6 l NLv NDv g6 g3 g4 (by omega) hV8 (yT_0 (by omega) hT7 ha8 hb8) hT8 hF8'
      · have := hi1 hD
        have := hg0 hL
        rw [if_neg (fun h => hL h.2.1)] at g6
        refine he_ifeq_f (n := 321) (t := 330) (by decide +kernel) (by omega) ?_
        refine he_iload (n := 323) (i := 5) (by decide +kernel) rfl ?_
        refine he_ifeq_t (n := 326) (t := 330) (by decide +kernel) (by omega) ?_
        refine he_iconst (n := 331) (c := 0) (by decide +kernel) (by decide) ?_
        intro c330 hc330
        refine he_retz (by decide +kernel) (by omega) ?_
        exact K2 M8 _ 0 a6 g6 (.inl rfl) hV8 (by omega) hF8'
  have r80 : ∀ (sh : Int) (M4 : Nat → mq_C) (nl nd nc k : Int32) (a4 : Nat), (sh = 0 ∨ sh = 1) → 257 ≤ nl.toInt → nl.toInt ≤ 288 → 1 ≤ nd.toInt → nd.toInt ≤ 32 → yV E sh M0 M4 a4 o → (∀ b, b ≠ 234 → b < 254 ∨ 257 ≤ b → M4 b = M b) → (sh = 1 → xcd E (xB M0 252) a = none) → (sh = 0 → nl.toInt = (((xb (xB M0 252) a 5).toNat + 257) : Nat) ∧ nd.toInt = (((xb (xB M0 252) (a + 5) 5).toNat + 1) : Nat) ∧ a + 14 + 3 * ((xb (xB M0 252) (a + 10) 4).toNat + 4) ≤ E ∧ a4 = a + 14 + 3 * ((xb (xB M0 252) (a + 10) 4).toNat + 4) ∧ (∀ t, t < 19 → hv M4 254 t = xmk (xB M0 252) (a + 14) ((xb (xB M0 252) (a + 10) 4).toNat + 4) t) ∧ xcd E (xB M0 252) a = xcd2 E (xB M0 252) a ((xb (xB M0 252) a 5).toNat + 257) ((xb (xB M0 252) (a + 5) 5).toNat + 1) ((xb (xB M0 252) (a + 10) 4).toNat + 4)) → mq_R mq_PP (d + 2) 116 80 [some (.ref 234), some (.int nl), some (.int nd), some (.int nc), some (.int k), none, none, none, none] [] (M4, z, u) Q := by
    intro sh M4 nl nd nc k a4 hsh c1 c2 c3 c4 hV4 hF4 k1 k0
    refine he_aload (n := 81) (i := 0) (by decide +kernel) rfl ?_
    refine hb_gfd (n := 84) (ci := 9) (j := 24) (ns := [4201, 135]) hV4.1.1 (by decide +kernel) rfl rfl (by decide) rfl ?_
    intro v81 hv81 lv81 uv81
    have q81 : v81.toInt = sh := by rw [← hv81]; exact hV4.2.2.2.1
    by_cases h84 : v81.toInt = 0
    rotate_left
    · skip
      refine he_ifne_t (n := 87) (t := 111) (by decide +kernel) (by omega) ?_
      refine he_iconst (n := 112) (c := 0) (by decide +kernel) (by decide) ?_
      intro c111 hc111
      refine he_retz (by decide +kernel) (by omega) ?_
      exact K2 M4 _ sh a4 (k1 (by omega)) hsh hV4 (by omega) hF4
    obtain rfl : sh = 0 := by omega
    obtain ⟨g1, g2, g3, g4, g5, g7⟩ := k0 rfl
    unfold xcd2 at g7
    refine he_ifne_f (n := 87) (t := 111) (by decide +kernel) (by omega) ?_
    refine he_iload (n := 88) (i := 1) (by decide +kernel) rfl ?_
    refine he_iconst (n := 91) (c := 286) (by decide +kernel) (by decide) ?_
    intro c88 hc88
    by_cases h91 : nl.toInt ≤ 286
    rotate_left
    · rw [if_neg (fun h => h91 (by omega))] at g7
      refine he_cmpgt_t (n := 94) (t := 111) (by decide +kernel) (by omega) ?_
      refine he_iconst (n := 112) (c := 0) (by decide +kernel) (by decide) ?_
      intro c111 hc111
      refine he_retz (by decide +kernel) (by omega) ?_
      exact K2 M4 _ 0 a4 g7 (.inl rfl) hV4 (by omega) hF4
    refine he_cmpgt_f (n := 94) (t := 111) (by decide +kernel) (by omega) ?_
    refine he_iload (n := 95) (i := 2) (by decide +kernel) rfl ?_
    refine he_iconst (n := 97) (c := 30) (by decide +kernel) (by decide) ?_
    intro c95 hc95
    by_cases h97 : nd.toInt ≤ 30
    rotate_left
    · rw [if_neg (fun h => h97 (by omega))] at g7
      refine he_cmpgt_t (n := 100) (t := 111) (by decide +kernel) (by omega) ?_
      refine he_iconst (n := 112) (c := 0) (by decide +kernel) (by decide) ?_
      intro c111 hc111
      refine he_retz (by decide +kernel) (by omega) ?_
      exact K2 M4 _ 0 a4 g7 (.inl rfl) hV4 (by omega) hF4
    refine he_cmpgt_f (n := 100) (t := 111) (by decide +kernel) (by omega) ?_
    refine he_aload (n := 101) (i := 0) (by decide +kernel) rfl ?_
    refine he_iconst (n := 102) (c := 0) (by decide +kernel) (by decide) ?_
    intro c101 hc101
    refine he_iconst (n := 103) (c := 0) (by decide +kernel) (by decide) ?_
    intro c102 hc102
    refine he_iconst (n := 105) (c := 19) (by decide +kernel) (by decide) ?_
    intro c103 hc103
    refine he_v3 (n := 108) (j := 112) (ci := 9) (mx := 8) (ns := [5174, 5176, 59, 156]) (by decide +kernel) ((hb_kd (a := 234) hV4.1.1 rfl).trans rfl) (by show 0 ≤ 8; omega) (by show 4 ≤ 8; omega) ?_
    rw [mq_e112]
    refine ym_arrange (wn := 0) (fr := 0) (n := 19) (fl := xmk (xB M0 252) (a + 14) ((xb (xB M0 252) (a + 10) 4).toNat + 4)) (by decide) (by omega) (by omega) (by omega) (by decide) (by decide) (fun i hi => by rw [Nat.zero_add]; exact (g5 i hi).symm) hV4.1.1 ?_
    intro M5 r1 hm5 hF5 ha5 hb5 hT5 hg1 hg0
    show mq_R mq_PP (d + 2) 116 108 _ [.int r1] (M5, z, u) Q
    rw [ygd_0] at hg1 hg0
    have hV5 : yV E 0 M0 M5 a4 o := yV_fr hV4 hm5 (hF5 234 (by decide) (by decide)) (hF5 253 (by decide) (by decide)) (fun b _ hb => hF5 b (by omega) (by omega))
    have hF5' : (∀ b, b ≠ 234 → b < 254 ∨ 257 ≤ b → M5 b = M b) := fun b n1 hb => (hF5 b (by omega) (by omega)).trans (hF4 b n1 hb)
    by_cases hfm : xf (xmk (xB M0 252) (a + 14) ((xb (xB M0 252) (a + 10) 4).toNat + 4)) 19 = 32768
    rotate_left
    · have := hg0 hfm
      rw [if_neg (fun h => hfm h.2.1)] at g7
      refine he_ifne_f (n := 111) (t := 113) (by decide +kernel) (by omega) ?_
      refine he_iconst (n := 112) (c := 0) (by decide +kernel) (by decide) ?_
      intro c111 hc111
      refine he_retz (by decide +kernel) (by omega) ?_
      exact K2 M5 _ 0 a4 g7 (.inl rfl) hV5 (by omega) hF5'
    have := hg1 hfm
    rw [if_pos ⟨g3, hfm, by omega, by omega⟩] at g7
    refine he_ifne_t (n := 111) (t := 113) (by decide +kernel) (by omega) ?_
    refine he_iconst (n := 114) (c := 0) (by decide +kernel) (by decide) ?_
    intro c113 hc113
    refine he_istore (n := 116) (i := 4) (by decide +kernel) rfl ?_
    rw [g4] at hV5
    refine ym_dl (Mb := M5) (N := ((xb (xB M0 252) a 5).toNat + 257) + ((xb (xB M0 252) (a + 5) 5).toNat + 1)) (fM := xmk (xB M0 252) (a + 14) ((xb (xB M0 252) (a + 10) 4).toNat + 4)) hE (by omega) (by omega) (by omega) (by omega) ?_ ?_ (((xb (xB M0 252) a 5).toNat + 257) + ((xb (xB M0 252) (a + 5) 5).toNat + 1)) M5 (a + 14 + 3 * ((xb (xB M0 252) (a + 10) 4).toNat + 4)) [] _ none none none none (by show _ ≤ 0 + (((xb (xB M0 252) a 5).toNat + 257) + ((xb (xB M0 252) (a + 5) 5).toNat + 1)); omega) (Nat.zero_le _) (by show _ = (0 : Int); omega) hV5 hT5 (fun t ht => absurd ht (Nat.not_lt_zero t)) (fun _ _ _ => rfl) rfl
    · intro M6 a6 l k6 o5 o6 o7 o8 hx hl6 hV6 hx6 hF6
      rw [hx] at g7
      exact r289 M6 nl nd nc k6 a6 l o5 o6 o7 o8 g1 g2 (by omega) (by omega) hV6 (fun b n1 hb => (hF6 b n1 (by omega)).trans (hF5' b n1 hb)) hx6 g7
    · intro M6 r sh6 a6 hx hsh6 hV6 hr hF6
      rw [hx] at g7
      exact K2 M6 r sh6 a6 g7 hsh6 hV6 hr (fun b n1 hb => (hF6 b n1 (by omega)).trans (hF5' b n1 hb))
  have r23 : ∀ (sh : Int) (M3 : Nat → mq_C) (nl nd r : Int32) (a3 : Nat), (sh = 0 ∨ sh = 1) → 257 ≤ nl.toInt → nl.toInt ≤ 288 → 1 ≤ nd.toInt → nd.toInt ≤ 32 → 0 ≤ r.toInt → r.toInt ≤ 15 → yV E sh M0 M3 a3 o → (∀ b, b ≠ 234 → M3 b = M b) → (sh = 1 → xcd E (xB M0 252) a = none) → (sh = 0 → nl.toInt = (((xb (xB M0 252) a 5).toNat + 257) : Nat) ∧ nd.toInt = (((xb (xB M0 252) (a + 5) 5).toNat + 1) : Nat) ∧ r.toInt = xb (xB M0 252) (a + 10) 4 ∧ a3 = a + 14) → mq_R mq_PP (d + 2) 116 23 [some (.ref 234), some (.int nl), some (.int nd), none, none, none, none, none, none] [.int r] (M3, z, u) Q := by
    intro sh M3 nl nd r a3 hsh c1 c2 c3 c4 c5 c6 hV3 hF3 k1 k0
    refine he_iconst (n := 24) (c := 4) (by decide +kernel) (by decide) ?_
    intro c23 hc23
    refine he_iadd (n := 25) (by decide +kernel) (by omega) (by omega) ?_
    intro v24 hv24
    refine he_istore (n := 26) (i := 3) (by decide +kernel) rfl ?_
    refine he_iconst (n := 27) (c := 0) (by decide +kernel) (by decide) ?_
    intro c26 hc26
    refine he_istore (n := 29) (i := 4) (by decide +kernel) rfl ?_
    have e1 : sh = 0 → xcd E (xB M0 252) a = xcd2 E (xB M0 252) a ((xb (xB M0 252) a 5).toNat + 257) ((xb (xB M0 252) (a + 5) 5).toNat + 1) ((xb (xB M0 252) (a + 10) 4).toNat + 4) := by
      intro e
      have haE := hV3.2.2.2.2.1
      obtain ⟨g1, g2, g3, g4⟩ := k0 e
      unfold xcd
      rw [if_pos (by omega)]
    refine ym_dz (Mb := M3) (fun M5 k5 hm5 hF5 hZ5 hk5 => ?_) 19 0 M3 _ (by decide) (by omega) hV3.1.1 (fun _ _ => rfl) (fun t ht => absurd ht (Nat.not_lt_zero t))
    have hV5 : yV E sh M0 M5 a3 o := yV_fr hV3 hm5 (hF5 234 (by decide)) (hF5 253 (by decide)) (fun b _ hb => hF5 b (by omega))
    refine ym_dm (Mb := M5) (a := a3) (c := r.toInt.toNat + 4) (sh0 := sh) (good := True) hE (by omega) (by omega) ?_ (r.toInt.toNat + 4) 0 sh M5 a3 k5 (by omega) (by omega) hsh hV5 (fun _ _ _ => rfl) (fun e => ⟨e, rfl, fun t ht => hZ5 t ht⟩) (fun e => .inl e)
    intro M6 k6 sh6 a6 hsh6 hV6 hF6 h60 h61
    have hF6' : (∀ b, b ≠ 234 → b < 254 ∨ 257 ≤ b → M6 b = M b) := fun b n1 hb => (hF6 b n1 (by omega)).trans ((hF5 b (by omega)).trans (hF3 b n1))
    refine r80 sh6 M6 nl nd _ k6 a6 hsh6 c1 c2 c3 c4 hV6 hF6' (fun e => ?_) (fun e => ?_)
    · rcases h61 e with h | h
      · exact k1 h
      · rcases hsh with e0 | e0
        · obtain ⟨g1, g2, g3, g4⟩ := k0 e0
          rw [e1 e0]
          unfold xcd2
          rw [show r.toInt.toNat + 4 = ((xb (xB M0 252) (a + 10) 4).toNat + 4) by rw [g3], g4] at h
          rw [if_neg (fun h' => h h'.1)]
        · exact k1 e0
    · obtain ⟨q1, q2, q3⟩ := h60 e
      obtain ⟨g1, g2, g3, g4⟩ := k0 q1
      have haE := hV6.2.2.2.2.1
      rw [show r.toInt.toNat + 4 = ((xb (xB M0 252) (a + 10) 4).toNat + 4) by rw [g3], g4] at q2 q3
      exact ⟨g1, g2, by omega, q2, q3, e1 q1⟩
  have r15 : ∀ (sh : Int) (M2 : Nat → mq_C) (nl r : Int32) (a2 : Nat), (sh = 0 ∨ sh = 1) → 257 ≤ nl.toInt → nl.toInt ≤ 288 → 0 ≤ r.toInt → r.toInt ≤ 31 → yV E sh M0 M2 a2 o → (∀ b, b ≠ 234 → M2 b = M b) → (sh = 1 → xcd E (xB M0 252) a = none) → (sh = 0 → nl.toInt = (((xb (xB M0 252) a 5).toNat + 257) : Nat) ∧ r.toInt = xb (xB M0 252) (a + 5) 5 ∧ a2 = a + 10) → mq_R mq_PP (d + 2) 116 15 [some (.ref 234), some (.int nl), none, none, none, none, none, none, none] [.int r] (M2, z, u) Q := by
    intro sh M2 nl r a2 hsh c1 c2 c5 c6 hV2 hF2 k1 k0
    refine he_iconst (n := 16) (c := 1) (by decide +kernel) (by decide) ?_
    intro c15 hc15
    refine he_iadd (n := 17) (by decide +kernel) (by omega) (by omega) ?_
    intro v16 hv16
    refine he_istore (n := 18) (i := 2) (by decide +kernel) rfl ?_
    refine he_aload (n := 19) (i := 0) (by decide +kernel) rfl ?_
    refine he_iconst (n := 20) (c := 4) (by decide +kernel) (by decide) ?_
    intro c19 hc19
    refine he_v1 (n := 23) (j := 109) (ci := 9) (mx := 4) (ns := [5157, 5159, 55, 146]) (by decide +kernel) ((hb_kd (a := 234) hV2.1.1 rfl).trans rfl) (by show 0 ≤ 8; omega) (by show 2 ≤ 4; omega) ?_
    rw [mq_e109]
    refine ym_num (k := 4) hE (by decide) (by omega) hV2 ?_ ?_
    · intro M3 r3 hEk hV3 hr hF3
      have hb := xb_b (B := (xB M0 252)) (fun i => xB_01 _) a2 4
      show mq_R mq_PP (d + 2) 116 23 _ [.int r3] (M3, z, u) Q
      refine r23 sh M3 nl _ r3 _ hsh c1 c2 (by omega) (by omega) (by omega) (by omega) hV3 (fun b hb => (hF3 b hb).trans (hF2 b hb)) k1 (fun e => ?_)
      obtain ⟨g1, g2, g3⟩ := k0 e
      rw [g3] at hr
      exact ⟨g1, by omega, hr, by omega⟩
    · intro M3 r3 a3 hEk hV3 hr0 hr1 hF3
      show mq_R mq_PP (d + 2) 116 23 _ [.int r3] (M3, z, u) Q
      refine r23 1 M3 nl _ r3 a3 (.inr rfl) c1 c2 (by omega) (by omega) (by omega) (by omega) hV3 (fun b hb => (hF3 b hb).trans (hF2 b hb)) (fun _ => ?_) (fun h => absurd h (by decide))
      rcases hsh with e | e
      · obtain ⟨g1, g2, g3⟩ := k0 e
        unfold xcd
        rw [if_neg (by omega)]
      · exact k1 e
  have r5 : ∀ (sh : Int) (M1 : Nat → mq_C) (r : Int32) (a1 : Nat), (sh = 0 ∨ sh = 1) → 0 ≤ r.toInt → r.toInt ≤ 31 → yV E sh M0 M1 a1 o → (∀ b, b ≠ 234 → M1 b = M b) → (sh = 1 → xcd E (xB M0 252) a = none) → (sh = 0 → r.toInt = xb (xB M0 252) a 5 ∧ a1 = a + 5) → mq_R mq_PP (d + 2) 116 5 [some (.ref 234), none, none, none, none, none, none, none, none] [.int r] (M1, z, u) Q := by
    intro sh M1 r a1 hsh c5 c6 hV1 hF1 k1 k0
    refine he_iconst (n := 8) (c := 257) (by decide +kernel) (by decide) ?_
    intro c5 hc5
    refine he_iadd (n := 9) (by decide +kernel) (by omega) (by omega) ?_
    intro v8 hv8
    refine he_istore (n := 10) (i := 1) (by decide +kernel) rfl ?_
    refine he_aload (n := 11) (i := 0) (by decide +kernel) rfl ?_
    refine he_iconst (n := 12) (c := 5) (by decide +kernel) (by decide) ?_
    intro c11 hc11
    refine he_v1 (n := 15) (j := 109) (ci := 9) (mx := 4) (ns := [5157, 5159, 55, 146]) (by decide +kernel) ((hb_kd (a := 234) hV1.1.1 rfl).trans rfl) (by show 0 ≤ 8; omega) (by show 2 ≤ 4; omega) ?_
    rw [mq_e109]
    refine ym_num (k := 5) hE (by decide) (by omega) hV1 ?_ ?_
    · intro M2 r2 hEk hV2 hr hF2
      have hb := xb_b (B := (xB M0 252)) (fun i => xB_01 _) a1 5
      show mq_R mq_PP (d + 2) 116 15 _ [.int r2] (M2, z, u) Q
      refine r15 sh M2 _ r2 _ hsh (by omega) (by omega) (by omega) (by omega) hV2 (fun b hb => (hF2 b hb).trans (hF1 b hb)) k1 (fun e => ?_)
      obtain ⟨g1, g2⟩ := k0 e
      rw [g2] at hr
      exact ⟨by omega, hr, by omega⟩
    · intro M2 r2 a2 hEk hV2 hr0 hr1 hF2
      show mq_R mq_PP (d + 2) 116 15 _ [.int r2] (M2, z, u) Q
      refine r15 1 M2 _ r2 a2 (.inr rfl) (by omega) (by omega) (by omega) (by omega) hV2 (fun b hb => (hF2 b hb).trans (hF1 b hb)) (fun _ => ?_) (fun h => absurd h (by decide))
      rcases hsh with e | e
      · obtain ⟨g1, g2⟩ := k0 e
        unfold xcd
        rw [if_neg (by omega)]
      · exact k1 e
  refine he_aload (n := 1) (i := 0) (by decide +kernel) rfl ?_
  refine he_iconst (n := 2) (c := 5) (by decide +kernel) (by decide) ?_
  intro c1 hc1
  refine he_v1 (n := 5) (j := 109) (ci := 9) (mx := 4) (ns := [5157, 5159, 55, 146]) (by decide +kernel) ((hb_kd (a := 234) hV.1.1 rfl).trans rfl) (by show 0 ≤ 8; omega) (by show 2 ≤ 4; omega) ?_
  rw [mq_e109]
  refine ym_num (k := 5) hE (by decide) (by omega) hV ?_ ?_
  · intro M1 r1 hEk hV1 hr hF1
    show mq_R mq_PP (d + 2) 116 5 _ [.int r1] (M1, z, u) Q
    exact r5 0 M1 r1 _ (.inl rfl) (by omega) (by omega) hV1 hF1 (fun h => absurd h (by decide)) (fun _ => ⟨hr, rfl⟩)
  · intro M1 r1 a1 hEk hV1 hr0 hr1 hF1
    show mq_R mq_PP (d + 2) 116 5 _ [.int r1] (M1, z, u) Q
    refine r5 1 M1 r1 a1 (.inr rfl) (by omega) (by omega) hV1 hF1 (fun _ => ?_) (fun h => absurd h (by decide))
    unfold xcd
    rw [if_neg (by omega)]
