/-! The model's dynamic, exactly. -/
theorem yV_fr {sh : Int} {E a : Nat} {M0 M M' : Nat → mq_C} {o : List Int} (h : yV E sh M0 M a o) (hs : mz_sh mz_GG M') (h4 : M' 234 = M 234) (h3 : M' 253 = M 253) (hF : ∀ b, b ≠ 234 → b < 253 ∨ 257 ≤ b → M' b = M b) : yV E sh M0 M' a o := by
  obtain ⟨h1, h2, h3', h4', h5, h6, h7⟩ := h
  refine ⟨⟨hs, fun b n1 hb => (hF b n1 hb).trans (h1.2.1 b n1 hb), fun j n1 n2 n3 => by rw [hb_vc h4]; exact h1.2.2 j n1 n2 n3⟩, ?_, ?_, ?_, h5, ?_, fun i hi => ?_⟩
  · rw [hb_vc h4]; exact h2
  · rw [hb_vc h4]; exact h3'
  · rw [hb_vc h4]; exact h4'
  · rw [hb_vc h4]; exact h6
  · rw [hb_vc h3]; exact h7 i hi
theorem ym_dz {d z u : Nat} {Mb : Nat → mq_C} {Q : (Option Value ⊕ Nat) → mq_S → Prop} {nl nd nc : Int32} (G : ∀ (M : Nat → mq_C) (k : Int32), mz_sh mz_GG M → (∀ b, b ≠ 254 → M b = Mb b) → (∀ t, t < 19 → hv M 254 t = 0) → k.toInt = 0 → mq_R mq_PP d 116 53 [some (.ref 234), some (.int nl), some (.int nd), some (.int nc), some (.int k), none, none, none, none] [] (M, z, u) Q) : ∀ (m j : Nat) (M : Nat → mq_C) (k : Int32), j + m = 19 → k.toInt = (j : Int) → mz_sh mz_GG M → (∀ b, b ≠ 254 → M b = Mb b) → (∀ t, t < j → hv M 254 t = 0) → mq_R mq_PP d 116 29 [some (.ref 234), some (.int nl), some (.int nd), some (.int nc), some (.int k), none, none, none, none] [] (M, z, u) Q := by
  intro m
  induction m with
  | zero =>
    intro j M k e1 e2 hm hF hZ
    refine he_iload (n := 31) (i := 4) (by decide +kernel) rfl ?_
    refine he_iconst (n := 33) (c := 19) (by decide +kernel) (by decide) ?_
    intro c31 hc31
    refine he_cmpge_t (n := 36) (t := 50) (by decide +kernel) (by omega) ?_
    refine he_iconst (n := 51) (c := 0) (by decide +kernel) (by decide) ?_
    intro c50 hc50
    refine he_istore (n := 53) (i := 4) (by decide +kernel) rfl ?_
    exact G M _ hm hF (fun t ht => hZ t (by omega)) (by omega)
  | succ m ih =>
    intro j M k e1 e2 hm hF hZ
    refine he_iload (n := 31) (i := 4) (by decide +kernel) rfl ?_
    refine he_iconst (n := 33) (c := 19) (by decide +kernel) (by decide) ?_
    intro c31 hc31
    refine he_cmpge_f (n := 36) (t := 50) (by decide +kernel) (by omega) ?_
    refine he_aload (n := 37) (i := 0) (by decide +kernel) rfl ?_
    refine he_getr (n := 40) (ci := 9) (j := 27) (ns := [4204, 68]) (b := 254) hm (by decide +kernel) rfl rfl (by decide +kernel) ?_
    refine he_iload (n := 42) (i := 4) (by decide +kernel) rfl ?_
    refine he_iconst (n := 43) (c := 0) (by decide +kernel) (by decide) ?_
    intro c42 hc42
    refine hb_sta (n := 44) (kind := 64) hm (by decide +kernel) rfl rfl (.inl rfl) (by omega) (show _ < (320 : Int) by omega) ?_
    generalize hM1 : hb_set M 254 (k.toInt.toNat) c42 = M1
    have hm1 : mz_sh mz_GG M1 := by rw [← hM1]; exact hb_set_sh hm rfl hb_at1 (by omega) (by omega)
    have eM1 : ∀ b j, b ≠ 254 ∨ j ≠ k.toInt.toNat → hv M1 b j = hv M b j := by intro b j h; rw [← hM1]; exact hb_set_n h
    have sM1 : hv M1 254 (k.toInt.toNat) = c42.toInt := by rw [← hM1]; exact hb_set_v hm rfl (show _ < 320 by omega)
    have wM1 : ∀ b, b ≠ 254 → M1 b = M b := by intro b h; rw [← hM1]; exact hb_set_c h
    refine he_iinc (n := 47) (i := 4) (c := 1) (L' := fun v => [some (.ref (234)), some (.int nl), some (.int nd), some (.int nc), some (.int v), none, none, none, none]) (by decide +kernel) (by decide) rfl (fun _ => rfl) (by omega) (by omega) ?_
    intro i44 hi44
    refine he_goto (t := 29) (by decide +kernel) ?_
    refine ih (j + 1) M1 _ (by omega) (by omega) hm1 (fun b hb => (wM1 b hb).trans (hF b hb)) (fun t ht => ?_)
    by_cases htj : t = j
    · rw [htj, show j = k.toInt.toNat by omega, sM1]
      omega
    · rw [eM1 _ _ (.inr (by omega))]
      exact hZ t (by omega)
theorem ym_dm {d z u E a c : Nat} {M0 Mb : Nat → mq_C} {o : List Int} {Q : (Option Value ⊕ Nat) → mq_S → Prop} {nl nd nc : Int32} (hE : E ≤ 1920) (hc : c ≤ 19) (hnc : nc.toInt = (c : Int)) {good : Prop} {sh0 : Int}
    (G : ∀ (M' : Nat → mq_C) (k : Int32) (sh' : Int) (a' : Nat), (sh' = 0 ∨ sh' = 1) → yV E sh' M0 M' a' o → (∀ b, b ≠ 234 → b ≠ 254 → M' b = Mb b) → (sh' = 0 → sh0 = 0 ∧ a' = a + 3 * c ∧ ∀ t, t < 19 → hv M' 254 t = xmk (xB M0 252) a c t) → (sh' = 1 → (sh0 = 1 ∨ ¬ a + 3 * c ≤ E)) → mq_R mq_PP (d + 2) 116 80 [some (.ref 234), some (.int nl), some (.int nd), some (.int nc), some (.int k), none, none, none, none] [] (M', z, u) Q) : ∀ (m j : Nat) (sh' : Int) (M : Nat → mq_C) (a' : Nat) (k : Int32), j + m = c → k.toInt = (j : Int) → (sh' = 0 ∨ sh' = 1) → yV E sh' M0 M a' o → (∀ b, b ≠ 234 → b ≠ 254 → M b = Mb b) → (sh' = 0 → sh0 = 0 ∧ a' = a + 3 * j ∧ ∀ t, t < 19 → hv M 254 t = xmk (xB M0 252) a j t) → (sh' = 1 → (sh0 = 1 ∨ ¬ a + 3 * c ≤ E)) → mq_R mq_PP (d + 2) 116 53 [some (.ref 234), some (.int nl), some (.int nd), some (.int nc), some (.int k), none, none, none, none] [] (M, z, u) Q := by
  intro m
  induction m with
  | zero =>
    intro j sh' M a' k e1 e2 hsh hV hF h0 h1
    obtain rfl : j = c := by omega
    refine he_iload (n := 55) (i := 4) (by decide +kernel) rfl ?_
    refine he_iload (n := 56) (i := 3) (by decide +kernel) rfl ?_
    refine he_cmpge_t (n := 59) (t := 80) (by decide +kernel) (by omega) ?_
    exact G M k sh' a' hsh hV hF h0 h1
  | succ m ih =>
    intro j sh' M a' k e1 e2 hsh hV hF h0 h1
    have ho := (xe_mo ⟨j, by omega⟩).2.2
    have ho : xord j < 19 := ho
    have p8 : (2 : Int) ^ 3 = 8 := by decide
    refine he_iload (n := 55) (i := 4) (by decide +kernel) rfl ?_
    refine he_iload (n := 56) (i := 3) (by decide +kernel) rfl ?_
    refine he_cmpge_f (n := 59) (t := 80) (by decide +kernel) (by omega) ?_
    refine he_aload (n := 60) (i := 0) (by decide +kernel) rfl ?_
    refine he_getr (n := 63) (ci := 9) (j := 27) (ns := [4204, 68]) (b := 254) hV.1.1 (by decide +kernel) rfl rfl (by decide +kernel) ?_
    refine he_iload (n := 65) (i := 4) (by decide +kernel) rfl ?_
    refine he_s1 (n := 68) (j := 115) (mx := 1) (ns := [5195, 5196, 1011, 160]) (by decide +kernel) (by show 1 ≤ 8; omega) (by show 1 ≤ 1; omega) ?_
    rw [mq_e115]
    refine ym_mark hV.1.1 e2 (by omega) ?_
    intro mk hmk
    show mq_R mq_PP (d + 2) 116 68 _ [.int mk, .ref 254] (M, z, u) Q
    refine he_aload (n := 69) (i := 0) (by decide +kernel) rfl ?_
    refine he_iconst (n := 70) (c := 3) (by decide +kernel) (by decide) ?_
    intro c69 hc69
    refine he_v1 (n := 73) (j := 109) (ci := 9) (mx := 4) (ns := [5157, 5159, 55, 146]) (by decide +kernel) ((hb_kd (a := 234) hV.1.1 rfl).trans rfl) (by show 2 ≤ 8; omega) (by show 2 ≤ 4; omega) ?_
    rw [mq_e109]
    have st : ∀ (sh2 : Int) (M2 : Nat → mq_C) (r : Int32) (a2 : Nat), (sh2 = 0 ∨ sh2 = 1) → 0 ≤ r.toInt → r.toInt ≤ 7 → yV E sh2 M0 M2 a2 o → (∀ b, b ≠ 234 → M2 b = M b) → (sh2 = 0 → sh' = 0 ∧ a2 = a' + 3 ∧ r.toInt = xb (xB M0 252) a' 3) → (sh2 = 1 → (sh0 = 1 ∨ ¬ a + 3 * c ≤ E)) → mq_R mq_PP (d + 2) 116 73 [some (.ref 234), some (.int nl), some (.int nd), some (.int nc), some (.int k), none, none, none, none] [.int r, .int mk, .ref 254] (M2, z, u) Q := by
      intro sh2 M2 r a2 hsh2 g1 g2 hV2 hF2 k0 k1
      refine hb_sta (n := 74) (kind := 64) hV2.1.1 (by decide +kernel) rfl rfl (.inl rfl) (by omega) (show _ < (320 : Int) by omega) ?_
      generalize hM1 : hb_set M2 254 (mk.toInt.toNat) r = M1
      have hm1 : mz_sh mz_GG M1 := by rw [← hM1]; exact hb_set_sh hV2.1.1 rfl hb_at1 (by omega) (by omega)
      have eM1 : ∀ b j, b ≠ 254 ∨ j ≠ mk.toInt.toNat → hv M1 b j = hv M2 b j := by intro b j h; rw [← hM1]; exact hb_set_n h
      have sM1 : hv M1 254 (mk.toInt.toNat) = r.toInt := by rw [← hM1]; exact hb_set_v hV2.1.1 rfl (show _ < 320 by omega)
      have wM1 : ∀ b, b ≠ 254 → M1 b = M2 b := by intro b h; rw [← hM1]; exact hb_set_c h
      refine he_iinc (n := 77) (i := 4) (c := 1) (L' := fun v => [some (.ref (234)), some (.int nl), some (.int nd), some (.int nc), some (.int v), none, none, none, none]) (by decide +kernel) (by decide) rfl (fun _ => rfl) (by omega) (by omega) ?_
      intro i74 hi74
      refine he_goto (t := 53) (by decide +kernel) ?_
      refine ih (j + 1) sh2 M1 a2 _ (by omega) (by omega) hsh2 ?_ (fun b n1 n2 => (wM1 b n2).trans ((hF2 b n1).trans (hF b n1 n2))) (fun e => ?_) k1
      · exact yV_fr hV2 hm1 (wM1 234 (by decide)) (wM1 253 (by decide)) (fun b _ hb => wM1 b (by omega))
      · obtain ⟨q1, q2, q3⟩ := k0 e
        obtain ⟨p1, p2, p3⟩ := h0 q1
        refine ⟨p1, by omega, fun t ht => ?_⟩
        show hv M1 254 t = if t = xord j then xb (xB M0 252) (a + 3 * j) 3 else xmk (xB M0 252) a j t
        by_cases htj : t = xord j
        · rw [if_pos htj, ← p2, ← q3, show t = mk.toInt.toNat by omega]
          exact sM1
        · rw [if_neg htj, eM1 _ _ (.inr (by omega)), hb_vc (hF2 254 (by decide))]
          exact p3 t ht
    refine ym_num (k := 3) hE (by decide) (by omega) hV ?_ ?_
    · intro M2 r hEk hV2 hr hF2
      show mq_R mq_PP (d + 2) 116 73 _ [.int r, .int mk, .ref 254] (M2, z, u) Q
      have hb := xb_b (B := (xB M0 252)) (fun i => xB_01 _) a' 3
      exact st sh' M2 r (a' + 3) hsh (by omega) (by omega) hV2 hF2 (fun e => ⟨e, rfl, hr⟩) h1
    · intro M2 r a2 hEk hV2 hr0 hr1 hF2
      show mq_R mq_PP (d + 2) 116 73 _ [.int r, .int mk, .ref 254] (M2, z, u) Q
      refine st 1 M2 r a2 (.inr rfl) (by omega) (by omega) hV2 hF2 (fun e => absurd e (by decide)) (fun _ => ?_)
      rcases hsh with e | e
      · obtain ⟨q1, q2, q3⟩ := h0 e
        exact .inr (by omega)
      · exact h1 e
theorem ym_df {d z u lo tn : Nat} {Mb : Nat → mq_C} {Q : (Option Value ⊕ Nat) → mq_S → Prop} {nl nd nc s ti va : Int32} (hti : ti.toInt = (tn : Int)) (hva : 0 ≤ va.toInt ∧ va.toInt ≤ 15) (hlt : lo + tn ≤ 320) (G : ∀ (M : Nat → mq_C) (k i8 : Int32), mz_sh mz_GG M → (∀ b, b ≠ 254 → M b = Mb b) → (∀ t, hv M 254 t = if lo ≤ t ∧ t < lo + tn then va.toInt else hv Mb 254 t) → k.toInt = ((lo + tn : Nat) : Int) → mq_R mq_PP d 116 116 [some (.ref 234), some (.int nl), some (.int nd), some (.int nc), some (.int k), some (.int s), some (.int ti), some (.int va), some (.int i8)] [] (M, z, u) Q) : ∀ (m j : Nat) (M : Nat → mq_C) (k i8 : Int32), j + m = tn → i8.toInt = (j : Int) → k.toInt = ((lo + j : Nat) : Int) → mz_sh mz_GG M → (∀ b, b ≠ 254 → M b = Mb b) → (∀ t, hv M 254 t = if lo ≤ t ∧ t < lo + j then va.toInt else hv Mb 254 t) → mq_R mq_PP d 116 261 [some (.ref 234), some (.int nl), some (.int nd), some (.int nc), some (.int k), some (.int s), some (.int ti), some (.int va), some (.int i8)] [] (M, z, u) Q := by
  intro m
  induction m with
  | zero =>
    intro j M k i8 e1 e2 e3 hm hF hx
    obtain rfl : j = tn := by omega
    refine he_iload (n := 263) (i := 8) (by decide +kernel) rfl ?_
    refine he_iload (n := 265) (i := 6) (by decide +kernel) rfl ?_
    refine he_cmpge_t (n := 268) (t := 286) (by decide +kernel) (by omega) ?_
    refine he_goto (t := 116) (by decide +kernel) ?_
    exact G M k i8 hm hF hx e3
  | succ m ih =>
    intro j M k i8 e1 e2 e3 hm hF hx
    refine he_iload (n := 263) (i := 8) (by decide +kernel) rfl ?_
    refine he_iload (n := 265) (i := 6) (by decide +kernel) rfl ?_
    refine he_cmpge_f (n := 268) (t := 286) (by decide +kernel) (by omega) ?_
    refine he_aload (n := 269) (i := 0) (by decide +kernel) rfl ?_
    refine he_getr (n := 272) (ci := 9) (j := 27) (ns := [4204, 68]) (b := 254) hm (by decide +kernel) rfl rfl (by decide +kernel) ?_
    refine he_iload (n := 274) (i := 4) (by decide +kernel) rfl ?_
    refine he_iload (n := 276) (i := 7) (by decide +kernel) rfl ?_
    refine hb_sta (n := 277) (kind := 64) hm (by decide +kernel) rfl rfl (.inl rfl) (by omega) (show _ < (320 : Int) by omega) ?_
    generalize hM1 : hb_set M 254 (k.toInt.toNat) va = M1
    have hm1 : mz_sh mz_GG M1 := by rw [← hM1]; exact hb_set_sh hm rfl hb_at1 (by omega) (by omega)
    have eM1 : ∀ b j, b ≠ 254 ∨ j ≠ k.toInt.toNat → hv M1 b j = hv M b j := by intro b j h; rw [← hM1]; exact hb_set_n h
    have sM1 : hv M1 254 (k.toInt.toNat) = va.toInt := by rw [← hM1]; exact hb_set_v hm rfl (show _ < 320 by omega)
    have wM1 : ∀ b, b ≠ 254 → M1 b = M b := by intro b h; rw [← hM1]; exact hb_set_c h
    refine he_iinc (n := 280) (i := 4) (c := 1) (L' := fun v => [some (.ref (234)), some (.int nl), some (.int nd), some (.int nc), some (.int v), some (.int s), some (.int ti), some (.int va), some (.int i8)]) (by decide +kernel) (by decide) rfl (fun _ => rfl) (by omega) (by omega) ?_
    intro i277 hi277
    refine he_iinc (n := 283) (i := 8) (c := 1) (L' := fun v => [some (.ref (234)), some (.int nl), some (.int nd), some (.int nc), some (.int i277), some (.int s), some (.int ti), some (.int va), some (.int v)]) (by decide +kernel) (by decide) rfl (fun _ => rfl) (by omega) (by omega) ?_
    intro i280 hi280
    refine he_goto (t := 261) (by decide +kernel) ?_
    refine ih (j + 1) M1 _ _ (by omega) (by omega) (by omega) hm1 (fun b hb => (wM1 b hb).trans (hF b hb)) (fun t => ?_)
    by_cases htj : t = lo + j
    · rw [if_pos ⟨by omega, by omega⟩, htj, show lo + j = k.toInt.toNat by omega]
      exact sM1
    · rw [eM1 _ _ (.inr (by omega)), hx t]
      by_cases h : lo ≤ t ∧ t < lo + j
      · rw [if_pos h, if_pos ⟨by omega, by omega⟩]
      · rw [if_neg h, if_neg (by omega)]
