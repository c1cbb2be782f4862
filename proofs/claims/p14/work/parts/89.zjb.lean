/-! readCodes of the class, exactly. -/
/-- are these two codes good: the letters' full with an end, the distances' full, none, or one of one bit -/
abbrev xgd (l : List Int) (nl nd : Nat) : Prop := ¬ l.getD 256 0 = 0 ∧ xf (fun i => l.getD i 0) nl = 32768 ∧ (xf (fun i => l.getD (nl + i) 0) nd = 32768 ∨ xf (fun i => l.getD (nl + i) 0) nd = 0 ∨ xf (fun i => l.getD (nl + i) 0) nd = 16384 ∧ xc (fun i => l.getD (nl + i) 0) nd 1 = 1)
def xcd2 (E : Nat) (B : Nat → Int) (a nl nd nc : Nat) : Option (Nat × List Int × Nat × Nat) :=
  if a + 14 + 3 * nc ≤ E ∧ xf (xmk B (a + 14) nc) 19 = 32768 ∧ nl ≤ 286 ∧ nd ≤ 30 then
    (match xrb (xmk B (a + 14) nc) E (nl + nd) B (nl + nd) (a + 14 + 3 * nc) [] with
    | none => none
    | some (a2, l) => if xgd l nl nd then some (a2, l, nl, nd) else none) else none
def xcd (E : Nat) (B : Nat → Int) (a : Nat) : Option (Nat × List Int × Nat × Nat) := if a + 14 ≤ E then xcd2 E B a ((xb B a 5).toNat + 257) ((xb B (a + 5) 5).toNat + 1) ((xb B (a + 10) 4).toNat + 4) else none
theorem xj_readCodes {d z u pk f E ln a : Nat} {M0 M : Nat → mq_C} {o : List Int} {Q : (Option Value ⊕ Nat) → mq_S → Prop} (hp : mz_GG.1 pk = some (64, ln, 1, [(0, 0, 255)])) (he : 8 * f + E ≤ 8 * ln) (hl : ln ≤ 240) (h9 : pk < 9 ∨ 24 ≤ pk) (hMO : M0 1 = (60, mq_MO)) (hV : xV pk f E 0 M0 M a o)
    (K1 : ∀ (M' : Nat → mq_C) (a' : Nat) (l : List Int) (nl nd : Nat), xcd E (fun i => xB M0 pk (8 * f + i)) a = some (a', l, nl, nd) → nl ≤ 286 → nd ≤ 30 → xV pk f E 0 M0 M' a' o → xT M' 16 nl (fun i => l.getD i 0) → xT M' 20 nd (fun i => l.getD (nl + i) 0) → (∀ b, b < 9 ∨ b = 10 ∨ 24 ≤ b → M' b = M b) → Q (.inl none) (M', z, u))
    (K2 : ∀ (M' : Nat → mq_C) (a' : Nat), xcd E (fun i => xB M0 pk (8 * f + i)) a = none → xV pk f E 1 M0 M' a' o → (∀ b, b < 9 ∨ b = 10 ∨ 24 ≤ b → M' b = M b) → Q (.inl none) (M', z, u)) : mq_R mq_PP (d + 2) 97 0 [some (.ref 9), none, none] [] (M, z, u) Q := by
  have b5 := xb_b (B := (fun i => xB M0 pk (8 * f + i))) (fun i => xB_01 _) a 5
  have b5' := xb_b (B := (fun i => xB M0 pk (8 * f + i))) (fun i => xB_01 _) (a + 5) 5
  have b4 := xb_b (B := (fun i => xB M0 pk (8 * f + i))) (fun i => xB_01 _) (a + 10) 4
  have p32 : (2 : Int) ^ 5 = 32 := by decide
  have p16 : (2 : Int) ^ 4 = 16 := by decide
  have r61 : ∀ (bk : Int) (M6 : Nat → mq_C) (nl nd : Int32) (a6 : Nat) (l : List Int), (bk = 0 ∨ bk = 1) → xV pk f E bk M0 M6 a6 o → (∀ b, b < 9 ∨ b = 10 ∨ 24 ≤ b → M6 b = M b) → (bk = 1 → xcd E (fun i => xB M0 pk (8 * f + i)) a = none) → (bk = 0 → nl.toInt = (((xb (fun i => xB M0 pk (8 * f + i)) a 5).toNat + 257) : Nat) ∧ nd.toInt = (((xb (fun i => xB M0 pk (8 * f + i)) (a + 5) 5).toNat + 1) : Nat) ∧ ((xb (fun i => xB M0 pk (8 * f + i)) a 5).toNat + 257) ≤ 286 ∧ ((xb (fun i => xB M0 pk (8 * f + i)) (a + 5) 5).toNat + 1) ≤ 30 ∧ (∀ t, t < ((xb (fun i => xB M0 pk (8 * f + i)) a 5).toNat + 257) + ((xb (fun i => xB M0 pk (8 * f + i)) (a + 5) 5).toNat + 1) → hv M6 11 t = l.getD t 0) ∧ xcd E (fun i => xB M0 pk (8 * f + i)) a = if xgd l ((xb (fun i => xB M0 pk (8 * f + i)) a 5).toNat + 257) ((xb (fun i => xB M0 pk (8 * f + i)) (a + 5) 5).toNat + 1) then some (a6, l, ((xb (fun i => xB M0 pk (8 * f + i)) a 5).toNat + 257), ((xb (fun i => xB M0 pk (8 * f + i)) (a + 5) 5).toNat + 1)) else none) → mq_R mq_PP (d + 2) 97 61 [some (.ref 9), some (.int nl), some (.int nd)] [] (M6, z, u) Q := by
    intro bk M6 nl nd a6 l hbk hV6 hF6 k1 k0
    refine he_aload (n := 62) (i := 0) (by decide +kernel) rfl ?_
    refine hb_gfd (n := 65) (ci := 8) (j := 5) (ns := [1074, 28]) hV6.1.1 (by decide +kernel) rfl rfl (by decide) rfl ?_
    intro v62 hv62 lv62 uv62
    have q62 : v62.toInt = bk := by rw [← hv62]; exact hV6.2.2.2.1
    by_cases h65 : v62.toInt = 0
    rotate_left
    · skip
      refine he_ifne_t (n := 68) (t := 144) (by decide +kernel) (by omega) ?_
      refine he_ret (by decide +kernel) ?_
      obtain rfl : bk = 1 := by omega
      exact K2 M6 a6 (k1 rfl) hV6 hF6
    obtain rfl : bk = 0 := by omega
    obtain ⟨g1, g2, g3, g4, g5, g6⟩ := k0 rfl
    generalize hNL : ((xb (fun i => xB M0 pk (8 * f + i)) a 5).toNat + 257) = NLv at g1 g3 g5 g6
    generalize hND : ((xb (fun i => xB M0 pk (8 * f + i)) (a + 5) 5).toNat + 1) = NDv at g2 g4 g5 g6
    refine he_ifne_f (n := 68) (t := 144) (by decide +kernel) (by omega) ?_
    refine he_aload (n := 69) (i := 0) (by decide +kernel) rfl ?_
    refine he_getr (n := 72) (ci := 8) (j := 8) (ns := [1077, 44]) (b := 16) hV6.1.1 (by decide +kernel) rfl rfl (by decide +kernel) ?_
    refine he_aload (n := 73) (i := 0) (by decide +kernel) rfl ?_
    refine he_getr (n := 76) (ci := 8) (j := 6) (ns := [1075, 32]) (b := 11) hV6.1.1 (by decide +kernel) rfl rfl (by decide +kernel) ?_
    refine he_iconst (n := 77) (c := 0) (by decide +kernel) (by decide) ?_
    intro c76 hc76
    refine he_iload (n := 78) (i := 1) (by decide +kernel) rfl ?_
    refine he_v3 (n := 81) (j := 63) (ci := 3) (mx := 6) (ns := [1061, 1062, 1063, 60]) (by decide +kernel) ((hb_kd (a := 16) hV6.1.1 rfl).trans rfl) (by show 0 ≤ 8; omega) (by show 4 ≤ 6; omega) ?_
    rw [mq_e63]
    refine xj_build16 (fl := fun i => l.getD i 0) (fr := 0) (n := NLv) (fun i hi => by rw [Nat.zero_add]; exact (g5 i (by omega)).symm) (by omega) (by omega) (by omega) (by omega) hV6.1.1 ?_
    intro M7 hB7 hT7 hf7
    show mq_R mq_PP (d + 2) 97 81 _ [] (M7, z, u) Q
    have hV7 : xV pk f E 0 M0 M7 a6 o := xV_fr hV6 hB7.1 (hB7.2 9 (by decide)) (hB7.2 10 (by decide)) (fun b hb => hB7.2 b (by omega))
    refine he_aload (n := 82) (i := 0) (by decide +kernel) rfl ?_
    refine he_getr (n := 85) (ci := 8) (j := 9) (ns := [1078, 47]) (b := 20) hV7.1.1 (by decide +kernel) rfl rfl (by decide +kernel) ?_
    refine he_aload (n := 86) (i := 0) (by decide +kernel) rfl ?_
    refine he_getr (n := 89) (ci := 8) (j := 6) (ns := [1075, 32]) (b := 11) hV7.1.1 (by decide +kernel) rfl rfl (by decide +kernel) ?_
    refine he_iload (n := 90) (i := 1) (by decide +kernel) rfl ?_
    refine he_iload (n := 91) (i := 2) (by decide +kernel) rfl ?_
    refine he_v3 (n := 94) (j := 63) (ci := 3) (mx := 6) (ns := [1061, 1062, 1063, 60]) (by decide +kernel) ((hb_kd (a := 20) hV7.1.1 rfl).trans rfl) (by show 0 ≤ 8; omega) (by show 4 ≤ 6; omega) ?_
    rw [mq_e63]
    refine xj_build20 (fl := fun i => l.getD (NLv + i) 0) (fr := NLv) (n := NDv) (fun i hi => by rw [hb_vc (hB7.2 11 (by decide))]; exact (g5 (NLv + i) (by omega)).symm) (by omega) (by omega) (by omega) (by omega) hV7.1.1 ?_
    intro M8 hB8 hT8 hf8
    show mq_R mq_PP (d + 2) 97 94 _ [] (M8, z, u) Q
    have hV8 : xV pk f E 0 M0 M8 a6 o := xV_fr hV7 hB8.1 (hB8.2 9 (by decide)) (hB8.2 10 (by decide)) (fun b hb => hB8.2 b (by omega))
    have hF8 : (∀ b, b < 9 ∨ b = 10 ∨ 24 ≤ b → M8 b = M b) := fun b hb => (hB8.2 b (by omega)).trans ((hB7.2 b (by omega)).trans (hF6 b hb))
    have hT16 : xT M8 16 NLv (fun i => l.getD i 0) := ⟨fun b h1 h2 => by rw [hb_vc (hB8.2 17 (by decide))]; exact hT7.1 b h1 h2, fun i h1 h2 => by rw [hb_vc (hB8.2 19 (by decide))]; exact hT7.2 i h1 h2⟩
    have hf16 : hv M8 16 3 = xf (fun i => l.getD i 0) NLv := by rw [hb_vc (hB8.2 16 (by decide))]; exact hf7
    have h256 : hv M8 11 256 = l.getD 256 0 := by rw [hb_vc (hB8.2 11 (by decide)), hb_vc (hB7.2 11 (by decide))]; exact g5 256 (by omega)
    have hc1 : hv M8 21 1 = xc (fun i => l.getD (NLv + i) 0) NDv 1 := hT8.1 1 (by decide) (by decide)
    -- the end: broken or not
    have r141 : ∀ v : Int32, (xgd l NLv NDv → v.toInt = 0) → (¬ xgd l NLv NDv → v.toInt = 1) → mq_R mq_PP (d + 2) 97 141 [some (.ref 9), some (.int nl), some (.int nd)] [.int v, .ref 9] (M8, z, u) Q := by
      intro v e0 e1
      have hv01 : v.toInt = 0 ∨ v.toInt = 1 := by
        by_cases h : xgd l NLv NDv
        · exact .inl (e0 h)
        · exact .inr (e1 h)
      refine hb_pfd (n := 144) (ci := 8) (j := 5) (t := 1) (ns := [1074, 28]) hV8.1.1 (by decide +kernel) rfl rfl (by decide) (.inr ⟨rfl, he_01 (by omega)⟩) ?_
      generalize hM1 : hb_set M8 9 5 v = M1
      have hm1 : mz_sh mz_GG M1 := by rw [← hM1]; exact hb_set_sh hV8.1.1 rfl rfl (by omega) (by omega)
      have eM1 : ∀ b j, b ≠ 9 ∨ j ≠ 5 → hv M1 b j = hv M8 b j := by intro b j h; rw [← hM1]; exact hb_set_n h
      have sM1 : hv M1 9 5 = v.toInt := by rw [← hM1]; exact hb_set_v hV8.1.1 rfl (by decide)
      have wM1 : ∀ b, b ≠ 9 → M1 b = M8 b := by intro b h; rw [← hM1]; exact hb_set_c h
      refine he_ret (by decide +kernel) ?_
      have hV9 := xV_b5 hV8 hM1 hm1
      by_cases h : xgd l NLv NDv
      · rw [if_pos h] at g6
        rw [e0 h] at hV9
        exact K1 M1 a6 l NLv NDv g6 g3 g4 hV9 ⟨fun b h1 h2 => by rw [hb_vc (wM1 17 (by decide))]; exact hT16.1 b h1 h2, fun i h1 h2 => by rw [hb_vc (wM1 19 (by decide))]; exact hT16.2 i h1 h2⟩ ⟨fun b h1 h2 => by rw [hb_vc (wM1 21 (by decide))]; exact hT8.1 b h1 h2, fun i h1 h2 => by rw [hb_vc (wM1 23 (by decide))]; exact hT8.2 i h1 h2⟩ (fun b hb => (wM1 b (by omega)).trans (hF8 b hb))
      · rw [if_neg h] at g6
        rw [e1 h] at hV9
        exact K2 M1 a6 g6 hV9 (fun b hb => (wM1 b (by omega)).trans (hF8 b hb))
    refine he_aload (n := 95) (i := 0) (by decide +kernel) rfl ?_
    refine he_aload (n := 96) (i := 0) (by decide +kernel) rfl ?_
    refine he_getr (n := 99) (ci := 8) (j := 6) (ns := [1075, 32]) (b := 11) hV8.1.1 (by decide +kernel) rfl rfl (by decide +kernel) ?_
    refine he_iconst (n := 102) (c := 256) (by decide +kernel) (by decide) ?_
    intro c99 hc99
    refine hb_ld (n := 103) (kind := 64) hV8.1.1 (by decide +kernel) rfl rfl (.inl rfl) (by omega) (show _ < (316 : Int) by omega) hb_at1 ?_
    intro v102 hv102 lv102 uv102
    have q102 : v102.toInt = l.getD 256 0 := by rw [← hv102, show c99.toInt.toNat = 256 by omega]; exact h256
    unfold xgd at r141
    by_cases h103 : v102.toInt = 0
    · skip
      refine he_ifeq_t (n := 106) (t := 136) (by decide +kernel) (by omega) ?_
      refine he_iconst (n := 137) (c := 1) (by decide +kernel) (by decide) ?_
      intro c136 hc136
      refine he_goto (t := 141) (by decide +kernel) ?_
      exact r141 _ (fun h => absurd (by omega) h.1) (fun _ => by omega)
    · skip
      refine he_ifeq_f (n := 106) (t := 136) (by decide +kernel) (by omega) ?_
      refine he_aload (n := 107) (i := 0) (by decide +kernel) rfl ?_
      refine he_getr (n := 110) (ci := 8) (j := 8) (ns := [1077, 44]) (b := 16) hV8.1.1 (by decide +kernel) rfl rfl (by decide +kernel) ?_
      refine he_v0 (n := 113) (j := 64) (ci := 3) (mx := 1) (ns := [2193, 2194, 2195, 89]) (by decide +kernel) ((hb_kd (a := 16) hV8.1.1 rfl).trans rfl) (by show 1 ≤ 8; omega) (by show 1 ≤ 1; omega) ?_
      rw [mq_e64]
      refine xj_isFull16 hV8.1.1 ?_
      intro rf hrf1 hrf0
      show mq_R mq_PP (d + 2) 97 113 _ [.int rf, .ref 9] (M8, z, u) Q
      rw [hf16] at hrf1 hrf0
      by_cases hfull : xf (fun i => l.getD i 0) NLv = 32768
      rotate_left
      · have := hrf0 hfull
        refine he_ifeq_t (n := 116) (t := 136) (by decide +kernel) (by omega) ?_
        refine he_iconst (n := 137) (c := 1) (by decide +kernel) (by decide) ?_
        intro c136 hc136
        refine he_goto (t := 141) (by decide +kernel) ?_
        exact r141 _ (fun h => absurd h.2.1 hfull) (fun _ => by omega)
      have := hrf1 hfull
      refine he_ifeq_f (n := 116) (t := 136) (by decide +kernel) (by omega) ?_
      refine he_aload (n := 117) (i := 0) (by decide +kernel) rfl ?_
      refine he_getr (n := 120) (ci := 8) (j := 9) (ns := [1078, 47]) (b := 20) hV8.1.1 (by decide +kernel) rfl rfl (by decide +kernel) ?_
      refine he_v0 (n := 123) (j := 64) (ci := 3) (mx := 1) (ns := [2193, 2194, 2195, 89]) (by decide +kernel) ((hb_kd (a := 20) hV8.1.1 rfl).trans rfl) (by show 1 ≤ 8; omega) (by show 1 ≤ 1; omega) ?_
      rw [mq_e64]
      refine xj_isFull20 hV8.1.1 ?_
      intro rg hrg1 hrg0
      show mq_R mq_PP (d + 2) 97 123 _ [.int rg, .ref 9] (M8, z, u) Q
      rw [hf8] at hrg1 hrg0
      by_cases hfd : xf (fun i => l.getD (NLv + i) 0) NDv = 32768
      · have := hrg1 hfd
        refine he_ifne_t (n := 126) (t := 140) (by decide +kernel) (by omega) ?_
        refine he_iconst (n := 141) (c := 0) (by decide +kernel) (by decide) ?_
        intro c140 hc140
        exact r141 _ (fun _ => by omega) (fun h => absurd ⟨by omega, hfull, .inl hfd⟩ h)
      · have := hrg0 hfd
        refine he_ifne_f (n := 126) (t := 140) (by decide +kernel) (by omega) ?_
        refine he_aload (n := 127) (i := 0) (by decide +kernel) rfl ?_
        refine he_getr (n := 130) (ci := 8) (j := 9) (ns := [1078, 47]) (b := 20) hV8.1.1 (by decide +kernel) rfl rfl (by decide +kernel) ?_
        refine he_v0 (n := 133) (j := 65) (ci := 3) (mx := 1) (ns := [2202, 2203, 2204, 93]) (by decide +kernel) ((hb_kd (a := 20) hV8.1.1 rfl).trans rfl) (by show 1 ≤ 8; omega) (by show 1 ≤ 1; omega) ?_
        rw [mq_e65]
        refine xj_isNone hV8.1.1 ?_
        intro rn hrn1 hrn0
        show mq_R mq_PP (d + 2) 97 133 _ [.int rn, .ref 9] (M8, z, u) Q
        rw [hf8, hc1] at hrn1 hrn0
        by_cases hno : xf (fun i => l.getD (NLv + i) 0) NDv = 0 ∨ xf (fun i => l.getD (NLv + i) 0) NDv = 16384 ∧ xc (fun i => l.getD (NLv + i) 0) NDv 1 = 1
        · have := hrn1 hno
          refine he_ifne_t (n := 136) (t := 140) (by decide +kernel) (by omega) ?_
          refine he_iconst (n := 141) (c := 0) (by decide +kernel) (by decide) ?_
          intro c140 hc140
          exact r141 _ (fun _ => by omega) (fun h => absurd ⟨by omega, hfull, .inr hno⟩ h)
        · have := hrn0 hno
          refine he_ifne_f (n := 136) (t := 140) (by decide +kernel) (by omega) ?_
          refine he_iconst (n := 137) (c := 1) (by decide +kernel) (by decide) ?_
          intro c136 hc136
          refine he_goto (t := 141) (by decide +kernel) ?_
          exact r141 _ (fun h => absurd h.2.2 (fun h' => by rcases h' with h' | h'; exact hfd h'; exact hno h')) (fun _ => by omega)
  have r29 : ∀ (bk : Int) (M4 : Nat → mq_C) (nl nd : Int32) (a4 : Nat), (bk = 0 ∨ bk = 1) → 257 ≤ nl.toInt → nl.toInt ≤ 288 → 1 ≤ nd.toInt → nd.toInt ≤ 32 → xV pk f E bk M0 M4 a4 o → (∀ b, b < 9 ∨ b = 10 ∨ 24 ≤ b → M4 b = M b) → (bk = 1 → xcd E (fun i => xB M0 pk (8 * f + i)) a = none) → (bk = 0 → nl.toInt = (((xb (fun i => xB M0 pk (8 * f + i)) a 5).toNat + 257) : Nat) ∧ nd.toInt = (((xb (fun i => xB M0 pk (8 * f + i)) (a + 5) 5).toNat + 1) : Nat) ∧ a + 14 + 3 * ((xb (fun i => xB M0 pk (8 * f + i)) (a + 10) 4).toNat + 4) ≤ E ∧ a4 = a + 14 + 3 * ((xb (fun i => xB M0 pk (8 * f + i)) (a + 10) 4).toNat + 4) ∧ xf (xmk (fun i => xB M0 pk (8 * f + i)) (a + 14) ((xb (fun i => xB M0 pk (8 * f + i)) (a + 10) 4).toNat + 4)) 19 = 32768 ∧ xT M4 12 19 (xmk (fun i => xB M0 pk (8 * f + i)) (a + 14) ((xb (fun i => xB M0 pk (8 * f + i)) (a + 10) 4).toNat + 4)) ∧ xcd E (fun i => xB M0 pk (8 * f + i)) a = xcd2 E (fun i => xB M0 pk (8 * f + i)) a ((xb (fun i => xB M0 pk (8 * f + i)) a 5).toNat + 257) ((xb (fun i => xB M0 pk (8 * f + i)) (a + 5) 5).toNat + 1) ((xb (fun i => xB M0 pk (8 * f + i)) (a + 10) 4).toNat + 4)) → mq_R mq_PP (d + 2) 97 29 [some (.ref 9), some (.int nl), some (.int nd)] [] (M4, z, u) Q := by
    intro bk M4 nl nd a4 hbk c1 c2 c3 c4 hV4 hF4 k1 k0
    have r47 : ∀ (bk' : Int) (M5 : Nat → mq_C), (bk' = 0 ∨ bk' = 1) → xV pk f E bk' M0 M5 a4 o → (∀ b, b ≠ 9 → M5 b = M4 b) → (bk' = 1 → xcd E (fun i => xB M0 pk (8 * f + i)) a = none) → (bk' = 0 → bk = 0 ∧ nl.toInt ≤ 286 ∧ nd.toInt ≤ 30) → mq_R mq_PP (d + 2) 97 47 [some (.ref 9), some (.int nl), some (.int nd)] [] (M5, z, u) Q := by
      intro bk' M5 hbk' hV5 hF5 j1 j0
      have hF5b : (∀ b, b < 9 ∨ b = 10 ∨ 24 ≤ b → M5 b = M b) := fun b hb => (hF5 b (by omega)).trans (hF4 b hb)
      refine he_aload (n := 48) (i := 0) (by decide +kernel) rfl ?_
      refine hb_gfd (n := 51) (ci := 8) (j := 5) (ns := [1074, 28]) hV5.1.1 (by decide +kernel) rfl rfl (by decide) rfl ?_
      intro v48 hv48 lv48 uv48
      have q48 : v48.toInt = bk' := by rw [← hv48]; exact hV5.2.2.2.1
      by_cases h51 : v48.toInt = 0
      rotate_left
      · skip
        refine he_ifne_t (n := 54) (t := 61) (by decide +kernel) (by omega) ?_
        obtain rfl : bk' = 1 := by omega
        exact r61 1 M5 nl nd a4 [] (.inr rfl) hV5 hF5b j1 (fun h => absurd h (by decide))
      obtain rfl : bk' = 0 := by omega
      obtain ⟨i1, i2, i3⟩ := j0 rfl
      obtain ⟨g1, g2, g3, g4, g5, g6, g7⟩ := k0 i1
      refine he_ifne_f (n := 54) (t := 61) (by decide +kernel) (by omega) ?_
      refine he_aload (n := 55) (i := 0) (by decide +kernel) rfl ?_
      refine he_iload (n := 56) (i := 1) (by decide +kernel) rfl ?_
      refine he_iload (n := 57) (i := 2) (by decide +kernel) rfl ?_
      refine he_iadd (n := 58) (by decide +kernel) (by omega) (by omega) ?_
      intro v57 hv57
      refine he_v1 (n := 61) (j := 99) (ci := 8) (mx := 7) (ns := [2198, 2200, 11, 86]) (by decide +kernel) ((hb_kd (a := 9) hV5.1.1 rfl).trans rfl) (by show 0 ≤ 8; omega) (by show 2 ≤ 7; omega) ?_
      rw [mq_e99]
      have hT5 : xT M5 12 19 (xmk (fun i => xB M0 pk (8 * f + i)) (a + 14) ((xb (fun i => xB M0 pk (8 * f + i)) (a + 10) 4).toNat + 4)) := ⟨fun b h1 h2 => by rw [hb_vc (hF5 13 (by decide))]; exact g6.1 b h1 h2, fun i h1 h2 => by rw [hb_vc (hF5 15 (by decide))]; exact g6.2 i h1 h2⟩
      have e7 : xcd E (fun i => xB M0 pk (8 * f + i)) a = (match xrb (xmk (fun i => xB M0 pk (8 * f + i)) (a + 14) ((xb (fun i => xB M0 pk (8 * f + i)) (a + 10) 4).toNat + 4)) E (((xb (fun i => xB M0 pk (8 * f + i)) a 5).toNat + 257) + ((xb (fun i => xB M0 pk (8 * f + i)) (a + 5) 5).toNat + 1)) (fun i => xB M0 pk (8 * f + i)) (((xb (fun i => xB M0 pk (8 * f + i)) a 5).toNat + 257) + ((xb (fun i => xB M0 pk (8 * f + i)) (a + 5) 5).toNat + 1)) (a + 14 + 3 * ((xb (fun i => xB M0 pk (8 * f + i)) (a + 10) 4).toNat + 4)) [] with
          | none => none
          | some (a2, l) => if xgd l ((xb (fun i => xB M0 pk (8 * f + i)) a 5).toNat + 257) ((xb (fun i => xB M0 pk (8 * f + i)) (a + 5) 5).toNat + 1) then some (a2, l, ((xb (fun i => xB M0 pk (8 * f + i)) a 5).toNat + 257), ((xb (fun i => xB M0 pk (8 * f + i)) (a + 5) 5).toNat + 1)) else none) := by
        rw [g7]
        unfold xcd2
        rw [if_pos ⟨g3, g5, by omega, by omega⟩]
      refine xj_readBits (N := ((xb (fun i => xB M0 pk (8 * f + i)) a 5).toNat + 257) + ((xb (fun i => xB M0 pk (8 * f + i)) (a + 5) 5).toNat + 1)) hp he hl h9 (by omega) (by omega) hV5 hT5 ?_ ?_
      · intro M6 a6 l hx hl6 hV6 hx6 hF6
        rw [g4] at hx
        rw [hx] at e7
        show mq_R mq_PP (d + 2) 97 61 _ [] (M6, z, u) Q
        exact r61 0 M6 nl nd a6 l (.inl rfl) hV6 (fun b hb => (hF6 b (by omega) (by omega)).trans (hF5b b hb)) (fun h => absurd h (by decide)) (fun _ => ⟨g1, g2, by omega, by omega, hx6, e7⟩)
      · intro M6 a6 hx hV6 hF6
        rw [g4] at hx
        rw [hx] at e7
        show mq_R mq_PP (d + 2) 97 61 _ [] (M6, z, u) Q
        exact r61 1 M6 nl nd a6 [] (.inr rfl) hV6 (fun b hb => (hF6 b (by omega) (by omega)).trans (hF5b b hb)) (fun _ => e7) (fun h => absurd h (by decide))
    have nope : ¬ (nl.toInt ≤ 286 ∧ nd.toInt ≤ 30) → xcd E (fun i => xB M0 pk (8 * f + i)) a = none := by
      intro h
      rcases hbk with e | e
      · obtain ⟨g1, g2, g3, g4, g5, g6, g7⟩ := k0 e
        rw [g7]
        unfold xcd2
        rw [if_neg (fun h' => h ⟨by omega, by omega⟩)]
      · exact k1 e
    refine he_iload (n := 30) (i := 1) (by decide +kernel) rfl ?_
    refine he_iconst (n := 33) (c := 286) (by decide +kernel) (by decide) ?_
    intro c30 hc30
    by_cases h33 : nl.toInt ≤ 286
    · skip
      refine he_cmpgt_f (n := 36) (t := 42) (by decide +kernel) (by omega) ?_
      refine he_iload (n := 37) (i := 2) (by decide +kernel) rfl ?_
      refine he_iconst (n := 39) (c := 30) (by decide +kernel) (by decide) ?_
      intro c37 hc37
      by_cases h39 : nd.toInt ≤ 30
      · skip
        refine he_cmple_t (n := 42) (t := 47) (by decide +kernel) (by omega) ?_
        exact r47 bk M4 hbk hV4 (fun _ _ => rfl) k1 (fun e => ⟨e, h33, h39⟩)
      · skip
        refine he_cmple_f (n := 42) (t := 47) (by decide +kernel) (by omega) ?_
        refine he_aload (n := 43) (i := 0) (by decide +kernel) rfl ?_
        refine he_iconst (n := 44) (c := 1) (by decide +kernel) (by decide) ?_
        intro c43 hc43
        refine hb_pfd (n := 47) (ci := 8) (j := 5) (t := 1) (ns := [1074, 28]) hV4.1.1 (by decide +kernel) rfl rfl (by decide) (.inr ⟨rfl, he_01 (by omega)⟩) ?_
        generalize hM1 : hb_set M4 9 5 c43 = M1
        have hm1 : mz_sh mz_GG M1 := by rw [← hM1]; exact hb_set_sh hV4.1.1 rfl rfl (by omega) (by omega)
        have eM1 : ∀ b j, b ≠ 9 ∨ j ≠ 5 → hv M1 b j = hv M4 b j := by intro b j h; rw [← hM1]; exact hb_set_n h
        have sM1 : hv M1 9 5 = c43.toInt := by rw [← hM1]; exact hb_set_v hV4.1.1 rfl (by decide)
        have wM1 : ∀ b, b ≠ 9 → M1 b = M4 b := by intro b h; rw [← hM1]; exact hb_set_c h
        exact r47 1 M1 (.inr rfl) (xV_br hV4 hM1 hm1 (by omega)) wM1 (fun _ => nope (fun h => h39 h.2)) (fun h => absurd h (by decide))
    · skip
      refine he_cmpgt_t (n := 36) (t := 42) (by decide +kernel) (by omega) ?_
      refine he_aload (n := 43) (i := 0) (by decide +kernel) rfl ?_
      refine he_iconst (n := 44) (c := 1) (by decide +kernel) (by decide) ?_
      intro c43 hc43
      refine hb_pfd (n := 47) (ci := 8) (j := 5) (t := 1) (ns := [1074, 28]) hV4.1.1 (by decide +kernel) rfl rfl (by decide) (.inr ⟨rfl, he_01 (by omega)⟩) ?_
      generalize hM1 : hb_set M4 9 5 c43 = M1
      have hm1 : mz_sh mz_GG M1 := by rw [← hM1]; exact hb_set_sh hV4.1.1 rfl rfl (by omega) (by omega)
      have eM1 : ∀ b j, b ≠ 9 ∨ j ≠ 5 → hv M1 b j = hv M4 b j := by intro b j h; rw [← hM1]; exact hb_set_n h
      have sM1 : hv M1 9 5 = c43.toInt := by rw [← hM1]; exact hb_set_v hV4.1.1 rfl (by decide)
      have wM1 : ∀ b, b ≠ 9 → M1 b = M4 b := by intro b h; rw [← hM1]; exact hb_set_c h
      exact r47 1 M1 (.inr rfl) (xV_br hV4 hM1 hm1 (by omega)) wM1 (fun _ => nope (fun h => h33 h.1)) (fun h => absurd h (by decide))
  have r24 : ∀ (bk : Int) (M3 : Nat → mq_C) (nl nd r : Int32) (a3 : Nat), (bk = 0 ∨ bk = 1) → 257 ≤ nl.toInt → nl.toInt ≤ 288 → 1 ≤ nd.toInt → nd.toInt ≤ 32 → 0 ≤ r.toInt → r.toInt ≤ 15 → xV pk f E bk M0 M3 a3 o → (∀ b, b ≠ 9 → M3 b = M b) → (bk = 1 → xcd E (fun i => xB M0 pk (8 * f + i)) a = none) → (bk = 0 → nl.toInt = (((xb (fun i => xB M0 pk (8 * f + i)) a 5).toNat + 257) : Nat) ∧ nd.toInt = (((xb (fun i => xB M0 pk (8 * f + i)) (a + 5) 5).toNat + 1) : Nat) ∧ r.toInt = xb (fun i => xB M0 pk (8 * f + i)) (a + 10) 4 ∧ a3 = a + 14) → mq_R mq_PP (d + 2) 97 24 [some (.ref 9), some (.int nl), some (.int nd)] [.int r, .ref 9] (M3, z, u) Q := by
    intro bk M3 nl nd r a3 hbk c1 c2 c3 c4 c5 c6 hV3 hF3 k1 k0
    refine he_iconst (n := 25) (c := 4) (by decide +kernel) (by decide) ?_
    intro c24 hc24
    refine he_iadd (n := 26) (by decide +kernel) (by omega) (by omega) ?_
    intro v25 hv25
    refine he_v1 (n := 29) (j := 98) (ci := 8) (mx := 3) (ns := [2187, 2189, 10, 83]) (by decide +kernel) ((hb_kd (a := 9) hV3.1.1 rfl).trans rfl) (by show 0 ≤ 8; omega) (by show 2 ≤ 3; omega) ?_
    rw [mq_e98]
    have e1 : bk = 0 → xcd E (fun i => xB M0 pk (8 * f + i)) a = xcd2 E (fun i => xB M0 pk (8 * f + i)) a ((xb (fun i => xB M0 pk (8 * f + i)) a 5).toNat + 257) ((xb (fun i => xB M0 pk (8 * f + i)) (a + 5) 5).toNat + 1) ((xb (fun i => xB M0 pk (8 * f + i)) (a + 10) 4).toNat + 4) := by
      intro e
      have haE := hV3.2.2.2.2.1
      obtain ⟨g1, g2, g3, g4⟩ := k0 e
      unfold xcd
      rw [if_pos (by omega)]
    refine xj_readMarks (c := r.toInt.toNat + 4) hp he hl h9 (by omega) (by omega) hMO hV3 hbk ?_ ?_
    · intro M4 e hE hf hV4 hT4 hF4
      obtain ⟨g1, g2, g3, g4⟩ := k0 e
      rw [show r.toInt.toNat + 4 = ((xb (fun i => xB M0 pk (8 * f + i)) (a + 10) 4).toNat + 4) by rw [g3], g4] at hE hf hV4 hT4
      show mq_R mq_PP (d + 2) 97 29 _ [] (M4, z, u) Q
      exact r29 0 M4 nl nd _ (.inl rfl) c1 c2 c3 c4 hV4 (fun b hb => (hF4 b (by omega) (by omega) (by omega)).trans (hF3 b (by omega))) (fun h => absurd h (by decide)) (fun _ => ⟨g1, g2, hE, rfl, hf, hT4, e1 e⟩)
    · intro M4 a4 hw hV4 hF4
      show mq_R mq_PP (d + 2) 97 29 _ [] (M4, z, u) Q
      refine r29 1 M4 nl nd a4 (.inr rfl) c1 c2 c3 c4 hV4 (fun b hb => (hF4 b (by omega) (by omega) (by omega)).trans (hF3 b (by omega))) (fun _ => ?_) (fun h => absurd h (by decide))
      rcases hbk with e | e
      · obtain ⟨g1, g2, g3, g4⟩ := k0 e
        rw [e1 e]
        unfold xcd2
        rw [show r.toInt.toNat + 4 = ((xb (fun i => xB M0 pk (8 * f + i)) (a + 10) 4).toNat + 4) by rw [g3], g4] at hw
        rw [if_neg (fun h' => by rcases hw with h | h | h; (exact absurd (e.symm.trans h) (by decide)); exact h h'.1; exact h h'.2.1)]
      · exact k1 e
  have r15 : ∀ (bk : Int) (M2 : Nat → mq_C) (nl r : Int32) (a2 : Nat), (bk = 0 ∨ bk = 1) → 257 ≤ nl.toInt → nl.toInt ≤ 288 → 0 ≤ r.toInt → r.toInt ≤ 31 → xV pk f E bk M0 M2 a2 o → (∀ b, b ≠ 9 → M2 b = M b) → (bk = 1 → xcd E (fun i => xB M0 pk (8 * f + i)) a = none) → (bk = 0 → nl.toInt = (((xb (fun i => xB M0 pk (8 * f + i)) a 5).toNat + 257) : Nat) ∧ r.toInt = xb (fun i => xB M0 pk (8 * f + i)) (a + 5) 5 ∧ a2 = a + 10) → mq_R mq_PP (d + 2) 97 15 [some (.ref 9), some (.int nl), none] [.int r] (M2, z, u) Q := by
    intro bk M2 nl r a2 hbk c1 c2 c5 c6 hV2 hF2 k1 k0
    refine he_iconst (n := 16) (c := 1) (by decide +kernel) (by decide) ?_
    intro c15 hc15
    refine he_iadd (n := 17) (by decide +kernel) (by omega) (by omega) ?_
    intro v16 hv16
    refine he_istore (n := 18) (i := 2) (by decide +kernel) rfl ?_
    refine he_aload (n := 19) (i := 0) (by decide +kernel) rfl ?_
    refine he_aload (n := 20) (i := 0) (by decide +kernel) rfl ?_
    refine he_iconst (n := 21) (c := 4) (by decide +kernel) (by decide) ?_
    intro c20 hc20
    refine he_v1 (n := 24) (j := 94) (ci := 8) (mx := 4) (ns := [2150, 2152, 1, 67]) (by decide +kernel) ((hb_kd (a := 9) hV2.1.1 rfl).trans rfl) (by show 1 ≤ 8; omega) (by show 2 ≤ 4; omega) ?_
    rw [mq_e94]
    refine xj_take (k := 4) hp he hl h9 (by decide) (by omega) hV2 ?_ ?_
    · intro M3 r3 hE hV3 hr hF3
      have hb := xb_b (B := (fun i => xB M0 pk (8 * f + i))) (fun i => xB_01 _) a2 4
      show mq_R mq_PP (d + 2) 97 24 _ [.int r3, .ref 9] (M3, z, u) Q
      refine r24 bk M3 nl _ r3 _ hbk c1 c2 (by omega) (by omega) (by omega) (by omega) hV3 (fun b hb => (hF3 b hb).trans (hF2 b hb)) k1 (fun e => ?_)
      obtain ⟨g1, g2, g3⟩ := k0 e
      rw [g3] at hr
      exact ⟨g1, by omega, hr, by omega⟩
    · intro M3 r3 hE hV3 hr hF3
      show mq_R mq_PP (d + 2) 97 24 _ [.int r3, .ref 9] (M3, z, u) Q
      refine r24 1 M3 nl _ r3 _ (.inr rfl) c1 c2 (by omega) (by omega) (by omega) (by omega) hV3 (fun b hb => (hF3 b hb).trans (hF2 b hb)) (fun _ => ?_) (fun h => absurd h (by decide))
      rcases hbk with e | e
      · obtain ⟨g1, g2, g3⟩ := k0 e
        unfold xcd
        rw [if_neg (by omega)]
      · exact k1 e
  have r5 : ∀ (bk : Int) (M1 : Nat → mq_C) (r : Int32) (a1 : Nat), (bk = 0 ∨ bk = 1) → 0 ≤ r.toInt → r.toInt ≤ 31 → xV pk f E bk M0 M1 a1 o → (∀ b, b ≠ 9 → M1 b = M b) → (bk = 1 → xcd E (fun i => xB M0 pk (8 * f + i)) a = none) → (bk = 0 → r.toInt = xb (fun i => xB M0 pk (8 * f + i)) a 5 ∧ a1 = a + 5) → mq_R mq_PP (d + 2) 97 5 [some (.ref 9), none, none] [.int r] (M1, z, u) Q := by
    intro bk M1 r a1 hbk c5 c6 hV1 hF1 k1 k0
    refine he_iconst (n := 8) (c := 257) (by decide +kernel) (by decide) ?_
    intro c5 hc5
    refine he_iadd (n := 9) (by decide +kernel) (by omega) (by omega) ?_
    intro v8 hv8
    refine he_istore (n := 10) (i := 1) (by decide +kernel) rfl ?_
    refine he_aload (n := 11) (i := 0) (by decide +kernel) rfl ?_
    refine he_iconst (n := 12) (c := 5) (by decide +kernel) (by decide) ?_
    intro c11 hc11
    refine he_v1 (n := 15) (j := 94) (ci := 8) (mx := 4) (ns := [2150, 2152, 1, 67]) (by decide +kernel) ((hb_kd (a := 9) hV1.1.1 rfl).trans rfl) (by show 0 ≤ 8; omega) (by show 2 ≤ 4; omega) ?_
    rw [mq_e94]
    refine xj_take (k := 5) hp he hl h9 (by decide) (by omega) hV1 ?_ ?_
    · intro M2 r2 hE hV2 hr hF2
      have hb := xb_b (B := (fun i => xB M0 pk (8 * f + i))) (fun i => xB_01 _) a1 5
      show mq_R mq_PP (d + 2) 97 15 _ [.int r2] (M2, z, u) Q
      refine r15 bk M2 _ r2 _ hbk (by omega) (by omega) (by omega) (by omega) hV2 (fun b hb => (hF2 b hb).trans (hF1 b hb)) k1 (fun e => ?_)
      obtain ⟨g1, g2⟩ := k0 e
      rw [g2] at hr
      exact ⟨by omega, hr, by omega⟩
    · intro M2 r2 hE hV2 hr hF2
      show mq_R mq_PP (d + 2) 97 15 _ [.int r2] (M2, z, u) Q
      refine r15 1 M2 _ r2 _ (.inr rfl) (by omega) (by omega) (by omega) (by omega) hV2 (fun b hb => (hF2 b hb).trans (hF1 b hb)) (fun _ => ?_) (fun h => absurd h (by decide))
      rcases hbk with e | e
      · obtain ⟨g1, g2⟩ := k0 e
        unfold xcd
        rw [if_neg (by omega)]
      · exact k1 e
  refine he_aload (n := 1) (i := 0) (by decide +kernel) rfl ?_
  refine he_iconst (n := 2) (c := 5) (by decide +kernel) (by decide) ?_
  intro c1 hc1
  refine he_v1 (n := 5) (j := 94) (ci := 8) (mx := 4) (ns := [2150, 2152, 1, 67]) (by decide +kernel) ((hb_kd (a := 9) hV.1.1 rfl).trans rfl) (by show 0 ≤ 8; omega) (by show 2 ≤ 4; omega) ?_
  rw [mq_e94]
  refine xj_take (k := 5) hp he hl h9 (by decide) (by omega) hV ?_ ?_
  · intro M1 r1 hE hV1 hr hF1
    show mq_R mq_PP (d + 2) 97 5 _ [.int r1] (M1, z, u) Q
    exact r5 0 M1 r1 _ (.inl rfl) (by omega) (by omega) hV1 hF1 (fun h => absurd h (by decide)) (fun _ => ⟨hr, rfl⟩)
  · intro M1 r1 hE hV1 hr hF1
    show mq_R mq_PP (d + 2) 97 5 _ [.int r1] (M1, z, u) Q
    refine r5 1 M1 r1 a (.inr rfl) (by omega) (by omega) hV1 hF1 (fun _ => ?_) (fun h => absurd h (by decide))
    unfold xcd
    rw [if_neg (by omega)]
