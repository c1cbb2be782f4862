/-! The model's stored, mark and fixed, exactly. -/
theorem ym_sto_l {d z u E PE T : Nat} {M0 Mb : Nat → mq_C} {Q : (Option Value ⊕ Nat) → mq_S → Prop} {x1 x2 : Int32} (hE : E ≤ 1920) {R : List Int}
    (K1 : ∀ (M' : Nat → mq_C) (r : Int32), T ≤ 200 → PE ≤ E → yV E 0 M0 M' PE R → r.toInt = 1 → (∀ b, b ≠ 234 → b ≠ 253 → M' b = Mb b) → Q (.inl (some (.int r))) (M', z, u))
    (K2 : ∀ (M' : Nat → mq_C) (r : Int32) (sh' : Int) (a' : Nat) (o' : List Int), ¬ (T ≤ 200 ∧ PE ≤ E) → (sh' = 0 ∨ sh' = 1) → yV E sh' M0 M' a' o' → r.toInt = 0 → (∀ b, b ≠ 234 → b ≠ 253 → M' b = Mb b) → Q (.inl (some (.int r))) (M', z, u)) : ∀ (m : Nat) (M : Nat → mq_C) (a : Nat) (o : List Int) (g k : Int32) (o5 : Option Value), k.toInt + (m : Int) = x1.toInt → 0 ≤ k.toInt → x1.toInt ≤ 65535 → g.toInt = 1 → o.length ≤ 200 → yV E 0 M0 M a o → (∀ b, b ≠ 234 → b ≠ 253 → M b = Mb b) → o.length + m = T → a + 8 * m = PE → xby (xB M0 252) m a o = R → mq_R mq_PP (d + 2) 111 55 [some (.ref 234), some (.int x1), some (.int x2), some (.int g), some (.int k), o5] [] (M, z, u) Q := by
  -- not good any more
  have bad : ∀ (M : Nat → mq_C) (g k : Int32) (sh' : Int) (a : Nat) (o : List Int) (o5 : Option Value), ¬ (T ≤ 200 ∧ PE ≤ E) → g.toInt = 0 → (sh' = 0 ∨ sh' = 1) → yV E sh' M0 M a o → (∀ b, b ≠ 234 → b ≠ 253 → M b = Mb b) → mq_R mq_PP (d + 2) 111 55 [some (.ref 234), some (.int x1), some (.int x2), some (.int g), some (.int k), o5] [] (M, z, u) Q := by
    intro M g k sh' a o o5 hC hg hsh hV hF
    refine he_iload (n := 57) (i := 4) (by decide +kernel) rfl ?_
    refine he_iload (n := 58) (i := 1) (by decide +kernel) rfl ?_
    by_cases h58 : x1.toInt ≤ k.toInt
    · skip
      refine he_cmpge_t (n := 61) (t := 101) (by decide +kernel) (by omega) ?_
      refine he_iload (n := 102) (i := 3) (by decide +kernel) rfl ?_
      refine he_retz (by decide +kernel) (by omega) ?_
      exact K2 M _ sh' a o hC hsh hV hg hF
    · skip
      refine he_cmpge_f (n := 61) (t := 101) (by decide +kernel) (by omega) ?_
      refine he_iload (n := 62) (i := 3) (by decide +kernel) rfl ?_
      refine he_ifeq_t (n := 65) (t := 101) (by decide +kernel) (by omega) ?_
      refine he_iload (n := 102) (i := 3) (by decide +kernel) rfl ?_
      refine he_retz (by decide +kernel) (by omega) ?_
      exact K2 M _ sh' a o hC hsh hV hg hF
  intro m
  induction m with
  | zero =>
    intro M a o g k o5 e1 e2 e3 hg ho hV hF hT hP hR
    refine he_iload (n := 57) (i := 4) (by decide +kernel) rfl ?_
    refine he_iload (n := 58) (i := 1) (by decide +kernel) rfl ?_
    refine he_cmpge_t (n := 61) (t := 101) (by decide +kernel) (by omega) ?_
    refine he_iload (n := 102) (i := 3) (by decide +kernel) rfl ?_
    refine he_retz (by decide +kernel) (by omega) ?_
    have haE := hV.2.2.2.2.1
    exact K1 M _ (by omega) (by omega) (by rw [← hR, show PE = a by omega]; exact hV) hg hF
  | succ m ih =>
    intro M a o g k o5 e1 e2 e3 hg ho hV hF hT hP hR
    have hxb := xb_b (B := (xB M0 252)) (fun i => xB_01 _) a 8
    have p256 : (2 : Int) ^ 8 = 256 := by decide
    refine he_iload (n := 57) (i := 4) (by decide +kernel) rfl ?_
    refine he_iload (n := 58) (i := 1) (by decide +kernel) rfl ?_
    refine he_cmpge_f (n := 61) (t := 101) (by decide +kernel) (by omega) ?_
    refine he_iload (n := 62) (i := 3) (by decide +kernel) rfl ?_
    refine he_ifeq_f (n := 65) (t := 101) (by decide +kernel) (by omega) ?_
    refine he_aload (n := 66) (i := 0) (by decide +kernel) rfl ?_
    refine he_iconst (n := 68) (c := 8) (by decide +kernel) (by decide) ?_
    intro c66 hc66
    refine he_v1 (n := 71) (j := 109) (ci := 9) (mx := 4) (ns := [5157, 5159, 55, 146]) (by decide +kernel) ((hb_kd (a := 234) hV.1.1 rfl).trans rfl) (by show 0 ≤ 8; omega) (by show 2 ≤ 4; omega) ?_
    rw [mq_e109]
    refine ym_num (k := 8) hE (by decide) (by omega) hV ?_ ?_
    · intro M2 r hEk hV2 hr hF2
      show mq_R mq_PP (d + 2) 111 71 _ [.int r] (M2, z, u) Q
      have hFb : ∀ b, b ≠ 234 → b ≠ 253 → M2 b = Mb b := fun b n1 n2 => (hF2 b n1).trans (hF b n1 n2)
      refine he_istore (n := 73) (i := 5) (by decide +kernel) rfl ?_
      refine he_aload (n := 74) (i := 0) (by decide +kernel) rfl ?_
      refine hb_gfd (n := 77) (ci := 9) (j := 24) (ns := [4201, 135]) hV2.1.1 (by decide +kernel) rfl rfl (by decide) rfl ?_
      intro v74 hv74 lv74 uv74
      have q74 : v74.toInt = 0 := by rw [← hv74]; exact hV2.2.2.2.1
      refine he_ifne_f (n := 80) (t := 93) (by decide +kernel) (by omega) ?_
      refine he_aload (n := 81) (i := 0) (by decide +kernel) rfl ?_
      refine he_iload (n := 83) (i := 5) (by decide +kernel) rfl ?_
      refine he_v1 (n := 86) (j := 110) (ci := 9) (mx := 2) (ns := [5166, 5168, 57, 151]) (by decide +kernel) ((hb_kd (a := 234) hV2.1.1 rfl).trans rfl) (by show 0 ≤ 8; omega) (by show 2 ≤ 2; omega) ?_
      rw [mq_e110]
      refine ym_give hV2 (by omega) ?_ ?_
      · intro M3 r2 hl hV3 hr2 hF3
        show mq_R mq_PP (d + 2) 111 86 _ [.int r2] (M3, z, u) Q
        refine he_ifeq_f (n := 89) (t := 93) (by decide +kernel) (by omega) ?_
        refine he_iconst (n := 90) (c := 1) (by decide +kernel) (by decide) ?_
        intro c89 hc89
        refine he_goto (t := 94) (by decide +kernel) ?_
        refine he_istore (n := 95) (i := 3) (by decide +kernel) rfl ?_
        refine he_iinc (n := 98) (i := 4) (c := 1) (L' := fun v => [some (.ref (234)), some (.int x1), some (.int x2), some (.int c89), some (.int v), some (.int r)]) (by decide +kernel) (by decide) rfl (fun _ => rfl) (by omega) (by omega) ?_
        intro i95 hi95
        refine he_goto (t := 55) (by decide +kernel) ?_
        refine ih M3 _ _ _ _ _ (by omega) (by omega) e3 (by omega) (by rw [List.length_append]; show o.length + 1 ≤ 200; omega) hV3 (fun b n1 n2 => (hF3 b n1 n2).trans (hFb b n1 n2)) (by rw [List.length_append]; show o.length + 1 + m = T; omega) (by omega) ?_
        rw [hr]
        exact hR
      · intro r2 hl hr2
        show mq_R mq_PP (d + 2) 111 86 _ [.int r2] (M2, z, u) Q
        refine he_ifeq_t (n := 89) (t := 93) (by decide +kernel) (by omega) ?_
        refine he_iconst (n := 94) (c := 0) (by decide +kernel) (by decide) ?_
        intro c93 hc93
        refine he_istore (n := 95) (i := 3) (by decide +kernel) rfl ?_
        refine he_iinc (n := 98) (i := 4) (c := 1) (L' := fun v => [some (.ref (234)), some (.int x1), some (.int x2), some (.int c93), some (.int v), some (.int r)]) (by decide +kernel) (by decide) rfl (fun _ => rfl) (by omega) (by omega) ?_
        intro i95 hi95
        refine he_goto (t := 55) (by decide +kernel) ?_
        exact bad M2 _ _ 0 _ o _ (by omega) (by omega) (.inl rfl) hV2 hFb
    · intro M2 r a2 hEk hV2 hr0 hr1 hF2
      show mq_R mq_PP (d + 2) 111 71 _ [.int r] (M2, z, u) Q
      have hFb : ∀ b, b ≠ 234 → b ≠ 253 → M2 b = Mb b := fun b n1 n2 => (hF2 b n1).trans (hF b n1 n2)
      refine he_istore (n := 73) (i := 5) (by decide +kernel) rfl ?_
      refine he_aload (n := 74) (i := 0) (by decide +kernel) rfl ?_
      refine hb_gfd (n := 77) (ci := 9) (j := 24) (ns := [4201, 135]) hV2.1.1 (by decide +kernel) rfl rfl (by decide) rfl ?_
      intro v74 hv74 lv74 uv74
      have q74 : v74.toInt = 1 := by rw [← hv74]; exact hV2.2.2.2.1
      refine he_ifne_t (n := 80) (t := 93) (by decide +kernel) (by omega) ?_
      refine he_iconst (n := 94) (c := 0) (by decide +kernel) (by decide) ?_
      intro c93 hc93
      refine he_istore (n := 95) (i := 3) (by decide +kernel) rfl ?_
      refine he_iinc (n := 98) (i := 4) (c := 1) (L' := fun v => [some (.ref (234)), some (.int x1), some (.int x2), some (.int c93), some (.int v), some (.int r)]) (by decide +kernel) (by decide) rfl (fun _ => rfl) (by omega) (by omega) ?_
      intro i95 hi95
      refine he_goto (t := 55) (by decide +kernel) ?_
      exact bad M2 _ _ 1 a2 o _ (by omega) (by omega) (.inr rfl) hV2 hFb
theorem xord_f : ∀ k : Fin 19, xord k.val = if k.val < 3 then 16 + k.val else if k.val = 3 then 0 else if k.val % 2 = 0 then 6 + k.val / 2 else 7 - (k.val - 5) / 2 := by decide
theorem ym_mark {d z u k : Nat} {M : Nat → mq_C} {Q : (Option Value ⊕ Nat) → mq_S → Prop} {x0 : Int32} (hm : mz_sh mz_GG M) (h0 : x0.toInt = (k : Int)) (hk : k < 19) (K : ∀ r : Int32, r.toInt = (xord k : Int) → Q (.inl (some (.int r))) (M, z, u)) : mq_R mq_PP d 115 0 [some (.int x0)] [] (M, z, u) Q := by
  have hx : xord k = if k < 3 then 16 + k else if k = 3 then 0 else if k % 2 = 0 then 6 + k / 2 else 7 - (k - 5) / 2 := xord_f ⟨k, hk⟩
  rw [hx] at K
  refine he_iload (n := 1) (i := 0) (by decide +kernel) rfl ?_
  refine he_iconst (n := 2) (c := 3) (by decide +kernel) (by decide) ?_
  intro c1 hc1
  by_cases h2 : k < 3
  · rw [if_pos h2] at K
    refine he_cmpge_f (n := 5) (t := 12) (by decide +kernel) (by omega) ?_
    refine he_iconst (n := 7) (c := 16) (by decide +kernel) (by decide) ?_
    intro c5 hc5
    refine he_iload (n := 8) (i := 0) (by decide +kernel) rfl ?_
    refine he_iadd (n := 9) (by decide +kernel) (by omega) (by omega) ?_
    intro v8 hv8
    refine he_goto (t := 44) (by decide +kernel) ?_
    refine he_reti (by decide +kernel) ?_
    exact K _ (by omega)
  · rw [if_neg h2] at K
    refine he_cmpge_t (n := 5) (t := 12) (by decide +kernel) (by omega) ?_
    refine he_iload (n := 13) (i := 0) (by decide +kernel) rfl ?_
    refine he_iconst (n := 14) (c := 3) (by decide +kernel) (by decide) ?_
    intro c13 hc13
    by_cases h14 : k = 3
    · rw [if_pos h14] at K
      refine he_cmpne_f (n := 17) (t := 21) (by decide +kernel) (by omega) ?_
      refine he_iconst (n := 18) (c := 0) (by decide +kernel) (by decide) ?_
      intro c17 hc17
      refine he_goto (t := 44) (by decide +kernel) ?_
      refine he_reti (by decide +kernel) ?_
      exact K _ (by omega)
    · rw [if_neg h14] at K
      refine he_cmpne_t (n := 17) (t := 21) (by decide +kernel) (by omega) ?_
      refine he_iload (n := 22) (i := 0) (by decide +kernel) rfl ?_
      refine he_iconst (n := 23) (c := 2) (by decide +kernel) (by decide) ?_
      intro c22 hc22
      refine xe_rem (c := 2) (n := 24) (by decide +kernel) hc22 (by decide) (by omega) ?_
      intro v23 hv23
      by_cases h24 : k % 2 = 0
      · rw [if_pos h24] at K
        refine he_ifne_f (n := 27) (t := 36) (by decide +kernel) (by omega) ?_
        refine he_iconst (n := 29) (c := 6) (by decide +kernel) (by decide) ?_
        intro c27 hc27
        refine he_iload (n := 30) (i := 0) (by decide +kernel) rfl ?_
        refine he_iconst (n := 31) (c := 2) (by decide +kernel) (by decide) ?_
        intro c30 hc30
        refine xe_div (c := 2) (n := 32) (by decide +kernel) hc30 (by decide) (by omega) ?_
        intro v31 hv31
        refine he_iadd (n := 33) (by decide +kernel) (by omega) (by omega) ?_
        intro v32 hv32
        refine he_goto (t := 44) (by decide +kernel) ?_
        refine he_reti (by decide +kernel) ?_
        exact K _ (by omega)
      · rw [if_neg h24] at K
        refine he_ifne_t (n := 27) (t := 36) (by decide +kernel) (by omega) ?_
        refine he_iconst (n := 38) (c := 7) (by decide +kernel) (by decide) ?_
        intro c36 hc36
        refine he_iload (n := 39) (i := 0) (by decide +kernel) rfl ?_
        refine he_iconst (n := 40) (c := 5) (by decide +kernel) (by decide) ?_
        intro c39 hc39
        refine he_isub (n := 41) (by decide +kernel) (by omega) (by omega) ?_
        intro v40 hv40
        refine he_iconst (n := 42) (c := 2) (by decide +kernel) (by decide) ?_
        intro c41 hc41
        refine xe_div (c := 2) (n := 43) (by decide +kernel) hc41 (by decide) (by omega) ?_
        intro v42 hv42
        refine he_isub (n := 44) (by decide +kernel) (by omega) (by omega) ?_
        intro v43 hv43
        refine he_reti (by decide +kernel) ?_
        exact K _ (by omega)
theorem ym_stored {d z u E a cnt : Nat} {M0 M : Nat → mq_C} {o : List Int} {Q : (Option Value ⊕ Nat) → mq_S → Prop} (hE : E ≤ 1920) (hE8 : E = 8 * cnt) (hV : yV E 0 M0 M a o) (ho : o.length ≤ 200)
    (K1 : ∀ (M' : Nat → mq_C) (r : Int32) (a' : Nat) (o' : List Int), xst E (xB M0 252) a o = some (a', o') → yV E 0 M0 M' a' o' → o'.length ≤ 200 → r.toInt = 1 → (∀ b, b ≠ 234 → b ≠ 253 → M' b = M b) → Q (.inl (some (.int r))) (M', z, u))
    (K2 : ∀ (M' : Nat → mq_C) (r : Int32) (sh' : Int) (a' : Nat) (o' : List Int), xst E (xB M0 252) a o = none → (sh' = 0 ∨ sh' = 1) → yV E sh' M0 M' a' o' → r.toInt = 0 → (∀ b, b ≠ 234 → b ≠ 253 → M' b = M b) → Q (.inl (some (.int r))) (M', z, u)) : mq_R mq_PP (d + 2) 111 0 [some (.ref 234), none, none, none, none, none] [] (M, z, u) Q := by
  have vA : hv M 234 23 = (a : Int) := hV.2.1
  have haE := hV.2.2.2.2.1
  unfold xst at K1 K2
  generalize hq : (a + 7) / 8 = q at K1 K2
  have hxb1 := xb_b (B := (xB M0 252)) (fun i => xB_01 _) (q * 8) 16
  have hxb2 := xb_b (B := (xB M0 252)) (fun i => xB_01 _) (q * 8 + 16) 16
  have p16 : (2 : Int) ^ 16 = 65536 := by decide
  refine he_aload (n := 1) (i := 0) (by decide +kernel) rfl ?_
  refine he_aload (n := 2) (i := 0) (by decide +kernel) rfl ?_
  refine hb_gfd (n := 5) (ci := 9) (j := 23) (ns := [4200, 129]) hV.1.1 (by decide +kernel) rfl rfl (by decide) rfl ?_
  intro v2 hv2 lv2 uv2
  refine he_iconst (n := 7) (c := 7) (by decide +kernel) (by decide) ?_
  intro c5 hc5
  have q2 : v2.toInt = (a : Int) := by rw [← hv2]; exact vA
  refine he_iadd (n := 8) (by decide +kernel) (by omega) (by omega) ?_
  intro v7 hv7
  refine he_iconst (n := 10) (c := 8) (by decide +kernel) (by decide) ?_
  intro c8 hc8
  refine xe_div (c := 8) (n := 11) (by decide +kernel) hc8 (by decide) (by omega) ?_
  intro v10 hv10
  refine he_iconst (n := 13) (c := 8) (by decide +kernel) (by decide) ?_
  intro c11 hc11
  refine he_imul (n := 14) (p := v10.toInt * 8) (by decide +kernel) (by rw [hc11]) (by omega) (by omega) ?_
  intro v13 hv13
  refine hb_pfd (n := 17) (ci := 9) (j := 23) (t := 0) (ns := [4200, 129]) hV.1.1 (by decide +kernel) rfl rfl (by decide) (.inl rfl) ?_
  generalize hM1 : hb_set M 234 23 v13 = M1
  have hm1 : mz_sh mz_GG M1 := by rw [← hM1]; exact hb_set_sh hV.1.1 rfl rfl (by omega) (by omega)
  have eM1 : ∀ b j, b ≠ 234 ∨ j ≠ 23 → hv M1 b j = hv M b j := by intro b j h; rw [← hM1]; exact hb_set_n h
  have sM1 : hv M1 234 23 = v13.toInt := by rw [← hM1]; exact hb_set_v hV.1.1 rfl (by decide)
  have wM1 : ∀ b, b ≠ 234 → M1 b = M b := by intro b h; rw [← hM1]; exact hb_set_c h
  have hV1 : yV E 0 M0 M1 (q * 8) o := yV_at hV hM1 hm1 (by omega) (by omega)
  refine he_aload (n := 18) (i := 0) (by decide +kernel) rfl ?_
  refine he_iconst (n := 20) (c := 16) (by decide +kernel) (by decide) ?_
  intro c18 hc18
  refine he_v1 (n := 23) (j := 109) (ci := 9) (mx := 4) (ns := [5157, 5159, 55, 146]) (by decide +kernel) ((hb_kd (a := 234) hm1 rfl).trans rfl) (by show 0 ≤ 8; omega) (by show 2 ≤ 4; omega) ?_
  rw [mq_e109]
  -- both numbers are there
  have r30 : ∀ (sh : Int) (M3 : Nat → mq_C) (r1 r2 : Int32) (a3 : Nat), (sh = 0 ∨ sh = 1) → 0 ≤ r1.toInt → r1.toInt ≤ 65535 → 0 ≤ r2.toInt → r2.toInt ≤ 65535 → yV E sh M0 M3 a3 o → (∀ b, b ≠ 234 → M3 b = M b) → (sh = 0 → a3 = q * 8 + 32 ∧ q * 8 + 32 ≤ E ∧ r1.toInt = xb (xB M0 252) (q * 8) 16 ∧ r2.toInt = xb (xB M0 252) (q * 8 + 16) 16) → (sh = 1 → (if q * 8 + 32 ≤ E then (if xb (xB M0 252) (q * 8) 16 + xb (xB M0 252) (q * 8 + 16) 16 = 65535 then (if (xb (xB M0 252) (q * 8) 16).toNat ≤ 200 - o.length ∧ q * 8 + 32 + 8 * (xb (xB M0 252) (q * 8) 16).toNat ≤ E then some (q * 8 + 32 + 8 * (xb (xB M0 252) (q * 8) 16).toNat, xby (xB M0 252) (xb (xB M0 252) (q * 8) 16).toNat (q * 8 + 32) o) else none) else none) else none) = none) → mq_R mq_PP (d + 2) 111 30 [some (.ref 234), some (.int r1), none, none, none, none] [.int r2] (M3, z, u) Q := by
    intro sh M3 r1 r2 a3 hsh g1 g2 g3 g4 hV3 hF3 h0 h1
    have hF3' : ∀ b, b ≠ 234 → b ≠ 253 → M3 b = M b := fun b n1 _ => hF3 b n1
    refine he_istore (n := 31) (i := 2) (by decide +kernel) rfl ?_
    refine he_iload (n := 32) (i := 2) (by decide +kernel) rfl ?_
    refine he_iconst (n := 34) (c := 65535) (by decide +kernel) (by decide) ?_
    intro c32 hc32
    refine he_iload (n := 35) (i := 1) (by decide +kernel) rfl ?_
    refine he_isub (n := 36) (by decide +kernel) (by omega) (by omega) ?_
    intro v35 hv35
    -- not good: nothing is copied
    have no : (if q * 8 + 32 ≤ E then (if xb (xB M0 252) (q * 8) 16 + xb (xB M0 252) (q * 8 + 16) 16 = 65535 then (if (xb (xB M0 252) (q * 8) 16).toNat ≤ 200 - o.length ∧ q * 8 + 32 + 8 * (xb (xB M0 252) (q * 8) 16).toNat ≤ E then some (q * 8 + 32 + 8 * (xb (xB M0 252) (q * 8) 16).toNat, xby (xB M0 252) (xb (xB M0 252) (q * 8) 16).toNat (q * 8 + 32) o) else none) else none) else none) = none → ∀ c : Int32, c.toInt = 0 → mq_R mq_PP (d + 2) 111 51 [some (.ref 234), some (.int r1), some (.int r2), none, none, none] [.int c] (M3, z, u) Q := by
      intro hx c hc
      refine he_istore (n := 52) (i := 3) (by decide +kernel) rfl ?_
      refine he_iconst (n := 53) (c := 0) (by decide +kernel) (by decide) ?_
      intro c52 hc52
      refine he_istore (n := 55) (i := 4) (by decide +kernel) rfl ?_
      refine he_iload (n := 57) (i := 4) (by decide +kernel) rfl ?_
      refine he_iload (n := 58) (i := 1) (by decide +kernel) rfl ?_
      by_cases h58 : r1.toInt ≤ c52.toInt
      · skip
        refine he_cmpge_t (n := 61) (t := 101) (by decide +kernel) (by omega) ?_
        refine he_iload (n := 102) (i := 3) (by decide +kernel) rfl ?_
        refine he_retz (by decide +kernel) (by omega) ?_
        exact K2 M3 _ sh a3 o hx hsh hV3 hc hF3'
      · skip
        refine he_cmpge_f (n := 61) (t := 101) (by decide +kernel) (by omega) ?_
        refine he_iload (n := 62) (i := 3) (by decide +kernel) rfl ?_
        refine he_ifeq_t (n := 65) (t := 101) (by decide +kernel) (by omega) ?_
        refine he_iload (n := 102) (i := 3) (by decide +kernel) rfl ?_
        refine he_retz (by decide +kernel) (by omega) ?_
        exact K2 M3 _ sh a3 o hx hsh hV3 hc hF3'
    by_cases h36 : r2.toInt = v35.toInt
    · skip
      refine he_cmpne_f (n := 39) (t := 50) (by decide +kernel) (by omega) ?_
      refine he_aload (n := 40) (i := 0) (by decide +kernel) rfl ?_
      refine hb_gfd (n := 43) (ci := 9) (j := 24) (ns := [4201, 135]) hV3.1.1 (by decide +kernel) rfl rfl (by decide) rfl ?_
      intro v40 hv40 lv40 uv40
      have q40 : v40.toInt = sh := by rw [← hv40]; exact hV3.2.2.2.1
      by_cases h43 : v40.toInt = 0
      · obtain rfl : sh = 0 := by omega
        obtain ⟨k1, k2, k3, k4⟩ := h0 rfl
        rw [k1] at hV3
        refine he_ifne_f (n := 46) (t := 50) (by decide +kernel) (by omega) ?_
        refine he_iconst (n := 47) (c := 1) (by decide +kernel) (by decide) ?_
        intro c46 hc46
        refine he_goto (t := 51) (by decide +kernel) ?_
        refine he_istore (n := 52) (i := 3) (by decide +kernel) rfl ?_
        refine he_iconst (n := 53) (c := 0) (by decide +kernel) (by decide) ?_
        intro c52 hc52
        refine he_istore (n := 55) (i := 4) (by decide +kernel) rfl ?_
        refine ym_sto_l (T := o.length + r1.toInt.toNat) (PE := q * 8 + 32 + 8 * r1.toInt.toNat) (Mb := M) hE ?_ ?_ r1.toInt.toNat M3 (q * 8 + 32) o _ _ _ (by omega) (by omega) (by omega) (by omega) ho hV3 hF3' rfl rfl rfl
        · intro M4 r c1 c2 hV4 hr hF4
          refine K1 M4 r _ _ (by rw [if_pos k2, if_pos (by omega), if_pos ⟨by omega, by omega⟩]) ?_ ?_ hr hF4
          · rw [← k3]
            exact hV4
          · have := hV4.2.2.2.2.2.1
            have := yl_r hV4.1.1
            rw [← k3]
            omega
        · intro M4 r sh4 a4 o4 hC hsh4 hV4 hr hF4
          exact K2 M4 r sh4 a4 o4 (by rw [if_pos k2, if_pos (by omega), if_neg (by omega)]) hsh4 hV4 hr hF4
      · obtain rfl : sh = 1 := by omega
        refine he_ifne_t (n := 46) (t := 50) (by decide +kernel) (by omega) ?_
        refine he_iconst (n := 51) (c := 0) (by decide +kernel) (by decide) ?_
        intro c50 hc50
        exact no (h1 rfl) _ (by omega)
    · skip
      refine he_cmpne_t (n := 39) (t := 50) (by decide +kernel) (by omega) ?_
      refine he_iconst (n := 51) (c := 0) (by decide +kernel) (by decide) ?_
      intro c50 hc50
      refine no ?_ _ (by omega)
      rcases hsh with e | e
      · obtain ⟨k1, k2, k3, k4⟩ := h0 e
        rw [if_pos k2, if_neg (by omega)]
      · exact h1 e
  have r23 : ∀ (sh : Int) (M2 : Nat → mq_C) (r1 : Int32) (a2 : Nat), (sh = 0 ∨ sh = 1) → 0 ≤ r1.toInt → r1.toInt ≤ 65535 → yV E sh M0 M2 a2 o → (∀ b, b ≠ 234 → M2 b = M b) → (sh = 0 → a2 = q * 8 + 16 ∧ r1.toInt = xb (xB M0 252) (q * 8) 16) → (sh = 1 → (if q * 8 + 32 ≤ E then (if xb (xB M0 252) (q * 8) 16 + xb (xB M0 252) (q * 8 + 16) 16 = 65535 then (if (xb (xB M0 252) (q * 8) 16).toNat ≤ 200 - o.length ∧ q * 8 + 32 + 8 * (xb (xB M0 252) (q * 8) 16).toNat ≤ E then some (q * 8 + 32 + 8 * (xb (xB M0 252) (q * 8) 16).toNat, xby (xB M0 252) (xb (xB M0 252) (q * 8) 16).toNat (q * 8 + 32) o) else none) else none) else none) = none) → mq_R mq_PP (d + 2) 111 23 [some (.ref 234), none, none, none, none, none] [.int r1] (M2, z, u) Q := by
    intro sh M2 r1 a2 hsh g1 g2 hV2 hF2 h0 h1
    refine he_istore (n := 24) (i := 1) (by decide +kernel) rfl ?_
    refine he_aload (n := 25) (i := 0) (by decide +kernel) rfl ?_
    refine he_iconst (n := 27) (c := 16) (by decide +kernel) (by decide) ?_
    intro c25 hc25
    refine he_v1 (n := 30) (j := 109) (ci := 9) (mx := 4) (ns := [5157, 5159, 55, 146]) (by decide +kernel) ((hb_kd (a := 234) hV2.1.1 rfl).trans rfl) (by show 0 ≤ 8; omega) (by show 2 ≤ 4; omega) ?_
    rw [mq_e109]
    refine ym_num (k := 16) hE (by decide) (by omega) hV2 ?_ ?_
    · intro M3 r2 hEk hV3 hr hF3
      have hb := xb_b (B := (xB M0 252)) (fun i => xB_01 _) a2 16
      show mq_R mq_PP (d + 2) 111 30 _ [.int r2] (M3, z, u) Q
      refine r30 sh M3 r1 r2 (a2 + 16) hsh g1 g2 (by omega) (by omega) hV3 (fun b hb => (hF3 b hb).trans (hF2 b hb)) (fun e => ?_) h1
      obtain ⟨k1, k2⟩ := h0 e
      rw [k1] at hr
      exact ⟨by omega, by omega, k2, hr⟩
    · intro M3 r2 a3 hEk hV3 hr0 hr1 hF3
      show mq_R mq_PP (d + 2) 111 30 _ [.int r2] (M3, z, u) Q
      refine r30 1 M3 r1 r2 a3 (.inr rfl) g1 g2 (by omega) (by omega) hV3 (fun b hb => (hF3 b hb).trans (hF2 b hb)) (fun e => absurd e (by decide)) (fun _ => ?_)
      rcases hsh with e | e
      · obtain ⟨k1, k2⟩ := h0 e
        rw [if_neg (by omega)]
      · exact h1 e
  refine ym_num (k := 16) hE (by decide) (by omega) hV1 ?_ ?_
  · intro M2 r1 hEk hV2 hr hF2
    show mq_R mq_PP (d + 2) 111 23 _ [.int r1] (M2, z, u) Q
    exact r23 0 M2 r1 (q * 8 + 16) (.inl rfl) (by omega) (by omega) hV2 (fun b hb => (hF2 b hb).trans (wM1 b hb)) (fun _ => ⟨rfl, hr⟩) (fun e => absurd e (by decide))
  · intro M2 r1 a2 hEk hV2 hr0 hr1 hF2
    show mq_R mq_PP (d + 2) 111 23 _ [.int r1] (M2, z, u) Q
    exact r23 1 M2 r1 a2 (.inr rfl) (by omega) (by omega) hV2 (fun b hb => (hF2 b hb).trans (wM1 b hb)) (fun e => absurd e (by decide)) (fun _ => by rw [if_neg (by omega)])
