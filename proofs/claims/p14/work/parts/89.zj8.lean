/-! copyBlock of the class, exactly. -/
def xst (E : Nat) (B : Nat → Int) (a : Nat) (o : List Int) : Option (Nat × List Int) :=
  if (a + 7) / 8 * 8 + 32 ≤ E then
    (if xb B ((a + 7) / 8 * 8) 16 + xb B ((a + 7) / 8 * 8 + 16) 16 = 65535 then
      (if (xb B ((a + 7) / 8 * 8) 16).toNat ≤ 200 - o.length ∧ (a + 7) / 8 * 8 + 32 + 8 * (xb B ((a + 7) / 8 * 8) 16).toNat ≤ E then
        some ((a + 7) / 8 * 8 + 32 + 8 * (xb B ((a + 7) / 8 * 8) 16).toNat, xby B (xb B ((a + 7) / 8 * 8) 16).toNat ((a + 7) / 8 * 8 + 32) o) else none) else none) else none
theorem xj_copyBlock {bk : Int} {d z u pk f E ln a : Nat} {M0 M : Nat → mq_C} {o : List Int} {Q : (Option Value ⊕ Nat) → mq_S → Prop} {cnt : Nat} (hp : mz_GG.1 pk = some (64, ln, 1, [(0, 0, 255)])) (he : 8 * f + E ≤ 8 * ln) (hl : ln ≤ 240) (h9 : pk < 9 ∨ 24 ≤ pk) (hE8 : E = 8 * cnt) (hV : xV pk f E bk M0 M a o) (hb : bk = 0 ∨ bk = 1)
    (K1 : ∀ (M' : Nat → mq_C) (a' : Nat) (o' : List Int), bk = 0 → xst E (fun i => xB M0 pk (8 * f + i)) a o = some (a', o') → xV pk f E 0 M0 M' a' o' → (∀ b, b ≠ 9 → b ≠ 10 → M' b = M b) → Q (.inl none) (M', z, u))
    (K2 : ∀ (M' : Nat → mq_C) (a' : Nat), (bk = 1 ∨ xst E (fun i => xB M0 pk (8 * f + i)) a o = none) → xV pk f E 1 M0 M' a' o → (∀ b, b ≠ 9 → b ≠ 10 → M' b = M b) → Q (.inl none) (M', z, u)) : mq_R mq_PP (d + 1) 96 0 [some (.ref 9), none, none] [] (M, z, u) Q := by
  have vA : hv M 9 3 = 8 * (f : Int) + (a : Int) := hV.2.1
  have haE := hV.2.2.2.2.1
  unfold xst at K1 K2
  generalize hq : (a + 7) / 8 = q at K1 K2
  have hxb1 := xb_b (B := (fun i => xB M0 pk (8 * f + i))) (fun i => xB_01 _) (q * 8) 16
  have hxb2 := xb_b (B := (fun i => xB M0 pk (8 * f + i))) (fun i => xB_01 _) (q * 8 + 16) 16
  have p16 : (2 : Int) ^ 16 = 65536 := by decide
  refine he_aload (n := 1) (i := 0) (by decide +kernel) rfl ?_
  refine he_aload (n := 2) (i := 0) (by decide +kernel) rfl ?_
  refine hb_gfd (n := 5) (ci := 8) (j := 3) (ns := [1072, 22]) hV.1.1 (by decide +kernel) rfl rfl (by decide) rfl ?_
  intro v2 hv2 lv2 uv2
  refine he_iconst (n := 7) (c := 7) (by decide +kernel) (by decide) ?_
  intro c5 hc5
  have q2 : v2.toInt = 8 * (f : Int) + (a : Int) := by rw [← hv2]; exact vA
  refine he_iadd (n := 8) (by decide +kernel) (by omega) (by omega) ?_
  intro v7 hv7
  refine he_iconst (n := 10) (c := 8) (by decide +kernel) (by decide) ?_
  intro c8 hc8
  refine xe_div (c := 8) (n := 11) (by decide +kernel) hc8 (by decide) (by omega) ?_
  intro v10 hv10
  refine he_iconst (n := 13) (c := 8) (by decide +kernel) (by decide) ?_
  intro c11 hc11
  refine he_imul (n := 14) (p := v10.toInt * 8) (by decide +kernel) (by rw [hc11]) (by omega) (by omega) ?_
  intro v13 hv13
  refine hb_pfd (n := 17) (ci := 8) (j := 3) (t := 0) (ns := [1072, 22]) hV.1.1 (by decide +kernel) rfl rfl (by decide) (.inl rfl) ?_
  generalize hM1 : hb_set M 9 3 v13 = M1
  have hm1 : mz_sh mz_GG M1 := by rw [← hM1]; exact hb_set_sh hV.1.1 rfl rfl (by omega) (by omega)
  have eM1 : ∀ b j, b ≠ 9 ∨ j ≠ 3 → hv M1 b j = hv M b j := by intro b j h; rw [← hM1]; exact hb_set_n h
  have sM1 : hv M1 9 3 = v13.toInt := by rw [← hM1]; exact hb_set_v hV.1.1 rfl (by decide)
  have wM1 : ∀ b, b ≠ 9 → M1 b = M b := by intro b h; rw [← hM1]; exact hb_set_c h
  have hV1 : xV pk f E bk M0 M1 (q * 8) o := xV_at hV hM1 hm1 (by omega) (by omega)
  refine he_aload (n := 18) (i := 0) (by decide +kernel) rfl ?_
  refine he_iconst (n := 20) (c := 16) (by decide +kernel) (by decide) ?_
  intro c18 hc18
  refine he_v1 (n := 23) (j := 94) (ci := 8) (mx := 4) (ns := [2150, 2152, 1, 67]) (by decide +kernel) ((hb_kd (a := 9) hm1 rfl).trans rfl) (by show 0 ≤ 8; omega) (by show 2 ≤ 4; omega) ?_
  rw [mq_e94]
  -- behind the second number
  have r30 : ∀ (bk' : Int) (M3 : Nat → mq_C) (r1 r2 : Int32) (a3 : Nat), (bk' = 0 ∨ bk' = 1) → 0 ≤ r1.toInt → r1.toInt ≤ 65535 → 0 ≤ r2.toInt → r2.toInt ≤ 65535 → xV pk f E bk' M0 M3 a3 o → (∀ b, b ≠ 9 → M3 b = M b) → (bk' = 0 → a3 = q * 8 + 32 ∧ q * 8 + 32 ≤ E ∧ r1.toInt = xb (fun i => xB M0 pk (8 * f + i)) (q * 8) 16 ∧ r2.toInt = xb (fun i => xB M0 pk (8 * f + i)) (q * 8 + 16) 16 ∧ bk = 0) → (bk' = 1 → (bk = 1 ∨ (if q * 8 + 32 ≤ E then (if xb (fun i => xB M0 pk (8 * f + i)) (q * 8) 16 + xb (fun i => xB M0 pk (8 * f + i)) (q * 8 + 16) 16 = 65535 then (if (xb (fun i => xB M0 pk (8 * f + i)) (q * 8) 16).toNat ≤ 200 - o.length ∧ q * 8 + 32 + 8 * (xb (fun i => xB M0 pk (8 * f + i)) (q * 8) 16).toNat ≤ E then some (q * 8 + 32 + 8 * (xb (fun i => xB M0 pk (8 * f + i)) (q * 8) 16).toNat, xby (fun i => xB M0 pk (8 * f + i)) (xb (fun i => xB M0 pk (8 * f + i)) (q * 8) 16).toNat (q * 8 + 32) o) else none) else none) else none) = none)) → mq_R mq_PP (d + 1) 96 30 [some (.ref 9), some (.int r1), none] [.int r2] (M3, z, u) Q := by
    intro bk' M3 r1 r2 a3 hbk g1 g2 g3 g4 hV3 hF3 h0 h1
    refine he_istore (n := 31) (i := 2) (by decide +kernel) rfl ?_
    refine he_iload (n := 32) (i := 1) (by decide +kernel) rfl ?_
    refine he_iload (n := 33) (i := 2) (by decide +kernel) rfl ?_
    refine he_iadd (n := 34) (by decide +kernel) (by omega) (by omega) ?_
    intro v33 hv33
    refine he_iconst (n := 36) (c := 65535) (by decide +kernel) (by decide) ?_
    intro c34 hc34
    by_cases h36 : v33.toInt = c34.toInt
    · skip
      refine he_cmpeq_t (n := 39) (t := 44) (by decide +kernel) (by omega) ?_
      refine he_aload (n := 45) (i := 0) (by decide +kernel) rfl ?_
      refine hb_gfd (n := 48) (ci := 8) (j := 5) (ns := [1074, 28]) hV3.1.1 (by decide +kernel) rfl rfl (by decide) rfl ?_
      intro v45 hv45 lv45 uv45
      have q45 : v45.toInt = bk' := by rw [← hv45]; exact hV3.2.2.2.1
      by_cases h48 : v45.toInt = 0
      · obtain ⟨k1, k2, k3, k4, k5⟩ := h0 (by omega)
        obtain rfl : bk' = 0 := by omega
        rw [k1] at hV3
        refine he_ifne_f (n := 51) (t := 56) (by decide +kernel) (by omega) ?_
        refine he_aload (n := 52) (i := 0) (by decide +kernel) rfl ?_
        refine he_iload (n := 53) (i := 1) (by decide +kernel) rfl ?_
        refine he_v1 (n := 56) (j := 95) (ci := 8) (mx := 3) (ns := [2146, 2148, 0, 64]) (by decide +kernel) ((hb_kd (a := 9) hV3.1.1 rfl).trans rfl) (by show 0 ≤ 8; omega) (by show 2 ≤ 3; omega) ?_
        rw [mq_e95]
        have hV3' : xV pk f E 0 M0 M3 (8 * (q + 4)) o := by rw [show 8 * (q + 4) = q * 8 + 32 by omega]; exact hV3
        refine xj_copyBytes (q := q + 4) (n := r1.toInt.toNat) hp he hl h9 hV3' (by omega) (by omega) ?_ ?_
        · intro M4 c1 c2 hV4 hF4
          show mq_R mq_PP (d + 1) 96 56 _ [] (M4, z, u) Q
          refine he_ret (by decide +kernel) ?_
          refine K1 M4 (q * 8 + 32 + 8 * (xb (fun i => xB M0 pk (8 * f + i)) (q * 8) 16).toNat) _ k5 (by rw [if_pos k2, if_pos (by omega), if_pos ⟨by omega, by omega⟩]) ?_ (fun b n1 n2 => (hF4 b n1 n2).trans (hF3 b n1))
          rw [← k3, show q * 8 + 32 = 8 * (q + 4) by omega]
          exact hV4
        · intro M4 c1 hV4 hF4
          show mq_R mq_PP (d + 1) 96 56 _ [] (M4, z, u) Q
          refine he_ret (by decide +kernel) ?_
          refine K2 M4 _ (.inr ?_) hV4 (fun b n1 n2 => (hF4 b n1 n2).trans (hF3 b n1))
          rw [if_pos k2, if_pos (by omega), if_neg (by omega)]
      · skip
        refine he_ifne_t (n := 51) (t := 56) (by decide +kernel) (by omega) ?_
        refine he_ret (by decide +kernel) ?_
        obtain rfl : bk' = 1 := by omega
        exact K2 M3 a3 (h1 rfl) hV3 (fun b n1 _ => hF3 b n1)
    · skip
      refine he_cmpeq_f (n := 39) (t := 44) (by decide +kernel) (by omega) ?_
      refine he_aload (n := 40) (i := 0) (by decide +kernel) rfl ?_
      refine he_iconst (n := 41) (c := 1) (by decide +kernel) (by decide) ?_
      intro c40 hc40
      refine hb_pfd (n := 44) (ci := 8) (j := 5) (t := 1) (ns := [1074, 28]) hV3.1.1 (by decide +kernel) rfl rfl (by decide) (.inr ⟨rfl, he_01 (by omega)⟩) ?_
      generalize hM1 : hb_set M3 9 5 c40 = M1
      have hm1 : mz_sh mz_GG M1 := by rw [← hM1]; exact hb_set_sh hV3.1.1 rfl rfl (by omega) (by omega)
      have eM1 : ∀ b j, b ≠ 9 ∨ j ≠ 5 → hv M1 b j = hv M3 b j := by intro b j h; rw [← hM1]; exact hb_set_n h
      have sM1 : hv M1 9 5 = c40.toInt := by rw [← hM1]; exact hb_set_v hV3.1.1 rfl (by decide)
      have wM1 : ∀ b, b ≠ 9 → M1 b = M3 b := by intro b h; rw [← hM1]; exact hb_set_c h
      refine he_aload (n := 45) (i := 0) (by decide +kernel) rfl ?_
      refine hb_gfd (n := 48) (ci := 8) (j := 5) (ns := [1074, 28]) hm1 (by decide +kernel) rfl rfl (by decide) rfl ?_
      intro v45 hv45 lv45 uv45
      have hV4 := xV_br hV3 hM1 hm1 (by omega)
      have q45 : v45.toInt = 1 := by rw [← hv45]; exact hV4.2.2.2.1
      refine he_ifne_t (n := 51) (t := 56) (by decide +kernel) (by omega) ?_
      refine he_ret (by decide +kernel) ?_
      refine K2 M1 a3 ?_ hV4 (fun b n1 _ => (wM1 b n1).trans (hF3 b n1))
      rcases hbk with e | e
      · obtain ⟨k1, k2, k3, k4, k5⟩ := h0 e
        exact .inr (by rw [if_pos k2, if_neg (by omega)])
      · exact h1 e
  -- behind the first number
  have r23 : ∀ (bk' : Int) (M2 : Nat → mq_C) (r1 : Int32) (a2 : Nat), (bk' = 0 ∨ bk' = 1) → 0 ≤ r1.toInt → r1.toInt ≤ 65535 → xV pk f E bk' M0 M2 a2 o → (∀ b, b ≠ 9 → M2 b = M b) → (bk' = 0 → a2 = q * 8 + 16 ∧ r1.toInt = xb (fun i => xB M0 pk (8 * f + i)) (q * 8) 16 ∧ bk = 0) → (bk' = 1 → (bk = 1 ∨ (if q * 8 + 32 ≤ E then (if xb (fun i => xB M0 pk (8 * f + i)) (q * 8) 16 + xb (fun i => xB M0 pk (8 * f + i)) (q * 8 + 16) 16 = 65535 then (if (xb (fun i => xB M0 pk (8 * f + i)) (q * 8) 16).toNat ≤ 200 - o.length ∧ q * 8 + 32 + 8 * (xb (fun i => xB M0 pk (8 * f + i)) (q * 8) 16).toNat ≤ E then some (q * 8 + 32 + 8 * (xb (fun i => xB M0 pk (8 * f + i)) (q * 8) 16).toNat, xby (fun i => xB M0 pk (8 * f + i)) (xb (fun i => xB M0 pk (8 * f + i)) (q * 8) 16).toNat (q * 8 + 32) o) else none) else none) else none) = none)) → mq_R mq_PP (d + 1) 96 23 [some (.ref 9), none, none] [.int r1] (M2, z, u) Q := by
    intro bk' M2 r1 a2 hbk g1 g2 hV2 hF2 h0 h1
    refine he_istore (n := 24) (i := 1) (by decide +kernel) rfl ?_
    refine he_aload (n := 25) (i := 0) (by decide +kernel) rfl ?_
    refine he_iconst (n := 27) (c := 16) (by decide +kernel) (by decide) ?_
    intro c25 hc25
    refine he_v1 (n := 30) (j := 94) (ci := 8) (mx := 4) (ns := [2150, 2152, 1, 67]) (by decide +kernel) ((hb_kd (a := 9) hV2.1.1 rfl).trans rfl) (by show 0 ≤ 8; omega) (by show 2 ≤ 4; omega) ?_
    rw [mq_e94]
    refine xj_take (k := 16) hp he hl h9 (by decide) (by omega) hV2 ?_ ?_
    · intro M3 r2 hE hV3 hr hF3
      show mq_R mq_PP (d + 1) 96 30 _ [.int r2] (M3, z, u) Q
      have hb2 := xb_b (B := (fun i => xB M0 pk (8 * f + i))) (fun i => xB_01 _) a2 16
      refine r30 bk' M3 r1 r2 (a2 + 16) hbk g1 g2 (by omega) (by omega) hV3 (fun b hb => (hF3 b hb).trans (hF2 b hb)) (fun e => ?_) h1
      obtain ⟨k1, k2, k3⟩ := h0 e
      rw [k1] at hr
      exact ⟨by omega, by omega, k2, hr, k3⟩
    · intro M3 r2 hE hV3 hr hF3
      show mq_R mq_PP (d + 1) 96 30 _ [.int r2] (M3, z, u) Q
      refine r30 1 M3 r1 r2 a2 (.inr rfl) g1 g2 (by omega) (by omega) hV3 (fun b hb => (hF3 b hb).trans (hF2 b hb)) (fun e => absurd e (by decide)) (fun _ => ?_)
      rcases hbk with e | e
      · obtain ⟨k1, k2, k3⟩ := h0 e
        exact .inr (by rw [if_neg (by omega)])
      · exact h1 e
  refine xj_take (k := 16) hp he hl h9 (by decide) (by omega) hV1 ?_ ?_
  · intro M2 r1 hE hV2 hr hF2
    show mq_R mq_PP (d + 1) 96 23 _ [.int r1] (M2, z, u) Q
    exact r23 bk M2 r1 (q * 8 + 16) hb (by omega) (by omega) hV2 (fun b hb => (hF2 b hb).trans (wM1 b hb)) (fun e => ⟨rfl, hr, e⟩) (fun e => .inl e)
  · intro M2 r1 hE hV2 hr hF2
    show mq_R mq_PP (d + 1) 96 23 _ [.int r1] (M2, z, u) Q
    exact r23 1 M2 r1 (q * 8) (.inr rfl) (by omega) (by omega) hV2 (fun b hb => (hF2 b hb).trans (wM1 b hb)) (fun e => absurd e (by decide)) (fun _ => .inr (by rw [if_neg (by omega)]))
