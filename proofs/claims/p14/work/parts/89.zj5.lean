/-! The class's unpacker: lengths and distances. -/
section XD
variable {d k pc n z u : Nat} {L : mq_L} {st : List Value} {M : Nat → mq_C} {Q : (Option Value ⊕ Nat) → mq_S → Prop}
theorem xe_div {x y : Int32} {c : Int} (hat : mq_at mq_PP k pc = some (18, [n], [])) (hy : y.toInt = c) (hc : 0 < c) (hx : 0 ≤ x.toInt) (h : ∀ v : Int32, v.toInt = x.toInt / c → mq_R mq_PP d k n L (.int v :: st) (M, z, u) Q) : mq_R mq_PP d k pc L (.int y :: .int x :: st) (M, z, u) Q := by
  refine he_go hat ?_ (h (x / y) (mz_div32 hc hy hx))
  show (if y = 0 then none else mq_nx n L (.int (x / y) :: st) (M, z, u)) = _
  rw [if_neg (fun e => by rw [e] at hy; have : (0 : Int32).toInt = 0 := rfl; omega)]
theorem xe_rem {x y : Int32} {c : Int} (hat : mq_at mq_PP k pc = some (19, [n], [])) (hy : y.toInt = c) (hc : 0 < c) (hx : 0 ≤ x.toInt) (h : ∀ v : Int32, v.toInt = x.toInt % c → mq_R mq_PP d k n L (.int v :: st) (M, z, u) Q) : mq_R mq_PP d k pc L (.int y :: .int x :: st) (M, z, u) Q := by
  refine he_go hat ?_ (h (x - x / y * y) (by rw [mz_rem32 hc hy hx, Int.emod_def, Int.mul_comm]))
  show (if y = 0 then none else mq_nx n L (.int (x - x / y * y) :: st) (M, z, u)) = _
  rw [if_neg (fun e => by rw [e] at hy; have : (0 : Int32).toInt = 0 := rfl; omega)]
end XD
theorem xV_b5 {bk : Int} {pk f E a : Nat} {M0 M M' : Nat → mq_C} {o : List Int} {v : Int32} (h : xV pk f E bk M0 M a o) (hM : hb_set M 9 5 v = M') (hs : mz_sh mz_GG M') : xV pk f E v.toInt M0 M' a o := by
  obtain ⟨h1, h2, h3, h4, h5, h6, h7⟩ := h
  have e : ∀ b j, b ≠ 9 ∨ j ≠ 5 → hv M' b j = hv M b j := by intro b j h; rw [← hM]; exact hb_set_n h
  refine ⟨xU_set h1 hM hs (by decide), by rw [e _ _ (.inr (by decide))]; exact h2, by rw [e _ _ (.inr (by decide))]; exact h3, ?_, h5, by rw [e _ _ (.inr (by decide))]; exact h6, fun i hi => by rw [e _ _ (.inl (by decide))]; exact h7 i hi⟩
  have t : hv (hb_set M 9 5 v) 9 5 = v.toInt := hb_set_v h1.1 rfl (by decide)
  rw [← hM, t]
def xlen (E : Nat) (B : Nat → Int) (s a : Nat) : Option (Nat × Nat) := if s ≤ 264 then some (s - 254, a) else if s ≤ 284 then (if a + (s - 261) / 4 ≤ E then some (3 + (4 + (s - 261) % 4) * 2 ^ ((s - 261) / 4) + (xb B a ((s - 261) / 4)).toNat, a + (s - 261) / 4) else none) else if s = 285 then some (258, a) else none
def xdis (E : Nat) (B : Nat → Int) (s a : Nat) : Option (Nat × Nat) := if s < 4 then some (s + 1, a) else if s < 30 then (if a + (s / 2 - 1) ≤ E then some (1 + (2 + s % 2) * 2 ^ (s / 2 - 1) + (xb B a (s / 2 - 1)).toNat, a + (s / 2 - 1)) else none) else none
theorem xe_shm {x s v : Int32} {k : Nat} (hk : k ≤ 15) (h0 : 0 ≤ x.toInt) (h1 : x.toInt ≤ 7) (hs : s.toInt = (k : Int)) (hv : v = x <<< (s &&& 31)) : v.toInt = ((x.toInt.toNat * 2 ^ k : Nat) : Int) ∧ 0 ≤ v.toInt ∧ v.toInt ≤ 7 * 32768 := by
  have e := xe_shlk hk h0 (by omega) hs hv
  have hp : 2 ^ k ≤ 2 ^ 15 := Nat.pow_le_pow_right (by decide) hk
  have hp' : (2 : Nat) ^ 15 = 32768 := by decide
  have e2 : ((x.toInt.toNat * 2 ^ k : Nat) : Int) = x.toInt * 2 ^ k := by
    rw [Int.natCast_mul, Int.natCast_pow, show ((x.toInt.toNat : Nat) : Int) = x.toInt by omega]
    rfl
  have hm : x.toInt.toNat * 2 ^ k ≤ 7 * 32768 := Nat.mul_le_mul (by omega) (by omega)
  rw [e, ← e2]
  omega
theorem xlen_b {x : Int} {m k : Nat} (hx : x < 2 ^ k) (hm : m ≤ 7) (hk : k ≤ 5) : m * 2 ^ k + x.toNat ≤ 255 := by
  have hk' : k = 0 ∨ k = 1 ∨ k = 2 ∨ k = 3 ∨ k = 4 ∨ k = 5 := by omega
  rcases hk' with rfl | rfl | rfl | rfl | rfl | rfl
  · have : (2 : Int) ^ 0 = 1 := by decide
    omega
  · have : (2 : Int) ^ 1 = 2 := by decide
    omega
  · have : (2 : Int) ^ 2 = 4 := by decide
    omega
  · have : (2 : Int) ^ 3 = 8 := by decide
    omega
  · have : (2 : Int) ^ 4 = 16 := by decide
    omega
  · have : (2 : Int) ^ 5 = 32 := by decide
    omega
theorem xj_lengthOf {bk : Int} {d z u pk f E ln a : Nat} {M0 M : Nat → mq_C} {o : List Int} {Q : (Option Value ⊕ Nat) → mq_S → Prop} {s : Nat} {x1 : Int32} (hp : mz_GG.1 pk = some (64, ln, 1, [(0, 0, 255)])) (he : 8 * f + E ≤ 8 * ln) (hl : ln ≤ 240) (h9 : pk < 9 ∨ 24 ≤ pk) (hV : xV pk f E bk M0 M a o) (hb : bk = 0 ∨ bk = 1) (h1 : x1.toInt = (s : Int)) (h257 : 257 ≤ s)
    (K1 : ∀ (M' : Nat → mq_C) (r : Int32) (n a' : Nat), xlen E (fun i => xB M0 pk (8 * f + i)) s a = some (n, a') → n ≤ 258 → r.toInt = (n : Int) → xV pk f E bk M0 M' a' o → (∀ b, b ≠ 9 → M' b = M b) → Q (.inl (some (.int r))) (M', z, u))
    (K2 : ∀ (M' : Nat → mq_C) (r : Int32) (n : Nat), xlen E (fun i => xB M0 pk (8 * f + i)) s a = none → n ≤ 258 → r.toInt = (n : Int) → xV pk f E 1 M0 M' a o → (∀ b, b ≠ 9 → M' b = M b) → Q (.inl (some (.int r))) (M', z, u)) : mq_R mq_PP (d + 1) 103 0 [some (.ref 9), some (.int x1), none] [] (M, z, u) Q := by
  have vB : hv M 9 5 = bk := hV.2.2.2.1
  unfold xlen at K1 K2
  refine he_iload (n := 1) (i := 1) (by decide +kernel) rfl ?_
  refine he_iconst (n := 4) (c := 264) (by decide +kernel) (by decide) ?_
  intro c1 hc1
  by_cases h4 : s ≤ 264
  · skip
    refine he_cmpgt_f (n := 7) (t := 13) (by decide +kernel) (by omega) ?_
    refine he_iload (n := 8) (i := 1) (by decide +kernel) rfl ?_
    refine he_iconst (n := 11) (c := 254) (by decide +kernel) (by decide) ?_
    intro c8 hc8
    refine he_isub (n := 12) (by decide +kernel) (by omega) (by omega) ?_
    intro v11 hv11
    refine he_reti (by decide +kernel) ?_
    exact K1 M _ (s - 254) a (by rw [if_pos h4]) (by omega) (by omega) hV (fun _ _ => rfl)
  · rw [if_neg h4] at K1 K2
    refine he_cmpgt_t (n := 7) (t := 13) (by decide +kernel) (by omega) ?_
    refine he_iload (n := 14) (i := 1) (by decide +kernel) rfl ?_
    refine he_iconst (n := 17) (c := 285) (by decide +kernel) (by decide) ?_
    intro c14 hc14
    by_cases h17 : s ≤ 284
    · rw [if_pos h17] at K1 K2
      refine he_cmplt_t (n := 20) (t := 47) (by decide +kernel) (by omega) ?_
      refine he_iload (n := 48) (i := 1) (by decide +kernel) rfl ?_
      refine he_iconst (n := 51) (c := 261) (by decide +kernel) (by decide) ?_
      intro c48 hc48
      refine he_isub (n := 52) (by decide +kernel) (by omega) (by omega) ?_
      intro v51 hv51
      refine he_iconst (n := 53) (c := 4) (by decide +kernel) (by decide) ?_
      intro c52 hc52
      refine xe_div (c := 4) (n := 54) (by decide +kernel) hc52 (by decide) (by omega) ?_
      intro v53 hv53
      refine he_istore (n := 55) (i := 2) (by decide +kernel) rfl ?_
      refine he_iconst (n := 56) (c := 3) (by decide +kernel) (by decide) ?_
      intro c55 hc55
      refine he_iconst (n := 57) (c := 4) (by decide +kernel) (by decide) ?_
      intro c56 hc56
      refine he_iload (n := 58) (i := 1) (by decide +kernel) rfl ?_
      refine he_iconst (n := 61) (c := 261) (by decide +kernel) (by decide) ?_
      intro c58 hc58
      refine he_isub (n := 62) (by decide +kernel) (by omega) (by omega) ?_
      intro v61 hv61
      refine he_iconst (n := 63) (c := 4) (by decide +kernel) (by decide) ?_
      intro c62 hc62
      refine xe_rem (c := 4) (n := 64) (by decide +kernel) hc62 (by decide) (by omega) ?_
      intro v63 hv63
      refine he_iadd (n := 65) (by decide +kernel) (by omega) (by omega) ?_
      intro v64 hv64
      refine he_iload (n := 66) (i := 2) (by decide +kernel) rfl ?_
      refine he_ex2 (o := 15) (n := 67) (by decide +kernel) rfl ?_
      intro v66 hv66
      have ev66 : v66 = v64 <<< (v53 &&& 31) := hv66
      have bv66 := mz_i32 v66
      have hsh := xe_shm (x := v64) (k := (s - 261) / 4) (by omega) (by omega) (by omega) (by omega) ev66
      refine he_iadd (n := 68) (by decide +kernel) (by omega) (by omega) ?_
      intro v67 hv67
      refine he_aload (n := 69) (i := 0) (by decide +kernel) rfl ?_
      refine he_iload (n := 70) (i := 2) (by decide +kernel) rfl ?_
      refine he_v1 (n := 73) (j := 94) (ci := 8) (mx := 4) (ns := [2150, 2152, 1, 67]) (by decide +kernel) ((hb_kd (a := 9) hV.1.1 rfl).trans rfl) (by show 1 ≤ 8; omega) (by show 2 ≤ 4; omega) ?_
      rw [mq_e94]
      have e64 : v64.toInt.toNat = 4 + (s - 261) % 4 := by omega
      rw [e64] at hsh
      have hpw : (4 + (s - 261) % 4) * 2 ^ ((s - 261) / 4) ≤ 7 * 32 := Nat.mul_le_mul (by omega) (Nat.pow_le_pow_right (by decide) (show (s - 261) / 4 ≤ 5 by omega))
      have hxb := xb_b (B := (fun i => xB M0 pk (8 * f + i))) (fun i => xB_01 _) a ((s - 261) / 4)
      have hpq : (2 : Int) ^ ((s - 261) / 4) ≤ 2 ^ 5 := xe_pow (by omega)
      have hpq' : (2 : Int) ^ 5 = 32 := by decide
      have h258 : (4 + (s - 261) % 4) * 2 ^ ((s - 261) / 4) + (xb (fun i => xB M0 pk (8 * f + i)) a ((s - 261) / 4)).toNat ≤ 255 := xlen_b hxb.2 (by omega) (by omega)
      refine xj_take (k := (s - 261) / 4) hp he hl h9 (by omega) (by omega) hV ?_ ?_
      · intro M1 r hE hV1 hr hF1
        show mq_R mq_PP (d + 1) 103 73 _ [.int r, .int v67] (M1, z, u) Q
        refine he_iadd (n := 74) (by decide +kernel) (by omega) (by omega) ?_
        intro v73 hv73
        refine he_reti (by decide +kernel) ?_
        exact K1 M1 _ _ _ (by rw [if_pos hE]) (by omega) (by omega) hV1 hF1
      · intro M1 r hE hV1 hr hF1
        show mq_R mq_PP (d + 1) 103 73 _ [.int r, .int v67] (M1, z, u) Q
        refine he_iadd (n := 74) (by decide +kernel) (by omega) (by omega) ?_
        intro v73 hv73
        refine he_reti (by decide +kernel) ?_
        exact K2 M1 _ (3 + (4 + (s - 261) % 4) * 2 ^ ((s - 261) / 4)) (by rw [if_neg hE]) (by omega) (by omega) hV1 hF1
    · rw [if_neg h17] at K1 K2
      refine he_cmplt_f (n := 20) (t := 47) (by decide +kernel) (by omega) ?_
      refine he_aload (n := 21) (i := 0) (by decide +kernel) rfl ?_
      refine he_aload (n := 22) (i := 0) (by decide +kernel) rfl ?_
      refine hb_gfd (n := 25) (ci := 8) (j := 5) (ns := [1074, 28]) hV.1.1 (by decide +kernel) rfl rfl (by decide) rfl ?_
      intro v22 hv22 lv22 uv22
      have q22 : v22.toInt = bk := by rw [← hv22]; exact vB
      by_cases h25 : v22.toInt = 0
      · skip
        refine he_ifne_f (n := 28) (t := 35) (by decide +kernel) (by omega) ?_
        refine he_iload (n := 29) (i := 1) (by decide +kernel) rfl ?_
        refine he_iconst (n := 32) (c := 285) (by decide +kernel) (by decide) ?_
        intro c29 hc29
        by_cases h32 : s = 285
        · rw [if_pos h32] at K1
          refine he_cmple_t (n := 35) (t := 39) (by decide +kernel) (by omega) ?_
          refine he_iconst (n := 40) (c := 0) (by decide +kernel) (by decide) ?_
          intro c39 hc39
          refine hb_pfd (n := 43) (ci := 8) (j := 5) (t := 1) (ns := [1074, 28]) hV.1.1 (by decide +kernel) rfl rfl (by decide) (.inr ⟨rfl, he_01 (by omega)⟩) ?_
          generalize hM1 : hb_set M 9 5 c39 = M1
          have hm1 : mz_sh mz_GG M1 := by rw [← hM1]; exact hb_set_sh hV.1.1 rfl rfl (by omega) (by omega)
          have eM1 : ∀ b j, b ≠ 9 ∨ j ≠ 5 → hv M1 b j = hv M b j := by intro b j h; rw [← hM1]; exact hb_set_n h
          have sM1 : hv M1 9 5 = c39.toInt := by rw [← hM1]; exact hb_set_v hV.1.1 rfl (by decide)
          have wM1 : ∀ b, b ≠ 9 → M1 b = M b := by intro b h; rw [← hM1]; exact hb_set_c h
          refine he_iconst (n := 46) (c := 258) (by decide +kernel) (by decide) ?_
          intro c43 hc43
          refine he_reti (by decide +kernel) ?_
          have hV1 := xV_b5 hV hM1 hm1
          exact K1 M1 _ 258 a rfl (by omega) (by omega) (by rw [show bk = c39.toInt by omega]; exact hV1) wM1
        · rw [if_neg h32] at K2
          refine he_cmple_f (n := 35) (t := 39) (by decide +kernel) (by omega) ?_
          refine he_iconst (n := 36) (c := 1) (by decide +kernel) (by decide) ?_
          intro c35 hc35
          refine he_goto (t := 40) (by decide +kernel) ?_
          refine hb_pfd (n := 43) (ci := 8) (j := 5) (t := 1) (ns := [1074, 28]) hV.1.1 (by decide +kernel) rfl rfl (by decide) (.inr ⟨rfl, he_01 (by omega)⟩) ?_
          generalize hM1 : hb_set M 9 5 c35 = M1
          have hm1 : mz_sh mz_GG M1 := by rw [← hM1]; exact hb_set_sh hV.1.1 rfl rfl (by omega) (by omega)
          have eM1 : ∀ b j, b ≠ 9 ∨ j ≠ 5 → hv M1 b j = hv M b j := by intro b j h; rw [← hM1]; exact hb_set_n h
          have sM1 : hv M1 9 5 = c35.toInt := by rw [← hM1]; exact hb_set_v hV.1.1 rfl (by decide)
          have wM1 : ∀ b, b ≠ 9 → M1 b = M b := by intro b h; rw [← hM1]; exact hb_set_c h
          refine he_iconst (n := 46) (c := 258) (by decide +kernel) (by decide) ?_
          intro c43 hc43
          refine he_reti (by decide +kernel) ?_
          have hV1 := xV_b5 hV hM1 hm1
          exact K2 M1 _ 258 rfl (by omega) (by omega) (by rw [show (1 : Int) = c35.toInt by omega]; exact hV1) wM1
      · skip
        refine he_ifne_t (n := 28) (t := 35) (by decide +kernel) (by omega) ?_
        refine he_iconst (n := 36) (c := 1) (by decide +kernel) (by decide) ?_
        intro c35 hc35
        refine he_goto (t := 40) (by decide +kernel) ?_
        refine hb_pfd (n := 43) (ci := 8) (j := 5) (t := 1) (ns := [1074, 28]) hV.1.1 (by decide +kernel) rfl rfl (by decide) (.inr ⟨rfl, he_01 (by omega)⟩) ?_
        generalize hM1 : hb_set M 9 5 c35 = M1
        have hm1 : mz_sh mz_GG M1 := by rw [← hM1]; exact hb_set_sh hV.1.1 rfl rfl (by omega) (by omega)
        have eM1 : ∀ b j, b ≠ 9 ∨ j ≠ 5 → hv M1 b j = hv M b j := by intro b j h; rw [← hM1]; exact hb_set_n h
        have sM1 : hv M1 9 5 = c35.toInt := by rw [← hM1]; exact hb_set_v hV.1.1 rfl (by decide)
        have wM1 : ∀ b, b ≠ 9 → M1 b = M b := by intro b h; rw [← hM1]; exact hb_set_c h
        refine he_iconst (n := 46) (c := 258) (by decide +kernel) (by decide) ?_
        intro c43 hc43
        refine he_reti (by decide +kernel) ?_
        have hV1 := xV_b5 hV hM1 hm1
        by_cases h32 : s = 285
        · rw [if_pos h32] at K1
          exact K1 M1 _ 258 a rfl (by omega) (by omega) (by rw [show bk = c35.toInt by omega]; exact hV1) wM1
        · rw [if_neg h32] at K2
          exact K2 M1 _ 258 rfl (by omega) (by omega) (by rw [show (1 : Int) = c35.toInt by omega]; exact hV1) wM1
theorem xj_distanceOf {bk : Int} {d z u pk f E ln a : Nat} {M0 M : Nat → mq_C} {o : List Int} {Q : (Option Value ⊕ Nat) → mq_S → Prop} {s : Nat} {x1 : Int32} (hp : mz_GG.1 pk = some (64, ln, 1, [(0, 0, 255)])) (he : 8 * f + E ≤ 8 * ln) (hl : ln ≤ 240) (h9 : pk < 9 ∨ 24 ≤ pk) (hV : xV pk f E bk M0 M a o) (h1 : x1.toInt = (s : Int)) (hs : s ≤ 40)
    (K1 : ∀ (M' : Nat → mq_C) (r : Int32) (n a' : Nat), xdis E (fun i => xB M0 pk (8 * f + i)) s a = some (n, a') → 1 ≤ n → n ≤ 65536 → r.toInt = (n : Int) → xV pk f E bk M0 M' a' o → (∀ b, b ≠ 9 → M' b = M b) → Q (.inl (some (.int r))) (M', z, u))
    (K2 : ∀ (M' : Nat → mq_C) (r : Int32) (n : Nat), xdis E (fun i => xB M0 pk (8 * f + i)) s a = none → n ≤ 65536 → r.toInt = (n : Int) → xV pk f E 1 M0 M' a o → (∀ b, b ≠ 9 → M' b = M b) → Q (.inl (some (.int r))) (M', z, u)) : mq_R mq_PP (d + 1) 104 0 [some (.ref 9), some (.int x1), none] [] (M, z, u) Q := by
  unfold xdis at K1 K2
  refine he_iload (n := 1) (i := 1) (by decide +kernel) rfl ?_
  refine he_iconst (n := 2) (c := 4) (by decide +kernel) (by decide) ?_
  intro c1 hc1
  by_cases h2 : s < 4
  · skip
    refine he_cmpge_f (n := 5) (t := 9) (by decide +kernel) (by omega) ?_
    refine he_iload (n := 6) (i := 1) (by decide +kernel) rfl ?_
    refine he_iconst (n := 7) (c := 1) (by decide +kernel) (by decide) ?_
    intro c6 hc6
    refine he_iadd (n := 8) (by decide +kernel) (by omega) (by omega) ?_
    intro v7 hv7
    refine he_reti (by decide +kernel) ?_
    exact K1 M _ (s + 1) a (by rw [if_pos h2]) (by omega) (by omega) (by omega) hV (fun _ _ => rfl)
  · rw [if_neg h2] at K1 K2
    refine he_cmpge_t (n := 5) (t := 9) (by decide +kernel) (by omega) ?_
    refine he_iload (n := 10) (i := 1) (by decide +kernel) rfl ?_
    refine he_iconst (n := 12) (c := 30) (by decide +kernel) (by decide) ?_
    intro c10 hc10
    by_cases h12 : s < 30
    · rw [if_pos h12] at K1 K2
      refine he_cmplt_t (n := 15) (t := 22) (by decide +kernel) (by omega) ?_
      refine he_iload (n := 23) (i := 1) (by decide +kernel) rfl ?_
      refine he_iconst (n := 24) (c := 2) (by decide +kernel) (by decide) ?_
      intro c23 hc23
      refine xe_div (c := 2) (n := 25) (by decide +kernel) hc23 (by decide) (by omega) ?_
      intro v24 hv24
      refine he_iconst (n := 26) (c := 1) (by decide +kernel) (by decide) ?_
      intro c25 hc25
      refine he_isub (n := 27) (by decide +kernel) (by omega) (by omega) ?_
      intro v26 hv26
      refine he_istore (n := 28) (i := 2) (by decide +kernel) rfl ?_
      refine he_iconst (n := 29) (c := 1) (by decide +kernel) (by decide) ?_
      intro c28 hc28
      refine he_iconst (n := 30) (c := 2) (by decide +kernel) (by decide) ?_
      intro c29 hc29
      refine he_iload (n := 31) (i := 1) (by decide +kernel) rfl ?_
      refine he_iconst (n := 32) (c := 2) (by decide +kernel) (by decide) ?_
      intro c31 hc31
      refine xe_rem (c := 2) (n := 33) (by decide +kernel) hc31 (by decide) (by omega) ?_
      intro v32 hv32
      refine he_iadd (n := 34) (by decide +kernel) (by omega) (by omega) ?_
      intro v33 hv33
      refine he_iload (n := 35) (i := 2) (by decide +kernel) rfl ?_
      refine he_ex2 (o := 15) (n := 36) (by decide +kernel) rfl ?_
      intro v35 hv35
      have ev35 : v35 = v33 <<< (v26 &&& 31) := hv35
      have bv35 := mz_i32 v35
      have hsh := xe_shm (x := v33) (k := s / 2 - 1) (by omega) (by omega) (by omega) (by omega) ev35
      refine he_iadd (n := 37) (by decide +kernel) (by omega) (by omega) ?_
      intro v36 hv36
      refine he_aload (n := 38) (i := 0) (by decide +kernel) rfl ?_
      refine he_iload (n := 39) (i := 2) (by decide +kernel) rfl ?_
      refine he_v1 (n := 42) (j := 94) (ci := 8) (mx := 4) (ns := [2150, 2152, 1, 67]) (by decide +kernel) ((hb_kd (a := 9) hV.1.1 rfl).trans rfl) (by show 1 ≤ 8; omega) (by show 2 ≤ 4; omega) ?_
      rw [mq_e94]
      have e33 : v33.toInt.toNat = 2 + s % 2 := by omega
      rw [e33] at hsh
      have hpw : (2 + s % 2) * 2 ^ (s / 2 - 1) ≤ 3 * 8192 := Nat.mul_le_mul (by omega) (Nat.pow_le_pow_right (by decide) (show s / 2 - 1 ≤ 13 by omega))
      have hxb := xb_b (B := (fun i => xB M0 pk (8 * f + i))) (fun i => xB_01 _) a (s / 2 - 1)
      have hpq : (2 : Int) ^ (s / 2 - 1) ≤ 2 ^ 13 := xe_pow (by omega)
      have hpq' : (2 : Int) ^ 13 = 8192 := by decide
      refine xj_take (k := s / 2 - 1) hp he hl h9 (by omega) (by omega) hV ?_ ?_
      · intro M1 r hE hV1 hr hF1
        show mq_R mq_PP (d + 1) 104 42 _ [.int r, .int v36] (M1, z, u) Q
        refine he_iadd (n := 43) (by decide +kernel) (by omega) (by omega) ?_
        intro v42 hv42
        refine he_reti (by decide +kernel) ?_
        exact K1 M1 _ _ _ (by rw [if_pos hE]) (by omega) (by omega) (by omega) hV1 hF1
      · intro M1 r hE hV1 hr hF1
        show mq_R mq_PP (d + 1) 104 42 _ [.int r, .int v36] (M1, z, u) Q
        refine he_iadd (n := 43) (by decide +kernel) (by omega) (by omega) ?_
        intro v42 hv42
        refine he_reti (by decide +kernel) ?_
        exact K2 M1 _ (1 + (2 + s % 2) * 2 ^ (s / 2 - 1)) (by rw [if_neg hE]) (by omega) (by omega) hV1 hF1
    · rw [if_neg h12] at K1 K2
      refine he_cmplt_f (n := 15) (t := 22) (by decide +kernel) (by omega) ?_
      refine he_aload (n := 16) (i := 0) (by decide +kernel) rfl ?_
      refine he_iconst (n := 17) (c := 1) (by decide +kernel) (by decide) ?_
      intro c16 hc16
      refine hb_pfd (n := 20) (ci := 8) (j := 5) (t := 1) (ns := [1074, 28]) hV.1.1 (by decide +kernel) rfl rfl (by decide) (.inr ⟨rfl, he_01 (by omega)⟩) ?_
      generalize hM1 : hb_set M 9 5 c16 = M1
      have hm1 : mz_sh mz_GG M1 := by rw [← hM1]; exact hb_set_sh hV.1.1 rfl rfl (by omega) (by omega)
      have eM1 : ∀ b j, b ≠ 9 ∨ j ≠ 5 → hv M1 b j = hv M b j := by intro b j h; rw [← hM1]; exact hb_set_n h
      have sM1 : hv M1 9 5 = c16.toInt := by rw [← hM1]; exact hb_set_v hV.1.1 rfl (by decide)
      have wM1 : ∀ b, b ≠ 9 → M1 b = M b := by intro b h; rw [← hM1]; exact hb_set_c h
      refine he_iconst (n := 21) (c := 0) (by decide +kernel) (by decide) ?_
      intro c20 hc20
      refine he_reti (by decide +kernel) ?_
      exact K2 M1 _ 0 rfl (by omega) (by omega) (xV_br hV hM1 hm1 (by omega)) wM1
