/-! Names out of bytes; the model's record, exactly. -/
theorem xnN_h {b : Nat → Int} : ∀ (m a : Nat), xnN b a (m + 1) = (b a).toNat + 256 * xnN b (a + 1) m := by
  intro m
  induction m with
  | zero =>
    intro a
    show 0 + (b (a + 0)).toNat * 2 ^ (8 * 0) = (b a).toNat + 256 * 0
    rw [Nat.add_zero, Nat.mul_zero, Nat.pow_zero]
    omega
  | succ m ih =>
    intro a
    show xnN b a (m + 1) + (b (a + (m + 1))).toNat * 2 ^ (8 * (m + 1)) = (b a).toNat + 256 * (xnN b (a + 1) m + (b (a + 1 + m)).toNat * 2 ^ (8 * m))
    rw [ih a, show a + (m + 1) = a + 1 + m by omega, show 8 * (m + 1) = 8 + 8 * m by omega, Nat.pow_add, show (2 : Nat) ^ 8 = 256 by decide, Nat.mul_add, ← Nat.mul_assoc (b (a + 1 + m)).toNat, Nat.mul_comm (b (a + 1 + m)).toNat 256, Nat.mul_assoc]
    omega
def xgood (b : Nat → Int) (a n : Nat) : Prop := ∀ i, i < n → 33 ≤ b (a + i) ∧ b (a + i) ≤ 126
theorem xo_ng {b : Nat → Int} : ∀ (n a f : Nat) (c : Int), n ≤ f → (∀ i, i < n → 0 ≤ b (a + i) ∧ b (a + i) ≤ 255) → 0 ≤ c → (xgood b a n → lx_r f (xnN b a n : Nat) c = c + (n : Int)) ∧ (¬ xgood b a n → lx_r f (xnN b a n : Nat) c ≠ c + (n : Int)) := by
  intro n
  induction n with
  | zero =>
    intro a f c _ _ hc
    refine ⟨fun _ => ?_, fun h => absurd (fun i hi => absurd hi (Nat.not_lt_zero i)) h⟩
    rw [show xnN b a 0 = 0 from rfl, lx_r0 (by omega)]
    omega
  | succ n ih =>
    intro a f c hf hb hc
    obtain ⟨f, rfl⟩ : ∃ g, f = g + 1 := ⟨f - 1, by omega⟩
    have hb0 := hb 0 (by omega)
    rw [Nat.add_zero] at hb0
    have i2 := ih (a + 1) f (c + 1) (by omega) (fun i hi => by have := hb (i + 1) (by omega); rw [show a + 1 + i = a + (i + 1) by omega]; exact this) (by omega)
    rw [xnN_h]
    generalize hy : xnN b (a + 1) n = y at i2
    have e1 : ((((b a).toNat + 256 * y : Nat) : Int)) % 256 = b a := by omega
    have e2 : ((((b a).toNat + 256 * y : Nat) : Int)) / 256 = (y : Int) := by omega
    have sp : xgood b a (n + 1) ↔ (33 ≤ b a ∧ b a ≤ 126) ∧ xgood b (a + 1) n := by
      constructor
      · intro h
        have h0 := h 0 (by omega)
        rw [Nat.add_zero] at h0
        exact ⟨h0, fun i hi => by have := h (i + 1) (by omega); rw [show a + 1 + i = a + (i + 1) by omega]; exact this⟩
      · rintro ⟨h0, h⟩ i hi
        by_cases e : i = 0
        · rw [e, Nat.add_zero]
          exact h0
        · have := h (i - 1) (by omega)
          rw [show a + 1 + (i - 1) = a + i by omega] at this
          exact this
    by_cases g : 33 ≤ b a ∧ b a ≤ 126
    · have e3 : lx_r (f + 1) (((b a).toNat + 256 * y : Nat) : Int) c = lx_r f (y : Int) (c + 1) := by
        rw [lx_rs (by omega) (by omega) (by omega), e2]
      rw [e3]
      refine ⟨fun h => ?_, fun h => ?_⟩
      · rw [i2.1 (sp.mp h).2]
        omega
      · have := i2.2 (fun h2 => h (sp.mpr ⟨g, h2⟩))
        omega
    · refine ⟨fun h => absurd (sp.mp h).1 g, fun _ => ?_⟩
      by_cases g0 : ((b a).toNat + 256 * y : Nat) = 0
      · rw [g0, lx_r0 (by omega)]
        omega
      · rw [lx_rb (by omega) (by omega)]
        omega
theorem xo_nm {b : Nat → Int} {a n : Nat} (hn1 : 1 ≤ n) (hn4 : n ≤ 4) (hb : ∀ i, i < n → 0 ≤ b (a + i) ∧ b (a + i) ≤ 255) : hb_nm (xs32 (xnN b a n)) = (n : Int) ↔ xgood b a n := by
  have h1 := xo_ng n a 4 0 hn4 hb (by omega)
  have hlt := xnN_lt n (fun i hi => (hb i hi).2)
  have hp : 2 ^ (8 * n) ≤ 2 ^ (8 * 4) := Nat.pow_le_pow_right (by decide) (by omega)
  have h32 : (2 : Nat) ^ (8 * 4) = 4294967296 := by decide
  have hpos : ∀ x : Int, 0 < x → hb_nm x = lx_r 4 x 0 := by
    intro x hx
    unfold hb_nm lx_r
    by_cases g : hb_ng 4 x = true
    · rw [if_pos ⟨hx, g⟩, if_pos g]
      omega
    · rw [if_neg (fun h => g h.2), if_neg g]
  have hneg : ∀ x : Int, x ≤ 0 → hb_nm x = 0 := by
    intro x hx
    unfold hb_nm
    rw [if_neg (by omega)]
  generalize xnN b a n = v at h1 hlt
  by_cases c1 : v < 2147483648
  · rw [xs32_p c1]
    by_cases c0 : v = 0
    · rw [c0, hneg _ (by omega)]
      constructor
      · intro h
        omega
      · intro h
        have := h1.1 h
        rw [c0, lx_r0 (by omega)] at this
        omega
    · rw [hpos _ (by omega)]
      constructor
      · intro h
        exact Classical.byContradiction fun g => h1.2 g (by rw [h]; omega)
      · intro h
        rw [h1.1 h]
        omega
  · have e : xs32 v = (v : Int) - 4294967296 := by unfold xs32; rw [if_neg (by omega)]
    rw [e, hneg _ (by omega)]
    constructor
    · intro h
      omega
    · intro h
      have h2 := h1.1 h
      rw [lx_neg (by omega) (by omega)] at h2
      omega
theorem xo_or16 {x y s : Int32} (h0 : 0 ≤ x.toInt) (h1 : x.toInt ≤ 65535) (g0 : 0 ≤ y.toInt) (g1 : y.toInt ≤ 65535) (hs : s.toInt = 16) : mz_un (x ||| (y <<< (s &&& 31))) = x.toInt.toNat + y.toInt.toNat * 65536 := by
  obtain ⟨p1, p2⟩ := mz_un_p h0
  obtain ⟨q1, q2⟩ := mz_un_p g0
  have hx : mz_un x = x.toInt.toNat := by omega
  have hy : mz_un y = y.toInt.toNat := by omega
  have p16 : (2 : Nat) ^ 16 = 65536 := by decide
  have e : mz_un (y <<< (s &&& 31)) = 2 ^ 16 * mz_un y := by
    rw [xo_shl (k := 16) (by omega) (by omega), hy, p16, Nat.mod_eq_of_lt (by omega), Nat.mul_comm]
  rw [mz_or_un, e, Nat.or_comm, ← Nat.two_pow_add_eq_or_of_lt (by omega), hx, hy, p16]
  omega
theorem xnN_4 {b : Nat → Int} {a : Nat} : xnN b a 4 = xnN b a 2 + xnN b (a + 2) 2 * 65536 := by
  have e4 : xnN b a 4 = (b a).toNat + 256 * xnN b (a + 1) 3 := xnN_h 3 a
  have e3 : xnN b (a + 1) 3 = (b (a + 1)).toNat + 256 * xnN b (a + 2) 2 := xnN_h 2 (a + 1)
  have e2 : xnN b a 2 = (b a).toNat + 256 * xnN b (a + 1) 1 := xnN_h 1 a
  have e1 : xnN b (a + 1) 1 = (b (a + 1)).toNat + 256 * 0 := xnN_h 0 (a + 1)
  omega
theorem yp_nm {d z u s : Nat} {M : Nat → mq_C} {Q : (Option Value ⊕ Nat) → mq_S → Prop} {x1 x2 x3 x4 x5 x6 : Int32} {a n : Nat} (hm : mz_sh mz_GG M) (h1 : x1.toInt = (s : Int)) (hs : s < 4) (h3 : x3.toInt = (a : Int)) (h6 : x6.toInt = (n : Int)) (hn4 : n ≤ 4) (ha : a + 1 + n ≤ 240) (K0 : ∀ r : Int32, ¬ xgood (ybt M s) (a + 1) n → r.toInt = -1 → Q (.inl (some (.int r))) (M, z, u)) (K : ∀ (x7 x8 : Int32) (o9 : Option Value), xgood (ybt M s) (a + 1) n → x7.toInt = xs32 (xnN (ybt M s) (a + 1) n) → mq_nl o9 = true → mq_R mq_PP (d + 2) 132 97 [some (.ref 234), some (.int x1), some (.int x2), some (.int x3), some (.int x4), some (.int x5), some (.int x6), some (.int x7), some (.int x8), o9, none, none, none, none] [] (M, z, u) Q) : ∀ (k : Nat) (x7 x8 : Int32) (o9 : Option Value), k ≤ n → x8.toInt = (k : Int) → mq_nl o9 = true → (∀ i, k ≤ i → i < n → 33 ≤ ybt M s (a + 1 + i) ∧ ybt M s (a + 1 + i) ≤ 126) → mz_un x7 = xnN (ybt M s) (a + 1 + k) (n - k) → mq_R mq_PP (d + 2) 132 49 [some (.ref 234), some (.int x1), some (.int x2), some (.int x3), some (.int x4), some (.int x5), some (.int x6), some (.int x7), some (.int x8), o9, none, none, none, none] [] (M, z, u) Q := by
  intro k
  induction k with
  | zero =>
    intro x7 x8 o9 hk e8 n9 hg he
    refine he_iload (n := 51) (i := 8) (by decide +kernel) rfl ?_
    refine he_ifle_t (n := 54) (t := 97) (by decide +kernel) (by omega) ?_
    refine K x7 x8 o9 (fun i hi => hg i (by omega) hi) ?_ n9
    rw [Nat.add_zero, Nat.sub_zero] at he
    rw [← he]
    exact mz_un_ti
  | succ k ih =>
    intro x7 x8 o9 hk e8 n9 hg he
    refine he_iload (n := 51) (i := 8) (by decide +kernel) rfl ?_
    refine he_ifle_f (n := 54) (t := 97) (by decide +kernel) (by omega) ?_
    refine he_aload (n := 55) (i := 0) (by decide +kernel) rfl ?_
    refine he_iload (n := 56) (i := 1) (by decide +kernel) rfl ?_
    refine he_iload (n := 57) (i := 3) (by decide +kernel) rfl ?_
    refine he_iload (n := 59) (i := 8) (by decide +kernel) rfl ?_
    refine he_iadd (n := 60) (by decide +kernel) (by omega) (by omega) ?_
    intro v59 hv59
    refine he_v2 (n := 63) (j := 130) (ci := 9) (mx := 3) (ns := [6038, 6040, 76, 217]) (by decide +kernel) ((hb_kd (a := 234) hm rfl).trans rfl) (by show 0 ≤ 8; omega) (by show 3 ≤ 3; omega) ?_
    rw [mq_e130]
    refine yp_by (s := s) (t := a + 1 + k) hm h1 hs (by omega) (by omega) ?_
    intro r9 hr9 lr9 ur9
    show mq_R mq_PP (d + 2) 132 63 _ [.int r9] (M, z, u) Q
    refine he_istore (n := 65) (i := 9) (by decide +kernel) rfl ?_
    refine he_iload (n := 67) (i := 9) (by decide +kernel) rfl ?_
    refine he_iconst (n := 69) (c := 33) (by decide +kernel) (by decide) ?_
    intro cb67 hcb67
    by_cases g69 : r9.toInt < 33
    · skip
      refine he_cmplt_t (n := 72) (t := 79) (by decide +kernel) (by omega) ?_
      refine he_iconst (n := 80) (c := -1) (by decide +kernel) (by decide) ?_
      intro cb79 hcb79
      refine he_reti (by decide +kernel) ?_
      exact K0 _ (fun h => by have := h k (by omega); omega) (by omega)
    refine he_cmplt_f (n := 72) (t := 79) (by decide +kernel) (by omega) ?_
    refine he_iload (n := 74) (i := 9) (by decide +kernel) rfl ?_
    refine he_iconst (n := 76) (c := 126) (by decide +kernel) (by decide) ?_
    intro cb74 hcb74
    by_cases g76 : r9.toInt ≤ 126
    rotate_left
    · skip
      refine he_cmple_f (n := 79) (t := 81) (by decide +kernel) (by omega) ?_
      refine he_iconst (n := 80) (c := -1) (by decide +kernel) (by decide) ?_
      intro cb79 hcb79
      refine he_reti (by decide +kernel) ?_
      exact K0 _ (fun h => by have := h k (by omega); omega) (by omega)
    refine he_cmple_t (n := 79) (t := 81) (by decide +kernel) (by omega) ?_
    refine he_iload (n := 83) (i := 7) (by decide +kernel) rfl ?_
    refine he_iconst (n := 85) (c := 8) (by decide +kernel) (by decide) ?_
    intro cb83 hcb83
    refine he_ex2 (o := 15) (n := 86) (by decide +kernel) rfl ?_
    intro vb85 hvb85
    have evb85 : vb85 = x7 <<< (cb83 &&& 31) := hvb85
    have bvb85 := mz_i32 vb85
    refine he_iload (n := 88) (i := 9) (by decide +kernel) rfl ?_
    refine he_ex2 (o := 13) (n := 89) (by decide +kernel) rfl ?_
    intro vb88 hvb88
    have evb88 : vb88 = vb85 ||| r9 := hvb88
    have bvb88 := mz_i32 vb88
    refine he_istore (n := 91) (i := 7) (by decide +kernel) rfl ?_
    refine he_iinc (n := 94) (i := 8) (c := -1) (L' := fun v => [some (.ref (234)), some (.int x1), some (.int x2), some (.int x3), some (.int x4), some (.int x5), some (.int x6), some (.int vb88), some (.int v), some (.int r9), none, none, none, none]) (by decide +kernel) (by decide) rfl (fun _ => rfl) (by omega) (by omega) ?_
    intro ib91 hib91
    refine he_goto (t := 49) (by decide +kernel) ?_
    have hlt : mz_un x7 < 2 ^ (8 * (n - (k + 1))) := by
      rw [he]
      exact xnN_lt _ (fun i hi => (ybt_r hm hs (t := a + 1 + (k + 1) + i) (by omega)).2)
    have hp : 2 ^ (8 * (n - (k + 1))) ≤ 2 ^ 24 := Nat.pow_le_pow_right (by decide) (by omega)
    have p24 : (2 : Nat) ^ 24 = 16777216 := by decide
    have p8 : (2 : Nat) ^ 8 = 256 := by decide
    have q9 := mz_un_p (x := r9) (by omega)
    have e85 : mz_un vb85 = 2 ^ 8 * mz_un x7 := by
      rw [evb85, xo_shl (k := 8) (by omega) (by omega), Nat.mod_eq_of_lt (by omega), Nat.mul_comm]
    refine ih _ _ _ (by omega) (by omega) rfl (fun i hi hi2 => ?_) ?_
    · by_cases e : i = k
      · rw [e]
        omega
      · exact hg i (by omega) hi2
    · rw [evb88, mz_or_un, e85, ← Nat.two_pow_add_eq_or_of_lt (by omega), he, show n - k = (n - (k + 1)) + 1 by omega, xnN_h, show a + 1 + k + 1 = a + 1 + (k + 1) by omega, p8]
      omega
theorem yp_rec {d z u s : Nat} {M : Nat → mq_C} {Q : (Option Value ⊕ Nat) → mq_S → Prop} {x1 x2 x3 x4 x5 : Int32} {i a e dir : Nat} {l : List xRc} (hm : mz_sh mz_GG M) (h1 : x1.toInt = (s : Int)) (hs : s < 4) (h2 : x2.toInt = (i : Int)) (hi : i < 6) (h3 : x3.toInt = (a : Int)) (h4 : x4.toInt = (dir : Int)) (h5 : x5.toInt = (e : Int)) (he : e ≤ 236) (hda : dir ≤ a) (ha : a ≤ 70000) (hl : l.length = i) (hc : ∀ k, k < i → ycr M s k = l.getD k xd0) (K : ∀ (M' : Nat → mq_C) (r : Int32), mz_sh mz_GG M' → (∀ b, b < 239 ∨ 244 < b → M' b = M b) → (∀ b j, j ≠ 6 * s + i → hv M' b j = hv M b j) → (∀ rec a', xrcd (ybt M s) e dir l a = some (rec, a') → r.toInt = (a' : Int) ∧ ycr M' s i = rec) → (xrcd (ybt M s) e dir l a = none → r.toInt = -1) → Q (.inl (some (.int r))) (M', z, u)) : mq_R mq_PP (d + 2) 132 0 [some (.ref 234), some (.int x1), some (.int x2), some (.int x3), some (.int x4), some (.int x5), none, none, none, none, none, none, none, none] [] (M, z, u) Q := by
  have fl : ¬ (xrk (ybt M s) e a ∧ xrf (xrr (ybt M s) a (ybt M s a).toNat) (ybt M s a).toNat) → ∀ r : Int32, r.toInt = -1 → Q (.inl (some (.int r))) (M, z, u) := fun h r hr => K M r hm (fun _ _ => rfl) (fun _ _ _ => rfl) (fun rec a' h9 => by unfold xrcd at h9; rw [if_neg (fun g => h ⟨g.1, g.2.1⟩)] at h9; cases h9) (fun _ => hr)
  refine he_iload (n := 1) (i := 3) (by decide +kernel) rfl ?_
  refine he_iload (n := 3) (i := 5) (by decide +kernel) rfl ?_
  by_cases g3 : x3.toInt < x5.toInt
  rotate_left
  · skip
    refine he_cmplt_f (n := 6) (t := 8) (by decide +kernel) (by omega) ?_
    refine he_iconst (n := 7) (c := -1) (by decide +kernel) (by decide) ?_
    intro c6 hc6
    refine he_reti (by decide +kernel) ?_
    exact fl (fun h => by have := h.1.1; omega) _ (by omega)
  refine he_cmplt_t (n := 6) (t := 8) (by decide +kernel) (by omega) ?_
  refine he_aload (n := 9) (i := 0) (by decide +kernel) rfl ?_
  refine he_iload (n := 10) (i := 1) (by decide +kernel) rfl ?_
  refine he_iload (n := 11) (i := 3) (by decide +kernel) rfl ?_
  refine he_v2 (n := 14) (j := 130) (ci := 9) (mx := 3) (ns := [6038, 6040, 76, 217]) (by decide +kernel) ((hb_kd (a := 234) hm rfl).trans rfl) (by show 0 ≤ 8; omega) (by show 3 ≤ 3; omega) ?_
  rw [mq_e130]
  refine yp_by (s := s) (t := a) hm h1 hs h3 (by omega) ?_
  intro x6 hx6 lx6 ux6
  show mq_R mq_PP (d + 2) 132 14 _ [.int x6] (M, z, u) Q
  refine he_istore (n := 16) (i := 6) (by decide +kernel) rfl ?_
  refine he_iload (n := 18) (i := 6) (by decide +kernel) rfl ?_
  refine he_iconst (n := 19) (c := 1) (by decide +kernel) (by decide) ?_
  intro cb18 hcb18
  by_cases g19 : x6.toInt < 1
  · skip
    refine he_cmplt_t (n := 22) (t := 40) (by decide +kernel) (by omega) ?_
    refine he_iconst (n := 41) (c := -1) (by decide +kernel) (by decide) ?_
    intro cb40 hcb40
    refine he_reti (by decide +kernel) ?_
    exact fl (fun h => by have := h.1.2.1; omega) _ (by omega)
  refine he_cmplt_f (n := 22) (t := 40) (by decide +kernel) (by omega) ?_
  refine he_iload (n := 24) (i := 6) (by decide +kernel) rfl ?_
  refine he_iconst (n := 25) (c := 4) (by decide +kernel) (by decide) ?_
  intro cb24 hcb24
  by_cases g25 : 4 < x6.toInt
  · skip
    refine he_cmpgt_t (n := 28) (t := 40) (by decide +kernel) (by omega) ?_
    refine he_iconst (n := 41) (c := -1) (by decide +kernel) (by decide) ?_
    intro cb40 hcb40
    refine he_reti (by decide +kernel) ?_
    exact fl (fun h => by have := h.1.2.2.1; omega) _ (by omega)
  refine he_cmpgt_f (n := 28) (t := 40) (by decide +kernel) (by omega) ?_
  refine he_iload (n := 29) (i := 3) (by decide +kernel) rfl ?_
  refine he_iconst (n := 31) (c := 12) (by decide +kernel) (by decide) ?_
  intro cb29 hcb29
  refine he_iadd (n := 32) (by decide +kernel) (by omega) (by omega) ?_
  intro vb31 hvb31
  refine he_iload (n := 34) (i := 6) (by decide +kernel) rfl ?_
  refine he_iadd (n := 35) (by decide +kernel) (by omega) (by omega) ?_
  intro vb34 hvb34
  refine he_iload (n := 37) (i := 5) (by decide +kernel) rfl ?_
  by_cases g37 : vb34.toInt ≤ x5.toInt
  rotate_left
  · skip
    refine he_cmple_f (n := 40) (t := 42) (by decide +kernel) (by omega) ?_
    refine he_iconst (n := 41) (c := -1) (by decide +kernel) (by decide) ?_
    intro cb40 hcb40
    refine he_reti (by decide +kernel) ?_
    exact fl (fun h => by have := h.1.2.2.2; omega) _ (by omega)
  refine he_cmple_t (n := 40) (t := 42) (by decide +kernel) (by omega) ?_
  refine he_iconst (n := 43) (c := 0) (by decide +kernel) (by decide) ?_
  intro cb42 hcb42
  refine he_istore (n := 45) (i := 7) (by decide +kernel) rfl ?_
  refine he_iload (n := 47) (i := 6) (by decide +kernel) rfl ?_
  refine he_istore (n := 49) (i := 8) (by decide +kernel) rfl ?_
  obtain ⟨n, hn⟩ : ∃ n : Nat, x6.toInt = (n : Int) := ⟨x6.toInt.toNat, by omega⟩
  have hnn : (ybt M s a).toNat = n := by omega
  have hk : xrk (ybt M s) e a := ⟨by omega, by omega, by omega, by omega⟩
  have hgb : hb_nm (xrr (ybt M s) a n).1 = (n : Int) ↔ xgood (ybt M s) (a + 1) n := xo_nm (by omega) (by omega) (fun t ht => ybt_r hm hs (by omega))
  have hdef : xrcd (ybt M s) e dir l a = (if xrf (xrr (ybt M s) a n) n ∧ xrb2 (ybt M s) dir (xrr (ybt M s) a n) ∧ (l.all fun k => decide (xap (xrr (ybt M s) a n) k)) = true then some (xrr (ybt M s) a n, a + 12 + n) else none) := by
    subst hnn
    unfold xrcd
    by_cases c : xrf (xrr (ybt M s) a (ybt M s a).toNat) (ybt M s a).toNat ∧ xrb2 (ybt M s) dir (xrr (ybt M s) a (ybt M s a).toNat) ∧ (l.all fun k => decide (xap (xrr (ybt M s) a (ybt M s a).toNat) k)) = true
    · rw [if_pos c, if_pos ⟨hk, c⟩]
    · rw [if_neg c, if_neg (fun h => c h.2)]
  rw [hnn] at fl
  refine yp_nm (s := s) (a := a) (n := n) hm h1 hs h3 hn (by omega) (by omega) (fun r hng hr => fl (fun h => hng (hgb.mp h.2.1)) r hr) ?_ n _ _ _ (Nat.le_refl _) (by omega) rfl (fun i h1 h2 => absurd h2 (by omega)) ?_
  rotate_left
  · have h9 := mz_un_p (x := cb42) (by omega)
    rw [Nat.sub_self]
    show mz_un cb42 = 0
    omega
  intro x7 x8 o9 hg hx7 n9
  have b7 := mz_i32 x7
  refine he_iload (n := 98) (i := 3) (by decide +kernel) rfl ?_
  refine he_iconst (n := 99) (c := 1) (by decide +kernel) (by decide) ?_
  intro cc98 hcc98
  refine he_iadd (n := 100) (by decide +kernel) (by omega) (by omega) ?_
  intro vc99 hvc99
  refine he_iload (n := 102) (i := 6) (by decide +kernel) rfl ?_
  refine he_iadd (n := 103) (by decide +kernel) (by omega) (by omega) ?_
  intro vc102 hvc102
  refine he_istore (n := 105) (i := 8) (by decide +kernel) rfl ?_
  refine he_iconst (n := 107) (c := 6) (by decide +kernel) (by decide) ?_
  intro cc105 hcc105
  refine he_iload (n := 108) (i := 1) (by decide +kernel) rfl ?_
  refine he_imul (n := 109) (p := 6 * x1.toInt) (by decide +kernel) (by rw [hcc105]) (by omega) (by omega) ?_
  intro vc108 hvc108
  refine he_iload (n := 110) (i := 2) (by decide +kernel) rfl ?_
  refine he_iadd (n := 111) (by decide +kernel) (by omega) (by omega) ?_
  intro vc110 hvc110
  refine he_istore (n := 113) (i := 9) (by decide +kernel) rfl ?_
  have ix : vc110.toInt.toNat = 6 * s + i := by omega
  have hp8 : vc102.toInt = (a : Int) + 1 + (n : Int) := by omega
  refine he_aload (n := 114) (i := 0) (by decide +kernel) rfl ?_
  refine he_getr (n := 117) (ci := 9) (j := 5) (ns := [4182, 23]) (b := 239) hm (by decide +kernel) rfl rfl (by decide +kernel) ?_
  refine he_iload (n := 119) (i := 9) (by decide +kernel) rfl ?_
  refine he_iload (n := 121) (i := 7) (by decide +kernel) rfl ?_
  refine hb_sta (n := 122) (kind := 64) hm (by decide +kernel) rfl rfl (.inl rfl) (by omega) (show _ < (24 : Int) by omega) ?_
  generalize hMc1 : hb_set M 239 (vc110.toInt.toNat) x7 = Mc1
  have hmc1 : mz_sh mz_GG Mc1 := by rw [← hMc1]; exact hb_set_sh hm rfl hb_at1 (by omega) (by omega)
  have eMc1 : ∀ b j, b ≠ 239 ∨ j ≠ vc110.toInt.toNat → hv Mc1 b j = hv M b j := by intro b j h; rw [← hMc1]; exact hb_set_n h
  have sMc1 : hv Mc1 239 (vc110.toInt.toNat) = x7.toInt := by rw [← hMc1]; exact hb_set_v hm rfl (show _ < 24 by omega)
  have wMc1 : ∀ b, b ≠ 239 → Mc1 b = M b := by intro b h; rw [← hMc1]; exact hb_set_c h
  have yMc1 : ybt Mc1 s = ybt M s := funext fun t => (eMc1 _ _ (.inl (by decide))).trans rfl
  refine he_aload (n := 123) (i := 0) (by decide +kernel) rfl ?_
  refine he_getr (n := 126) (ci := 9) (j := 6) (ns := [4183, 26]) (b := 240) hmc1 (by decide +kernel) rfl rfl (by decide +kernel) ?_
  refine he_iload (n := 128) (i := 9) (by decide +kernel) rfl ?_
  refine he_aload (n := 129) (i := 0) (by decide +kernel) rfl ?_
  refine he_iload (n := 130) (i := 1) (by decide +kernel) rfl ?_
  refine he_iload (n := 132) (i := 8) (by decide +kernel) rfl ?_
  refine he_v2 (n := 135) (j := 130) (ci := 9) (mx := 3) (ns := [6038, 6040, 76, 217]) (by decide +kernel) ((hb_kd (a := 234) hmc1 rfl).trans rfl) (by show 2 ≤ 8; omega) (by show 3 ≤ 3; omega) ?_
  rw [mq_e130]
  refine yp_by (s := s) (t := a + 1 + n) hmc1 h1 hs (by omega) (by omega) ?_
  intro t6 ht6 lt6 ut6
  show mq_R mq_PP (d + 2) 132 135 _ [.int t6, .int vc110, .ref 240] (Mc1, z, u) Q
  rw [yMc1] at ht6
  refine hb_sta (n := 136) (kind := 64) hmc1 (by decide +kernel) rfl rfl (.inl rfl) (by omega) (show _ < (24 : Int) by omega) ?_
  generalize hMd1 : hb_set Mc1 240 (vc110.toInt.toNat) t6 = Md1
  have hmd1 : mz_sh mz_GG Md1 := by rw [← hMd1]; exact hb_set_sh hmc1 rfl hb_at1 (by omega) (by omega)
  have eMd1 : ∀ b j, b ≠ 240 ∨ j ≠ vc110.toInt.toNat → hv Md1 b j = hv Mc1 b j := by intro b j h; rw [← hMd1]; exact hb_set_n h
  have sMd1 : hv Md1 240 (vc110.toInt.toNat) = t6.toInt := by rw [← hMd1]; exact hb_set_v hmc1 rfl (show _ < 24 by omega)
  have wMd1 : ∀ b, b ≠ 240 → Md1 b = Mc1 b := by intro b h; rw [← hMd1]; exact hb_set_c h
  have yMd1 : ybt Md1 s = ybt M s := funext fun t => (eMd1 _ _ (.inl (by decide))).trans (congrFun yMc1 t)
  refine he_aload (n := 137) (i := 0) (by decide +kernel) rfl ?_
  refine he_getr (n := 140) (ci := 9) (j := 7) (ns := [4184, 29]) (b := 241) hmd1 (by decide +kernel) rfl rfl (by decide +kernel) ?_
  refine he_iload (n := 142) (i := 9) (by decide +kernel) rfl ?_
  refine he_aload (n := 143) (i := 0) (by decide +kernel) rfl ?_
  refine he_iload (n := 144) (i := 1) (by decide +kernel) rfl ?_
  refine he_iload (n := 146) (i := 8) (by decide +kernel) rfl ?_
  refine he_iconst (n := 147) (c := 1) (by decide +kernel) (by decide) ?_
  intro cd146 hcd146
  refine he_iadd (n := 148) (by decide +kernel) (by omega) (by omega) ?_
  intro vd147 hvd147
  refine he_v2 (n := 151) (j := 131) (ci := 9) (mx := 3) (ns := [6042, 6044, 77, 221]) (by decide +kernel) ((hb_kd (a := 234) hmd1 rfl).trans rfl) (by show 2 ≤ 8; omega) (by show 3 ≤ 3; omega) ?_
  rw [mq_e131]
  refine yp_two (s := s) (t := a + 1 + n + 1) hmd1 h1 hs (by omega) (by omega) ?_
  intro t7a ht7a lt7a ut7a
  show mq_R mq_PP (d + 2) 132 151 _ [.int t7a, .int vc110, .ref 241] (Md1, z, u) Q
  rw [yMd1] at ht7a
  refine he_aload (n := 152) (i := 0) (by decide +kernel) rfl ?_
  refine he_iload (n := 153) (i := 1) (by decide +kernel) rfl ?_
  refine he_iload (n := 155) (i := 8) (by decide +kernel) rfl ?_
  refine he_iconst (n := 156) (c := 3) (by decide +kernel) (by decide) ?_
  intro ce155 hce155
  refine he_iadd (n := 157) (by decide +kernel) (by omega) (by omega) ?_
  intro ve156 hve156
  refine he_v2 (n := 160) (j := 131) (ci := 9) (mx := 3) (ns := [6042, 6044, 77, 221]) (by decide +kernel) ((hb_kd (a := 234) hmd1 rfl).trans rfl) (by show 3 ≤ 8; omega) (by show 3 ≤ 3; omega) ?_
  rw [mq_e131]
  refine yp_two (s := s) (t := a + 1 + n + 3) hmd1 h1 hs (by omega) (by omega) ?_
  intro t7b ht7b lt7b ut7b
  show mq_R mq_PP (d + 2) 132 160 _ [.int t7b, .int t7a, .int vc110, .ref 241] (Md1, z, u) Q
  rw [yMd1] at ht7b
  refine he_iconst (n := 162) (c := 16) (by decide +kernel) (by decide) ?_
  intro cf160 hcf160
  refine he_ex2 (o := 15) (n := 163) (by decide +kernel) rfl ?_
  intro vf162 hvf162
  have evf162 : vf162 = t7b <<< (cf160 &&& 31) := hvf162
  have bvf162 := mz_i32 vf162
  refine he_ex2 (o := 13) (n := 164) (by decide +kernel) rfl ?_
  intro vf163 hvf163
  have evf163 : vf163 = t7a ||| vf162 := hvf163
  have bvf163 := mz_i32 vf163
  refine hb_sta (n := 165) (kind := 64) hmd1 (by decide +kernel) rfl rfl (.inl rfl) (by omega) (show _ < (24 : Int) by omega) ?_
  generalize hMf1 : hb_set Md1 241 (vc110.toInt.toNat) vf163 = Mf1
  have hmf1 : mz_sh mz_GG Mf1 := by rw [← hMf1]; exact hb_set_sh hmd1 rfl hb_at1 (by omega) (by omega)
  have eMf1 : ∀ b j, b ≠ 241 ∨ j ≠ vc110.toInt.toNat → hv Mf1 b j = hv Md1 b j := by intro b j h; rw [← hMf1]; exact hb_set_n h
  have sMf1 : hv Mf1 241 (vc110.toInt.toNat) = vf163.toInt := by rw [← hMf1]; exact hb_set_v hmd1 rfl (show _ < 24 by omega)
  have wMf1 : ∀ b, b ≠ 241 → Mf1 b = Md1 b := by intro b h; rw [← hMf1]; exact hb_set_c h
  have yMf1 : ybt Mf1 s = ybt M s := funext fun t => (eMf1 _ _ (.inl (by decide))).trans (congrFun yMd1 t)
  have q7 : vf163.toInt = xs32 (xnN (ybt M s) (a + 1 + n + 1) 4) := by
    rw [evf163, evf162, mz_un_ti, xo_or16 (by omega) (by omega) (by omega) (by omega) (by omega), xnN_4, show a + 1 + n + 1 + 2 = a + 1 + n + 3 by omega, show (t7a.toInt.toNat + t7b.toInt.toNat * 65536) = xnN (ybt M s) (a + 1 + n + 1) 2 + xnN (ybt M s) (a + 1 + n + 3) 2 * 65536 by omega]
    rfl
  refine he_aload (n := 166) (i := 0) (by decide +kernel) rfl ?_
  refine he_getr (n := 169) (ci := 9) (j := 8) (ns := [4185, 32]) (b := 242) hmf1 (by decide +kernel) rfl rfl (by decide +kernel) ?_
  refine he_iload (n := 171) (i := 9) (by decide +kernel) rfl ?_
  refine he_aload (n := 172) (i := 0) (by decide +kernel) rfl ?_
  refine he_iload (n := 173) (i := 1) (by decide +kernel) rfl ?_
  refine he_iload (n := 175) (i := 8) (by decide +kernel) rfl ?_
  refine he_iconst (n := 176) (c := 5) (by decide +kernel) (by decide) ?_
  intro cf175 hcf175
  refine he_iadd (n := 177) (by decide +kernel) (by omega) (by omega) ?_
  intro vf176 hvf176
  refine he_v2 (n := 180) (j := 131) (ci := 9) (mx := 3) (ns := [6042, 6044, 77, 221]) (by decide +kernel) ((hb_kd (a := 234) hmf1 rfl).trans rfl) (by show 2 ≤ 8; omega) (by show 3 ≤ 3; omega) ?_
  rw [mq_e131]
  refine yp_two (s := s) (t := a + 1 + n + 5) hmf1 h1 hs (by omega) (by omega) ?_
  intro t8 ht8 lt8 ut8
  show mq_R mq_PP (d + 2) 132 180 _ [.int t8, .int vc110, .ref 242] (Mf1, z, u) Q
  rw [yMf1] at ht8
  refine hb_sta (n := 181) (kind := 64) hmf1 (by decide +kernel) rfl rfl (.inl rfl) (by omega) (show _ < (24 : Int) by omega) ?_
  generalize hMg1 : hb_set Mf1 242 (vc110.toInt.toNat) t8 = Mg1
  have hmg1 : mz_sh mz_GG Mg1 := by rw [← hMg1]; exact hb_set_sh hmf1 rfl hb_at1 (by omega) (by omega)
  have eMg1 : ∀ b j, b ≠ 242 ∨ j ≠ vc110.toInt.toNat → hv Mg1 b j = hv Mf1 b j := by intro b j h; rw [← hMg1]; exact hb_set_n h
  have sMg1 : hv Mg1 242 (vc110.toInt.toNat) = t8.toInt := by rw [← hMg1]; exact hb_set_v hmf1 rfl (show _ < 24 by omega)
  have wMg1 : ∀ b, b ≠ 242 → Mg1 b = Mf1 b := by intro b h; rw [← hMg1]; exact hb_set_c h
  have yMg1 : ybt Mg1 s = ybt M s := funext fun t => (eMg1 _ _ (.inl (by decide))).trans (congrFun yMf1 t)
  refine he_aload (n := 182) (i := 0) (by decide +kernel) rfl ?_
  refine he_getr (n := 185) (ci := 9) (j := 9) (ns := [4186, 35]) (b := 243) hmg1 (by decide +kernel) rfl rfl (by decide +kernel) ?_
  refine he_iload (n := 187) (i := 9) (by decide +kernel) rfl ?_
  refine he_aload (n := 188) (i := 0) (by decide +kernel) rfl ?_
  refine he_iload (n := 189) (i := 1) (by decide +kernel) rfl ?_
  refine he_iload (n := 191) (i := 8) (by decide +kernel) rfl ?_
  refine he_iconst (n := 193) (c := 7) (by decide +kernel) (by decide) ?_
  intro cg191 hcg191
  refine he_iadd (n := 194) (by decide +kernel) (by omega) (by omega) ?_
  intro vg193 hvg193
  refine he_v2 (n := 197) (j := 131) (ci := 9) (mx := 3) (ns := [6042, 6044, 77, 221]) (by decide +kernel) ((hb_kd (a := 234) hmg1 rfl).trans rfl) (by show 2 ≤ 8; omega) (by show 3 ≤ 3; omega) ?_
  rw [mq_e131]
  refine yp_two (s := s) (t := a + 1 + n + 7) hmg1 h1 hs (by omega) (by omega) ?_
  intro t9 ht9 lt9 ut9
  show mq_R mq_PP (d + 2) 132 197 _ [.int t9, .int vc110, .ref 243] (Mg1, z, u) Q
  rw [yMg1] at ht9
  refine hb_sta (n := 198) (kind := 64) hmg1 (by decide +kernel) rfl rfl (.inl rfl) (by omega) (show _ < (24 : Int) by omega) ?_
  generalize hMh1 : hb_set Mg1 243 (vc110.toInt.toNat) t9 = Mh1
  have hmh1 : mz_sh mz_GG Mh1 := by rw [← hMh1]; exact hb_set_sh hmg1 rfl hb_at1 (by omega) (by omega)
  have eMh1 : ∀ b j, b ≠ 243 ∨ j ≠ vc110.toInt.toNat → hv Mh1 b j = hv Mg1 b j := by intro b j h; rw [← hMh1]; exact hb_set_n h
  have sMh1 : hv Mh1 243 (vc110.toInt.toNat) = t9.toInt := by rw [← hMh1]; exact hb_set_v hmg1 rfl (show _ < 24 by omega)
  have wMh1 : ∀ b, b ≠ 243 → Mh1 b = Mg1 b := by intro b h; rw [← hMh1]; exact hb_set_c h
  have yMh1 : ybt Mh1 s = ybt M s := funext fun t => (eMh1 _ _ (.inl (by decide))).trans (congrFun yMg1 t)
  refine he_aload (n := 199) (i := 0) (by decide +kernel) rfl ?_
  refine he_getr (n := 202) (ci := 9) (j := 10) (ns := [4187, 38]) (b := 244) hmh1 (by decide +kernel) rfl rfl (by decide +kernel) ?_
  refine he_iload (n := 204) (i := 9) (by decide +kernel) rfl ?_
  refine he_aload (n := 205) (i := 0) (by decide +kernel) rfl ?_
  refine he_iload (n := 206) (i := 1) (by decide +kernel) rfl ?_
  refine he_iload (n := 208) (i := 8) (by decide +kernel) rfl ?_
  refine he_iconst (n := 210) (c := 9) (by decide +kernel) (by decide) ?_
  intro ch208 hch208
  refine he_iadd (n := 211) (by decide +kernel) (by omega) (by omega) ?_
  intro vh210 hvh210
  refine he_v2 (n := 214) (j := 131) (ci := 9) (mx := 3) (ns := [6042, 6044, 77, 221]) (by decide +kernel) ((hb_kd (a := 234) hmh1 rfl).trans rfl) (by show 2 ≤ 8; omega) (by show 3 ≤ 3; omega) ?_
  rw [mq_e131]
  refine yp_two (s := s) (t := a + 1 + n + 9) hmh1 h1 hs (by omega) (by omega) ?_
  intro t10 ht10 lt10 ut10
  show mq_R mq_PP (d + 2) 132 214 _ [.int t10, .int vc110, .ref 244] (Mh1, z, u) Q
  rw [yMh1] at ht10
  refine hb_sta (n := 215) (kind := 64) hmh1 (by decide +kernel) rfl rfl (.inl rfl) (by omega) (show _ < (24 : Int) by omega) ?_
  generalize hMi1 : hb_set Mh1 244 (vc110.toInt.toNat) t10 = Mi1
  have hmi1 : mz_sh mz_GG Mi1 := by rw [← hMi1]; exact hb_set_sh hmh1 rfl hb_at1 (by omega) (by omega)
  have eMi1 : ∀ b j, b ≠ 244 ∨ j ≠ vc110.toInt.toNat → hv Mi1 b j = hv Mh1 b j := by intro b j h; rw [← hMi1]; exact hb_set_n h
  have sMi1 : hv Mi1 244 (vc110.toInt.toNat) = t10.toInt := by rw [← hMi1]; exact hb_set_v hmh1 rfl (show _ < 24 by omega)
  have wMi1 : ∀ b, b ≠ 244 → Mi1 b = Mh1 b := by intro b h; rw [← hMi1]; exact hb_set_c h
  have yMi1 : ybt Mi1 s = ybt M s := funext fun t => (eMi1 _ _ (.inl (by decide))).trans (congrFun yMh1 t)
  have c239 : hv Mi1 239 vc110.toInt.toNat = x7.toInt := (eMi1 _ _ (.inl (by decide))).trans ((eMh1 _ _ (.inl (by decide))).trans ((eMg1 _ _ (.inl (by decide))).trans ((eMf1 _ _ (.inl (by decide))).trans ((eMd1 _ _ (.inl (by decide))).trans (sMc1)))))
  have c240 : hv Mi1 240 vc110.toInt.toNat = t6.toInt := (eMi1 _ _ (.inl (by decide))).trans ((eMh1 _ _ (.inl (by decide))).trans ((eMg1 _ _ (.inl (by decide))).trans ((eMf1 _ _ (.inl (by decide))).trans (sMd1))))
  have c241 : hv Mi1 241 vc110.toInt.toNat = vf163.toInt := (eMi1 _ _ (.inl (by decide))).trans ((eMh1 _ _ (.inl (by decide))).trans ((eMg1 _ _ (.inl (by decide))).trans (sMf1)))
  have c242 : hv Mi1 242 vc110.toInt.toNat = t8.toInt := (eMi1 _ _ (.inl (by decide))).trans ((eMh1 _ _ (.inl (by decide))).trans (sMg1))
  have c243 : hv Mi1 243 vc110.toInt.toNat = t9.toInt := (eMi1 _ _ (.inl (by decide))).trans (sMh1)
  have c244 : hv Mi1 244 vc110.toInt.toNat = t10.toInt := sMi1
  have hrec : ycr Mi1 s i = xrr (ybt M s) a n := by
    unfold ycr xrr
    rw [← ix, c239, c240, c241, c242, c243, c244, hx7, ht6, q7, ht8, ht9, ht10]
  have kw : ∀ b, b < 239 ∨ 244 < b → Mi1 b = M b := fun b hb => by rw [wMi1 b (by omega), wMh1 b (by omega), wMg1 b (by omega), wMf1 b (by omega), wMd1 b (by omega), wMc1 b (by omega)]
  have ke : ∀ b j, j ≠ 6 * s + i → hv Mi1 b j = hv M b j := fun b j hj => by rw [eMi1 _ _ (.inr (by omega)), eMh1 _ _ (.inr (by omega)), eMg1 _ _ (.inr (by omega)), eMf1 _ _ (.inr (by omega)), eMd1 _ _ (.inr (by omega)), eMc1 _ _ (.inr (by omega))]
  have fin : ∀ r : Int32, ((xrf (xrr (ybt M s) a n) n ∧ xrb2 (ybt M s) dir (xrr (ybt M s) a n) ∧ (l.all fun k => decide (xap (xrr (ybt M s) a n) k)) = true) → r.toInt = (a : Int) + 12 + (n : Int)) → (¬ (xrf (xrr (ybt M s) a n) n ∧ xrb2 (ybt M s) dir (xrr (ybt M s) a n) ∧ (l.all fun k => decide (xap (xrr (ybt M s) a n) k)) = true) → r.toInt = -1) → Q (.inl (some (.int r))) (Mi1, z, u) := by
    intro r f1 f0
    refine K Mi1 r hmi1 kw ke (fun rec a' h9 => ?_) (fun h9 => ?_)
    · rw [hdef] at h9
      by_cases c : xrf (xrr (ybt M s) a n) n ∧ xrb2 (ybt M s) dir (xrr (ybt M s) a n) ∧ (l.all fun k => decide (xap (xrr (ybt M s) a n) k)) = true
      · rw [if_pos c] at h9
        cases h9
        exact ⟨by rw [f1 c]; omega, hrec⟩
      · rw [if_neg c] at h9
        cases h9
    · rw [hdef] at h9
      by_cases c : xrf (xrr (ybt M s) a n) n ∧ xrb2 (ybt M s) dir (xrr (ybt M s) a n) ∧ (l.all fun k => decide (xap (xrr (ybt M s) a n) k)) = true
      · rw [if_pos c] at h9
        cases h9
      · exact f0 c
  have hcc : ∀ k, k < i → ycr Mi1 s k = l.getD k xd0 := fun k hk => by rw [ycr_c (M := M) (fun b _ _ => ke b _ (by omega))]; exact hc k hk
  have loop : ∀ (fr un : Int32), fr.toInt = (xrr (ybt M s) a n).2.2.2.2.2 → un.toInt = xut (xrr (ybt M s) a n) → ∀ (m j : Nat) (g k : Int32), j + m = i → k.toInt = 6 * (s : Int) + (j : Int) → (((xrf (xrr (ybt M s) a n) n ∧ xrb2 (ybt M s) dir (xrr (ybt M s) a n)) ∧ ∀ t, t < j → xap (xrr (ybt M s) a n) (l.getD t xd0)) → g.toInt = 1) → (¬ ((xrf (xrr (ybt M s) a n) n ∧ xrb2 (ybt M s) dir (xrr (ybt M s) a n)) ∧ ∀ t, t < j → xap (xrr (ybt M s) a n) (l.getD t xd0)) → g.toInt = 0) → mq_R mq_PP (d + 2) 132 354 [some (.ref 234), some (.int x1), some (.int x2), some (.int x3), some (.int x4), some (.int x5), some (.int x6), some (.int x7), some (.int vc102), some (.int vc110), some (.int fr), some (.int un), some (.int g), some (.int k)] [] (Mi1, z, u) Q := by
    intro fr un hfr hun m
    induction m with
    | zero =>
      intro j g k e1 e2 e3 e4
      have hall : ((xrf (xrr (ybt M s) a n) n ∧ xrb2 (ybt M s) dir (xrr (ybt M s) a n)) ∧ ∀ t, t < j → xap (xrr (ybt M s) a n) (l.getD t xd0)) ↔ (xrf (xrr (ybt M s) a n) n ∧ xrb2 (ybt M s) dir (xrr (ybt M s) a n) ∧ (l.all fun k => decide (xap (xrr (ybt M s) a n) k)) = true) := by
        constructor
        · rintro ⟨⟨p1, p2⟩, p3⟩
          exact ⟨p1, p2, xo_all.mpr fun t ht => decide_eq_true (p3 t (by omega))⟩
        · rintro ⟨p1, p2, p3⟩
          exact ⟨⟨p1, p2⟩, fun t ht => of_decide_eq_true (xo_all.mp p3 t (by omega))⟩
      by_cases c : ((xrf (xrr (ybt M s) a n) n ∧ xrb2 (ybt M s) dir (xrr (ybt M s) a n)) ∧ ∀ t, t < j → xap (xrr (ybt M s) a n) (l.getD t xd0))
      · have hg1 := e3 c
        refine he_iload (n := 356) (i := 13) (by decide +kernel) rfl ?_
        refine he_iload (n := 358) (i := 9) (by decide +kernel) rfl ?_
        refine he_cmpge_t (n := 361) (t := 425) (by decide +kernel) (by omega) ?_
        refine he_iload (n := 427) (i := 12) (by decide +kernel) rfl ?_
        refine he_ifeq_f (n := 430) (t := 438) (by decide +kernel) (by omega) ?_
        refine he_iload (n := 432) (i := 8) (by decide +kernel) rfl ?_
        refine he_iconst (n := 434) (c := 11) (by decide +kernel) (by decide) ?_
        intro cq432 hcq432
        refine he_iadd (n := 435) (by decide +kernel) (by omega) (by omega) ?_
        intro vq434 hvq434
        refine he_goto (t := 439) (by decide +kernel) ?_
        refine he_reti (by decide +kernel) ?_
        exact fin _ (fun _ => by omega) (fun h => absurd (hall.mp c) h)
      · have hg0 := e4 c
        refine he_iload (n := 356) (i := 13) (by decide +kernel) rfl ?_
        refine he_iload (n := 358) (i := 9) (by decide +kernel) rfl ?_
        refine he_cmpge_t (n := 361) (t := 425) (by decide +kernel) (by omega) ?_
        refine he_iload (n := 427) (i := 12) (by decide +kernel) rfl ?_
        refine he_ifeq_t (n := 430) (t := 438) (by decide +kernel) (by omega) ?_
        refine he_iconst (n := 439) (c := -1) (by decide +kernel) (by decide) ?_
        intro cq438 hcq438
        refine he_reti (by decide +kernel) ?_
        exact fin _ (fun h => absurd (hall.mpr h) c) (fun _ => by omega)
    | succ m ih =>
      intro j g k e1 e2 e3 e4
      have ik : k.toInt.toNat = 6 * s + j := by omega
      have hcj := hcc j (by omega)
      have n9 : hv Mi1 239 (6 * s + j) = (l.getD j xd0).1 := by rw [← hcj]; rfl
      have p9 : hv Mi1 244 (6 * s + j) = (l.getD j xd0).2.2.2.2.2 := by rw [← hcj]; rfl
      have k9 : hv Mi1 243 (6 * s + j) = (l.getD j xd0).2.2.2.2.1 := by rw [← hcj]; rfl
      have sp : ∀ t, t < j + 1 → (t < j ∨ t = j) := fun t ht => by omega
      have nx : ∀ g' : Int32, ((g.toInt = 1 ∧ xap (xrr (ybt M s) a n) (l.getD j xd0)) → g'.toInt = 1) → (¬ (g.toInt = 1 ∧ xap (xrr (ybt M s) a n) (l.getD j xd0)) → g'.toInt = 0) → (((xrf (xrr (ybt M s) a n) n ∧ xrb2 (ybt M s) dir (xrr (ybt M s) a n)) ∧ ∀ t, t < j + 1 → xap (xrr (ybt M s) a n) (l.getD t xd0)) → g'.toInt = 1) ∧ (¬ ((xrf (xrr (ybt M s) a n) n ∧ xrb2 (ybt M s) dir (xrr (ybt M s) a n)) ∧ ∀ t, t < j + 1 → xap (xrr (ybt M s) a n) (l.getD t xd0)) → g'.toInt = 0) := by
        intro g' a1 a0
        refine ⟨fun h => a1 ⟨e3 ⟨h.1, fun t ht => h.2 t (by omega)⟩, h.2 j (by omega)⟩, fun h => a0 (fun h2 => h ?_)⟩
        have hG := Classical.byContradiction fun hn => by have := e4 hn; omega
        exact ⟨hG.1, fun t ht => (sp t ht).elim (fun q => hG.2 t q) (fun q => by rw [q]; exact h2.2)⟩
      have dj : xap (xrr (ybt M s) a n) (l.getD j xd0) ↔ (¬ hv Mi1 239 (6 * s + j) = x7.toInt ∧ (un.toInt ≤ hv Mi1 244 (6 * s + j) ∨ hv Mi1 244 (6 * s + j) + 2 + hv Mi1 243 (6 * s + j) ≤ fr.toInt)) := by
        rw [n9, p9, k9, hx7, hun, hfr]
        exact Iff.rfl
      refine he_iload (n := 356) (i := 13) (by decide +kernel) rfl ?_
      refine he_iload (n := 358) (i := 9) (by decide +kernel) rfl ?_
      refine he_cmpge_f (n := 361) (t := 425) (by decide +kernel) (by omega) ?_
      refine he_iload (n := 363) (i := 12) (by decide +kernel) rfl ?_
      by_cases g363 : g.toInt = 0
      · skip
        refine he_ifeq_t (n := 366) (t := 416) (by decide +kernel) (by omega) ?_
        refine he_iconst (n := 417) (c := 0) (by decide +kernel) (by decide) ?_
        intro cq416 hcq416
        refine he_istore (n := 419) (i := 12) (by decide +kernel) rfl ?_
        refine he_iinc (n := 422) (i := 13) (c := 1) (L' := fun v => [some (.ref (234)), some (.int x1), some (.int x2), some (.int x3), some (.int x4), some (.int x5), some (.int x6), some (.int x7), some (.int vc102), some (.int vc110), some (.int fr), some (.int un), some (.int cq416), some (.int v)]) (by decide +kernel) (by decide) rfl (fun _ => rfl) (by omega) (by omega) ?_
        intro iq419 hiq419
        refine he_goto (t := 354) (by decide +kernel) ?_
        obtain ⟨f3, f4⟩ := nx cq416 (fun h => by have h8 := h.1; omega) (fun _ => by omega)
        exact ih (j + 1) _ _ (by omega) (by omega) f3 f4
      · have hg1 : g.toInt = 1 := Classical.byContradiction fun hh => by
          by_cases cc : ((xrf (xrr (ybt M s) a n) n ∧ xrb2 (ybt M s) dir (xrr (ybt M s) a n)) ∧ ∀ t, t < j → xap (xrr (ybt M s) a n) (l.getD t xd0))
          · exact hh (e3 cc)
          · exact g363 (e4 cc)
        refine he_ifeq_f (n := 366) (t := 416) (by decide +kernel) (by omega) ?_
        refine he_aload (n := 367) (i := 0) (by decide +kernel) rfl ?_
        refine he_getr (n := 370) (ci := 9) (j := 5) (ns := [4182, 23]) (b := 239) hmi1 (by decide +kernel) rfl rfl (by decide +kernel) ?_
        refine he_iload (n := 372) (i := 13) (by decide +kernel) rfl ?_
        refine hb_ld (n := 373) (kind := 64) hmi1 (by decide +kernel) rfl rfl (.inl rfl) (by omega) (show _ < (24 : Int) by omega) hb_at1 ?_
        intro vq372 hvq372 lvq372 uvq372
        refine he_iload (n := 375) (i := 7) (by decide +kernel) rfl ?_
        rw [ik] at hvq372
        by_cases g375 : vq372.toInt = x7.toInt
        · skip
          refine he_cmpeq_t (n := 378) (t := 416) (by decide +kernel) (by omega) ?_
          refine he_iconst (n := 417) (c := 0) (by decide +kernel) (by decide) ?_
          intro cq416 hcq416
          refine he_istore (n := 419) (i := 12) (by decide +kernel) rfl ?_
          refine he_iinc (n := 422) (i := 13) (c := 1) (L' := fun v => [some (.ref (234)), some (.int x1), some (.int x2), some (.int x3), some (.int x4), some (.int x5), some (.int x6), some (.int x7), some (.int vc102), some (.int vc110), some (.int fr), some (.int un), some (.int cq416), some (.int v)]) (by decide +kernel) (by decide) rfl (fun _ => rfl) (by omega) (by omega) ?_
          intro iq419 hiq419
          refine he_goto (t := 354) (by decide +kernel) ?_
          obtain ⟨f3, f4⟩ := nx cq416 (fun h => by have h8 := h.1; have h9 := dj.mp h.2; omega) (fun _ => by omega)
          exact ih (j + 1) _ _ (by omega) (by omega) f3 f4
        · skip
          refine he_cmpeq_f (n := 378) (t := 416) (by decide +kernel) (by omega) ?_
          refine he_iload (n := 380) (i := 11) (by decide +kernel) rfl ?_
          refine he_aload (n := 381) (i := 0) (by decide +kernel) rfl ?_
          refine he_getr (n := 384) (ci := 9) (j := 10) (ns := [4187, 38]) (b := 244) hmi1 (by decide +kernel) rfl rfl (by decide +kernel) ?_
          refine he_iload (n := 386) (i := 13) (by decide +kernel) rfl ?_
          refine hb_ld (n := 387) (kind := 64) hmi1 (by decide +kernel) rfl rfl (.inl rfl) (by omega) (show _ < (24 : Int) by omega) hb_at1 ?_
          intro vq386 hvq386 lvq386 uvq386
          rw [ik] at hvq386
          by_cases g387 : un.toInt ≤ vq386.toInt
          · skip
            refine he_cmple_t (n := 390) (t := 412) (by decide +kernel) (by omega) ?_
            refine he_iconst (n := 413) (c := 1) (by decide +kernel) (by decide) ?_
            intro cq412 hcq412
            refine he_goto (t := 417) (by decide +kernel) ?_
            refine he_istore (n := 419) (i := 12) (by decide +kernel) rfl ?_
            refine he_iinc (n := 422) (i := 13) (c := 1) (L' := fun v => [some (.ref (234)), some (.int x1), some (.int x2), some (.int x3), some (.int x4), some (.int x5), some (.int x6), some (.int x7), some (.int vc102), some (.int vc110), some (.int fr), some (.int un), some (.int cq412), some (.int v)]) (by decide +kernel) (by decide) rfl (fun _ => rfl) (by omega) (by omega) ?_
            intro iq419 hiq419
            refine he_goto (t := 354) (by decide +kernel) ?_
            obtain ⟨f3, f4⟩ := nx cq412 (fun _ => by omega) (fun h => absurd ⟨by omega, dj.mpr (by omega)⟩ h)
            exact ih (j + 1) _ _ (by omega) (by omega) f3 f4
          · skip
            refine he_cmple_f (n := 390) (t := 412) (by decide +kernel) (by omega) ?_
            refine he_aload (n := 391) (i := 0) (by decide +kernel) rfl ?_
            refine he_getr (n := 394) (ci := 9) (j := 10) (ns := [4187, 38]) (b := 244) hmi1 (by decide +kernel) rfl rfl (by decide +kernel) ?_
            refine he_iload (n := 396) (i := 13) (by decide +kernel) rfl ?_
            refine hb_ld (n := 397) (kind := 64) hmi1 (by decide +kernel) rfl rfl (.inl rfl) (by omega) (show _ < (24 : Int) by omega) hb_at1 ?_
            intro vq396 hvq396 lvq396 uvq396
            refine he_iconst (n := 398) (c := 2) (by decide +kernel) (by decide) ?_
            intro cq397 hcq397
            refine he_iadd (n := 399) (by decide +kernel) (by omega) (by omega) ?_
            intro vq398 hvq398
            refine he_aload (n := 400) (i := 0) (by decide +kernel) rfl ?_
            refine he_getr (n := 403) (ci := 9) (j := 9) (ns := [4186, 35]) (b := 243) hmi1 (by decide +kernel) rfl rfl (by decide +kernel) ?_
            refine he_iload (n := 405) (i := 13) (by decide +kernel) rfl ?_
            refine hb_ld (n := 406) (kind := 64) hmi1 (by decide +kernel) rfl rfl (.inl rfl) (by omega) (show _ < (24 : Int) by omega) hb_at1 ?_
            intro vq405 hvq405 lvq405 uvq405
            refine he_iadd (n := 407) (by decide +kernel) (by omega) (by omega) ?_
            intro vq406 hvq406
            refine he_iload (n := 409) (i := 10) (by decide +kernel) rfl ?_
            rw [ik] at hvq396 hvq405
            by_cases g409 : fr.toInt < vq406.toInt
            · skip
              refine he_cmpgt_t (n := 412) (t := 416) (by decide +kernel) (by omega) ?_
              refine he_iconst (n := 417) (c := 0) (by decide +kernel) (by decide) ?_
              intro cq416 hcq416
              refine he_istore (n := 419) (i := 12) (by decide +kernel) rfl ?_
              refine he_iinc (n := 422) (i := 13) (c := 1) (L' := fun v => [some (.ref (234)), some (.int x1), some (.int x2), some (.int x3), some (.int x4), some (.int x5), some (.int x6), some (.int x7), some (.int vc102), some (.int vc110), some (.int fr), some (.int un), some (.int cq416), some (.int v)]) (by decide +kernel) (by decide) rfl (fun _ => rfl) (by omega) (by omega) ?_
              intro iq419 hiq419
              refine he_goto (t := 354) (by decide +kernel) ?_
              obtain ⟨f3, f4⟩ := nx cq416 (fun h => by have h8 := h.1; have h9 := dj.mp h.2; omega) (fun _ => by omega)
              exact ih (j + 1) _ _ (by omega) (by omega) f3 f4
            · skip
              refine he_cmpgt_f (n := 412) (t := 416) (by decide +kernel) (by omega) ?_
              refine he_iconst (n := 413) (c := 1) (by decide +kernel) (by decide) ?_
              intro cq412 hcq412
              refine he_goto (t := 417) (by decide +kernel) ?_
              refine he_istore (n := 419) (i := 12) (by decide +kernel) rfl ?_
              refine he_iinc (n := 422) (i := 13) (c := 1) (L' := fun v => [some (.ref (234)), some (.int x1), some (.int x2), some (.int x3), some (.int x4), some (.int x5), some (.int x6), some (.int x7), some (.int vc102), some (.int vc110), some (.int fr), some (.int un), some (.int cq412), some (.int v)]) (by decide +kernel) (by decide) rfl (fun _ => rfl) (by omega) (by omega) ?_
              intro iq419 hiq419
              refine he_goto (t := 354) (by decide +kernel) ?_
              obtain ⟨f3, f4⟩ := nx cq412 (fun _ => by omega) (fun h => absurd ⟨by omega, dj.mpr (by omega)⟩ h)
              exact ih (j + 1) _ _ (by omega) (by omega) f3 f4
  refine he_aload (n := 216) (i := 0) (by decide +kernel) rfl ?_
  refine he_getr (n := 219) (ci := 9) (j := 10) (ns := [4187, 38]) (b := 244) hmi1 (by decide +kernel) rfl rfl (by decide +kernel) ?_
  refine he_iload (n := 221) (i := 9) (by decide +kernel) rfl ?_
  refine hb_ld (n := 222) (kind := 64) hmi1 (by decide +kernel) rfl rfl (.inl rfl) (by omega) (show _ < (24 : Int) by omega) hb_at1 ?_
  intro vi221 hvi221 lvi221 uvi221
  refine he_istore (n := 224) (i := 10) (by decide +kernel) rfl ?_
  refine he_iload (n := 226) (i := 10) (by decide +kernel) rfl ?_
  refine he_iconst (n := 227) (c := 2) (by decide +kernel) (by decide) ?_
  intro ci226 hci226
  refine he_iadd (n := 228) (by decide +kernel) (by omega) (by omega) ?_
  intro vi227 hvi227
  refine he_aload (n := 229) (i := 0) (by decide +kernel) rfl ?_
  refine he_getr (n := 232) (ci := 9) (j := 9) (ns := [4186, 35]) (b := 243) hmi1 (by decide +kernel) rfl rfl (by decide +kernel) ?_
  refine he_iload (n := 234) (i := 9) (by decide +kernel) rfl ?_
  refine hb_ld (n := 235) (kind := 64) hmi1 (by decide +kernel) rfl rfl (.inl rfl) (by omega) (show _ < (24 : Int) by omega) hb_at1 ?_
  intro vi234 hvi234 lvi234 uvi234
  refine he_iadd (n := 236) (by decide +kernel) (by omega) (by omega) ?_
  intro vi235 hvi235
  refine he_istore (n := 238) (i := 11) (by decide +kernel) rfl ?_
  refine he_aload (n := 239) (i := 0) (by decide +kernel) rfl ?_
  refine he_getr (n := 242) (ci := 9) (j := 6) (ns := [4183, 26]) (b := 240) hmi1 (by decide +kernel) rfl rfl (by decide +kernel) ?_
  refine he_iload (n := 244) (i := 9) (by decide +kernel) rfl ?_
  refine hb_ld (n := 245) (kind := 64) hmi1 (by decide +kernel) rfl rfl (.inl rfl) (by omega) (show _ < (24 : Int) by omega) hb_at1 ?_
  intro vi244 hvi244 lvi244 uvi244
  have qF : vi221.toInt = (xrr (ybt M s) a n).2.2.2.2.2 := by rw [← hvi221, c244, ← hrec]; show _ = hv Mi1 244 (6 * s + i); rw [← ix]; exact c244.symm
  have qK : vi234.toInt = (xrr (ybt M s) a n).2.2.2.2.1 := by rw [← hvi234, c243, ← hrec]; show _ = hv Mi1 243 (6 * s + i); rw [← ix]; exact c243.symm
  have qM : vi244.toInt = (xrr (ybt M s) a n).2.1 := by rw [← hvi244, c240, ← hrec]; show _ = hv Mi1 240 (6 * s + i); rw [← ix]; exact c240.symm
  have qU : vi235.toInt = xut (xrr (ybt M s) a n) := by unfold xut; omega
  have qS : (xrr (ybt M s) a n).2.2.2.1 = t8.toInt := by rw [← hrec]; show hv Mi1 242 (6 * s + i) = _; rw [← ix]; exact c242
  have hN : hb_nm (xrr (ybt M s) a n).1 = (n : Int) := hgb.mpr hg
  have tail : ∀ (g : Int32), ((xrf (xrr (ybt M s) a n) n ∧ xrb2 (ybt M s) dir (xrr (ybt M s) a n)) → g.toInt = 1) → (¬ (xrf (xrr (ybt M s) a n) n ∧ xrb2 (ybt M s) dir (xrr (ybt M s) a n)) → g.toInt = 0) → mq_R mq_PP (d + 2) 132 348 [some (.ref 234), some (.int x1), some (.int x2), some (.int x3), some (.int x4), some (.int x5), some (.int x6), some (.int x7), some (.int vc102), some (.int vc110), some (.int vi221), some (.int vi235), some (.int g), none] [] (Mi1, z, u) Q := by
    intro g f1 f0
    refine he_iconst (n := 350) (c := 6) (by decide +kernel) (by decide) ?_
    intro cr348 hcr348
    refine he_iload (n := 351) (i := 1) (by decide +kernel) rfl ?_
    refine he_imul (n := 352) (p := 6 * x1.toInt) (by decide +kernel) (by rw [hcr348]) (by omega) (by omega) ?_
    intro vr351 hvr351
    refine he_istore (n := 354) (i := 13) (by decide +kernel) rfl ?_
    exact loop _ _ qF qU i 0 g _ (by omega) (by omega) (fun h => f1 h.1) (fun h => f0 (fun h2 => h ⟨h2, fun t ht => absurd ht (Nat.not_lt_zero t)⟩))
  have bad : ¬ (xrf (xrr (ybt M s) a n) n ∧ xut (xrr (ybt M s) a n) ≤ (dir : Int)) → mq_R mq_PP (d + 2) 132 285 [some (.ref 234), some (.int x1), some (.int x2), some (.int x3), some (.int x4), some (.int x5), some (.int x6), some (.int x7), some (.int vc102), some (.int vc110), some (.int vi221), some (.int vi235), none, none] [.int 0] (Mi1, z, u) Q := by
    intro hb
    generalize hg0 : (0 : Int32) = g0
    have hz0 : g0.toInt = 0 := by rw [← hg0]; rfl
    refine he_istore (n := 287) (i := 12) (by decide +kernel) rfl ?_
    refine he_iload (n := 289) (i := 12) (by decide +kernel) rfl ?_
    refine he_ifeq_t (n := 292) (t := 345) (by decide +kernel) (by omega) ?_
    refine he_iconst (n := 346) (c := 0) (by decide +kernel) (by decide) ?_
    intro cr345 hcr345
    refine he_istore (n := 348) (i := 12) (by decide +kernel) rfl ?_
    exact tail _ (fun h => absurd ⟨h.1, h.2.1⟩ hb) (fun _ => by omega)
  have ok : (xrf (xrr (ybt M s) a n) n ∧ xut (xrr (ybt M s) a n) ≤ (dir : Int)) → mq_R mq_PP (d + 2) 132 280 [some (.ref 234), some (.int x1), some (.int x2), some (.int x3), some (.int x4), some (.int x5), some (.int x6), some (.int x7), some (.int vc102), some (.int vc110), some (.int vi221), some (.int vi235), none, none] [] (Mi1, z, u) Q := by
    intro hb
    obtain ⟨hb1, hb2⟩ := hb
    have rP : 0 ≤ vi221.toInt := by omega
    refine he_iconst (n := 281) (c := 1) (by decide +kernel) (by decide) ?_
    intro cs280 hcs280
    refine he_goto (t := 285) (by decide +kernel) ?_
    refine he_istore (n := 287) (i := 12) (by decide +kernel) rfl ?_
    refine he_iload (n := 289) (i := 12) (by decide +kernel) rfl ?_
    refine he_ifeq_f (n := 292) (t := 345) (by decide +kernel) (by omega) ?_
    refine he_aload (n := 293) (i := 0) (by decide +kernel) rfl ?_
    refine he_iload (n := 294) (i := 1) (by decide +kernel) rfl ?_
    refine he_iload (n := 296) (i := 12) (by decide +kernel) rfl ?_
    refine he_ifeq_f (n := 299) (t := 304) (by decide +kernel) (by omega) ?_
    refine he_iload (n := 301) (i := 10) (by decide +kernel) rfl ?_
    refine he_goto (t := 305) (by decide +kernel) ?_
    refine he_v2 (n := 308) (j := 130) (ci := 9) (mx := 3) (ns := [6038, 6040, 76, 217]) (by decide +kernel) ((hb_kd (a := 234) hmi1 rfl).trans rfl) (by show 0 ≤ 8; omega) (by show 3 ≤ 3; omega) ?_
    rw [mq_e130]
    refine yp_by (s := s) (t := vi221.toInt.toNat) hmi1 h1 hs (by omega) (by omega) ?_
    intro b1 hb1' lb1 ub1
    rw [yMi1] at hb1'
    show mq_R mq_PP (d + 2) 132 308 _ [.int b1] (Mi1, z, u) Q
    refine he_iconst (n := 310) (c := 75) (by decide +kernel) (by decide) ?_
    intro ct308 hct308
    have eP : (xrr (ybt M s) a n).2.2.2.2.2.toNat = vi221.toInt.toNat := by rw [qF]
    by_cases g310 : b1.toInt = 75
    rotate_left
    · skip
      refine he_cmpne_t (n := 313) (t := 345) (by decide +kernel) (by omega) ?_
      refine he_iconst (n := 346) (c := 0) (by decide +kernel) (by decide) ?_
      intro ct345 hct345
      refine he_istore (n := 348) (i := 12) (by decide +kernel) rfl ?_
      exact tail _ (fun h => by exfalso; have h9 := h.2.2.1; rw [eP] at h9; omega) (fun _ => by omega)
    refine he_cmpne_f (n := 313) (t := 345) (by decide +kernel) (by omega) ?_
    refine he_aload (n := 314) (i := 0) (by decide +kernel) rfl ?_
    refine he_iload (n := 315) (i := 1) (by decide +kernel) rfl ?_
    refine he_iload (n := 317) (i := 12) (by decide +kernel) rfl ?_
    refine he_ifeq_f (n := 320) (t := 327) (by decide +kernel) (by omega) ?_
    refine he_iload (n := 322) (i := 10) (by decide +kernel) rfl ?_
    refine he_iconst (n := 323) (c := 1) (by decide +kernel) (by decide) ?_
    intro ct322 hct322
    refine he_iadd (n := 324) (by decide +kernel) (by omega) (by omega) ?_
    intro vt323 hvt323
    refine he_goto (t := 328) (by decide +kernel) ?_
    refine he_v2 (n := 331) (j := 130) (ci := 9) (mx := 3) (ns := [6038, 6040, 76, 217]) (by decide +kernel) ((hb_kd (a := 234) hmi1 rfl).trans rfl) (by show 0 ≤ 8; omega) (by show 3 ≤ 3; omega) ?_
    rw [mq_e130]
    refine yp_by (s := s) (t := vi221.toInt.toNat + 1) hmi1 h1 hs (by omega) (by omega) ?_
    intro b2 hb2' lb2 ub2
    rw [yMi1] at hb2'
    show mq_R mq_PP (d + 2) 132 331 _ [.int b2] (Mi1, z, u) Q
    refine he_aload (n := 332) (i := 0) (by decide +kernel) rfl ?_
    refine he_getr (n := 335) (ci := 9) (j := 6) (ns := [4183, 26]) (b := 240) hmi1 (by decide +kernel) rfl rfl (by decide +kernel) ?_
    refine he_iload (n := 337) (i := 9) (by decide +kernel) rfl ?_
    refine hb_ld (n := 338) (kind := 64) hmi1 (by decide +kernel) rfl rfl (.inl rfl) (by omega) (show _ < (24 : Int) by omega) hb_at1 ?_
    intro vu337 hvu337 lvu337 uvu337
    have q337 : vu337.toInt = (xrr (ybt M s) a n).2.1 := by rw [← hvu337, c240, ← hrec]; show _ = hv Mi1 240 (6 * s + i); rw [← ix]; exact c240.symm
    by_cases g338 : b2.toInt = vu337.toInt
    · skip
      refine he_cmpne_f (n := 341) (t := 345) (by decide +kernel) (by omega) ?_
      refine he_iconst (n := 342) (c := 1) (by decide +kernel) (by decide) ?_
      intro cu341 hcu341
      refine he_goto (t := 346) (by decide +kernel) ?_
      refine he_istore (n := 348) (i := 12) (by decide +kernel) rfl ?_
      exact tail _ (fun _ => by omega) (fun h => absurd ⟨hb1, hb2, by rw [eP]; omega, by rw [eP, ← hb2']; omega⟩ h)
    · skip
      refine he_cmpne_t (n := 341) (t := 345) (by decide +kernel) (by omega) ?_
      refine he_iconst (n := 346) (c := 0) (by decide +kernel) (by decide) ?_
      intro cu345 hcu345
      refine he_istore (n := 348) (i := 12) (by decide +kernel) rfl ?_
      exact tail _ (fun h => by exfalso; have h9 := h.2.2.2; rw [eP] at h9; omega) (fun _ => by omega)
  by_cases m0 : (xrr (ybt M s) a n).2.1 = 0 ∨ (xrr (ybt M s) a n).2.1 = 8
  rotate_left
  · have z244 : ¬ vi244.toInt = 0 := fun h => m0 (.inl (by omega))
    refine he_ifeq_f (n := 248) (t := 260) (by decide +kernel) (by omega) ?_
    refine he_aload (n := 249) (i := 0) (by decide +kernel) rfl ?_
    refine he_getr (n := 252) (ci := 9) (j := 6) (ns := [4183, 26]) (b := 240) hmi1 (by decide +kernel) rfl rfl (by decide +kernel) ?_
    refine he_iload (n := 254) (i := 9) (by decide +kernel) rfl ?_
    refine hb_ld (n := 255) (kind := 64) hmi1 (by decide +kernel) rfl rfl (.inl rfl) (by omega) (show _ < (24 : Int) by omega) hb_at1 ?_
    intro vw254 hvw254 lvw254 uvw254
    have q254 : vw254.toInt = (xrr (ybt M s) a n).2.1 := by rw [← hvw254, c240, ← hrec]; show _ = hv Mi1 240 (6 * s + i); rw [← ix]; exact c240.symm
    refine he_iconst (n := 257) (c := 8) (by decide +kernel) (by decide) ?_
    intro cw255 hcw255
    refine he_cmpne_t (n := 260) (t := 284) (by decide +kernel) (by omega) ?_
    refine he_iconst (n := 285) (c := 0) (by decide +kernel) (by decide) ?_
    intro cw284 hcw284
    rw [show cw284 = 0 from xo_i32 (by rw [hcw284]; rfl)]
    exact bad (fun h => m0 h.1.2.2)
  have at260 : mq_R mq_PP (d + 2) 132 260 [some (.ref 234), some (.int x1), some (.int x2), some (.int x3), some (.int x4), some (.int x5), some (.int x6), some (.int x7), some (.int vc102), some (.int vc110), some (.int vi221), some (.int vi235), none, none] [] (Mi1, z, u) Q := by
    refine he_aload (n := 261) (i := 0) (by decide +kernel) rfl ?_
    refine he_getr (n := 264) (ci := 9) (j := 8) (ns := [4185, 32]) (b := 242) hmi1 (by decide +kernel) rfl rfl (by decide +kernel) ?_
    refine he_iload (n := 266) (i := 9) (by decide +kernel) rfl ?_
    refine hb_ld (n := 267) (kind := 64) hmi1 (by decide +kernel) rfl rfl (.inl rfl) (by omega) (show _ < (24 : Int) by omega) hb_at1 ?_
    intro vx266 hvx266 lvx266 uvx266
    refine he_iconst (n := 270) (c := 200) (by decide +kernel) (by decide) ?_
    intro cx267 hcx267
    have q266 : vx266.toInt = t8.toInt := by rw [← hvx266]; exact c242
    by_cases g270 : 200 < t8.toInt
    · skip
      refine he_cmpgt_t (n := 273) (t := 284) (by decide +kernel) (by omega) ?_
      refine he_iconst (n := 285) (c := 0) (by decide +kernel) (by decide) ?_
      intro cx284 hcx284
      rw [show cx284 = 0 from xo_i32 (by rw [hcx284]; rfl)]
      exact bad (fun h => by have := h.1.2.1; omega)
    refine he_cmpgt_f (n := 273) (t := 284) (by decide +kernel) (by omega) ?_
    refine he_iload (n := 275) (i := 11) (by decide +kernel) rfl ?_
    refine he_iload (n := 277) (i := 4) (by decide +kernel) rfl ?_
    by_cases g277 : x4.toInt < vi235.toInt
    · skip
      refine he_cmpgt_t (n := 280) (t := 284) (by decide +kernel) (by omega) ?_
      refine he_iconst (n := 285) (c := 0) (by decide +kernel) (by decide) ?_
      intro cx284 hcx284
      rw [show cx284 = 0 from xo_i32 (by rw [hcx284]; rfl)]
      exact bad (fun h => by have := h.2; omega)
    · skip
      refine he_cmpgt_f (n := 280) (t := 284) (by decide +kernel) (by omega) ?_
      exact ok ⟨⟨hN, by omega, m0⟩, by omega⟩
  by_cases z244 : vi244.toInt = 0
  · skip
    refine he_ifeq_t (n := 248) (t := 260) (by decide +kernel) (by omega) ?_
    exact at260
  · skip
    refine he_ifeq_f (n := 248) (t := 260) (by decide +kernel) (by omega) ?_
    refine he_aload (n := 249) (i := 0) (by decide +kernel) rfl ?_
    refine he_getr (n := 252) (ci := 9) (j := 6) (ns := [4183, 26]) (b := 240) hmi1 (by decide +kernel) rfl rfl (by decide +kernel) ?_
    refine he_iload (n := 254) (i := 9) (by decide +kernel) rfl ?_
    refine hb_ld (n := 255) (kind := 64) hmi1 (by decide +kernel) rfl rfl (.inl rfl) (by omega) (show _ < (24 : Int) by omega) hb_at1 ?_
    intro vw254 hvw254 lvw254 uvw254
    have q254 : vw254.toInt = (xrr (ybt M s) a n).2.1 := by rw [← hvw254, c240, ← hrec]; show _ = hv Mi1 240 (6 * s + i); rw [← ix]; exact c240.symm
    refine he_iconst (n := 257) (c := 8) (by decide +kernel) (by decide) ?_
    intro cw255 hcw255
    refine he_cmpne_f (n := 260) (t := 284) (by decide +kernel) (by omega) ?_
    exact at260
