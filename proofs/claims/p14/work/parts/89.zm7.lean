/-! The class's put, peek, spoil and finish, byte by byte. -/
theorem xx_rng {M : Nat → mq_C} {a i : Nat} {c : mz_Ce} {lo hi : Int} (hm : mz_sh mz_GG M) (hc : mz_GG.1 a = some c) (hi' : i < c.2.1) (hs : mz_at c i = (0, lo, hi)) : lo ≤ hv M a i ∧ hv M a i ≤ hi := by
  obtain ⟨m1, m2, m3⟩ := hm a c hc
  have hl : i < (M a).2.length := by omega
  have hw : (M a).2[i]? = some (M a).2[i] := List.getElem?_eq_getElem hl
  generalize (M a).2[i] = w at hw
  have hok := m3 _ _ hw
  rw [hs] at hok
  have e : hv M a i = hb_w mz_GG (some w) := by show hb_w mz_GG ((M a).2[i]?) = _; rw [hw]; try rfl
  rw [e]
  cases w with
  | int v => exact hok
  | _ => exact hok.elim
theorem xsp (k a i : Nat) (h : a = 48 ∨ a = 59 ∨ a = 70 ∨ a = 81 ∨ a = 33 ∨ (a = 47 ∨ a = 58 ∨ a = 69 ∨ a = 80) ∧ i = 1) : hsp k a i = false := by
  match k with
  | 0 | 1 | 2 | 3 | 4 | 5 | 6 | 7 | 8 | 9 | 10 | 11 | 12 | 13 | 14 | 15 | 16 | 17 | 18 | 19 | 20 | 21 | 22 | 23 | 24 | 25 | 26 | 27 | 28 | 29 => exact decide_eq_false (by omega)
  | n + 30 => rfl
/-- HX looks at none of what writeTo writes -/
theorem xHX_wt {M M' : Nat → mq_C} {A : Nat} (hA : A = 47 ∨ A = 58 ∨ A = 69 ∨ A = 80) (h1 : ∀ b, b ≠ 33 → b ≠ A → b ≠ A + 1 → M' b = M b) (h2 : ∀ j, j ≠ 1 → hv M' A j = hv M A j) (hx : HX M) : HX M' := by
  intro k
  refine hxk_c (fun a i hs => ?_) (hx k)
  by_cases e1 : a = 33
  · rw [xsp k a i (by omega)] at hs
    cases hs
  · by_cases e2 : a = A
    · by_cases e3 : i = 1
      · rw [xsp k a i (by omega)] at hs
        cases hs
      · rw [e2]
        exact h2 i e3
    · by_cases e3 : a = A + 1
      · rw [xsp k a i (by omega)] at hs
        cases hs
      · exact hb_vc (h1 a e1 e2 e3) i
theorem xx_xor {X Y : Int32} (h0 : 0 ≤ X.toInt) (h1 : X.toInt ≤ 255) (h2 : 0 ≤ Y.toInt) (h3 : Y.toInt ≤ 255) : 0 ≤ (X ^^^ Y).toInt ∧ (X ^^^ Y).toInt ≤ 255 := by
  have p8 : ((2 ^ 8 : Nat) : Int) = 256 := by decide
  have h := mz_xorb (X := X) (Y := Y) (k := 8) (by decide) h0 (by rw [p8]; omega) h2 (by rw [p8]; omega)
  rw [p8] at h
  omega
def c6_kp (M M' : Nat → mq_C) : Prop := M' 34 = M 34 ∧ M' 35 = M 35 ∧ M' 36 = M 36
def c6_ot (s : Nat) (M M' : Nat → mq_C) : Prop := ∀ s' : Nat, s' < 4 → s' ≠ s → M' (48 + 11 * s') = M (48 + 11 * s')
def c6_al (M M' : Nat → mq_C) : Prop := ∀ s' : Nat, s' < 4 → M' (48 + 11 * s') = M (48 + 11 * s')
def c6_put (M M' : Nat → mq_C) (v : Int64) (n r : Int) : Prop := (r = 1 ∧ xGR 33 34 1 M M' (xll v n.toNat)) ∨ (r = 0 ∧ M' 34 = M 34)
def c6_peek (M : Nat → mq_C) (p q r : Int) : Prop := (∃ s : Nat, s < 4 ∧ p = (s : Int) ∧ 0 ≤ q ∧ q < hv M (47 + 11 * s) 1 ∧ r = hv M (48 + 11 * s) q.toNat) ∨ (r = -1 ∧ ∀ s : Nat, s < 4 → p = (s : Int) → ¬ (0 ≤ q ∧ q < hv M (47 + 11 * s) 1))
def c6_spoil (M M' : Nat → mq_C) (p q : Int) (x : Int32) (r : Int) : Prop := c6_kp M M' ∧ ((r = 0 ∧ c6_al M M' ∧ ∀ s : Nat, s < 4 → p = (s : Int) → ¬ (0 ≤ q ∧ q < hv M (47 + 11 * s) 1 ∧ 0 ≤ x.toInt ∧ x.toInt ≤ 255)) ∨ (r = 1 ∧ 0 ≤ x.toInt ∧ x.toInt ≤ 255 ∧ ∃ s : Nat, s < 4 ∧ p = (s : Int) ∧ 0 ≤ q ∧ q < hv M (47 + 11 * s) 1 ∧ c6_ot s M M' ∧ hv M' (48 + 11 * s) q.toNat = (Int32.ofInt (hv M (48 + 11 * s) q.toNat) ^^^ x).toInt ∧ ∀ t, t ≠ q.toNat → hv M' (48 + 11 * s) t = hv M (48 + 11 * s) t))
def c6_by (M M' : Nat → mq_C) (a : Nat) : Prop := (∀ t : Nat, (t : Int) < hv M 33 3 → hv M' a t = hv M 35 t) ∧ (∀ t : Nat, (t : Int) < hv M 33 5 → hv M' a ((hv M 33 3).toNat + t) = hv M 36 t) ∧ hv M' a (hv M 33 3 + hv M 33 5).toNat = 80 ∧ hv M' a ((hv M 33 3 + hv M 33 5).toNat + 1) = hv M 33 6 ∧ hv M' a ((hv M 33 3 + hv M 33 5).toNat + 2) = hv M 33 3 ∧ hv M' a ((hv M 33 3 + hv M 33 5).toNat + 3) = 0
def c6_fin (M M' : Nat → mq_C) (p r : Int) : Prop := c6_kp M M' ∧ ((r = 0 ∧ c6_al M M') ∨ (r = 1 ∧ ∃ s : Nat, s < 4 ∧ p = (s : Int) ∧ c6_ot s M M' ∧ c6_by M M' (48 + 11 * s)))
theorem c6_kr {M : Nat → mq_C} : c6_kp M M := ⟨rfl, rfl, rfl⟩
theorem c6_ar {M : Nat → mq_C} : c6_al M M := fun _ _ => rfl
theorem xn_put {d z u : Nat} {M : Nat → mq_C} {Q : (Option Value ⊕ Nat) → mq_S → Prop} {x1 : Int64} {x3 : Int32} (hm : mz_sh mz_GG M) (K : ∀ (M' : Nat → mq_C) (r : Int32), c6_put M M' x1 x3.toInt r.toInt → Q (.inl (some (.int r))) (M', z, u)) : mq_R mq_PP (d + 1) 1 0 [some (.ref 8), some (.long x1), none, some (.int x3)] [] (M, z, u) Q := by
  refine he_aload (n := 1) (i := 0) (by decide +kernel) rfl ?_
  refine he_getr (n := 4) (ci := 0) (j := 1) (ns := [2078, 19]) (b := 33) hm (by decide +kernel) rfl rfl (by decide +kernel) ?_
  refine xe_lload1 (n := 5) (by decide +kernel) ?_
  refine he_iload (n := 6) (i := 3) (by decide +kernel) rfl ?_
  refine he_v2 (n := 9) (j := 74) (ci := 6) (mx := 5) (ns := [2127, 2128, 2129, 80]) (by decide +kernel) ((hb_kd (a := 33) hm rfl).trans rfl) (by show 0 ≤ 8; omega) (by show 4 ≤ 5; omega) ?_
  rw [mq_e74]
  refine xn_dn hm ?_
  intro M' r k1 k0
  show mq_R mq_PP (d + 1) 1 9 _ [.int r] (M', z, u) Q
  by_cases hc : 1 ≤ x3.toInt ∧ x3.toInt ≤ 8 ∧ hv M 33 1 + x3.toInt ≤ 120
  · obtain ⟨h1, h2⟩ := k1 hc
    refine he_retz (by decide +kernel) (by omega) ?_
    exact K M' r (.inl ⟨h1, h2⟩)
  · obtain ⟨h1, rfl⟩ := k0 hc
    refine he_retz (by decide +kernel) (by omega) ?_
    exact K _ r (.inr ⟨h1, rfl⟩)
theorem xn_slot {d z u : Nat} {M : Nat → mq_C} {Q : (Option Value ⊕ Nat) → mq_S → Prop} {x0 : Int32} (K : ∀ r : Int32, (0 ≤ x0.toInt ∧ x0.toInt ≤ 3 → r.toInt = 1) → (¬ (0 ≤ x0.toInt ∧ x0.toInt ≤ 3) → r.toInt = 0) → Q (.inl (some (.int r))) (M, z, u)) : mq_R mq_PP d 17 0 [some (.int x0)] [] (M, z, u) Q := by
  refine he_iload (n := 1) (i := 0) (by decide +kernel) rfl ?_
  by_cases h1 : x0.toInt < 0
  · skip
    refine he_iflt_t (n := 4) (t := 13) (by decide +kernel) (by omega) ?_
    refine he_iconst (n := 14) (c := 0) (by decide +kernel) (by decide) ?_
    intro c13 hc13
    refine he_retz (by decide +kernel) (by omega) ?_
    exact K _ (fun h => by omega) (fun h => by omega)
  · skip
    refine he_iflt_f (n := 4) (t := 13) (by decide +kernel) (by omega) ?_
    refine he_iload (n := 5) (i := 0) (by decide +kernel) rfl ?_
    refine he_iconst (n := 6) (c := 4) (by decide +kernel) (by decide) ?_
    intro c5 hc5
    by_cases h6 : c5.toInt ≤ x0.toInt
    · skip
      refine he_cmpge_t (n := 9) (t := 13) (by decide +kernel) (by omega) ?_
      refine he_iconst (n := 14) (c := 0) (by decide +kernel) (by decide) ?_
      intro c13 hc13
      refine he_retz (by decide +kernel) (by omega) ?_
      exact K _ (fun h => by omega) (fun h => by omega)
    · skip
      refine he_cmpge_f (n := 9) (t := 13) (by decide +kernel) (by omega) ?_
      refine he_iconst (n := 10) (c := 1) (by decide +kernel) (by decide) ?_
      intro c9 hc9
      refine he_goto (t := 14) (by decide +kernel) ?_
      refine he_retz (by decide +kernel) (by omega) ?_
      exact K _ (fun h => by omega) (fun h => by omega)
theorem xn_isb0 {d z u : Nat} {M : Nat → mq_C} {Q : (Option Value ⊕ Nat) → mq_S → Prop} {x1 x2 : Int32} (hm : mz_sh mz_GG M) (hs : x1.toInt = 0) (K : ∀ r : Int32, ((0 ≤ x2.toInt ∧ x2.toInt < hv M 47 1) → r.toInt = 1) → (¬ (0 ≤ x2.toInt ∧ x2.toInt < hv M 47 1) → r.toInt = 0) → Q (.inl (some (.int r))) (M, z, u)) : mq_R mq_PP (d + 1) 18 0 [some (.ref 8), some (.int x1), some (.int x2)] [] (M, z, u) Q := by
  refine he_iload (n := 1) (i := 1) (by decide +kernel) rfl ?_
  refine he_s1 (n := 4) (j := 17) (mx := 1) (ns := [2234, 2235, 1001, 121]) (by decide +kernel) (by show 0 ≤ 8; omega) (by show 1 ≤ 1; omega) ?_
  rw [mq_e17]
  refine xn_slot ?_
  intro r1 ra rb
  have hr1 := ra ⟨by omega, by omega⟩
  show mq_R mq_PP (d + 1) 18 4 _ [.int r1] (M, z, u) Q
  refine he_ifeq_f (n := 7) (t := 28) (by decide +kernel) (by omega) ?_
  refine he_iload (n := 8) (i := 2) (by decide +kernel) rfl ?_
  by_cases h8 : x2.toInt < 0
  · skip
    refine he_iflt_t (n := 11) (t := 28) (by decide +kernel) (by omega) ?_
    refine he_iconst (n := 29) (c := 0) (by decide +kernel) (by decide) ?_
    intro c28 hc28
    refine he_retz (by decide +kernel) (by omega) ?_
    exact K _ (fun h => by omega) (fun h => by omega)
  · skip
    refine he_iflt_f (n := 11) (t := 28) (by decide +kernel) (by omega) ?_
    refine he_iload (n := 12) (i := 2) (by decide +kernel) rfl ?_
    refine he_aload (n := 13) (i := 0) (by decide +kernel) rfl ?_
    refine he_getr (n := 16) (ci := 0) (j := 2) (ns := [2079, 25]) (b := 37) hm (by decide +kernel) rfl rfl (by decide +kernel) ?_
    refine he_iload (n := 17) (i := 1) (by decide +kernel) rfl ?_
    refine he_aald (n := 18) (kind := 71) (b := 47) hm (by decide +kernel) rfl rfl (by decide) (by omega) (by rw [show x1.toInt.toNat = 0 by omega]; decide +kernel) ?_
    refine hb_gfd (n := 21) (ci := 1) (j := 1) (ns := [1218, 124]) hm (by decide +kernel) rfl rfl (by decide) rfl ?_
    intro v18 hv18 lv18 uv18
    by_cases h21 : v18.toInt ≤ x2.toInt
    · skip
      refine he_cmpge_t (n := 24) (t := 28) (by decide +kernel) (by omega) ?_
      refine he_iconst (n := 29) (c := 0) (by decide +kernel) (by decide) ?_
      intro c28 hc28
      refine he_retz (by decide +kernel) (by omega) ?_
      exact K _ (fun h => by omega) (fun h => by omega)
    · skip
      refine he_cmpge_f (n := 24) (t := 28) (by decide +kernel) (by omega) ?_
      refine he_iconst (n := 25) (c := 1) (by decide +kernel) (by decide) ?_
      intro c24 hc24
      refine he_goto (t := 29) (by decide +kernel) ?_
      refine he_retz (by decide +kernel) (by omega) ?_
      exact K _ (fun h => by omega) (fun h => by omega)
theorem xn_isb1 {d z u : Nat} {M : Nat → mq_C} {Q : (Option Value ⊕ Nat) → mq_S → Prop} {x1 x2 : Int32} (hm : mz_sh mz_GG M) (hs : x1.toInt = 1) (K : ∀ r : Int32, ((0 ≤ x2.toInt ∧ x2.toInt < hv M 58 1) → r.toInt = 1) → (¬ (0 ≤ x2.toInt ∧ x2.toInt < hv M 58 1) → r.toInt = 0) → Q (.inl (some (.int r))) (M, z, u)) : mq_R mq_PP (d + 1) 18 0 [some (.ref 8), some (.int x1), some (.int x2)] [] (M, z, u) Q := by
  refine he_iload (n := 1) (i := 1) (by decide +kernel) rfl ?_
  refine he_s1 (n := 4) (j := 17) (mx := 1) (ns := [2234, 2235, 1001, 121]) (by decide +kernel) (by show 0 ≤ 8; omega) (by show 1 ≤ 1; omega) ?_
  rw [mq_e17]
  refine xn_slot ?_
  intro r1 ra rb
  have hr1 := ra ⟨by omega, by omega⟩
  show mq_R mq_PP (d + 1) 18 4 _ [.int r1] (M, z, u) Q
  refine he_ifeq_f (n := 7) (t := 28) (by decide +kernel) (by omega) ?_
  refine he_iload (n := 8) (i := 2) (by decide +kernel) rfl ?_
  by_cases h8 : x2.toInt < 0
  · skip
    refine he_iflt_t (n := 11) (t := 28) (by decide +kernel) (by omega) ?_
    refine he_iconst (n := 29) (c := 0) (by decide +kernel) (by decide) ?_
    intro c28 hc28
    refine he_retz (by decide +kernel) (by omega) ?_
    exact K _ (fun h => by omega) (fun h => by omega)
  · skip
    refine he_iflt_f (n := 11) (t := 28) (by decide +kernel) (by omega) ?_
    refine he_iload (n := 12) (i := 2) (by decide +kernel) rfl ?_
    refine he_aload (n := 13) (i := 0) (by decide +kernel) rfl ?_
    refine he_getr (n := 16) (ci := 0) (j := 2) (ns := [2079, 25]) (b := 37) hm (by decide +kernel) rfl rfl (by decide +kernel) ?_
    refine he_iload (n := 17) (i := 1) (by decide +kernel) rfl ?_
    refine he_aald (n := 18) (kind := 71) (b := 58) hm (by decide +kernel) rfl rfl (by decide) (by omega) (by rw [show x1.toInt.toNat = 1 by omega]; decide +kernel) ?_
    refine hb_gfd (n := 21) (ci := 1) (j := 1) (ns := [1218, 124]) hm (by decide +kernel) rfl rfl (by decide) rfl ?_
    intro v18 hv18 lv18 uv18
    by_cases h21 : v18.toInt ≤ x2.toInt
    · skip
      refine he_cmpge_t (n := 24) (t := 28) (by decide +kernel) (by omega) ?_
      refine he_iconst (n := 29) (c := 0) (by decide +kernel) (by decide) ?_
      intro c28 hc28
      refine he_retz (by decide +kernel) (by omega) ?_
      exact K _ (fun h => by omega) (fun h => by omega)
    · skip
      refine he_cmpge_f (n := 24) (t := 28) (by decide +kernel) (by omega) ?_
      refine he_iconst (n := 25) (c := 1) (by decide +kernel) (by decide) ?_
      intro c24 hc24
      refine he_goto (t := 29) (by decide +kernel) ?_
      refine he_retz (by decide +kernel) (by omega) ?_
      exact K _ (fun h => by omega) (fun h => by omega)
theorem xn_isb2 {d z u : Nat} {M : Nat → mq_C} {Q : (Option Value ⊕ Nat) → mq_S → Prop} {x1 x2 : Int32} (hm : mz_sh mz_GG M) (hs : x1.toInt = 2) (K : ∀ r : Int32, ((0 ≤ x2.toInt ∧ x2.toInt < hv M 69 1) → r.toInt = 1) → (¬ (0 ≤ x2.toInt ∧ x2.toInt < hv M 69 1) → r.toInt = 0) → Q (.inl (some (.int r))) (M, z, u)) : mq_R mq_PP (d + 1) 18 0 [some (.ref 8), some (.int x1), some (.int x2)] [] (M, z, u) Q := by
  refine he_iload (n := 1) (i := 1) (by decide +kernel) rfl ?_
  refine he_s1 (n := 4) (j := 17) (mx := 1) (ns := [2234, 2235, 1001, 121]) (by decide +kernel) (by show 0 ≤ 8; omega) (by show 1 ≤ 1; omega) ?_
  rw [mq_e17]
  refine xn_slot ?_
  intro r1 ra rb
  have hr1 := ra ⟨by omega, by omega⟩
  show mq_R mq_PP (d + 1) 18 4 _ [.int r1] (M, z, u) Q
  refine he_ifeq_f (n := 7) (t := 28) (by decide +kernel) (by omega) ?_
  refine he_iload (n := 8) (i := 2) (by decide +kernel) rfl ?_
  by_cases h8 : x2.toInt < 0
  · skip
    refine he_iflt_t (n := 11) (t := 28) (by decide +kernel) (by omega) ?_
    refine he_iconst (n := 29) (c := 0) (by decide +kernel) (by decide) ?_
    intro c28 hc28
    refine he_retz (by decide +kernel) (by omega) ?_
    exact K _ (fun h => by omega) (fun h => by omega)
  · skip
    refine he_iflt_f (n := 11) (t := 28) (by decide +kernel) (by omega) ?_
    refine he_iload (n := 12) (i := 2) (by decide +kernel) rfl ?_
    refine he_aload (n := 13) (i := 0) (by decide +kernel) rfl ?_
    refine he_getr (n := 16) (ci := 0) (j := 2) (ns := [2079, 25]) (b := 37) hm (by decide +kernel) rfl rfl (by decide +kernel) ?_
    refine he_iload (n := 17) (i := 1) (by decide +kernel) rfl ?_
    refine he_aald (n := 18) (kind := 71) (b := 69) hm (by decide +kernel) rfl rfl (by decide) (by omega) (by rw [show x1.toInt.toNat = 2 by omega]; decide +kernel) ?_
    refine hb_gfd (n := 21) (ci := 1) (j := 1) (ns := [1218, 124]) hm (by decide +kernel) rfl rfl (by decide) rfl ?_
    intro v18 hv18 lv18 uv18
    by_cases h21 : v18.toInt ≤ x2.toInt
    · skip
      refine he_cmpge_t (n := 24) (t := 28) (by decide +kernel) (by omega) ?_
      refine he_iconst (n := 29) (c := 0) (by decide +kernel) (by decide) ?_
      intro c28 hc28
      refine he_retz (by decide +kernel) (by omega) ?_
      exact K _ (fun h => by omega) (fun h => by omega)
    · skip
      refine he_cmpge_f (n := 24) (t := 28) (by decide +kernel) (by omega) ?_
      refine he_iconst (n := 25) (c := 1) (by decide +kernel) (by decide) ?_
      intro c24 hc24
      refine he_goto (t := 29) (by decide +kernel) ?_
      refine he_retz (by decide +kernel) (by omega) ?_
      exact K _ (fun h => by omega) (fun h => by omega)
theorem xn_isb3 {d z u : Nat} {M : Nat → mq_C} {Q : (Option Value ⊕ Nat) → mq_S → Prop} {x1 x2 : Int32} (hm : mz_sh mz_GG M) (hs : x1.toInt = 3) (K : ∀ r : Int32, ((0 ≤ x2.toInt ∧ x2.toInt < hv M 80 1) → r.toInt = 1) → (¬ (0 ≤ x2.toInt ∧ x2.toInt < hv M 80 1) → r.toInt = 0) → Q (.inl (some (.int r))) (M, z, u)) : mq_R mq_PP (d + 1) 18 0 [some (.ref 8), some (.int x1), some (.int x2)] [] (M, z, u) Q := by
  refine he_iload (n := 1) (i := 1) (by decide +kernel) rfl ?_
  refine he_s1 (n := 4) (j := 17) (mx := 1) (ns := [2234, 2235, 1001, 121]) (by decide +kernel) (by show 0 ≤ 8; omega) (by show 1 ≤ 1; omega) ?_
  rw [mq_e17]
  refine xn_slot ?_
  intro r1 ra rb
  have hr1 := ra ⟨by omega, by omega⟩
  show mq_R mq_PP (d + 1) 18 4 _ [.int r1] (M, z, u) Q
  refine he_ifeq_f (n := 7) (t := 28) (by decide +kernel) (by omega) ?_
  refine he_iload (n := 8) (i := 2) (by decide +kernel) rfl ?_
  by_cases h8 : x2.toInt < 0
  · skip
    refine he_iflt_t (n := 11) (t := 28) (by decide +kernel) (by omega) ?_
    refine he_iconst (n := 29) (c := 0) (by decide +kernel) (by decide) ?_
    intro c28 hc28
    refine he_retz (by decide +kernel) (by omega) ?_
    exact K _ (fun h => by omega) (fun h => by omega)
  · skip
    refine he_iflt_f (n := 11) (t := 28) (by decide +kernel) (by omega) ?_
    refine he_iload (n := 12) (i := 2) (by decide +kernel) rfl ?_
    refine he_aload (n := 13) (i := 0) (by decide +kernel) rfl ?_
    refine he_getr (n := 16) (ci := 0) (j := 2) (ns := [2079, 25]) (b := 37) hm (by decide +kernel) rfl rfl (by decide +kernel) ?_
    refine he_iload (n := 17) (i := 1) (by decide +kernel) rfl ?_
    refine he_aald (n := 18) (kind := 71) (b := 80) hm (by decide +kernel) rfl rfl (by decide) (by omega) (by rw [show x1.toInt.toNat = 3 by omega]; decide +kernel) ?_
    refine hb_gfd (n := 21) (ci := 1) (j := 1) (ns := [1218, 124]) hm (by decide +kernel) rfl rfl (by decide) rfl ?_
    intro v18 hv18 lv18 uv18
    by_cases h21 : v18.toInt ≤ x2.toInt
    · skip
      refine he_cmpge_t (n := 24) (t := 28) (by decide +kernel) (by omega) ?_
      refine he_iconst (n := 29) (c := 0) (by decide +kernel) (by decide) ?_
      intro c28 hc28
      refine he_retz (by decide +kernel) (by omega) ?_
      exact K _ (fun h => by omega) (fun h => by omega)
    · skip
      refine he_cmpge_f (n := 24) (t := 28) (by decide +kernel) (by omega) ?_
      refine he_iconst (n := 25) (c := 1) (by decide +kernel) (by decide) ?_
      intro c24 hc24
      refine he_goto (t := 29) (by decide +kernel) ?_
      refine he_retz (by decide +kernel) (by omega) ?_
      exact K _ (fun h => by omega) (fun h => by omega)
theorem xn_isbn {d z u : Nat} {M : Nat → mq_C} {Q : (Option Value ⊕ Nat) → mq_S → Prop} {x1 x2 : Int32} (hm : mz_sh mz_GG M) (hs : ¬ (0 ≤ x1.toInt ∧ x1.toInt ≤ 3)) (K : ∀ r : Int32, r.toInt = 0 → Q (.inl (some (.int r))) (M, z, u)) : mq_R mq_PP (d + 1) 18 0 [some (.ref 8), some (.int x1), some (.int x2)] [] (M, z, u) Q := by
  refine he_iload (n := 1) (i := 1) (by decide +kernel) rfl ?_
  refine he_s1 (n := 4) (j := 17) (mx := 1) (ns := [2234, 2235, 1001, 121]) (by decide +kernel) (by show 0 ≤ 8; omega) (by show 1 ≤ 1; omega) ?_
  rw [mq_e17]
  refine xn_slot ?_
  intro r1 ra rb
  have hr1 := rb hs
  show mq_R mq_PP (d + 1) 18 4 _ [.int r1] (M, z, u) Q
  refine he_ifeq_t (n := 7) (t := 28) (by decide +kernel) (by omega) ?_
  refine he_iconst (n := 29) (c := 0) (by decide +kernel) (by decide) ?_
  intro c28 hc28
  refine he_retz (by decide +kernel) (by omega) ?_
  exact K _ (by omega)
theorem xn_peek0 {d z u : Nat} {M : Nat → mq_C} {Q : (Option Value ⊕ Nat) → mq_S → Prop} {x1 x2 : Int32} (hm : mz_sh mz_GG M) (hs : x1.toInt = 0) (K : ∀ r : Int32, ((0 ≤ x2.toInt ∧ x2.toInt < hv M 47 1) → r.toInt = hv M 48 x2.toInt.toNat) → (¬ (0 ≤ x2.toInt ∧ x2.toInt < hv M 47 1) → r.toInt = -1) → Q (.inl (some (.int r))) (M, z, u)) : mq_R mq_PP (d + 2) 5 0 [some (.ref 8), some (.int x1), some (.int x2)] [] (M, z, u) Q := by
  refine he_aload (n := 1) (i := 0) (by decide +kernel) rfl ?_
  refine he_iload (n := 2) (i := 1) (by decide +kernel) rfl ?_
  refine he_iload (n := 3) (i := 2) (by decide +kernel) rfl ?_
  refine he_v2 (n := 6) (j := 18) (ci := 0) (mx := 3) (ns := [3072, 3074, 25, 133]) (by decide +kernel) ((hb_kd (a := 8) hm rfl).trans rfl) (by show 0 ≤ 8; omega) (by show 3 ≤ 3; omega) ?_
  rw [mq_e18]
  refine xn_isb0 hm hs ?_
  intro r1 ra rb
  show mq_R mq_PP (d + 2) 5 6 _ [.int r1] (M, z, u) Q
  have hl := (xx_rng (c := _) hm (a := 47) (i := 1) (lo := 0) (hi := 240) rfl (by decide) rfl).2
  by_cases hc : (0 ≤ x2.toInt ∧ x2.toInt < hv M 47 1)
  · have hr1 := ra hc
    obtain ⟨c1, c2⟩ := id hc
    refine he_ifeq_f (n := 9) (t := 23) (by decide +kernel) (by omega) ?_
    refine he_aload (n := 10) (i := 0) (by decide +kernel) rfl ?_
    refine he_getr (n := 13) (ci := 0) (j := 2) (ns := [2079, 25]) (b := 37) hm (by decide +kernel) rfl rfl (by decide +kernel) ?_
    refine he_iload (n := 14) (i := 1) (by decide +kernel) rfl ?_
    refine he_aald (n := 15) (kind := 71) (b := 47) hm (by decide +kernel) rfl rfl (by decide) (by omega) (by rw [show x1.toInt.toNat = 0 by omega]; decide +kernel) ?_
    refine he_getr (n := 18) (ci := 1) (j := 0) (ns := [1215, 137]) (b := 48) hm (by decide +kernel) rfl rfl (by decide +kernel) ?_
    refine he_iload (n := 19) (i := 2) (by decide +kernel) rfl ?_
    refine hb_ld (n := 20) (kind := 64) hm (by decide +kernel) rfl rfl (.inl rfl) (by omega) (show _ < (240 : Int) by omega) hb_at1 ?_
    intro v19 hv19 lv19 uv19
    refine he_goto (t := 24) (by decide +kernel) ?_
    refine he_reti (by decide +kernel) ?_
    exact K _ (fun _ => hv19.symm) (fun h => absurd hc h)
  · have hr1 := rb hc
    refine he_ifeq_t (n := 9) (t := 23) (by decide +kernel) (by omega) ?_
    refine he_iconst (n := 24) (c := -1) (by decide +kernel) (by decide) ?_
    intro c23 hc23
    refine he_reti (by decide +kernel) ?_
    exact K _ (fun h => absurd h hc) (fun _ => by omega)
theorem xn_peek1 {d z u : Nat} {M : Nat → mq_C} {Q : (Option Value ⊕ Nat) → mq_S → Prop} {x1 x2 : Int32} (hm : mz_sh mz_GG M) (hs : x1.toInt = 1) (K : ∀ r : Int32, ((0 ≤ x2.toInt ∧ x2.toInt < hv M 58 1) → r.toInt = hv M 59 x2.toInt.toNat) → (¬ (0 ≤ x2.toInt ∧ x2.toInt < hv M 58 1) → r.toInt = -1) → Q (.inl (some (.int r))) (M, z, u)) : mq_R mq_PP (d + 2) 5 0 [some (.ref 8), some (.int x1), some (.int x2)] [] (M, z, u) Q := by
  refine he_aload (n := 1) (i := 0) (by decide +kernel) rfl ?_
  refine he_iload (n := 2) (i := 1) (by decide +kernel) rfl ?_
  refine he_iload (n := 3) (i := 2) (by decide +kernel) rfl ?_
  refine he_v2 (n := 6) (j := 18) (ci := 0) (mx := 3) (ns := [3072, 3074, 25, 133]) (by decide +kernel) ((hb_kd (a := 8) hm rfl).trans rfl) (by show 0 ≤ 8; omega) (by show 3 ≤ 3; omega) ?_
  rw [mq_e18]
  refine xn_isb1 hm hs ?_
  intro r1 ra rb
  show mq_R mq_PP (d + 2) 5 6 _ [.int r1] (M, z, u) Q
  have hl := (xx_rng (c := _) hm (a := 58) (i := 1) (lo := 0) (hi := 240) rfl (by decide) rfl).2
  by_cases hc : (0 ≤ x2.toInt ∧ x2.toInt < hv M 58 1)
  · have hr1 := ra hc
    obtain ⟨c1, c2⟩ := id hc
    refine he_ifeq_f (n := 9) (t := 23) (by decide +kernel) (by omega) ?_
    refine he_aload (n := 10) (i := 0) (by decide +kernel) rfl ?_
    refine he_getr (n := 13) (ci := 0) (j := 2) (ns := [2079, 25]) (b := 37) hm (by decide +kernel) rfl rfl (by decide +kernel) ?_
    refine he_iload (n := 14) (i := 1) (by decide +kernel) rfl ?_
    refine he_aald (n := 15) (kind := 71) (b := 58) hm (by decide +kernel) rfl rfl (by decide) (by omega) (by rw [show x1.toInt.toNat = 1 by omega]; decide +kernel) ?_
    refine he_getr (n := 18) (ci := 1) (j := 0) (ns := [1215, 137]) (b := 59) hm (by decide +kernel) rfl rfl (by decide +kernel) ?_
    refine he_iload (n := 19) (i := 2) (by decide +kernel) rfl ?_
    refine hb_ld (n := 20) (kind := 64) hm (by decide +kernel) rfl rfl (.inl rfl) (by omega) (show _ < (240 : Int) by omega) hb_at1 ?_
    intro v19 hv19 lv19 uv19
    refine he_goto (t := 24) (by decide +kernel) ?_
    refine he_reti (by decide +kernel) ?_
    exact K _ (fun _ => hv19.symm) (fun h => absurd hc h)
  · have hr1 := rb hc
    refine he_ifeq_t (n := 9) (t := 23) (by decide +kernel) (by omega) ?_
    refine he_iconst (n := 24) (c := -1) (by decide +kernel) (by decide) ?_
    intro c23 hc23
    refine he_reti (by decide +kernel) ?_
    exact K _ (fun h => absurd h hc) (fun _ => by omega)
theorem xn_peek2 {d z u : Nat} {M : Nat → mq_C} {Q : (Option Value ⊕ Nat) → mq_S → Prop} {x1 x2 : Int32} (hm : mz_sh mz_GG M) (hs : x1.toInt = 2) (K : ∀ r : Int32, ((0 ≤ x2.toInt ∧ x2.toInt < hv M 69 1) → r.toInt = hv M 70 x2.toInt.toNat) → (¬ (0 ≤ x2.toInt ∧ x2.toInt < hv M 69 1) → r.toInt = -1) → Q (.inl (some (.int r))) (M, z, u)) : mq_R mq_PP (d + 2) 5 0 [some (.ref 8), some (.int x1), some (.int x2)] [] (M, z, u) Q := by
  refine he_aload (n := 1) (i := 0) (by decide +kernel) rfl ?_
  refine he_iload (n := 2) (i := 1) (by decide +kernel) rfl ?_
  refine he_iload (n := 3) (i := 2) (by decide +kernel) rfl ?_
  refine he_v2 (n := 6) (j := 18) (ci := 0) (mx := 3) (ns := [3072, 3074, 25, 133]) (by decide +kernel) ((hb_kd (a := 8) hm rfl).trans rfl) (by show 0 ≤ 8; omega) (by show 3 ≤ 3; omega) ?_
  rw [mq_e18]
  refine xn_isb2 hm hs ?_
  intro r1 ra rb
  show mq_R mq_PP (d + 2) 5 6 _ [.int r1] (M, z, u) Q
  have hl := (xx_rng (c := _) hm (a := 69) (i := 1) (lo := 0) (hi := 240) rfl (by decide) rfl).2
  by_cases hc : (0 ≤ x2.toInt ∧ x2.toInt < hv M 69 1)
  · have hr1 := ra hc
    obtain ⟨c1, c2⟩ := id hc
    refine he_ifeq_f (n := 9) (t := 23) (by decide +kernel) (by omega) ?_
    refine he_aload (n := 10) (i := 0) (by decide +kernel) rfl ?_
    refine he_getr (n := 13) (ci := 0) (j := 2) (ns := [2079, 25]) (b := 37) hm (by decide +kernel) rfl rfl (by decide +kernel) ?_
    refine he_iload (n := 14) (i := 1) (by decide +kernel) rfl ?_
    refine he_aald (n := 15) (kind := 71) (b := 69) hm (by decide +kernel) rfl rfl (by decide) (by omega) (by rw [show x1.toInt.toNat = 2 by omega]; decide +kernel) ?_
    refine he_getr (n := 18) (ci := 1) (j := 0) (ns := [1215, 137]) (b := 70) hm (by decide +kernel) rfl rfl (by decide +kernel) ?_
    refine he_iload (n := 19) (i := 2) (by decide +kernel) rfl ?_
    refine hb_ld (n := 20) (kind := 64) hm (by decide +kernel) rfl rfl (.inl rfl) (by omega) (show _ < (240 : Int) by omega) hb_at1 ?_
    intro v19 hv19 lv19 uv19
    refine he_goto (t := 24) (by decide +kernel) ?_
    refine he_reti (by decide +kernel) ?_
    exact K _ (fun _ => hv19.symm) (fun h => absurd hc h)
  · have hr1 := rb hc
    refine he_ifeq_t (n := 9) (t := 23) (by decide +kernel) (by omega) ?_
    refine he_iconst (n := 24) (c := -1) (by decide +kernel) (by decide) ?_
    intro c23 hc23
    refine he_reti (by decide +kernel) ?_
    exact K _ (fun h => absurd h hc) (fun _ => by omega)
theorem xn_peek3 {d z u : Nat} {M : Nat → mq_C} {Q : (Option Value ⊕ Nat) → mq_S → Prop} {x1 x2 : Int32} (hm : mz_sh mz_GG M) (hs : x1.toInt = 3) (K : ∀ r : Int32, ((0 ≤ x2.toInt ∧ x2.toInt < hv M 80 1) → r.toInt = hv M 81 x2.toInt.toNat) → (¬ (0 ≤ x2.toInt ∧ x2.toInt < hv M 80 1) → r.toInt = -1) → Q (.inl (some (.int r))) (M, z, u)) : mq_R mq_PP (d + 2) 5 0 [some (.ref 8), some (.int x1), some (.int x2)] [] (M, z, u) Q := by
  refine he_aload (n := 1) (i := 0) (by decide +kernel) rfl ?_
  refine he_iload (n := 2) (i := 1) (by decide +kernel) rfl ?_
  refine he_iload (n := 3) (i := 2) (by decide +kernel) rfl ?_
  refine he_v2 (n := 6) (j := 18) (ci := 0) (mx := 3) (ns := [3072, 3074, 25, 133]) (by decide +kernel) ((hb_kd (a := 8) hm rfl).trans rfl) (by show 0 ≤ 8; omega) (by show 3 ≤ 3; omega) ?_
  rw [mq_e18]
  refine xn_isb3 hm hs ?_
  intro r1 ra rb
  show mq_R mq_PP (d + 2) 5 6 _ [.int r1] (M, z, u) Q
  have hl := (xx_rng (c := _) hm (a := 80) (i := 1) (lo := 0) (hi := 240) rfl (by decide) rfl).2
  by_cases hc : (0 ≤ x2.toInt ∧ x2.toInt < hv M 80 1)
  · have hr1 := ra hc
    obtain ⟨c1, c2⟩ := id hc
    refine he_ifeq_f (n := 9) (t := 23) (by decide +kernel) (by omega) ?_
    refine he_aload (n := 10) (i := 0) (by decide +kernel) rfl ?_
    refine he_getr (n := 13) (ci := 0) (j := 2) (ns := [2079, 25]) (b := 37) hm (by decide +kernel) rfl rfl (by decide +kernel) ?_
    refine he_iload (n := 14) (i := 1) (by decide +kernel) rfl ?_
    refine he_aald (n := 15) (kind := 71) (b := 80) hm (by decide +kernel) rfl rfl (by decide) (by omega) (by rw [show x1.toInt.toNat = 3 by omega]; decide +kernel) ?_
    refine he_getr (n := 18) (ci := 1) (j := 0) (ns := [1215, 137]) (b := 81) hm (by decide +kernel) rfl rfl (by decide +kernel) ?_
    refine he_iload (n := 19) (i := 2) (by decide +kernel) rfl ?_
    refine hb_ld (n := 20) (kind := 64) hm (by decide +kernel) rfl rfl (.inl rfl) (by omega) (show _ < (240 : Int) by omega) hb_at1 ?_
    intro v19 hv19 lv19 uv19
    refine he_goto (t := 24) (by decide +kernel) ?_
    refine he_reti (by decide +kernel) ?_
    exact K _ (fun _ => hv19.symm) (fun h => absurd hc h)
  · have hr1 := rb hc
    refine he_ifeq_t (n := 9) (t := 23) (by decide +kernel) (by omega) ?_
    refine he_iconst (n := 24) (c := -1) (by decide +kernel) (by decide) ?_
    intro c23 hc23
    refine he_reti (by decide +kernel) ?_
    exact K _ (fun h => absurd h hc) (fun _ => by omega)
theorem xn_peekn {d z u : Nat} {M : Nat → mq_C} {Q : (Option Value ⊕ Nat) → mq_S → Prop} {x1 x2 : Int32} (hm : mz_sh mz_GG M) (hs : ¬ (0 ≤ x1.toInt ∧ x1.toInt ≤ 3)) (K : ∀ r : Int32, r.toInt = -1 → Q (.inl (some (.int r))) (M, z, u)) : mq_R mq_PP (d + 2) 5 0 [some (.ref 8), some (.int x1), some (.int x2)] [] (M, z, u) Q := by
  refine he_aload (n := 1) (i := 0) (by decide +kernel) rfl ?_
  refine he_iload (n := 2) (i := 1) (by decide +kernel) rfl ?_
  refine he_iload (n := 3) (i := 2) (by decide +kernel) rfl ?_
  refine he_v2 (n := 6) (j := 18) (ci := 0) (mx := 3) (ns := [3072, 3074, 25, 133]) (by decide +kernel) ((hb_kd (a := 8) hm rfl).trans rfl) (by show 0 ≤ 8; omega) (by show 3 ≤ 3; omega) ?_
  rw [mq_e18]
  refine xn_isbn hm hs ?_
  intro r1 hr1
  show mq_R mq_PP (d + 2) 5 6 _ [.int r1] (M, z, u) Q
  refine he_ifeq_t (n := 9) (t := 23) (by decide +kernel) (by omega) ?_
  refine he_iconst (n := 24) (c := -1) (by decide +kernel) (by decide) ?_
  intro c23 hc23
  refine he_reti (by decide +kernel) ?_
  exact K _ (by omega)
theorem xn_peek {d z u : Nat} {M : Nat → mq_C} {Q : (Option Value ⊕ Nat) → mq_S → Prop} {x1 x2 : Int32} (hm : mz_sh mz_GG M) (K : ∀ r : Int32, c6_peek M x1.toInt x2.toInt r.toInt → Q (.inl (some (.int r))) (M, z, u)) : mq_R mq_PP (d + 2) 5 0 [some (.ref 8), some (.int x1), some (.int x2)] [] (M, z, u) Q := by
  by_cases h : 0 ≤ x1.toInt ∧ x1.toInt ≤ 3
  · have h4 : x1.toInt = 0 ∨ x1.toInt = 1 ∨ x1.toInt = 2 ∨ x1.toInt = 3 := by omega
    rcases h4 with hs | hs | hs | hs
    · refine xn_peek0 hm hs (fun r ka kb => K r ?_)
      by_cases hc : 0 ≤ x2.toInt ∧ x2.toInt < hv M 47 1
      · exact .inl ⟨0, by decide, hs, hc.1, hc.2, ka hc⟩
      · refine .inr ⟨kb hc, fun s h1 h2 => ?_⟩
        obtain rfl : s = 0 := by omega
        exact hc
    · refine xn_peek1 hm hs (fun r ka kb => K r ?_)
      by_cases hc : 0 ≤ x2.toInt ∧ x2.toInt < hv M 58 1
      · exact .inl ⟨1, by decide, hs, hc.1, hc.2, ka hc⟩
      · refine .inr ⟨kb hc, fun s h1 h2 => ?_⟩
        obtain rfl : s = 1 := by omega
        exact hc
    · refine xn_peek2 hm hs (fun r ka kb => K r ?_)
      by_cases hc : 0 ≤ x2.toInt ∧ x2.toInt < hv M 69 1
      · exact .inl ⟨2, by decide, hs, hc.1, hc.2, ka hc⟩
      · refine .inr ⟨kb hc, fun s h1 h2 => ?_⟩
        obtain rfl : s = 2 := by omega
        exact hc
    · refine xn_peek3 hm hs (fun r ka kb => K r ?_)
      by_cases hc : 0 ≤ x2.toInt ∧ x2.toInt < hv M 80 1
      · exact .inl ⟨3, by decide, hs, hc.1, hc.2, ka hc⟩
      · refine .inr ⟨kb hc, fun s h1 h2 => ?_⟩
        obtain rfl : s = 3 := by omega
        exact hc
  · exact xn_peekn hm h (fun r hr => K r (.inr ⟨hr, fun s h1 h2 => absurd ⟨by omega, by omega⟩ h⟩))
theorem xn_spoil0 {d z u : Nat} {M : Nat → mq_C} {Q : (Option Value ⊕ Nat) → mq_S → Prop} {x1 x2 x3 : Int32} (hz : 272 ≤ z) (hm : mz_sh mz_GG M) (hx : HX M) (hs : x1.toInt = 0) (K0 : ∀ r : Int32, r.toInt = 0 → ¬ (0 ≤ x2.toInt ∧ x2.toInt < hv M 47 1 ∧ 0 ≤ x3.toInt ∧ x3.toInt ≤ 255) → Q (.inl (some (.int r))) (M, z, u)) (K1 : ∀ (M' : Nat → mq_C) (r : Int32), r.toInt = 1 → 0 ≤ x3.toInt → x3.toInt ≤ 255 → (0 ≤ x2.toInt ∧ x2.toInt < hv M 47 1) → c6_kp M M' → c6_ot 0 M M' → hv M' 48 x2.toInt.toNat = (Int32.ofInt (hv M 48 x2.toInt.toNat) ^^^ x3).toInt → (∀ t, t ≠ x2.toInt.toNat → hv M' 48 t = hv M 48 t) → Q (.inl (some (.int r))) (M', z, u)) : mq_R mq_PP (d + 8) 4 0 [some (.ref 8), some (.int x1), some (.int x2), some (.int x3)] [] (M, z, u) Q := by
  refine he_aload (n := 1) (i := 0) (by decide +kernel) rfl ?_
  refine he_iload (n := 2) (i := 1) (by decide +kernel) rfl ?_
  refine he_iload (n := 3) (i := 2) (by decide +kernel) rfl ?_
  refine he_v2 (n := 6) (j := 18) (ci := 0) (mx := 3) (ns := [3072, 3074, 25, 133]) (by decide +kernel) ((hb_kd (a := 8) hm rfl).trans rfl) (by show 0 ≤ 8; omega) (by show 3 ≤ 3; omega) ?_
  rw [mq_e18]
  refine xn_isb0 hm hs ?_
  intro r1 ra rb
  show mq_R mq_PP (d + 8) 4 6 _ [.int r1] (M, z, u) Q
  have hl := (xx_rng (c := _) hm (a := 47) (i := 1) (lo := 0) (hi := 240) rfl (by decide) rfl).2
  by_cases hc : (0 ≤ x2.toInt ∧ x2.toInt < hv M 47 1)
  rotate_left
  · have hr1 := rb hc
    refine he_ifeq_t (n := 9) (t := 20) (by decide +kernel) (by omega) ?_
    refine he_iconst (n := 21) (c := 0) (by decide +kernel) (by decide) ?_
    intro c20 hc20
    refine he_retz (by decide +kernel) (by omega) ?_
    exact K0 _ (by omega) (fun h => hc ⟨h.1, h.2.1⟩)
  have hr1 := ra hc
  obtain ⟨c1, c2⟩ := id hc
  refine he_ifeq_f (n := 9) (t := 20) (by decide +kernel) (by omega) ?_
  refine he_iload (n := 10) (i := 3) (by decide +kernel) rfl ?_
  by_cases h10 : x3.toInt < 0
  · skip
    refine he_iflt_t (n := 13) (t := 20) (by decide +kernel) (by omega) ?_
    refine he_iconst (n := 21) (c := 0) (by decide +kernel) (by decide) ?_
    intro c20 hc20
    refine he_retz (by decide +kernel) (by omega) ?_
    exact K0 _ (by omega) (fun h => by omega)
  · skip
    refine he_iflt_f (n := 13) (t := 20) (by decide +kernel) (by omega) ?_
    refine he_iload (n := 14) (i := 3) (by decide +kernel) rfl ?_
    refine he_iconst (n := 17) (c := 255) (by decide +kernel) (by decide) ?_
    intro c14 hc14
    by_cases h17 : x3.toInt ≤ c14.toInt
    · skip
      refine he_cmple_t (n := 20) (t := 22) (by decide +kernel) (by omega) ?_
      refine he_aload (n := 23) (i := 0) (by decide +kernel) rfl ?_
      refine he_getr (n := 26) (ci := 0) (j := 2) (ns := [2079, 25]) (b := 37) hm (by decide +kernel) rfl rfl (by decide +kernel) ?_
      refine he_iload (n := 27) (i := 1) (by decide +kernel) rfl ?_
      refine he_aald (n := 28) (kind := 71) (b := 47) hm (by decide +kernel) rfl rfl (by decide) (by omega) (by rw [show x1.toInt.toNat = 0 by omega]; decide +kernel) ?_
      refine he_getr (n := 31) (ci := 1) (j := 0) (ns := [1215, 137]) (b := 48) hm (by decide +kernel) rfl rfl (by decide +kernel) ?_
      refine he_iload (n := 32) (i := 2) (by decide +kernel) rfl ?_
      refine he_dup2 (n := 33) (by decide +kernel) ?_
      refine hb_ld (n := 34) (kind := 64) hm (by decide +kernel) rfl rfl (.inl rfl) (by omega) (show _ < (240 : Int) by omega) hb_at1 ?_
      intro v33 hv33 lv33 uv33
      refine he_iload (n := 35) (i := 3) (by decide +kernel) rfl ?_
      refine he_ex2 (o := 14) (n := 36) (by decide +kernel) rfl ?_
      intro v35 hv35
      have ev35 : v35 = v33 ^^^ x3 := hv35
      have bv35 := mz_i32 v35
      have hxr := xx_xor (X := v33) (Y := x3) (by omega) (by omega) (by omega) (by omega)
      rw [← ev35] at hxr
      obtain ⟨xr0, xr1⟩ := hxr
      refine hb_sta (n := 37) (kind := 64) hm (by decide +kernel) rfl rfl (.inl rfl) (by omega) (show _ < (240 : Int) by omega) ?_
      generalize hM1 : hb_set M 48 (x2.toInt.toNat) v35 = M1
      have hm1 : mz_sh mz_GG M1 := by rw [← hM1]; exact hb_set_sh hm rfl hb_at1 (by omega) (by omega)
      have eM1 : ∀ b j, b ≠ 48 ∨ j ≠ x2.toInt.toNat → hv M1 b j = hv M b j := by intro b j h; rw [← hM1]; exact hb_set_n h
      have sM1 : hv M1 48 (x2.toInt.toNat) = v35.toInt := by rw [← hM1]; exact hb_set_v hm rfl (show _ < 240 by omega)
      have wM1 : ∀ b, b ≠ 48 → M1 b = M b := by intro b h; rw [← hM1]; exact hb_set_c h
      refine he_aload (n := 38) (i := 0) (by decide +kernel) rfl ?_
      refine he_getr (n := 41) (ci := 0) (j := 2) (ns := [2079, 25]) (b := 37) hm1 (by decide +kernel) rfl rfl (by decide +kernel) ?_
      refine he_iload (n := 42) (i := 1) (by decide +kernel) rfl ?_
      refine he_aald (n := 43) (kind := 71) (b := 47) hm1 (by decide +kernel) rfl rfl (by decide) (by omega) (by rw [show x1.toInt.toNat = 0 by omega]; decide +kernel) ?_
      refine he_aload (n := 44) (i := 0) (by decide +kernel) rfl ?_
      refine he_getr (n := 47) (ci := 0) (j := 0) (ns := [2077, 12]) (b := 9) hm1 (by decide +kernel) rfl rfl (by decide +kernel) ?_
      have hx1 : HX M1 := fun t => by rw [← hM1]; exact hxk_s (xsp t _ _ (by omega)) (hx t)
      refine he_v1 (n := 50) (j := 48) (ci := 1) (mx := 3) (ns := [3001, 3002, 3003, 129]) (by decide +kernel) ((hb_kd (a := 47) hm1 rfl).trans rfl) (by show 0 ≤ 8; omega) (by show 2 ≤ 3; omega) ?_
      rw [mq_e48]
      refine lx_examine (ha_all (mz_q95, 7) (List.mem_of_getElem? (show mz_Cs[95]? = _ from rfl))) (by omega) hz hm1 hx1 (by decide) ?_
      intro M4 hm4 hx4 gw4 g84 ge4
      show mq_R mq_PP (d + 8) 4 50 _ [] (M4, z, u) Q
      refine he_iconst (n := 51) (c := 1) (by decide +kernel) (by decide) ?_
      intro c50 hc50
      refine he_retz (by decide +kernel) (by omega) ?_
      have eB : M4 48 = M1 48 := gw4 48 (by decide) (by decide +kernel)
      refine K1 M4 _ (by omega) (by omega) (by omega) hc ⟨(gw4 34 (by decide) (by decide +kernel)).trans (wM1 34 (by decide)), (gw4 35 (by decide) (by decide +kernel)).trans (wM1 35 (by decide)), (gw4 36 (by decide) (by decide +kernel)).trans (wM1 36 (by decide))⟩ (fun s1 h1 h2 => by
        have h : s1 = 1 ∨ s1 = 2 ∨ s1 = 3 := by omega
        rcases h with rfl | rfl | rfl
        · exact (gw4 59 (by decide) (by decide +kernel)).trans (wM1 59 (by decide))
        · exact (gw4 70 (by decide) (by decide +kernel)).trans (wM1 70 (by decide))
        · exact (gw4 81 (by decide) (by decide +kernel)).trans (wM1 81 (by decide))) ?_ ?_
      · rw [hb_vc eB, sM1, ev35, show v33 = Int32.ofInt (hv M 48 x2.toInt.toNat) from xe_oi hv33.symm]
      · intro t ht
        rw [hb_vc eB]
        exact eM1 _ _ (.inr ht)
    · skip
      refine he_cmple_f (n := 20) (t := 22) (by decide +kernel) (by omega) ?_
      refine he_iconst (n := 21) (c := 0) (by decide +kernel) (by decide) ?_
      intro c20 hc20
      refine he_retz (by decide +kernel) (by omega) ?_
      exact K0 _ (by omega) (fun h => by omega)
theorem xn_spoil1 {d z u : Nat} {M : Nat → mq_C} {Q : (Option Value ⊕ Nat) → mq_S → Prop} {x1 x2 x3 : Int32} (hz : 272 ≤ z) (hm : mz_sh mz_GG M) (hx : HX M) (hs : x1.toInt = 1) (K0 : ∀ r : Int32, r.toInt = 0 → ¬ (0 ≤ x2.toInt ∧ x2.toInt < hv M 58 1 ∧ 0 ≤ x3.toInt ∧ x3.toInt ≤ 255) → Q (.inl (some (.int r))) (M, z, u)) (K1 : ∀ (M' : Nat → mq_C) (r : Int32), r.toInt = 1 → 0 ≤ x3.toInt → x3.toInt ≤ 255 → (0 ≤ x2.toInt ∧ x2.toInt < hv M 58 1) → c6_kp M M' → c6_ot 1 M M' → hv M' 59 x2.toInt.toNat = (Int32.ofInt (hv M 59 x2.toInt.toNat) ^^^ x3).toInt → (∀ t, t ≠ x2.toInt.toNat → hv M' 59 t = hv M 59 t) → Q (.inl (some (.int r))) (M', z, u)) : mq_R mq_PP (d + 8) 4 0 [some (.ref 8), some (.int x1), some (.int x2), some (.int x3)] [] (M, z, u) Q := by
  refine he_aload (n := 1) (i := 0) (by decide +kernel) rfl ?_
  refine he_iload (n := 2) (i := 1) (by decide +kernel) rfl ?_
  refine he_iload (n := 3) (i := 2) (by decide +kernel) rfl ?_
  refine he_v2 (n := 6) (j := 18) (ci := 0) (mx := 3) (ns := [3072, 3074, 25, 133]) (by decide +kernel) ((hb_kd (a := 8) hm rfl).trans rfl) (by show 0 ≤ 8; omega) (by show 3 ≤ 3; omega) ?_
  rw [mq_e18]
  refine xn_isb1 hm hs ?_
  intro r1 ra rb
  show mq_R mq_PP (d + 8) 4 6 _ [.int r1] (M, z, u) Q
  have hl := (xx_rng (c := _) hm (a := 58) (i := 1) (lo := 0) (hi := 240) rfl (by decide) rfl).2
  by_cases hc : (0 ≤ x2.toInt ∧ x2.toInt < hv M 58 1)
  rotate_left
  · have hr1 := rb hc
    refine he_ifeq_t (n := 9) (t := 20) (by decide +kernel) (by omega) ?_
    refine he_iconst (n := 21) (c := 0) (by decide +kernel) (by decide) ?_
    intro c20 hc20
    refine he_retz (by decide +kernel) (by omega) ?_
    exact K0 _ (by omega) (fun h => hc ⟨h.1, h.2.1⟩)
  have hr1 := ra hc
  obtain ⟨c1, c2⟩ := id hc
  refine he_ifeq_f (n := 9) (t := 20) (by decide +kernel) (by omega) ?_
  refine he_iload (n := 10) (i := 3) (by decide +kernel) rfl ?_
  by_cases h10 : x3.toInt < 0
  · skip
    refine he_iflt_t (n := 13) (t := 20) (by decide +kernel) (by omega) ?_
    refine he_iconst (n := 21) (c := 0) (by decide +kernel) (by decide) ?_
    intro c20 hc20
    refine he_retz (by decide +kernel) (by omega) ?_
    exact K0 _ (by omega) (fun h => by omega)
  · skip
    refine he_iflt_f (n := 13) (t := 20) (by decide +kernel) (by omega) ?_
    refine he_iload (n := 14) (i := 3) (by decide +kernel) rfl ?_
    refine he_iconst (n := 17) (c := 255) (by decide +kernel) (by decide) ?_
    intro c14 hc14
    by_cases h17 : x3.toInt ≤ c14.toInt
    · skip
      refine he_cmple_t (n := 20) (t := 22) (by decide +kernel) (by omega) ?_
      refine he_aload (n := 23) (i := 0) (by decide +kernel) rfl ?_
      refine he_getr (n := 26) (ci := 0) (j := 2) (ns := [2079, 25]) (b := 37) hm (by decide +kernel) rfl rfl (by decide +kernel) ?_
      refine he_iload (n := 27) (i := 1) (by decide +kernel) rfl ?_
      refine he_aald (n := 28) (kind := 71) (b := 58) hm (by decide +kernel) rfl rfl (by decide) (by omega) (by rw [show x1.toInt.toNat = 1 by omega]; decide +kernel) ?_
      refine he_getr (n := 31) (ci := 1) (j := 0) (ns := [1215, 137]) (b := 59) hm (by decide +kernel) rfl rfl (by decide +kernel) ?_
      refine he_iload (n := 32) (i := 2) (by decide +kernel) rfl ?_
      refine he_dup2 (n := 33) (by decide +kernel) ?_
      refine hb_ld (n := 34) (kind := 64) hm (by decide +kernel) rfl rfl (.inl rfl) (by omega) (show _ < (240 : Int) by omega) hb_at1 ?_
      intro v33 hv33 lv33 uv33
      refine he_iload (n := 35) (i := 3) (by decide +kernel) rfl ?_
      refine he_ex2 (o := 14) (n := 36) (by decide +kernel) rfl ?_
      intro v35 hv35
      have ev35 : v35 = v33 ^^^ x3 := hv35
      have bv35 := mz_i32 v35
      have hxr := xx_xor (X := v33) (Y := x3) (by omega) (by omega) (by omega) (by omega)
      rw [← ev35] at hxr
      obtain ⟨xr0, xr1⟩ := hxr
      refine hb_sta (n := 37) (kind := 64) hm (by decide +kernel) rfl rfl (.inl rfl) (by omega) (show _ < (240 : Int) by omega) ?_
      generalize hM1 : hb_set M 59 (x2.toInt.toNat) v35 = M1
      have hm1 : mz_sh mz_GG M1 := by rw [← hM1]; exact hb_set_sh hm rfl hb_at1 (by omega) (by omega)
      have eM1 : ∀ b j, b ≠ 59 ∨ j ≠ x2.toInt.toNat → hv M1 b j = hv M b j := by intro b j h; rw [← hM1]; exact hb_set_n h
      have sM1 : hv M1 59 (x2.toInt.toNat) = v35.toInt := by rw [← hM1]; exact hb_set_v hm rfl (show _ < 240 by omega)
      have wM1 : ∀ b, b ≠ 59 → M1 b = M b := by intro b h; rw [← hM1]; exact hb_set_c h
      refine he_aload (n := 38) (i := 0) (by decide +kernel) rfl ?_
      refine he_getr (n := 41) (ci := 0) (j := 2) (ns := [2079, 25]) (b := 37) hm1 (by decide +kernel) rfl rfl (by decide +kernel) ?_
      refine he_iload (n := 42) (i := 1) (by decide +kernel) rfl ?_
      refine he_aald (n := 43) (kind := 71) (b := 58) hm1 (by decide +kernel) rfl rfl (by decide) (by omega) (by rw [show x1.toInt.toNat = 1 by omega]; decide +kernel) ?_
      refine he_aload (n := 44) (i := 0) (by decide +kernel) rfl ?_
      refine he_getr (n := 47) (ci := 0) (j := 0) (ns := [2077, 12]) (b := 9) hm1 (by decide +kernel) rfl rfl (by decide +kernel) ?_
      have hx1 : HX M1 := fun t => by rw [← hM1]; exact hxk_s (xsp t _ _ (by omega)) (hx t)
      refine he_v1 (n := 50) (j := 48) (ci := 1) (mx := 3) (ns := [3001, 3002, 3003, 129]) (by decide +kernel) ((hb_kd (a := 58) hm1 rfl).trans rfl) (by show 0 ≤ 8; omega) (by show 2 ≤ 3; omega) ?_
      rw [mq_e48]
      refine lx_examine (ha_all (mz_q95, 7) (List.mem_of_getElem? (show mz_Cs[95]? = _ from rfl))) (by omega) hz hm1 hx1 (by decide) ?_
      intro M4 hm4 hx4 gw4 g84 ge4
      show mq_R mq_PP (d + 8) 4 50 _ [] (M4, z, u) Q
      refine he_iconst (n := 51) (c := 1) (by decide +kernel) (by decide) ?_
      intro c50 hc50
      refine he_retz (by decide +kernel) (by omega) ?_
      have eB : M4 59 = M1 59 := gw4 59 (by decide) (by decide +kernel)
      refine K1 M4 _ (by omega) (by omega) (by omega) hc ⟨(gw4 34 (by decide) (by decide +kernel)).trans (wM1 34 (by decide)), (gw4 35 (by decide) (by decide +kernel)).trans (wM1 35 (by decide)), (gw4 36 (by decide) (by decide +kernel)).trans (wM1 36 (by decide))⟩ (fun s1 h1 h2 => by
        have h : s1 = 0 ∨ s1 = 2 ∨ s1 = 3 := by omega
        rcases h with rfl | rfl | rfl
        · exact (gw4 48 (by decide) (by decide +kernel)).trans (wM1 48 (by decide))
        · exact (gw4 70 (by decide) (by decide +kernel)).trans (wM1 70 (by decide))
        · exact (gw4 81 (by decide) (by decide +kernel)).trans (wM1 81 (by decide))) ?_ ?_
      · rw [hb_vc eB, sM1, ev35, show v33 = Int32.ofInt (hv M 59 x2.toInt.toNat) from xe_oi hv33.symm]
      · intro t ht
        rw [hb_vc eB]
        exact eM1 _ _ (.inr ht)
    · skip
      refine he_cmple_f (n := 20) (t := 22) (by decide +kernel) (by omega) ?_
      refine he_iconst (n := 21) (c := 0) (by decide +kernel) (by decide) ?_
      intro c20 hc20
      refine he_retz (by decide +kernel) (by omega) ?_
      exact K0 _ (by omega) (fun h => by omega)
theorem xn_spoil2 {d z u : Nat} {M : Nat → mq_C} {Q : (Option Value ⊕ Nat) → mq_S → Prop} {x1 x2 x3 : Int32} (hz : 272 ≤ z) (hm : mz_sh mz_GG M) (hx : HX M) (hs : x1.toInt = 2) (K0 : ∀ r : Int32, r.toInt = 0 → ¬ (0 ≤ x2.toInt ∧ x2.toInt < hv M 69 1 ∧ 0 ≤ x3.toInt ∧ x3.toInt ≤ 255) → Q (.inl (some (.int r))) (M, z, u)) (K1 : ∀ (M' : Nat → mq_C) (r : Int32), r.toInt = 1 → 0 ≤ x3.toInt → x3.toInt ≤ 255 → (0 ≤ x2.toInt ∧ x2.toInt < hv M 69 1) → c6_kp M M' → c6_ot 2 M M' → hv M' 70 x2.toInt.toNat = (Int32.ofInt (hv M 70 x2.toInt.toNat) ^^^ x3).toInt → (∀ t, t ≠ x2.toInt.toNat → hv M' 70 t = hv M 70 t) → Q (.inl (some (.int r))) (M', z, u)) : mq_R mq_PP (d + 8) 4 0 [some (.ref 8), some (.int x1), some (.int x2), some (.int x3)] [] (M, z, u) Q := by
  refine he_aload (n := 1) (i := 0) (by decide +kernel) rfl ?_
  refine he_iload (n := 2) (i := 1) (by decide +kernel) rfl ?_
  refine he_iload (n := 3) (i := 2) (by decide +kernel) rfl ?_
  refine he_v2 (n := 6) (j := 18) (ci := 0) (mx := 3) (ns := [3072, 3074, 25, 133]) (by decide +kernel) ((hb_kd (a := 8) hm rfl).trans rfl) (by show 0 ≤ 8; omega) (by show 3 ≤ 3; omega) ?_
  rw [mq_e18]
  refine xn_isb2 hm hs ?_
  intro r1 ra rb
  show mq_R mq_PP (d + 8) 4 6 _ [.int r1] (M, z, u) Q
  have hl := (xx_rng (c := _) hm (a := 69) (i := 1) (lo := 0) (hi := 240) rfl (by decide) rfl).2
  by_cases hc : (0 ≤ x2.toInt ∧ x2.toInt < hv M 69 1)
  rotate_left
  · have hr1 := rb hc
    refine he_ifeq_t (n := 9) (t := 20) (by decide +kernel) (by omega) ?_
    refine he_iconst (n := 21) (c := 0) (by decide +kernel) (by decide) ?_
    intro c20 hc20
    refine he_retz (by decide +kernel) (by omega) ?_
    exact K0 _ (by omega) (fun h => hc ⟨h.1, h.2.1⟩)
  have hr1 := ra hc
  obtain ⟨c1, c2⟩ := id hc
  refine he_ifeq_f (n := 9) (t := 20) (by decide +kernel) (by omega) ?_
  refine he_iload (n := 10) (i := 3) (by decide +kernel) rfl ?_
  by_cases h10 : x3.toInt < 0
  · skip
    refine he_iflt_t (n := 13) (t := 20) (by decide +kernel) (by omega) ?_
    refine he_iconst (n := 21) (c := 0) (by decide +kernel) (by decide) ?_
    intro c20 hc20
    refine he_retz (by decide +kernel) (by omega) ?_
    exact K0 _ (by omega) (fun h => by omega)
  · skip
    refine he_iflt_f (n := 13) (t := 20) (by decide +kernel) (by omega) ?_
    refine he_iload (n := 14) (i := 3) (by decide +kernel) rfl ?_
    refine he_iconst (n := 17) (c := 255) (by decide +kernel) (by decide) ?_
    intro c14 hc14
    by_cases h17 : x3.toInt ≤ c14.toInt
    · skip
      refine he_cmple_t (n := 20) (t := 22) (by decide +kernel) (by omega) ?_
      refine he_aload (n := 23) (i := 0) (by decide +kernel) rfl ?_
      refine he_getr (n := 26) (ci := 0) (j := 2) (ns := [2079, 25]) (b := 37) hm (by decide +kernel) rfl rfl (by decide +kernel) ?_
      refine he_iload (n := 27) (i := 1) (by decide +kernel) rfl ?_
      refine he_aald (n := 28) (kind := 71) (b := 69) hm (by decide +kernel) rfl rfl (by decide) (by omega) (by rw [show x1.toInt.toNat = 2 by omega]; decide +kernel) ?_
      refine he_getr (n := 31) (ci := 1) (j := 0) (ns := [1215, 137]) (b := 70) hm (by decide +kernel) rfl rfl (by decide +kernel) ?_
      refine he_iload (n := 32) (i := 2) (by decide +kernel) rfl ?_
      refine he_dup2 (n := 33) (by decide +kernel) ?_
      refine hb_ld (n := 34) (kind := 64) hm (by decide +kernel) rfl rfl (.inl rfl) (by omega) (show _ < (240 : Int) by omega) hb_at1 ?_
      intro v33 hv33 lv33 uv33
      refine he_iload (n := 35) (i := 3) (by decide +kernel) rfl ?_
      refine he_ex2 (o := 14) (n := 36) (by decide +kernel) rfl ?_
      intro v35 hv35
      have ev35 : v35 = v33 ^^^ x3 := hv35
      have bv35 := mz_i32 v35
      have hxr := xx_xor (X := v33) (Y := x3) (by omega) (by omega) (by omega) (by omega)
      rw [← ev35] at hxr
      obtain ⟨xr0, xr1⟩ := hxr
      refine hb_sta (n := 37) (kind := 64) hm (by decide +kernel) rfl rfl (.inl rfl) (by omega) (show _ < (240 : Int) by omega) ?_
      generalize hM1 : hb_set M 70 (x2.toInt.toNat) v35 = M1
      have hm1 : mz_sh mz_GG M1 := by rw [← hM1]; exact hb_set_sh hm rfl hb_at1 (by omega) (by omega)
      have eM1 : ∀ b j, b ≠ 70 ∨ j ≠ x2.toInt.toNat → hv M1 b j = hv M b j := by intro b j h; rw [← hM1]; exact hb_set_n h
      have sM1 : hv M1 70 (x2.toInt.toNat) = v35.toInt := by rw [← hM1]; exact hb_set_v hm rfl (show _ < 240 by omega)
      have wM1 : ∀ b, b ≠ 70 → M1 b = M b := by intro b h; rw [← hM1]; exact hb_set_c h
      refine he_aload (n := 38) (i := 0) (by decide +kernel) rfl ?_
      refine he_getr (n := 41) (ci := 0) (j := 2) (ns := [2079, 25]) (b := 37) hm1 (by decide +kernel) rfl rfl (by decide +kernel) ?_
      refine he_iload (n := 42) (i := 1) (by decide +kernel) rfl ?_
      refine he_aald (n := 43) (kind := 71) (b := 69) hm1 (by decide +kernel) rfl rfl (by decide) (by omega) (by rw [show x1.toInt.toNat = 2 by omega]; decide +kernel) ?_
      refine he_aload (n := 44) (i := 0) (by decide +kernel) rfl ?_
      refine he_getr (n := 47) (ci := 0) (j := 0) (ns := [2077, 12]) (b := 9) hm1 (by decide +kernel) rfl rfl (by decide +kernel) ?_
      have hx1 : HX M1 := fun t => by rw [← hM1]; exact hxk_s (xsp t _ _ (by omega)) (hx t)
      refine he_v1 (n := 50) (j := 48) (ci := 1) (mx := 3) (ns := [3001, 3002, 3003, 129]) (by decide +kernel) ((hb_kd (a := 69) hm1 rfl).trans rfl) (by show 0 ≤ 8; omega) (by show 2 ≤ 3; omega) ?_
      rw [mq_e48]
      refine lx_examine (ha_all (mz_q95, 7) (List.mem_of_getElem? (show mz_Cs[95]? = _ from rfl))) (by omega) hz hm1 hx1 (by decide) ?_
      intro M4 hm4 hx4 gw4 g84 ge4
      show mq_R mq_PP (d + 8) 4 50 _ [] (M4, z, u) Q
      refine he_iconst (n := 51) (c := 1) (by decide +kernel) (by decide) ?_
      intro c50 hc50
      refine he_retz (by decide +kernel) (by omega) ?_
      have eB : M4 70 = M1 70 := gw4 70 (by decide) (by decide +kernel)
      refine K1 M4 _ (by omega) (by omega) (by omega) hc ⟨(gw4 34 (by decide) (by decide +kernel)).trans (wM1 34 (by decide)), (gw4 35 (by decide) (by decide +kernel)).trans (wM1 35 (by decide)), (gw4 36 (by decide) (by decide +kernel)).trans (wM1 36 (by decide))⟩ (fun s1 h1 h2 => by
        have h : s1 = 0 ∨ s1 = 1 ∨ s1 = 3 := by omega
        rcases h with rfl | rfl | rfl
        · exact (gw4 48 (by decide) (by decide +kernel)).trans (wM1 48 (by decide))
        · exact (gw4 59 (by decide) (by decide +kernel)).trans (wM1 59 (by decide))
        · exact (gw4 81 (by decide) (by decide +kernel)).trans (wM1 81 (by decide))) ?_ ?_
      · rw [hb_vc eB, sM1, ev35, show v33 = Int32.ofInt (hv M 70 x2.toInt.toNat) from xe_oi hv33.symm]
      · intro t ht
        rw [hb_vc eB]
        exact eM1 _ _ (.inr ht)
    · skip
      refine he_cmple_f (n := 20) (t := 22) (by decide +kernel) (by omega) ?_
      refine he_iconst (n := 21) (c := 0) (by decide +kernel) (by decide) ?_
      intro c20 hc20
      refine he_retz (by decide +kernel) (by omega) ?_
      exact K0 _ (by omega) (fun h => by omega)
theorem xn_spoil3 {d z u : Nat} {M : Nat → mq_C} {Q : (Option Value ⊕ Nat) → mq_S → Prop} {x1 x2 x3 : Int32} (hz : 272 ≤ z) (hm : mz_sh mz_GG M) (hx : HX M) (hs : x1.toInt = 3) (K0 : ∀ r : Int32, r.toInt = 0 → ¬ (0 ≤ x2.toInt ∧ x2.toInt < hv M 80 1 ∧ 0 ≤ x3.toInt ∧ x3.toInt ≤ 255) → Q (.inl (some (.int r))) (M, z, u)) (K1 : ∀ (M' : Nat → mq_C) (r : Int32), r.toInt = 1 → 0 ≤ x3.toInt → x3.toInt ≤ 255 → (0 ≤ x2.toInt ∧ x2.toInt < hv M 80 1) → c6_kp M M' → c6_ot 3 M M' → hv M' 81 x2.toInt.toNat = (Int32.ofInt (hv M 81 x2.toInt.toNat) ^^^ x3).toInt → (∀ t, t ≠ x2.toInt.toNat → hv M' 81 t = hv M 81 t) → Q (.inl (some (.int r))) (M', z, u)) : mq_R mq_PP (d + 8) 4 0 [some (.ref 8), some (.int x1), some (.int x2), some (.int x3)] [] (M, z, u) Q := by
  refine he_aload (n := 1) (i := 0) (by decide +kernel) rfl ?_
  refine he_iload (n := 2) (i := 1) (by decide +kernel) rfl ?_
  refine he_iload (n := 3) (i := 2) (by decide +kernel) rfl ?_
  refine he_v2 (n := 6) (j := 18) (ci := 0) (mx := 3) (ns := [3072, 3074, 25, 133]) (by decide +kernel) ((hb_kd (a := 8) hm rfl).trans rfl) (by show 0 ≤ 8; omega) (by show 3 ≤ 3; omega) ?_
  rw [mq_e18]
  refine xn_isb3 hm hs ?_
  intro r1 ra rb
  show mq_R mq_PP (d + 8) 4 6 _ [.int r1] (M, z, u) Q
  have hl := (xx_rng (c := _) hm (a := 80) (i := 1) (lo := 0) (hi := 240) rfl (by decide) rfl).2
  by_cases hc : (0 ≤ x2.toInt ∧ x2.toInt < hv M 80 1)
  rotate_left
  · have hr1 := rb hc
    refine he_ifeq_t (n := 9) (t := 20) (by decide +kernel) (by omega) ?_
    refine he_iconst (n := 21) (c := 0) (by decide +kernel) (by decide) ?_
    intro c20 hc20
    refine he_retz (by decide +kernel) (by omega) ?_
    exact K0 _ (by omega) (fun h => hc ⟨h.1, h.2.1⟩)
  have hr1 := ra hc
  obtain ⟨c1, c2⟩ := id hc
  refine he_ifeq_f (n := 9) (t := 20) (by decide +kernel) (by omega) ?_
  refine he_iload (n := 10) (i := 3) (by decide +kernel) rfl ?_
  by_cases h10 : x3.toInt < 0
  · skip
    refine he_iflt_t (n := 13) (t := 20) (by decide +kernel) (by omega) ?_
    refine he_iconst (n := 21) (c := 0) (by decide +kernel) (by decide) ?_
    intro c20 hc20
    refine he_retz (by decide +kernel) (by omega) ?_
    exact K0 _ (by omega) (fun h => by omega)
  · skip
    refine he_iflt_f (n := 13) (t := 20) (by decide +kernel) (by omega) ?_
    refine he_iload (n := 14) (i := 3) (by decide +kernel) rfl ?_
    refine he_iconst (n := 17) (c := 255) (by decide +kernel) (by decide) ?_
    intro c14 hc14
    by_cases h17 : x3.toInt ≤ c14.toInt
    · skip
      refine he_cmple_t (n := 20) (t := 22) (by decide +kernel) (by omega) ?_
      refine he_aload (n := 23) (i := 0) (by decide +kernel) rfl ?_
      refine he_getr (n := 26) (ci := 0) (j := 2) (ns := [2079, 25]) (b := 37) hm (by decide +kernel) rfl rfl (by decide +kernel) ?_
      refine he_iload (n := 27) (i := 1) (by decide +kernel) rfl ?_
      refine he_aald (n := 28) (kind := 71) (b := 80) hm (by decide +kernel) rfl rfl (by decide) (by omega) (by rw [show x1.toInt.toNat = 3 by omega]; decide +kernel) ?_
      refine he_getr (n := 31) (ci := 1) (j := 0) (ns := [1215, 137]) (b := 81) hm (by decide +kernel) rfl rfl (by decide +kernel) ?_
      refine he_iload (n := 32) (i := 2) (by decide +kernel) rfl ?_
      refine he_dup2 (n := 33) (by decide +kernel) ?_
      refine hb_ld (n := 34) (kind := 64) hm (by decide +kernel) rfl rfl (.inl rfl) (by omega) (show _ < (240 : Int) by omega) hb_at1 ?_
      intro v33 hv33 lv33 uv33
      refine he_iload (n := 35) (i := 3) (by decide +kernel) rfl ?_
      refine he_ex2 (o := 14) (n := 36) (by decide +kernel) rfl ?_
      intro v35 hv35
      have ev35 : v35 = v33 ^^^ x3 := hv35
      have bv35 := mz_i32 v35
      have hxr := xx_xor (X := v33) (Y := x3) (by omega) (by omega) (by omega) (by omega)
      rw [← ev35] at hxr
      obtain ⟨xr0, xr1⟩ := hxr
      refine hb_sta (n := 37) (kind := 64) hm (by decide +kernel) rfl rfl (.inl rfl) (by omega) (show _ < (240 : Int) by omega) ?_
      generalize hM1 : hb_set M 81 (x2.toInt.toNat) v35 = M1
      have hm1 : mz_sh mz_GG M1 := by rw [← hM1]; exact hb_set_sh hm rfl hb_at1 (by omega) (by omega)
      have eM1 : ∀ b j, b ≠ 81 ∨ j ≠ x2.toInt.toNat → hv M1 b j = hv M b j := by intro b j h; rw [← hM1]; exact hb_set_n h
      have sM1 : hv M1 81 (x2.toInt.toNat) = v35.toInt := by rw [← hM1]; exact hb_set_v hm rfl (show _ < 240 by omega)
      have wM1 : ∀ b, b ≠ 81 → M1 b = M b := by intro b h; rw [← hM1]; exact hb_set_c h
      refine he_aload (n := 38) (i := 0) (by decide +kernel) rfl ?_
      refine he_getr (n := 41) (ci := 0) (j := 2) (ns := [2079, 25]) (b := 37) hm1 (by decide +kernel) rfl rfl (by decide +kernel) ?_
      refine he_iload (n := 42) (i := 1) (by decide +kernel) rfl ?_
      refine he_aald (n := 43) (kind := 71) (b := 80) hm1 (by decide +kernel) rfl rfl (by decide) (by omega) (by rw [show x1.toInt.toNat = 3 by omega]; decide +kernel) ?_
      refine he_aload (n := 44) (i := 0) (by decide +kernel) rfl ?_
      refine he_getr (n := 47) (ci := 0) (j := 0) (ns := [2077, 12]) (b := 9) hm1 (by decide +kernel) rfl rfl (by decide +kernel) ?_
      have hx1 : HX M1 := fun t => by rw [← hM1]; exact hxk_s (xsp t _ _ (by omega)) (hx t)
      refine he_v1 (n := 50) (j := 48) (ci := 1) (mx := 3) (ns := [3001, 3002, 3003, 129]) (by decide +kernel) ((hb_kd (a := 80) hm1 rfl).trans rfl) (by show 0 ≤ 8; omega) (by show 2 ≤ 3; omega) ?_
      rw [mq_e48]
      refine lx_examine (ha_all (mz_q95, 7) (List.mem_of_getElem? (show mz_Cs[95]? = _ from rfl))) (by omega) hz hm1 hx1 (by decide) ?_
      intro M4 hm4 hx4 gw4 g84 ge4
      show mq_R mq_PP (d + 8) 4 50 _ [] (M4, z, u) Q
      refine he_iconst (n := 51) (c := 1) (by decide +kernel) (by decide) ?_
      intro c50 hc50
      refine he_retz (by decide +kernel) (by omega) ?_
      have eB : M4 81 = M1 81 := gw4 81 (by decide) (by decide +kernel)
      refine K1 M4 _ (by omega) (by omega) (by omega) hc ⟨(gw4 34 (by decide) (by decide +kernel)).trans (wM1 34 (by decide)), (gw4 35 (by decide) (by decide +kernel)).trans (wM1 35 (by decide)), (gw4 36 (by decide) (by decide +kernel)).trans (wM1 36 (by decide))⟩ (fun s1 h1 h2 => by
        have h : s1 = 0 ∨ s1 = 1 ∨ s1 = 2 := by omega
        rcases h with rfl | rfl | rfl
        · exact (gw4 48 (by decide) (by decide +kernel)).trans (wM1 48 (by decide))
        · exact (gw4 59 (by decide) (by decide +kernel)).trans (wM1 59 (by decide))
        · exact (gw4 70 (by decide) (by decide +kernel)).trans (wM1 70 (by decide))) ?_ ?_
      · rw [hb_vc eB, sM1, ev35, show v33 = Int32.ofInt (hv M 81 x2.toInt.toNat) from xe_oi hv33.symm]
      · intro t ht
        rw [hb_vc eB]
        exact eM1 _ _ (.inr ht)
    · skip
      refine he_cmple_f (n := 20) (t := 22) (by decide +kernel) (by omega) ?_
      refine he_iconst (n := 21) (c := 0) (by decide +kernel) (by decide) ?_
      intro c20 hc20
      refine he_retz (by decide +kernel) (by omega) ?_
      exact K0 _ (by omega) (fun h => by omega)
theorem xn_spoiln {d z u : Nat} {M : Nat → mq_C} {Q : (Option Value ⊕ Nat) → mq_S → Prop} {x1 x2 x3 : Int32} (hm : mz_sh mz_GG M) (hs : ¬ (0 ≤ x1.toInt ∧ x1.toInt ≤ 3)) (K0 : ∀ r : Int32, r.toInt = 0 → Q (.inl (some (.int r))) (M, z, u)) : mq_R mq_PP (d + 8) 4 0 [some (.ref 8), some (.int x1), some (.int x2), some (.int x3)] [] (M, z, u) Q := by
  refine he_aload (n := 1) (i := 0) (by decide +kernel) rfl ?_
  refine he_iload (n := 2) (i := 1) (by decide +kernel) rfl ?_
  refine he_iload (n := 3) (i := 2) (by decide +kernel) rfl ?_
  refine he_v2 (n := 6) (j := 18) (ci := 0) (mx := 3) (ns := [3072, 3074, 25, 133]) (by decide +kernel) ((hb_kd (a := 8) hm rfl).trans rfl) (by show 0 ≤ 8; omega) (by show 3 ≤ 3; omega) ?_
  rw [mq_e18]
  refine xn_isbn hm hs ?_
  intro r1 hr1
  show mq_R mq_PP (d + 8) 4 6 _ [.int r1] (M, z, u) Q
  refine he_ifeq_t (n := 9) (t := 20) (by decide +kernel) (by omega) ?_
  refine he_iconst (n := 21) (c := 0) (by decide +kernel) (by decide) ?_
  intro c20 hc20
  refine he_retz (by decide +kernel) (by omega) ?_
  exact K0 _ (by omega)
theorem xn_spoil {d z u : Nat} {M : Nat → mq_C} {Q : (Option Value ⊕ Nat) → mq_S → Prop} {x1 x2 x3 : Int32} (hz : 272 ≤ z) (hm : mz_sh mz_GG M) (hx : HX M) (K : ∀ (M' : Nat → mq_C) (r : Int32), c6_spoil M M' x1.toInt x2.toInt x3 r.toInt → Q (.inl (some (.int r))) (M', z, u)) : mq_R mq_PP (d + 8) 4 0 [some (.ref 8), some (.int x1), some (.int x2), some (.int x3)] [] (M, z, u) Q := by
  by_cases h : 0 ≤ x1.toInt ∧ x1.toInt ≤ 3
  · have h4 : x1.toInt = 0 ∨ x1.toInt = 1 ∨ x1.toInt = 2 ∨ x1.toInt = 3 := by omega
    rcases h4 with hs | hs | hs | hs
    · refine xn_spoil0 hz hm hx hs (fun r hr hn => K M r ⟨c6_kr, .inl ⟨hr, c6_ar, fun s h1 h2 => ?_⟩⟩) (fun M' r hr g1 g2 hc kp ot e1 e2 => K M' r ⟨kp, .inr ⟨hr, g1, g2, 0, by decide, hs, hc.1, hc.2, ot, e1, e2⟩⟩)
      obtain rfl : s = 0 := by omega
      exact hn
    · refine xn_spoil1 hz hm hx hs (fun r hr hn => K M r ⟨c6_kr, .inl ⟨hr, c6_ar, fun s h1 h2 => ?_⟩⟩) (fun M' r hr g1 g2 hc kp ot e1 e2 => K M' r ⟨kp, .inr ⟨hr, g1, g2, 1, by decide, hs, hc.1, hc.2, ot, e1, e2⟩⟩)
      obtain rfl : s = 1 := by omega
      exact hn
    · refine xn_spoil2 hz hm hx hs (fun r hr hn => K M r ⟨c6_kr, .inl ⟨hr, c6_ar, fun s h1 h2 => ?_⟩⟩) (fun M' r hr g1 g2 hc kp ot e1 e2 => K M' r ⟨kp, .inr ⟨hr, g1, g2, 2, by decide, hs, hc.1, hc.2, ot, e1, e2⟩⟩)
      obtain rfl : s = 2 := by omega
      exact hn
    · refine xn_spoil3 hz hm hx hs (fun r hr hn => K M r ⟨c6_kr, .inl ⟨hr, c6_ar, fun s h1 h2 => ?_⟩⟩) (fun M' r hr g1 g2 hc kp ot e1 e2 => K M' r ⟨kp, .inr ⟨hr, g1, g2, 3, by decide, hs, hc.1, hc.2, ot, e1, e2⟩⟩)
      obtain rfl : s = 3 := by omega
      exact hn
  · exact xn_spoiln hm h (fun r hr => K M r ⟨c6_kr, .inl ⟨hr, c6_ar, fun s h1 h2 => absurd ⟨by omega, by omega⟩ h⟩⟩)
theorem xn_fin0 {d z u : Nat} {M : Nat → mq_C} {Q : (Option Value ⊕ Nat) → mq_S → Prop} {x1 : Int32} (hz : 272 ≤ z) (hm : mz_sh mz_GG M) (hx : HX M) (b0 : 0 ≤ hv M 33 3) (r0 : 0 ≤ hv M 33 5) (e0 : 0 ≤ hv M 33 6) (e1 : hv M 33 6 ≤ 6) (hr : hv M 33 3 + hv M 33 5 + 4 ≤ 240) (hs : x1.toInt = 0) (K0 : ∀ r : Int32, r.toInt = 0 → Q (.inl (some (.int r))) (M, z, u)) (K1 : ∀ (M' : Nat → mq_C) (r : Int32), r.toInt = 1 → c6_kp M M' → c6_ot 0 M M' → c6_by M M' 48 → Q (.inl (some (.int r))) (M', z, u)) : mq_R mq_PP (d + 8) 3 0 [some (.ref 8), some (.int x1)] [] (M, z, u) Q := by
  refine he_iload (n := 1) (i := 1) (by decide +kernel) rfl ?_
  refine he_s1 (n := 4) (j := 17) (mx := 1) (ns := [2234, 2235, 1001, 121]) (by decide +kernel) (by show 0 ≤ 8; omega) (by show 1 ≤ 1; omega) ?_
  rw [mq_e17]
  refine xn_slot ?_
  intro r1 ra rb
  have hr1 := ra ⟨by omega, by omega⟩
  show mq_R mq_PP (d + 8) 3 4 _ [.int r1] (M, z, u) Q
  refine he_ifeq_f (n := 7) (t := 19) (by decide +kernel) (by omega) ?_
  refine he_aload (n := 8) (i := 0) (by decide +kernel) rfl ?_
  refine he_getr (n := 11) (ci := 0) (j := 2) (ns := [2079, 25]) (b := 37) hm (by decide +kernel) rfl rfl (by decide +kernel) ?_
  refine he_iload (n := 12) (i := 1) (by decide +kernel) rfl ?_
  refine he_aald (n := 13) (kind := 71) (b := 47) hm (by decide +kernel) rfl rfl (by decide) (by omega) (by rw [show x1.toInt.toNat = 0 by omega]; decide +kernel) ?_
  refine hb_gfd (n := 16) (ci := 1) (j := 1) (ns := [1218, 124]) hm (by decide +kernel) rfl rfl (by decide) rfl ?_
  intro v13 hv13 lv13 uv13
  by_cases h16 : v13.toInt ≤ 0
  · skip
    refine he_ifle_t (n := 19) (t := 21) (by decide +kernel) (by omega) ?_
    refine he_aload (n := 22) (i := 0) (by decide +kernel) rfl ?_
    refine he_getr (n := 25) (ci := 0) (j := 1) (ns := [2078, 19]) (b := 33) hm (by decide +kernel) rfl rfl (by decide +kernel) ?_
    refine he_aload (n := 26) (i := 0) (by decide +kernel) rfl ?_
    refine he_getr (n := 29) (ci := 0) (j := 2) (ns := [2079, 25]) (b := 37) hm (by decide +kernel) rfl rfl (by decide +kernel) ?_
    refine he_iload (n := 30) (i := 1) (by decide +kernel) rfl ?_
    refine he_aald (n := 31) (kind := 71) (b := 47) hm (by decide +kernel) rfl rfl (by decide) (by omega) (by rw [show x1.toInt.toNat = 0 by omega]; decide +kernel) ?_
    refine he_v1 (n := 34) (j := 80) (ci := 6) (mx := 3) (ns := [2237, 2238, 2239, 125]) (by decide +kernel) ((hb_kd (a := 33) hm rfl).trans rfl) (by decide) (by show 2 ≤ 3; omega) ?_
    rw [mq_e80]
    refine xn_wt0 hm b0 r0 e0 e1 hr ?_
    intro M3 hm3 w3 s3 n3 n5 n6 a3 al by0 by1 q0 q1 q2 q3
    have hx3 : HX M3 := xHX_wt (A := 47) (by decide) w3 a3 hx
    show mq_R mq_PP (d + 8) 3 34 _ [] (M3, z, u) Q
    refine he_aload (n := 35) (i := 0) (by decide +kernel) rfl ?_
    refine he_getr (n := 38) (ci := 0) (j := 2) (ns := [2079, 25]) (b := 37) hm3 (by decide +kernel) rfl rfl (by decide +kernel) ?_
    refine he_iload (n := 39) (i := 1) (by decide +kernel) rfl ?_
    refine he_aald (n := 40) (kind := 71) (b := 47) hm3 (by decide +kernel) rfl rfl (by decide) (by omega) (by rw [show x1.toInt.toNat = 0 by omega]; decide +kernel) ?_
    refine he_aload (n := 41) (i := 0) (by decide +kernel) rfl ?_
    refine he_getr (n := 44) (ci := 0) (j := 0) (ns := [2077, 12]) (b := 9) hm3 (by decide +kernel) rfl rfl (by decide +kernel) ?_
    refine he_v1 (n := 47) (j := 48) (ci := 1) (mx := 3) (ns := [3001, 3002, 3003, 129]) (by decide +kernel) ((hb_kd (a := 47) hm3 rfl).trans rfl) (by decide) (by show 2 ≤ 3; omega) ?_
    rw [mq_e48]
    refine lx_examine (ha_all (mz_q95, 7) (List.mem_of_getElem? (show mz_Cs[95]? = _ from rfl))) (by omega) hz hm3 hx3 (by decide) ?_
    intro M4 hm4 hx4 gw4 g84 ge4
    show mq_R mq_PP (d + 8) 3 47 _ [] (M4, z, u) Q
    refine he_iconst (n := 48) (c := 1) (by decide +kernel) (by decide) ?_
    intro c47 hc47
    refine he_retz (by decide +kernel) (by omega) ?_
    have eB : ∀ t, hv M4 48 t = hv M3 48 t := fun t => hb_vc (gw4 48 (by decide) (by decide +kernel)) t
    exact K1 M4 _ (by omega) ⟨(gw4 34 (by decide) (by decide +kernel)).trans (w3 34 (by decide) (by decide) (by decide)), (gw4 35 (by decide) (by decide +kernel)).trans (w3 35 (by decide) (by decide) (by decide)), (gw4 36 (by decide) (by decide +kernel)).trans (w3 36 (by decide) (by decide) (by decide))⟩ (fun s1 h1 h2 => by
        have h : s1 = 1 ∨ s1 = 2 ∨ s1 = 3 := by omega
        rcases h with rfl | rfl | rfl
        · exact (gw4 59 (by decide) (by decide +kernel)).trans (w3 59 (by decide) (by decide) (by decide))
        · exact (gw4 70 (by decide) (by decide +kernel)).trans (w3 70 (by decide) (by decide) (by decide))
        · exact (gw4 81 (by decide) (by decide +kernel)).trans (w3 81 (by decide) (by decide) (by decide))) ⟨fun t ht => (eB t).trans (by0 t ht), fun t ht => (eB _).trans (by1 t ht), (eB _).trans q0, (eB _).trans q1, (eB _).trans q2, (eB _).trans q3⟩
  · skip
    refine he_ifle_f (n := 19) (t := 21) (by decide +kernel) (by omega) ?_
    refine he_iconst (n := 20) (c := 0) (by decide +kernel) (by decide) ?_
    intro c19 hc19
    refine he_retz (by decide +kernel) (by omega) ?_
    exact K0 _ (by omega)
theorem xn_fin1 {d z u : Nat} {M : Nat → mq_C} {Q : (Option Value ⊕ Nat) → mq_S → Prop} {x1 : Int32} (hz : 272 ≤ z) (hm : mz_sh mz_GG M) (hx : HX M) (b0 : 0 ≤ hv M 33 3) (r0 : 0 ≤ hv M 33 5) (e0 : 0 ≤ hv M 33 6) (e1 : hv M 33 6 ≤ 6) (hr : hv M 33 3 + hv M 33 5 + 4 ≤ 240) (hs : x1.toInt = 1) (K0 : ∀ r : Int32, r.toInt = 0 → Q (.inl (some (.int r))) (M, z, u)) (K1 : ∀ (M' : Nat → mq_C) (r : Int32), r.toInt = 1 → c6_kp M M' → c6_ot 1 M M' → c6_by M M' 59 → Q (.inl (some (.int r))) (M', z, u)) : mq_R mq_PP (d + 8) 3 0 [some (.ref 8), some (.int x1)] [] (M, z, u) Q := by
  refine he_iload (n := 1) (i := 1) (by decide +kernel) rfl ?_
  refine he_s1 (n := 4) (j := 17) (mx := 1) (ns := [2234, 2235, 1001, 121]) (by decide +kernel) (by show 0 ≤ 8; omega) (by show 1 ≤ 1; omega) ?_
  rw [mq_e17]
  refine xn_slot ?_
  intro r1 ra rb
  have hr1 := ra ⟨by omega, by omega⟩
  show mq_R mq_PP (d + 8) 3 4 _ [.int r1] (M, z, u) Q
  refine he_ifeq_f (n := 7) (t := 19) (by decide +kernel) (by omega) ?_
  refine he_aload (n := 8) (i := 0) (by decide +kernel) rfl ?_
  refine he_getr (n := 11) (ci := 0) (j := 2) (ns := [2079, 25]) (b := 37) hm (by decide +kernel) rfl rfl (by decide +kernel) ?_
  refine he_iload (n := 12) (i := 1) (by decide +kernel) rfl ?_
  refine he_aald (n := 13) (kind := 71) (b := 58) hm (by decide +kernel) rfl rfl (by decide) (by omega) (by rw [show x1.toInt.toNat = 1 by omega]; decide +kernel) ?_
  refine hb_gfd (n := 16) (ci := 1) (j := 1) (ns := [1218, 124]) hm (by decide +kernel) rfl rfl (by decide) rfl ?_
  intro v13 hv13 lv13 uv13
  by_cases h16 : v13.toInt ≤ 0
  · skip
    refine he_ifle_t (n := 19) (t := 21) (by decide +kernel) (by omega) ?_
    refine he_aload (n := 22) (i := 0) (by decide +kernel) rfl ?_
    refine he_getr (n := 25) (ci := 0) (j := 1) (ns := [2078, 19]) (b := 33) hm (by decide +kernel) rfl rfl (by decide +kernel) ?_
    refine he_aload (n := 26) (i := 0) (by decide +kernel) rfl ?_
    refine he_getr (n := 29) (ci := 0) (j := 2) (ns := [2079, 25]) (b := 37) hm (by decide +kernel) rfl rfl (by decide +kernel) ?_
    refine he_iload (n := 30) (i := 1) (by decide +kernel) rfl ?_
    refine he_aald (n := 31) (kind := 71) (b := 58) hm (by decide +kernel) rfl rfl (by decide) (by omega) (by rw [show x1.toInt.toNat = 1 by omega]; decide +kernel) ?_
    refine he_v1 (n := 34) (j := 80) (ci := 6) (mx := 3) (ns := [2237, 2238, 2239, 125]) (by decide +kernel) ((hb_kd (a := 33) hm rfl).trans rfl) (by decide) (by show 2 ≤ 3; omega) ?_
    rw [mq_e80]
    refine xn_wt1 hm b0 r0 e0 e1 hr ?_
    intro M3 hm3 w3 s3 n3 n5 n6 a3 al by0 by1 q0 q1 q2 q3
    have hx3 : HX M3 := xHX_wt (A := 58) (by decide) w3 a3 hx
    show mq_R mq_PP (d + 8) 3 34 _ [] (M3, z, u) Q
    refine he_aload (n := 35) (i := 0) (by decide +kernel) rfl ?_
    refine he_getr (n := 38) (ci := 0) (j := 2) (ns := [2079, 25]) (b := 37) hm3 (by decide +kernel) rfl rfl (by decide +kernel) ?_
    refine he_iload (n := 39) (i := 1) (by decide +kernel) rfl ?_
    refine he_aald (n := 40) (kind := 71) (b := 58) hm3 (by decide +kernel) rfl rfl (by decide) (by omega) (by rw [show x1.toInt.toNat = 1 by omega]; decide +kernel) ?_
    refine he_aload (n := 41) (i := 0) (by decide +kernel) rfl ?_
    refine he_getr (n := 44) (ci := 0) (j := 0) (ns := [2077, 12]) (b := 9) hm3 (by decide +kernel) rfl rfl (by decide +kernel) ?_
    refine he_v1 (n := 47) (j := 48) (ci := 1) (mx := 3) (ns := [3001, 3002, 3003, 129]) (by decide +kernel) ((hb_kd (a := 58) hm3 rfl).trans rfl) (by decide) (by show 2 ≤ 3; omega) ?_
    rw [mq_e48]
    refine lx_examine (ha_all (mz_q95, 7) (List.mem_of_getElem? (show mz_Cs[95]? = _ from rfl))) (by omega) hz hm3 hx3 (by decide) ?_
    intro M4 hm4 hx4 gw4 g84 ge4
    show mq_R mq_PP (d + 8) 3 47 _ [] (M4, z, u) Q
    refine he_iconst (n := 48) (c := 1) (by decide +kernel) (by decide) ?_
    intro c47 hc47
    refine he_retz (by decide +kernel) (by omega) ?_
    have eB : ∀ t, hv M4 59 t = hv M3 59 t := fun t => hb_vc (gw4 59 (by decide) (by decide +kernel)) t
    exact K1 M4 _ (by omega) ⟨(gw4 34 (by decide) (by decide +kernel)).trans (w3 34 (by decide) (by decide) (by decide)), (gw4 35 (by decide) (by decide +kernel)).trans (w3 35 (by decide) (by decide) (by decide)), (gw4 36 (by decide) (by decide +kernel)).trans (w3 36 (by decide) (by decide) (by decide))⟩ (fun s1 h1 h2 => by
        have h : s1 = 0 ∨ s1 = 2 ∨ s1 = 3 := by omega
        rcases h with rfl | rfl | rfl
        · exact (gw4 48 (by decide) (by decide +kernel)).trans (w3 48 (by decide) (by decide) (by decide))
        · exact (gw4 70 (by decide) (by decide +kernel)).trans (w3 70 (by decide) (by decide) (by decide))
        · exact (gw4 81 (by decide) (by decide +kernel)).trans (w3 81 (by decide) (by decide) (by decide))) ⟨fun t ht => (eB t).trans (by0 t ht), fun t ht => (eB _).trans (by1 t ht), (eB _).trans q0, (eB _).trans q1, (eB _).trans q2, (eB _).trans q3⟩
  · skip
    refine he_ifle_f (n := 19) (t := 21) (by decide +kernel) (by omega) ?_
    refine he_iconst (n := 20) (c := 0) (by decide +kernel) (by decide) ?_
    intro c19 hc19
    refine he_retz (by decide +kernel) (by omega) ?_
    exact K0 _ (by omega)
theorem xn_fin2 {d z u : Nat} {M : Nat → mq_C} {Q : (Option Value ⊕ Nat) → mq_S → Prop} {x1 : Int32} (hz : 272 ≤ z) (hm : mz_sh mz_GG M) (hx : HX M) (b0 : 0 ≤ hv M 33 3) (r0 : 0 ≤ hv M 33 5) (e0 : 0 ≤ hv M 33 6) (e1 : hv M 33 6 ≤ 6) (hr : hv M 33 3 + hv M 33 5 + 4 ≤ 240) (hs : x1.toInt = 2) (K0 : ∀ r : Int32, r.toInt = 0 → Q (.inl (some (.int r))) (M, z, u)) (K1 : ∀ (M' : Nat → mq_C) (r : Int32), r.toInt = 1 → c6_kp M M' → c6_ot 2 M M' → c6_by M M' 70 → Q (.inl (some (.int r))) (M', z, u)) : mq_R mq_PP (d + 8) 3 0 [some (.ref 8), some (.int x1)] [] (M, z, u) Q := by
  refine he_iload (n := 1) (i := 1) (by decide +kernel) rfl ?_
  refine he_s1 (n := 4) (j := 17) (mx := 1) (ns := [2234, 2235, 1001, 121]) (by decide +kernel) (by show 0 ≤ 8; omega) (by show 1 ≤ 1; omega) ?_
  rw [mq_e17]
  refine xn_slot ?_
  intro r1 ra rb
  have hr1 := ra ⟨by omega, by omega⟩
  show mq_R mq_PP (d + 8) 3 4 _ [.int r1] (M, z, u) Q
  refine he_ifeq_f (n := 7) (t := 19) (by decide +kernel) (by omega) ?_
  refine he_aload (n := 8) (i := 0) (by decide +kernel) rfl ?_
  refine he_getr (n := 11) (ci := 0) (j := 2) (ns := [2079, 25]) (b := 37) hm (by decide +kernel) rfl rfl (by decide +kernel) ?_
  refine he_iload (n := 12) (i := 1) (by decide +kernel) rfl ?_
  refine he_aald (n := 13) (kind := 71) (b := 69) hm (by decide +kernel) rfl rfl (by decide) (by omega) (by rw [show x1.toInt.toNat = 2 by omega]; decide +kernel) ?_
  refine hb_gfd (n := 16) (ci := 1) (j := 1) (ns := [1218, 124]) hm (by decide +kernel) rfl rfl (by decide) rfl ?_
  intro v13 hv13 lv13 uv13
  by_cases h16 : v13.toInt ≤ 0
  · skip
    refine he_ifle_t (n := 19) (t := 21) (by decide +kernel) (by omega) ?_
    refine he_aload (n := 22) (i := 0) (by decide +kernel) rfl ?_
    refine he_getr (n := 25) (ci := 0) (j := 1) (ns := [2078, 19]) (b := 33) hm (by decide +kernel) rfl rfl (by decide +kernel) ?_
    refine he_aload (n := 26) (i := 0) (by decide +kernel) rfl ?_
    refine he_getr (n := 29) (ci := 0) (j := 2) (ns := [2079, 25]) (b := 37) hm (by decide +kernel) rfl rfl (by decide +kernel) ?_
    refine he_iload (n := 30) (i := 1) (by decide +kernel) rfl ?_
    refine he_aald (n := 31) (kind := 71) (b := 69) hm (by decide +kernel) rfl rfl (by decide) (by omega) (by rw [show x1.toInt.toNat = 2 by omega]; decide +kernel) ?_
    refine he_v1 (n := 34) (j := 80) (ci := 6) (mx := 3) (ns := [2237, 2238, 2239, 125]) (by decide +kernel) ((hb_kd (a := 33) hm rfl).trans rfl) (by decide) (by show 2 ≤ 3; omega) ?_
    rw [mq_e80]
    refine xn_wt2 hm b0 r0 e0 e1 hr ?_
    intro M3 hm3 w3 s3 n3 n5 n6 a3 al by0 by1 q0 q1 q2 q3
    have hx3 : HX M3 := xHX_wt (A := 69) (by decide) w3 a3 hx
    show mq_R mq_PP (d + 8) 3 34 _ [] (M3, z, u) Q
    refine he_aload (n := 35) (i := 0) (by decide +kernel) rfl ?_
    refine he_getr (n := 38) (ci := 0) (j := 2) (ns := [2079, 25]) (b := 37) hm3 (by decide +kernel) rfl rfl (by decide +kernel) ?_
    refine he_iload (n := 39) (i := 1) (by decide +kernel) rfl ?_
    refine he_aald (n := 40) (kind := 71) (b := 69) hm3 (by decide +kernel) rfl rfl (by decide) (by omega) (by rw [show x1.toInt.toNat = 2 by omega]; decide +kernel) ?_
    refine he_aload (n := 41) (i := 0) (by decide +kernel) rfl ?_
    refine he_getr (n := 44) (ci := 0) (j := 0) (ns := [2077, 12]) (b := 9) hm3 (by decide +kernel) rfl rfl (by decide +kernel) ?_
    refine he_v1 (n := 47) (j := 48) (ci := 1) (mx := 3) (ns := [3001, 3002, 3003, 129]) (by decide +kernel) ((hb_kd (a := 69) hm3 rfl).trans rfl) (by decide) (by show 2 ≤ 3; omega) ?_
    rw [mq_e48]
    refine lx_examine (ha_all (mz_q95, 7) (List.mem_of_getElem? (show mz_Cs[95]? = _ from rfl))) (by omega) hz hm3 hx3 (by decide) ?_
    intro M4 hm4 hx4 gw4 g84 ge4
    show mq_R mq_PP (d + 8) 3 47 _ [] (M4, z, u) Q
    refine he_iconst (n := 48) (c := 1) (by decide +kernel) (by decide) ?_
    intro c47 hc47
    refine he_retz (by decide +kernel) (by omega) ?_
    have eB : ∀ t, hv M4 70 t = hv M3 70 t := fun t => hb_vc (gw4 70 (by decide) (by decide +kernel)) t
    exact K1 M4 _ (by omega) ⟨(gw4 34 (by decide) (by decide +kernel)).trans (w3 34 (by decide) (by decide) (by decide)), (gw4 35 (by decide) (by decide +kernel)).trans (w3 35 (by decide) (by decide) (by decide)), (gw4 36 (by decide) (by decide +kernel)).trans (w3 36 (by decide) (by decide) (by decide))⟩ (fun s1 h1 h2 => by
        have h : s1 = 0 ∨ s1 = 1 ∨ s1 = 3 := by omega
        rcases h with rfl | rfl | rfl
        · exact (gw4 48 (by decide) (by decide +kernel)).trans (w3 48 (by decide) (by decide) (by decide))
        · exact (gw4 59 (by decide) (by decide +kernel)).trans (w3 59 (by decide) (by decide) (by decide))
        · exact (gw4 81 (by decide) (by decide +kernel)).trans (w3 81 (by decide) (by decide) (by decide))) ⟨fun t ht => (eB t).trans (by0 t ht), fun t ht => (eB _).trans (by1 t ht), (eB _).trans q0, (eB _).trans q1, (eB _).trans q2, (eB _).trans q3⟩
  · skip
    refine he_ifle_f (n := 19) (t := 21) (by decide +kernel) (by omega) ?_
    refine he_iconst (n := 20) (c := 0) (by decide +kernel) (by decide) ?_
    intro c19 hc19
    refine he_retz (by decide +kernel) (by omega) ?_
    exact K0 _ (by omega)
theorem xn_fin3 {d z u : Nat} {M : Nat → mq_C} {Q : (Option Value ⊕ Nat) → mq_S → Prop} {x1 : Int32} (hz : 272 ≤ z) (hm : mz_sh mz_GG M) (hx : HX M) (b0 : 0 ≤ hv M 33 3) (r0 : 0 ≤ hv M 33 5) (e0 : 0 ≤ hv M 33 6) (e1 : hv M 33 6 ≤ 6) (hr : hv M 33 3 + hv M 33 5 + 4 ≤ 240) (hs : x1.toInt = 3) (K0 : ∀ r : Int32, r.toInt = 0 → Q (.inl (some (.int r))) (M, z, u)) (K1 : ∀ (M' : Nat → mq_C) (r : Int32), r.toInt = 1 → c6_kp M M' → c6_ot 3 M M' → c6_by M M' 81 → Q (.inl (some (.int r))) (M', z, u)) : mq_R mq_PP (d + 8) 3 0 [some (.ref 8), some (.int x1)] [] (M, z, u) Q := by
  refine he_iload (n := 1) (i := 1) (by decide +kernel) rfl ?_
  refine he_s1 (n := 4) (j := 17) (mx := 1) (ns := [2234, 2235, 1001, 121]) (by decide +kernel) (by show 0 ≤ 8; omega) (by show 1 ≤ 1; omega) ?_
  rw [mq_e17]
  refine xn_slot ?_
  intro r1 ra rb
  have hr1 := ra ⟨by omega, by omega⟩
  show mq_R mq_PP (d + 8) 3 4 _ [.int r1] (M, z, u) Q
  refine he_ifeq_f (n := 7) (t := 19) (by decide +kernel) (by omega) ?_
  refine he_aload (n := 8) (i := 0) (by decide +kernel) rfl ?_
  refine he_getr (n := 11) (ci := 0) (j := 2) (ns := [2079, 25]) (b := 37) hm (by decide +kernel) rfl rfl (by decide +kernel) ?_
  refine he_iload (n := 12) (i := 1) (by decide +kernel) rfl ?_
  refine he_aald (n := 13) (kind := 71) (b := 80) hm (by decide +kernel) rfl rfl (by decide) (by omega) (by rw [show x1.toInt.toNat = 3 by omega]; decide +kernel) ?_
  refine hb_gfd (n := 16) (ci := 1) (j := 1) (ns := [1218, 124]) hm (by decide +kernel) rfl rfl (by decide) rfl ?_
  intro v13 hv13 lv13 uv13
  by_cases h16 : v13.toInt ≤ 0
  · skip
    refine he_ifle_t (n := 19) (t := 21) (by decide +kernel) (by omega) ?_
    refine he_aload (n := 22) (i := 0) (by decide +kernel) rfl ?_
    refine he_getr (n := 25) (ci := 0) (j := 1) (ns := [2078, 19]) (b := 33) hm (by decide +kernel) rfl rfl (by decide +kernel) ?_
    refine he_aload (n := 26) (i := 0) (by decide +kernel) rfl ?_
    refine he_getr (n := 29) (ci := 0) (j := 2) (ns := [2079, 25]) (b := 37) hm (by decide +kernel) rfl rfl (by decide +kernel) ?_
    refine he_iload (n := 30) (i := 1) (by decide +kernel) rfl ?_
    refine he_aald (n := 31) (kind := 71) (b := 80) hm (by decide +kernel) rfl rfl (by decide) (by omega) (by rw [show x1.toInt.toNat = 3 by omega]; decide +kernel) ?_
    refine he_v1 (n := 34) (j := 80) (ci := 6) (mx := 3) (ns := [2237, 2238, 2239, 125]) (by decide +kernel) ((hb_kd (a := 33) hm rfl).trans rfl) (by decide) (by show 2 ≤ 3; omega) ?_
    rw [mq_e80]
    refine xn_wt3 hm b0 r0 e0 e1 hr ?_
    intro M3 hm3 w3 s3 n3 n5 n6 a3 al by0 by1 q0 q1 q2 q3
    have hx3 : HX M3 := xHX_wt (A := 80) (by decide) w3 a3 hx
    show mq_R mq_PP (d + 8) 3 34 _ [] (M3, z, u) Q
    refine he_aload (n := 35) (i := 0) (by decide +kernel) rfl ?_
    refine he_getr (n := 38) (ci := 0) (j := 2) (ns := [2079, 25]) (b := 37) hm3 (by decide +kernel) rfl rfl (by decide +kernel) ?_
    refine he_iload (n := 39) (i := 1) (by decide +kernel) rfl ?_
    refine he_aald (n := 40) (kind := 71) (b := 80) hm3 (by decide +kernel) rfl rfl (by decide) (by omega) (by rw [show x1.toInt.toNat = 3 by omega]; decide +kernel) ?_
    refine he_aload (n := 41) (i := 0) (by decide +kernel) rfl ?_
    refine he_getr (n := 44) (ci := 0) (j := 0) (ns := [2077, 12]) (b := 9) hm3 (by decide +kernel) rfl rfl (by decide +kernel) ?_
    refine he_v1 (n := 47) (j := 48) (ci := 1) (mx := 3) (ns := [3001, 3002, 3003, 129]) (by decide +kernel) ((hb_kd (a := 80) hm3 rfl).trans rfl) (by decide) (by show 2 ≤ 3; omega) ?_
    rw [mq_e48]
    refine lx_examine (ha_all (mz_q95, 7) (List.mem_of_getElem? (show mz_Cs[95]? = _ from rfl))) (by omega) hz hm3 hx3 (by decide) ?_
    intro M4 hm4 hx4 gw4 g84 ge4
    show mq_R mq_PP (d + 8) 3 47 _ [] (M4, z, u) Q
    refine he_iconst (n := 48) (c := 1) (by decide +kernel) (by decide) ?_
    intro c47 hc47
    refine he_retz (by decide +kernel) (by omega) ?_
    have eB : ∀ t, hv M4 81 t = hv M3 81 t := fun t => hb_vc (gw4 81 (by decide) (by decide +kernel)) t
    exact K1 M4 _ (by omega) ⟨(gw4 34 (by decide) (by decide +kernel)).trans (w3 34 (by decide) (by decide) (by decide)), (gw4 35 (by decide) (by decide +kernel)).trans (w3 35 (by decide) (by decide) (by decide)), (gw4 36 (by decide) (by decide +kernel)).trans (w3 36 (by decide) (by decide) (by decide))⟩ (fun s1 h1 h2 => by
        have h : s1 = 0 ∨ s1 = 1 ∨ s1 = 2 := by omega
        rcases h with rfl | rfl | rfl
        · exact (gw4 48 (by decide) (by decide +kernel)).trans (w3 48 (by decide) (by decide) (by decide))
        · exact (gw4 59 (by decide) (by decide +kernel)).trans (w3 59 (by decide) (by decide) (by decide))
        · exact (gw4 70 (by decide) (by decide +kernel)).trans (w3 70 (by decide) (by decide) (by decide))) ⟨fun t ht => (eB t).trans (by0 t ht), fun t ht => (eB _).trans (by1 t ht), (eB _).trans q0, (eB _).trans q1, (eB _).trans q2, (eB _).trans q3⟩
  · skip
    refine he_ifle_f (n := 19) (t := 21) (by decide +kernel) (by omega) ?_
    refine he_iconst (n := 20) (c := 0) (by decide +kernel) (by decide) ?_
    intro c19 hc19
    refine he_retz (by decide +kernel) (by omega) ?_
    exact K0 _ (by omega)
theorem xn_finn {d z u : Nat} {M : Nat → mq_C} {Q : (Option Value ⊕ Nat) → mq_S → Prop} {x1 : Int32} (hz : 272 ≤ z) (hm : mz_sh mz_GG M) (hx : HX M) (b0 : 0 ≤ hv M 33 3) (r0 : 0 ≤ hv M 33 5) (e0 : 0 ≤ hv M 33 6) (e1 : hv M 33 6 ≤ 6) (hr : hv M 33 3 + hv M 33 5 + 4 ≤ 240) (hs : ¬ (0 ≤ x1.toInt ∧ x1.toInt ≤ 3)) (K0 : ∀ r : Int32, r.toInt = 0 → Q (.inl (some (.int r))) (M, z, u)) : mq_R mq_PP (d + 8) 3 0 [some (.ref 8), some (.int x1)] [] (M, z, u) Q := by
  refine he_iload (n := 1) (i := 1) (by decide +kernel) rfl ?_
  refine he_s1 (n := 4) (j := 17) (mx := 1) (ns := [2234, 2235, 1001, 121]) (by decide +kernel) (by show 0 ≤ 8; omega) (by show 1 ≤ 1; omega) ?_
  rw [mq_e17]
  refine xn_slot ?_
  intro r1 ra rb
  have hr1 := rb hs
  show mq_R mq_PP (d + 8) 3 4 _ [.int r1] (M, z, u) Q
  refine he_ifeq_t (n := 7) (t := 19) (by decide +kernel) (by omega) ?_
  refine he_iconst (n := 20) (c := 0) (by decide +kernel) (by decide) ?_
  intro c19 hc19
  refine he_retz (by decide +kernel) (by omega) ?_
  exact K0 _ (by omega)
theorem xn_finish {d z u : Nat} {M : Nat → mq_C} {Q : (Option Value ⊕ Nat) → mq_S → Prop} {x1 : Int32} (hz : 272 ≤ z) (hm : mz_sh mz_GG M) (hx : HX M) (b0 : 0 ≤ hv M 33 3) (r0 : 0 ≤ hv M 33 5) (e0 : 0 ≤ hv M 33 6) (e1 : hv M 33 6 ≤ 6) (hr : hv M 33 3 + hv M 33 5 + 4 ≤ 240) (K : ∀ (M' : Nat → mq_C) (r : Int32), c6_fin M M' x1.toInt r.toInt → Q (.inl (some (.int r))) (M', z, u)) : mq_R mq_PP (d + 8) 3 0 [some (.ref 8), some (.int x1)] [] (M, z, u) Q := by
  by_cases h : 0 ≤ x1.toInt ∧ x1.toInt ≤ 3
  · have h4 : x1.toInt = 0 ∨ x1.toInt = 1 ∨ x1.toInt = 2 ∨ x1.toInt = 3 := by omega
    rcases h4 with hs | hs | hs | hs
    · exact xn_fin0 hz hm hx b0 r0 e0 e1 hr hs (fun r hr => K M r ⟨c6_kr, .inl ⟨hr, c6_ar⟩⟩) (fun M' r hr kp ot by' => K M' r ⟨kp, .inr ⟨hr, 0, by decide, hs, ot, by'⟩⟩)
    · exact xn_fin1 hz hm hx b0 r0 e0 e1 hr hs (fun r hr => K M r ⟨c6_kr, .inl ⟨hr, c6_ar⟩⟩) (fun M' r hr kp ot by' => K M' r ⟨kp, .inr ⟨hr, 1, by decide, hs, ot, by'⟩⟩)
    · exact xn_fin2 hz hm hx b0 r0 e0 e1 hr hs (fun r hr => K M r ⟨c6_kr, .inl ⟨hr, c6_ar⟩⟩) (fun M' r hr kp ot by' => K M' r ⟨kp, .inr ⟨hr, 2, by decide, hs, ot, by'⟩⟩)
    · exact xn_fin3 hz hm hx b0 r0 e0 e1 hr hs (fun r hr => K M r ⟨c6_kr, .inl ⟨hr, c6_ar⟩⟩) (fun M' r hr kp ot by' => K M' r ⟨kp, .inr ⟨hr, 3, by decide, hs, ot, by'⟩⟩)
  · exact xn_finn hz hm hx b0 r0 e0 e1 hr h (fun r hr => K M r ⟨c6_kr, .inl ⟨hr, c6_ar⟩⟩)
