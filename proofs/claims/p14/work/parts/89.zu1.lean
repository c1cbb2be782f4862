/-! More of them (printed by b_law2.py). -/
theorem lv_append {d z u : Nat} {M : Nat → mq_C} {Q : (Option Value ⊕ Nat) → mq_S → Prop} {x1 : Int32} {x2 : Int32} (hd : 9 ≤ d) (hz : 272 ≤ z) (hm : mz_sh mz_GG M) (hx : HX M) (hl : lw M)
    (k : ∀ (M' : Nat → mq_C) (r : Int32), mz_sh mz_GG M' → HX M' → lw M' → (∀ a, a < 8 → M' a = M a) → M' 271 = M 271 → (∀ a, 234 ≤ a → a < 271 → M' a = M a) → lcs M M' → (c6_kp M M' ∧ c6_al M M') → l6tb M M' → xSa (cvw M) (cvw M') x1.toInt x2.toInt r.toInt → x47 M M' → Q (.inl (some (.int r))) (M', z, u)) : mq_R mq_PP d 7 0 [some (.ref 8), some (.int x1), some (.int x2)] [] (M, z, u) Q := by
  refine mq_R_mono (lx_and (Q := fun r' S' => ∃ (M' : Nat → mq_C) (r : Int32), r' = .inl (some (.int r)) ∧ S' = (M', z, u) ∧ mz_sh mz_GG M' ∧ HX M' ∧ lw M' ∧ (∀ a, a < 8 → M' a = M a) ∧ M' 271 = M 271 ∧ (∀ a, 234 ≤ a → a < 271 → M' a = M a) ∧ lcs M M' ∧ (c6_kp M M' ∧ c6_al M M') ∧ x47 M M' ∧ l6tb M M') (Q' := fun r' S' => ∃ (M' : Nat → mq_C) (r : Int32), r' = .inl (some (.int r)) ∧ S' = (M', z, u) ∧ xSa (cvw M) (cvw M') x1.toInt x2.toInt r.toInt) ?_ ?_) ?_
  · rw [← mq_e7]
    refine fz_R (by decide) hm hz (fun b hb => ?_) ?_
    · simp at hb
      subst hb
      decide
    rw [mq_e7]
    refine lu_append (by omega) hz hm hx hl ?_
    exact fun M' r b1 b2 b3 b4 b5 b6 b7 b8 b9 hT => ⟨M', r, rfl, rfl, b1, b2, b3, b4, b5, b6, b7, b8, b9, hT⟩
  · obtain ⟨d, rfl⟩ : ∃ e, d = e + 1 := ⟨d - 1, by omega⟩
    exact xn_app hm (fun M' r h => ⟨M', r, rfl, rfl, h⟩)
  · rintro r' S' ⟨⟨M', r, rfl, rfl, b1, b2, b3, b4, b5, b6, b7, b8, b9, hT⟩, M2, r2, e1, e2, h⟩
    cases e1
    cases e2
    exact k M' r b1 b2 b3 b4 b5 b6 b7 b8 hT h b9
theorem ly_close {X : (Nat → mq_C) → Prop} (hq : mz_Ct mz_GG mq_PP X mz_q107 2) {d z u : Nat} {M : Nat → mq_C} {Q : (Option Value ⊕ Nat) → mq_S → Prop} {x1 : Int32} (hd : 2 ≤ d) (hz : 272 ≤ z) (hm : mz_sh mz_GG M) (hx : X M)
    (w0 : ∀ (M' : Nat → mq_C) (r : Int32), mz_sh mz_GG M' → X M' → mz_fr mz_q107 M M' → (∀ a, a < 8 → M' a = M a) → hb_same mz_GG mz_q107 M M' → r.toInt = 0 → 0 ≤ (-1) - x1.toInt → hv M' 91 1 = hv M 91 1 → hv M' 96 1 = hv M 96 1 → hv M' 101 1 = hv M 101 1 → hv M' 106 1 = hv M 106 1 → Q (.inl (some (.int r))) (M', z, u))
    (w1 : ∀ (M' : Nat → mq_C) (r : Int32), mz_sh mz_GG M' → X M' → mz_fr mz_q107 M M' → (∀ a, a < 8 → M' a = M a) → hb_same mz_GG mz_q107 M M' → r.toInt = 0 → 0 ≤ x1.toInt - hv M 8 4 → hv M' 91 1 = hv M 91 1 → hv M' 96 1 = hv M 96 1 → hv M' 101 1 = hv M 101 1 → hv M' 106 1 = hv M 106 1 → Q (.inl (some (.int r))) (M', z, u))
    (w2 : ∀ (M' : Nat → mq_C) (r : Int32), mz_sh mz_GG M' → X M' → mz_fr mz_q107 M M' → (∀ a, a < 8 → M' a = M a) → hb_same mz_GG mz_q107 M M' → r.toInt = 1 → x1.toInt = 0 → 0 ≤ (-1) + hv M 8 4 → hv M 91 1 = 0 → hv M' 91 1 = 1 → hv M' 96 1 = hv M 96 1 → hv M' 101 1 = hv M 101 1 → hv M' 106 1 = hv M 106 1 → Q (.inl (some (.int r))) (M', z, u))
    (w3 : ∀ (M' : Nat → mq_C) (r : Int32), mz_sh mz_GG M' → X M' → mz_fr mz_q107 M M' → (∀ a, a < 8 → M' a = M a) → hb_same mz_GG mz_q107 M M' → r.toInt = 0 → x1.toInt = 0 → 0 ≤ (-1) + hv M 8 4 → hv M 91 1 = 1 → hv M' 91 1 = hv M 91 1 → hv M' 96 1 = hv M 96 1 → hv M' 101 1 = hv M 101 1 → hv M' 106 1 = hv M 106 1 → Q (.inl (some (.int r))) (M', z, u))
    (w4 : ∀ (M' : Nat → mq_C) (r : Int32), mz_sh mz_GG M' → X M' → mz_fr mz_q107 M M' → (∀ a, a < 8 → M' a = M a) → hb_same mz_GG mz_q107 M M' → r.toInt = 1 → x1.toInt = 1 → 0 ≤ (-2) + hv M 8 4 → hv M 96 1 = 0 → hv M' 96 1 = 1 → hv M' 91 1 = hv M 91 1 → hv M' 101 1 = hv M 101 1 → hv M' 106 1 = hv M 106 1 → Q (.inl (some (.int r))) (M', z, u))
    (w5 : ∀ (M' : Nat → mq_C) (r : Int32), mz_sh mz_GG M' → X M' → mz_fr mz_q107 M M' → (∀ a, a < 8 → M' a = M a) → hb_same mz_GG mz_q107 M M' → r.toInt = 0 → x1.toInt = 1 → 0 ≤ (-2) + hv M 8 4 → hv M 96 1 = 1 → hv M' 91 1 = hv M 91 1 → hv M' 96 1 = hv M 96 1 → hv M' 101 1 = hv M 101 1 → hv M' 106 1 = hv M 106 1 → Q (.inl (some (.int r))) (M', z, u))
    (w6 : ∀ (M' : Nat → mq_C) (r : Int32), mz_sh mz_GG M' → X M' → mz_fr mz_q107 M M' → (∀ a, a < 8 → M' a = M a) → hb_same mz_GG mz_q107 M M' → r.toInt = 1 → x1.toInt = 2 → 0 ≤ (-3) + hv M 8 4 → hv M 101 1 = 0 → hv M' 101 1 = 1 → hv M' 91 1 = hv M 91 1 → hv M' 96 1 = hv M 96 1 → hv M' 106 1 = hv M 106 1 → Q (.inl (some (.int r))) (M', z, u))
    (w7 : ∀ (M' : Nat → mq_C) (r : Int32), mz_sh mz_GG M' → X M' → mz_fr mz_q107 M M' → (∀ a, a < 8 → M' a = M a) → hb_same mz_GG mz_q107 M M' → r.toInt = 0 → x1.toInt = 2 → 0 ≤ (-3) + hv M 8 4 → hv M 101 1 = 1 → hv M' 91 1 = hv M 91 1 → hv M' 96 1 = hv M 96 1 → hv M' 101 1 = hv M 101 1 → hv M' 106 1 = hv M 106 1 → Q (.inl (some (.int r))) (M', z, u))
    (w8 : ∀ (M' : Nat → mq_C) (r : Int32), mz_sh mz_GG M' → X M' → mz_fr mz_q107 M M' → (∀ a, a < 8 → M' a = M a) → hb_same mz_GG mz_q107 M M' → r.toInt = 1 → x1.toInt = 3 → 0 ≤ (-4) + hv M 8 4 → hv M 106 1 = 0 → hv M' 106 1 = 1 → hv M' 91 1 = hv M 91 1 → hv M' 96 1 = hv M 96 1 → hv M' 101 1 = hv M 101 1 → Q (.inl (some (.int r))) (M', z, u))
    (w9 : ∀ (M' : Nat → mq_C) (r : Int32), mz_sh mz_GG M' → X M' → mz_fr mz_q107 M M' → (∀ a, a < 8 → M' a = M a) → hb_same mz_GG mz_q107 M M' → r.toInt = 0 → x1.toInt = 3 → 0 ≤ (-4) + hv M 8 4 → hv M 106 1 = 1 → hv M' 91 1 = hv M 91 1 → hv M' 96 1 = hv M 96 1 → hv M' 101 1 = hv M 101 1 → hv M' 106 1 = hv M 106 1 → Q (.inl (some (.int r))) (M', z, u)) : mq_R mq_PP d 8 0 [some (.ref 8), some (.int x1)] [] (M, z, u) Q := by
  refine hb_use mz_GG mq_PP X (q := mz_q107) (vs := [.ref 8, .int x1]) hq (by decide +kernel) hd (show hb_pk mz_GG [(1, 8), (0, 0)] _ from ⟨⟨List.mem_singleton.mpr rfl, rfl⟩, trivial, trivial⟩) hm hx hz ?_ ?_
  · exact hb_nil
  · intro r S hpo
    obtain ⟨b1, b2, b3, b4, b5, p, hp, res, hf, hre⟩ := hpo
    rcases List.mem_cons.mp hp with rfl | hp
    · obtain ⟨x, rfl, hr, hz1, hu1⟩ := mz_re_0 mz_GG hre rfl
      obtain ⟨M', z', u'⟩ := S
      cases hz1
      cases hu1
      obtain ⟨f0, hf⟩ := hb_unc hf
      have f0 : 0 ≤ 0 + (1 * res + 0) := f0
      rw [← hr] at f0
      obtain ⟨f1, hf⟩ := hb_unc hf
      have f1 : 0 ≤ 0 + ((-1) * res + 0) := f1
      rw [← hr] at f1
      obtain ⟨f2, hf⟩ := hb_unc hf
      have f2 : 0 ≤ -1 + ((-1) * x1.toInt + 0) := f2
      obtain ⟨f3, hf⟩ := hb_unc hf
      have f3 : 0 ≤ 0 + ((-1) * hv M 91 1 + (1 * hv M' 91 1 + 0)) := f3
      obtain ⟨f4, hf⟩ := hb_unc hf
      have f4 : 0 ≤ 0 + (1 * hv M 91 1 + ((-1) * hv M' 91 1 + 0)) := f4
      obtain ⟨f5, hf⟩ := hb_unc hf
      have f5 : 0 ≤ 0 + ((-1) * hv M 96 1 + (1 * hv M' 96 1 + 0)) := f5
      obtain ⟨f6, hf⟩ := hb_unc hf
      have f6 : 0 ≤ 0 + (1 * hv M 96 1 + ((-1) * hv M' 96 1 + 0)) := f6
      obtain ⟨f7, hf⟩ := hb_unc hf
      have f7 : 0 ≤ 0 + ((-1) * hv M 101 1 + (1 * hv M' 101 1 + 0)) := f7
      obtain ⟨f8, hf⟩ := hb_unc hf
      have f8 : 0 ≤ 0 + (1 * hv M 101 1 + ((-1) * hv M' 101 1 + 0)) := f8
      obtain ⟨f9, hf⟩ := hb_unc hf
      have f9 : 0 ≤ 0 + ((-1) * hv M 106 1 + (1 * hv M' 106 1 + 0)) := f9
      obtain ⟨f10, hf⟩ := hb_unc hf
      have f10 : 0 ≤ 0 + (1 * hv M 106 1 + ((-1) * hv M' 106 1 + 0)) := f10
      exact w0 M' x b1 b2 b3 b4 b5 (by have h1 := f0; have h2 := f1; omega) (by have h1 := f2; omega) (by have h1 := f3; have h2 := f4; omega) (by have h1 := f5; have h2 := f6; omega) (by have h1 := f7; have h2 := f8; omega) (by have h1 := f9; have h2 := f10; omega)
    rcases List.mem_cons.mp hp with rfl | hp
    · obtain ⟨x, rfl, hr, hz1, hu1⟩ := mz_re_0 mz_GG hre rfl
      obtain ⟨M', z', u'⟩ := S
      cases hz1
      cases hu1
      obtain ⟨f0, hf⟩ := hb_unc hf
      have f0 : 0 ≤ 0 + (1 * res + 0) := f0
      rw [← hr] at f0
      obtain ⟨f1, hf⟩ := hb_unc hf
      have f1 : 0 ≤ 0 + ((-1) * res + 0) := f1
      rw [← hr] at f1
      obtain ⟨f2, hf⟩ := hb_unc hf
      have f2 : 0 ≤ 0 + (1 * x1.toInt + ((-1) * hv M 8 4 + 0)) := f2
      obtain ⟨f3, hf⟩ := hb_unc hf
      have f3 : 0 ≤ 0 + ((-1) * hv M 91 1 + (1 * hv M' 91 1 + 0)) := f3
      obtain ⟨f4, hf⟩ := hb_unc hf
      have f4 : 0 ≤ 0 + (1 * hv M 91 1 + ((-1) * hv M' 91 1 + 0)) := f4
      obtain ⟨f5, hf⟩ := hb_unc hf
      have f5 : 0 ≤ 0 + ((-1) * hv M 96 1 + (1 * hv M' 96 1 + 0)) := f5
      obtain ⟨f6, hf⟩ := hb_unc hf
      have f6 : 0 ≤ 0 + (1 * hv M 96 1 + ((-1) * hv M' 96 1 + 0)) := f6
      obtain ⟨f7, hf⟩ := hb_unc hf
      have f7 : 0 ≤ 0 + ((-1) * hv M 101 1 + (1 * hv M' 101 1 + 0)) := f7
      obtain ⟨f8, hf⟩ := hb_unc hf
      have f8 : 0 ≤ 0 + (1 * hv M 101 1 + ((-1) * hv M' 101 1 + 0)) := f8
      obtain ⟨f9, hf⟩ := hb_unc hf
      have f9 : 0 ≤ 0 + ((-1) * hv M 106 1 + (1 * hv M' 106 1 + 0)) := f9
      obtain ⟨f10, hf⟩ := hb_unc hf
      have f10 : 0 ≤ 0 + (1 * hv M 106 1 + ((-1) * hv M' 106 1 + 0)) := f10
      exact w1 M' x b1 b2 b3 b4 b5 (by have h1 := f0; have h2 := f1; omega) (by have h1 := f2; omega) (by have h1 := f3; have h2 := f4; omega) (by have h1 := f5; have h2 := f6; omega) (by have h1 := f7; have h2 := f8; omega) (by have h1 := f9; have h2 := f10; omega)
    rcases List.mem_cons.mp hp with rfl | hp
    · obtain ⟨x, rfl, hr, hz1, hu1⟩ := mz_re_0 mz_GG hre rfl
      obtain ⟨M', z', u'⟩ := S
      cases hz1
      cases hu1
      obtain ⟨f0, hf⟩ := hb_unc hf
      have f0 : 0 ≤ -1 + (1 * res + 0) := f0
      rw [← hr] at f0
      obtain ⟨f1, hf⟩ := hb_unc hf
      have f1 : 0 ≤ 1 + ((-1) * res + 0) := f1
      rw [← hr] at f1
      obtain ⟨f2, hf⟩ := hb_unc hf
      have f2 : 0 ≤ 0 + (1 * x1.toInt + 0) := f2
      obtain ⟨f3, hf⟩ := hb_unc hf
      have f3 : 0 ≤ 0 + ((-1) * x1.toInt + 0) := f3
      obtain ⟨f4, hf⟩ := hb_unc hf
      have f4 : 0 ≤ -1 + (1 * hv M 8 4 + 0) := f4
      obtain ⟨f5, hf⟩ := hb_unc hf
      have f5 : 0 ≤ 0 + (1 * hv M 91 1 + 0) := f5
      obtain ⟨f6, hf⟩ := hb_unc hf
      have f6 : 0 ≤ 0 + ((-1) * hv M 91 1 + 0) := f6
      obtain ⟨f7, hf⟩ := hb_unc hf
      have f7 : 0 ≤ -1 + (1 * hv M' 91 1 + 0) := f7
      obtain ⟨f8, hf⟩ := hb_unc hf
      have f8 : 0 ≤ 1 + ((-1) * hv M' 91 1 + 0) := f8
      obtain ⟨f9, hf⟩ := hb_unc hf
      have f9 : 0 ≤ 0 + ((-1) * hv M 96 1 + (1 * hv M' 96 1 + 0)) := f9
      obtain ⟨f10, hf⟩ := hb_unc hf
      have f10 : 0 ≤ 0 + (1 * hv M 96 1 + ((-1) * hv M' 96 1 + 0)) := f10
      obtain ⟨f11, hf⟩ := hb_unc hf
      have f11 : 0 ≤ 0 + ((-1) * hv M 101 1 + (1 * hv M' 101 1 + 0)) := f11
      obtain ⟨f12, hf⟩ := hb_unc hf
      have f12 : 0 ≤ 0 + (1 * hv M 101 1 + ((-1) * hv M' 101 1 + 0)) := f12
      obtain ⟨f13, hf⟩ := hb_unc hf
      have f13 : 0 ≤ 0 + ((-1) * hv M 106 1 + (1 * hv M' 106 1 + 0)) := f13
      obtain ⟨f14, hf⟩ := hb_unc hf
      have f14 : 0 ≤ 0 + (1 * hv M 106 1 + ((-1) * hv M' 106 1 + 0)) := f14
      exact w2 M' x b1 b2 b3 b4 b5 (by have h1 := f0; have h2 := f1; omega) (by have h1 := f2; have h2 := f3; omega) (by have h1 := f4; omega) (by have h1 := f5; have h2 := f6; omega) (by have h1 := f7; have h2 := f8; omega) (by have h1 := f9; have h2 := f10; omega) (by have h1 := f11; have h2 := f12; omega) (by have h1 := f13; have h2 := f14; omega)
    rcases List.mem_cons.mp hp with rfl | hp
    · obtain ⟨x, rfl, hr, hz1, hu1⟩ := mz_re_0 mz_GG hre rfl
      obtain ⟨M', z', u'⟩ := S
      cases hz1
      cases hu1
      obtain ⟨f0, hf⟩ := hb_unc hf
      have f0 : 0 ≤ 0 + (1 * res + 0) := f0
      rw [← hr] at f0
      obtain ⟨f1, hf⟩ := hb_unc hf
      have f1 : 0 ≤ 0 + ((-1) * res + 0) := f1
      rw [← hr] at f1
      obtain ⟨f2, hf⟩ := hb_unc hf
      have f2 : 0 ≤ 0 + (1 * x1.toInt + 0) := f2
      obtain ⟨f3, hf⟩ := hb_unc hf
      have f3 : 0 ≤ 0 + ((-1) * x1.toInt + 0) := f3
      obtain ⟨f4, hf⟩ := hb_unc hf
      have f4 : 0 ≤ -1 + (1 * hv M 8 4 + 0) := f4
      obtain ⟨f5, hf⟩ := hb_unc hf
      have f5 : 0 ≤ -1 + (1 * hv M 91 1 + 0) := f5
      obtain ⟨f6, hf⟩ := hb_unc hf
      have f6 : 0 ≤ 1 + ((-1) * hv M 91 1 + 0) := f6
      obtain ⟨f7, hf⟩ := hb_unc hf
      have f7 : 0 ≤ 0 + ((-1) * hv M 91 1 + (1 * hv M' 91 1 + 0)) := f7
      obtain ⟨f8, hf⟩ := hb_unc hf
      have f8 : 0 ≤ 0 + (1 * hv M 91 1 + ((-1) * hv M' 91 1 + 0)) := f8
      obtain ⟨f9, hf⟩ := hb_unc hf
      have f9 : 0 ≤ 0 + ((-1) * hv M 96 1 + (1 * hv M' 96 1 + 0)) := f9
      obtain ⟨f10, hf⟩ := hb_unc hf
      have f10 : 0 ≤ 0 + (1 * hv M 96 1 + ((-1) * hv M' 96 1 + 0)) := f10
      obtain ⟨f11, hf⟩ := hb_unc hf
      have f11 : 0 ≤ 0 + ((-1) * hv M 101 1 + (1 * hv M' 101 1 + 0)) := f11
      obtain ⟨f12, hf⟩ := hb_unc hf
      have f12 : 0 ≤ 0 + (1 * hv M 101 1 + ((-1) * hv M' 101 1 + 0)) := f12
      obtain ⟨f13, hf⟩ := hb_unc hf
      have f13 : 0 ≤ 0 + ((-1) * hv M 106 1 + (1 * hv M' 106 1 + 0)) := f13
      obtain ⟨f14, hf⟩ := hb_unc hf
      have f14 : 0 ≤ 0 + (1 * hv M 106 1 + ((-1) * hv M' 106 1 + 0)) := f14
      exact w3 M' x b1 b2 b3 b4 b5 (by have h1 := f0; have h2 := f1; omega) (by have h1 := f2; have h2 := f3; omega) (by have h1 := f4; omega) (by have h1 := f5; have h2 := f6; omega) (by have h1 := f7; have h2 := f8; omega) (by have h1 := f9; have h2 := f10; omega) (by have h1 := f11; have h2 := f12; omega) (by have h1 := f13; have h2 := f14; omega)
    rcases List.mem_cons.mp hp with rfl | hp
    · obtain ⟨x, rfl, hr, hz1, hu1⟩ := mz_re_0 mz_GG hre rfl
      obtain ⟨M', z', u'⟩ := S
      cases hz1
      cases hu1
      obtain ⟨f0, hf⟩ := hb_unc hf
      have f0 : 0 ≤ -1 + (1 * res + 0) := f0
      rw [← hr] at f0
      obtain ⟨f1, hf⟩ := hb_unc hf
      have f1 : 0 ≤ 1 + ((-1) * res + 0) := f1
      rw [← hr] at f1
      obtain ⟨f2, hf⟩ := hb_unc hf
      have f2 : 0 ≤ -1 + (1 * x1.toInt + 0) := f2
      obtain ⟨f3, hf⟩ := hb_unc hf
      have f3 : 0 ≤ 1 + ((-1) * x1.toInt + 0) := f3
      obtain ⟨f4, hf⟩ := hb_unc hf
      have f4 : 0 ≤ -2 + (1 * hv M 8 4 + 0) := f4
      obtain ⟨f5, hf⟩ := hb_unc hf
      have f5 : 0 ≤ 0 + (1 * hv M 96 1 + 0) := f5
      obtain ⟨f6, hf⟩ := hb_unc hf
      have f6 : 0 ≤ 0 + ((-1) * hv M 96 1 + 0) := f6
      obtain ⟨f7, hf⟩ := hb_unc hf
      have f7 : 0 ≤ -1 + (1 * hv M' 96 1 + 0) := f7
      obtain ⟨f8, hf⟩ := hb_unc hf
      have f8 : 0 ≤ 1 + ((-1) * hv M' 96 1 + 0) := f8
      obtain ⟨f9, hf⟩ := hb_unc hf
      have f9 : 0 ≤ 0 + ((-1) * hv M 91 1 + (1 * hv M' 91 1 + 0)) := f9
      obtain ⟨f10, hf⟩ := hb_unc hf
      have f10 : 0 ≤ 0 + (1 * hv M 91 1 + ((-1) * hv M' 91 1 + 0)) := f10
      obtain ⟨f11, hf⟩ := hb_unc hf
      have f11 : 0 ≤ 0 + ((-1) * hv M 101 1 + (1 * hv M' 101 1 + 0)) := f11
      obtain ⟨f12, hf⟩ := hb_unc hf
      have f12 : 0 ≤ 0 + (1 * hv M 101 1 + ((-1) * hv M' 101 1 + 0)) := f12
      obtain ⟨f13, hf⟩ := hb_unc hf
      have f13 : 0 ≤ 0 + ((-1) * hv M 106 1 + (1 * hv M' 106 1 + 0)) := f13
      obtain ⟨f14, hf⟩ := hb_unc hf
      have f14 : 0 ≤ 0 + (1 * hv M 106 1 + ((-1) * hv M' 106 1 + 0)) := f14
      exact w4 M' x b1 b2 b3 b4 b5 (by have h1 := f0; have h2 := f1; omega) (by have h1 := f2; have h2 := f3; omega) (by have h1 := f4; omega) (by have h1 := f5; have h2 := f6; omega) (by have h1 := f7; have h2 := f8; omega) (by have h1 := f9; have h2 := f10; omega) (by have h1 := f11; have h2 := f12; omega) (by have h1 := f13; have h2 := f14; omega)
    rcases List.mem_cons.mp hp with rfl | hp
    · obtain ⟨x, rfl, hr, hz1, hu1⟩ := mz_re_0 mz_GG hre rfl
      obtain ⟨M', z', u'⟩ := S
      cases hz1
      cases hu1
      obtain ⟨f0, hf⟩ := hb_unc hf
      have f0 : 0 ≤ 0 + (1 * res + 0) := f0
      rw [← hr] at f0
      obtain ⟨f1, hf⟩ := hb_unc hf
      have f1 : 0 ≤ 0 + ((-1) * res + 0) := f1
      rw [← hr] at f1
      obtain ⟨f2, hf⟩ := hb_unc hf
      have f2 : 0 ≤ -1 + (1 * x1.toInt + 0) := f2
      obtain ⟨f3, hf⟩ := hb_unc hf
      have f3 : 0 ≤ 1 + ((-1) * x1.toInt + 0) := f3
      obtain ⟨f4, hf⟩ := hb_unc hf
      have f4 : 0 ≤ -2 + (1 * hv M 8 4 + 0) := f4
      obtain ⟨f5, hf⟩ := hb_unc hf
      have f5 : 0 ≤ -1 + (1 * hv M 96 1 + 0) := f5
      obtain ⟨f6, hf⟩ := hb_unc hf
      have f6 : 0 ≤ 1 + ((-1) * hv M 96 1 + 0) := f6
      obtain ⟨f7, hf⟩ := hb_unc hf
      have f7 : 0 ≤ 0 + ((-1) * hv M 91 1 + (1 * hv M' 91 1 + 0)) := f7
      obtain ⟨f8, hf⟩ := hb_unc hf
      have f8 : 0 ≤ 0 + (1 * hv M 91 1 + ((-1) * hv M' 91 1 + 0)) := f8
      obtain ⟨f9, hf⟩ := hb_unc hf
      have f9 : 0 ≤ 0 + ((-1) * hv M 96 1 + (1 * hv M' 96 1 + 0)) := f9
      obtain ⟨f10, hf⟩ := hb_unc hf
      have f10 : 0 ≤ 0 + (1 * hv M 96 1 + ((-1) * hv M' 96 1 + 0)) := f10
      obtain ⟨f11, hf⟩ := hb_unc hf
      have f11 : 0 ≤ 0 + ((-1) * hv M 101 1 + (1 * hv M' 101 1 + 0)) := f11
      obtain ⟨f12, hf⟩ := hb_unc hf
      have f12 : 0 ≤ 0 + (1 * hv M 101 1 + ((-1) * hv M' 101 1 + 0)) := f12
      obtain ⟨f13, hf⟩ := hb_unc hf
      have f13 : 0 ≤ 0 + ((-1) * hv M 106 1 + (1 * hv M' 106 1 + 0)) := f13
      obtain ⟨f14, hf⟩ := hb_unc hf
      have f14 : 0 ≤ 0 + (1 * hv M 106 1 + ((-1) * hv M' 106 1 + 0)) := f14
      exact w5 M' x b1 b2 b3 b4 b5 (by have h1 := f0; have h2 := f1; omega) (by have h1 := f2; have h2 := f3; omega) (by have h1 := f4; omega) (by have h1 := f5; have h2 := f6; omega) (by have h1 := f7; have h2 := f8; omega) (by have h1 := f9; have h2 := f10; omega) (by have h1 := f11; have h2 := f12; omega) (by have h1 := f13; have h2 := f14; omega)
    rcases List.mem_cons.mp hp with rfl | hp
    · obtain ⟨x, rfl, hr, hz1, hu1⟩ := mz_re_0 mz_GG hre rfl
      obtain ⟨M', z', u'⟩ := S
      cases hz1
      cases hu1
      obtain ⟨f0, hf⟩ := hb_unc hf
      have f0 : 0 ≤ -1 + (1 * res + 0) := f0
      rw [← hr] at f0
      obtain ⟨f1, hf⟩ := hb_unc hf
      have f1 : 0 ≤ 1 + ((-1) * res + 0) := f1
      rw [← hr] at f1
      obtain ⟨f2, hf⟩ := hb_unc hf
      have f2 : 0 ≤ -2 + (1 * x1.toInt + 0) := f2
      obtain ⟨f3, hf⟩ := hb_unc hf
      have f3 : 0 ≤ 2 + ((-1) * x1.toInt + 0) := f3
      obtain ⟨f4, hf⟩ := hb_unc hf
      have f4 : 0 ≤ -3 + (1 * hv M 8 4 + 0) := f4
      obtain ⟨f5, hf⟩ := hb_unc hf
      have f5 : 0 ≤ 0 + (1 * hv M 101 1 + 0) := f5
      obtain ⟨f6, hf⟩ := hb_unc hf
      have f6 : 0 ≤ 0 + ((-1) * hv M 101 1 + 0) := f6
      obtain ⟨f7, hf⟩ := hb_unc hf
      have f7 : 0 ≤ -1 + (1 * hv M' 101 1 + 0) := f7
      obtain ⟨f8, hf⟩ := hb_unc hf
      have f8 : 0 ≤ 1 + ((-1) * hv M' 101 1 + 0) := f8
      obtain ⟨f9, hf⟩ := hb_unc hf
      have f9 : 0 ≤ 0 + ((-1) * hv M 91 1 + (1 * hv M' 91 1 + 0)) := f9
      obtain ⟨f10, hf⟩ := hb_unc hf
      have f10 : 0 ≤ 0 + (1 * hv M 91 1 + ((-1) * hv M' 91 1 + 0)) := f10
      obtain ⟨f11, hf⟩ := hb_unc hf
      have f11 : 0 ≤ 0 + ((-1) * hv M 96 1 + (1 * hv M' 96 1 + 0)) := f11
      obtain ⟨f12, hf⟩ := hb_unc hf
      have f12 : 0 ≤ 0 + (1 * hv M 96 1 + ((-1) * hv M' 96 1 + 0)) := f12
      obtain ⟨f13, hf⟩ := hb_unc hf
      have f13 : 0 ≤ 0 + ((-1) * hv M 106 1 + (1 * hv M' 106 1 + 0)) := f13
      obtain ⟨f14, hf⟩ := hb_unc hf
      have f14 : 0 ≤ 0 + (1 * hv M 106 1 + ((-1) * hv M' 106 1 + 0)) := f14
      exact w6 M' x b1 b2 b3 b4 b5 (by have h1 := f0; have h2 := f1; omega) (by have h1 := f2; have h2 := f3; omega) (by have h1 := f4; omega) (by have h1 := f5; have h2 := f6; omega) (by have h1 := f7; have h2 := f8; omega) (by have h1 := f9; have h2 := f10; omega) (by have h1 := f11; have h2 := f12; omega) (by have h1 := f13; have h2 := f14; omega)
    rcases List.mem_cons.mp hp with rfl | hp
    · obtain ⟨x, rfl, hr, hz1, hu1⟩ := mz_re_0 mz_GG hre rfl
      obtain ⟨M', z', u'⟩ := S
      cases hz1
      cases hu1
      obtain ⟨f0, hf⟩ := hb_unc hf
      have f0 : 0 ≤ 0 + (1 * res + 0) := f0
      rw [← hr] at f0
      obtain ⟨f1, hf⟩ := hb_unc hf
      have f1 : 0 ≤ 0 + ((-1) * res + 0) := f1
      rw [← hr] at f1
      obtain ⟨f2, hf⟩ := hb_unc hf
      have f2 : 0 ≤ -2 + (1 * x1.toInt + 0) := f2
      obtain ⟨f3, hf⟩ := hb_unc hf
      have f3 : 0 ≤ 2 + ((-1) * x1.toInt + 0) := f3
      obtain ⟨f4, hf⟩ := hb_unc hf
      have f4 : 0 ≤ -3 + (1 * hv M 8 4 + 0) := f4
      obtain ⟨f5, hf⟩ := hb_unc hf
      have f5 : 0 ≤ -1 + (1 * hv M 101 1 + 0) := f5
      obtain ⟨f6, hf⟩ := hb_unc hf
      have f6 : 0 ≤ 1 + ((-1) * hv M 101 1 + 0) := f6
      obtain ⟨f7, hf⟩ := hb_unc hf
      have f7 : 0 ≤ 0 + ((-1) * hv M 91 1 + (1 * hv M' 91 1 + 0)) := f7
      obtain ⟨f8, hf⟩ := hb_unc hf
      have f8 : 0 ≤ 0 + (1 * hv M 91 1 + ((-1) * hv M' 91 1 + 0)) := f8
      obtain ⟨f9, hf⟩ := hb_unc hf
      have f9 : 0 ≤ 0 + ((-1) * hv M 96 1 + (1 * hv M' 96 1 + 0)) := f9
      obtain ⟨f10, hf⟩ := hb_unc hf
      have f10 : 0 ≤ 0 + (1 * hv M 96 1 + ((-1) * hv M' 96 1 + 0)) := f10
      obtain ⟨f11, hf⟩ := hb_unc hf
      have f11 : 0 ≤ 0 + ((-1) * hv M 101 1 + (1 * hv M' 101 1 + 0)) := f11
      obtain ⟨f12, hf⟩ := hb_unc hf
      have f12 : 0 ≤ 0 + (1 * hv M 101 1 + ((-1) * hv M' 101 1 + 0)) := f12
      obtain ⟨f13, hf⟩ := hb_unc hf
      have f13 : 0 ≤ 0 + ((-1) * hv M 106 1 + (1 * hv M' 106 1 + 0)) := f13
      obtain ⟨f14, hf⟩ := hb_unc hf
      have f14 : 0 ≤ 0 + (1 * hv M 106 1 + ((-1) * hv M' 106 1 + 0)) := f14
      exact w7 M' x b1 b2 b3 b4 b5 (by have h1 := f0; have h2 := f1; omega) (by have h1 := f2; have h2 := f3; omega) (by have h1 := f4; omega) (by have h1 := f5; have h2 := f6; omega) (by have h1 := f7; have h2 := f8; omega) (by have h1 := f9; have h2 := f10; omega) (by have h1 := f11; have h2 := f12; omega) (by have h1 := f13; have h2 := f14; omega)
    rcases List.mem_cons.mp hp with rfl | hp
    · obtain ⟨x, rfl, hr, hz1, hu1⟩ := mz_re_0 mz_GG hre rfl
      obtain ⟨M', z', u'⟩ := S
      cases hz1
      cases hu1
      obtain ⟨f0, hf⟩ := hb_unc hf
      have f0 : 0 ≤ -1 + (1 * res + 0) := f0
      rw [← hr] at f0
      obtain ⟨f1, hf⟩ := hb_unc hf
      have f1 : 0 ≤ 1 + ((-1) * res + 0) := f1
      rw [← hr] at f1
      obtain ⟨f2, hf⟩ := hb_unc hf
      have f2 : 0 ≤ -3 + (1 * x1.toInt + 0) := f2
      obtain ⟨f3, hf⟩ := hb_unc hf
      have f3 : 0 ≤ 3 + ((-1) * x1.toInt + 0) := f3
      obtain ⟨f4, hf⟩ := hb_unc hf
      have f4 : 0 ≤ -4 + (1 * hv M 8 4 + 0) := f4
      obtain ⟨f5, hf⟩ := hb_unc hf
      have f5 : 0 ≤ 0 + (1 * hv M 106 1 + 0) := f5
      obtain ⟨f6, hf⟩ := hb_unc hf
      have f6 : 0 ≤ 0 + ((-1) * hv M 106 1 + 0) := f6
      obtain ⟨f7, hf⟩ := hb_unc hf
      have f7 : 0 ≤ -1 + (1 * hv M' 106 1 + 0) := f7
      obtain ⟨f8, hf⟩ := hb_unc hf
      have f8 : 0 ≤ 1 + ((-1) * hv M' 106 1 + 0) := f8
      obtain ⟨f9, hf⟩ := hb_unc hf
      have f9 : 0 ≤ 0 + ((-1) * hv M 91 1 + (1 * hv M' 91 1 + 0)) := f9
      obtain ⟨f10, hf⟩ := hb_unc hf
      have f10 : 0 ≤ 0 + (1 * hv M 91 1 + ((-1) * hv M' 91 1 + 0)) := f10
      obtain ⟨f11, hf⟩ := hb_unc hf
      have f11 : 0 ≤ 0 + ((-1) * hv M 96 1 + (1 * hv M' 96 1 + 0)) := f11
      obtain ⟨f12, hf⟩ := hb_unc hf
      have f12 : 0 ≤ 0 + (1 * hv M 96 1 + ((-1) * hv M' 96 1 + 0)) := f12
      obtain ⟨f13, hf⟩ := hb_unc hf
      have f13 : 0 ≤ 0 + ((-1) * hv M 101 1 + (1 * hv M' 101 1 + 0)) := f13
      obtain ⟨f14, hf⟩ := hb_unc hf
      have f14 : 0 ≤ 0 + (1 * hv M 101 1 + ((-1) * hv M' 101 1 + 0)) := f14
      exact w8 M' x b1 b2 b3 b4 b5 (by have h1 := f0; have h2 := f1; omega) (by have h1 := f2; have h2 := f3; omega) (by have h1 := f4; omega) (by have h1 := f5; have h2 := f6; omega) (by have h1 := f7; have h2 := f8; omega) (by have h1 := f9; have h2 := f10; omega) (by have h1 := f11; have h2 := f12; omega) (by have h1 := f13; have h2 := f14; omega)
    rcases List.mem_cons.mp hp with rfl | hp
    · obtain ⟨x, rfl, hr, hz1, hu1⟩ := mz_re_0 mz_GG hre rfl
      obtain ⟨M', z', u'⟩ := S
      cases hz1
      cases hu1
      obtain ⟨f0, hf⟩ := hb_unc hf
      have f0 : 0 ≤ 0 + (1 * res + 0) := f0
      rw [← hr] at f0
      obtain ⟨f1, hf⟩ := hb_unc hf
      have f1 : 0 ≤ 0 + ((-1) * res + 0) := f1
      rw [← hr] at f1
      obtain ⟨f2, hf⟩ := hb_unc hf
      have f2 : 0 ≤ -3 + (1 * x1.toInt + 0) := f2
      obtain ⟨f3, hf⟩ := hb_unc hf
      have f3 : 0 ≤ 3 + ((-1) * x1.toInt + 0) := f3
      obtain ⟨f4, hf⟩ := hb_unc hf
      have f4 : 0 ≤ -4 + (1 * hv M 8 4 + 0) := f4
      obtain ⟨f5, hf⟩ := hb_unc hf
      have f5 : 0 ≤ -1 + (1 * hv M 106 1 + 0) := f5
      obtain ⟨f6, hf⟩ := hb_unc hf
      have f6 : 0 ≤ 1 + ((-1) * hv M 106 1 + 0) := f6
      obtain ⟨f7, hf⟩ := hb_unc hf
      have f7 : 0 ≤ 0 + ((-1) * hv M 91 1 + (1 * hv M' 91 1 + 0)) := f7
      obtain ⟨f8, hf⟩ := hb_unc hf
      have f8 : 0 ≤ 0 + (1 * hv M 91 1 + ((-1) * hv M' 91 1 + 0)) := f8
      obtain ⟨f9, hf⟩ := hb_unc hf
      have f9 : 0 ≤ 0 + ((-1) * hv M 96 1 + (1 * hv M' 96 1 + 0)) := f9
      obtain ⟨f10, hf⟩ := hb_unc hf
      have f10 : 0 ≤ 0 + (1 * hv M 96 1 + ((-1) * hv M' 96 1 + 0)) := f10
      obtain ⟨f11, hf⟩ := hb_unc hf
      have f11 : 0 ≤ 0 + ((-1) * hv M 101 1 + (1 * hv M' 101 1 + 0)) := f11
      obtain ⟨f12, hf⟩ := hb_unc hf
      have f12 : 0 ≤ 0 + (1 * hv M 101 1 + ((-1) * hv M' 101 1 + 0)) := f12
      obtain ⟨f13, hf⟩ := hb_unc hf
      have f13 : 0 ≤ 0 + ((-1) * hv M 106 1 + (1 * hv M' 106 1 + 0)) := f13
      obtain ⟨f14, hf⟩ := hb_unc hf
      have f14 : 0 ≤ 0 + (1 * hv M 106 1 + ((-1) * hv M' 106 1 + 0)) := f14
      exact w9 M' x b1 b2 b3 b4 b5 (by have h1 := f0; have h2 := f1; omega) (by have h1 := f2; have h2 := f3; omega) (by have h1 := f4; omega) (by have h1 := f5; have h2 := f6; omega) (by have h1 := f7; have h2 := f8; omega) (by have h1 := f9; have h2 := f10; omega) (by have h1 := f11; have h2 := f12; omega) (by have h1 := f13; have h2 := f14; omega)
    cases hp
theorem lu_close {d z u : Nat} {M : Nat → mq_C} {Q : (Option Value ⊕ Nat) → mq_S → Prop} {x1 : Int32} (hd : 9 ≤ d) (hz : 272 ≤ z) (hm : mz_sh mz_GG M) (hx : HX M) (hl : lw M)
    (k : ∀ (M' : Nat → mq_C) (r : Int32), mz_sh mz_GG M' → HX M' → lw M' → (∀ a, a < 8 → M' a = M a) → M' 271 = M 271 → (∀ a, 234 ≤ a → a < 271 → M' a = M a) → lcs M M' → (c6_kp M M' ∧ c6_al M M') → x47 M M' → Q (.inl (some (.int r))) (M', z, u)) : mq_R mq_PP d 8 0 [some (.ref 8), some (.int x1)] [] (M, z, u) Q := by
  obtain ⟨l0, l1, l2, l3, l4, l5⟩ := hl
  have hW : ∀ b ∈ mz_q107.2.2.2.2.2, b < 234 := by decide +kernel
  have hW7 : ∀ b ∈ mz_q107.2.2.2.2.2, b < 47 ∨ 90 < b := by decide +kernel
  refine ly_close (ha_all (mz_q107, 2) (List.mem_of_getElem? (show mz_Cs[107]? = _ from rfl))) (by omega) hz hm hx ?_ ?_ ?_ ?_ ?_ ?_ ?_ ?_ ?_ ?_
  · intro M' r b1 b2 b3 b4 b5 f0 f1 f2 f3 f4 f5
    have e9 : hv M' 33 3 = hv M 33 3 := b5 9 (33, 3) rfl rfl
    have e10 : hv M' 33 5 = hv M 33 5 := b5 10 (33, 5) rfl rfl
    have e24 : hv M' 234 30 = hv M 234 30 := b5 24 (234, 30) rfl rfl
    have e33 : hv M' 257 0 = hv M 257 0 := b5 33 (257, 0) rfl rfl
    have e0 : hv M' 8 4 = hv M 8 4 := b5 0 (8, 4) rfl rfl
    have e12 : hv M' 44 0 = hv M 44 0 := b5 12 (44, 0) rfl rfl
    have e13 : hv M' 44 1 = hv M 44 1 := b5 13 (44, 1) rfl rfl
    have e14 : hv M' 44 3 = hv M 44 3 := b5 14 (44, 3) rfl rfl
    have e28 : hv M' 234 57 = hv M 234 57 := b5 28 (234, 57) rfl rfl
    have e8 : hv M' 33 1 = hv M 33 1 := b5 8 (33, 1) rfl rfl
    have e11 : hv M' 33 6 = hv M 33 6 := b5 11 (33, 6) rfl rfl
    exact k M' r b1 b2 ⟨by omega, by omega, by omega, by omega, by omega, by omega⟩ b4 (b3 271 (by decide) (by decide +kernel)) (fun a h1 h2 => b3 a (by omega) (lx_el (fun h => by have := hW a h; omega))) ⟨⟨e8, e9, e10, e11⟩, ⟨hb_vc (b3 47 (by decide) (by decide +kernel)) 1, hb_vc (b3 58 (by decide) (by decide +kernel)) 1, hb_vc (b3 69 (by decide) (by decide +kernel)) 1, hb_vc (b3 80 (by decide) (by decide +kernel)) 1⟩⟩ ⟨⟨b3 34 (by decide) (by decide +kernel), b3 35 (by decide) (by decide +kernel), b3 36 (by decide) (by decide +kernel)⟩, (fun s hs => by
      have h4 : s = 0 ∨ s = 1 ∨ s = 2 ∨ s = 3 := by omega
      rcases h4 with rfl | rfl | rfl | rfl
      · exact b3 48 (by decide) (by decide +kernel)
      · exact b3 59 (by decide) (by decide +kernel)
      · exact b3 70 (by decide) (by decide +kernel)
      · exact b3 81 (by decide) (by decide +kernel))⟩ (fun b p q => b3 b (by omega) (lx_el (fun h => by have := hW7 b h; omega)))
  · intro M' r b1 b2 b3 b4 b5 f0 f1 f2 f3 f4 f5
    have e9 : hv M' 33 3 = hv M 33 3 := b5 9 (33, 3) rfl rfl
    have e10 : hv M' 33 5 = hv M 33 5 := b5 10 (33, 5) rfl rfl
    have e24 : hv M' 234 30 = hv M 234 30 := b5 24 (234, 30) rfl rfl
    have e33 : hv M' 257 0 = hv M 257 0 := b5 33 (257, 0) rfl rfl
    have e0 : hv M' 8 4 = hv M 8 4 := b5 0 (8, 4) rfl rfl
    have e12 : hv M' 44 0 = hv M 44 0 := b5 12 (44, 0) rfl rfl
    have e13 : hv M' 44 1 = hv M 44 1 := b5 13 (44, 1) rfl rfl
    have e14 : hv M' 44 3 = hv M 44 3 := b5 14 (44, 3) rfl rfl
    have e28 : hv M' 234 57 = hv M 234 57 := b5 28 (234, 57) rfl rfl
    have e8 : hv M' 33 1 = hv M 33 1 := b5 8 (33, 1) rfl rfl
    have e11 : hv M' 33 6 = hv M 33 6 := b5 11 (33, 6) rfl rfl
    exact k M' r b1 b2 ⟨by omega, by omega, by omega, by omega, by omega, by omega⟩ b4 (b3 271 (by decide) (by decide +kernel)) (fun a h1 h2 => b3 a (by omega) (lx_el (fun h => by have := hW a h; omega))) ⟨⟨e8, e9, e10, e11⟩, ⟨hb_vc (b3 47 (by decide) (by decide +kernel)) 1, hb_vc (b3 58 (by decide) (by decide +kernel)) 1, hb_vc (b3 69 (by decide) (by decide +kernel)) 1, hb_vc (b3 80 (by decide) (by decide +kernel)) 1⟩⟩ ⟨⟨b3 34 (by decide) (by decide +kernel), b3 35 (by decide) (by decide +kernel), b3 36 (by decide) (by decide +kernel)⟩, (fun s hs => by
      have h4 : s = 0 ∨ s = 1 ∨ s = 2 ∨ s = 3 := by omega
      rcases h4 with rfl | rfl | rfl | rfl
      · exact b3 48 (by decide) (by decide +kernel)
      · exact b3 59 (by decide) (by decide +kernel)
      · exact b3 70 (by decide) (by decide +kernel)
      · exact b3 81 (by decide) (by decide +kernel))⟩ (fun b p q => b3 b (by omega) (lx_el (fun h => by have := hW7 b h; omega)))
  · intro M' r b1 b2 b3 b4 b5 f0 f1 f2 f3 f4 f5 f6 f7
    have e9 : hv M' 33 3 = hv M 33 3 := b5 9 (33, 3) rfl rfl
    have e10 : hv M' 33 5 = hv M 33 5 := b5 10 (33, 5) rfl rfl
    have e24 : hv M' 234 30 = hv M 234 30 := b5 24 (234, 30) rfl rfl
    have e33 : hv M' 257 0 = hv M 257 0 := b5 33 (257, 0) rfl rfl
    have e0 : hv M' 8 4 = hv M 8 4 := b5 0 (8, 4) rfl rfl
    have e12 : hv M' 44 0 = hv M 44 0 := b5 12 (44, 0) rfl rfl
    have e13 : hv M' 44 1 = hv M 44 1 := b5 13 (44, 1) rfl rfl
    have e14 : hv M' 44 3 = hv M 44 3 := b5 14 (44, 3) rfl rfl
    have e28 : hv M' 234 57 = hv M 234 57 := b5 28 (234, 57) rfl rfl
    have e8 : hv M' 33 1 = hv M 33 1 := b5 8 (33, 1) rfl rfl
    have e11 : hv M' 33 6 = hv M 33 6 := b5 11 (33, 6) rfl rfl
    exact k M' r b1 b2 ⟨by omega, by omega, by omega, by omega, by omega, by omega⟩ b4 (b3 271 (by decide) (by decide +kernel)) (fun a h1 h2 => b3 a (by omega) (lx_el (fun h => by have := hW a h; omega))) ⟨⟨e8, e9, e10, e11⟩, ⟨hb_vc (b3 47 (by decide) (by decide +kernel)) 1, hb_vc (b3 58 (by decide) (by decide +kernel)) 1, hb_vc (b3 69 (by decide) (by decide +kernel)) 1, hb_vc (b3 80 (by decide) (by decide +kernel)) 1⟩⟩ ⟨⟨b3 34 (by decide) (by decide +kernel), b3 35 (by decide) (by decide +kernel), b3 36 (by decide) (by decide +kernel)⟩, (fun s hs => by
      have h4 : s = 0 ∨ s = 1 ∨ s = 2 ∨ s = 3 := by omega
      rcases h4 with rfl | rfl | rfl | rfl
      · exact b3 48 (by decide) (by decide +kernel)
      · exact b3 59 (by decide) (by decide +kernel)
      · exact b3 70 (by decide) (by decide +kernel)
      · exact b3 81 (by decide) (by decide +kernel))⟩ (fun b p q => b3 b (by omega) (lx_el (fun h => by have := hW7 b h; omega)))
  · intro M' r b1 b2 b3 b4 b5 f0 f1 f2 f3 f4 f5 f6 f7
    have e9 : hv M' 33 3 = hv M 33 3 := b5 9 (33, 3) rfl rfl
    have e10 : hv M' 33 5 = hv M 33 5 := b5 10 (33, 5) rfl rfl
    have e24 : hv M' 234 30 = hv M 234 30 := b5 24 (234, 30) rfl rfl
    have e33 : hv M' 257 0 = hv M 257 0 := b5 33 (257, 0) rfl rfl
    have e0 : hv M' 8 4 = hv M 8 4 := b5 0 (8, 4) rfl rfl
    have e12 : hv M' 44 0 = hv M 44 0 := b5 12 (44, 0) rfl rfl
    have e13 : hv M' 44 1 = hv M 44 1 := b5 13 (44, 1) rfl rfl
    have e14 : hv M' 44 3 = hv M 44 3 := b5 14 (44, 3) rfl rfl
    have e28 : hv M' 234 57 = hv M 234 57 := b5 28 (234, 57) rfl rfl
    have e8 : hv M' 33 1 = hv M 33 1 := b5 8 (33, 1) rfl rfl
    have e11 : hv M' 33 6 = hv M 33 6 := b5 11 (33, 6) rfl rfl
    exact k M' r b1 b2 ⟨by omega, by omega, by omega, by omega, by omega, by omega⟩ b4 (b3 271 (by decide) (by decide +kernel)) (fun a h1 h2 => b3 a (by omega) (lx_el (fun h => by have := hW a h; omega))) ⟨⟨e8, e9, e10, e11⟩, ⟨hb_vc (b3 47 (by decide) (by decide +kernel)) 1, hb_vc (b3 58 (by decide) (by decide +kernel)) 1, hb_vc (b3 69 (by decide) (by decide +kernel)) 1, hb_vc (b3 80 (by decide) (by decide +kernel)) 1⟩⟩ ⟨⟨b3 34 (by decide) (by decide +kernel), b3 35 (by decide) (by decide +kernel), b3 36 (by decide) (by decide +kernel)⟩, (fun s hs => by
      have h4 : s = 0 ∨ s = 1 ∨ s = 2 ∨ s = 3 := by omega
      rcases h4 with rfl | rfl | rfl | rfl
      · exact b3 48 (by decide) (by decide +kernel)
      · exact b3 59 (by decide) (by decide +kernel)
      · exact b3 70 (by decide) (by decide +kernel)
      · exact b3 81 (by decide) (by decide +kernel))⟩ (fun b p q => b3 b (by omega) (lx_el (fun h => by have := hW7 b h; omega)))
  · intro M' r b1 b2 b3 b4 b5 f0 f1 f2 f3 f4 f5 f6 f7
    have e9 : hv M' 33 3 = hv M 33 3 := b5 9 (33, 3) rfl rfl
    have e10 : hv M' 33 5 = hv M 33 5 := b5 10 (33, 5) rfl rfl
    have e24 : hv M' 234 30 = hv M 234 30 := b5 24 (234, 30) rfl rfl
    have e33 : hv M' 257 0 = hv M 257 0 := b5 33 (257, 0) rfl rfl
    have e0 : hv M' 8 4 = hv M 8 4 := b5 0 (8, 4) rfl rfl
    have e12 : hv M' 44 0 = hv M 44 0 := b5 12 (44, 0) rfl rfl
    have e13 : hv M' 44 1 = hv M 44 1 := b5 13 (44, 1) rfl rfl
    have e14 : hv M' 44 3 = hv M 44 3 := b5 14 (44, 3) rfl rfl
    have e28 : hv M' 234 57 = hv M 234 57 := b5 28 (234, 57) rfl rfl
    have e8 : hv M' 33 1 = hv M 33 1 := b5 8 (33, 1) rfl rfl
    have e11 : hv M' 33 6 = hv M 33 6 := b5 11 (33, 6) rfl rfl
    exact k M' r b1 b2 ⟨by omega, by omega, by omega, by omega, by omega, by omega⟩ b4 (b3 271 (by decide) (by decide +kernel)) (fun a h1 h2 => b3 a (by omega) (lx_el (fun h => by have := hW a h; omega))) ⟨⟨e8, e9, e10, e11⟩, ⟨hb_vc (b3 47 (by decide) (by decide +kernel)) 1, hb_vc (b3 58 (by decide) (by decide +kernel)) 1, hb_vc (b3 69 (by decide) (by decide +kernel)) 1, hb_vc (b3 80 (by decide) (by decide +kernel)) 1⟩⟩ ⟨⟨b3 34 (by decide) (by decide +kernel), b3 35 (by decide) (by decide +kernel), b3 36 (by decide) (by decide +kernel)⟩, (fun s hs => by
      have h4 : s = 0 ∨ s = 1 ∨ s = 2 ∨ s = 3 := by omega
      rcases h4 with rfl | rfl | rfl | rfl
      · exact b3 48 (by decide) (by decide +kernel)
      · exact b3 59 (by decide) (by decide +kernel)
      · exact b3 70 (by decide) (by decide +kernel)
      · exact b3 81 (by decide) (by decide +kernel))⟩ (fun b p q => b3 b (by omega) (lx_el (fun h => by have := hW7 b h; omega)))
  · intro M' r b1 b2 b3 b4 b5 f0 f1 f2 f3 f4 f5 f6 f7
    have e9 : hv M' 33 3 = hv M 33 3 := b5 9 (33, 3) rfl rfl
    have e10 : hv M' 33 5 = hv M 33 5 := b5 10 (33, 5) rfl rfl
    have e24 : hv M' 234 30 = hv M 234 30 := b5 24 (234, 30) rfl rfl
    have e33 : hv M' 257 0 = hv M 257 0 := b5 33 (257, 0) rfl rfl
    have e0 : hv M' 8 4 = hv M 8 4 := b5 0 (8, 4) rfl rfl
    have e12 : hv M' 44 0 = hv M 44 0 := b5 12 (44, 0) rfl rfl
    have e13 : hv M' 44 1 = hv M 44 1 := b5 13 (44, 1) rfl rfl
    have e14 : hv M' 44 3 = hv M 44 3 := b5 14 (44, 3) rfl rfl
    have e28 : hv M' 234 57 = hv M 234 57 := b5 28 (234, 57) rfl rfl
    have e8 : hv M' 33 1 = hv M 33 1 := b5 8 (33, 1) rfl rfl
    have e11 : hv M' 33 6 = hv M 33 6 := b5 11 (33, 6) rfl rfl
    exact k M' r b1 b2 ⟨by omega, by omega, by omega, by omega, by omega, by omega⟩ b4 (b3 271 (by decide) (by decide +kernel)) (fun a h1 h2 => b3 a (by omega) (lx_el (fun h => by have := hW a h; omega))) ⟨⟨e8, e9, e10, e11⟩, ⟨hb_vc (b3 47 (by decide) (by decide +kernel)) 1, hb_vc (b3 58 (by decide) (by decide +kernel)) 1, hb_vc (b3 69 (by decide) (by decide +kernel)) 1, hb_vc (b3 80 (by decide) (by decide +kernel)) 1⟩⟩ ⟨⟨b3 34 (by decide) (by decide +kernel), b3 35 (by decide) (by decide +kernel), b3 36 (by decide) (by decide +kernel)⟩, (fun s hs => by
      have h4 : s = 0 ∨ s = 1 ∨ s = 2 ∨ s = 3 := by omega
      rcases h4 with rfl | rfl | rfl | rfl
      · exact b3 48 (by decide) (by decide +kernel)
      · exact b3 59 (by decide) (by decide +kernel)
      · exact b3 70 (by decide) (by decide +kernel)
      · exact b3 81 (by decide) (by decide +kernel))⟩ (fun b p q => b3 b (by omega) (lx_el (fun h => by have := hW7 b h; omega)))
  · intro M' r b1 b2 b3 b4 b5 f0 f1 f2 f3 f4 f5 f6 f7
    have e9 : hv M' 33 3 = hv M 33 3 := b5 9 (33, 3) rfl rfl
    have e10 : hv M' 33 5 = hv M 33 5 := b5 10 (33, 5) rfl rfl
    have e24 : hv M' 234 30 = hv M 234 30 := b5 24 (234, 30) rfl rfl
    have e33 : hv M' 257 0 = hv M 257 0 := b5 33 (257, 0) rfl rfl
    have e0 : hv M' 8 4 = hv M 8 4 := b5 0 (8, 4) rfl rfl
    have e12 : hv M' 44 0 = hv M 44 0 := b5 12 (44, 0) rfl rfl
    have e13 : hv M' 44 1 = hv M 44 1 := b5 13 (44, 1) rfl rfl
    have e14 : hv M' 44 3 = hv M 44 3 := b5 14 (44, 3) rfl rfl
    have e28 : hv M' 234 57 = hv M 234 57 := b5 28 (234, 57) rfl rfl
    have e8 : hv M' 33 1 = hv M 33 1 := b5 8 (33, 1) rfl rfl
    have e11 : hv M' 33 6 = hv M 33 6 := b5 11 (33, 6) rfl rfl
    exact k M' r b1 b2 ⟨by omega, by omega, by omega, by omega, by omega, by omega⟩ b4 (b3 271 (by decide) (by decide +kernel)) (fun a h1 h2 => b3 a (by omega) (lx_el (fun h => by have := hW a h; omega))) ⟨⟨e8, e9, e10, e11⟩, ⟨hb_vc (b3 47 (by decide) (by decide +kernel)) 1, hb_vc (b3 58 (by decide) (by decide +kernel)) 1, hb_vc (b3 69 (by decide) (by decide +kernel)) 1, hb_vc (b3 80 (by decide) (by decide +kernel)) 1⟩⟩ ⟨⟨b3 34 (by decide) (by decide +kernel), b3 35 (by decide) (by decide +kernel), b3 36 (by decide) (by decide +kernel)⟩, (fun s hs => by
      have h4 : s = 0 ∨ s = 1 ∨ s = 2 ∨ s = 3 := by omega
      rcases h4 with rfl | rfl | rfl | rfl
      · exact b3 48 (by decide) (by decide +kernel)
      · exact b3 59 (by decide) (by decide +kernel)
      · exact b3 70 (by decide) (by decide +kernel)
      · exact b3 81 (by decide) (by decide +kernel))⟩ (fun b p q => b3 b (by omega) (lx_el (fun h => by have := hW7 b h; omega)))
  · intro M' r b1 b2 b3 b4 b5 f0 f1 f2 f3 f4 f5 f6 f7
    have e9 : hv M' 33 3 = hv M 33 3 := b5 9 (33, 3) rfl rfl
    have e10 : hv M' 33 5 = hv M 33 5 := b5 10 (33, 5) rfl rfl
    have e24 : hv M' 234 30 = hv M 234 30 := b5 24 (234, 30) rfl rfl
    have e33 : hv M' 257 0 = hv M 257 0 := b5 33 (257, 0) rfl rfl
    have e0 : hv M' 8 4 = hv M 8 4 := b5 0 (8, 4) rfl rfl
    have e12 : hv M' 44 0 = hv M 44 0 := b5 12 (44, 0) rfl rfl
    have e13 : hv M' 44 1 = hv M 44 1 := b5 13 (44, 1) rfl rfl
    have e14 : hv M' 44 3 = hv M 44 3 := b5 14 (44, 3) rfl rfl
    have e28 : hv M' 234 57 = hv M 234 57 := b5 28 (234, 57) rfl rfl
    have e8 : hv M' 33 1 = hv M 33 1 := b5 8 (33, 1) rfl rfl
    have e11 : hv M' 33 6 = hv M 33 6 := b5 11 (33, 6) rfl rfl
    exact k M' r b1 b2 ⟨by omega, by omega, by omega, by omega, by omega, by omega⟩ b4 (b3 271 (by decide) (by decide +kernel)) (fun a h1 h2 => b3 a (by omega) (lx_el (fun h => by have := hW a h; omega))) ⟨⟨e8, e9, e10, e11⟩, ⟨hb_vc (b3 47 (by decide) (by decide +kernel)) 1, hb_vc (b3 58 (by decide) (by decide +kernel)) 1, hb_vc (b3 69 (by decide) (by decide +kernel)) 1, hb_vc (b3 80 (by decide) (by decide +kernel)) 1⟩⟩ ⟨⟨b3 34 (by decide) (by decide +kernel), b3 35 (by decide) (by decide +kernel), b3 36 (by decide) (by decide +kernel)⟩, (fun s hs => by
      have h4 : s = 0 ∨ s = 1 ∨ s = 2 ∨ s = 3 := by omega
      rcases h4 with rfl | rfl | rfl | rfl
      · exact b3 48 (by decide) (by decide +kernel)
      · exact b3 59 (by decide) (by decide +kernel)
      · exact b3 70 (by decide) (by decide +kernel)
      · exact b3 81 (by decide) (by decide +kernel))⟩ (fun b p q => b3 b (by omega) (lx_el (fun h => by have := hW7 b h; omega)))
  · intro M' r b1 b2 b3 b4 b5 f0 f1 f2 f3 f4 f5 f6 f7
    have e9 : hv M' 33 3 = hv M 33 3 := b5 9 (33, 3) rfl rfl
    have e10 : hv M' 33 5 = hv M 33 5 := b5 10 (33, 5) rfl rfl
    have e24 : hv M' 234 30 = hv M 234 30 := b5 24 (234, 30) rfl rfl
    have e33 : hv M' 257 0 = hv M 257 0 := b5 33 (257, 0) rfl rfl
    have e0 : hv M' 8 4 = hv M 8 4 := b5 0 (8, 4) rfl rfl
    have e12 : hv M' 44 0 = hv M 44 0 := b5 12 (44, 0) rfl rfl
    have e13 : hv M' 44 1 = hv M 44 1 := b5 13 (44, 1) rfl rfl
    have e14 : hv M' 44 3 = hv M 44 3 := b5 14 (44, 3) rfl rfl
    have e28 : hv M' 234 57 = hv M 234 57 := b5 28 (234, 57) rfl rfl
    have e8 : hv M' 33 1 = hv M 33 1 := b5 8 (33, 1) rfl rfl
    have e11 : hv M' 33 6 = hv M 33 6 := b5 11 (33, 6) rfl rfl
    exact k M' r b1 b2 ⟨by omega, by omega, by omega, by omega, by omega, by omega⟩ b4 (b3 271 (by decide) (by decide +kernel)) (fun a h1 h2 => b3 a (by omega) (lx_el (fun h => by have := hW a h; omega))) ⟨⟨e8, e9, e10, e11⟩, ⟨hb_vc (b3 47 (by decide) (by decide +kernel)) 1, hb_vc (b3 58 (by decide) (by decide +kernel)) 1, hb_vc (b3 69 (by decide) (by decide +kernel)) 1, hb_vc (b3 80 (by decide) (by decide +kernel)) 1⟩⟩ ⟨⟨b3 34 (by decide) (by decide +kernel), b3 35 (by decide) (by decide +kernel), b3 36 (by decide) (by decide +kernel)⟩, (fun s hs => by
      have h4 : s = 0 ∨ s = 1 ∨ s = 2 ∨ s = 3 := by omega
      rcases h4 with rfl | rfl | rfl | rfl
      · exact b3 48 (by decide) (by decide +kernel)
      · exact b3 59 (by decide) (by decide +kernel)
      · exact b3 70 (by decide) (by decide +kernel)
      · exact b3 81 (by decide) (by decide +kernel))⟩ (fun b p q => b3 b (by omega) (lx_el (fun h => by have := hW7 b h; omega)))
  · intro M' r b1 b2 b3 b4 b5 f0 f1 f2 f3 f4 f5 f6 f7
    have e9 : hv M' 33 3 = hv M 33 3 := b5 9 (33, 3) rfl rfl
    have e10 : hv M' 33 5 = hv M 33 5 := b5 10 (33, 5) rfl rfl
    have e24 : hv M' 234 30 = hv M 234 30 := b5 24 (234, 30) rfl rfl
    have e33 : hv M' 257 0 = hv M 257 0 := b5 33 (257, 0) rfl rfl
    have e0 : hv M' 8 4 = hv M 8 4 := b5 0 (8, 4) rfl rfl
    have e12 : hv M' 44 0 = hv M 44 0 := b5 12 (44, 0) rfl rfl
    have e13 : hv M' 44 1 = hv M 44 1 := b5 13 (44, 1) rfl rfl
    have e14 : hv M' 44 3 = hv M 44 3 := b5 14 (44, 3) rfl rfl
    have e28 : hv M' 234 57 = hv M 234 57 := b5 28 (234, 57) rfl rfl
    have e8 : hv M' 33 1 = hv M 33 1 := b5 8 (33, 1) rfl rfl
    have e11 : hv M' 33 6 = hv M 33 6 := b5 11 (33, 6) rfl rfl
    exact k M' r b1 b2 ⟨by omega, by omega, by omega, by omega, by omega, by omega⟩ b4 (b3 271 (by decide) (by decide +kernel)) (fun a h1 h2 => b3 a (by omega) (lx_el (fun h => by have := hW a h; omega))) ⟨⟨e8, e9, e10, e11⟩, ⟨hb_vc (b3 47 (by decide) (by decide +kernel)) 1, hb_vc (b3 58 (by decide) (by decide +kernel)) 1, hb_vc (b3 69 (by decide) (by decide +kernel)) 1, hb_vc (b3 80 (by decide) (by decide +kernel)) 1⟩⟩ ⟨⟨b3 34 (by decide) (by decide +kernel), b3 35 (by decide) (by decide +kernel), b3 36 (by decide) (by decide +kernel)⟩, (fun s hs => by
      have h4 : s = 0 ∨ s = 1 ∨ s = 2 ∨ s = 3 := by omega
      rcases h4 with rfl | rfl | rfl | rfl
      · exact b3 48 (by decide) (by decide +kernel)
      · exact b3 59 (by decide) (by decide +kernel)
      · exact b3 70 (by decide) (by decide +kernel)
      · exact b3 81 (by decide) (by decide +kernel))⟩ (fun b p q => b3 b (by omega) (lx_el (fun h => by have := hW7 b h; omega)))
theorem lv_close {d z u : Nat} {M : Nat → mq_C} {Q : (Option Value ⊕ Nat) → mq_S → Prop} {x1 : Int32} (hd : 9 ≤ d) (hz : 272 ≤ z) (hm : mz_sh mz_GG M) (hx : HX M) (hl : lw M)
    (k : ∀ (M' : Nat → mq_C) (r : Int32), mz_sh mz_GG M' → HX M' → lw M' → (∀ a, a < 8 → M' a = M a) → M' 271 = M 271 → (∀ a, 234 ≤ a → a < 271 → M' a = M a) → lcs M M' → (c6_kp M M' ∧ c6_al M M') → l6tb M M' → xSc (cvw M) (cvw M') x1.toInt r.toInt → x47 M M' → Q (.inl (some (.int r))) (M', z, u)) : mq_R mq_PP d 8 0 [some (.ref 8), some (.int x1)] [] (M, z, u) Q := by
  refine mq_R_mono (lx_and (Q := fun r' S' => ∃ (M' : Nat → mq_C) (r : Int32), r' = .inl (some (.int r)) ∧ S' = (M', z, u) ∧ mz_sh mz_GG M' ∧ HX M' ∧ lw M' ∧ (∀ a, a < 8 → M' a = M a) ∧ M' 271 = M 271 ∧ (∀ a, 234 ≤ a → a < 271 → M' a = M a) ∧ lcs M M' ∧ (c6_kp M M' ∧ c6_al M M') ∧ x47 M M' ∧ l6tb M M') (Q' := fun r' S' => ∃ (M' : Nat → mq_C) (r : Int32), r' = .inl (some (.int r)) ∧ S' = (M', z, u) ∧ xSc (cvw M) (cvw M') x1.toInt r.toInt) ?_ ?_) ?_
  · rw [← mq_e8]
    refine fz_R (by decide) hm hz (fun b hb => ?_) ?_
    · simp at hb
      subst hb
      decide
    rw [mq_e8]
    refine lu_close (by omega) hz hm hx hl ?_
    exact fun M' r b1 b2 b3 b4 b5 b6 b7 b8 b9 hT => ⟨M', r, rfl, rfl, b1, b2, b3, b4, b5, b6, b7, b8, b9, hT⟩
  · obtain ⟨d, rfl⟩ : ∃ e, d = e + 1 := ⟨d - 1, by omega⟩
    exact xn_close hm (fun M' r h => ⟨M', r, rfl, rfl, h⟩)
  · rintro r' S' ⟨⟨M', r, rfl, rfl, b1, b2, b3, b4, b5, b6, b7, b8, b9, hT⟩, M2, r2, e1, e2, h⟩
    cases e1
    cases e2
    exact k M' r b1 b2 b3 b4 b5 b6 b7 b8 hT h b9
theorem ly_load {X : (Nat → mq_C) → Prop} (hq : mz_Ct mz_GG mq_PP X mz_q195 161) {d z u : Nat} {M : Nat → mq_C} {Q : (Option Value ⊕ Nat) → mq_S → Prop} {x1 : Int32} {x2 : Int32} (hd : 161 ≤ d) (hz : 272 ≤ z) (hm : mz_sh mz_GG M) (hx : X M)
    (w0 : ∀ (M' : Nat → mq_C) (r : Int32), mz_sh mz_GG M' → X M' → mz_fr mz_q195 M M' → (∀ a, a < 8 → M' a = M a) → hb_same mz_GG mz_q195 M M' → 0 ≤ r.toInt → 0 ≤ 127 - r.toInt → 0 ≤ x1.toInt → 0 ≤ (-1) - x1.toInt + hv M 8 4 → Q (.inl (some (.int r))) (M', z, u))
    (w1 : ∀ (M' : Nat → mq_C), mz_sh mz_GG M' → X M' → mz_fr mz_q195 M M' → (∀ a, a < 8 → M' a = M a) → hb_same mz_GG mz_q195 M M' → (M' z).1 = 10 → Q (.inr z) (M', z + 1, u + 6))
    (w2 : ∀ (M' : Nat → mq_C), mz_sh mz_GG M' → X M' → mz_fr mz_q195 M M' → (∀ a, a < 8 → M' a = M a) → hb_same mz_GG mz_q195 M M' → (M' z).1 = 11 → Q (.inr z) (M', z + 1, u + 6))
    (w3 : ∀ (M' : Nat → mq_C), mz_sh mz_GG M' → X M' → mz_fr mz_q195 M M' → (∀ a, a < 8 → M' a = M a) → hb_same mz_GG mz_q195 M M' → (M' z).1 = 12 → Q (.inr z) (M', z + 1, u + 6))
    (w4 : ∀ (M' : Nat → mq_C), mz_sh mz_GG M' → X M' → mz_fr mz_q195 M M' → (∀ a, a < 8 → M' a = M a) → hb_same mz_GG mz_q195 M M' → (M' z).1 = 13 → Q (.inr z) (M', z + 1, u + 6))
    (w5 : ∀ (M' : Nat → mq_C), mz_sh mz_GG M' → X M' → mz_fr mz_q195 M M' → (∀ a, a < 8 → M' a = M a) → hb_same mz_GG mz_q195 M M' → (M' z).1 = 14 → Q (.inr z) (M', z + 1, u + 6)) : mq_R mq_PP d 9 0 [some (.ref 8), some (.int x1), some (.int x2), none] [] (M, z, u) Q := by
  refine hb_use mz_GG mq_PP X (q := mz_q195) (vs := [.ref 8, .int x1, .int x2]) hq (by decide +kernel) hd (show hb_pk mz_GG [(1, 8), (0, 0), (0, 0)] _ from ⟨⟨List.mem_singleton.mpr rfl, rfl⟩, trivial, trivial, trivial⟩) hm hx hz ?_ ?_
  · exact hb_nil
  · intro r S hpo
    obtain ⟨b1, b2, b3, b4, b5, p, hp, res, hf, hre⟩ := hpo
    rcases List.mem_cons.mp hp with rfl | hp
    · obtain ⟨x, rfl, hr, hz1, hu1⟩ := mz_re_0 mz_GG hre rfl
      obtain ⟨M', z', u'⟩ := S
      cases hz1
      cases hu1
      obtain ⟨f0, hf⟩ := hb_unc hf
      have f0 : 0 ≤ 0 + (1 * res + 0) := f0
      rw [← hr] at f0
      obtain ⟨f1, hf⟩ := hb_unc hf
      have f1 : 0 ≤ 127 + ((-1) * res + 0) := f1
      rw [← hr] at f1
      obtain ⟨f2, hf⟩ := hb_unc hf
      have f2 : 0 ≤ 0 + (1 * x1.toInt + 0) := f2
      obtain ⟨f3, hf⟩ := hb_unc hf
      have f3 : 0 ≤ -1 + ((-1) * x1.toInt + (1 * hv M 8 4 + 0)) := f3
      exact w0 M' x b1 b2 b3 b4 b5 (by have h1 := f0; omega) (by have h1 := f1; omega) (by have h1 := f2; omega) (by have h1 := f3; omega)
    rcases List.mem_cons.mp hp with rfl | hp
    · obtain ⟨rfl, hk, hz1, hu1⟩ := mz_re_5 mz_GG hre rfl
      obtain ⟨M', z', u'⟩ := S
      cases hz1
      cases hu1
      exact w1 M' b1 b2 b3 b4 b5 hk 
    rcases List.mem_cons.mp hp with rfl | hp
    · obtain ⟨rfl, hk, hz1, hu1⟩ := mz_re_5 mz_GG hre rfl
      obtain ⟨M', z', u'⟩ := S
      cases hz1
      cases hu1
      exact w2 M' b1 b2 b3 b4 b5 hk 
    rcases List.mem_cons.mp hp with rfl | hp
    · obtain ⟨rfl, hk, hz1, hu1⟩ := mz_re_5 mz_GG hre rfl
      obtain ⟨M', z', u'⟩ := S
      cases hz1
      cases hu1
      exact w3 M' b1 b2 b3 b4 b5 hk 
    rcases List.mem_cons.mp hp with rfl | hp
    · obtain ⟨rfl, hk, hz1, hu1⟩ := mz_re_5 mz_GG hre rfl
      obtain ⟨M', z', u'⟩ := S
      cases hz1
      cases hu1
      exact w4 M' b1 b2 b3 b4 b5 hk 
    rcases List.mem_cons.mp hp with rfl | hp
    · obtain ⟨rfl, hk, hz1, hu1⟩ := mz_re_5 mz_GG hre rfl
      obtain ⟨M', z', u'⟩ := S
      cases hz1
      cases hu1
      exact w5 M' b1 b2 b3 b4 b5 hk 
    cases hp
theorem lu_load {d z u : Nat} {M : Nat → mq_C} {Q : (Option Value ⊕ Nat) → mq_S → Prop} {x1 : Int32} {x2 : Int32} (hd : 161 ≤ d) (hz : 272 ≤ z) (hm : mz_sh mz_GG M) (hx : HX M) (hl : lw M)
    (k : ∀ (M' : Nat → mq_C) (r : Int32), mz_sh mz_GG M' → HX M' → lw M' → (∀ a, a < 8 → M' a = M a) → M' 271 = M 271 → (∀ a, 234 ≤ a → a < 271 → M' a = M a) → lcs M M' → (c6_kp M M' ∧ c6_al M M') → x47 M M' → xLK (cvw M) (cvw M') → Q (.inl (some (.int r))) (M', z, u))
    (kt : ∀ (M' : Nat → mq_C), mz_sh mz_GG M' → HX M' → lw M' → (∀ a, a < 8 → M' a = M a) → M' 271 = M 271 → (∀ a, 234 ≤ a → a < 271 → M' a = M a) → lcs M M' → (c6_kp M M' ∧ c6_al M M') → x47 M M' → xLK (cvw M) (cvw M') → (M' z).1 = 10 ∨ (M' z).1 = 11 ∨ (M' z).1 = 12 ∨ (M' z).1 = 13 ∨ (M' z).1 = 14 → Q (.inr z) (M', z + 1, u + 6)) : mq_R mq_PP d 9 0 [some (.ref 8), some (.int x1), some (.int x2), none] [] (M, z, u) Q := by
  obtain ⟨l0, l1, l2, l3, l4, l5⟩ := hl
  have hW : ∀ b ∈ mz_q195.2.2.2.2.2, b < 234 := by decide +kernel
  have hW7 : ∀ b ∈ mz_q195.2.2.2.2.2, b < 47 ∨ 90 < b := by decide +kernel
  have hWL : ∀ b ∈ mz_q195.2.2.2.2.2, b < 91 ∨ 110 < b ∨ b % 5 = 3 ∨ b % 5 = 4 ∨ b % 5 = 0 := by decide +kernel
  refine ly_load (ha_all (mz_q195, 161) (List.mem_of_getElem? (show mz_Cs[195]? = _ from rfl))) (by omega) hz hm hx ?_ ?_ ?_ ?_ ?_ ?_
  · intro M' r b1 b2 b3 b4 b5 f0 f1 f2 f3
    have e9 : hv M' 33 3 = hv M 33 3 := b5 9 (33, 3) rfl rfl
    have e10 : hv M' 33 5 = hv M 33 5 := b5 10 (33, 5) rfl rfl
    have e24 : hv M' 234 30 = hv M 234 30 := b5 24 (234, 30) rfl rfl
    have e33 : hv M' 257 0 = hv M 257 0 := b5 33 (257, 0) rfl rfl
    have e0 : hv M' 8 4 = hv M 8 4 := b5 0 (8, 4) rfl rfl
    have e12 : hv M' 44 0 = hv M 44 0 := b5 12 (44, 0) rfl rfl
    have e13 : hv M' 44 1 = hv M 44 1 := b5 13 (44, 1) rfl rfl
    have e14 : hv M' 44 3 = hv M 44 3 := b5 14 (44, 3) rfl rfl
    have e28 : hv M' 234 57 = hv M 234 57 := b5 28 (234, 57) rfl rfl
    have e8 : hv M' 33 1 = hv M 33 1 := b5 8 (33, 1) rfl rfl
    have e11 : hv M' 33 6 = hv M 33 6 := b5 11 (33, 6) rfl rfl
    exact k M' r b1 b2 ⟨by omega, by omega, by omega, by omega, by omega, by omega⟩ b4 (b3 271 (by decide) (by decide +kernel)) (fun a h1 h2 => b3 a (by omega) (lx_el (fun h => by have := hW a h; omega))) ⟨⟨e8, e9, e10, e11⟩, ⟨hb_vc (b3 47 (by decide) (by decide +kernel)) 1, hb_vc (b3 58 (by decide) (by decide +kernel)) 1, hb_vc (b3 69 (by decide) (by decide +kernel)) 1, hb_vc (b3 80 (by decide) (by decide +kernel)) 1⟩⟩ ⟨⟨b3 34 (by decide) (by decide +kernel), b3 35 (by decide) (by decide +kernel), b3 36 (by decide) (by decide +kernel)⟩, (fun s hs => by
      have h4 : s = 0 ∨ s = 1 ∨ s = 2 ∨ s = 3 := by omega
      rcases h4 with rfl | rfl | rfl | rfl
      · exact b3 48 (by decide) (by decide +kernel)
      · exact b3 59 (by decide) (by decide +kernel)
      · exact b3 70 (by decide) (by decide +kernel)
      · exact b3 81 (by decide) (by decide +kernel))⟩ (fun b p q => b3 b (by omega) (lx_el (fun h => by have := hW7 b h; omega))) (xLK_c e0 (fun i hi => ⟨b3 (91 + 5 * i) (by omega) (lx_el (fun h => by have := hWL _ h; omega)), b3 (92 + 5 * i) (by omega) (lx_el (fun h => by have := hWL _ h; omega))⟩))
  · intro M' b1 b2 b3 b4 b5 hk
    have e9 : hv M' 33 3 = hv M 33 3 := b5 9 (33, 3) rfl rfl
    have e10 : hv M' 33 5 = hv M 33 5 := b5 10 (33, 5) rfl rfl
    have e24 : hv M' 234 30 = hv M 234 30 := b5 24 (234, 30) rfl rfl
    have e33 : hv M' 257 0 = hv M 257 0 := b5 33 (257, 0) rfl rfl
    have e0 : hv M' 8 4 = hv M 8 4 := b5 0 (8, 4) rfl rfl
    have e12 : hv M' 44 0 = hv M 44 0 := b5 12 (44, 0) rfl rfl
    have e13 : hv M' 44 1 = hv M 44 1 := b5 13 (44, 1) rfl rfl
    have e14 : hv M' 44 3 = hv M 44 3 := b5 14 (44, 3) rfl rfl
    have e28 : hv M' 234 57 = hv M 234 57 := b5 28 (234, 57) rfl rfl
    have e8 : hv M' 33 1 = hv M 33 1 := b5 8 (33, 1) rfl rfl
    have e11 : hv M' 33 6 = hv M 33 6 := b5 11 (33, 6) rfl rfl
    exact kt M' b1 b2 ⟨by omega, by omega, by omega, by omega, by omega, by omega⟩ b4 (b3 271 (by decide) (by decide +kernel)) (fun a h1 h2 => b3 a (by omega) (lx_el (fun h => by have := hW a h; omega))) ⟨⟨e8, e9, e10, e11⟩, ⟨hb_vc (b3 47 (by decide) (by decide +kernel)) 1, hb_vc (b3 58 (by decide) (by decide +kernel)) 1, hb_vc (b3 69 (by decide) (by decide +kernel)) 1, hb_vc (b3 80 (by decide) (by decide +kernel)) 1⟩⟩ ⟨⟨b3 34 (by decide) (by decide +kernel), b3 35 (by decide) (by decide +kernel), b3 36 (by decide) (by decide +kernel)⟩, (fun s hs => by
      have h4 : s = 0 ∨ s = 1 ∨ s = 2 ∨ s = 3 := by omega
      rcases h4 with rfl | rfl | rfl | rfl
      · exact b3 48 (by decide) (by decide +kernel)
      · exact b3 59 (by decide) (by decide +kernel)
      · exact b3 70 (by decide) (by decide +kernel)
      · exact b3 81 (by decide) (by decide +kernel))⟩ (fun b p q => b3 b (by omega) (lx_el (fun h => by have := hW7 b h; omega))) (xLK_c e0 (fun i hi => ⟨b3 (91 + 5 * i) (by omega) (lx_el (fun h => by have := hWL _ h; omega)), b3 (92 + 5 * i) (by omega) (lx_el (fun h => by have := hWL _ h; omega))⟩)) (.inl hk)
  · intro M' b1 b2 b3 b4 b5 hk
    have e9 : hv M' 33 3 = hv M 33 3 := b5 9 (33, 3) rfl rfl
    have e10 : hv M' 33 5 = hv M 33 5 := b5 10 (33, 5) rfl rfl
    have e24 : hv M' 234 30 = hv M 234 30 := b5 24 (234, 30) rfl rfl
    have e33 : hv M' 257 0 = hv M 257 0 := b5 33 (257, 0) rfl rfl
    have e0 : hv M' 8 4 = hv M 8 4 := b5 0 (8, 4) rfl rfl
    have e12 : hv M' 44 0 = hv M 44 0 := b5 12 (44, 0) rfl rfl
    have e13 : hv M' 44 1 = hv M 44 1 := b5 13 (44, 1) rfl rfl
    have e14 : hv M' 44 3 = hv M 44 3 := b5 14 (44, 3) rfl rfl
    have e28 : hv M' 234 57 = hv M 234 57 := b5 28 (234, 57) rfl rfl
    have e8 : hv M' 33 1 = hv M 33 1 := b5 8 (33, 1) rfl rfl
    have e11 : hv M' 33 6 = hv M 33 6 := b5 11 (33, 6) rfl rfl
    exact kt M' b1 b2 ⟨by omega, by omega, by omega, by omega, by omega, by omega⟩ b4 (b3 271 (by decide) (by decide +kernel)) (fun a h1 h2 => b3 a (by omega) (lx_el (fun h => by have := hW a h; omega))) ⟨⟨e8, e9, e10, e11⟩, ⟨hb_vc (b3 47 (by decide) (by decide +kernel)) 1, hb_vc (b3 58 (by decide) (by decide +kernel)) 1, hb_vc (b3 69 (by decide) (by decide +kernel)) 1, hb_vc (b3 80 (by decide) (by decide +kernel)) 1⟩⟩ ⟨⟨b3 34 (by decide) (by decide +kernel), b3 35 (by decide) (by decide +kernel), b3 36 (by decide) (by decide +kernel)⟩, (fun s hs => by
      have h4 : s = 0 ∨ s = 1 ∨ s = 2 ∨ s = 3 := by omega
      rcases h4 with rfl | rfl | rfl | rfl
      · exact b3 48 (by decide) (by decide +kernel)
      · exact b3 59 (by decide) (by decide +kernel)
      · exact b3 70 (by decide) (by decide +kernel)
      · exact b3 81 (by decide) (by decide +kernel))⟩ (fun b p q => b3 b (by omega) (lx_el (fun h => by have := hW7 b h; omega))) (xLK_c e0 (fun i hi => ⟨b3 (91 + 5 * i) (by omega) (lx_el (fun h => by have := hWL _ h; omega)), b3 (92 + 5 * i) (by omega) (lx_el (fun h => by have := hWL _ h; omega))⟩)) (.inr (.inl hk))
  · intro M' b1 b2 b3 b4 b5 hk
    have e9 : hv M' 33 3 = hv M 33 3 := b5 9 (33, 3) rfl rfl
    have e10 : hv M' 33 5 = hv M 33 5 := b5 10 (33, 5) rfl rfl
    have e24 : hv M' 234 30 = hv M 234 30 := b5 24 (234, 30) rfl rfl
    have e33 : hv M' 257 0 = hv M 257 0 := b5 33 (257, 0) rfl rfl
    have e0 : hv M' 8 4 = hv M 8 4 := b5 0 (8, 4) rfl rfl
    have e12 : hv M' 44 0 = hv M 44 0 := b5 12 (44, 0) rfl rfl
    have e13 : hv M' 44 1 = hv M 44 1 := b5 13 (44, 1) rfl rfl
    have e14 : hv M' 44 3 = hv M 44 3 := b5 14 (44, 3) rfl rfl
    have e28 : hv M' 234 57 = hv M 234 57 := b5 28 (234, 57) rfl rfl
    have e8 : hv M' 33 1 = hv M 33 1 := b5 8 (33, 1) rfl rfl
    have e11 : hv M' 33 6 = hv M 33 6 := b5 11 (33, 6) rfl rfl
    exact kt M' b1 b2 ⟨by omega, by omega, by omega, by omega, by omega, by omega⟩ b4 (b3 271 (by decide) (by decide +kernel)) (fun a h1 h2 => b3 a (by omega) (lx_el (fun h => by have := hW a h; omega))) ⟨⟨e8, e9, e10, e11⟩, ⟨hb_vc (b3 47 (by decide) (by decide +kernel)) 1, hb_vc (b3 58 (by decide) (by decide +kernel)) 1, hb_vc (b3 69 (by decide) (by decide +kernel)) 1, hb_vc (b3 80 (by decide) (by decide +kernel)) 1⟩⟩ ⟨⟨b3 34 (by decide) (by decide +kernel), b3 35 (by decide) (by decide +kernel), b3 36 (by decide) (by decide +kernel)⟩, (fun s hs => by
      have h4 : s = 0 ∨ s = 1 ∨ s = 2 ∨ s = 3 := by omega
      rcases h4 with rfl | rfl | rfl | rfl
      · exact b3 48 (by decide) (by decide +kernel)
      · exact b3 59 (by decide) (by decide +kernel)
      · exact b3 70 (by decide) (by decide +kernel)
      · exact b3 81 (by decide) (by decide +kernel))⟩ (fun b p q => b3 b (by omega) (lx_el (fun h => by have := hW7 b h; omega))) (xLK_c e0 (fun i hi => ⟨b3 (91 + 5 * i) (by omega) (lx_el (fun h => by have := hWL _ h; omega)), b3 (92 + 5 * i) (by omega) (lx_el (fun h => by have := hWL _ h; omega))⟩)) (.inr (.inr (.inl hk)))
  · intro M' b1 b2 b3 b4 b5 hk
    have e9 : hv M' 33 3 = hv M 33 3 := b5 9 (33, 3) rfl rfl
    have e10 : hv M' 33 5 = hv M 33 5 := b5 10 (33, 5) rfl rfl
    have e24 : hv M' 234 30 = hv M 234 30 := b5 24 (234, 30) rfl rfl
    have e33 : hv M' 257 0 = hv M 257 0 := b5 33 (257, 0) rfl rfl
    have e0 : hv M' 8 4 = hv M 8 4 := b5 0 (8, 4) rfl rfl
    have e12 : hv M' 44 0 = hv M 44 0 := b5 12 (44, 0) rfl rfl
    have e13 : hv M' 44 1 = hv M 44 1 := b5 13 (44, 1) rfl rfl
    have e14 : hv M' 44 3 = hv M 44 3 := b5 14 (44, 3) rfl rfl
    have e28 : hv M' 234 57 = hv M 234 57 := b5 28 (234, 57) rfl rfl
    have e8 : hv M' 33 1 = hv M 33 1 := b5 8 (33, 1) rfl rfl
    have e11 : hv M' 33 6 = hv M 33 6 := b5 11 (33, 6) rfl rfl
    exact kt M' b1 b2 ⟨by omega, by omega, by omega, by omega, by omega, by omega⟩ b4 (b3 271 (by decide) (by decide +kernel)) (fun a h1 h2 => b3 a (by omega) (lx_el (fun h => by have := hW a h; omega))) ⟨⟨e8, e9, e10, e11⟩, ⟨hb_vc (b3 47 (by decide) (by decide +kernel)) 1, hb_vc (b3 58 (by decide) (by decide +kernel)) 1, hb_vc (b3 69 (by decide) (by decide +kernel)) 1, hb_vc (b3 80 (by decide) (by decide +kernel)) 1⟩⟩ ⟨⟨b3 34 (by decide) (by decide +kernel), b3 35 (by decide) (by decide +kernel), b3 36 (by decide) (by decide +kernel)⟩, (fun s hs => by
      have h4 : s = 0 ∨ s = 1 ∨ s = 2 ∨ s = 3 := by omega
      rcases h4 with rfl | rfl | rfl | rfl
      · exact b3 48 (by decide) (by decide +kernel)
      · exact b3 59 (by decide) (by decide +kernel)
      · exact b3 70 (by decide) (by decide +kernel)
      · exact b3 81 (by decide) (by decide +kernel))⟩ (fun b p q => b3 b (by omega) (lx_el (fun h => by have := hW7 b h; omega))) (xLK_c e0 (fun i hi => ⟨b3 (91 + 5 * i) (by omega) (lx_el (fun h => by have := hWL _ h; omega)), b3 (92 + 5 * i) (by omega) (lx_el (fun h => by have := hWL _ h; omega))⟩)) (.inr (.inr (.inr (.inl hk))))
  · intro M' b1 b2 b3 b4 b5 hk
    have e9 : hv M' 33 3 = hv M 33 3 := b5 9 (33, 3) rfl rfl
    have e10 : hv M' 33 5 = hv M 33 5 := b5 10 (33, 5) rfl rfl
    have e24 : hv M' 234 30 = hv M 234 30 := b5 24 (234, 30) rfl rfl
    have e33 : hv M' 257 0 = hv M 257 0 := b5 33 (257, 0) rfl rfl
    have e0 : hv M' 8 4 = hv M 8 4 := b5 0 (8, 4) rfl rfl
    have e12 : hv M' 44 0 = hv M 44 0 := b5 12 (44, 0) rfl rfl
    have e13 : hv M' 44 1 = hv M 44 1 := b5 13 (44, 1) rfl rfl
    have e14 : hv M' 44 3 = hv M 44 3 := b5 14 (44, 3) rfl rfl
    have e28 : hv M' 234 57 = hv M 234 57 := b5 28 (234, 57) rfl rfl
    have e8 : hv M' 33 1 = hv M 33 1 := b5 8 (33, 1) rfl rfl
    have e11 : hv M' 33 6 = hv M 33 6 := b5 11 (33, 6) rfl rfl
    exact kt M' b1 b2 ⟨by omega, by omega, by omega, by omega, by omega, by omega⟩ b4 (b3 271 (by decide) (by decide +kernel)) (fun a h1 h2 => b3 a (by omega) (lx_el (fun h => by have := hW a h; omega))) ⟨⟨e8, e9, e10, e11⟩, ⟨hb_vc (b3 47 (by decide) (by decide +kernel)) 1, hb_vc (b3 58 (by decide) (by decide +kernel)) 1, hb_vc (b3 69 (by decide) (by decide +kernel)) 1, hb_vc (b3 80 (by decide) (by decide +kernel)) 1⟩⟩ ⟨⟨b3 34 (by decide) (by decide +kernel), b3 35 (by decide) (by decide +kernel), b3 36 (by decide) (by decide +kernel)⟩, (fun s hs => by
      have h4 : s = 0 ∨ s = 1 ∨ s = 2 ∨ s = 3 := by omega
      rcases h4 with rfl | rfl | rfl | rfl
      · exact b3 48 (by decide) (by decide +kernel)
      · exact b3 59 (by decide) (by decide +kernel)
      · exact b3 70 (by decide) (by decide +kernel)
      · exact b3 81 (by decide) (by decide +kernel))⟩ (fun b p q => b3 b (by omega) (lx_el (fun h => by have := hW7 b h; omega))) (xLK_c e0 (fun i hi => ⟨b3 (91 + 5 * i) (by omega) (lx_el (fun h => by have := hWL _ h; omega)), b3 (92 + 5 * i) (by omega) (lx_el (fun h => by have := hWL _ h; omega))⟩)) (.inr (.inr (.inr (.inr hk))))
theorem lv_load {d z u : Nat} {M : Nat → mq_C} {Q : (Option Value ⊕ Nat) → mq_S → Prop} {x1 : Int32} {x2 : Int32} (hd : 161 ≤ d) (hz : 272 ≤ z) (hm : mz_sh mz_GG M) (hx : HX M) (hl : lw M)
    (k : ∀ (M' : Nat → mq_C) (r : Int32), mz_sh mz_GG M' → HX M' → lw M' → (∀ a, a < 8 → M' a = M a) → M' 271 = M 271 → (∀ a, 234 ≤ a → a < 271 → M' a = M a) → lcs M M' → (c6_kp M M' ∧ c6_al M M') → l6tb M M' → x47 M M' → xLK (cvw M) (cvw M') → Q (.inl (some (.int r))) (M', z, u))
    (kt : ∀ (M' : Nat → mq_C), mz_sh mz_GG M' → HX M' → lw M' → (∀ a, a < 8 → M' a = M a) → M' 271 = M 271 → (∀ a, 234 ≤ a → a < 271 → M' a = M a) → lcs M M' → (c6_kp M M' ∧ c6_al M M') → l6tb M M' → x47 M M' → xLK (cvw M) (cvw M') → (M' z).1 = 10 ∨ (M' z).1 = 11 ∨ (M' z).1 = 12 ∨ (M' z).1 = 13 ∨ (M' z).1 = 14 → Q (.inr z) (M', z + 1, u + 6)) : mq_R mq_PP d 9 0 [some (.ref 8), some (.int x1), some (.int x2), none] [] (M, z, u) Q := by
  rw [← mq_e9]
  refine fz_R (by decide) hm hz (fun b hb => ?_) ?_
  · simp at hb
    subst hb
    decide
  rw [mq_e9]
  refine lu_load (by omega) hz hm hx hl ?_ ?_
  · exact fun M' r b1 b2 b3 b4 b5 b6 b7 b8 b9 bL hT => k M' r b1 b2 b3 b4 b5 b6 b7 b8 hT b9 bL
  · exact fun M' b1 b2 b3 b4 b5 b6 b7 b8 b9 bL hk hT => kt M' b1 b2 b3 b4 b5 b6 b7 b8 hT b9 bL hk
theorem ly_fault {X : (Nat → mq_C) → Prop} (hq : mz_Ct mz_GG mq_PP X mz_q108 1) {d z u : Nat} {M : Nat → mq_C} {Q : (Option Value ⊕ Nat) → mq_S → Prop}  (hd : 1 ≤ d) (hz : 272 ≤ z) (hm : mz_sh mz_GG M) (hx : X M)
    (w0 : ∀ (M' : Nat → mq_C) (r : Int32), mz_sh mz_GG M' → X M' → mz_fr mz_q108 M M' → (∀ a, a < 8 → M' a = M a) → hb_same mz_GG mz_q108 M M' → Q (.inl (some (.int r))) (M', z, u)) : mq_R mq_PP d 10 0 [some (.ref 8)] [] (M, z, u) Q := by
  refine hb_use mz_GG mq_PP X (q := mz_q108) (vs := [.ref 8]) hq (by decide +kernel) hd (show hb_pk mz_GG [(1, 8)] _ from ⟨⟨List.mem_singleton.mpr rfl, rfl⟩, trivial⟩) hm hx hz ?_ ?_
  · exact hb_nil
  · intro r S hpo
    obtain ⟨b1, b2, b3, b4, b5, p, hp, res, hf, hre⟩ := hpo
    rcases List.mem_cons.mp hp with rfl | hp
    · obtain ⟨x, rfl, hr, hz1, hu1⟩ := mz_re_0 mz_GG hre rfl
      obtain ⟨M', z', u'⟩ := S
      cases hz1
      cases hu1
      exact w0 M' x b1 b2 b3 b4 b5 
    cases hp
theorem lu_fault {d z u : Nat} {M : Nat → mq_C} {Q : (Option Value ⊕ Nat) → mq_S → Prop}  (hd : 9 ≤ d) (hz : 272 ≤ z) (hm : mz_sh mz_GG M) (hx : HX M) (hl : lw M)
    (k : ∀ (M' : Nat → mq_C) (r : Int32), mz_sh mz_GG M' → HX M' → lw M' → (∀ a, a < 8 → M' a = M a) → M' 271 = M 271 → (∀ a, 234 ≤ a → a < 271 → M' a = M a) → lcs M M' → (c6_kp M M' ∧ c6_al M M') → x47 M M' → xLK (cvw M) (cvw M') → Q (.inl (some (.int r))) (M', z, u)) : mq_R mq_PP d 10 0 [some (.ref 8)] [] (M, z, u) Q := by
  obtain ⟨l0, l1, l2, l3, l4, l5⟩ := hl
  have hW : ∀ b ∈ mz_q108.2.2.2.2.2, b < 234 := by decide +kernel
  have hW7 : ∀ b ∈ mz_q108.2.2.2.2.2, b < 47 ∨ 90 < b := by decide +kernel
  have hWL : ∀ b ∈ mz_q108.2.2.2.2.2, b < 91 ∨ 110 < b ∨ b % 5 = 3 ∨ b % 5 = 4 ∨ b % 5 = 0 := by decide +kernel
  refine ly_fault (ha_all (mz_q108, 1) (List.mem_of_getElem? (show mz_Cs[108]? = _ from rfl))) (by omega) hz hm hx ?_
  · intro M' r b1 b2 b3 b4 b5
    have e9 : hv M' 33 3 = hv M 33 3 := b5 9 (33, 3) rfl rfl
    have e10 : hv M' 33 5 = hv M 33 5 := b5 10 (33, 5) rfl rfl
    have e24 : hv M' 234 30 = hv M 234 30 := b5 24 (234, 30) rfl rfl
    have e33 : hv M' 257 0 = hv M 257 0 := b5 33 (257, 0) rfl rfl
    have e0 : hv M' 8 4 = hv M 8 4 := b5 0 (8, 4) rfl rfl
    have e12 : hv M' 44 0 = hv M 44 0 := b5 12 (44, 0) rfl rfl
    have e13 : hv M' 44 1 = hv M 44 1 := b5 13 (44, 1) rfl rfl
    have e14 : hv M' 44 3 = hv M 44 3 := b5 14 (44, 3) rfl rfl
    have e28 : hv M' 234 57 = hv M 234 57 := b5 28 (234, 57) rfl rfl
    have e8 : hv M' 33 1 = hv M 33 1 := b5 8 (33, 1) rfl rfl
    have e11 : hv M' 33 6 = hv M 33 6 := b5 11 (33, 6) rfl rfl
    exact k M' r b1 b2 ⟨by omega, by omega, by omega, by omega, by omega, by omega⟩ b4 (b3 271 (by decide) (by decide +kernel)) (fun a h1 h2 => b3 a (by omega) (lx_el (fun h => by have := hW a h; omega))) ⟨⟨e8, e9, e10, e11⟩, ⟨hb_vc (b3 47 (by decide) (by decide +kernel)) 1, hb_vc (b3 58 (by decide) (by decide +kernel)) 1, hb_vc (b3 69 (by decide) (by decide +kernel)) 1, hb_vc (b3 80 (by decide) (by decide +kernel)) 1⟩⟩ ⟨⟨b3 34 (by decide) (by decide +kernel), b3 35 (by decide) (by decide +kernel), b3 36 (by decide) (by decide +kernel)⟩, (fun s hs => by
      have h4 : s = 0 ∨ s = 1 ∨ s = 2 ∨ s = 3 := by omega
      rcases h4 with rfl | rfl | rfl | rfl
      · exact b3 48 (by decide) (by decide +kernel)
      · exact b3 59 (by decide) (by decide +kernel)
      · exact b3 70 (by decide) (by decide +kernel)
      · exact b3 81 (by decide) (by decide +kernel))⟩ (fun b p q => b3 b (by omega) (lx_el (fun h => by have := hW7 b h; omega))) (xLK_c e0 (fun i hi => ⟨b3 (91 + 5 * i) (by omega) (lx_el (fun h => by have := hWL _ h; omega)), b3 (92 + 5 * i) (by omega) (lx_el (fun h => by have := hWL _ h; omega))⟩))
theorem lv_fault {d z u : Nat} {M : Nat → mq_C} {Q : (Option Value ⊕ Nat) → mq_S → Prop}  (hd : 9 ≤ d) (hz : 272 ≤ z) (hm : mz_sh mz_GG M) (hx : HX M) (hl : lw M)
    (k : ∀ (M' : Nat → mq_C) (r : Int32), mz_sh mz_GG M' → HX M' → lw M' → (∀ a, a < 8 → M' a = M a) → M' 271 = M 271 → (∀ a, 234 ≤ a → a < 271 → M' a = M a) → lcs M M' → (c6_kp M M' ∧ c6_al M M') → l6tb M M' → x47 M M' → xLK (cvw M) (cvw M') → Q (.inl (some (.int r))) (M', z, u)) : mq_R mq_PP d 10 0 [some (.ref 8)] [] (M, z, u) Q := by
  rw [← mq_e10]
  refine fz_R (by decide) hm hz (fun b hb => ?_) ?_
  · simp at hb
    subst hb
    decide
  rw [mq_e10]
  refine lu_fault (by omega) hz hm hx hl ?_
  · exact fun M' r b1 b2 b3 b4 b5 b6 b7 b8 b9 bL hT => k M' r b1 b2 b3 b4 b5 b6 b7 b8 hT b9 bL
theorem ly_culprit {X : (Nat → mq_C) → Prop} (hq : mz_Ct mz_GG mq_PP X mz_q109 1) {d z u : Nat} {M : Nat → mq_C} {Q : (Option Value ⊕ Nat) → mq_S → Prop}  (hd : 1 ≤ d) (hz : 272 ≤ z) (hm : mz_sh mz_GG M) (hx : X M)
    (w0 : ∀ (M' : Nat → mq_C) (r : Int32), mz_sh mz_GG M' → X M' → mz_fr mz_q109 M M' → (∀ a, a < 8 → M' a = M a) → hb_same mz_GG mz_q109 M M' → Q (.inl (some (.int r))) (M', z, u)) : mq_R mq_PP d 11 0 [some (.ref 8)] [] (M, z, u) Q := by
  refine hb_use mz_GG mq_PP X (q := mz_q109) (vs := [.ref 8]) hq (by decide +kernel) hd (show hb_pk mz_GG [(1, 8)] _ from ⟨⟨List.mem_singleton.mpr rfl, rfl⟩, trivial⟩) hm hx hz ?_ ?_
  · exact hb_nil
  · intro r S hpo
    obtain ⟨b1, b2, b3, b4, b5, p, hp, res, hf, hre⟩ := hpo
    rcases List.mem_cons.mp hp with rfl | hp
    · obtain ⟨x, rfl, hr, hz1, hu1⟩ := mz_re_0 mz_GG hre rfl
      obtain ⟨M', z', u'⟩ := S
      cases hz1
      cases hu1
      exact w0 M' x b1 b2 b3 b4 b5 
    cases hp
theorem lu_culprit {d z u : Nat} {M : Nat → mq_C} {Q : (Option Value ⊕ Nat) → mq_S → Prop}  (hd : 9 ≤ d) (hz : 272 ≤ z) (hm : mz_sh mz_GG M) (hx : HX M) (hl : lw M)
    (k : ∀ (M' : Nat → mq_C) (r : Int32), mz_sh mz_GG M' → HX M' → lw M' → (∀ a, a < 8 → M' a = M a) → M' 271 = M 271 → (∀ a, 234 ≤ a → a < 271 → M' a = M a) → lcs M M' → (c6_kp M M' ∧ c6_al M M') → x47 M M' → xLK (cvw M) (cvw M') → Q (.inl (some (.int r))) (M', z, u)) : mq_R mq_PP d 11 0 [some (.ref 8)] [] (M, z, u) Q := by
  obtain ⟨l0, l1, l2, l3, l4, l5⟩ := hl
  have hW : ∀ b ∈ mz_q109.2.2.2.2.2, b < 234 := by decide +kernel
  have hW7 : ∀ b ∈ mz_q109.2.2.2.2.2, b < 47 ∨ 90 < b := by decide +kernel
  have hWL : ∀ b ∈ mz_q109.2.2.2.2.2, b < 91 ∨ 110 < b ∨ b % 5 = 3 ∨ b % 5 = 4 ∨ b % 5 = 0 := by decide +kernel
  refine ly_culprit (ha_all (mz_q109, 1) (List.mem_of_getElem? (show mz_Cs[109]? = _ from rfl))) (by omega) hz hm hx ?_
  · intro M' r b1 b2 b3 b4 b5
    have e9 : hv M' 33 3 = hv M 33 3 := b5 9 (33, 3) rfl rfl
    have e10 : hv M' 33 5 = hv M 33 5 := b5 10 (33, 5) rfl rfl
    have e24 : hv M' 234 30 = hv M 234 30 := b5 24 (234, 30) rfl rfl
    have e33 : hv M' 257 0 = hv M 257 0 := b5 33 (257, 0) rfl rfl
    have e0 : hv M' 8 4 = hv M 8 4 := b5 0 (8, 4) rfl rfl
    have e12 : hv M' 44 0 = hv M 44 0 := b5 12 (44, 0) rfl rfl
    have e13 : hv M' 44 1 = hv M 44 1 := b5 13 (44, 1) rfl rfl
    have e14 : hv M' 44 3 = hv M 44 3 := b5 14 (44, 3) rfl rfl
    have e28 : hv M' 234 57 = hv M 234 57 := b5 28 (234, 57) rfl rfl
    have e8 : hv M' 33 1 = hv M 33 1 := b5 8 (33, 1) rfl rfl
    have e11 : hv M' 33 6 = hv M 33 6 := b5 11 (33, 6) rfl rfl
    exact k M' r b1 b2 ⟨by omega, by omega, by omega, by omega, by omega, by omega⟩ b4 (b3 271 (by decide) (by decide +kernel)) (fun a h1 h2 => b3 a (by omega) (lx_el (fun h => by have := hW a h; omega))) ⟨⟨e8, e9, e10, e11⟩, ⟨hb_vc (b3 47 (by decide) (by decide +kernel)) 1, hb_vc (b3 58 (by decide) (by decide +kernel)) 1, hb_vc (b3 69 (by decide) (by decide +kernel)) 1, hb_vc (b3 80 (by decide) (by decide +kernel)) 1⟩⟩ ⟨⟨b3 34 (by decide) (by decide +kernel), b3 35 (by decide) (by decide +kernel), b3 36 (by decide) (by decide +kernel)⟩, (fun s hs => by
      have h4 : s = 0 ∨ s = 1 ∨ s = 2 ∨ s = 3 := by omega
      rcases h4 with rfl | rfl | rfl | rfl
      · exact b3 48 (by decide) (by decide +kernel)
      · exact b3 59 (by decide) (by decide +kernel)
      · exact b3 70 (by decide) (by decide +kernel)
      · exact b3 81 (by decide) (by decide +kernel))⟩ (fun b p q => b3 b (by omega) (lx_el (fun h => by have := hW7 b h; omega))) (xLK_c e0 (fun i hi => ⟨b3 (91 + 5 * i) (by omega) (lx_el (fun h => by have := hWL _ h; omega)), b3 (92 + 5 * i) (by omega) (lx_el (fun h => by have := hWL _ h; omega))⟩))
theorem lv_culprit {d z u : Nat} {M : Nat → mq_C} {Q : (Option Value ⊕ Nat) → mq_S → Prop}  (hd : 9 ≤ d) (hz : 272 ≤ z) (hm : mz_sh mz_GG M) (hx : HX M) (hl : lw M)
    (k : ∀ (M' : Nat → mq_C) (r : Int32), mz_sh mz_GG M' → HX M' → lw M' → (∀ a, a < 8 → M' a = M a) → M' 271 = M 271 → (∀ a, 234 ≤ a → a < 271 → M' a = M a) → lcs M M' → (c6_kp M M' ∧ c6_al M M') → l6tb M M' → x47 M M' → xLK (cvw M) (cvw M') → Q (.inl (some (.int r))) (M', z, u)) : mq_R mq_PP d 11 0 [some (.ref 8)] [] (M, z, u) Q := by
  rw [← mq_e11]
  refine fz_R (by decide) hm hz (fun b hb => ?_) ?_
  · simp at hb
    subst hb
    decide
  rw [mq_e11]
  refine lu_culprit (by omega) hz hm hx hl ?_
  · exact fun M' r b1 b2 b3 b4 b5 b6 b7 b8 b9 bL hT => k M' r b1 b2 b3 b4 b5 b6 b7 b8 hT b9 bL
theorem ly_type {X : (Nat → mq_C) → Prop} (hq : mz_Ct mz_GG mq_PP X mz_q110 1) {d z u : Nat} {M : Nat → mq_C} {Q : (Option Value ⊕ Nat) → mq_S → Prop} {x1 : Int32} {x2 : Int32} (hd : 1 ≤ d) (hz : 272 ≤ z) (hm : mz_sh mz_GG M) (hx : X M)
    (w0 : ∀ (M' : Nat → mq_C) (r : Int32), mz_sh mz_GG M' → X M' → mz_fr mz_q110 M M' → (∀ a, a < 8 → M' a = M a) → hb_same mz_GG mz_q110 M M' → Q (.inl (some (.int r))) (M', z, u)) : mq_R mq_PP d 12 0 [some (.ref 8), some (.int x1), some (.int x2)] [] (M, z, u) Q := by
  refine hb_use mz_GG mq_PP X (q := mz_q110) (vs := [.ref 8, .int x1, .int x2]) hq (by decide +kernel) hd (show hb_pk mz_GG [(1, 8), (0, 0), (0, 0)] _ from ⟨⟨List.mem_singleton.mpr rfl, rfl⟩, trivial, trivial, trivial⟩) hm hx hz ?_ ?_
  · exact hb_nil
  · intro r S hpo
    obtain ⟨b1, b2, b3, b4, b5, p, hp, res, hf, hre⟩ := hpo
    rcases List.mem_cons.mp hp with rfl | hp
    · obtain ⟨x, rfl, hr, hz1, hu1⟩ := mz_re_0 mz_GG hre rfl
      obtain ⟨M', z', u'⟩ := S
      cases hz1
      cases hu1
      exact w0 M' x b1 b2 b3 b4 b5 
    cases hp
theorem lu_type {d z u : Nat} {M : Nat → mq_C} {Q : (Option Value ⊕ Nat) → mq_S → Prop} {x1 : Int32} {x2 : Int32} (hd : 9 ≤ d) (hz : 272 ≤ z) (hm : mz_sh mz_GG M) (hx : HX M) (hl : lw M)
    (k : ∀ (M' : Nat → mq_C) (r : Int32), mz_sh mz_GG M' → HX M' → lw M' → (∀ a, a < 8 → M' a = M a) → M' 271 = M 271 → (∀ a, 234 ≤ a → a < 271 → M' a = M a) → lcs M M' → (c6_kp M M' ∧ c6_al M M') → x47 M M' → xLK (cvw M) (cvw M') → Q (.inl (some (.int r))) (M', z, u)) : mq_R mq_PP d 12 0 [some (.ref 8), some (.int x1), some (.int x2)] [] (M, z, u) Q := by
  obtain ⟨l0, l1, l2, l3, l4, l5⟩ := hl
  have hW : ∀ b ∈ mz_q110.2.2.2.2.2, b < 234 := by decide +kernel
  have hW7 : ∀ b ∈ mz_q110.2.2.2.2.2, b < 47 ∨ 90 < b := by decide +kernel
  have hWL : ∀ b ∈ mz_q110.2.2.2.2.2, b < 91 ∨ 110 < b ∨ b % 5 = 3 ∨ b % 5 = 4 ∨ b % 5 = 0 := by decide +kernel
  refine ly_type (ha_all (mz_q110, 1) (List.mem_of_getElem? (show mz_Cs[110]? = _ from rfl))) (by omega) hz hm hx ?_
  · intro M' r b1 b2 b3 b4 b5
    have e9 : hv M' 33 3 = hv M 33 3 := b5 9 (33, 3) rfl rfl
    have e10 : hv M' 33 5 = hv M 33 5 := b5 10 (33, 5) rfl rfl
    have e24 : hv M' 234 30 = hv M 234 30 := b5 24 (234, 30) rfl rfl
    have e33 : hv M' 257 0 = hv M 257 0 := b5 33 (257, 0) rfl rfl
    have e0 : hv M' 8 4 = hv M 8 4 := b5 0 (8, 4) rfl rfl
    have e12 : hv M' 44 0 = hv M 44 0 := b5 12 (44, 0) rfl rfl
    have e13 : hv M' 44 1 = hv M 44 1 := b5 13 (44, 1) rfl rfl
    have e14 : hv M' 44 3 = hv M 44 3 := b5 14 (44, 3) rfl rfl
    have e28 : hv M' 234 57 = hv M 234 57 := b5 28 (234, 57) rfl rfl
    have e8 : hv M' 33 1 = hv M 33 1 := b5 8 (33, 1) rfl rfl
    have e11 : hv M' 33 6 = hv M 33 6 := b5 11 (33, 6) rfl rfl
    exact k M' r b1 b2 ⟨by omega, by omega, by omega, by omega, by omega, by omega⟩ b4 (b3 271 (by decide) (by decide +kernel)) (fun a h1 h2 => b3 a (by omega) (lx_el (fun h => by have := hW a h; omega))) ⟨⟨e8, e9, e10, e11⟩, ⟨hb_vc (b3 47 (by decide) (by decide +kernel)) 1, hb_vc (b3 58 (by decide) (by decide +kernel)) 1, hb_vc (b3 69 (by decide) (by decide +kernel)) 1, hb_vc (b3 80 (by decide) (by decide +kernel)) 1⟩⟩ ⟨⟨b3 34 (by decide) (by decide +kernel), b3 35 (by decide) (by decide +kernel), b3 36 (by decide) (by decide +kernel)⟩, (fun s hs => by
      have h4 : s = 0 ∨ s = 1 ∨ s = 2 ∨ s = 3 := by omega
      rcases h4 with rfl | rfl | rfl | rfl
      · exact b3 48 (by decide) (by decide +kernel)
      · exact b3 59 (by decide) (by decide +kernel)
      · exact b3 70 (by decide) (by decide +kernel)
      · exact b3 81 (by decide) (by decide +kernel))⟩ (fun b p q => b3 b (by omega) (lx_el (fun h => by have := hW7 b h; omega))) (xLK_c e0 (fun i hi => ⟨b3 (91 + 5 * i) (by omega) (lx_el (fun h => by have := hWL _ h; omega)), b3 (92 + 5 * i) (by omega) (lx_el (fun h => by have := hWL _ h; omega))⟩))
theorem lv_type {d z u : Nat} {M : Nat → mq_C} {Q : (Option Value ⊕ Nat) → mq_S → Prop} {x1 : Int32} {x2 : Int32} (hd : 9 ≤ d) (hz : 272 ≤ z) (hm : mz_sh mz_GG M) (hx : HX M) (hl : lw M)
    (k : ∀ (M' : Nat → mq_C) (r : Int32), mz_sh mz_GG M' → HX M' → lw M' → (∀ a, a < 8 → M' a = M a) → M' 271 = M 271 → (∀ a, 234 ≤ a → a < 271 → M' a = M a) → lcs M M' → (c6_kp M M' ∧ c6_al M M') → l6tb M M' → x47 M M' → xLK (cvw M) (cvw M') → Q (.inl (some (.int r))) (M', z, u)) : mq_R mq_PP d 12 0 [some (.ref 8), some (.int x1), some (.int x2)] [] (M, z, u) Q := by
  rw [← mq_e12]
  refine fz_R (by decide) hm hz (fun b hb => ?_) ?_
  · simp at hb
    subst hb
    decide
  rw [mq_e12]
  refine lu_type (by omega) hz hm hx hl ?_
  · exact fun M' r b1 b2 b3 b4 b5 b6 b7 b8 b9 bL hT => k M' r b1 b2 b3 b4 b5 b6 b7 b8 hT b9 bL
theorem ly_all {X : (Nat → mq_C) → Prop} (hq : mz_Ct mz_GG mq_PP X mz_q119 11) {d z u : Nat} {M : Nat → mq_C} {Q : (Option Value ⊕ Nat) → mq_S → Prop} {x1 : Int32} {x2 : Int32} {x3 : Int32} (hd : 11 ≤ d) (hz : 272 ≤ z) (hm : mz_sh mz_GG M) (hx : X M)
    (w0 : ∀ (M' : Nat → mq_C) (r : Int32), mz_sh mz_GG M' → X M' → mz_fr mz_q119 M M' → (∀ a, a < 8 → M' a = M a) → hb_same mz_GG mz_q119 M M' → Q (.inl (some (.int r))) (M', z, u)) : mq_R mq_PP d 13 0 [some (.ref 8), some (.int x1), some (.int x2), some (.int x3)] [] (M, z, u) Q := by
  refine hb_use mz_GG mq_PP X (q := mz_q119) (vs := [.ref 8, .int x1, .int x2, .int x3]) hq (by decide +kernel) hd (show hb_pk mz_GG [(1, 8), (0, 0), (0, 0), (0, 0)] _ from ⟨⟨List.mem_singleton.mpr rfl, rfl⟩, trivial, trivial, trivial, trivial⟩) hm hx hz ?_ ?_
  · exact hb_nil
  · intro r S hpo
    obtain ⟨b1, b2, b3, b4, b5, p, hp, res, hf, hre⟩ := hpo
    rcases List.mem_cons.mp hp with rfl | hp
    · obtain ⟨x, rfl, hr, hz1, hu1⟩ := mz_re_0 mz_GG hre rfl
      obtain ⟨M', z', u'⟩ := S
      cases hz1
      cases hu1
      exact w0 M' x b1 b2 b3 b4 b5 
    cases hp
theorem lu_all {d z u : Nat} {M : Nat → mq_C} {Q : (Option Value ⊕ Nat) → mq_S → Prop} {x1 : Int32} {x2 : Int32} {x3 : Int32} (hd : 11 ≤ d) (hz : 272 ≤ z) (hm : mz_sh mz_GG M) (hx : HX M) (hl : lw M)
    (k : ∀ (M' : Nat → mq_C) (r : Int32), mz_sh mz_GG M' → HX M' → lw M' → (∀ a, a < 8 → M' a = M a) → M' 271 = M 271 → (∀ a, 234 ≤ a → a < 271 → M' a = M a) → lcs M M' → (c6_kp M M' ∧ c6_al M M') → x47 M M' → xLK (cvw M) (cvw M') → Q (.inl (some (.int r))) (M', z, u)) : mq_R mq_PP d 13 0 [some (.ref 8), some (.int x1), some (.int x2), some (.int x3)] [] (M, z, u) Q := by
  obtain ⟨l0, l1, l2, l3, l4, l5⟩ := hl
  have hW : ∀ b ∈ mz_q119.2.2.2.2.2, b < 234 := by decide +kernel
  have hW7 : ∀ b ∈ mz_q119.2.2.2.2.2, b < 47 ∨ 90 < b := by decide +kernel
  have hWL : ∀ b ∈ mz_q119.2.2.2.2.2, b < 91 ∨ 110 < b ∨ b % 5 = 3 ∨ b % 5 = 4 ∨ b % 5 = 0 := by decide +kernel
  refine ly_all (ha_all (mz_q119, 11) (List.mem_of_getElem? (show mz_Cs[119]? = _ from rfl))) (by omega) hz hm hx ?_
  · intro M' r b1 b2 b3 b4 b5
    have e9 : hv M' 33 3 = hv M 33 3 := b5 9 (33, 3) rfl rfl
    have e10 : hv M' 33 5 = hv M 33 5 := b5 10 (33, 5) rfl rfl
    have e24 : hv M' 234 30 = hv M 234 30 := b5 24 (234, 30) rfl rfl
    have e33 : hv M' 257 0 = hv M 257 0 := b5 33 (257, 0) rfl rfl
    have e0 : hv M' 8 4 = hv M 8 4 := b5 0 (8, 4) rfl rfl
    have e12 : hv M' 44 0 = hv M 44 0 := b5 12 (44, 0) rfl rfl
    have e13 : hv M' 44 1 = hv M 44 1 := b5 13 (44, 1) rfl rfl
    have e14 : hv M' 44 3 = hv M 44 3 := b5 14 (44, 3) rfl rfl
    have e28 : hv M' 234 57 = hv M 234 57 := b5 28 (234, 57) rfl rfl
    have e8 : hv M' 33 1 = hv M 33 1 := b5 8 (33, 1) rfl rfl
    have e11 : hv M' 33 6 = hv M 33 6 := b5 11 (33, 6) rfl rfl
    exact k M' r b1 b2 ⟨by omega, by omega, by omega, by omega, by omega, by omega⟩ b4 (b3 271 (by decide) (by decide +kernel)) (fun a h1 h2 => b3 a (by omega) (lx_el (fun h => by have := hW a h; omega))) ⟨⟨e8, e9, e10, e11⟩, ⟨hb_vc (b3 47 (by decide) (by decide +kernel)) 1, hb_vc (b3 58 (by decide) (by decide +kernel)) 1, hb_vc (b3 69 (by decide) (by decide +kernel)) 1, hb_vc (b3 80 (by decide) (by decide +kernel)) 1⟩⟩ ⟨⟨b3 34 (by decide) (by decide +kernel), b3 35 (by decide) (by decide +kernel), b3 36 (by decide) (by decide +kernel)⟩, (fun s hs => by
      have h4 : s = 0 ∨ s = 1 ∨ s = 2 ∨ s = 3 := by omega
      rcases h4 with rfl | rfl | rfl | rfl
      · exact b3 48 (by decide) (by decide +kernel)
      · exact b3 59 (by decide) (by decide +kernel)
      · exact b3 70 (by decide) (by decide +kernel)
      · exact b3 81 (by decide) (by decide +kernel))⟩ (fun b p q => b3 b (by omega) (lx_el (fun h => by have := hW7 b h; omega))) (xLK_c e0 (fun i hi => ⟨b3 (91 + 5 * i) (by omega) (lx_el (fun h => by have := hWL _ h; omega)), b3 (92 + 5 * i) (by omega) (lx_el (fun h => by have := hWL _ h; omega))⟩))
theorem lv_all {d z u : Nat} {M : Nat → mq_C} {Q : (Option Value ⊕ Nat) → mq_S → Prop} {x1 : Int32} {x2 : Int32} {x3 : Int32} (hd : 13 ≤ d) (hz : 272 ≤ z) (hm : mz_sh mz_GG M) (hx : HX M) (hl : lw M) (hE7 : xEA M)
    (k : ∀ (M' : Nat → mq_C) (r : Int32), mz_sh mz_GG M' → HX M' → lw M' → (∀ a, a < 8 → M' a = M a) → M' 271 = M 271 → (∀ a, 234 ≤ a → a < 271 → M' a = M a) → lcs M M' → (c6_kp M M' ∧ c6_al M M') → l6tb M M' → r.toInt = xcal M x1.toInt x2 x3.toInt → x47 M M' → xLK (cvw M) (cvw M') → Q (.inl (some (.int r))) (M', z, u)) : mq_R mq_PP d 13 0 [some (.ref 8), some (.int x1), some (.int x2), some (.int x3)] [] (M, z, u) Q := by
  refine mq_R_mono (lx_and (Q := fun r' S' => ∃ (M' : Nat → mq_C) (r : Int32), r' = .inl (some (.int r)) ∧ S' = (M', z, u) ∧ mz_sh mz_GG M' ∧ HX M' ∧ lw M' ∧ (∀ a, a < 8 → M' a = M a) ∧ M' 271 = M 271 ∧ (∀ a, 234 ≤ a → a < 271 → M' a = M a) ∧ lcs M M' ∧ (c6_kp M M' ∧ c6_al M M') ∧ x47 M M' ∧ xLK (cvw M) (cvw M') ∧ l6tb M M') (Q' := fun r' S' => ∃ (M' : Nat → mq_C) (r : Int32), r' = .inl (some (.int r)) ∧ S' = (M', z, u) ∧ r.toInt = xcal M x1.toInt x2 x3.toInt) ?_ ?_) ?_
  · rw [← mq_e13]
    refine fz_R (by decide) hm hz (fun b hb => ?_) ?_
    · simp at hb
      subst hb
      decide
    rw [mq_e13]
    refine lu_all (by omega) hz hm hx hl ?_
    exact fun M' r b1 b2 b3 b4 b5 b6 b7 b8 b9 bL hT => ⟨M', r, rfl, rfl, b1, b2, b3, b4, b5, b6, b7, b8, b9, bL, hT⟩
  · obtain ⟨d, rfl⟩ : ∃ e, d = e + 13 := ⟨d - 13, by omega⟩
    exact xn_all hm hE7 (fun M' r h => ⟨M', r, rfl, rfl, h⟩)
  · rintro r' S' ⟨⟨M', r, rfl, rfl, b1, b2, b3, b4, b5, b6, b7, b8, b9, bL, hT⟩, M2, r2, e1, e2, h⟩
    cases e1
    cases e2
    exact k M' r b1 b2 b3 b4 b5 b6 b7 b8 hT h b9 bL
theorem ly_content {X : (Nat → mq_C) → Prop} (hq : mz_Ct mz_GG mq_PP X mz_q112 8) {d z u : Nat} {M : Nat → mq_C} {Q : (Option Value ⊕ Nat) → mq_S → Prop} {x1 : Int32} {x2 : Int32} (hd : 8 ≤ d) (hz : 272 ≤ z) (hm : mz_sh mz_GG M) (hx : X M)
    (w0 : ∀ (M' : Nat → mq_C) (r : Int32), mz_sh mz_GG M' → X M' → mz_fr mz_q112 M M' → (∀ a, a < 8 → M' a = M a) → hb_same mz_GG mz_q112 M M' → Q (.inl (some (.int r))) (M', z, u)) : mq_R mq_PP d 14 0 [some (.ref 8), some (.int x1), some (.int x2)] [] (M, z, u) Q := by
  refine hb_use mz_GG mq_PP X (q := mz_q112) (vs := [.ref 8, .int x1, .int x2]) hq (by decide +kernel) hd (show hb_pk mz_GG [(1, 8), (0, 0), (0, 0)] _ from ⟨⟨List.mem_singleton.mpr rfl, rfl⟩, trivial, trivial, trivial⟩) hm hx hz ?_ ?_
  · exact hb_nil
  · intro r S hpo
    obtain ⟨b1, b2, b3, b4, b5, p, hp, res, hf, hre⟩ := hpo
    rcases List.mem_cons.mp hp with rfl | hp
    · obtain ⟨x, rfl, hr, hz1, hu1⟩ := mz_re_0 mz_GG hre rfl
      obtain ⟨M', z', u'⟩ := S
      cases hz1
      cases hu1
      exact w0 M' x b1 b2 b3 b4 b5 
    cases hp
theorem lu_content {d z u : Nat} {M : Nat → mq_C} {Q : (Option Value ⊕ Nat) → mq_S → Prop} {x1 : Int32} {x2 : Int32} (hd : 9 ≤ d) (hz : 272 ≤ z) (hm : mz_sh mz_GG M) (hx : HX M) (hl : lw M)
    (k : ∀ (M' : Nat → mq_C) (r : Int32), mz_sh mz_GG M' → HX M' → lw M' → (∀ a, a < 8 → M' a = M a) → M' 271 = M 271 → (∀ a, 234 ≤ a → a < 271 → M' a = M a) → lcs M M' → (c6_kp M M' ∧ c6_al M M') → x47 M M' → xLK (cvw M) (cvw M') → Q (.inl (some (.int r))) (M', z, u)) : mq_R mq_PP d 14 0 [some (.ref 8), some (.int x1), some (.int x2)] [] (M, z, u) Q := by
  obtain ⟨l0, l1, l2, l3, l4, l5⟩ := hl
  have hW : ∀ b ∈ mz_q112.2.2.2.2.2, b < 234 := by decide +kernel
  have hW7 : ∀ b ∈ mz_q112.2.2.2.2.2, b < 47 ∨ 90 < b := by decide +kernel
  have hWL : ∀ b ∈ mz_q112.2.2.2.2.2, b < 91 ∨ 110 < b ∨ b % 5 = 3 ∨ b % 5 = 4 ∨ b % 5 = 0 := by decide +kernel
  refine ly_content (ha_all (mz_q112, 8) (List.mem_of_getElem? (show mz_Cs[112]? = _ from rfl))) (by omega) hz hm hx ?_
  · intro M' r b1 b2 b3 b4 b5
    have e9 : hv M' 33 3 = hv M 33 3 := b5 9 (33, 3) rfl rfl
    have e10 : hv M' 33 5 = hv M 33 5 := b5 10 (33, 5) rfl rfl
    have e24 : hv M' 234 30 = hv M 234 30 := b5 24 (234, 30) rfl rfl
    have e33 : hv M' 257 0 = hv M 257 0 := b5 33 (257, 0) rfl rfl
    have e0 : hv M' 8 4 = hv M 8 4 := b5 0 (8, 4) rfl rfl
    have e12 : hv M' 44 0 = hv M 44 0 := b5 12 (44, 0) rfl rfl
    have e13 : hv M' 44 1 = hv M 44 1 := b5 13 (44, 1) rfl rfl
    have e14 : hv M' 44 3 = hv M 44 3 := b5 14 (44, 3) rfl rfl
    have e28 : hv M' 234 57 = hv M 234 57 := b5 28 (234, 57) rfl rfl
    have e8 : hv M' 33 1 = hv M 33 1 := b5 8 (33, 1) rfl rfl
    have e11 : hv M' 33 6 = hv M 33 6 := b5 11 (33, 6) rfl rfl
    exact k M' r b1 b2 ⟨by omega, by omega, by omega, by omega, by omega, by omega⟩ b4 (b3 271 (by decide) (by decide +kernel)) (fun a h1 h2 => b3 a (by omega) (lx_el (fun h => by have := hW a h; omega))) ⟨⟨e8, e9, e10, e11⟩, ⟨hb_vc (b3 47 (by decide) (by decide +kernel)) 1, hb_vc (b3 58 (by decide) (by decide +kernel)) 1, hb_vc (b3 69 (by decide) (by decide +kernel)) 1, hb_vc (b3 80 (by decide) (by decide +kernel)) 1⟩⟩ ⟨⟨b3 34 (by decide) (by decide +kernel), b3 35 (by decide) (by decide +kernel), b3 36 (by decide) (by decide +kernel)⟩, (fun s hs => by
      have h4 : s = 0 ∨ s = 1 ∨ s = 2 ∨ s = 3 := by omega
      rcases h4 with rfl | rfl | rfl | rfl
      · exact b3 48 (by decide) (by decide +kernel)
      · exact b3 59 (by decide) (by decide +kernel)
      · exact b3 70 (by decide) (by decide +kernel)
      · exact b3 81 (by decide) (by decide +kernel))⟩ (fun b p q => b3 b (by omega) (lx_el (fun h => by have := hW7 b h; omega))) (xLK_c e0 (fun i hi => ⟨b3 (91 + 5 * i) (by omega) (lx_el (fun h => by have := hWL _ h; omega)), b3 (92 + 5 * i) (by omega) (lx_el (fun h => by have := hWL _ h; omega))⟩))
