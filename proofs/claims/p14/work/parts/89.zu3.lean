/-! More of them (printed by b_law2.py). -/
theorem lv_mappend {d z u : Nat} {M : Nat → mq_C} {Q : (Option Value ⊕ Nat) → mq_S → Prop} {x1 : Int32} {x2 : Int32} (hd : 9 ≤ d) (hz : 272 ≤ z) (hm : mz_sh mz_GG M) (hx : HX M) (hl : lw M)
    (k : ∀ (M' : Nat → mq_C) (r : Int32), mz_sh mz_GG M' → HX M' → lw M' → (∀ a, a < 8 → M' a = M a) → M' 271 = M 271 → (∀ a, a < 234 → M' a = M a) → lms M M' → (M' 249 = M 249 ∧ M' 250 = M 250 ∧ M' 235 = M 235) → xSa (mvw M) (mvw M') x1.toInt x2.toInt r.toInt → Q (.inl (some (.int r))) (M', z, u)) : mq_R mq_PP d 141 0 [some (.ref 234), some (.int x1), some (.int x2)] [] (M, z, u) Q := by
  refine mq_R_mono (lx_and (Q := fun r' S' => ∃ (M' : Nat → mq_C) (r : Int32), r' = .inl (some (.int r)) ∧ S' = (M', z, u) ∧ mz_sh mz_GG M' ∧ HX M' ∧ lw M' ∧ (∀ a, a < 8 → M' a = M a) ∧ M' 271 = M 271 ∧ (∀ a, a < 234 → M' a = M a) ∧ lms M M' ∧ (M' 249 = M 249 ∧ M' 250 = M 250 ∧ M' 235 = M 235)) (Q' := fun r' S' => ∃ (M' : Nat → mq_C) (r : Int32), r' = .inl (some (.int r)) ∧ S' = (M', z, u) ∧ xSa (mvw M) (mvw M') x1.toInt x2.toInt r.toInt) ?_ ?_) ?_
  · refine lu_mappend (by omega) hz hm hx hl ?_
    exact fun M' r b1 b2 b3 b4 b5 b6 b7 b8 => ⟨M', r, rfl, rfl, b1, b2, b3, b4, b5, b6, b7, b8⟩
  · obtain ⟨d, rfl⟩ : ∃ e, d = e + 1 := ⟨d - 1, by omega⟩
    exact ym_app hm (fun M' r h => ⟨M', r, rfl, rfl, h⟩)
  · rintro r' S' ⟨⟨M', r, rfl, rfl, b1, b2, b3, b4, b5, b6, b7, b8⟩, M2, r2, e1, e2, h⟩
    cases e1
    cases e2
    exact k M' r b1 b2 b3 b4 b5 b6 b7 b8 h
theorem ly_mclose {X : (Nat → mq_C) → Prop} (hq : mz_Ct mz_GG mq_PP X mz_q173 2) {d z u : Nat} {M : Nat → mq_C} {Q : (Option Value ⊕ Nat) → mq_S → Prop} {x1 : Int32} (hd : 2 ≤ d) (hz : 272 ≤ z) (hm : mz_sh mz_GG M) (hx : X M)
    (w0 : ∀ (M' : Nat → mq_C) (r : Int32), mz_sh mz_GG M' → X M' → mz_fr mz_q173 M M' → (∀ a, a < 8 → M' a = M a) → hb_same mz_GG mz_q173 M M' → r.toInt = 0 → 0 ≤ (-1) - x1.toInt → hv M' 260 0 = hv M 260 0 → hv M' 260 1 = hv M 260 1 → hv M' 260 2 = hv M 260 2 → hv M' 260 3 = hv M 260 3 → Q (.inl (some (.int r))) (M', z, u))
    (w1 : ∀ (M' : Nat → mq_C) (r : Int32), mz_sh mz_GG M' → X M' → mz_fr mz_q173 M M' → (∀ a, a < 8 → M' a = M a) → hb_same mz_GG mz_q173 M M' → r.toInt = 0 → 0 ≤ x1.toInt - hv M 234 30 → hv M' 260 0 = hv M 260 0 → hv M' 260 1 = hv M 260 1 → hv M' 260 2 = hv M 260 2 → hv M' 260 3 = hv M 260 3 → Q (.inl (some (.int r))) (M', z, u))
    (w2 : ∀ (M' : Nat → mq_C) (r : Int32), mz_sh mz_GG M' → X M' → mz_fr mz_q173 M M' → (∀ a, a < 8 → M' a = M a) → hb_same mz_GG mz_q173 M M' → r.toInt = 1 → x1.toInt = 0 → 0 ≤ (-1) + hv M 234 30 → hv M 260 0 = 0 → hv M' 260 0 = 1 → hv M' 260 1 = hv M 260 1 → hv M' 260 2 = hv M 260 2 → hv M' 260 3 = hv M 260 3 → Q (.inl (some (.int r))) (M', z, u))
    (w3 : ∀ (M' : Nat → mq_C) (r : Int32), mz_sh mz_GG M' → X M' → mz_fr mz_q173 M M' → (∀ a, a < 8 → M' a = M a) → hb_same mz_GG mz_q173 M M' → r.toInt = 0 → x1.toInt = 0 → 0 ≤ (-1) + hv M 234 30 → hv M 260 0 = 1 → hv M' 260 0 = hv M 260 0 → hv M' 260 1 = hv M 260 1 → hv M' 260 2 = hv M 260 2 → hv M' 260 3 = hv M 260 3 → Q (.inl (some (.int r))) (M', z, u))
    (w4 : ∀ (M' : Nat → mq_C) (r : Int32), mz_sh mz_GG M' → X M' → mz_fr mz_q173 M M' → (∀ a, a < 8 → M' a = M a) → hb_same mz_GG mz_q173 M M' → r.toInt = 1 → x1.toInt = 1 → 0 ≤ (-2) + hv M 234 30 → hv M 260 1 = 0 → hv M' 260 1 = 1 → hv M' 260 0 = hv M 260 0 → hv M' 260 2 = hv M 260 2 → hv M' 260 3 = hv M 260 3 → Q (.inl (some (.int r))) (M', z, u))
    (w5 : ∀ (M' : Nat → mq_C) (r : Int32), mz_sh mz_GG M' → X M' → mz_fr mz_q173 M M' → (∀ a, a < 8 → M' a = M a) → hb_same mz_GG mz_q173 M M' → r.toInt = 0 → x1.toInt = 1 → 0 ≤ (-2) + hv M 234 30 → hv M 260 1 = 1 → hv M' 260 0 = hv M 260 0 → hv M' 260 1 = hv M 260 1 → hv M' 260 2 = hv M 260 2 → hv M' 260 3 = hv M 260 3 → Q (.inl (some (.int r))) (M', z, u))
    (w6 : ∀ (M' : Nat → mq_C) (r : Int32), mz_sh mz_GG M' → X M' → mz_fr mz_q173 M M' → (∀ a, a < 8 → M' a = M a) → hb_same mz_GG mz_q173 M M' → r.toInt = 1 → x1.toInt = 2 → 0 ≤ (-3) + hv M 234 30 → hv M 260 2 = 0 → hv M' 260 2 = 1 → hv M' 260 0 = hv M 260 0 → hv M' 260 1 = hv M 260 1 → hv M' 260 3 = hv M 260 3 → Q (.inl (some (.int r))) (M', z, u))
    (w7 : ∀ (M' : Nat → mq_C) (r : Int32), mz_sh mz_GG M' → X M' → mz_fr mz_q173 M M' → (∀ a, a < 8 → M' a = M a) → hb_same mz_GG mz_q173 M M' → r.toInt = 0 → x1.toInt = 2 → 0 ≤ (-3) + hv M 234 30 → hv M 260 2 = 1 → hv M' 260 0 = hv M 260 0 → hv M' 260 1 = hv M 260 1 → hv M' 260 2 = hv M 260 2 → hv M' 260 3 = hv M 260 3 → Q (.inl (some (.int r))) (M', z, u))
    (w8 : ∀ (M' : Nat → mq_C) (r : Int32), mz_sh mz_GG M' → X M' → mz_fr mz_q173 M M' → (∀ a, a < 8 → M' a = M a) → hb_same mz_GG mz_q173 M M' → r.toInt = 1 → x1.toInt = 3 → 0 ≤ (-4) + hv M 234 30 → hv M 260 3 = 0 → hv M' 260 3 = 1 → hv M' 260 0 = hv M 260 0 → hv M' 260 1 = hv M 260 1 → hv M' 260 2 = hv M 260 2 → Q (.inl (some (.int r))) (M', z, u))
    (w9 : ∀ (M' : Nat → mq_C) (r : Int32), mz_sh mz_GG M' → X M' → mz_fr mz_q173 M M' → (∀ a, a < 8 → M' a = M a) → hb_same mz_GG mz_q173 M M' → r.toInt = 0 → x1.toInt = 3 → 0 ≤ (-4) + hv M 234 30 → hv M 260 3 = 1 → hv M' 260 0 = hv M 260 0 → hv M' 260 1 = hv M 260 1 → hv M' 260 2 = hv M 260 2 → hv M' 260 3 = hv M 260 3 → Q (.inl (some (.int r))) (M', z, u)) : mq_R mq_PP d 142 0 [some (.ref 234), some (.int x1)] [] (M, z, u) Q := by
  refine hb_use mz_GG mq_PP X (q := mz_q173) (vs := [.ref 234, .int x1]) hq (by decide +kernel) hd (show hb_pk mz_GG [(1, 234), (0, 0)] _ from ⟨⟨List.mem_singleton.mpr rfl, rfl⟩, trivial, trivial⟩) hm hx hz ?_ ?_
  · exact hb_nil
  · intro r S hpo
    obtain ⟨b1, b2, b3, b4, b5, p, hp, res, hf, hre⟩ := hpo
    rcases List.mem_cons.mp hp with rfl | hp
    · obtain ⟨x, rfl, hr, hz1, hu1⟩ := mz_re_0 mz_GG hre rfl
      obtain ⟨M', z', u'⟩ := S
      cases hz1
      cases hu1
      obtain ⟨f0, hf⟩ := hb_unc hf
      have f0 : 0 ≤ 0 + (1 * res + 0) := f0
      rw [← hr] at f0
      obtain ⟨f1, hf⟩ := hb_unc hf
      have f1 : 0 ≤ 0 + ((-1) * res + 0) := f1
      rw [← hr] at f1
      obtain ⟨f2, hf⟩ := hb_unc hf
      have f2 : 0 ≤ -1 + ((-1) * x1.toInt + 0) := f2
      obtain ⟨f3, hf⟩ := hb_unc hf
      have f3 : 0 ≤ 0 + ((-1) * hv M 260 0 + (1 * hv M' 260 0 + 0)) := f3
      obtain ⟨f4, hf⟩ := hb_unc hf
      have f4 : 0 ≤ 0 + (1 * hv M 260 0 + ((-1) * hv M' 260 0 + 0)) := f4
      obtain ⟨f5, hf⟩ := hb_unc hf
      have f5 : 0 ≤ 0 + ((-1) * hv M 260 1 + (1 * hv M' 260 1 + 0)) := f5
      obtain ⟨f6, hf⟩ := hb_unc hf
      have f6 : 0 ≤ 0 + (1 * hv M 260 1 + ((-1) * hv M' 260 1 + 0)) := f6
      obtain ⟨f7, hf⟩ := hb_unc hf
      have f7 : 0 ≤ 0 + ((-1) * hv M 260 2 + (1 * hv M' 260 2 + 0)) := f7
      obtain ⟨f8, hf⟩ := hb_unc hf
      have f8 : 0 ≤ 0 + (1 * hv M 260 2 + ((-1) * hv M' 260 2 + 0)) := f8
      obtain ⟨f9, hf⟩ := hb_unc hf
      have f9 : 0 ≤ 0 + ((-1) * hv M 260 3 + (1 * hv M' 260 3 + 0)) := f9
      obtain ⟨f10, hf⟩ := hb_unc hf
      have f10 : 0 ≤ 0 + (1 * hv M 260 3 + ((-1) * hv M' 260 3 + 0)) := f10
      exact w0 M' x b1 b2 b3 b4 b5 (by have h1 := f0; have h2 := f1; omega) (by have h1 := f2; omega) (by have h1 := f3; have h2 := f4; omega) (by have h1 := f5; have h2 := f6; omega) (by have h1 := f7; have h2 := f8; omega) (by have h1 := f9; have h2 := f10; omega)
    rcases List.mem_cons.mp hp with rfl | hp
    · obtain ⟨x, rfl, hr, hz1, hu1⟩ := mz_re_0 mz_GG hre rfl
      obtain ⟨M', z', u'⟩ := S
      cases hz1
      cases hu1
      obtain ⟨f0, hf⟩ := hb_unc hf
      have f0 : 0 ≤ 0 + (1 * res + 0) := f0
      rw [← hr] at f0
      obtain ⟨f1, hf⟩ := hb_unc hf
      have f1 : 0 ≤ 0 + ((-1) * res + 0) := f1
      rw [← hr] at f1
      obtain ⟨f2, hf⟩ := hb_unc hf
      have f2 : 0 ≤ 0 + (1 * x1.toInt + ((-1) * hv M 234 30 + 0)) := f2
      obtain ⟨f3, hf⟩ := hb_unc hf
      have f3 : 0 ≤ 0 + ((-1) * hv M 260 0 + (1 * hv M' 260 0 + 0)) := f3
      obtain ⟨f4, hf⟩ := hb_unc hf
      have f4 : 0 ≤ 0 + (1 * hv M 260 0 + ((-1) * hv M' 260 0 + 0)) := f4
      obtain ⟨f5, hf⟩ := hb_unc hf
      have f5 : 0 ≤ 0 + ((-1) * hv M 260 1 + (1 * hv M' 260 1 + 0)) := f5
      obtain ⟨f6, hf⟩ := hb_unc hf
      have f6 : 0 ≤ 0 + (1 * hv M 260 1 + ((-1) * hv M' 260 1 + 0)) := f6
      obtain ⟨f7, hf⟩ := hb_unc hf
      have f7 : 0 ≤ 0 + ((-1) * hv M 260 2 + (1 * hv M' 260 2 + 0)) := f7
      obtain ⟨f8, hf⟩ := hb_unc hf
      have f8 : 0 ≤ 0 + (1 * hv M 260 2 + ((-1) * hv M' 260 2 + 0)) := f8
      obtain ⟨f9, hf⟩ := hb_unc hf
      have f9 : 0 ≤ 0 + ((-1) * hv M 260 3 + (1 * hv M' 260 3 + 0)) := f9
      obtain ⟨f10, hf⟩ := hb_unc hf
      have f10 : 0 ≤ 0 + (1 * hv M 260 3 + ((-1) * hv M' 260 3 + 0)) := f10
      exact w1 M' x b1 b2 b3 b4 b5 (by have h1 := f0; have h2 := f1; omega) (by have h1 := f2; omega) (by have h1 := f3; have h2 := f4; omega) (by have h1 := f5; have h2 := f6; omega) (by have h1 := f7; have h2 := f8; omega) (by have h1 := f9; have h2 := f10; omega)
    rcases List.mem_cons.mp hp with rfl | hp
    · obtain ⟨x, rfl, hr, hz1, hu1⟩ := mz_re_0 mz_GG hre rfl
      obtain ⟨M', z', u'⟩ := S
      cases hz1
      cases hu1
      obtain ⟨f0, hf⟩ := hb_unc hf
      have f0 : 0 ≤ -1 + (1 * res + 0) := f0
      rw [← hr] at f0
      obtain ⟨f1, hf⟩ := hb_unc hf
      have f1 : 0 ≤ 1 + ((-1) * res + 0) := f1
      rw [← hr] at f1
      obtain ⟨f2, hf⟩ := hb_unc hf
      have f2 : 0 ≤ 0 + (1 * x1.toInt + 0) := f2
      obtain ⟨f3, hf⟩ := hb_unc hf
      have f3 : 0 ≤ 0 + ((-1) * x1.toInt + 0) := f3
      obtain ⟨f4, hf⟩ := hb_unc hf
      have f4 : 0 ≤ -1 + (1 * hv M 234 30 + 0) := f4
      obtain ⟨f5, hf⟩ := hb_unc hf
      have f5 : 0 ≤ 0 + (1 * hv M 260 0 + 0) := f5
      obtain ⟨f6, hf⟩ := hb_unc hf
      have f6 : 0 ≤ 0 + ((-1) * hv M 260 0 + 0) := f6
      obtain ⟨f7, hf⟩ := hb_unc hf
      have f7 : 0 ≤ -1 + (1 * hv M' 260 0 + 0) := f7
      obtain ⟨f8, hf⟩ := hb_unc hf
      have f8 : 0 ≤ 1 + ((-1) * hv M' 260 0 + 0) := f8
      obtain ⟨f9, hf⟩ := hb_unc hf
      have f9 : 0 ≤ 0 + ((-1) * hv M 260 1 + (1 * hv M' 260 1 + 0)) := f9
      obtain ⟨f10, hf⟩ := hb_unc hf
      have f10 : 0 ≤ 0 + (1 * hv M 260 1 + ((-1) * hv M' 260 1 + 0)) := f10
      obtain ⟨f11, hf⟩ := hb_unc hf
      have f11 : 0 ≤ 0 + ((-1) * hv M 260 2 + (1 * hv M' 260 2 + 0)) := f11
      obtain ⟨f12, hf⟩ := hb_unc hf
      have f12 : 0 ≤ 0 + (1 * hv M 260 2 + ((-1) * hv M' 260 2 + 0)) := f12
      obtain ⟨f13, hf⟩ := hb_unc hf
      have f13 : 0 ≤ 0 + ((-1) * hv M 260 3 + (1 * hv M' 260 3 + 0)) := f13
      obtain ⟨f14, hf⟩ := hb_unc hf
      have f14 : 0 ≤ 0 + (1 * hv M 260 3 + ((-1) * hv M' 260 3 + 0)) := f14
      exact w2 M' x b1 b2 b3 b4 b5 (by have h1 := f0; have h2 := f1; omega) (by have h1 := f2; have h2 := f3; omega) (by have h1 := f4; omega) (by have h1 := f5; have h2 := f6; omega) (by have h1 := f7; have h2 := f8; omega) (by have h1 := f9; have h2 := f10; omega) (by have h1 := f11; have h2 := f12; omega) (by have h1 := f13; have h2 := f14; omega)
    rcases List.mem_cons.mp hp with rfl | hp
    · obtain ⟨x, rfl, hr, hz1, hu1⟩ := mz_re_0 mz_GG hre rfl
      obtain ⟨M', z', u'⟩ := S
      cases hz1
      cases hu1
      obtain ⟨f0, hf⟩ := hb_unc hf
      have f0 : 0 ≤ 0 + (1 * res + 0) := f0
      rw [← hr] at f0
      obtain ⟨f1, hf⟩ := hb_unc hf
      have f1 : 0 ≤ 0 + ((-1) * res + 0) := f1
      rw [← hr] at f1
      obtain ⟨f2, hf⟩ := hb_unc hf
      have f2 : 0 ≤ 0 + (1 * x1.toInt + 0) := f2
      obtain ⟨f3, hf⟩ := hb_unc hf
      have f3 : 0 ≤ 0 + ((-1) * x1.toInt + 0) := f3
      obtain ⟨f4, hf⟩ := hb_unc hf
      have f4 : 0 ≤ -1 + (1 * hv M 234 30 + 0) := f4
      obtain ⟨f5, hf⟩ := hb_unc hf
      have f5 : 0 ≤ -1 + (1 * hv M 260 0 + 0) := f5
      obtain ⟨f6, hf⟩ := hb_unc hf
      have f6 : 0 ≤ 1 + ((-1) * hv M 260 0 + 0) := f6
      obtain ⟨f7, hf⟩ := hb_unc hf
      have f7 : 0 ≤ 0 + ((-1) * hv M 260 0 + (1 * hv M' 260 0 + 0)) := f7
      obtain ⟨f8, hf⟩ := hb_unc hf
      have f8 : 0 ≤ 0 + (1 * hv M 260 0 + ((-1) * hv M' 260 0 + 0)) := f8
      obtain ⟨f9, hf⟩ := hb_unc hf
      have f9 : 0 ≤ 0 + ((-1) * hv M 260 1 + (1 * hv M' 260 1 + 0)) := f9
      obtain ⟨f10, hf⟩ := hb_unc hf
      have f10 : 0 ≤ 0 + (1 * hv M 260 1 + ((-1) * hv M' 260 1 + 0)) := f10
      obtain ⟨f11, hf⟩ := hb_unc hf
      have f11 : 0 ≤ 0 + ((-1) * hv M 260 2 + (1 * hv M' 260 2 + 0)) := f11
      obtain ⟨f12, hf⟩ := hb_unc hf
      have f12 : 0 ≤ 0 + (1 * hv M 260 2 + ((-1) * hv M' 260 2 + 0)) := f12
      obtain ⟨f13, hf⟩ := hb_unc hf
      have f13 : 0 ≤ 0 + ((-1) * hv M 260 3 + (1 * hv M' 260 3 + 0)) := f13
      obtain ⟨f14, hf⟩ := hb_unc hf
      have f14 : 0 ≤ 0 + (1 * hv M 260 3 + ((-1) * hv M' 260 3 + 0)) := f14
      exact w3 M' x b1 b2 b3 b4 b5 (by have h1 := f0; have h2 := f1; omega) (by have h1 := f2; have h2 := f3; omega) (by have h1 := f4; omega) (by have h1 := f5; have h2 := f6; omega) (by have h1 := f7; have h2 := f8; omega) (by have h1 := f9; have h2 := f10; omega) (by have h1 := f11; have h2 := f12; omega) (by have h1 := f13; have h2 := f14; omega)
    rcases List.mem_cons.mp hp with rfl | hp
    · obtain ⟨x, rfl, hr, hz1, hu1⟩ := mz_re_0 mz_GG hre rfl
      obtain ⟨M', z', u'⟩ := S
      cases hz1
      cases hu1
      obtain ⟨f0, hf⟩ := hb_unc hf
      have f0 : 0 ≤ -1 + (1 * res + 0) := f0
      rw [← hr] at f0
      obtain ⟨f1, hf⟩ := hb_unc hf
      have f1 : 0 ≤ 1 + ((-1) * res + 0) := f1
      rw [← hr] at f1
      obtain ⟨f2, hf⟩ := hb_unc hf
      have f2 : 0 ≤ -1 + (1 * x1.toInt + 0) := f2
      obtain ⟨f3, hf⟩ := hb_unc hf
      have f3 : 0 ≤ 1 + ((-1) * x1.toInt + 0) := f3
      obtain ⟨f4, hf⟩ := hb_unc hf
      have f4 : 0 ≤ -2 + (1 * hv M 234 30 + 0) := f4
      obtain ⟨f5, hf⟩ := hb_unc hf
      have f5 : 0 ≤ 0 + (1 * hv M 260 1 + 0) := f5
      obtain ⟨f6, hf⟩ := hb_unc hf
      have f6 : 0 ≤ 0 + ((-1) * hv M 260 1 + 0) := f6
      obtain ⟨f7, hf⟩ := hb_unc hf
      have f7 : 0 ≤ -1 + (1 * hv M' 260 1 + 0) := f7
      obtain ⟨f8, hf⟩ := hb_unc hf
      have f8 : 0 ≤ 1 + ((-1) * hv M' 260 1 + 0) := f8
      obtain ⟨f9, hf⟩ := hb_unc hf
      have f9 : 0 ≤ 0 + ((-1) * hv M 260 0 + (1 * hv M' 260 0 + 0)) := f9
      obtain ⟨f10, hf⟩ := hb_unc hf
      have f10 : 0 ≤ 0 + (1 * hv M 260 0 + ((-1) * hv M' 260 0 + 0)) := f10
      obtain ⟨f11, hf⟩ := hb_unc hf
      have f11 : 0 ≤ 0 + ((-1) * hv M 260 2 + (1 * hv M' 260 2 + 0)) := f11
      obtain ⟨f12, hf⟩ := hb_unc hf
      have f12 : 0 ≤ 0 + (1 * hv M 260 2 + ((-1) * hv M' 260 2 + 0)) := f12
      obtain ⟨f13, hf⟩ := hb_unc hf
      have f13 : 0 ≤ 0 + ((-1) * hv M 260 3 + (1 * hv M' 260 3 + 0)) := f13
      obtain ⟨f14, hf⟩ := hb_unc hf
      have f14 : 0 ≤ 0 + (1 * hv M 260 3 + ((-1) * hv M' 260 3 + 0)) := f14
      exact w4 M' x b1 b2 b3 b4 b5 (by have h1 := f0; have h2 := f1; omega) (by have h1 := f2; have h2 := f3; omega) (by have h1 := f4; omega) (by have h1 := f5; have h2 := f6; omega) (by have h1 := f7; have h2 := f8; omega) (by have h1 := f9; have h2 := f10; omega) (by have h1 := f11; have h2 := f12; omega) (by have h1 := f13; have h2 := f14; omega)
    rcases List.mem_cons.mp hp with rfl | hp
    · obtain ⟨x, rfl, hr, hz1, hu1⟩ := mz_re_0 mz_GG hre rfl
      obtain ⟨M', z', u'⟩ := S
      cases hz1
      cases hu1
      obtain ⟨f0, hf⟩ := hb_unc hf
      have f0 : 0 ≤ 0 + (1 * res + 0) := f0
      rw [← hr] at f0
      obtain ⟨f1, hf⟩ := hb_unc hf
      have f1 : 0 ≤ 0 + ((-1) * res + 0) := f1
      rw [← hr] at f1
      obtain ⟨f2, hf⟩ := hb_unc hf
      have f2 : 0 ≤ -1 + (1 * x1.toInt + 0) := f2
      obtain ⟨f3, hf⟩ := hb_unc hf
      have f3 : 0 ≤ 1 + ((-1) * x1.toInt + 0) := f3
      obtain ⟨f4, hf⟩ := hb_unc hf
      have f4 : 0 ≤ -2 + (1 * hv M 234 30 + 0) := f4
      obtain ⟨f5, hf⟩ := hb_unc hf
      have f5 : 0 ≤ -1 + (1 * hv M 260 1 + 0) := f5
      obtain ⟨f6, hf⟩ := hb_unc hf
      have f6 : 0 ≤ 1 + ((-1) * hv M 260 1 + 0) := f6
      obtain ⟨f7, hf⟩ := hb_unc hf
      have f7 : 0 ≤ 0 + ((-1) * hv M 260 0 + (1 * hv M' 260 0 + 0)) := f7
      obtain ⟨f8, hf⟩ := hb_unc hf
      have f8 : 0 ≤ 0 + (1 * hv M 260 0 + ((-1) * hv M' 260 0 + 0)) := f8
      obtain ⟨f9, hf⟩ := hb_unc hf
      have f9 : 0 ≤ 0 + ((-1) * hv M 260 1 + (1 * hv M' 260 1 + 0)) := f9
      obtain ⟨f10, hf⟩ := hb_unc hf
      have f10 : 0 ≤ 0 + (1 * hv M 260 1 + ((-1) * hv M' 260 1 + 0)) := f10
      obtain ⟨f11, hf⟩ := hb_unc hf
      have f11 : 0 ≤ 0 + ((-1) * hv M 260 2 + (1 * hv M' 260 2 + 0)) := f11
      obtain ⟨f12, hf⟩ := hb_unc hf
      have f12 : 0 ≤ 0 + (1 * hv M 260 2 + ((-1) * hv M' 260 2 + 0)) := f12
      obtain ⟨f13, hf⟩ := hb_unc hf
      have f13 : 0 ≤ 0 + ((-1) * hv M 260 3 + (1 * hv M' 260 3 + 0)) := f13
      obtain ⟨f14, hf⟩ := hb_unc hf
      have f14 : 0 ≤ 0 + (1 * hv M 260 3 + ((-1) * hv M' 260 3 + 0)) := f14
      exact w5 M' x b1 b2 b3 b4 b5 (by have h1 := f0; have h2 := f1; omega) (by have h1 := f2; have h2 := f3; omega) (by have h1 := f4; omega) (by have h1 := f5; have h2 := f6; omega) (by have h1 := f7; have h2 := f8; omega) (by have h1 := f9; have h2 := f10; omega) (by have h1 := f11; have h2 := f12; omega) (by have h1 := f13; have h2 := f14; omega)
    rcases List.mem_cons.mp hp with rfl | hp
    · obtain ⟨x, rfl, hr, hz1, hu1⟩ := mz_re_0 mz_GG hre rfl
      obtain ⟨M', z', u'⟩ := S
      cases hz1
      cases hu1
      obtain ⟨f0, hf⟩ := hb_unc hf
      have f0 : 0 ≤ -1 + (1 * res + 0) := f0
      rw [← hr] at f0
      obtain ⟨f1, hf⟩ := hb_unc hf
      have f1 : 0 ≤ 1 + ((-1) * res + 0) := f1
      rw [← hr] at f1
      obtain ⟨f2, hf⟩ := hb_unc hf
      have f2 : 0 ≤ -2 + (1 * x1.toInt + 0) := f2
      obtain ⟨f3, hf⟩ := hb_unc hf
      have f3 : 0 ≤ 2 + ((-1) * x1.toInt + 0) := f3
      obtain ⟨f4, hf⟩ := hb_unc hf
      have f4 : 0 ≤ -3 + (1 * hv M 234 30 + 0) := f4
      obtain ⟨f5, hf⟩ := hb_unc hf
      have f5 : 0 ≤ 0 + (1 * hv M 260 2 + 0) := f5
      obtain ⟨f6, hf⟩ := hb_unc hf
      have f6 : 0 ≤ 0 + ((-1) * hv M 260 2 + 0) := f6
      obtain ⟨f7, hf⟩ := hb_unc hf
      have f7 : 0 ≤ -1 + (1 * hv M' 260 2 + 0) := f7
      obtain ⟨f8, hf⟩ := hb_unc hf
      have f8 : 0 ≤ 1 + ((-1) * hv M' 260 2 + 0) := f8
      obtain ⟨f9, hf⟩ := hb_unc hf
      have f9 : 0 ≤ 0 + ((-1) * hv M 260 0 + (1 * hv M' 260 0 + 0)) := f9
      obtain ⟨f10, hf⟩ := hb_unc hf
      have f10 : 0 ≤ 0 + (1 * hv M 260 0 + ((-1) * hv M' 260 0 + 0)) := f10
      obtain ⟨f11, hf⟩ := hb_unc hf
      have f11 : 0 ≤ 0 + ((-1) * hv M 260 1 + (1 * hv M' 260 1 + 0)) := f11
      obtain ⟨f12, hf⟩ := hb_unc hf
      have f12 : 0 ≤ 0 + (1 * hv M 260 1 + ((-1) * hv M' 260 1 + 0)) := f12
      obtain ⟨f13, hf⟩ := hb_unc hf
      have f13 : 0 ≤ 0 + ((-1) * hv M 260 3 + (1 * hv M' 260 3 + 0)) := f13
      obtain ⟨f14, hf⟩ := hb_unc hf
      have f14 : 0 ≤ 0 + (1 * hv M 260 3 + ((-1) * hv M' 260 3 + 0)) := f14
      exact w6 M' x b1 b2 b3 b4 b5 (by have h1 := f0; have h2 := f1; omega) (by have h1 := f2; have h2 := f3; omega) (by have h1 := f4; omega) (by have h1 := f5; have h2 := f6; omega) (by have h1 := f7; have h2 := f8; omega) (by have h1 := f9; have h2 := f10; omega) (by have h1 := f11; have h2 := f12; omega) (by have h1 := f13; have h2 := f14; omega)
    rcases List.mem_cons.mp hp with rfl | hp
    · obtain ⟨x, rfl, hr, hz1, hu1⟩ := mz_re_0 mz_GG hre rfl
      obtain ⟨M', z', u'⟩ := S
      cases hz1
      cases hu1
      obtain ⟨f0, hf⟩ := hb_unc hf
      have f0 : 0 ≤ 0 + (1 * res + 0) := f0
      rw [← hr] at f0
      obtain ⟨f1, hf⟩ := hb_unc hf
      have f1 : 0 ≤ 0 + ((-1) * res + 0) := f1
      rw [← hr] at f1
      obtain ⟨f2, hf⟩ := hb_unc hf
      have f2 : 0 ≤ -2 + (1 * x1.toInt + 0) := f2
      obtain ⟨f3, hf⟩ := hb_unc hf
      have f3 : 0 ≤ 2 + ((-1) * x1.toInt + 0) := f3
      obtain ⟨f4, hf⟩ := hb_unc hf
      have f4 : 0 ≤ -3 + (1 * hv M 234 30 + 0) := f4
      obtain ⟨f5, hf⟩ := hb_unc hf
      have f5 : 0 ≤ -1 + (1 * hv M 260 2 + 0) := f5
      obtain ⟨f6, hf⟩ := hb_unc hf
      have f6 : 0 ≤ 1 + ((-1) * hv M 260 2 + 0) := f6
      obtain ⟨f7, hf⟩ := hb_unc hf
      have f7 : 0 ≤ 0 + ((-1) * hv M 260 0 + (1 * hv M' 260 0 + 0)) := f7
      obtain ⟨f8, hf⟩ := hb_unc hf
      have f8 : 0 ≤ 0 + (1 * hv M 260 0 + ((-1) * hv M' 260 0 + 0)) := f8
      obtain ⟨f9, hf⟩ := hb_unc hf
      have f9 : 0 ≤ 0 + ((-1) * hv M 260 1 + (1 * hv M' 260 1 + 0)) := f9
      obtain ⟨f10, hf⟩ := hb_unc hf
      have f10 : 0 ≤ 0 + (1 * hv M 260 1 + ((-1) * hv M' 260 1 + 0)) := f10
      obtain ⟨f11, hf⟩ := hb_unc hf
      have f11 : 0 ≤ 0 + ((-1) * hv M 260 2 + (1 * hv M' 260 2 + 0)) := f11
      obtain ⟨f12, hf⟩ := hb_unc hf
      have f12 : 0 ≤ 0 + (1 * hv M 260 2 + ((-1) * hv M' 260 2 + 0)) := f12
      obtain ⟨f13, hf⟩ := hb_unc hf
      have f13 : 0 ≤ 0 + ((-1) * hv M 260 3 + (1 * hv M' 260 3 + 0)) := f13
      obtain ⟨f14, hf⟩ := hb_unc hf
      have f14 : 0 ≤ 0 + (1 * hv M 260 3 + ((-1) * hv M' 260 3 + 0)) := f14
      exact w7 M' x b1 b2 b3 b4 b5 (by have h1 := f0; have h2 := f1; omega) (by have h1 := f2; have h2 := f3; omega) (by have h1 := f4; omega) (by have h1 := f5; have h2 := f6; omega) (by have h1 := f7; have h2 := f8; omega) (by have h1 := f9; have h2 := f10; omega) (by have h1 := f11; have h2 := f12; omega) (by have h1 := f13; have h2 := f14; omega)
    rcases List.mem_cons.mp hp with rfl | hp
    · obtain ⟨x, rfl, hr, hz1, hu1⟩ := mz_re_0 mz_GG hre rfl
      obtain ⟨M', z', u'⟩ := S
      cases hz1
      cases hu1
      obtain ⟨f0, hf⟩ := hb_unc hf
      have f0 : 0 ≤ -1 + (1 * res + 0) := f0
      rw [← hr] at f0
      obtain ⟨f1, hf⟩ := hb_unc hf
      have f1 : 0 ≤ 1 + ((-1) * res + 0) := f1
      rw [← hr] at f1
      obtain ⟨f2, hf⟩ := hb_unc hf
      have f2 : 0 ≤ -3 + (1 * x1.toInt + 0) := f2
      obtain ⟨f3, hf⟩ := hb_unc hf
      have f3 : 0 ≤ 3 + ((-1) * x1.toInt + 0) := f3
      obtain ⟨f4, hf⟩ := hb_unc hf
      have f4 : 0 ≤ -4 + (1 * hv M 234 30 + 0) := f4
      obtain ⟨f5, hf⟩ := hb_unc hf
      have f5 : 0 ≤ 0 + (1 * hv M 260 3 + 0) := f5
      obtain ⟨f6, hf⟩ := hb_unc hf
      have f6 : 0 ≤ 0 + ((-1) * hv M 260 3 + 0) := f6
      obtain ⟨f7, hf⟩ := hb_unc hf
      have f7 : 0 ≤ -1 + (1 * hv M' 260 3 + 0) := f7
      obtain ⟨f8, hf⟩ := hb_unc hf
      have f8 : 0 ≤ 1 + ((-1) * hv M' 260 3 + 0) := f8
      obtain ⟨f9, hf⟩ := hb_unc hf
      have f9 : 0 ≤ 0 + ((-1) * hv M 260 0 + (1 * hv M' 260 0 + 0)) := f9
      obtain ⟨f10, hf⟩ := hb_unc hf
      have f10 : 0 ≤ 0 + (1 * hv M 260 0 + ((-1) * hv M' 260 0 + 0)) := f10
      obtain ⟨f11, hf⟩ := hb_unc hf
      have f11 : 0 ≤ 0 + ((-1) * hv M 260 1 + (1 * hv M' 260 1 + 0)) := f11
      obtain ⟨f12, hf⟩ := hb_unc hf
      have f12 : 0 ≤ 0 + (1 * hv M 260 1 + ((-1) * hv M' 260 1 + 0)) := f12
      obtain ⟨f13, hf⟩ := hb_unc hf
      have f13 : 0 ≤ 0 + ((-1) * hv M 260 2 + (1 * hv M' 260 2 + 0)) := f13
      obtain ⟨f14, hf⟩ := hb_unc hf
      have f14 : 0 ≤ 0 + (1 * hv M 260 2 + ((-1) * hv M' 260 2 + 0)) := f14
      exact w8 M' x b1 b2 b3 b4 b5 (by have h1 := f0; have h2 := f1; omega) (by have h1 := f2; have h2 := f3; omega) (by have h1 := f4; omega) (by have h1 := f5; have h2 := f6; omega) (by have h1 := f7; have h2 := f8; omega) (by have h1 := f9; have h2 := f10; omega) (by have h1 := f11; have h2 := f12; omega) (by have h1 := f13; have h2 := f14; omega)
    rcases List.mem_cons.mp hp with rfl | hp
    · obtain ⟨x, rfl, hr, hz1, hu1⟩ := mz_re_0 mz_GG hre rfl
      obtain ⟨M', z', u'⟩ := S
      cases hz1
      cases hu1
      obtain ⟨f0, hf⟩ := hb_unc hf
      have f0 : 0 ≤ 0 + (1 * res + 0) := f0
      rw [← hr] at f0
      obtain ⟨f1, hf⟩ := hb_unc hf
      have f1 : 0 ≤ 0 + ((-1) * res + 0) := f1
      rw [← hr] at f1
      obtain ⟨f2, hf⟩ := hb_unc hf
      have f2 : 0 ≤ -3 + (1 * x1.toInt + 0) := f2
      obtain ⟨f3, hf⟩ := hb_unc hf
      have f3 : 0 ≤ 3 + ((-1) * x1.toInt + 0) := f3
      obtain ⟨f4, hf⟩ := hb_unc hf
      have f4 : 0 ≤ -4 + (1 * hv M 234 30 + 0) := f4
      obtain ⟨f5, hf⟩ := hb_unc hf
      have f5 : 0 ≤ -1 + (1 * hv M 260 3 + 0) := f5
      obtain ⟨f6, hf⟩ := hb_unc hf
      have f6 : 0 ≤ 1 + ((-1) * hv M 260 3 + 0) := f6
      obtain ⟨f7, hf⟩ := hb_unc hf
      have f7 : 0 ≤ 0 + ((-1) * hv M 260 0 + (1 * hv M' 260 0 + 0)) := f7
      obtain ⟨f8, hf⟩ := hb_unc hf
      have f8 : 0 ≤ 0 + (1 * hv M 260 0 + ((-1) * hv M' 260 0 + 0)) := f8
      obtain ⟨f9, hf⟩ := hb_unc hf
      have f9 : 0 ≤ 0 + ((-1) * hv M 260 1 + (1 * hv M' 260 1 + 0)) := f9
      obtain ⟨f10, hf⟩ := hb_unc hf
      have f10 : 0 ≤ 0 + (1 * hv M 260 1 + ((-1) * hv M' 260 1 + 0)) := f10
      obtain ⟨f11, hf⟩ := hb_unc hf
      have f11 : 0 ≤ 0 + ((-1) * hv M 260 2 + (1 * hv M' 260 2 + 0)) := f11
      obtain ⟨f12, hf⟩ := hb_unc hf
      have f12 : 0 ≤ 0 + (1 * hv M 260 2 + ((-1) * hv M' 260 2 + 0)) := f12
      obtain ⟨f13, hf⟩ := hb_unc hf
      have f13 : 0 ≤ 0 + ((-1) * hv M 260 3 + (1 * hv M' 260 3 + 0)) := f13
      obtain ⟨f14, hf⟩ := hb_unc hf
      have f14 : 0 ≤ 0 + (1 * hv M 260 3 + ((-1) * hv M' 260 3 + 0)) := f14
      exact w9 M' x b1 b2 b3 b4 b5 (by have h1 := f0; have h2 := f1; omega) (by have h1 := f2; have h2 := f3; omega) (by have h1 := f4; omega) (by have h1 := f5; have h2 := f6; omega) (by have h1 := f7; have h2 := f8; omega) (by have h1 := f9; have h2 := f10; omega) (by have h1 := f11; have h2 := f12; omega) (by have h1 := f13; have h2 := f14; omega)
    cases hp
theorem lu_mclose {d z u : Nat} {M : Nat → mq_C} {Q : (Option Value ⊕ Nat) → mq_S → Prop} {x1 : Int32} (hd : 9 ≤ d) (hz : 272 ≤ z) (hm : mz_sh mz_GG M) (hx : HX M) (hl : lw M)
    (k : ∀ (M' : Nat → mq_C) (r : Int32), mz_sh mz_GG M' → HX M' → lw M' → (∀ a, a < 8 → M' a = M a) → M' 271 = M 271 → (∀ a, a < 234 → M' a = M a) → lms M M' → (M' 249 = M 249 ∧ M' 250 = M 250 ∧ M' 235 = M 235) → Q (.inl (some (.int r))) (M', z, u)) : mq_R mq_PP d 142 0 [some (.ref 234), some (.int x1)] [] (M, z, u) Q := by
  obtain ⟨l0, l1, l2, l3, l4, l5⟩ := hl
  have hW : ∀ b ∈ mz_q173.2.2.2.2.2, 234 ≤ b ∧ b < 271 := by decide +kernel
  refine ly_mclose (ha_all (mz_q173, 2) (List.mem_of_getElem? (show mz_Cs[173]? = _ from rfl))) (by omega) hz hm hx ?_ ?_ ?_ ?_ ?_ ?_ ?_ ?_ ?_ ?_
  · intro M' r b1 b2 b3 b4 b5 f0 f1 f2 f3 f4 f5
    have e9 : hv M' 33 3 = hv M 33 3 := b5 9 (33, 3) rfl rfl
    have e10 : hv M' 33 5 = hv M 33 5 := b5 10 (33, 5) rfl rfl
    have e24 : hv M' 234 30 = hv M 234 30 := b5 24 (234, 30) rfl rfl
    have e33 : hv M' 257 0 = hv M 257 0 := b5 33 (257, 0) rfl rfl
    have e0 : hv M' 8 4 = hv M 8 4 := b5 0 (8, 4) rfl rfl
    have e12 : hv M' 44 0 = hv M 44 0 := b5 12 (44, 0) rfl rfl
    have e13 : hv M' 44 1 = hv M 44 1 := b5 13 (44, 1) rfl rfl
    have e14 : hv M' 44 3 = hv M 44 3 := b5 14 (44, 3) rfl rfl
    have e28 : hv M' 234 57 = hv M 234 57 := b5 28 (234, 57) rfl rfl
    have e17 : hv M' 234 15 = hv M 234 15 := b5 17 (234, 15) rfl rfl
    have e18 : hv M' 234 17 = hv M 234 17 := b5 18 (234, 17) rfl rfl
    have e19 : hv M' 234 19 = hv M 234 19 := b5 19 (234, 19) rfl rfl
    exact k M' r b1 b2 ⟨by omega, by omega, by omega, by omega, by omega, by omega⟩ b4 (b3 271 (by decide) (by decide +kernel)) (fun a ha => b3 a (by omega) (lx_el (fun h => by have := hW a h; omega))) ⟨⟨e17, e18, e19⟩, b3 251 (by decide) (by decide +kernel), b3 236 (by decide) (by decide +kernel), b3 237 (by decide) (by decide +kernel)⟩ ⟨b3 249 (by decide) (by decide +kernel), b3 250 (by decide) (by decide +kernel), b3 235 (by decide) (by decide +kernel)⟩
  · intro M' r b1 b2 b3 b4 b5 f0 f1 f2 f3 f4 f5
    have e9 : hv M' 33 3 = hv M 33 3 := b5 9 (33, 3) rfl rfl
    have e10 : hv M' 33 5 = hv M 33 5 := b5 10 (33, 5) rfl rfl
    have e24 : hv M' 234 30 = hv M 234 30 := b5 24 (234, 30) rfl rfl
    have e33 : hv M' 257 0 = hv M 257 0 := b5 33 (257, 0) rfl rfl
    have e0 : hv M' 8 4 = hv M 8 4 := b5 0 (8, 4) rfl rfl
    have e12 : hv M' 44 0 = hv M 44 0 := b5 12 (44, 0) rfl rfl
    have e13 : hv M' 44 1 = hv M 44 1 := b5 13 (44, 1) rfl rfl
    have e14 : hv M' 44 3 = hv M 44 3 := b5 14 (44, 3) rfl rfl
    have e28 : hv M' 234 57 = hv M 234 57 := b5 28 (234, 57) rfl rfl
    have e17 : hv M' 234 15 = hv M 234 15 := b5 17 (234, 15) rfl rfl
    have e18 : hv M' 234 17 = hv M 234 17 := b5 18 (234, 17) rfl rfl
    have e19 : hv M' 234 19 = hv M 234 19 := b5 19 (234, 19) rfl rfl
    exact k M' r b1 b2 ⟨by omega, by omega, by omega, by omega, by omega, by omega⟩ b4 (b3 271 (by decide) (by decide +kernel)) (fun a ha => b3 a (by omega) (lx_el (fun h => by have := hW a h; omega))) ⟨⟨e17, e18, e19⟩, b3 251 (by decide) (by decide +kernel), b3 236 (by decide) (by decide +kernel), b3 237 (by decide) (by decide +kernel)⟩ ⟨b3 249 (by decide) (by decide +kernel), b3 250 (by decide) (by decide +kernel), b3 235 (by decide) (by decide +kernel)⟩
  · intro M' r b1 b2 b3 b4 b5 f0 f1 f2 f3 f4 f5 f6 f7
    have e9 : hv M' 33 3 = hv M 33 3 := b5 9 (33, 3) rfl rfl
    have e10 : hv M' 33 5 = hv M 33 5 := b5 10 (33, 5) rfl rfl
    have e24 : hv M' 234 30 = hv M 234 30 := b5 24 (234, 30) rfl rfl
    have e33 : hv M' 257 0 = hv M 257 0 := b5 33 (257, 0) rfl rfl
    have e0 : hv M' 8 4 = hv M 8 4 := b5 0 (8, 4) rfl rfl
    have e12 : hv M' 44 0 = hv M 44 0 := b5 12 (44, 0) rfl rfl
    have e13 : hv M' 44 1 = hv M 44 1 := b5 13 (44, 1) rfl rfl
    have e14 : hv M' 44 3 = hv M 44 3 := b5 14 (44, 3) rfl rfl
    have e28 : hv M' 234 57 = hv M 234 57 := b5 28 (234, 57) rfl rfl
    have e17 : hv M' 234 15 = hv M 234 15 := b5 17 (234, 15) rfl rfl
    have e18 : hv M' 234 17 = hv M 234 17 := b5 18 (234, 17) rfl rfl
    have e19 : hv M' 234 19 = hv M 234 19 := b5 19 (234, 19) rfl rfl
    exact k M' r b1 b2 ⟨by omega, by omega, by omega, by omega, by omega, by omega⟩ b4 (b3 271 (by decide) (by decide +kernel)) (fun a ha => b3 a (by omega) (lx_el (fun h => by have := hW a h; omega))) ⟨⟨e17, e18, e19⟩, b3 251 (by decide) (by decide +kernel), b3 236 (by decide) (by decide +kernel), b3 237 (by decide) (by decide +kernel)⟩ ⟨b3 249 (by decide) (by decide +kernel), b3 250 (by decide) (by decide +kernel), b3 235 (by decide) (by decide +kernel)⟩
  · intro M' r b1 b2 b3 b4 b5 f0 f1 f2 f3 f4 f5 f6 f7
    have e9 : hv M' 33 3 = hv M 33 3 := b5 9 (33, 3) rfl rfl
    have e10 : hv M' 33 5 = hv M 33 5 := b5 10 (33, 5) rfl rfl
    have e24 : hv M' 234 30 = hv M 234 30 := b5 24 (234, 30) rfl rfl
    have e33 : hv M' 257 0 = hv M 257 0 := b5 33 (257, 0) rfl rfl
    have e0 : hv M' 8 4 = hv M 8 4 := b5 0 (8, 4) rfl rfl
    have e12 : hv M' 44 0 = hv M 44 0 := b5 12 (44, 0) rfl rfl
    have e13 : hv M' 44 1 = hv M 44 1 := b5 13 (44, 1) rfl rfl
    have e14 : hv M' 44 3 = hv M 44 3 := b5 14 (44, 3) rfl rfl
    have e28 : hv M' 234 57 = hv M 234 57 := b5 28 (234, 57) rfl rfl
    have e17 : hv M' 234 15 = hv M 234 15 := b5 17 (234, 15) rfl rfl
    have e18 : hv M' 234 17 = hv M 234 17 := b5 18 (234, 17) rfl rfl
    have e19 : hv M' 234 19 = hv M 234 19 := b5 19 (234, 19) rfl rfl
    exact k M' r b1 b2 ⟨by omega, by omega, by omega, by omega, by omega, by omega⟩ b4 (b3 271 (by decide) (by decide +kernel)) (fun a ha => b3 a (by omega) (lx_el (fun h => by have := hW a h; omega))) ⟨⟨e17, e18, e19⟩, b3 251 (by decide) (by decide +kernel), b3 236 (by decide) (by decide +kernel), b3 237 (by decide) (by decide +kernel)⟩ ⟨b3 249 (by decide) (by decide +kernel), b3 250 (by decide) (by decide +kernel), b3 235 (by decide) (by decide +kernel)⟩
  · intro M' r b1 b2 b3 b4 b5 f0 f1 f2 f3 f4 f5 f6 f7
    have e9 : hv M' 33 3 = hv M 33 3 := b5 9 (33, 3) rfl rfl
    have e10 : hv M' 33 5 = hv M 33 5 := b5 10 (33, 5) rfl rfl
    have e24 : hv M' 234 30 = hv M 234 30 := b5 24 (234, 30) rfl rfl
    have e33 : hv M' 257 0 = hv M 257 0 := b5 33 (257, 0) rfl rfl
    have e0 : hv M' 8 4 = hv M 8 4 := b5 0 (8, 4) rfl rfl
    have e12 : hv M' 44 0 = hv M 44 0 := b5 12 (44, 0) rfl rfl
    have e13 : hv M' 44 1 = hv M 44 1 := b5 13 (44, 1) rfl rfl
    have e14 : hv M' 44 3 = hv M 44 3 := b5 14 (44, 3) rfl rfl
    have e28 : hv M' 234 57 = hv M 234 57 := b5 28 (234, 57) rfl rfl
    have e17 : hv M' 234 15 = hv M 234 15 := b5 17 (234, 15) rfl rfl
    have e18 : hv M' 234 17 = hv M 234 17 := b5 18 (234, 17) rfl rfl
    have e19 : hv M' 234 19 = hv M 234 19 := b5 19 (234, 19) rfl rfl
    exact k M' r b1 b2 ⟨by omega, by omega, by omega, by omega, by omega, by omega⟩ b4 (b3 271 (by decide) (by decide +kernel)) (fun a ha => b3 a (by omega) (lx_el (fun h => by have := hW a h; omega))) ⟨⟨e17, e18, e19⟩, b3 251 (by decide) (by decide +kernel), b3 236 (by decide) (by decide +kernel), b3 237 (by decide) (by decide +kernel)⟩ ⟨b3 249 (by decide) (by decide +kernel), b3 250 (by decide) (by decide +kernel), b3 235 (by decide) (by decide +kernel)⟩
  · intro M' r b1 b2 b3 b4 b5 f0 f1 f2 f3 f4 f5 f6 f7
    have e9 : hv M' 33 3 = hv M 33 3 := b5 9 (33, 3) rfl rfl
    have e10 : hv M' 33 5 = hv M 33 5 := b5 10 (33, 5) rfl rfl
    have e24 : hv M' 234 30 = hv M 234 30 := b5 24 (234, 30) rfl rfl
    have e33 : hv M' 257 0 = hv M 257 0 := b5 33 (257, 0) rfl rfl
    have e0 : hv M' 8 4 = hv M 8 4 := b5 0 (8, 4) rfl rfl
    have e12 : hv M' 44 0 = hv M 44 0 := b5 12 (44, 0) rfl rfl
    have e13 : hv M' 44 1 = hv M 44 1 := b5 13 (44, 1) rfl rfl
    have e14 : hv M' 44 3 = hv M 44 3 := b5 14 (44, 3) rfl rfl
    have e28 : hv M' 234 57 = hv M 234 57 := b5 28 (234, 57) rfl rfl
    have e17 : hv M' 234 15 = hv M 234 15 := b5 17 (234, 15) rfl rfl
    have e18 : hv M' 234 17 = hv M 234 17 := b5 18 (234, 17) rfl rfl
    have e19 : hv M' 234 19 = hv M 234 19 := b5 19 (234, 19) rfl rfl
    exact k M' r b1 b2 ⟨by omega, by omega, by omega, by omega, by omega, by omega⟩ b4 (b3 271 (by decide) (by decide +kernel)) (fun a ha => b3 a (by omega) (lx_el (fun h => by have := hW a h; omega))) ⟨⟨e17, e18, e19⟩, b3 251 (by decide) (by decide +kernel), b3 236 (by decide) (by decide +kernel), b3 237 (by decide) (by decide +kernel)⟩ ⟨b3 249 (by decide) (by decide +kernel), b3 250 (by decide) (by decide +kernel), b3 235 (by decide) (by decide +kernel)⟩
  · intro M' r b1 b2 b3 b4 b5 f0 f1 f2 f3 f4 f5 f6 f7
    have e9 : hv M' 33 3 = hv M 33 3 := b5 9 (33, 3) rfl rfl
    have e10 : hv M' 33 5 = hv M 33 5 := b5 10 (33, 5) rfl rfl
    have e24 : hv M' 234 30 = hv M 234 30 := b5 24 (234, 30) rfl rfl
    have e33 : hv M' 257 0 = hv M 257 0 := b5 33 (257, 0) rfl rfl
    have e0 : hv M' 8 4 = hv M 8 4 := b5 0 (8, 4) rfl rfl
    have e12 : hv M' 44 0 = hv M 44 0 := b5 12 (44, 0) rfl rfl
    have e13 : hv M' 44 1 = hv M 44 1 := b5 13 (44, 1) rfl rfl
    have e14 : hv M' 44 3 = hv M 44 3 := b5 14 (44, 3) rfl rfl
    have e28 : hv M' 234 57 = hv M 234 57 := b5 28 (234, 57) rfl rfl
    have e17 : hv M' 234 15 = hv M 234 15 := b5 17 (234, 15) rfl rfl
    have e18 : hv M' 234 17 = hv M 234 17 := b5 18 (234, 17) rfl rfl
    have e19 : hv M' 234 19 = hv M 234 19 := b5 19 (234, 19) rfl rfl
    exact k M' r b1 b2 ⟨by omega, by omega, by omega, by omega, by omega, by omega⟩ b4 (b3 271 (by decide) (by decide +kernel)) (fun a ha => b3 a (by omega) (lx_el (fun h => by have := hW a h; omega))) ⟨⟨e17, e18, e19⟩, b3 251 (by decide) (by decide +kernel), b3 236 (by decide) (by decide +kernel), b3 237 (by decide) (by decide +kernel)⟩ ⟨b3 249 (by decide) (by decide +kernel), b3 250 (by decide) (by decide +kernel), b3 235 (by decide) (by decide +kernel)⟩
  · intro M' r b1 b2 b3 b4 b5 f0 f1 f2 f3 f4 f5 f6 f7
    have e9 : hv M' 33 3 = hv M 33 3 := b5 9 (33, 3) rfl rfl
    have e10 : hv M' 33 5 = hv M 33 5 := b5 10 (33, 5) rfl rfl
    have e24 : hv M' 234 30 = hv M 234 30 := b5 24 (234, 30) rfl rfl
    have e33 : hv M' 257 0 = hv M 257 0 := b5 33 (257, 0) rfl rfl
    have e0 : hv M' 8 4 = hv M 8 4 := b5 0 (8, 4) rfl rfl
    have e12 : hv M' 44 0 = hv M 44 0 := b5 12 (44, 0) rfl rfl
    have e13 : hv M' 44 1 = hv M 44 1 := b5 13 (44, 1) rfl rfl
    have e14 : hv M' 44 3 = hv M 44 3 := b5 14 (44, 3) rfl rfl
    have e28 : hv M' 234 57 = hv M 234 57 := b5 28 (234, 57) rfl rfl
    have e17 : hv M' 234 15 = hv M 234 15 := b5 17 (234, 15) rfl rfl
    have e18 : hv M' 234 17 = hv M 234 17 := b5 18 (234, 17) rfl rfl
    have e19 : hv M' 234 19 = hv M 234 19 := b5 19 (234, 19) rfl rfl
    exact k M' r b1 b2 ⟨by omega, by omega, by omega, by omega, by omega, by omega⟩ b4 (b3 271 (by decide) (by decide +kernel)) (fun a ha => b3 a (by omega) (lx_el (fun h => by have := hW a h; omega))) ⟨⟨e17, e18, e19⟩, b3 251 (by decide) (by decide +kernel), b3 236 (by decide) (by decide +kernel), b3 237 (by decide) (by decide +kernel)⟩ ⟨b3 249 (by decide) (by decide +kernel), b3 250 (by decide) (by decide +kernel), b3 235 (by decide) (by decide +kernel)⟩
  · intro M' r b1 b2 b3 b4 b5 f0 f1 f2 f3 f4 f5 f6 f7
    have e9 : hv M' 33 3 = hv M 33 3 := b5 9 (33, 3) rfl rfl
    have e10 : hv M' 33 5 = hv M 33 5 := b5 10 (33, 5) rfl rfl
    have e24 : hv M' 234 30 = hv M 234 30 := b5 24 (234, 30) rfl rfl
    have e33 : hv M' 257 0 = hv M 257 0 := b5 33 (257, 0) rfl rfl
    have e0 : hv M' 8 4 = hv M 8 4 := b5 0 (8, 4) rfl rfl
    have e12 : hv M' 44 0 = hv M 44 0 := b5 12 (44, 0) rfl rfl
    have e13 : hv M' 44 1 = hv M 44 1 := b5 13 (44, 1) rfl rfl
    have e14 : hv M' 44 3 = hv M 44 3 := b5 14 (44, 3) rfl rfl
    have e28 : hv M' 234 57 = hv M 234 57 := b5 28 (234, 57) rfl rfl
    have e17 : hv M' 234 15 = hv M 234 15 := b5 17 (234, 15) rfl rfl
    have e18 : hv M' 234 17 = hv M 234 17 := b5 18 (234, 17) rfl rfl
    have e19 : hv M' 234 19 = hv M 234 19 := b5 19 (234, 19) rfl rfl
    exact k M' r b1 b2 ⟨by omega, by omega, by omega, by omega, by omega, by omega⟩ b4 (b3 271 (by decide) (by decide +kernel)) (fun a ha => b3 a (by omega) (lx_el (fun h => by have := hW a h; omega))) ⟨⟨e17, e18, e19⟩, b3 251 (by decide) (by decide +kernel), b3 236 (by decide) (by decide +kernel), b3 237 (by decide) (by decide +kernel)⟩ ⟨b3 249 (by decide) (by decide +kernel), b3 250 (by decide) (by decide +kernel), b3 235 (by decide) (by decide +kernel)⟩
  · intro M' r b1 b2 b3 b4 b5 f0 f1 f2 f3 f4 f5 f6 f7
    have e9 : hv M' 33 3 = hv M 33 3 := b5 9 (33, 3) rfl rfl
    have e10 : hv M' 33 5 = hv M 33 5 := b5 10 (33, 5) rfl rfl
    have e24 : hv M' 234 30 = hv M 234 30 := b5 24 (234, 30) rfl rfl
    have e33 : hv M' 257 0 = hv M 257 0 := b5 33 (257, 0) rfl rfl
    have e0 : hv M' 8 4 = hv M 8 4 := b5 0 (8, 4) rfl rfl
    have e12 : hv M' 44 0 = hv M 44 0 := b5 12 (44, 0) rfl rfl
    have e13 : hv M' 44 1 = hv M 44 1 := b5 13 (44, 1) rfl rfl
    have e14 : hv M' 44 3 = hv M 44 3 := b5 14 (44, 3) rfl rfl
    have e28 : hv M' 234 57 = hv M 234 57 := b5 28 (234, 57) rfl rfl
    have e17 : hv M' 234 15 = hv M 234 15 := b5 17 (234, 15) rfl rfl
    have e18 : hv M' 234 17 = hv M 234 17 := b5 18 (234, 17) rfl rfl
    have e19 : hv M' 234 19 = hv M 234 19 := b5 19 (234, 19) rfl rfl
    exact k M' r b1 b2 ⟨by omega, by omega, by omega, by omega, by omega, by omega⟩ b4 (b3 271 (by decide) (by decide +kernel)) (fun a ha => b3 a (by omega) (lx_el (fun h => by have := hW a h; omega))) ⟨⟨e17, e18, e19⟩, b3 251 (by decide) (by decide +kernel), b3 236 (by decide) (by decide +kernel), b3 237 (by decide) (by decide +kernel)⟩ ⟨b3 249 (by decide) (by decide +kernel), b3 250 (by decide) (by decide +kernel), b3 235 (by decide) (by decide +kernel)⟩
theorem lv_mclose {d z u : Nat} {M : Nat → mq_C} {Q : (Option Value ⊕ Nat) → mq_S → Prop} {x1 : Int32} (hd : 9 ≤ d) (hz : 272 ≤ z) (hm : mz_sh mz_GG M) (hx : HX M) (hl : lw M)
    (k : ∀ (M' : Nat → mq_C) (r : Int32), mz_sh mz_GG M' → HX M' → lw M' → (∀ a, a < 8 → M' a = M a) → M' 271 = M 271 → (∀ a, a < 234 → M' a = M a) → lms M M' → (M' 249 = M 249 ∧ M' 250 = M 250 ∧ M' 235 = M 235) → xSc (mvw M) (mvw M') x1.toInt r.toInt → Q (.inl (some (.int r))) (M', z, u)) : mq_R mq_PP d 142 0 [some (.ref 234), some (.int x1)] [] (M, z, u) Q := by
  refine mq_R_mono (lx_and (Q := fun r' S' => ∃ (M' : Nat → mq_C) (r : Int32), r' = .inl (some (.int r)) ∧ S' = (M', z, u) ∧ mz_sh mz_GG M' ∧ HX M' ∧ lw M' ∧ (∀ a, a < 8 → M' a = M a) ∧ M' 271 = M 271 ∧ (∀ a, a < 234 → M' a = M a) ∧ lms M M' ∧ (M' 249 = M 249 ∧ M' 250 = M 250 ∧ M' 235 = M 235)) (Q' := fun r' S' => ∃ (M' : Nat → mq_C) (r : Int32), r' = .inl (some (.int r)) ∧ S' = (M', z, u) ∧ xSc (mvw M) (mvw M') x1.toInt r.toInt) ?_ ?_) ?_
  · refine lu_mclose (by omega) hz hm hx hl ?_
    exact fun M' r b1 b2 b3 b4 b5 b6 b7 b8 => ⟨M', r, rfl, rfl, b1, b2, b3, b4, b5, b6, b7, b8⟩
  · obtain ⟨d, rfl⟩ : ∃ e, d = e + 1 := ⟨d - 1, by omega⟩
    exact ym_close hm (fun M' r h => ⟨M', r, rfl, rfl, h⟩)
  · rintro r' S' ⟨⟨M', r, rfl, rfl, b1, b2, b3, b4, b5, b6, b7, b8⟩, M2, r2, e1, e2, h⟩
    cases e1
    cases e2
    exact k M' r b1 b2 b3 b4 b5 b6 b7 b8 h
theorem ly_mload {X : (Nat → mq_C) → Prop} (hq : mz_Ct mz_GG mq_PP X mz_q180 15) {d z u : Nat} {M : Nat → mq_C} {Q : (Option Value ⊕ Nat) → mq_S → Prop} {x1 : Int32} {x2 : Int32} (hd : 15 ≤ d) (hz : 272 ≤ z) (hm : mz_sh mz_GG M) (hx : X M) (p0 : 0 ≤ 0 - hv M 234 30 - 4 * hv M 257 0)
    (w0 : ∀ (M' : Nat → mq_C) (r : Int32), mz_sh mz_GG M' → X M' → mz_fr mz_q180 M M' → (∀ a, a < 8 → M' a = M a) → hb_same mz_GG mz_q180 M M' → 0 ≤ 1 + r.toInt → 0 ≤ 127 - r.toInt → 0 ≤ x1.toInt → 0 ≤ (-1) - x1.toInt + hv M 234 30 → 0 ≤ x2.toInt → 0 ≤ 31 - x2.toInt → Q (.inl (some (.int r))) (M', z, u))
    (w1 : ∀ (M' : Nat → mq_C) (r : Int32), mz_sh mz_GG M' → X M' → mz_fr mz_q180 M M' → (∀ a, a < 8 → M' a = M a) → hb_same mz_GG mz_q180 M M' → 0 ≤ 1 + r.toInt → 0 ≤ 127 - r.toInt → 0 ≤ (-1) + hv M' 234 0 → Q (.inl (some (.int r))) (M', z, u)) : mq_R mq_PP d 156 0 [some (.ref 234), some (.int x1), some (.int x2)] [] (M, z, u) Q := by
  refine hb_use mz_GG mq_PP X (q := mz_q180) (vs := [.ref 234, .int x1, .int x2]) hq (by decide +kernel) hd (show hb_pk mz_GG [(1, 234), (0, 0), (0, 0)] _ from ⟨⟨List.mem_singleton.mpr rfl, rfl⟩, trivial, trivial, trivial⟩) hm hx hz ?_ ?_
  · exact hb_cons (show 0 ≤ mz_ev _ _ from (show 0 ≤ 0 + ((-1) * hv M 234 30 + ((-4) * hv M 257 0 + 0)) by omega)) (hb_nil)
  · intro r S hpo
    obtain ⟨b1, b2, b3, b4, b5, p, hp, res, hf, hre⟩ := hpo
    rcases List.mem_cons.mp hp with rfl | hp
    · obtain ⟨x, rfl, hr, hz1, hu1⟩ := mz_re_0 mz_GG hre rfl
      obtain ⟨M', z', u'⟩ := S
      cases hz1
      cases hu1
      obtain ⟨f0, hf⟩ := hb_unc hf
      have f0 : 0 ≤ 1 + (1 * res + 0) := f0
      rw [← hr] at f0
      obtain ⟨f1, hf⟩ := hb_unc hf
      have f1 : 0 ≤ 127 + ((-1) * res + 0) := f1
      rw [← hr] at f1
      obtain ⟨f2, hf⟩ := hb_unc hf
      have f2 : 0 ≤ 0 + (1 * x1.toInt + 0) := f2
      obtain ⟨f3, hf⟩ := hb_unc hf
      have f3 : 0 ≤ -1 + ((-1) * x1.toInt + (1 * hv M 234 30 + 0)) := f3
      obtain ⟨f4, hf⟩ := hb_unc hf
      have f4 : 0 ≤ 0 + (1 * x2.toInt + 0) := f4
      obtain ⟨f5, hf⟩ := hb_unc hf
      have f5 : 0 ≤ 31 + ((-1) * x2.toInt + 0) := f5
      exact w0 M' x b1 b2 b3 b4 b5 (by have h1 := f0; omega) (by have h1 := f1; omega) (by have h1 := f2; omega) (by have h1 := f3; omega) (by have h1 := f4; omega) (by have h1 := f5; omega)
    rcases List.mem_cons.mp hp with rfl | hp
    · obtain ⟨x, rfl, hr, hz1, hu1⟩ := mz_re_0 mz_GG hre rfl
      obtain ⟨M', z', u'⟩ := S
      cases hz1
      cases hu1
      obtain ⟨f0, hf⟩ := hb_unc hf
      have f0 : 0 ≤ 1 + (1 * res + 0) := f0
      rw [← hr] at f0
      obtain ⟨f1, hf⟩ := hb_unc hf
      have f1 : 0 ≤ 127 + ((-1) * res + 0) := f1
      rw [← hr] at f1
      obtain ⟨f2, hf⟩ := hb_unc hf
      have f2 : 0 ≤ -1 + (1 * hv M' 234 0 + 0) := f2
      exact w1 M' x b1 b2 b3 b4 b5 (by have h1 := f0; omega) (by have h1 := f1; omega) (by have h1 := f2; omega)
    cases hp
theorem lu_mload {d z u : Nat} {M : Nat → mq_C} {Q : (Option Value ⊕ Nat) → mq_S → Prop} {x1 : Int32} {x2 : Int32} (hd : 15 ≤ d) (hz : 272 ≤ z) (hm : mz_sh mz_GG M) (hx : HX M) (hl : lw M)
    (k : ∀ (M' : Nat → mq_C) (r : Int32), mz_sh mz_GG M' → HX M' → lw M' → (∀ a, a < 8 → M' a = M a) → M' 271 = M 271 → (∀ a, a < 234 → M' a = M a) → lms M M' → (M' 249 = M 249 ∧ M' 250 = M 250 ∧ M' 235 = M 235) → xLK (mvw M) (mvw M') → Q (.inl (some (.int r))) (M', z, u)) : mq_R mq_PP d 156 0 [some (.ref 234), some (.int x1), some (.int x2)] [] (M, z, u) Q := by
  obtain ⟨l0, l1, l2, l3, l4, l5⟩ := hl
  have hW : ∀ b ∈ mz_q180.2.2.2.2.2, 234 ≤ b ∧ b < 271 := by decide +kernel
  refine ly_mload (ha_all (mz_q180, 15) (List.mem_of_getElem? (show mz_Cs[180]? = _ from rfl))) (by omega) hz hm hx (by omega) ?_ ?_
  · intro M' r b1 b2 b3 b4 b5 f0 f1 f2 f3 f4 f5
    have e9 : hv M' 33 3 = hv M 33 3 := b5 9 (33, 3) rfl rfl
    have e10 : hv M' 33 5 = hv M 33 5 := b5 10 (33, 5) rfl rfl
    have e24 : hv M' 234 30 = hv M 234 30 := b5 24 (234, 30) rfl rfl
    have e33 : hv M' 257 0 = hv M 257 0 := b5 33 (257, 0) rfl rfl
    have e0 : hv M' 8 4 = hv M 8 4 := b5 0 (8, 4) rfl rfl
    have e12 : hv M' 44 0 = hv M 44 0 := b5 12 (44, 0) rfl rfl
    have e13 : hv M' 44 1 = hv M 44 1 := b5 13 (44, 1) rfl rfl
    have e14 : hv M' 44 3 = hv M 44 3 := b5 14 (44, 3) rfl rfl
    have e28 : hv M' 234 57 = hv M 234 57 := b5 28 (234, 57) rfl rfl
    have e17 : hv M' 234 15 = hv M 234 15 := b5 17 (234, 15) rfl rfl
    have e18 : hv M' 234 17 = hv M 234 17 := b5 18 (234, 17) rfl rfl
    have e19 : hv M' 234 19 = hv M 234 19 := b5 19 (234, 19) rfl rfl
    exact k M' r b1 b2 ⟨by omega, by omega, by omega, by omega, by omega, by omega⟩ b4 (b3 271 (by decide) (by decide +kernel)) (fun a ha => b3 a (by omega) (lx_el (fun h => by have := hW a h; omega))) ⟨⟨e17, e18, e19⟩, b3 251 (by decide) (by decide +kernel), b3 236 (by decide) (by decide +kernel), b3 237 (by decide) (by decide +kernel)⟩ ⟨b3 249 (by decide) (by decide +kernel), b3 250 (by decide) (by decide +kernel), b3 235 (by decide) (by decide +kernel)⟩ (xLK_m e24 ⟨b3 257 (by decide) (by decide +kernel), b3 258 (by decide) (by decide +kernel), b3 259 (by decide) (by decide +kernel), b3 260 (by decide) (by decide +kernel)⟩)
  · intro M' r b1 b2 b3 b4 b5 f0 f1 f2
    have e9 : hv M' 33 3 = hv M 33 3 := b5 9 (33, 3) rfl rfl
    have e10 : hv M' 33 5 = hv M 33 5 := b5 10 (33, 5) rfl rfl
    have e24 : hv M' 234 30 = hv M 234 30 := b5 24 (234, 30) rfl rfl
    have e33 : hv M' 257 0 = hv M 257 0 := b5 33 (257, 0) rfl rfl
    have e0 : hv M' 8 4 = hv M 8 4 := b5 0 (8, 4) rfl rfl
    have e12 : hv M' 44 0 = hv M 44 0 := b5 12 (44, 0) rfl rfl
    have e13 : hv M' 44 1 = hv M 44 1 := b5 13 (44, 1) rfl rfl
    have e14 : hv M' 44 3 = hv M 44 3 := b5 14 (44, 3) rfl rfl
    have e28 : hv M' 234 57 = hv M 234 57 := b5 28 (234, 57) rfl rfl
    have e17 : hv M' 234 15 = hv M 234 15 := b5 17 (234, 15) rfl rfl
    have e18 : hv M' 234 17 = hv M 234 17 := b5 18 (234, 17) rfl rfl
    have e19 : hv M' 234 19 = hv M 234 19 := b5 19 (234, 19) rfl rfl
    exact k M' r b1 b2 ⟨by omega, by omega, by omega, by omega, by omega, by omega⟩ b4 (b3 271 (by decide) (by decide +kernel)) (fun a ha => b3 a (by omega) (lx_el (fun h => by have := hW a h; omega))) ⟨⟨e17, e18, e19⟩, b3 251 (by decide) (by decide +kernel), b3 236 (by decide) (by decide +kernel), b3 237 (by decide) (by decide +kernel)⟩ ⟨b3 249 (by decide) (by decide +kernel), b3 250 (by decide) (by decide +kernel), b3 235 (by decide) (by decide +kernel)⟩ (xLK_m e24 ⟨b3 257 (by decide) (by decide +kernel), b3 258 (by decide) (by decide +kernel), b3 259 (by decide) (by decide +kernel), b3 260 (by decide) (by decide +kernel)⟩)
theorem ly_mfault {X : (Nat → mq_C) → Prop} (hq : mz_Ct mz_GG mq_PP X mz_q181 1) {d z u : Nat} {M : Nat → mq_C} {Q : (Option Value ⊕ Nat) → mq_S → Prop}  (hd : 1 ≤ d) (hz : 272 ≤ z) (hm : mz_sh mz_GG M) (hx : X M)
    (w0 : ∀ (M' : Nat → mq_C) (r : Int32), mz_sh mz_GG M' → X M' → mz_fr mz_q181 M M' → (∀ a, a < 8 → M' a = M a) → hb_same mz_GG mz_q181 M M' → Q (.inl (some (.int r))) (M', z, u)) : mq_R mq_PP d 157 0 [some (.ref 234)] [] (M, z, u) Q := by
  refine hb_use mz_GG mq_PP X (q := mz_q181) (vs := [.ref 234]) hq (by decide +kernel) hd (show hb_pk mz_GG [(1, 234)] _ from ⟨⟨List.mem_singleton.mpr rfl, rfl⟩, trivial⟩) hm hx hz ?_ ?_
  · exact hb_nil
  · intro r S hpo
    obtain ⟨b1, b2, b3, b4, b5, p, hp, res, hf, hre⟩ := hpo
    rcases List.mem_cons.mp hp with rfl | hp
    · obtain ⟨x, rfl, hr, hz1, hu1⟩ := mz_re_0 mz_GG hre rfl
      obtain ⟨M', z', u'⟩ := S
      cases hz1
      cases hu1
      exact w0 M' x b1 b2 b3 b4 b5 
    cases hp
theorem lu_mfault {d z u : Nat} {M : Nat → mq_C} {Q : (Option Value ⊕ Nat) → mq_S → Prop}  (hd : 9 ≤ d) (hz : 272 ≤ z) (hm : mz_sh mz_GG M) (hx : HX M) (hl : lw M)
    (k : ∀ (M' : Nat → mq_C) (r : Int32), mz_sh mz_GG M' → HX M' → lw M' → (∀ a, a < 8 → M' a = M a) → M' 271 = M 271 → (∀ a, a < 234 → M' a = M a) → lms M M' → (M' 249 = M 249 ∧ M' 250 = M 250 ∧ M' 235 = M 235) → xLK (mvw M) (mvw M') → Q (.inl (some (.int r))) (M', z, u)) : mq_R mq_PP d 157 0 [some (.ref 234)] [] (M, z, u) Q := by
  obtain ⟨l0, l1, l2, l3, l4, l5⟩ := hl
  have hW : ∀ b ∈ mz_q181.2.2.2.2.2, 234 ≤ b ∧ b < 271 := by decide +kernel
  refine ly_mfault (ha_all (mz_q181, 1) (List.mem_of_getElem? (show mz_Cs[181]? = _ from rfl))) (by omega) hz hm hx ?_
  · intro M' r b1 b2 b3 b4 b5
    have e9 : hv M' 33 3 = hv M 33 3 := b5 9 (33, 3) rfl rfl
    have e10 : hv M' 33 5 = hv M 33 5 := b5 10 (33, 5) rfl rfl
    have e24 : hv M' 234 30 = hv M 234 30 := b5 24 (234, 30) rfl rfl
    have e33 : hv M' 257 0 = hv M 257 0 := b5 33 (257, 0) rfl rfl
    have e0 : hv M' 8 4 = hv M 8 4 := b5 0 (8, 4) rfl rfl
    have e12 : hv M' 44 0 = hv M 44 0 := b5 12 (44, 0) rfl rfl
    have e13 : hv M' 44 1 = hv M 44 1 := b5 13 (44, 1) rfl rfl
    have e14 : hv M' 44 3 = hv M 44 3 := b5 14 (44, 3) rfl rfl
    have e28 : hv M' 234 57 = hv M 234 57 := b5 28 (234, 57) rfl rfl
    have e17 : hv M' 234 15 = hv M 234 15 := b5 17 (234, 15) rfl rfl
    have e18 : hv M' 234 17 = hv M 234 17 := b5 18 (234, 17) rfl rfl
    have e19 : hv M' 234 19 = hv M 234 19 := b5 19 (234, 19) rfl rfl
    exact k M' r b1 b2 ⟨by omega, by omega, by omega, by omega, by omega, by omega⟩ b4 (b3 271 (by decide) (by decide +kernel)) (fun a ha => b3 a (by omega) (lx_el (fun h => by have := hW a h; omega))) ⟨⟨e17, e18, e19⟩, b3 251 (by decide) (by decide +kernel), b3 236 (by decide) (by decide +kernel), b3 237 (by decide) (by decide +kernel)⟩ ⟨b3 249 (by decide) (by decide +kernel), b3 250 (by decide) (by decide +kernel), b3 235 (by decide) (by decide +kernel)⟩ (xLK_m e24 ⟨b3 257 (by decide) (by decide +kernel), b3 258 (by decide) (by decide +kernel), b3 259 (by decide) (by decide +kernel), b3 260 (by decide) (by decide +kernel)⟩)
theorem ly_mculprit {X : (Nat → mq_C) → Prop} (hq : mz_Ct mz_GG mq_PP X mz_q182 1) {d z u : Nat} {M : Nat → mq_C} {Q : (Option Value ⊕ Nat) → mq_S → Prop}  (hd : 1 ≤ d) (hz : 272 ≤ z) (hm : mz_sh mz_GG M) (hx : X M)
    (w0 : ∀ (M' : Nat → mq_C) (r : Int32), mz_sh mz_GG M' → X M' → mz_fr mz_q182 M M' → (∀ a, a < 8 → M' a = M a) → hb_same mz_GG mz_q182 M M' → Q (.inl (some (.int r))) (M', z, u)) : mq_R mq_PP d 158 0 [some (.ref 234)] [] (M, z, u) Q := by
  refine hb_use mz_GG mq_PP X (q := mz_q182) (vs := [.ref 234]) hq (by decide +kernel) hd (show hb_pk mz_GG [(1, 234)] _ from ⟨⟨List.mem_singleton.mpr rfl, rfl⟩, trivial⟩) hm hx hz ?_ ?_
  · exact hb_nil
  · intro r S hpo
    obtain ⟨b1, b2, b3, b4, b5, p, hp, res, hf, hre⟩ := hpo
    rcases List.mem_cons.mp hp with rfl | hp
    · obtain ⟨x, rfl, hr, hz1, hu1⟩ := mz_re_0 mz_GG hre rfl
      obtain ⟨M', z', u'⟩ := S
      cases hz1
      cases hu1
      exact w0 M' x b1 b2 b3 b4 b5 
    cases hp
theorem lu_mculprit {d z u : Nat} {M : Nat → mq_C} {Q : (Option Value ⊕ Nat) → mq_S → Prop}  (hd : 9 ≤ d) (hz : 272 ≤ z) (hm : mz_sh mz_GG M) (hx : HX M) (hl : lw M)
    (k : ∀ (M' : Nat → mq_C) (r : Int32), mz_sh mz_GG M' → HX M' → lw M' → (∀ a, a < 8 → M' a = M a) → M' 271 = M 271 → (∀ a, a < 234 → M' a = M a) → lms M M' → (M' 249 = M 249 ∧ M' 250 = M 250 ∧ M' 235 = M 235) → xLK (mvw M) (mvw M') → Q (.inl (some (.int r))) (M', z, u)) : mq_R mq_PP d 158 0 [some (.ref 234)] [] (M, z, u) Q := by
  obtain ⟨l0, l1, l2, l3, l4, l5⟩ := hl
  have hW : ∀ b ∈ mz_q182.2.2.2.2.2, 234 ≤ b ∧ b < 271 := by decide +kernel
  refine ly_mculprit (ha_all (mz_q182, 1) (List.mem_of_getElem? (show mz_Cs[182]? = _ from rfl))) (by omega) hz hm hx ?_
  · intro M' r b1 b2 b3 b4 b5
    have e9 : hv M' 33 3 = hv M 33 3 := b5 9 (33, 3) rfl rfl
    have e10 : hv M' 33 5 = hv M 33 5 := b5 10 (33, 5) rfl rfl
    have e24 : hv M' 234 30 = hv M 234 30 := b5 24 (234, 30) rfl rfl
    have e33 : hv M' 257 0 = hv M 257 0 := b5 33 (257, 0) rfl rfl
    have e0 : hv M' 8 4 = hv M 8 4 := b5 0 (8, 4) rfl rfl
    have e12 : hv M' 44 0 = hv M 44 0 := b5 12 (44, 0) rfl rfl
    have e13 : hv M' 44 1 = hv M 44 1 := b5 13 (44, 1) rfl rfl
    have e14 : hv M' 44 3 = hv M 44 3 := b5 14 (44, 3) rfl rfl
    have e28 : hv M' 234 57 = hv M 234 57 := b5 28 (234, 57) rfl rfl
    have e17 : hv M' 234 15 = hv M 234 15 := b5 17 (234, 15) rfl rfl
    have e18 : hv M' 234 17 = hv M 234 17 := b5 18 (234, 17) rfl rfl
    have e19 : hv M' 234 19 = hv M 234 19 := b5 19 (234, 19) rfl rfl
    exact k M' r b1 b2 ⟨by omega, by omega, by omega, by omega, by omega, by omega⟩ b4 (b3 271 (by decide) (by decide +kernel)) (fun a ha => b3 a (by omega) (lx_el (fun h => by have := hW a h; omega))) ⟨⟨e17, e18, e19⟩, b3 251 (by decide) (by decide +kernel), b3 236 (by decide) (by decide +kernel), b3 237 (by decide) (by decide +kernel)⟩ ⟨b3 249 (by decide) (by decide +kernel), b3 250 (by decide) (by decide +kernel), b3 235 (by decide) (by decide +kernel)⟩ (xLK_m e24 ⟨b3 257 (by decide) (by decide +kernel), b3 258 (by decide) (by decide +kernel), b3 259 (by decide) (by decide +kernel), b3 260 (by decide) (by decide +kernel)⟩)
theorem ly_mtype {X : (Nat → mq_C) → Prop} (hq : mz_Ct mz_GG mq_PP X mz_q183 2) {d z u : Nat} {M : Nat → mq_C} {Q : (Option Value ⊕ Nat) → mq_S → Prop} {x1 : Int32} {x2 : Int32} (hd : 2 ≤ d) (hz : 272 ≤ z) (hm : mz_sh mz_GG M) (hx : X M)
    (w0 : ∀ (M' : Nat → mq_C) (r : Int32), mz_sh mz_GG M' → X M' → mz_fr mz_q183 M M' → (∀ a, a < 8 → M' a = M a) → hb_same mz_GG mz_q183 M M' → Q (.inl (some (.int r))) (M', z, u)) : mq_R mq_PP d 159 0 [some (.ref 234), some (.int x1), some (.int x2)] [] (M, z, u) Q := by
  refine hb_use mz_GG mq_PP X (q := mz_q183) (vs := [.ref 234, .int x1, .int x2]) hq (by decide +kernel) hd (show hb_pk mz_GG [(1, 234), (0, 0), (0, 0)] _ from ⟨⟨List.mem_singleton.mpr rfl, rfl⟩, trivial, trivial, trivial⟩) hm hx hz ?_ ?_
  · exact hb_nil
  · intro r S hpo
    obtain ⟨b1, b2, b3, b4, b5, p, hp, res, hf, hre⟩ := hpo
    rcases List.mem_cons.mp hp with rfl | hp
    · obtain ⟨x, rfl, hr, hz1, hu1⟩ := mz_re_0 mz_GG hre rfl
      obtain ⟨M', z', u'⟩ := S
      cases hz1
      cases hu1
      exact w0 M' x b1 b2 b3 b4 b5 
    cases hp
theorem lu_mtype {d z u : Nat} {M : Nat → mq_C} {Q : (Option Value ⊕ Nat) → mq_S → Prop} {x1 : Int32} {x2 : Int32} (hd : 9 ≤ d) (hz : 272 ≤ z) (hm : mz_sh mz_GG M) (hx : HX M) (hl : lw M)
    (k : ∀ (M' : Nat → mq_C) (r : Int32), mz_sh mz_GG M' → HX M' → lw M' → (∀ a, a < 8 → M' a = M a) → M' 271 = M 271 → (∀ a, a < 234 → M' a = M a) → lms M M' → (M' 249 = M 249 ∧ M' 250 = M 250 ∧ M' 235 = M 235) → xLK (mvw M) (mvw M') → Q (.inl (some (.int r))) (M', z, u)) : mq_R mq_PP d 159 0 [some (.ref 234), some (.int x1), some (.int x2)] [] (M, z, u) Q := by
  obtain ⟨l0, l1, l2, l3, l4, l5⟩ := hl
  have hW : ∀ b ∈ mz_q183.2.2.2.2.2, 234 ≤ b ∧ b < 271 := by decide +kernel
  refine ly_mtype (ha_all (mz_q183, 2) (List.mem_of_getElem? (show mz_Cs[183]? = _ from rfl))) (by omega) hz hm hx ?_
  · intro M' r b1 b2 b3 b4 b5
    have e9 : hv M' 33 3 = hv M 33 3 := b5 9 (33, 3) rfl rfl
    have e10 : hv M' 33 5 = hv M 33 5 := b5 10 (33, 5) rfl rfl
    have e24 : hv M' 234 30 = hv M 234 30 := b5 24 (234, 30) rfl rfl
    have e33 : hv M' 257 0 = hv M 257 0 := b5 33 (257, 0) rfl rfl
    have e0 : hv M' 8 4 = hv M 8 4 := b5 0 (8, 4) rfl rfl
    have e12 : hv M' 44 0 = hv M 44 0 := b5 12 (44, 0) rfl rfl
    have e13 : hv M' 44 1 = hv M 44 1 := b5 13 (44, 1) rfl rfl
    have e14 : hv M' 44 3 = hv M 44 3 := b5 14 (44, 3) rfl rfl
    have e28 : hv M' 234 57 = hv M 234 57 := b5 28 (234, 57) rfl rfl
    have e17 : hv M' 234 15 = hv M 234 15 := b5 17 (234, 15) rfl rfl
    have e18 : hv M' 234 17 = hv M 234 17 := b5 18 (234, 17) rfl rfl
    have e19 : hv M' 234 19 = hv M 234 19 := b5 19 (234, 19) rfl rfl
    exact k M' r b1 b2 ⟨by omega, by omega, by omega, by omega, by omega, by omega⟩ b4 (b3 271 (by decide) (by decide +kernel)) (fun a ha => b3 a (by omega) (lx_el (fun h => by have := hW a h; omega))) ⟨⟨e17, e18, e19⟩, b3 251 (by decide) (by decide +kernel), b3 236 (by decide) (by decide +kernel), b3 237 (by decide) (by decide +kernel)⟩ ⟨b3 249 (by decide) (by decide +kernel), b3 250 (by decide) (by decide +kernel), b3 235 (by decide) (by decide +kernel)⟩ (xLK_m e24 ⟨b3 257 (by decide) (by decide +kernel), b3 258 (by decide) (by decide +kernel), b3 259 (by decide) (by decide +kernel), b3 260 (by decide) (by decide +kernel)⟩)
theorem ly_mall {X : (Nat → mq_C) → Prop} (hq : mz_Ct mz_GG mq_PP X mz_q185 12) {d z u : Nat} {M : Nat → mq_C} {Q : (Option Value ⊕ Nat) → mq_S → Prop} {x1 : Int32} {x2 : Int32} {x3 : Int32} (hd : 12 ≤ d) (hz : 272 ≤ z) (hm : mz_sh mz_GG M) (hx : X M) (p0 : 0 ≤ 0 - hv M 234 30 - 4 * hv M 257 0)
    (w0 : ∀ (M' : Nat → mq_C) (r : Int32), mz_sh mz_GG M' → X M' → mz_fr mz_q185 M M' → (∀ a, a < 8 → M' a = M a) → hb_same mz_GG mz_q185 M M' → Q (.inl (some (.int r))) (M', z, u)) : mq_R mq_PP d 161 0 [some (.ref 234), some (.int x1), some (.int x2), some (.int x3)] [] (M, z, u) Q := by
  refine hb_use mz_GG mq_PP X (q := mz_q185) (vs := [.ref 234, .int x1, .int x2, .int x3]) hq (by decide +kernel) hd (show hb_pk mz_GG [(1, 234), (0, 0), (0, 0), (0, 0)] _ from ⟨⟨List.mem_singleton.mpr rfl, rfl⟩, trivial, trivial, trivial, trivial⟩) hm hx hz ?_ ?_
  · exact hb_cons (show 0 ≤ mz_ev _ _ from (show 0 ≤ 0 + ((-1) * hv M 234 30 + ((-4) * hv M 257 0 + 0)) by omega)) (hb_nil)
  · intro r S hpo
    obtain ⟨b1, b2, b3, b4, b5, p, hp, res, hf, hre⟩ := hpo
    rcases List.mem_cons.mp hp with rfl | hp
    · obtain ⟨x, rfl, hr, hz1, hu1⟩ := mz_re_0 mz_GG hre rfl
      obtain ⟨M', z', u'⟩ := S
      cases hz1
      cases hu1
      exact w0 M' x b1 b2 b3 b4 b5 
    cases hp
theorem lu_mall {d z u : Nat} {M : Nat → mq_C} {Q : (Option Value ⊕ Nat) → mq_S → Prop} {x1 : Int32} {x2 : Int32} {x3 : Int32} (hd : 12 ≤ d) (hz : 272 ≤ z) (hm : mz_sh mz_GG M) (hx : HX M) (hl : lw M)
    (k : ∀ (M' : Nat → mq_C) (r : Int32), mz_sh mz_GG M' → HX M' → lw M' → (∀ a, a < 8 → M' a = M a) → M' 271 = M 271 → (∀ a, a < 234 → M' a = M a) → lms M M' → (M' 249 = M 249 ∧ M' 250 = M 250 ∧ M' 235 = M 235) → xLK (mvw M) (mvw M') → Q (.inl (some (.int r))) (M', z, u)) : mq_R mq_PP d 161 0 [some (.ref 234), some (.int x1), some (.int x2), some (.int x3)] [] (M, z, u) Q := by
  obtain ⟨l0, l1, l2, l3, l4, l5⟩ := hl
  have hW : ∀ b ∈ mz_q185.2.2.2.2.2, 234 ≤ b ∧ b < 271 := by decide +kernel
  refine ly_mall (ha_all (mz_q185, 12) (List.mem_of_getElem? (show mz_Cs[185]? = _ from rfl))) (by omega) hz hm hx (by omega) ?_
  · intro M' r b1 b2 b3 b4 b5
    have e9 : hv M' 33 3 = hv M 33 3 := b5 9 (33, 3) rfl rfl
    have e10 : hv M' 33 5 = hv M 33 5 := b5 10 (33, 5) rfl rfl
    have e24 : hv M' 234 30 = hv M 234 30 := b5 24 (234, 30) rfl rfl
    have e33 : hv M' 257 0 = hv M 257 0 := b5 33 (257, 0) rfl rfl
    have e0 : hv M' 8 4 = hv M 8 4 := b5 0 (8, 4) rfl rfl
    have e12 : hv M' 44 0 = hv M 44 0 := b5 12 (44, 0) rfl rfl
    have e13 : hv M' 44 1 = hv M 44 1 := b5 13 (44, 1) rfl rfl
    have e14 : hv M' 44 3 = hv M 44 3 := b5 14 (44, 3) rfl rfl
    have e28 : hv M' 234 57 = hv M 234 57 := b5 28 (234, 57) rfl rfl
    have e17 : hv M' 234 15 = hv M 234 15 := b5 17 (234, 15) rfl rfl
    have e18 : hv M' 234 17 = hv M 234 17 := b5 18 (234, 17) rfl rfl
    have e19 : hv M' 234 19 = hv M 234 19 := b5 19 (234, 19) rfl rfl
    exact k M' r b1 b2 ⟨by omega, by omega, by omega, by omega, by omega, by omega⟩ b4 (b3 271 (by decide) (by decide +kernel)) (fun a ha => b3 a (by omega) (lx_el (fun h => by have := hW a h; omega))) ⟨⟨e17, e18, e19⟩, b3 251 (by decide) (by decide +kernel), b3 236 (by decide) (by decide +kernel), b3 237 (by decide) (by decide +kernel)⟩ ⟨b3 249 (by decide) (by decide +kernel), b3 250 (by decide) (by decide +kernel), b3 235 (by decide) (by decide +kernel)⟩ (xLK_m e24 ⟨b3 257 (by decide) (by decide +kernel), b3 258 (by decide) (by decide +kernel), b3 259 (by decide) (by decide +kernel), b3 260 (by decide) (by decide +kernel)⟩)
theorem lv_mall {d z u : Nat} {M : Nat → mq_C} {Q : (Option Value ⊕ Nat) → mq_S → Prop} {x1 : Int32} {x2 : Int32} {x3 : Int32} (hd : 13 ≤ d) (hz : 272 ≤ z) (hm : mz_sh mz_GG M) (hx : HX M) (hl : lw M) {N : Nat → mq_C} (hN : mz_sh mz_GG N) (hE7 : xEA N) (hb7 : ∀ s : Nat, s < 4 → xrd (xcbt N s) (xcl N s) = xrd (ybt M s) (hv M 236 s).toNat) (hL7 : xLE (cvw N) (mvw M))
    (k : ∀ (M' : Nat → mq_C) (r : Int32), mz_sh mz_GG M' → HX M' → lw M' → (∀ a, a < 8 → M' a = M a) → M' 271 = M 271 → (∀ a, a < 234 → M' a = M a) → lms M M' → (M' 249 = M 249 ∧ M' 250 = M 250 ∧ M' 235 = M 235) → r.toInt = xcal N x1.toInt x2 x3.toInt → xLK (mvw M) (mvw M') → Q (.inl (some (.int r))) (M', z, u)) : mq_R mq_PP d 161 0 [some (.ref 234), some (.int x1), some (.int x2), some (.int x3)] [] (M, z, u) Q := by
  refine mq_R_mono (lx_and (Q := fun r' S' => ∃ (M' : Nat → mq_C) (r : Int32), r' = .inl (some (.int r)) ∧ S' = (M', z, u) ∧ mz_sh mz_GG M' ∧ HX M' ∧ lw M' ∧ (∀ a, a < 8 → M' a = M a) ∧ M' 271 = M 271 ∧ (∀ a, a < 234 → M' a = M a) ∧ lms M M' ∧ (M' 249 = M 249 ∧ M' 250 = M 250 ∧ M' 235 = M 235) ∧ xLK (mvw M) (mvw M')) (Q' := fun r' S' => ∃ (M' : Nat → mq_C) (r : Int32), r' = .inl (some (.int r)) ∧ S' = (M', z, u) ∧ r.toInt = xcal N x1.toInt x2 x3.toInt) ?_ ?_) ?_
  · refine lu_mall (by omega) hz hm hx hl ?_
    exact fun M' r b1 b2 b3 b4 b5 b6 b7 b8 bL => ⟨M', r, rfl, rfl, b1, b2, b3, b4, b5, b6, b7, b8, bL⟩
  · obtain ⟨d, rfl⟩ : ∃ e, d = e + 10 := ⟨d - 10, by omega⟩
    exact ym_all2 hm hN hE7 hb7 hL7 (fun M' r h => ⟨M', r, rfl, rfl, h⟩)
  · rintro r' S' ⟨⟨M', r, rfl, rfl, b1, b2, b3, b4, b5, b6, b7, b8, bL⟩, M2, r2, e1, e2, h⟩
    cases e1
    cases e2
    exact k M' r b1 b2 b3 b4 b5 b6 b7 b8 h bL
theorem ly_mcontent {X : (Nat → mq_C) → Prop} (hq : mz_Ct mz_GG mq_PP X mz_q187 11) {d z u : Nat} {M : Nat → mq_C} {Q : (Option Value ⊕ Nat) → mq_S → Prop} {x1 : Int32} {x2 : Int32} (hd : 11 ≤ d) (hz : 272 ≤ z) (hm : mz_sh mz_GG M) (hx : X M)
    (w0 : ∀ (M' : Nat → mq_C) (r : Int32), mz_sh mz_GG M' → X M' → mz_fr mz_q187 M M' → (∀ a, a < 8 → M' a = M a) → hb_same mz_GG mz_q187 M M' → Q (.inl (some (.int r))) (M', z, u)) : mq_R mq_PP d 163 0 [some (.ref 234), some (.int x1), some (.int x2)] [] (M, z, u) Q := by
  refine hb_use mz_GG mq_PP X (q := mz_q187) (vs := [.ref 234, .int x1, .int x2]) hq (by decide +kernel) hd (show hb_pk mz_GG [(1, 234), (0, 0), (0, 0)] _ from ⟨⟨List.mem_singleton.mpr rfl, rfl⟩, trivial, trivial, trivial⟩) hm hx hz ?_ ?_
  · exact hb_nil
  · intro r S hpo
    obtain ⟨b1, b2, b3, b4, b5, p, hp, res, hf, hre⟩ := hpo
    rcases List.mem_cons.mp hp with rfl | hp
    · obtain ⟨x, rfl, hr, hz1, hu1⟩ := mz_re_0 mz_GG hre rfl
      obtain ⟨M', z', u'⟩ := S
      cases hz1
      cases hu1
      exact w0 M' x b1 b2 b3 b4 b5 
    cases hp
theorem lu_mcontent {d z u : Nat} {M : Nat → mq_C} {Q : (Option Value ⊕ Nat) → mq_S → Prop} {x1 : Int32} {x2 : Int32} (hd : 11 ≤ d) (hz : 272 ≤ z) (hm : mz_sh mz_GG M) (hx : HX M) (hl : lw M)
    (k : ∀ (M' : Nat → mq_C) (r : Int32), mz_sh mz_GG M' → HX M' → lw M' → (∀ a, a < 8 → M' a = M a) → M' 271 = M 271 → (∀ a, a < 234 → M' a = M a) → lms M M' → (M' 249 = M 249 ∧ M' 250 = M 250 ∧ M' 235 = M 235) → xLK (mvw M) (mvw M') → Q (.inl (some (.int r))) (M', z, u)) : mq_R mq_PP d 163 0 [some (.ref 234), some (.int x1), some (.int x2)] [] (M, z, u) Q := by
  obtain ⟨l0, l1, l2, l3, l4, l5⟩ := hl
  have hW : ∀ b ∈ mz_q187.2.2.2.2.2, 234 ≤ b ∧ b < 271 := by decide +kernel
  refine ly_mcontent (ha_all (mz_q187, 11) (List.mem_of_getElem? (show mz_Cs[187]? = _ from rfl))) (by omega) hz hm hx ?_
  · intro M' r b1 b2 b3 b4 b5
    have e9 : hv M' 33 3 = hv M 33 3 := b5 9 (33, 3) rfl rfl
    have e10 : hv M' 33 5 = hv M 33 5 := b5 10 (33, 5) rfl rfl
    have e24 : hv M' 234 30 = hv M 234 30 := b5 24 (234, 30) rfl rfl
    have e33 : hv M' 257 0 = hv M 257 0 := b5 33 (257, 0) rfl rfl
    have e0 : hv M' 8 4 = hv M 8 4 := b5 0 (8, 4) rfl rfl
    have e12 : hv M' 44 0 = hv M 44 0 := b5 12 (44, 0) rfl rfl
    have e13 : hv M' 44 1 = hv M 44 1 := b5 13 (44, 1) rfl rfl
    have e14 : hv M' 44 3 = hv M 44 3 := b5 14 (44, 3) rfl rfl
    have e28 : hv M' 234 57 = hv M 234 57 := b5 28 (234, 57) rfl rfl
    have e17 : hv M' 234 15 = hv M 234 15 := b5 17 (234, 15) rfl rfl
    have e18 : hv M' 234 17 = hv M 234 17 := b5 18 (234, 17) rfl rfl
    have e19 : hv M' 234 19 = hv M 234 19 := b5 19 (234, 19) rfl rfl
    exact k M' r b1 b2 ⟨by omega, by omega, by omega, by omega, by omega, by omega⟩ b4 (b3 271 (by decide) (by decide +kernel)) (fun a ha => b3 a (by omega) (lx_el (fun h => by have := hW a h; omega))) ⟨⟨e17, e18, e19⟩, b3 251 (by decide) (by decide +kernel), b3 236 (by decide) (by decide +kernel), b3 237 (by decide) (by decide +kernel)⟩ ⟨b3 249 (by decide) (by decide +kernel), b3 250 (by decide) (by decide +kernel), b3 235 (by decide) (by decide +kernel)⟩ (xLK_m e24 ⟨b3 257 (by decide) (by decide +kernel), b3 258 (by decide) (by decide +kernel), b3 259 (by decide) (by decide +kernel), b3 260 (by decide) (by decide +kernel)⟩)
theorem ly_mservices {X : (Nat → mq_C) → Prop} (hq : mz_Ct mz_GG mq_PP X la_qs 16) {d z u : Nat} {M : Nat → mq_C} {Q : (Option Value ⊕ Nat) → mq_S → Prop} {x1 : Int32} {x2 : Int32} (hd : 16 ≤ d) (hz : 272 ≤ z) (hm : mz_sh mz_GG M) (hx : X M) (p0 : 0 ≤ 0 - hv M 234 30 - 4 * hv M 257 0) (p1 : 0 ≤ (-1) + hv M 234 30 - hv M 234 57)
    (w0 : ∀ (M' : Nat → mq_C) (r : Int32), mz_sh mz_GG M' → X M' → mz_fr la_qs M M' → (∀ a, a < 8 → M' a = M a) → hb_same mz_GG la_qs M M' → 0 ≤ (-1) + hv M 234 30 - hv M' 234 57 → Q (.inl (some (.int r))) (M', z, u)) : mq_R mq_PP d 164 0 [some (.ref 234), some (.int x1), some (.int x2), none, none] [] (M, z, u) Q := by
  refine hb_use mz_GG mq_PP X (q := la_qs) (vs := [.ref 234, .int x1, .int x2]) hq (by decide +kernel) hd (show hb_pk mz_GG [(1, 234), (0, 0), (0, 0)] _ from ⟨⟨List.mem_singleton.mpr rfl, rfl⟩, trivial, trivial, trivial⟩) hm hx hz ?_ ?_
  · exact hb_cons (show 0 ≤ mz_ev _ _ from (show 0 ≤ 0 + ((-1) * hv M 234 30 + ((-4) * hv M 257 0 + 0)) by omega)) (hb_cons (show 0 ≤ mz_ev _ _ from (show 0 ≤ -1 + (1 * hv M 234 30 + ((-1) * hv M 234 57 + 0)) by omega)) (hb_nil))
  · intro r S hpo
    obtain ⟨b1, b2, b3, b4, b5, p, hp, res, hf, hre⟩ := hpo
    rcases List.mem_cons.mp hp with rfl | hp
    · obtain ⟨x, rfl, hr, hz1, hu1⟩ := mz_re_0 mz_GG hre rfl
      obtain ⟨M', z', u'⟩ := S
      cases hz1
      cases hu1
      obtain ⟨f0, hf⟩ := hb_unc hf
      have f0 : 0 ≤ -1 + (1 * hv M 234 30 + ((-1) * hv M' 234 57 + 0)) := f0
      exact w0 M' x b1 b2 b3 b4 b5 (by have h1 := f0; omega)
    cases hp
theorem lu_mservices {d z u : Nat} {M : Nat → mq_C} {Q : (Option Value ⊕ Nat) → mq_S → Prop} {x1 : Int32} {x2 : Int32} (hd : 16 ≤ d) (hz : 272 ≤ z) (hm : mz_sh mz_GG M) (hx : HX M) (hl : lw M)
    (k : ∀ (M' : Nat → mq_C) (r : Int32), mz_sh mz_GG M' → HX M' → lw M' → (∀ a, a < 8 → M' a = M a) → M' 271 = M 271 → (∀ a, a < 234 → M' a = M a) → lms M M' → (M' 249 = M 249 ∧ M' 250 = M 250 ∧ M' 235 = M 235) → xLK (mvw M) (mvw M') → Q (.inl (some (.int r))) (M', z, u)) : mq_R mq_PP d 164 0 [some (.ref 234), some (.int x1), some (.int x2), none, none] [] (M, z, u) Q := by
  obtain ⟨l0, l1, l2, l3, l4, l5⟩ := hl
  have hW : ∀ b ∈ la_qs.2.2.2.2.2, 234 ≤ b ∧ b < 271 := by decide +kernel
  refine ly_mservices la_srv (by omega) hz hm hx (by omega) (by omega) ?_
  · intro M' r b1 b2 b3 b4 b5 f0
    have e9 : hv M' 33 3 = hv M 33 3 := b5 9 (33, 3) rfl rfl
    have e10 : hv M' 33 5 = hv M 33 5 := b5 10 (33, 5) rfl rfl
    have e24 : hv M' 234 30 = hv M 234 30 := b5 24 (234, 30) rfl rfl
    have e33 : hv M' 257 0 = hv M 257 0 := b5 33 (257, 0) rfl rfl
    have e0 : hv M' 8 4 = hv M 8 4 := b5 0 (8, 4) rfl rfl
    have e12 : hv M' 44 0 = hv M 44 0 := b5 12 (44, 0) rfl rfl
    have e13 : hv M' 44 1 = hv M 44 1 := b5 13 (44, 1) rfl rfl
    have e14 : hv M' 44 3 = hv M 44 3 := b5 14 (44, 3) rfl rfl
    have e17 : hv M' 234 15 = hv M 234 15 := b5 17 (234, 15) rfl rfl
    have e18 : hv M' 234 17 = hv M 234 17 := b5 18 (234, 17) rfl rfl
    have e19 : hv M' 234 19 = hv M 234 19 := b5 19 (234, 19) rfl rfl
    exact k M' r b1 b2 ⟨by omega, by omega, by omega, by omega, by omega, by omega⟩ b4 (b3 271 (by decide) (by decide +kernel)) (fun a ha => b3 a (by omega) (lx_el (fun h => by have := hW a h; omega))) ⟨⟨e17, e18, e19⟩, b3 251 (by decide) (by decide +kernel), b3 236 (by decide) (by decide +kernel), b3 237 (by decide) (by decide +kernel)⟩ ⟨b3 249 (by decide) (by decide +kernel), b3 250 (by decide) (by decide +kernel), b3 235 (by decide) (by decide +kernel)⟩ (xLK_m e24 ⟨b3 257 (by decide) (by decide +kernel), b3 258 (by decide) (by decide +kernel), b3 259 (by decide) (by decide +kernel), b3 260 (by decide) (by decide +kernel)⟩)
theorem ly_mnext {X : (Nat → mq_C) → Prop} (hq : mz_Ct mz_GG mq_PP X mz_q193 15) {d z u : Nat} {M : Nat → mq_C} {Q : (Option Value ⊕ Nat) → mq_S → Prop}  (hd : 15 ≤ d) (hz : 272 ≤ z) (hm : mz_sh mz_GG M) (hx : X M) (p0 : 0 ≤ 0 - hv M 234 30 - 4 * hv M 257 0) (p1 : 0 ≤ (-1) + hv M 234 30 - hv M 234 57)
    (w0 : ∀ (M' : Nat → mq_C) (r : Int32), mz_sh mz_GG M' → X M' → mz_fr mz_q193 M M' → (∀ a, a < 8 → M' a = M a) → hb_same mz_GG mz_q193 M M' → Q (.inl (some (.int r))) (M', z, u)) : mq_R mq_PP d 169 0 [some (.ref 234), none, none] [] (M, z, u) Q := by
  refine hb_use mz_GG mq_PP X (q := mz_q193) (vs := [.ref 234]) hq (by decide +kernel) hd (show hb_pk mz_GG [(1, 234)] _ from ⟨⟨List.mem_singleton.mpr rfl, rfl⟩, trivial⟩) hm hx hz ?_ ?_
  · exact hb_cons (show 0 ≤ mz_ev _ _ from (show 0 ≤ 0 + ((-1) * hv M 234 30 + ((-4) * hv M 257 0 + 0)) by omega)) (hb_cons (show 0 ≤ mz_ev _ _ from (show 0 ≤ -1 + (1 * hv M 234 30 + ((-1) * hv M 234 57 + 0)) by omega)) (hb_nil))
  · intro r S hpo
    obtain ⟨b1, b2, b3, b4, b5, p, hp, res, hf, hre⟩ := hpo
    rcases List.mem_cons.mp hp with rfl | hp
    · obtain ⟨x, rfl, hr, hz1, hu1⟩ := mz_re_0 mz_GG hre rfl
      obtain ⟨M', z', u'⟩ := S
      cases hz1
      cases hu1
      exact w0 M' x b1 b2 b3 b4 b5 
    cases hp
theorem lu_mnext {d z u : Nat} {M : Nat → mq_C} {Q : (Option Value ⊕ Nat) → mq_S → Prop}  (hd : 15 ≤ d) (hz : 272 ≤ z) (hm : mz_sh mz_GG M) (hx : HX M) (hl : lw M)
    (k : ∀ (M' : Nat → mq_C) (r : Int32), mz_sh mz_GG M' → HX M' → lw M' → (∀ a, a < 8 → M' a = M a) → M' 271 = M 271 → (∀ a, a < 234 → M' a = M a) → lms M M' → (M' 249 = M 249 ∧ M' 250 = M 250 ∧ M' 235 = M 235) → xLK (mvw M) (mvw M') → Q (.inl (some (.int r))) (M', z, u)) : mq_R mq_PP d 169 0 [some (.ref 234), none, none] [] (M, z, u) Q := by
  obtain ⟨l0, l1, l2, l3, l4, l5⟩ := hl
  have hW : ∀ b ∈ mz_q193.2.2.2.2.2, 234 ≤ b ∧ b < 271 := by decide +kernel
  refine ly_mnext (ha_all (mz_q193, 15) (List.mem_of_getElem? (show mz_Cs[193]? = _ from rfl))) (by omega) hz hm hx (by omega) (by omega) ?_
  · intro M' r b1 b2 b3 b4 b5
    have e9 : hv M' 33 3 = hv M 33 3 := b5 9 (33, 3) rfl rfl
    have e10 : hv M' 33 5 = hv M 33 5 := b5 10 (33, 5) rfl rfl
    have e24 : hv M' 234 30 = hv M 234 30 := b5 24 (234, 30) rfl rfl
    have e33 : hv M' 257 0 = hv M 257 0 := b5 33 (257, 0) rfl rfl
    have e0 : hv M' 8 4 = hv M 8 4 := b5 0 (8, 4) rfl rfl
    have e12 : hv M' 44 0 = hv M 44 0 := b5 12 (44, 0) rfl rfl
    have e13 : hv M' 44 1 = hv M 44 1 := b5 13 (44, 1) rfl rfl
    have e14 : hv M' 44 3 = hv M 44 3 := b5 14 (44, 3) rfl rfl
    have e28 : hv M' 234 57 = hv M 234 57 := b5 28 (234, 57) rfl rfl
    have e17 : hv M' 234 15 = hv M 234 15 := b5 17 (234, 15) rfl rfl
    have e18 : hv M' 234 17 = hv M 234 17 := b5 18 (234, 17) rfl rfl
    have e19 : hv M' 234 19 = hv M 234 19 := b5 19 (234, 19) rfl rfl
    exact k M' r b1 b2 ⟨by omega, by omega, by omega, by omega, by omega, by omega⟩ b4 (b3 271 (by decide) (by decide +kernel)) (fun a ha => b3 a (by omega) (lx_el (fun h => by have := hW a h; omega))) ⟨⟨e17, e18, e19⟩, b3 251 (by decide) (by decide +kernel), b3 236 (by decide) (by decide +kernel), b3 237 (by decide) (by decide +kernel)⟩ ⟨b3 249 (by decide) (by decide +kernel), b3 250 (by decide) (by decide +kernel), b3 235 (by decide) (by decide +kernel)⟩ (xLK_m e24 ⟨b3 257 (by decide) (by decide +kernel), b3 258 (by decide) (by decide +kernel), b3 259 (by decide) (by decide +kernel), b3 260 (by decide) (by decide +kernel)⟩)
