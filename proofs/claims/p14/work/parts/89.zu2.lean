/-! More of them (printed by b_law2.py). -/
theorem lv_content {d z u : Nat} {M : Nat → mq_C} {Q : (Option Value ⊕ Nat) → mq_S → Prop} {x1 : Int32} {x2 : Int32} (hd : 9 ≤ d) (hz : 272 ≤ z) (hm : mz_sh mz_GG M) (hx : HX M) (hl : lw M)
    (k : ∀ (M' : Nat → mq_C) (r : Int32), mz_sh mz_GG M' → HX M' → lw M' → (∀ a, a < 8 → M' a = M a) → M' 271 = M 271 → (∀ a, 234 ≤ a → a < 271 → M' a = M a) → lcs M M' → (c6_kp M M' ∧ c6_al M M') → l6tb M M' → x47 M M' → xLK (cvw M) (cvw M') → Q (.inl (some (.int r))) (M', z, u)) : mq_R mq_PP d 14 0 [some (.ref 8), some (.int x1), some (.int x2)] [] (M, z, u) Q := by
  rw [← mq_e14]
  refine fz_R (by decide) hm hz (fun b hb => ?_) ?_
  · simp at hb
    subst hb
    decide
  rw [mq_e14]
  refine lu_content (by omega) hz hm hx hl ?_
  · exact fun M' r b1 b2 b3 b4 b5 b6 b7 b8 b9 bL hT => k M' r b1 b2 b3 b4 b5 b6 b7 b8 hT b9 bL
theorem ly_services {X : (Nat → mq_C) → Prop} (hq : mz_Ct mz_GG mq_PP X mz_q196 161) {d z u : Nat} {M : Nat → mq_C} {Q : (Option Value ⊕ Nat) → mq_S → Prop} {x1 : Int32} {x2 : Int32} (hd : 161 ≤ d) (hz : 272 ≤ z) (hm : mz_sh mz_GG M) (hx : X M) (p0 : 0 ≤ (-1) + hv M 8 4 - hv M 44 0) (p1 : 0 ≤ 16 + 16 * hv M 44 0 - hv M 44 3) (p2 : 0 ≤ 16 + 16 * hv M 44 1 - hv M 44 3)
    (w0 : ∀ (M' : Nat → mq_C) (r : Int32), mz_sh mz_GG M' → X M' → mz_fr mz_q196 M M' → (∀ a, a < 8 → M' a = M a) → hb_same mz_GG mz_q196 M M' → 0 ≤ (-1) + hv M 8 4 - hv M' 44 0 → 0 ≤ 16 + 16 * hv M' 44 0 - hv M' 44 3 → 0 ≤ 16 + 16 * hv M' 44 1 - hv M' 44 3 → Q (.inl (some (.int r))) (M', z, u))
    (w1 : ∀ (M' : Nat → mq_C), mz_sh mz_GG M' → X M' → mz_fr mz_q196 M M' → (∀ a, a < 8 → M' a = M a) → hb_same mz_GG mz_q196 M M' → (M' z).1 = 10 → 0 ≤ (-1) + hv M 8 4 - hv M' 44 0 → 0 ≤ 16 + 16 * hv M' 44 0 - hv M' 44 3 → 0 ≤ 16 + 16 * hv M' 44 1 - hv M' 44 3 → Q (.inr z) (M', z + 1, u + 6))
    (w2 : ∀ (M' : Nat → mq_C), mz_sh mz_GG M' → X M' → mz_fr mz_q196 M M' → (∀ a, a < 8 → M' a = M a) → hb_same mz_GG mz_q196 M M' → (M' z).1 = 11 → 0 ≤ (-1) + hv M 8 4 - hv M' 44 0 → 0 ≤ 16 + 16 * hv M' 44 0 - hv M' 44 3 → 0 ≤ 16 + 16 * hv M' 44 1 - hv M' 44 3 → Q (.inr z) (M', z + 1, u + 6))
    (w3 : ∀ (M' : Nat → mq_C), mz_sh mz_GG M' → X M' → mz_fr mz_q196 M M' → (∀ a, a < 8 → M' a = M a) → hb_same mz_GG mz_q196 M M' → (M' z).1 = 12 → 0 ≤ (-1) + hv M 8 4 - hv M' 44 0 → 0 ≤ 16 + 16 * hv M' 44 0 - hv M' 44 3 → 0 ≤ 16 + 16 * hv M' 44 1 - hv M' 44 3 → Q (.inr z) (M', z + 1, u + 6))
    (w4 : ∀ (M' : Nat → mq_C), mz_sh mz_GG M' → X M' → mz_fr mz_q196 M M' → (∀ a, a < 8 → M' a = M a) → hb_same mz_GG mz_q196 M M' → (M' z).1 = 13 → 0 ≤ (-1) + hv M 8 4 - hv M' 44 0 → 0 ≤ 16 + 16 * hv M' 44 0 - hv M' 44 3 → 0 ≤ 16 + 16 * hv M' 44 1 - hv M' 44 3 → Q (.inr z) (M', z + 1, u + 6))
    (w5 : ∀ (M' : Nat → mq_C), mz_sh mz_GG M' → X M' → mz_fr mz_q196 M M' → (∀ a, a < 8 → M' a = M a) → hb_same mz_GG mz_q196 M M' → (M' z).1 = 14 → 0 ≤ (-1) + hv M 8 4 - hv M' 44 0 → 0 ≤ 16 + 16 * hv M' 44 0 - hv M' 44 3 → 0 ≤ 16 + 16 * hv M' 44 1 - hv M' 44 3 → Q (.inr z) (M', z + 1, u + 6)) : mq_R mq_PP d 15 0 [some (.ref 8), some (.int x1), some (.int x2), none] [] (M, z, u) Q := by
  refine hb_use mz_GG mq_PP X (q := mz_q196) (vs := [.ref 8, .int x1, .int x2]) hq (by decide +kernel) hd (show hb_pk mz_GG [(1, 8), (0, 0), (0, 0)] _ from ⟨⟨List.mem_singleton.mpr rfl, rfl⟩, trivial, trivial, trivial⟩) hm hx hz ?_ ?_
  · exact hb_cons (show 0 ≤ mz_ev _ _ from (show 0 ≤ -1 + (1 * hv M 8 4 + ((-1) * hv M 44 0 + 0)) by omega)) (hb_cons (show 0 ≤ mz_ev _ _ from (show 0 ≤ 16 + (16 * hv M 44 0 + ((-1) * hv M 44 3 + 0)) by omega)) (hb_cons (show 0 ≤ mz_ev _ _ from (show 0 ≤ 16 + (16 * hv M 44 1 + ((-1) * hv M 44 3 + 0)) by omega)) (hb_nil)))
  · intro r S hpo
    obtain ⟨b1, b2, b3, b4, b5, p, hp, res, hf, hre⟩ := hpo
    rcases List.mem_cons.mp hp with rfl | hp
    · obtain ⟨x, rfl, hr, hz1, hu1⟩ := mz_re_0 mz_GG hre rfl
      obtain ⟨M', z', u'⟩ := S
      cases hz1
      cases hu1
      obtain ⟨f0, hf⟩ := hb_unc hf
      have f0 : 0 ≤ -1 + (1 * hv M 8 4 + ((-1) * hv M' 44 0 + 0)) := f0
      obtain ⟨f1, hf⟩ := hb_unc hf
      have f1 : 0 ≤ 16 + (16 * hv M' 44 0 + ((-1) * hv M' 44 3 + 0)) := f1
      obtain ⟨f2, hf⟩ := hb_unc hf
      have f2 : 0 ≤ 16 + (16 * hv M' 44 1 + ((-1) * hv M' 44 3 + 0)) := f2
      exact w0 M' x b1 b2 b3 b4 b5 (by have h1 := f0; omega) (by have h1 := f1; omega) (by have h1 := f2; omega)
    rcases List.mem_cons.mp hp with rfl | hp
    · obtain ⟨rfl, hk, hz1, hu1⟩ := mz_re_5 mz_GG hre rfl
      obtain ⟨M', z', u'⟩ := S
      cases hz1
      cases hu1
      obtain ⟨f0, hf⟩ := hb_unc hf
      have f0 : 0 ≤ -1 + (1 * hv M 8 4 + ((-1) * hv M' 44 0 + 0)) := f0
      obtain ⟨f1, hf⟩ := hb_unc hf
      have f1 : 0 ≤ 16 + (16 * hv M' 44 0 + ((-1) * hv M' 44 3 + 0)) := f1
      obtain ⟨f2, hf⟩ := hb_unc hf
      have f2 : 0 ≤ 16 + (16 * hv M' 44 1 + ((-1) * hv M' 44 3 + 0)) := f2
      exact w1 M' b1 b2 b3 b4 b5 hk (by have h1 := f0; omega) (by have h1 := f1; omega) (by have h1 := f2; omega)
    rcases List.mem_cons.mp hp with rfl | hp
    · obtain ⟨rfl, hk, hz1, hu1⟩ := mz_re_5 mz_GG hre rfl
      obtain ⟨M', z', u'⟩ := S
      cases hz1
      cases hu1
      obtain ⟨f0, hf⟩ := hb_unc hf
      have f0 : 0 ≤ -1 + (1 * hv M 8 4 + ((-1) * hv M' 44 0 + 0)) := f0
      obtain ⟨f1, hf⟩ := hb_unc hf
      have f1 : 0 ≤ 16 + (16 * hv M' 44 0 + ((-1) * hv M' 44 3 + 0)) := f1
      obtain ⟨f2, hf⟩ := hb_unc hf
      have f2 : 0 ≤ 16 + (16 * hv M' 44 1 + ((-1) * hv M' 44 3 + 0)) := f2
      exact w2 M' b1 b2 b3 b4 b5 hk (by have h1 := f0; omega) (by have h1 := f1; omega) (by have h1 := f2; omega)
    rcases List.mem_cons.mp hp with rfl | hp
    · obtain ⟨rfl, hk, hz1, hu1⟩ := mz_re_5 mz_GG hre rfl
      obtain ⟨M', z', u'⟩ := S
      cases hz1
      cases hu1
      obtain ⟨f0, hf⟩ := hb_unc hf
      have f0 : 0 ≤ -1 + (1 * hv M 8 4 + ((-1) * hv M' 44 0 + 0)) := f0
      obtain ⟨f1, hf⟩ := hb_unc hf
      have f1 : 0 ≤ 16 + (16 * hv M' 44 0 + ((-1) * hv M' 44 3 + 0)) := f1
      obtain ⟨f2, hf⟩ := hb_unc hf
      have f2 : 0 ≤ 16 + (16 * hv M' 44 1 + ((-1) * hv M' 44 3 + 0)) := f2
      exact w3 M' b1 b2 b3 b4 b5 hk (by have h1 := f0; omega) (by have h1 := f1; omega) (by have h1 := f2; omega)
    rcases List.mem_cons.mp hp with rfl | hp
    · obtain ⟨rfl, hk, hz1, hu1⟩ := mz_re_5 mz_GG hre rfl
      obtain ⟨M', z', u'⟩ := S
      cases hz1
      cases hu1
      obtain ⟨f0, hf⟩ := hb_unc hf
      have f0 : 0 ≤ -1 + (1 * hv M 8 4 + ((-1) * hv M' 44 0 + 0)) := f0
      obtain ⟨f1, hf⟩ := hb_unc hf
      have f1 : 0 ≤ 16 + (16 * hv M' 44 0 + ((-1) * hv M' 44 3 + 0)) := f1
      obtain ⟨f2, hf⟩ := hb_unc hf
      have f2 : 0 ≤ 16 + (16 * hv M' 44 1 + ((-1) * hv M' 44 3 + 0)) := f2
      exact w4 M' b1 b2 b3 b4 b5 hk (by have h1 := f0; omega) (by have h1 := f1; omega) (by have h1 := f2; omega)
    rcases List.mem_cons.mp hp with rfl | hp
    · obtain ⟨rfl, hk, hz1, hu1⟩ := mz_re_5 mz_GG hre rfl
      obtain ⟨M', z', u'⟩ := S
      cases hz1
      cases hu1
      obtain ⟨f0, hf⟩ := hb_unc hf
      have f0 : 0 ≤ -1 + (1 * hv M 8 4 + ((-1) * hv M' 44 0 + 0)) := f0
      obtain ⟨f1, hf⟩ := hb_unc hf
      have f1 : 0 ≤ 16 + (16 * hv M' 44 0 + ((-1) * hv M' 44 3 + 0)) := f1
      obtain ⟨f2, hf⟩ := hb_unc hf
      have f2 : 0 ≤ 16 + (16 * hv M' 44 1 + ((-1) * hv M' 44 3 + 0)) := f2
      exact w5 M' b1 b2 b3 b4 b5 hk (by have h1 := f0; omega) (by have h1 := f1; omega) (by have h1 := f2; omega)
    cases hp
theorem lu_services {d z u : Nat} {M : Nat → mq_C} {Q : (Option Value ⊕ Nat) → mq_S → Prop} {x1 : Int32} {x2 : Int32} (hd : 161 ≤ d) (hz : 272 ≤ z) (hm : mz_sh mz_GG M) (hx : HX M) (hl : lw M)
    (k : ∀ (M' : Nat → mq_C) (r : Int32), mz_sh mz_GG M' → HX M' → lw M' → (∀ a, a < 8 → M' a = M a) → M' 271 = M 271 → (∀ a, 234 ≤ a → a < 271 → M' a = M a) → lcs M M' → (c6_kp M M' ∧ c6_al M M') → x47 M M' → xLK (cvw M) (cvw M') → Q (.inl (some (.int r))) (M', z, u))
    (kt : ∀ (M' : Nat → mq_C), mz_sh mz_GG M' → HX M' → lw M' → (∀ a, a < 8 → M' a = M a) → M' 271 = M 271 → (∀ a, 234 ≤ a → a < 271 → M' a = M a) → lcs M M' → (c6_kp M M' ∧ c6_al M M') → x47 M M' → xLK (cvw M) (cvw M') → (M' z).1 = 10 ∨ (M' z).1 = 11 ∨ (M' z).1 = 12 ∨ (M' z).1 = 13 ∨ (M' z).1 = 14 → Q (.inr z) (M', z + 1, u + 6)) : mq_R mq_PP d 15 0 [some (.ref 8), some (.int x1), some (.int x2), none] [] (M, z, u) Q := by
  obtain ⟨l0, l1, l2, l3, l4, l5⟩ := hl
  have hW : ∀ b ∈ mz_q196.2.2.2.2.2, b < 234 := by decide +kernel
  have hW7 : ∀ b ∈ mz_q196.2.2.2.2.2, b < 47 ∨ 90 < b := by decide +kernel
  have hWL : ∀ b ∈ mz_q196.2.2.2.2.2, b < 91 ∨ 110 < b ∨ b % 5 = 3 ∨ b % 5 = 4 ∨ b % 5 = 0 := by decide +kernel
  refine ly_services (ha_all (mz_q196, 161) (List.mem_of_getElem? (show mz_Cs[196]? = _ from rfl))) (by omega) hz hm hx (by omega) (by omega) (by omega) ?_ ?_ ?_ ?_ ?_ ?_
  · intro M' r b1 b2 b3 b4 b5 f0 f1 f2
    have e9 : hv M' 33 3 = hv M 33 3 := b5 9 (33, 3) rfl rfl
    have e10 : hv M' 33 5 = hv M 33 5 := b5 10 (33, 5) rfl rfl
    have e24 : hv M' 234 30 = hv M 234 30 := b5 24 (234, 30) rfl rfl
    have e33 : hv M' 257 0 = hv M 257 0 := b5 33 (257, 0) rfl rfl
    have e0 : hv M' 8 4 = hv M 8 4 := b5 0 (8, 4) rfl rfl
    have e28 : hv M' 234 57 = hv M 234 57 := b5 28 (234, 57) rfl rfl
    have e8 : hv M' 33 1 = hv M 33 1 := b5 8 (33, 1) rfl rfl
    have e11 : hv M' 33 6 = hv M 33 6 := b5 11 (33, 6) rfl rfl
    exact k M' r b1 b2 ⟨by omega, by omega, by omega, by omega, by omega, by omega⟩ b4 (b3 271 (by decide) (by decide +kernel)) (fun a h1 h2 => b3 a (by omega) (lx_el (fun h => by have := hW a h; omega))) ⟨⟨e8, e9, e10, e11⟩, ⟨hb_vc (b3 47 (by decide) (by decide +kernel)) 1, hb_vc (b3 58 (by decide) (by decide +kernel)) 1, hb_vc (b3 69 (by decide) (by decide +kernel)) 1, hb_vc (b3 80 (by decide) (by decide +kernel)) 1⟩⟩ ⟨⟨b3 34 (by decide) (by decide +kernel), b3 35 (by decide) (by decide +kernel), b3 36 (by decide) (by decide +kernel)⟩, (fun s hs => by
      have h4 : s = 0 ∨ s = 1 ∨ s = 2 ∨ s = 3 := by omega
      rcases h4 with rfl | rfl | rfl | rfl
      · exact b3 48 (by decide) (by decide +kernel)
      · exact b3 59 (by decide) (by decide +kernel)
      · exact b3 70 (by decide) (by decide +kernel)
      · exact b3 81 (by decide) (by decide +kernel))⟩ (fun b p q => b3 b (by omega) (lx_el (fun h => by have := hW7 b h; omega))) (xLK_c e0 (fun i hi => ⟨b3 (91 + 5 * i) (by omega) (lx_el (fun h => by have := hWL _ h; omega)), b3 (92 + 5 * i) (by omega) (lx_el (fun h => by have := hWL _ h; omega))⟩))
  · intro M' b1 b2 b3 b4 b5 hk f0 f1 f2
    have e9 : hv M' 33 3 = hv M 33 3 := b5 9 (33, 3) rfl rfl
    have e10 : hv M' 33 5 = hv M 33 5 := b5 10 (33, 5) rfl rfl
    have e24 : hv M' 234 30 = hv M 234 30 := b5 24 (234, 30) rfl rfl
    have e33 : hv M' 257 0 = hv M 257 0 := b5 33 (257, 0) rfl rfl
    have e0 : hv M' 8 4 = hv M 8 4 := b5 0 (8, 4) rfl rfl
    have e28 : hv M' 234 57 = hv M 234 57 := b5 28 (234, 57) rfl rfl
    have e8 : hv M' 33 1 = hv M 33 1 := b5 8 (33, 1) rfl rfl
    have e11 : hv M' 33 6 = hv M 33 6 := b5 11 (33, 6) rfl rfl
    exact kt M' b1 b2 ⟨by omega, by omega, by omega, by omega, by omega, by omega⟩ b4 (b3 271 (by decide) (by decide +kernel)) (fun a h1 h2 => b3 a (by omega) (lx_el (fun h => by have := hW a h; omega))) ⟨⟨e8, e9, e10, e11⟩, ⟨hb_vc (b3 47 (by decide) (by decide +kernel)) 1, hb_vc (b3 58 (by decide) (by decide +kernel)) 1, hb_vc (b3 69 (by decide) (by decide +kernel)) 1, hb_vc (b3 80 (by decide) (by decide +kernel)) 1⟩⟩ ⟨⟨b3 34 (by decide) (by decide +kernel), b3 35 (by decide) (by decide +kernel), b3 36 (by decide) (by decide +kernel)⟩, (fun s hs => by
      have h4 : s = 0 ∨ s = 1 ∨ s = 2 ∨ s = 3 := by omega
      rcases h4 with rfl | rfl | rfl | rfl
      · exact b3 48 (by decide) (by decide +kernel)
      · exact b3 59 (by decide) (by decide +kernel)
      · exact b3 70 (by decide) (by decide +kernel)
      · exact b3 81 (by decide) (by decide +kernel))⟩ (fun b p q => b3 b (by omega) (lx_el (fun h => by have := hW7 b h; omega))) (xLK_c e0 (fun i hi => ⟨b3 (91 + 5 * i) (by omega) (lx_el (fun h => by have := hWL _ h; omega)), b3 (92 + 5 * i) (by omega) (lx_el (fun h => by have := hWL _ h; omega))⟩)) (.inl hk)
  · intro M' b1 b2 b3 b4 b5 hk f0 f1 f2
    have e9 : hv M' 33 3 = hv M 33 3 := b5 9 (33, 3) rfl rfl
    have e10 : hv M' 33 5 = hv M 33 5 := b5 10 (33, 5) rfl rfl
    have e24 : hv M' 234 30 = hv M 234 30 := b5 24 (234, 30) rfl rfl
    have e33 : hv M' 257 0 = hv M 257 0 := b5 33 (257, 0) rfl rfl
    have e0 : hv M' 8 4 = hv M 8 4 := b5 0 (8, 4) rfl rfl
    have e28 : hv M' 234 57 = hv M 234 57 := b5 28 (234, 57) rfl rfl
    have e8 : hv M' 33 1 = hv M 33 1 := b5 8 (33, 1) rfl rfl
    have e11 : hv M' 33 6 = hv M 33 6 := b5 11 (33, 6) rfl rfl
    exact kt M' b1 b2 ⟨by omega, by omega, by omega, by omega, by omega, by omega⟩ b4 (b3 271 (by decide) (by decide +kernel)) (fun a h1 h2 => b3 a (by omega) (lx_el (fun h => by have := hW a h; omega))) ⟨⟨e8, e9, e10, e11⟩, ⟨hb_vc (b3 47 (by decide) (by decide +kernel)) 1, hb_vc (b3 58 (by decide) (by decide +kernel)) 1, hb_vc (b3 69 (by decide) (by decide +kernel)) 1, hb_vc (b3 80 (by decide) (by decide +kernel)) 1⟩⟩ ⟨⟨b3 34 (by decide) (by decide +kernel), b3 35 (by decide) (by decide +kernel), b3 36 (by decide) (by decide +kernel)⟩, (fun s hs => by
      have h4 : s = 0 ∨ s = 1 ∨ s = 2 ∨ s = 3 := by omega
      rcases h4 with rfl | rfl | rfl | rfl
      · exact b3 48 (by decide) (by decide +kernel)
      · exact b3 59 (by decide) (by decide +kernel)
      · exact b3 70 (by decide) (by decide +kernel)
      · exact b3 81 (by decide) (by decide +kernel))⟩ (fun b p q => b3 b (by omega) (lx_el (fun h => by have := hW7 b h; omega))) (xLK_c e0 (fun i hi => ⟨b3 (91 + 5 * i) (by omega) (lx_el (fun h => by have := hWL _ h; omega)), b3 (92 + 5 * i) (by omega) (lx_el (fun h => by have := hWL _ h; omega))⟩)) (.inr (.inl hk))
  · intro M' b1 b2 b3 b4 b5 hk f0 f1 f2
    have e9 : hv M' 33 3 = hv M 33 3 := b5 9 (33, 3) rfl rfl
    have e10 : hv M' 33 5 = hv M 33 5 := b5 10 (33, 5) rfl rfl
    have e24 : hv M' 234 30 = hv M 234 30 := b5 24 (234, 30) rfl rfl
    have e33 : hv M' 257 0 = hv M 257 0 := b5 33 (257, 0) rfl rfl
    have e0 : hv M' 8 4 = hv M 8 4 := b5 0 (8, 4) rfl rfl
    have e28 : hv M' 234 57 = hv M 234 57 := b5 28 (234, 57) rfl rfl
    have e8 : hv M' 33 1 = hv M 33 1 := b5 8 (33, 1) rfl rfl
    have e11 : hv M' 33 6 = hv M 33 6 := b5 11 (33, 6) rfl rfl
    exact kt M' b1 b2 ⟨by omega, by omega, by omega, by omega, by omega, by omega⟩ b4 (b3 271 (by decide) (by decide +kernel)) (fun a h1 h2 => b3 a (by omega) (lx_el (fun h => by have := hW a h; omega))) ⟨⟨e8, e9, e10, e11⟩, ⟨hb_vc (b3 47 (by decide) (by decide +kernel)) 1, hb_vc (b3 58 (by decide) (by decide +kernel)) 1, hb_vc (b3 69 (by decide) (by decide +kernel)) 1, hb_vc (b3 80 (by decide) (by decide +kernel)) 1⟩⟩ ⟨⟨b3 34 (by decide) (by decide +kernel), b3 35 (by decide) (by decide +kernel), b3 36 (by decide) (by decide +kernel)⟩, (fun s hs => by
      have h4 : s = 0 ∨ s = 1 ∨ s = 2 ∨ s = 3 := by omega
      rcases h4 with rfl | rfl | rfl | rfl
      · exact b3 48 (by decide) (by decide +kernel)
      · exact b3 59 (by decide) (by decide +kernel)
      · exact b3 70 (by decide) (by decide +kernel)
      · exact b3 81 (by decide) (by decide +kernel))⟩ (fun b p q => b3 b (by omega) (lx_el (fun h => by have := hW7 b h; omega))) (xLK_c e0 (fun i hi => ⟨b3 (91 + 5 * i) (by omega) (lx_el (fun h => by have := hWL _ h; omega)), b3 (92 + 5 * i) (by omega) (lx_el (fun h => by have := hWL _ h; omega))⟩)) (.inr (.inr (.inl hk)))
  · intro M' b1 b2 b3 b4 b5 hk f0 f1 f2
    have e9 : hv M' 33 3 = hv M 33 3 := b5 9 (33, 3) rfl rfl
    have e10 : hv M' 33 5 = hv M 33 5 := b5 10 (33, 5) rfl rfl
    have e24 : hv M' 234 30 = hv M 234 30 := b5 24 (234, 30) rfl rfl
    have e33 : hv M' 257 0 = hv M 257 0 := b5 33 (257, 0) rfl rfl
    have e0 : hv M' 8 4 = hv M 8 4 := b5 0 (8, 4) rfl rfl
    have e28 : hv M' 234 57 = hv M 234 57 := b5 28 (234, 57) rfl rfl
    have e8 : hv M' 33 1 = hv M 33 1 := b5 8 (33, 1) rfl rfl
    have e11 : hv M' 33 6 = hv M 33 6 := b5 11 (33, 6) rfl rfl
    exact kt M' b1 b2 ⟨by omega, by omega, by omega, by omega, by omega, by omega⟩ b4 (b3 271 (by decide) (by decide +kernel)) (fun a h1 h2 => b3 a (by omega) (lx_el (fun h => by have := hW a h; omega))) ⟨⟨e8, e9, e10, e11⟩, ⟨hb_vc (b3 47 (by decide) (by decide +kernel)) 1, hb_vc (b3 58 (by decide) (by decide +kernel)) 1, hb_vc (b3 69 (by decide) (by decide +kernel)) 1, hb_vc (b3 80 (by decide) (by decide +kernel)) 1⟩⟩ ⟨⟨b3 34 (by decide) (by decide +kernel), b3 35 (by decide) (by decide +kernel), b3 36 (by decide) (by decide +kernel)⟩, (fun s hs => by
      have h4 : s = 0 ∨ s = 1 ∨ s = 2 ∨ s = 3 := by omega
      rcases h4 with rfl | rfl | rfl | rfl
      · exact b3 48 (by decide) (by decide +kernel)
      · exact b3 59 (by decide) (by decide +kernel)
      · exact b3 70 (by decide) (by decide +kernel)
      · exact b3 81 (by decide) (by decide +kernel))⟩ (fun b p q => b3 b (by omega) (lx_el (fun h => by have := hW7 b h; omega))) (xLK_c e0 (fun i hi => ⟨b3 (91 + 5 * i) (by omega) (lx_el (fun h => by have := hWL _ h; omega)), b3 (92 + 5 * i) (by omega) (lx_el (fun h => by have := hWL _ h; omega))⟩)) (.inr (.inr (.inr (.inl hk))))
  · intro M' b1 b2 b3 b4 b5 hk f0 f1 f2
    have e9 : hv M' 33 3 = hv M 33 3 := b5 9 (33, 3) rfl rfl
    have e10 : hv M' 33 5 = hv M 33 5 := b5 10 (33, 5) rfl rfl
    have e24 : hv M' 234 30 = hv M 234 30 := b5 24 (234, 30) rfl rfl
    have e33 : hv M' 257 0 = hv M 257 0 := b5 33 (257, 0) rfl rfl
    have e0 : hv M' 8 4 = hv M 8 4 := b5 0 (8, 4) rfl rfl
    have e28 : hv M' 234 57 = hv M 234 57 := b5 28 (234, 57) rfl rfl
    have e8 : hv M' 33 1 = hv M 33 1 := b5 8 (33, 1) rfl rfl
    have e11 : hv M' 33 6 = hv M 33 6 := b5 11 (33, 6) rfl rfl
    exact kt M' b1 b2 ⟨by omega, by omega, by omega, by omega, by omega, by omega⟩ b4 (b3 271 (by decide) (by decide +kernel)) (fun a h1 h2 => b3 a (by omega) (lx_el (fun h => by have := hW a h; omega))) ⟨⟨e8, e9, e10, e11⟩, ⟨hb_vc (b3 47 (by decide) (by decide +kernel)) 1, hb_vc (b3 58 (by decide) (by decide +kernel)) 1, hb_vc (b3 69 (by decide) (by decide +kernel)) 1, hb_vc (b3 80 (by decide) (by decide +kernel)) 1⟩⟩ ⟨⟨b3 34 (by decide) (by decide +kernel), b3 35 (by decide) (by decide +kernel), b3 36 (by decide) (by decide +kernel)⟩, (fun s hs => by
      have h4 : s = 0 ∨ s = 1 ∨ s = 2 ∨ s = 3 := by omega
      rcases h4 with rfl | rfl | rfl | rfl
      · exact b3 48 (by decide) (by decide +kernel)
      · exact b3 59 (by decide) (by decide +kernel)
      · exact b3 70 (by decide) (by decide +kernel)
      · exact b3 81 (by decide) (by decide +kernel))⟩ (fun b p q => b3 b (by omega) (lx_el (fun h => by have := hW7 b h; omega))) (xLK_c e0 (fun i hi => ⟨b3 (91 + 5 * i) (by omega) (lx_el (fun h => by have := hWL _ h; omega)), b3 (92 + 5 * i) (by omega) (lx_el (fun h => by have := hWL _ h; omega))⟩)) (.inr (.inr (.inr (.inr hk))))
theorem lv_services {d z u : Nat} {M : Nat → mq_C} {Q : (Option Value ⊕ Nat) → mq_S → Prop} {x1 : Int32} {x2 : Int32} (hd : 161 ≤ d) (hz : 272 ≤ z) (hm : mz_sh mz_GG M) (hx : HX M) (hl : lw M)
    (k : ∀ (M' : Nat → mq_C) (r : Int32), mz_sh mz_GG M' → HX M' → lw M' → (∀ a, a < 8 → M' a = M a) → M' 271 = M 271 → (∀ a, 234 ≤ a → a < 271 → M' a = M a) → lcs M M' → (c6_kp M M' ∧ c6_al M M') → l6tb M M' → x47 M M' → xLK (cvw M) (cvw M') → Q (.inl (some (.int r))) (M', z, u))
    (kt : ∀ (M' : Nat → mq_C), mz_sh mz_GG M' → HX M' → lw M' → (∀ a, a < 8 → M' a = M a) → M' 271 = M 271 → (∀ a, 234 ≤ a → a < 271 → M' a = M a) → lcs M M' → (c6_kp M M' ∧ c6_al M M') → l6tb M M' → x47 M M' → xLK (cvw M) (cvw M') → (M' z).1 = 10 ∨ (M' z).1 = 11 ∨ (M' z).1 = 12 ∨ (M' z).1 = 13 ∨ (M' z).1 = 14 → Q (.inr z) (M', z + 1, u + 6)) : mq_R mq_PP d 15 0 [some (.ref 8), some (.int x1), some (.int x2), none] [] (M, z, u) Q := by
  rw [← mq_e15]
  refine fz_R (by decide) hm hz (fun b hb => ?_) ?_
  · simp at hb
    subst hb
    decide
  rw [mq_e15]
  refine lu_services (by omega) hz hm hx hl ?_ ?_
  · exact fun M' r b1 b2 b3 b4 b5 b6 b7 b8 b9 bL hT => k M' r b1 b2 b3 b4 b5 b6 b7 b8 hT b9 bL
  · exact fun M' b1 b2 b3 b4 b5 b6 b7 b8 b9 bL hk hT => kt M' b1 b2 b3 b4 b5 b6 b7 b8 hT b9 bL hk
theorem ly_next {X : (Nat → mq_C) → Prop} (hq : mz_Ct mz_GG mq_PP X mz_q197 161) {d z u : Nat} {M : Nat → mq_C} {Q : (Option Value ⊕ Nat) → mq_S → Prop}  (hd : 161 ≤ d) (hz : 272 ≤ z) (hm : mz_sh mz_GG M) (hx : X M) (p0 : 0 ≤ (-1) + hv M 8 4 - hv M 44 0) (p1 : 0 ≤ 16 + 16 * hv M 44 0 - hv M 44 3) (p2 : 0 ≤ 16 + 16 * hv M 44 1 - hv M 44 3)
    (w0 : ∀ (M' : Nat → mq_C) (r : Int32), mz_sh mz_GG M' → X M' → mz_fr mz_q197 M M' → (∀ a, a < 8 → M' a = M a) → hb_same mz_GG mz_q197 M M' → Q (.inl (some (.int r))) (M', z, u))
    (w1 : ∀ (M' : Nat → mq_C), mz_sh mz_GG M' → X M' → mz_fr mz_q197 M M' → (∀ a, a < 8 → M' a = M a) → hb_same mz_GG mz_q197 M M' → (M' z).1 = 14 → Q (.inr z) (M', z + 1, u + 6)) : mq_R mq_PP d 16 0 [some (.ref 8), none, none] [] (M, z, u) Q := by
  refine hb_use mz_GG mq_PP X (q := mz_q197) (vs := [.ref 8]) hq (by decide +kernel) hd (show hb_pk mz_GG [(1, 8)] _ from ⟨⟨List.mem_singleton.mpr rfl, rfl⟩, trivial⟩) hm hx hz ?_ ?_
  · exact hb_cons (show 0 ≤ mz_ev _ _ from (show 0 ≤ -1 + (1 * hv M 8 4 + ((-1) * hv M 44 0 + 0)) by omega)) (hb_cons (show 0 ≤ mz_ev _ _ from (show 0 ≤ 16 + (16 * hv M 44 0 + ((-1) * hv M 44 3 + 0)) by omega)) (hb_cons (show 0 ≤ mz_ev _ _ from (show 0 ≤ 16 + (16 * hv M 44 1 + ((-1) * hv M 44 3 + 0)) by omega)) (hb_nil)))
  · intro r S hpo
    obtain ⟨b1, b2, b3, b4, b5, p, hp, res, hf, hre⟩ := hpo
    rcases List.mem_cons.mp hp with rfl | hp
    · obtain ⟨x, rfl, hr, hz1, hu1⟩ := mz_re_0 mz_GG hre rfl
      obtain ⟨M', z', u'⟩ := S
      cases hz1
      cases hu1
      exact w0 M' x b1 b2 b3 b4 b5 
    rcases List.mem_cons.mp hp with rfl | hp
    · obtain ⟨rfl, hk, hz1, hu1⟩ := mz_re_5 mz_GG hre rfl
      obtain ⟨M', z', u'⟩ := S
      cases hz1
      cases hu1
      exact w1 M' b1 b2 b3 b4 b5 hk 
    cases hp
theorem lu_next {d z u : Nat} {M : Nat → mq_C} {Q : (Option Value ⊕ Nat) → mq_S → Prop}  (hd : 161 ≤ d) (hz : 272 ≤ z) (hm : mz_sh mz_GG M) (hx : HX M) (hl : lw M)
    (k : ∀ (M' : Nat → mq_C) (r : Int32), mz_sh mz_GG M' → HX M' → lw M' → (∀ a, a < 8 → M' a = M a) → M' 271 = M 271 → (∀ a, 234 ≤ a → a < 271 → M' a = M a) → lcs M M' → (c6_kp M M' ∧ c6_al M M') → x47 M M' → xLK (cvw M) (cvw M') → Q (.inl (some (.int r))) (M', z, u))
    (kt : ∀ (M' : Nat → mq_C), mz_sh mz_GG M' → HX M' → lw M' → (∀ a, a < 8 → M' a = M a) → M' 271 = M 271 → (∀ a, 234 ≤ a → a < 271 → M' a = M a) → lcs M M' → (c6_kp M M' ∧ c6_al M M') → x47 M M' → xLK (cvw M) (cvw M') → (M' z).1 = 14 → Q (.inr z) (M', z + 1, u + 6)) : mq_R mq_PP d 16 0 [some (.ref 8), none, none] [] (M, z, u) Q := by
  obtain ⟨l0, l1, l2, l3, l4, l5⟩ := hl
  have hW : ∀ b ∈ mz_q197.2.2.2.2.2, b < 234 := by decide +kernel
  have hW7 : ∀ b ∈ mz_q197.2.2.2.2.2, b < 47 ∨ 90 < b := by decide +kernel
  have hWL : ∀ b ∈ mz_q197.2.2.2.2.2, b < 91 ∨ 110 < b ∨ b % 5 = 3 ∨ b % 5 = 4 ∨ b % 5 = 0 := by decide +kernel
  refine ly_next (ha_all (mz_q197, 161) (List.mem_of_getElem? (show mz_Cs[197]? = _ from rfl))) (by omega) hz hm hx (by omega) (by omega) (by omega) ?_ ?_
  · intro M' r b1 b2 b3 b4 b5
    have e9 : hv M' 33 3 = hv M 33 3 := b5 9 (33, 3) rfl rfl
    have e10 : hv M' 33 5 = hv M 33 5 := b5 10 (33, 5) rfl rfl
    have e24 : hv M' 234 30 = hv M 234 30 := b5 24 (234, 30) rfl rfl
    have e33 : hv M' 257 0 = hv M 257 0 := b5 33 (257, 0) rfl rfl
    have e0 : hv M' 8 4 = hv M 8 4 := b5 0 (8, 4) rfl rfl
    have e12 : hv M' 44 0 = hv M 44 0 := b5 12 (44, 0) rfl rfl
    have e13 : hv M' 44 1 = hv M 44 1 := b5 13 (44, 1) rfl rfl
    have e14 : hv M' 44 3 = hv M 44 3 := b5 14 (44, 3) rfl rfl
    have e28 : hv M' 234 57 = hv M 234 57 := b5 28 (234, 57) rfl rfl
    have e8 : hv M' 33 1 = hv M 33 1 := b5 8 (33, 1) rfl rfl
    have e11 : hv M' 33 6 = hv M 33 6 := b5 11 (33, 6) rfl rfl
    exact k M' r b1 b2 ⟨by omega, by omega, by omega, by omega, by omega, by omega⟩ b4 (b3 271 (by decide) (by decide +kernel)) (fun a h1 h2 => b3 a (by omega) (lx_el (fun h => by have := hW a h; omega))) ⟨⟨e8, e9, e10, e11⟩, ⟨hb_vc (b3 47 (by decide) (by decide +kernel)) 1, hb_vc (b3 58 (by decide) (by decide +kernel)) 1, hb_vc (b3 69 (by decide) (by decide +kernel)) 1, hb_vc (b3 80 (by decide) (by decide +kernel)) 1⟩⟩ ⟨⟨b3 34 (by decide) (by decide +kernel), b3 35 (by decide) (by decide +kernel), b3 36 (by decide) (by decide +kernel)⟩, (fun s hs => by
      have h4 : s = 0 ∨ s = 1 ∨ s = 2 ∨ s = 3 := by omega
      rcases h4 with rfl | rfl | rfl | rfl
      · exact b3 48 (by decide) (by decide +kernel)
      · exact b3 59 (by decide) (by decide +kernel)
      · exact b3 70 (by decide) (by decide +kernel)
      · exact b3 81 (by decide) (by decide +kernel))⟩ (fun b p q => b3 b (by omega) (lx_el (fun h => by have := hW7 b h; omega))) (xLK_c e0 (fun i hi => ⟨b3 (91 + 5 * i) (by omega) (lx_el (fun h => by have := hWL _ h; omega)), b3 (92 + 5 * i) (by omega) (lx_el (fun h => by have := hWL _ h; omega))⟩))
  · intro M' b1 b2 b3 b4 b5 hk
    have e9 : hv M' 33 3 = hv M 33 3 := b5 9 (33, 3) rfl rfl
    have e10 : hv M' 33 5 = hv M 33 5 := b5 10 (33, 5) rfl rfl
    have e24 : hv M' 234 30 = hv M 234 30 := b5 24 (234, 30) rfl rfl
    have e33 : hv M' 257 0 = hv M 257 0 := b5 33 (257, 0) rfl rfl
    have e0 : hv M' 8 4 = hv M 8 4 := b5 0 (8, 4) rfl rfl
    have e12 : hv M' 44 0 = hv M 44 0 := b5 12 (44, 0) rfl rfl
    have e13 : hv M' 44 1 = hv M 44 1 := b5 13 (44, 1) rfl rfl
    have e14 : hv M' 44 3 = hv M 44 3 := b5 14 (44, 3) rfl rfl
    have e28 : hv M' 234 57 = hv M 234 57 := b5 28 (234, 57) rfl rfl
    have e8 : hv M' 33 1 = hv M 33 1 := b5 8 (33, 1) rfl rfl
    have e11 : hv M' 33 6 = hv M 33 6 := b5 11 (33, 6) rfl rfl
    exact kt M' b1 b2 ⟨by omega, by omega, by omega, by omega, by omega, by omega⟩ b4 (b3 271 (by decide) (by decide +kernel)) (fun a h1 h2 => b3 a (by omega) (lx_el (fun h => by have := hW a h; omega))) ⟨⟨e8, e9, e10, e11⟩, ⟨hb_vc (b3 47 (by decide) (by decide +kernel)) 1, hb_vc (b3 58 (by decide) (by decide +kernel)) 1, hb_vc (b3 69 (by decide) (by decide +kernel)) 1, hb_vc (b3 80 (by decide) (by decide +kernel)) 1⟩⟩ ⟨⟨b3 34 (by decide) (by decide +kernel), b3 35 (by decide) (by decide +kernel), b3 36 (by decide) (by decide +kernel)⟩, (fun s hs => by
      have h4 : s = 0 ∨ s = 1 ∨ s = 2 ∨ s = 3 := by omega
      rcases h4 with rfl | rfl | rfl | rfl
      · exact b3 48 (by decide) (by decide +kernel)
      · exact b3 59 (by decide) (by decide +kernel)
      · exact b3 70 (by decide) (by decide +kernel)
      · exact b3 81 (by decide) (by decide +kernel))⟩ (fun b p q => b3 b (by omega) (lx_el (fun h => by have := hW7 b h; omega))) (xLK_c e0 (fun i hi => ⟨b3 (91 + 5 * i) (by omega) (lx_el (fun h => by have := hWL _ h; omega)), b3 (92 + 5 * i) (by omega) (lx_el (fun h => by have := hWL _ h; omega))⟩)) hk
theorem lv_next {d z u : Nat} {M : Nat → mq_C} {Q : (Option Value ⊕ Nat) → mq_S → Prop}  (hd : 161 ≤ d) (hz : 272 ≤ z) (hm : mz_sh mz_GG M) (hx : HX M) (hl : lw M)
    (k : ∀ (M' : Nat → mq_C) (r : Int32), mz_sh mz_GG M' → HX M' → lw M' → (∀ a, a < 8 → M' a = M a) → M' 271 = M 271 → (∀ a, 234 ≤ a → a < 271 → M' a = M a) → lcs M M' → (c6_kp M M' ∧ c6_al M M') → l6tb M M' → x47 M M' → xLK (cvw M) (cvw M') → Q (.inl (some (.int r))) (M', z, u))
    (kt : ∀ (M' : Nat → mq_C), mz_sh mz_GG M' → HX M' → lw M' → (∀ a, a < 8 → M' a = M a) → M' 271 = M 271 → (∀ a, 234 ≤ a → a < 271 → M' a = M a) → lcs M M' → (c6_kp M M' ∧ c6_al M M') → l6tb M M' → x47 M M' → xLK (cvw M) (cvw M') → (M' z).1 = 14 → Q (.inr z) (M', z + 1, u + 6)) : mq_R mq_PP d 16 0 [some (.ref 8), none, none] [] (M, z, u) Q := by
  rw [← mq_e16]
  refine fz_R (by decide) hm hz (fun b hb => ?_) ?_
  · simp at hb
    subst hb
    decide
  rw [mq_e16]
  refine lu_next (by omega) hz hm hx hl ?_ ?_
  · exact fun M' r b1 b2 b3 b4 b5 b6 b7 b8 b9 bL hT => k M' r b1 b2 b3 b4 b5 b6 b7 b8 hT b9 bL
  · exact fun M' b1 b2 b3 b4 b5 b6 b7 b8 b9 bL hk hT => kt M' b1 b2 b3 b4 b5 b6 b7 b8 hT b9 bL hk
theorem ly_mput {X : (Nat → mq_C) → Prop} (hq : mz_Ct mz_GG mq_PP X mz_q67 1) {d z u : Nat} {M : Nat → mq_C} {Q : (Option Value ⊕ Nat) → mq_S → Prop} {x1 : Int64} {x2 : Int32} (hd : 1 ≤ d) (hz : 272 ≤ z) (hm : mz_sh mz_GG M) (hx : X M)
    (w0 : ∀ (M' : Nat → mq_C) (r : Int32), mz_sh mz_GG M' → X M' → mz_fr mz_q67 M M' → (∀ a, a < 8 → M' a = M a) → hb_same mz_GG mz_q67 M M' → r.toInt = 1 → 0 ≤ (-1) + x2.toInt → 0 ≤ 8 - x2.toInt → hv M' 234 15 = x2.toInt + hv M 234 15 → Q (.inl (some (.int r))) (M', z, u))
    (w1 : ∀ (M' : Nat → mq_C) (r : Int32), mz_sh mz_GG M' → X M' → mz_fr mz_q67 M M' → (∀ a, a < 8 → M' a = M a) → hb_same mz_GG mz_q67 M M' → r.toInt = 0 → 0 ≤ 0 - x2.toInt → hv M' 234 15 = hv M 234 15 → Q (.inl (some (.int r))) (M', z, u))
    (w2 : ∀ (M' : Nat → mq_C) (r : Int32), mz_sh mz_GG M' → X M' → mz_fr mz_q67 M M' → (∀ a, a < 8 → M' a = M a) → hb_same mz_GG mz_q67 M M' → r.toInt = 0 → 0 ≤ (-9) + x2.toInt → hv M' 234 15 = hv M 234 15 → Q (.inl (some (.int r))) (M', z, u))
    (w3 : ∀ (M' : Nat → mq_C) (r : Int32), mz_sh mz_GG M' → X M' → mz_fr mz_q67 M M' → (∀ a, a < 8 → M' a = M a) → hb_same mz_GG mz_q67 M M' → r.toInt = 0 → 0 ≤ (-121) + x2.toInt + hv M 234 15 → hv M' 234 15 = hv M 234 15 → Q (.inl (some (.int r))) (M', z, u)) : mq_R mq_PP d 122 0 [some (.ref 234), some (.long x1), none, some (.int x2), none] [] (M, z, u) Q := by
  refine hb_use mz_GG mq_PP X (q := mz_q67) (vs := [.ref 234, .long x1, .int x2]) hq (by decide +kernel) hd (show hb_pk mz_GG [(1, 234), (2, 0), (0, 0)] _ from ⟨⟨List.mem_singleton.mpr rfl, rfl⟩, trivial, trivial, trivial⟩) hm hx hz ?_ ?_
  · exact hb_nil
  · intro r S hpo
    obtain ⟨b1, b2, b3, b4, b5, p, hp, res, hf, hre⟩ := hpo
    rcases List.mem_cons.mp hp with rfl | hp
    · obtain ⟨x, rfl, hr, hz1, hu1⟩ := mz_re_0 mz_GG hre rfl
      obtain ⟨M', z', u'⟩ := S
      cases hz1
      cases hu1
      obtain ⟨f0, hf⟩ := hb_unc hf
      have f0 : 0 ≤ -1 + (1 * res + 0) := f0
      rw [← hr] at f0
      obtain ⟨f1, hf⟩ := hb_unc hf
      have f1 : 0 ≤ 1 + ((-1) * res + 0) := f1
      rw [← hr] at f1
      obtain ⟨f2, hf⟩ := hb_unc hf
      have f2 : 0 ≤ -1 + (1 * x2.toInt + 0) := f2
      obtain ⟨f3, hf⟩ := hb_unc hf
      have f3 : 0 ≤ 8 + ((-1) * x2.toInt + 0) := f3
      obtain ⟨f4, hf⟩ := hb_unc hf
      have f4 : 0 ≤ 0 + ((-1) * x2.toInt + ((-1) * hv M 234 15 + (1 * hv M' 234 15 + 0))) := f4
      obtain ⟨f5, hf⟩ := hb_unc hf
      have f5 : 0 ≤ 0 + (1 * x2.toInt + (1 * hv M 234 15 + ((-1) * hv M' 234 15 + 0))) := f5
      exact w0 M' x b1 b2 b3 b4 b5 (by have h1 := f0; have h2 := f1; omega) (by have h1 := f2; omega) (by have h1 := f3; omega) (by have h1 := f4; have h2 := f5; omega)
    rcases List.mem_cons.mp hp with rfl | hp
    · obtain ⟨x, rfl, hr, hz1, hu1⟩ := mz_re_0 mz_GG hre rfl
      obtain ⟨M', z', u'⟩ := S
      cases hz1
      cases hu1
      obtain ⟨f0, hf⟩ := hb_unc hf
      have f0 : 0 ≤ 0 + (1 * res + 0) := f0
      rw [← hr] at f0
      obtain ⟨f1, hf⟩ := hb_unc hf
      have f1 : 0 ≤ 0 + ((-1) * res + 0) := f1
      rw [← hr] at f1
      obtain ⟨f2, hf⟩ := hb_unc hf
      have f2 : 0 ≤ 0 + ((-1) * x2.toInt + 0) := f2
      obtain ⟨f3, hf⟩ := hb_unc hf
      have f3 : 0 ≤ 0 + ((-1) * hv M 234 15 + (1 * hv M' 234 15 + 0)) := f3
      obtain ⟨f4, hf⟩ := hb_unc hf
      have f4 : 0 ≤ 0 + (1 * hv M 234 15 + ((-1) * hv M' 234 15 + 0)) := f4
      exact w1 M' x b1 b2 b3 b4 b5 (by have h1 := f0; have h2 := f1; omega) (by have h1 := f2; omega) (by have h1 := f3; have h2 := f4; omega)
    rcases List.mem_cons.mp hp with rfl | hp
    · obtain ⟨x, rfl, hr, hz1, hu1⟩ := mz_re_0 mz_GG hre rfl
      obtain ⟨M', z', u'⟩ := S
      cases hz1
      cases hu1
      obtain ⟨f0, hf⟩ := hb_unc hf
      have f0 : 0 ≤ 0 + (1 * res + 0) := f0
      rw [← hr] at f0
      obtain ⟨f1, hf⟩ := hb_unc hf
      have f1 : 0 ≤ 0 + ((-1) * res + 0) := f1
      rw [← hr] at f1
      obtain ⟨f2, hf⟩ := hb_unc hf
      have f2 : 0 ≤ -9 + (1 * x2.toInt + 0) := f2
      obtain ⟨f3, hf⟩ := hb_unc hf
      have f3 : 0 ≤ 0 + ((-1) * hv M 234 15 + (1 * hv M' 234 15 + 0)) := f3
      obtain ⟨f4, hf⟩ := hb_unc hf
      have f4 : 0 ≤ 0 + (1 * hv M 234 15 + ((-1) * hv M' 234 15 + 0)) := f4
      exact w2 M' x b1 b2 b3 b4 b5 (by have h1 := f0; have h2 := f1; omega) (by have h1 := f2; omega) (by have h1 := f3; have h2 := f4; omega)
    rcases List.mem_cons.mp hp with rfl | hp
    · obtain ⟨x, rfl, hr, hz1, hu1⟩ := mz_re_0 mz_GG hre rfl
      obtain ⟨M', z', u'⟩ := S
      cases hz1
      cases hu1
      obtain ⟨f0, hf⟩ := hb_unc hf
      have f0 : 0 ≤ 0 + (1 * res + 0) := f0
      rw [← hr] at f0
      obtain ⟨f1, hf⟩ := hb_unc hf
      have f1 : 0 ≤ 0 + ((-1) * res + 0) := f1
      rw [← hr] at f1
      obtain ⟨f2, hf⟩ := hb_unc hf
      have f2 : 0 ≤ -121 + (1 * x2.toInt + (1 * hv M 234 15 + 0)) := f2
      obtain ⟨f3, hf⟩ := hb_unc hf
      have f3 : 0 ≤ 0 + ((-1) * hv M 234 15 + (1 * hv M' 234 15 + 0)) := f3
      obtain ⟨f4, hf⟩ := hb_unc hf
      have f4 : 0 ≤ 0 + (1 * hv M 234 15 + ((-1) * hv M' 234 15 + 0)) := f4
      exact w3 M' x b1 b2 b3 b4 b5 (by have h1 := f0; have h2 := f1; omega) (by have h1 := f2; omega) (by have h1 := f3; have h2 := f4; omega)
    cases hp
theorem lu_mput {d z u : Nat} {M : Nat → mq_C} {Q : (Option Value ⊕ Nat) → mq_S → Prop} {x1 : Int64} {x2 : Int32} (hd : 9 ≤ d) (hz : 272 ≤ z) (hm : mz_sh mz_GG M) (hx : HX M) (hl : lw M)
    (k : ∀ (M' : Nat → mq_C) (r : Int32), mz_sh mz_GG M' → HX M' → lw M' → (∀ a, a < 8 → M' a = M a) → M' 271 = M 271 → (∀ a, a < 234 → M' a = M a) → lr_put (hv M 234 15) x2.toInt (hv M' 234 15) r.toInt → (hv M' 234 17 = hv M 234 17 ∧ hv M' 234 19 = hv M 234 19) → (M' 251 = M 251 ∧ M' 236 = M 236 ∧ M' 237 = M 237) → (M' 250 = M 250 ∧ M' 235 = M 235) → xLK (mvw M) (mvw M') → Q (.inl (some (.int r))) (M', z, u)) : mq_R mq_PP d 122 0 [some (.ref 234), some (.long x1), none, some (.int x2), none] [] (M, z, u) Q := by
  obtain ⟨l0, l1, l2, l3, l4, l5⟩ := hl
  have hW : ∀ b ∈ mz_q67.2.2.2.2.2, 234 ≤ b ∧ b < 271 := by decide +kernel
  refine ly_mput (ha_all (mz_q67, 1) (List.mem_of_getElem? (show mz_Cs[67]? = _ from rfl))) (by omega) hz hm hx ?_ ?_ ?_ ?_
  · intro M' r b1 b2 b3 b4 b5 f0 f1 f2 f3
    have e9 : hv M' 33 3 = hv M 33 3 := b5 9 (33, 3) rfl rfl
    have e10 : hv M' 33 5 = hv M 33 5 := b5 10 (33, 5) rfl rfl
    have e24 : hv M' 234 30 = hv M 234 30 := b5 24 (234, 30) rfl rfl
    have e33 : hv M' 257 0 = hv M 257 0 := b5 33 (257, 0) rfl rfl
    have e0 : hv M' 8 4 = hv M 8 4 := b5 0 (8, 4) rfl rfl
    have e12 : hv M' 44 0 = hv M 44 0 := b5 12 (44, 0) rfl rfl
    have e13 : hv M' 44 1 = hv M 44 1 := b5 13 (44, 1) rfl rfl
    have e14 : hv M' 44 3 = hv M 44 3 := b5 14 (44, 3) rfl rfl
    have e28 : hv M' 234 57 = hv M 234 57 := b5 28 (234, 57) rfl rfl
    have e18 : hv M' 234 17 = hv M 234 17 := b5 18 (234, 17) rfl rfl
    have e19 : hv M' 234 19 = hv M 234 19 := b5 19 (234, 19) rfl rfl
    have rg : hv M' 234 15 ≤ 120 := (lx_rng (c := _) b1 (a := 234) (i := 15) (lo := 0) (hi := 120) rfl (by decide) rfl).2
    exact k M' r b1 b2 ⟨by omega, by omega, by omega, by omega, by omega, by omega⟩ b4 (b3 271 (by decide) (by decide +kernel)) (fun a ha => b3 a (by omega) (lx_el (fun h => by have := hW a h; omega))) (by unfold lr_put; omega) ⟨e18, e19⟩ ⟨b3 251 (by decide) (by decide +kernel), b3 236 (by decide) (by decide +kernel), b3 237 (by decide) (by decide +kernel)⟩ ⟨b3 250 (by decide) (by decide +kernel), b3 235 (by decide) (by decide +kernel)⟩ (xLK_m e24 ⟨b3 257 (by decide) (by decide +kernel), b3 258 (by decide) (by decide +kernel), b3 259 (by decide) (by decide +kernel), b3 260 (by decide) (by decide +kernel)⟩)
  · intro M' r b1 b2 b3 b4 b5 f0 f1 f2
    have e9 : hv M' 33 3 = hv M 33 3 := b5 9 (33, 3) rfl rfl
    have e10 : hv M' 33 5 = hv M 33 5 := b5 10 (33, 5) rfl rfl
    have e24 : hv M' 234 30 = hv M 234 30 := b5 24 (234, 30) rfl rfl
    have e33 : hv M' 257 0 = hv M 257 0 := b5 33 (257, 0) rfl rfl
    have e0 : hv M' 8 4 = hv M 8 4 := b5 0 (8, 4) rfl rfl
    have e12 : hv M' 44 0 = hv M 44 0 := b5 12 (44, 0) rfl rfl
    have e13 : hv M' 44 1 = hv M 44 1 := b5 13 (44, 1) rfl rfl
    have e14 : hv M' 44 3 = hv M 44 3 := b5 14 (44, 3) rfl rfl
    have e28 : hv M' 234 57 = hv M 234 57 := b5 28 (234, 57) rfl rfl
    have e18 : hv M' 234 17 = hv M 234 17 := b5 18 (234, 17) rfl rfl
    have e19 : hv M' 234 19 = hv M 234 19 := b5 19 (234, 19) rfl rfl
    have rg : hv M' 234 15 ≤ 120 := (lx_rng (c := _) b1 (a := 234) (i := 15) (lo := 0) (hi := 120) rfl (by decide) rfl).2
    exact k M' r b1 b2 ⟨by omega, by omega, by omega, by omega, by omega, by omega⟩ b4 (b3 271 (by decide) (by decide +kernel)) (fun a ha => b3 a (by omega) (lx_el (fun h => by have := hW a h; omega))) (by unfold lr_put; omega) ⟨e18, e19⟩ ⟨b3 251 (by decide) (by decide +kernel), b3 236 (by decide) (by decide +kernel), b3 237 (by decide) (by decide +kernel)⟩ ⟨b3 250 (by decide) (by decide +kernel), b3 235 (by decide) (by decide +kernel)⟩ (xLK_m e24 ⟨b3 257 (by decide) (by decide +kernel), b3 258 (by decide) (by decide +kernel), b3 259 (by decide) (by decide +kernel), b3 260 (by decide) (by decide +kernel)⟩)
  · intro M' r b1 b2 b3 b4 b5 f0 f1 f2
    have e9 : hv M' 33 3 = hv M 33 3 := b5 9 (33, 3) rfl rfl
    have e10 : hv M' 33 5 = hv M 33 5 := b5 10 (33, 5) rfl rfl
    have e24 : hv M' 234 30 = hv M 234 30 := b5 24 (234, 30) rfl rfl
    have e33 : hv M' 257 0 = hv M 257 0 := b5 33 (257, 0) rfl rfl
    have e0 : hv M' 8 4 = hv M 8 4 := b5 0 (8, 4) rfl rfl
    have e12 : hv M' 44 0 = hv M 44 0 := b5 12 (44, 0) rfl rfl
    have e13 : hv M' 44 1 = hv M 44 1 := b5 13 (44, 1) rfl rfl
    have e14 : hv M' 44 3 = hv M 44 3 := b5 14 (44, 3) rfl rfl
    have e28 : hv M' 234 57 = hv M 234 57 := b5 28 (234, 57) rfl rfl
    have e18 : hv M' 234 17 = hv M 234 17 := b5 18 (234, 17) rfl rfl
    have e19 : hv M' 234 19 = hv M 234 19 := b5 19 (234, 19) rfl rfl
    have rg : hv M' 234 15 ≤ 120 := (lx_rng (c := _) b1 (a := 234) (i := 15) (lo := 0) (hi := 120) rfl (by decide) rfl).2
    exact k M' r b1 b2 ⟨by omega, by omega, by omega, by omega, by omega, by omega⟩ b4 (b3 271 (by decide) (by decide +kernel)) (fun a ha => b3 a (by omega) (lx_el (fun h => by have := hW a h; omega))) (by unfold lr_put; omega) ⟨e18, e19⟩ ⟨b3 251 (by decide) (by decide +kernel), b3 236 (by decide) (by decide +kernel), b3 237 (by decide) (by decide +kernel)⟩ ⟨b3 250 (by decide) (by decide +kernel), b3 235 (by decide) (by decide +kernel)⟩ (xLK_m e24 ⟨b3 257 (by decide) (by decide +kernel), b3 258 (by decide) (by decide +kernel), b3 259 (by decide) (by decide +kernel), b3 260 (by decide) (by decide +kernel)⟩)
  · intro M' r b1 b2 b3 b4 b5 f0 f1 f2
    have e9 : hv M' 33 3 = hv M 33 3 := b5 9 (33, 3) rfl rfl
    have e10 : hv M' 33 5 = hv M 33 5 := b5 10 (33, 5) rfl rfl
    have e24 : hv M' 234 30 = hv M 234 30 := b5 24 (234, 30) rfl rfl
    have e33 : hv M' 257 0 = hv M 257 0 := b5 33 (257, 0) rfl rfl
    have e0 : hv M' 8 4 = hv M 8 4 := b5 0 (8, 4) rfl rfl
    have e12 : hv M' 44 0 = hv M 44 0 := b5 12 (44, 0) rfl rfl
    have e13 : hv M' 44 1 = hv M 44 1 := b5 13 (44, 1) rfl rfl
    have e14 : hv M' 44 3 = hv M 44 3 := b5 14 (44, 3) rfl rfl
    have e28 : hv M' 234 57 = hv M 234 57 := b5 28 (234, 57) rfl rfl
    have e18 : hv M' 234 17 = hv M 234 17 := b5 18 (234, 17) rfl rfl
    have e19 : hv M' 234 19 = hv M 234 19 := b5 19 (234, 19) rfl rfl
    have rg : hv M' 234 15 ≤ 120 := (lx_rng (c := _) b1 (a := 234) (i := 15) (lo := 0) (hi := 120) rfl (by decide) rfl).2
    exact k M' r b1 b2 ⟨by omega, by omega, by omega, by omega, by omega, by omega⟩ b4 (b3 271 (by decide) (by decide +kernel)) (fun a ha => b3 a (by omega) (lx_el (fun h => by have := hW a h; omega))) (by unfold lr_put; omega) ⟨e18, e19⟩ ⟨b3 251 (by decide) (by decide +kernel), b3 236 (by decide) (by decide +kernel), b3 237 (by decide) (by decide +kernel)⟩ ⟨b3 250 (by decide) (by decide +kernel), b3 235 (by decide) (by decide +kernel)⟩ (xLK_m e24 ⟨b3 257 (by decide) (by decide +kernel), b3 258 (by decide) (by decide +kernel), b3 259 (by decide) (by decide +kernel), b3 260 (by decide) (by decide +kernel)⟩)
theorem lv_mput {d z u : Nat} {M : Nat → mq_C} {Q : (Option Value ⊕ Nat) → mq_S → Prop} {x1 : Int64} {x2 : Int32} (hd : 9 ≤ d) (hz : 272 ≤ z) (hm : mz_sh mz_GG M) (hx : HX M) (hl : lw M)
    (k : ∀ (M' : Nat → mq_C) (r : Int32), mz_sh mz_GG M' → HX M' → lw M' → (∀ a, a < 8 → M' a = M a) → M' 271 = M 271 → (∀ a, a < 234 → M' a = M a) → lr_put (hv M 234 15) x2.toInt (hv M' 234 15) r.toInt → (hv M' 234 17 = hv M 234 17 ∧ hv M' 234 19 = hv M 234 19) → (M' 251 = M 251 ∧ M' 236 = M 236 ∧ M' 237 = M 237) → (M' 250 = M 250 ∧ M' 235 = M 235) → m6_put M M' x1 x2.toInt r.toInt → xLK (mvw M) (mvw M') → Q (.inl (some (.int r))) (M', z, u)) : mq_R mq_PP d 122 0 [some (.ref 234), some (.long x1), none, some (.int x2), none] [] (M, z, u) Q := by
  refine mq_R_mono (lx_and (Q := fun r' S' => ∃ (M' : Nat → mq_C) (r : Int32), r' = .inl (some (.int r)) ∧ S' = (M', z, u) ∧ mz_sh mz_GG M' ∧ HX M' ∧ lw M' ∧ (∀ a, a < 8 → M' a = M a) ∧ M' 271 = M 271 ∧ (∀ a, a < 234 → M' a = M a) ∧ lr_put (hv M 234 15) x2.toInt (hv M' 234 15) r.toInt ∧ (hv M' 234 17 = hv M 234 17 ∧ hv M' 234 19 = hv M 234 19) ∧ (M' 251 = M 251 ∧ M' 236 = M 236 ∧ M' 237 = M 237) ∧ (M' 250 = M 250 ∧ M' 235 = M 235) ∧ xLK (mvw M) (mvw M')) (Q' := fun r' S' => ∃ (M' : Nat → mq_C) (r : Int32), r' = .inl (some (.int r)) ∧ S' = (M', z, u) ∧ m6_put M M' x1 x2.toInt r.toInt) ?_ ?_) ?_
  · refine lu_mput (by omega) hz hm hx hl ?_
    exact fun M' r b1 b2 b3 b4 b5 b6 b7 b8 b9 b10 bL => ⟨M', r, rfl, rfl, b1, b2, b3, b4, b5, b6, b7, b8, b9, b10, bL⟩
  · exact ym_putx hm (fun M' r h => ⟨M', r, rfl, rfl, h⟩)
  · rintro r' S' ⟨⟨M', r, rfl, rfl, b1, b2, b3, b4, b5, b6, b7, b8, b9, b10, bL⟩, M2, r2, e1, e2, h⟩
    cases e1
    cases e2
    exact k M' r b1 b2 b3 b4 b5 b6 b7 b8 b9 b10 h bL
theorem ly_menter {X : (Nat → mq_C) → Prop} (hq : mz_Ct mz_GG mq_PP X mz_q139 8) {d z u : Nat} {M : Nat → mq_C} {Q : (Option Value ⊕ Nat) → mq_S → Prop} {x1 : Int32} {x2 : Int32} (hd : 8 ≤ d) (hz : 272 ≤ z) (hm : mz_sh mz_GG M) (hx : X M)
    (w0 : ∀ (M' : Nat → mq_C) (r : Int32), mz_sh mz_GG M' → X M' → mz_fr mz_q139 M M' → (∀ a, a < 8 → M' a = M a) → hb_same mz_GG mz_q139 M M' → 0 ≤ r.toInt → 0 ≤ 1 - r.toInt → Q (.inl (some (.int r))) (M', z, u)) : mq_R mq_PP d 124 0 [some (.ref 234), some (.int x1), some (.int x2), none, none, none, none] [] (M, z, u) Q := by
  refine hb_use mz_GG mq_PP X (q := mz_q139) (vs := [.ref 234, .int x1, .int x2]) hq (by decide +kernel) hd (show hb_pk mz_GG [(1, 234), (0, 0), (0, 0)] _ from ⟨⟨List.mem_singleton.mpr rfl, rfl⟩, trivial, trivial, trivial⟩) hm hx hz ?_ ?_
  · exact hb_nil
  · intro r S hpo
    obtain ⟨b1, b2, b3, b4, b5, p, hp, res, hf, hre⟩ := hpo
    rcases List.mem_cons.mp hp with rfl | hp
    · obtain ⟨x, rfl, hr, hz1, hu1⟩ := mz_re_0 mz_GG hre rfl
      obtain ⟨M', z', u'⟩ := S
      cases hz1
      cases hu1
      obtain ⟨f0, hf⟩ := hb_unc hf
      have f0 : 0 ≤ 0 + (1 * res + 0) := f0
      rw [← hr] at f0
      obtain ⟨f1, hf⟩ := hb_unc hf
      have f1 : 0 ≤ 1 + ((-1) * res + 0) := f1
      rw [← hr] at f1
      exact w0 M' x b1 b2 b3 b4 b5 (by have h1 := f0; omega) (by have h1 := f1; omega)
    cases hp
theorem lu_menter {d z u : Nat} {M : Nat → mq_C} {Q : (Option Value ⊕ Nat) → mq_S → Prop} {x1 : Int32} {x2 : Int32} (hd : 9 ≤ d) (hz : 272 ≤ z) (hm : mz_sh mz_GG M) (hx : HX M) (hl : lw M)
    (k : ∀ (M' : Nat → mq_C) (r : Int32), mz_sh mz_GG M' → HX M' → lw M' → (∀ a, a < 8 → M' a = M a) → M' 271 = M 271 → (∀ a, a < 234 → M' a = M a) → lr_enter (hv M 234 15) (hv M 234 17) (hb_sum (hn_g M) 6) (hv M 234 19) (hb_nm x1.toInt) x2.toInt (hv M' 234 15) (hv M' 234 17) (hb_sum (hn_g M') 6) (hv M' 234 19) r.toInt → (M' 236 = M 236 ∧ M' 237 = M 237) → (M' 249 = M 249 ∧ M' 235 = M 235) → xLK (mvw M) (mvw M') → Q (.inl (some (.int r))) (M', z, u)) : mq_R mq_PP d 124 0 [some (.ref 234), some (.int x1), some (.int x2), none, none, none, none] [] (M, z, u) Q := by
  obtain ⟨l0, l1, l2, l3, l4, l5⟩ := hl
  have hW : ∀ b ∈ mz_q139.2.2.2.2.2, 234 ≤ b ∧ b < 271 := by decide +kernel
  refine lx_menter (by omega) hz hm hx ?_
  intro M' r b1 b2 bS bq
  obtain ⟨b3, b4, b5⟩ := bS
  have e9 : hv M' 33 3 = hv M 33 3 := b5 9 (33, 3) rfl rfl
  have e10 : hv M' 33 5 = hv M 33 5 := b5 10 (33, 5) rfl rfl
  have e24 : hv M' 234 30 = hv M 234 30 := b5 24 (234, 30) rfl rfl
  have e33 : hv M' 257 0 = hv M 257 0 := b5 33 (257, 0) rfl rfl
  have e0 : hv M' 8 4 = hv M 8 4 := b5 0 (8, 4) rfl rfl
  have e12 : hv M' 44 0 = hv M 44 0 := b5 12 (44, 0) rfl rfl
  have e13 : hv M' 44 1 = hv M 44 1 := b5 13 (44, 1) rfl rfl
  have e14 : hv M' 44 3 = hv M 44 3 := b5 14 (44, 3) rfl rfl
  have e28 : hv M' 234 57 = hv M 234 57 := b5 28 (234, 57) rfl rfl
  exact k M' r b1 b2 ⟨by omega, by omega, by omega, by omega, by omega, by omega⟩ b4 (b3 271 (by decide) (by decide +kernel)) (fun a ha => b3 a (by omega) (lx_el (fun h => by have := hW a h; omega))) bq ⟨b3 236 (by decide) (by decide +kernel), b3 237 (by decide) (by decide +kernel)⟩ ⟨b3 249 (by decide) (by decide +kernel), b3 235 (by decide) (by decide +kernel)⟩ (xLK_m e24 ⟨b3 257 (by decide) (by decide +kernel), b3 258 (by decide) (by decide +kernel), b3 259 (by decide) (by decide +kernel), b3 260 (by decide) (by decide +kernel)⟩)
theorem lv_menter {d z u : Nat} {M : Nat → mq_C} {Q : (Option Value ⊕ Nat) → mq_S → Prop} {x1 : Int32} {x2 : Int32} (hd : 9 ≤ d) (hz : 272 ≤ z) (hm : mz_sh mz_GG M) (hx : HX M) (hl : lw M)
    (k : ∀ (M' : Nat → mq_C) (r : Int32), mz_sh mz_GG M' → HX M' → lw M' → (∀ a, a < 8 → M' a = M a) → M' 271 = M 271 → (∀ a, a < 234 → M' a = M a) → lr_enter (hv M 234 15) (hv M 234 17) (hb_sum (hn_g M) 6) (hv M 234 19) (hb_nm x1.toInt) x2.toInt (hv M' 234 15) (hv M' 234 17) (hb_sum (hn_g M') 6) (hv M' 234 19) r.toInt → (M' 236 = M 236 ∧ M' 237 = M 237) → (M' 249 = M 249 ∧ M' 235 = M 235) → m6_ent M M' x1.toInt x2.toInt r.toInt → xLK (mvw M) (mvw M') → Q (.inl (some (.int r))) (M', z, u)) : mq_R mq_PP d 124 0 [some (.ref 234), some (.int x1), some (.int x2), none, none, none, none] [] (M, z, u) Q := by
  refine mq_R_mono (lx_and (Q := fun r' S' => ∃ (M' : Nat → mq_C) (r : Int32), r' = .inl (some (.int r)) ∧ S' = (M', z, u) ∧ mz_sh mz_GG M' ∧ HX M' ∧ lw M' ∧ (∀ a, a < 8 → M' a = M a) ∧ M' 271 = M 271 ∧ (∀ a, a < 234 → M' a = M a) ∧ lr_enter (hv M 234 15) (hv M 234 17) (hb_sum (hn_g M) 6) (hv M 234 19) (hb_nm x1.toInt) x2.toInt (hv M' 234 15) (hv M' 234 17) (hb_sum (hn_g M') 6) (hv M' 234 19) r.toInt ∧ (M' 236 = M 236 ∧ M' 237 = M 237) ∧ (M' 249 = M 249 ∧ M' 235 = M 235) ∧ xLK (mvw M) (mvw M')) (Q' := fun r' S' => ∃ (M' : Nat → mq_C) (r : Int32), r' = .inl (some (.int r)) ∧ S' = (M', z, u) ∧ m6_ent M M' x1.toInt x2.toInt r.toInt) ?_ ?_) ?_
  · refine lu_menter (by omega) hz hm hx hl ?_
    exact fun M' r b1 b2 b3 b4 b5 b6 b7 b8 b9 bL => ⟨M', r, rfl, rfl, b1, b2, b3, b4, b5, b6, b7, b8, b9, bL⟩
  · obtain ⟨d, rfl⟩ : ∃ e, d = e + 6 := ⟨d - 6, by omega⟩
    exact ym_enter hm (fun M' r h => ⟨M', r, rfl, rfl, h⟩)
  · rintro r' S' ⟨⟨M', r, rfl, rfl, b1, b2, b3, b4, b5, b6, b7, b8, b9, bL⟩, M2, r2, e1, e2, h⟩
    cases e1
    cases e2
    exact k M' r b1 b2 b3 b4 b5 b6 b7 b8 b9 h bL
theorem ly_mfinish {X : (Nat → mq_C) → Prop} (hq : mz_Ct mz_GG mq_PP X mz_q140 4) {d z u : Nat} {M : Nat → mq_C} {Q : (Option Value ⊕ Nat) → mq_S → Prop} {x1 : Int32} (hd : 4 ≤ d) (hz : 272 ≤ z) (hm : mz_sh mz_GG M) (hx : X M)
    (w0 : ∀ (M' : Nat → mq_C) (r : Int32), mz_sh mz_GG M' → X M' → mz_fr mz_q140 M M' → (∀ a, a < 8 → M' a = M a) → hb_same mz_GG mz_q140 M M' → 0 ≤ r.toInt → 0 ≤ 1 - r.toInt → Q (.inl (some (.int r))) (M', z, u)) : mq_R mq_PP d 127 0 [some (.ref 234), some (.int x1), none, none, none] [] (M, z, u) Q := by
  refine hb_use mz_GG mq_PP X (q := mz_q140) (vs := [.ref 234, .int x1]) hq (by decide +kernel) hd (show hb_pk mz_GG [(1, 234), (0, 0)] _ from ⟨⟨List.mem_singleton.mpr rfl, rfl⟩, trivial, trivial⟩) hm hx hz ?_ ?_
  · exact hb_nil
  · intro r S hpo
    obtain ⟨b1, b2, b3, b4, b5, p, hp, res, hf, hre⟩ := hpo
    rcases List.mem_cons.mp hp with rfl | hp
    · obtain ⟨x, rfl, hr, hz1, hu1⟩ := mz_re_0 mz_GG hre rfl
      obtain ⟨M', z', u'⟩ := S
      cases hz1
      cases hu1
      obtain ⟨f0, hf⟩ := hb_unc hf
      have f0 : 0 ≤ 0 + (1 * res + 0) := f0
      rw [← hr] at f0
      obtain ⟨f1, hf⟩ := hb_unc hf
      have f1 : 0 ≤ 1 + ((-1) * res + 0) := f1
      rw [← hr] at f1
      exact w0 M' x b1 b2 b3 b4 b5 (by have h1 := f0; omega) (by have h1 := f1; omega)
    cases hp
theorem lu_mfinish {d z u : Nat} {M : Nat → mq_C} {Q : (Option Value ⊕ Nat) → mq_S → Prop} {x1 : Int32} (hd : 9 ≤ d) (hz : 272 ≤ z) (hm : mz_sh mz_GG M) (hx : HX M) (hl : lw M) (ht : lx_th M)
    (k : ∀ (M' : Nat → mq_C) (r : Int32), mz_sh mz_GG M' → HX M' → lw M' → (∀ a, a < 8 → M' a = M a) → M' 271 = M 271 → (∀ a, a < 234 → M' a = M a) → lr_fin x1.toInt (hv M 234 17) (hb_sum (hn_g M) 6) (hv M 234 19) (hv M 236 0) (hv M 236 1) (hv M 236 2) (hv M 236 3) (hv M' 234 17) (hb_sum (hn_g M') 6) (hv M' 234 19) (hv M' 236 0) (hv M' 236 1) (hv M' 236 2) (hv M' 236 3) r.toInt → hv M' 234 15 = hv M 234 15 → lx_th M' → (M' 249 = M 249 ∧ M' 250 = M 250 ∧ M' 251 = M 251) → xLK (mvw M) (mvw M') → Q (.inl (some (.int r))) (M', z, u)) : mq_R mq_PP d 127 0 [some (.ref 234), some (.int x1), none, none, none] [] (M, z, u) Q := by
  obtain ⟨l0, l1, l2, l3, l4, l5⟩ := hl
  have hW : ∀ b ∈ mz_q140.2.2.2.2.2, 234 ≤ b ∧ b < 271 := by decide +kernel
  refine lx_mfinish (by omega) hz hm hx ht ?_
  intro M' r b1 b2 b3 b4 b5 bt bq
  have e9 : hv M' 33 3 = hv M 33 3 := b5 9 (33, 3) rfl rfl
  have e10 : hv M' 33 5 = hv M 33 5 := b5 10 (33, 5) rfl rfl
  have e24 : hv M' 234 30 = hv M 234 30 := b5 24 (234, 30) rfl rfl
  have e33 : hv M' 257 0 = hv M 257 0 := b5 33 (257, 0) rfl rfl
  have e0 : hv M' 8 4 = hv M 8 4 := b5 0 (8, 4) rfl rfl
  have e12 : hv M' 44 0 = hv M 44 0 := b5 12 (44, 0) rfl rfl
  have e13 : hv M' 44 1 = hv M 44 1 := b5 13 (44, 1) rfl rfl
  have e14 : hv M' 44 3 = hv M 44 3 := b5 14 (44, 3) rfl rfl
  have e28 : hv M' 234 57 = hv M 234 57 := b5 28 (234, 57) rfl rfl
  have e17 : hv M' 234 15 = hv M 234 15 := b5 17 (234, 15) rfl rfl
  exact k M' r b1 b2 ⟨by omega, by omega, by omega, by omega, by omega, by omega⟩ b4 (b3 271 (by decide) (by decide +kernel)) (fun a ha => b3 a (by omega) (lx_el (fun h => by have := hW a h; omega))) bq e17 bt ⟨b3 249 (by decide) (by decide +kernel), b3 250 (by decide) (by decide +kernel), b3 251 (by decide) (by decide +kernel)⟩ (xLK_m e24 ⟨b3 257 (by decide) (by decide +kernel), b3 258 (by decide) (by decide +kernel), b3 259 (by decide) (by decide +kernel), b3 260 (by decide) (by decide +kernel)⟩)
theorem lv_mfinish {d z u : Nat} {M : Nat → mq_C} {Q : (Option Value ⊕ Nat) → mq_S → Prop} {x1 : Int32} (hd : 9 ≤ d) (hz : 272 ≤ z) (hm : mz_sh mz_GG M) (hx : HX M) (hl : lw M) (ht : lx_th M) (hT6 : hv M 234 17 + hb_sum (hn_g M) 6 + 4 ≤ 240)
    (k : ∀ (M' : Nat → mq_C) (r : Int32), mz_sh mz_GG M' → HX M' → lw M' → (∀ a, a < 8 → M' a = M a) → M' 271 = M 271 → (∀ a, a < 234 → M' a = M a) → lr_fin x1.toInt (hv M 234 17) (hb_sum (hn_g M) 6) (hv M 234 19) (hv M 236 0) (hv M 236 1) (hv M 236 2) (hv M 236 3) (hv M' 234 17) (hb_sum (hn_g M') 6) (hv M' 234 19) (hv M' 236 0) (hv M' 236 1) (hv M' 236 2) (hv M' 236 3) r.toInt → hv M' 234 15 = hv M 234 15 → lx_th M' → (M' 249 = M 249 ∧ M' 250 = M 250 ∧ M' 251 = M 251) → m6_fin M M' x1.toInt r.toInt → xLK (mvw M) (mvw M') → Q (.inl (some (.int r))) (M', z, u)) : mq_R mq_PP d 127 0 [some (.ref 234), some (.int x1), none, none, none] [] (M, z, u) Q := by
  refine mq_R_mono (lx_and (Q := fun r' S' => ∃ (M' : Nat → mq_C) (r : Int32), r' = .inl (some (.int r)) ∧ S' = (M', z, u) ∧ mz_sh mz_GG M' ∧ HX M' ∧ lw M' ∧ (∀ a, a < 8 → M' a = M a) ∧ M' 271 = M 271 ∧ (∀ a, a < 234 → M' a = M a) ∧ lr_fin x1.toInt (hv M 234 17) (hb_sum (hn_g M) 6) (hv M 234 19) (hv M 236 0) (hv M 236 1) (hv M 236 2) (hv M 236 3) (hv M' 234 17) (hb_sum (hn_g M') 6) (hv M' 234 19) (hv M' 236 0) (hv M' 236 1) (hv M' 236 2) (hv M' 236 3) r.toInt ∧ hv M' 234 15 = hv M 234 15 ∧ lx_th M' ∧ (M' 249 = M 249 ∧ M' 250 = M 250 ∧ M' 251 = M 251) ∧ xLK (mvw M) (mvw M')) (Q' := fun r' S' => ∃ (M' : Nat → mq_C) (r : Int32), r' = .inl (some (.int r)) ∧ S' = (M', z, u) ∧ m6_fin M M' x1.toInt r.toInt) ?_ ?_) ?_
  · refine lu_mfinish (by omega) hz hm hx hl ht ?_
    exact fun M' r b1 b2 b3 b4 b5 b6 b7 b8 b9 b10 bL => ⟨M', r, rfl, rfl, b1, b2, b3, b4, b5, b6, b7, b8, b9, b10, bL⟩
  · obtain ⟨d, rfl⟩ : ∃ e, d = e + 2 := ⟨d - 2, by omega⟩
    exact ym_finx hm ht (xx_rng (c := _) hm (a := 234) (i := 17) (lo := 0) (hi := 240) rfl (by decide) rfl).1 (xx_rng (c := _) hm (a := 234) (i := 19) (lo := 0) (hi := 6) rfl (by decide) rfl).1 (xx_rng (c := _) hm (a := 234) (i := 19) (lo := 0) (hi := 6) rfl (by decide) rfl).2 (by rw [yrecs_len (xx_rng (c := _) hm (a := 234) (i := 19) (lo := 0) (hi := 6) rfl (by decide) rfl).1 (xx_rng (c := _) hm (a := 234) (i := 19) (lo := 0) (hi := 6) rfl (by decide) rfl).2]; exact hT6) (fun M' r h => ⟨M', r, rfl, rfl, h⟩)
  · rintro r' S' ⟨⟨M', r, rfl, rfl, b1, b2, b3, b4, b5, b6, b7, b8, b9, b10, bL⟩, M2, r2, e1, e2, h⟩
    cases e1
    cases e2
    exact k M' r b1 b2 b3 b4 b5 b6 b7 b8 b9 b10 h bL
theorem ly_mspoil {X : (Nat → mq_C) → Prop} (hq : mz_Ct mz_GG mq_PP X mz_q141 2) {d z u : Nat} {M : Nat → mq_C} {Q : (Option Value ⊕ Nat) → mq_S → Prop} {x1 : Int32} {x2 : Int32} {x3 : Int32} (hd : 2 ≤ d) (hz : 272 ≤ z) (hm : mz_sh mz_GG M) (hx : X M)
    (w0 : ∀ (M' : Nat → mq_C) (r : Int32), mz_sh mz_GG M' → X M' → mz_fr mz_q141 M M' → (∀ a, a < 8 → M' a = M a) → hb_same mz_GG mz_q141 M M' → 0 ≤ r.toInt → 0 ≤ 1 - r.toInt → Q (.inl (some (.int r))) (M', z, u)) : mq_R mq_PP d 128 0 [some (.ref 234), some (.int x1), some (.int x2), some (.int x3)] [] (M, z, u) Q := by
  refine hb_use mz_GG mq_PP X (q := mz_q141) (vs := [.ref 234, .int x1, .int x2, .int x3]) hq (by decide +kernel) hd (show hb_pk mz_GG [(1, 234), (0, 0), (0, 0), (0, 0)] _ from ⟨⟨List.mem_singleton.mpr rfl, rfl⟩, trivial, trivial, trivial, trivial⟩) hm hx hz ?_ ?_
  · exact hb_nil
  · intro r S hpo
    obtain ⟨b1, b2, b3, b4, b5, p, hp, res, hf, hre⟩ := hpo
    rcases List.mem_cons.mp hp with rfl | hp
    · obtain ⟨x, rfl, hr, hz1, hu1⟩ := mz_re_0 mz_GG hre rfl
      obtain ⟨M', z', u'⟩ := S
      cases hz1
      cases hu1
      obtain ⟨f0, hf⟩ := hb_unc hf
      have f0 : 0 ≤ 0 + (1 * res + 0) := f0
      rw [← hr] at f0
      obtain ⟨f1, hf⟩ := hb_unc hf
      have f1 : 0 ≤ 1 + ((-1) * res + 0) := f1
      rw [← hr] at f1
      exact w0 M' x b1 b2 b3 b4 b5 (by have h1 := f0; omega) (by have h1 := f1; omega)
    cases hp
theorem lu_mspoil {d z u : Nat} {M : Nat → mq_C} {Q : (Option Value ⊕ Nat) → mq_S → Prop} {x1 : Int32} {x2 : Int32} {x3 : Int32} (hd : 9 ≤ d) (hz : 272 ≤ z) (hm : mz_sh mz_GG M) (hx : HX M) (hl : lw M)
    (k : ∀ (M' : Nat → mq_C) (r : Int32), mz_sh mz_GG M' → HX M' → lw M' → (∀ a, a < 8 → M' a = M a) → M' 271 = M 271 → (∀ a, a < 234 → M' a = M a) → lms M M' → (M' 249 = M 249 ∧ M' 250 = M 250) → xLK (mvw M) (mvw M') → Q (.inl (some (.int r))) (M', z, u)) : mq_R mq_PP d 128 0 [some (.ref 234), some (.int x1), some (.int x2), some (.int x3)] [] (M, z, u) Q := by
  obtain ⟨l0, l1, l2, l3, l4, l5⟩ := hl
  have hW : ∀ b ∈ mz_q141.2.2.2.2.2, 234 ≤ b ∧ b < 271 := by decide +kernel
  refine ly_mspoil (ha_all (mz_q141, 2) (List.mem_of_getElem? (show mz_Cs[141]? = _ from rfl))) (by omega) hz hm hx ?_
  · intro M' r b1 b2 b3 b4 b5 f0 f1
    have e9 : hv M' 33 3 = hv M 33 3 := b5 9 (33, 3) rfl rfl
    have e10 : hv M' 33 5 = hv M 33 5 := b5 10 (33, 5) rfl rfl
    have e24 : hv M' 234 30 = hv M 234 30 := b5 24 (234, 30) rfl rfl
    have e33 : hv M' 257 0 = hv M 257 0 := b5 33 (257, 0) rfl rfl
    have e0 : hv M' 8 4 = hv M 8 4 := b5 0 (8, 4) rfl rfl
    have e12 : hv M' 44 0 = hv M 44 0 := b5 12 (44, 0) rfl rfl
    have e13 : hv M' 44 1 = hv M 44 1 := b5 13 (44, 1) rfl rfl
    have e14 : hv M' 44 3 = hv M 44 3 := b5 14 (44, 3) rfl rfl
    have e28 : hv M' 234 57 = hv M 234 57 := b5 28 (234, 57) rfl rfl
    have e17 : hv M' 234 15 = hv M 234 15 := b5 17 (234, 15) rfl rfl
    have e18 : hv M' 234 17 = hv M 234 17 := b5 18 (234, 17) rfl rfl
    have e19 : hv M' 234 19 = hv M 234 19 := b5 19 (234, 19) rfl rfl
    exact k M' r b1 b2 ⟨by omega, by omega, by omega, by omega, by omega, by omega⟩ b4 (b3 271 (by decide) (by decide +kernel)) (fun a ha => b3 a (by omega) (lx_el (fun h => by have := hW a h; omega))) ⟨⟨e17, e18, e19⟩, b3 251 (by decide) (by decide +kernel), b3 236 (by decide) (by decide +kernel), b3 237 (by decide) (by decide +kernel)⟩ ⟨b3 249 (by decide) (by decide +kernel), b3 250 (by decide) (by decide +kernel)⟩ (xLK_m e24 ⟨b3 257 (by decide) (by decide +kernel), b3 258 (by decide) (by decide +kernel), b3 259 (by decide) (by decide +kernel), b3 260 (by decide) (by decide +kernel)⟩)
theorem lv_mspoil {d z u : Nat} {M : Nat → mq_C} {Q : (Option Value ⊕ Nat) → mq_S → Prop} {x1 : Int32} {x2 : Int32} {x3 : Int32} (hd : 9 ≤ d) (hz : 272 ≤ z) (hm : mz_sh mz_GG M) (hx : HX M) (hl : lw M)
    (k : ∀ (M' : Nat → mq_C) (r : Int32), mz_sh mz_GG M' → HX M' → lw M' → (∀ a, a < 8 → M' a = M a) → M' 271 = M 271 → (∀ a, a < 234 → M' a = M a) → lms M M' → (M' 249 = M 249 ∧ M' 250 = M 250) → m6_spoil M M' x1.toInt x2.toInt x3 r.toInt → xLK (mvw M) (mvw M') → Q (.inl (some (.int r))) (M', z, u)) : mq_R mq_PP d 128 0 [some (.ref 234), some (.int x1), some (.int x2), some (.int x3)] [] (M, z, u) Q := by
  refine mq_R_mono (lx_and (Q := fun r' S' => ∃ (M' : Nat → mq_C) (r : Int32), r' = .inl (some (.int r)) ∧ S' = (M', z, u) ∧ mz_sh mz_GG M' ∧ HX M' ∧ lw M' ∧ (∀ a, a < 8 → M' a = M a) ∧ M' 271 = M 271 ∧ (∀ a, a < 234 → M' a = M a) ∧ lms M M' ∧ (M' 249 = M 249 ∧ M' 250 = M 250) ∧ xLK (mvw M) (mvw M')) (Q' := fun r' S' => ∃ (M' : Nat → mq_C) (r : Int32), r' = .inl (some (.int r)) ∧ S' = (M', z, u) ∧ m6_spoil M M' x1.toInt x2.toInt x3 r.toInt) ?_ ?_) ?_
  · refine lu_mspoil (by omega) hz hm hx hl ?_
    exact fun M' r b1 b2 b3 b4 b5 b6 b7 b8 bL => ⟨M', r, rfl, rfl, b1, b2, b3, b4, b5, b6, b7, b8, bL⟩
  · obtain ⟨d, rfl⟩ : ∃ e, d = e + 1 := ⟨d - 1, by omega⟩
    exact ym_spoil hm (fun M' r h => ⟨M', r, rfl, rfl, h⟩)
  · rintro r' S' ⟨⟨M', r, rfl, rfl, b1, b2, b3, b4, b5, b6, b7, b8, bL⟩, M2, r2, e1, e2, h⟩
    cases e1
    cases e2
    exact k M' r b1 b2 b3 b4 b5 b6 b7 b8 h bL
theorem ly_mpeek {X : (Nat → mq_C) → Prop} (hq : mz_Ct mz_GG mq_PP X mz_q142 2) {d z u : Nat} {M : Nat → mq_C} {Q : (Option Value ⊕ Nat) → mq_S → Prop} {x1 : Int32} {x2 : Int32} (hd : 2 ≤ d) (hz : 272 ≤ z) (hm : mz_sh mz_GG M) (hx : X M)
    (w0 : ∀ (M' : Nat → mq_C) (r : Int32), mz_sh mz_GG M' → X M' → mz_fr mz_q142 M M' → (∀ a, a < 8 → M' a = M a) → hb_same mz_GG mz_q142 M M' → Q (.inl (some (.int r))) (M', z, u)) : mq_R mq_PP d 129 0 [some (.ref 234), some (.int x1), some (.int x2)] [] (M, z, u) Q := by
  refine hb_use mz_GG mq_PP X (q := mz_q142) (vs := [.ref 234, .int x1, .int x2]) hq (by decide +kernel) hd (show hb_pk mz_GG [(1, 234), (0, 0), (0, 0)] _ from ⟨⟨List.mem_singleton.mpr rfl, rfl⟩, trivial, trivial, trivial⟩) hm hx hz ?_ ?_
  · exact hb_nil
  · intro r S hpo
    obtain ⟨b1, b2, b3, b4, b5, p, hp, res, hf, hre⟩ := hpo
    rcases List.mem_cons.mp hp with rfl | hp
    · obtain ⟨x, rfl, hr, hz1, hu1⟩ := mz_re_0 mz_GG hre rfl
      obtain ⟨M', z', u'⟩ := S
      cases hz1
      cases hu1
      exact w0 M' x b1 b2 b3 b4 b5 
    cases hp
theorem lu_mpeek {d z u : Nat} {M : Nat → mq_C} {Q : (Option Value ⊕ Nat) → mq_S → Prop} {x1 : Int32} {x2 : Int32} (hd : 9 ≤ d) (hz : 272 ≤ z) (hm : mz_sh mz_GG M) (hx : HX M) (hl : lw M)
    (k : ∀ (M' : Nat → mq_C) (r : Int32), mz_sh mz_GG M' → HX M' → lw M' → (∀ a, a < 8 → M' a = M a) → M' 271 = M 271 → (∀ a, a < 234 → M' a = M a) → lms M M' → (M' 249 = M 249 ∧ M' 250 = M 250 ∧ M' 235 = M 235) → xLK (mvw M) (mvw M') → Q (.inl (some (.int r))) (M', z, u)) : mq_R mq_PP d 129 0 [some (.ref 234), some (.int x1), some (.int x2)] [] (M, z, u) Q := by
  obtain ⟨l0, l1, l2, l3, l4, l5⟩ := hl
  have hW : ∀ b ∈ mz_q142.2.2.2.2.2, 234 ≤ b ∧ b < 271 := by decide +kernel
  refine ly_mpeek (ha_all (mz_q142, 2) (List.mem_of_getElem? (show mz_Cs[142]? = _ from rfl))) (by omega) hz hm hx ?_
  · intro M' r b1 b2 b3 b4 b5
    have e9 : hv M' 33 3 = hv M 33 3 := b5 9 (33, 3) rfl rfl
    have e10 : hv M' 33 5 = hv M 33 5 := b5 10 (33, 5) rfl rfl
    have e24 : hv M' 234 30 = hv M 234 30 := b5 24 (234, 30) rfl rfl
    have e33 : hv M' 257 0 = hv M 257 0 := b5 33 (257, 0) rfl rfl
    have e0 : hv M' 8 4 = hv M 8 4 := b5 0 (8, 4) rfl rfl
    have e12 : hv M' 44 0 = hv M 44 0 := b5 12 (44, 0) rfl rfl
    have e13 : hv M' 44 1 = hv M 44 1 := b5 13 (44, 1) rfl rfl
    have e14 : hv M' 44 3 = hv M 44 3 := b5 14 (44, 3) rfl rfl
    have e28 : hv M' 234 57 = hv M 234 57 := b5 28 (234, 57) rfl rfl
    have e17 : hv M' 234 15 = hv M 234 15 := b5 17 (234, 15) rfl rfl
    have e18 : hv M' 234 17 = hv M 234 17 := b5 18 (234, 17) rfl rfl
    have e19 : hv M' 234 19 = hv M 234 19 := b5 19 (234, 19) rfl rfl
    exact k M' r b1 b2 ⟨by omega, by omega, by omega, by omega, by omega, by omega⟩ b4 (b3 271 (by decide) (by decide +kernel)) (fun a ha => b3 a (by omega) (lx_el (fun h => by have := hW a h; omega))) ⟨⟨e17, e18, e19⟩, b3 251 (by decide) (by decide +kernel), b3 236 (by decide) (by decide +kernel), b3 237 (by decide) (by decide +kernel)⟩ ⟨b3 249 (by decide) (by decide +kernel), b3 250 (by decide) (by decide +kernel), b3 235 (by decide) (by decide +kernel)⟩ (xLK_m e24 ⟨b3 257 (by decide) (by decide +kernel), b3 258 (by decide) (by decide +kernel), b3 259 (by decide) (by decide +kernel), b3 260 (by decide) (by decide +kernel)⟩)
theorem lv_mpeek {d z u : Nat} {M : Nat → mq_C} {Q : (Option Value ⊕ Nat) → mq_S → Prop} {x1 : Int32} {x2 : Int32} (hd : 9 ≤ d) (hz : 272 ≤ z) (hm : mz_sh mz_GG M) (hx : HX M) (hl : lw M)
    (k : ∀ (M' : Nat → mq_C) (r : Int32), mz_sh mz_GG M' → HX M' → lw M' → (∀ a, a < 8 → M' a = M a) → M' 271 = M 271 → (∀ a, a < 234 → M' a = M a) → lms M M' → (M' 249 = M 249 ∧ M' 250 = M 250 ∧ M' 235 = M 235) → m6_peek M x1.toInt x2.toInt r.toInt → xLK (mvw M) (mvw M') → Q (.inl (some (.int r))) (M', z, u)) : mq_R mq_PP d 129 0 [some (.ref 234), some (.int x1), some (.int x2)] [] (M, z, u) Q := by
  refine mq_R_mono (lx_and (Q := fun r' S' => ∃ (M' : Nat → mq_C) (r : Int32), r' = .inl (some (.int r)) ∧ S' = (M', z, u) ∧ mz_sh mz_GG M' ∧ HX M' ∧ lw M' ∧ (∀ a, a < 8 → M' a = M a) ∧ M' 271 = M 271 ∧ (∀ a, a < 234 → M' a = M a) ∧ lms M M' ∧ (M' 249 = M 249 ∧ M' 250 = M 250 ∧ M' 235 = M 235) ∧ xLK (mvw M) (mvw M')) (Q' := fun r' S' => ∃ (M' : Nat → mq_C) (r : Int32), r' = .inl (some (.int r)) ∧ S' = (M', z, u) ∧ m6_peek M x1.toInt x2.toInt r.toInt) ?_ ?_) ?_
  · refine lu_mpeek (by omega) hz hm hx hl ?_
    exact fun M' r b1 b2 b3 b4 b5 b6 b7 b8 bL => ⟨M', r, rfl, rfl, b1, b2, b3, b4, b5, b6, b7, b8, bL⟩
  · obtain ⟨d, rfl⟩ : ∃ e, d = e + 1 := ⟨d - 1, by omega⟩
    exact ym_peek hm (fun M' r h => ⟨M', r, rfl, rfl, h⟩)
  · rintro r' S' ⟨⟨M', r, rfl, rfl, b1, b2, b3, b4, b5, b6, b7, b8, bL⟩, M2, r2, e1, e2, h⟩
    cases e1
    cases e2
    exact k M' r b1 b2 b3 b4 b5 b6 b7 b8 h bL
theorem ly_mopen {X : (Nat → mq_C) → Prop} (hq : mz_Ct mz_GG mq_PP X mz_q171 2) {d z u : Nat} {M : Nat → mq_C} {Q : (Option Value ⊕ Nat) → mq_S → Prop} {x1 : Int32} (hd : 2 ≤ d) (hz : 272 ≤ z) (hm : mz_sh mz_GG M) (hx : X M) (p0 : 0 ≤ 0 - hv M 234 30 - 4 * hv M 257 0)
    (w0 : ∀ (M' : Nat → mq_C) (r : Int32), mz_sh mz_GG M' → X M' → mz_fr mz_q171 M M' → (∀ a, a < 8 → M' a = M a) → hb_same mz_GG mz_q171 M M' → r.toInt = (-1) → hv M' 234 30 = hv M 234 30 → 0 ≤ (-4) + hv M 234 30 → 0 ≤ 0 - hv M' 234 30 - 4 * hv M' 257 0 → Q (.inl (some (.int r))) (M', z, u))
    (w1 : ∀ (M' : Nat → mq_C) (r : Int32), mz_sh mz_GG M' → X M' → mz_fr mz_q171 M M' → (∀ a, a < 8 → M' a = M a) → hb_same mz_GG mz_q171 M M' → r.toInt = (-1) → hv M' 234 30 = hv M 234 30 → 0 ≤ 0 - hv M 234 30 → 0 ≤ (-2) - x1.toInt → 0 ≤ 0 - hv M' 234 30 - 4 * hv M' 257 0 → Q (.inl (some (.int r))) (M', z, u))
    (w2 : ∀ (M' : Nat → mq_C) (r : Int32), mz_sh mz_GG M' → X M' → mz_fr mz_q171 M M' → (∀ a, a < 8 → M' a = M a) → hb_same mz_GG mz_q171 M M' → r.toInt = (-1) → hv M' 234 30 = hv M 234 30 → 0 ≤ 0 - hv M 234 30 → 0 ≤ x1.toInt → 0 ≤ 0 - hv M' 234 30 - 4 * hv M' 257 0 → Q (.inl (some (.int r))) (M', z, u))
    (w3 : ∀ (M' : Nat → mq_C) (r : Int32), mz_sh mz_GG M' → X M' → mz_fr mz_q171 M M' → (∀ a, a < 8 → M' a = M a) → hb_same mz_GG mz_q171 M M' → r.toInt = (-1) → hv M' 234 30 = hv M 234 30 → 0 ≤ (-1) + hv M 234 30 → 0 ≤ (-1) - x1.toInt → 0 ≤ 0 - hv M' 234 30 - 4 * hv M' 257 0 → Q (.inl (some (.int r))) (M', z, u))
    (w4 : ∀ (M' : Nat → mq_C) (r : Int32), mz_sh mz_GG M' → X M' → mz_fr mz_q171 M M' → (∀ a, a < 8 → M' a = M a) → hb_same mz_GG mz_q171 M M' → r.toInt = (-1) → hv M' 234 30 = hv M 234 30 → 0 ≤ (-1) + hv M 234 30 → 0 ≤ x1.toInt - hv M 234 30 → 0 ≤ 0 - hv M' 234 30 - 4 * hv M' 257 0 → Q (.inl (some (.int r))) (M', z, u))
    (w5 : ∀ (M' : Nat → mq_C) (r : Int32), mz_sh mz_GG M' → X M' → mz_fr mz_q171 M M' → (∀ a, a < 8 → M' a = M a) → hb_same mz_GG mz_q171 M M' → r.toInt = 0 → hv M 234 30 = 0 → x1.toInt = (-1) → hv M' 234 30 = 1 → 0 ≤ 0 - hv M' 234 30 - 4 * hv M' 257 0 → Q (.inl (some (.int r))) (M', z, u))
    (w6 : ∀ (M' : Nat → mq_C) (r : Int32), mz_sh mz_GG M' → X M' → mz_fr mz_q171 M M' → (∀ a, a < 8 → M' a = M a) → hb_same mz_GG mz_q171 M M' → r.toInt = hv M 234 30 → 0 ≤ (-1) + hv M 234 30 → 0 ≤ 3 - hv M 234 30 → 0 ≤ x1.toInt → 0 ≤ (-1) - x1.toInt + hv M 234 30 → hv M' 234 30 = 1 + hv M 234 30 → 0 ≤ 0 - hv M' 234 30 - 4 * hv M' 257 0 → Q (.inl (some (.int r))) (M', z, u)) : mq_R mq_PP d 140 0 [some (.ref 234), some (.int x1)] [] (M, z, u) Q := by
  refine hb_use mz_GG mq_PP X (q := mz_q171) (vs := [.ref 234, .int x1]) hq (by decide +kernel) hd (show hb_pk mz_GG [(1, 234), (0, 0)] _ from ⟨⟨List.mem_singleton.mpr rfl, rfl⟩, trivial, trivial⟩) hm hx hz ?_ ?_
  · exact hb_cons (show 0 ≤ mz_ev _ _ from (show 0 ≤ 0 + ((-1) * hv M 234 30 + ((-4) * hv M 257 0 + 0)) by omega)) (hb_nil)
  · intro r S hpo
    obtain ⟨b1, b2, b3, b4, b5, p, hp, res, hf, hre⟩ := hpo
    rcases List.mem_cons.mp hp with rfl | hp
    · obtain ⟨x, rfl, hr, hz1, hu1⟩ := mz_re_0 mz_GG hre rfl
      obtain ⟨M', z', u'⟩ := S
      cases hz1
      cases hu1
      obtain ⟨f0, hf⟩ := hb_unc hf
      have f0 : 0 ≤ 1 + (1 * res + 0) := f0
      rw [← hr] at f0
      obtain ⟨f1, hf⟩ := hb_unc hf
      have f1 : 0 ≤ -1 + ((-1) * res + 0) := f1
      rw [← hr] at f1
      obtain ⟨f2, hf⟩ := hb_unc hf
      have f2 : 0 ≤ 0 + ((-1) * hv M 234 30 + (1 * hv M' 234 30 + 0)) := f2
      obtain ⟨f3, hf⟩ := hb_unc hf
      have f3 : 0 ≤ 0 + (1 * hv M 234 30 + ((-1) * hv M' 234 30 + 0)) := f3
      obtain ⟨f4, hf⟩ := hb_unc hf
      have f4 : 0 ≤ -4 + (1 * hv M 234 30 + 0) := f4
      obtain ⟨f5, hf⟩ := hb_unc hf
      have f5 : 0 ≤ 0 + ((-1) * hv M' 234 30 + ((-4) * hv M' 257 0 + 0)) := f5
      exact w0 M' x b1 b2 b3 b4 b5 (by have h1 := f0; have h2 := f1; omega) (by have h1 := f2; have h2 := f3; omega) (by have h1 := f4; omega) (by have h1 := f5; omega)
    rcases List.mem_cons.mp hp with rfl | hp
    · obtain ⟨x, rfl, hr, hz1, hu1⟩ := mz_re_0 mz_GG hre rfl
      obtain ⟨M', z', u'⟩ := S
      cases hz1
      cases hu1
      obtain ⟨f0, hf⟩ := hb_unc hf
      have f0 : 0 ≤ 1 + (1 * res + 0) := f0
      rw [← hr] at f0
      obtain ⟨f1, hf⟩ := hb_unc hf
      have f1 : 0 ≤ -1 + ((-1) * res + 0) := f1
      rw [← hr] at f1
      obtain ⟨f2, hf⟩ := hb_unc hf
      have f2 : 0 ≤ 0 + ((-1) * hv M 234 30 + (1 * hv M' 234 30 + 0)) := f2
      obtain ⟨f3, hf⟩ := hb_unc hf
      have f3 : 0 ≤ 0 + (1 * hv M 234 30 + ((-1) * hv M' 234 30 + 0)) := f3
      obtain ⟨f4, hf⟩ := hb_unc hf
      have f4 : 0 ≤ 0 + ((-1) * hv M 234 30 + 0) := f4
      obtain ⟨f5, hf⟩ := hb_unc hf
      have f5 : 0 ≤ -2 + ((-1) * x1.toInt + 0) := f5
      obtain ⟨f6, hf⟩ := hb_unc hf
      have f6 : 0 ≤ 0 + ((-1) * hv M' 234 30 + ((-4) * hv M' 257 0 + 0)) := f6
      exact w1 M' x b1 b2 b3 b4 b5 (by have h1 := f0; have h2 := f1; omega) (by have h1 := f2; have h2 := f3; omega) (by have h1 := f4; omega) (by have h1 := f5; omega) (by have h1 := f6; omega)
    rcases List.mem_cons.mp hp with rfl | hp
    · obtain ⟨x, rfl, hr, hz1, hu1⟩ := mz_re_0 mz_GG hre rfl
      obtain ⟨M', z', u'⟩ := S
      cases hz1
      cases hu1
      obtain ⟨f0, hf⟩ := hb_unc hf
      have f0 : 0 ≤ 1 + (1 * res + 0) := f0
      rw [← hr] at f0
      obtain ⟨f1, hf⟩ := hb_unc hf
      have f1 : 0 ≤ -1 + ((-1) * res + 0) := f1
      rw [← hr] at f1
      obtain ⟨f2, hf⟩ := hb_unc hf
      have f2 : 0 ≤ 0 + ((-1) * hv M 234 30 + (1 * hv M' 234 30 + 0)) := f2
      obtain ⟨f3, hf⟩ := hb_unc hf
      have f3 : 0 ≤ 0 + (1 * hv M 234 30 + ((-1) * hv M' 234 30 + 0)) := f3
      obtain ⟨f4, hf⟩ := hb_unc hf
      have f4 : 0 ≤ 0 + ((-1) * hv M 234 30 + 0) := f4
      obtain ⟨f5, hf⟩ := hb_unc hf
      have f5 : 0 ≤ 0 + (1 * x1.toInt + 0) := f5
      obtain ⟨f6, hf⟩ := hb_unc hf
      have f6 : 0 ≤ 0 + ((-1) * hv M' 234 30 + ((-4) * hv M' 257 0 + 0)) := f6
      exact w2 M' x b1 b2 b3 b4 b5 (by have h1 := f0; have h2 := f1; omega) (by have h1 := f2; have h2 := f3; omega) (by have h1 := f4; omega) (by have h1 := f5; omega) (by have h1 := f6; omega)
    rcases List.mem_cons.mp hp with rfl | hp
    · obtain ⟨x, rfl, hr, hz1, hu1⟩ := mz_re_0 mz_GG hre rfl
      obtain ⟨M', z', u'⟩ := S
      cases hz1
      cases hu1
      obtain ⟨f0, hf⟩ := hb_unc hf
      have f0 : 0 ≤ 1 + (1 * res + 0) := f0
      rw [← hr] at f0
      obtain ⟨f1, hf⟩ := hb_unc hf
      have f1 : 0 ≤ -1 + ((-1) * res + 0) := f1
      rw [← hr] at f1
      obtain ⟨f2, hf⟩ := hb_unc hf
      have f2 : 0 ≤ 0 + ((-1) * hv M 234 30 + (1 * hv M' 234 30 + 0)) := f2
      obtain ⟨f3, hf⟩ := hb_unc hf
      have f3 : 0 ≤ 0 + (1 * hv M 234 30 + ((-1) * hv M' 234 30 + 0)) := f3
      obtain ⟨f4, hf⟩ := hb_unc hf
      have f4 : 0 ≤ -1 + (1 * hv M 234 30 + 0) := f4
      obtain ⟨f5, hf⟩ := hb_unc hf
      have f5 : 0 ≤ -1 + ((-1) * x1.toInt + 0) := f5
      obtain ⟨f6, hf⟩ := hb_unc hf
      have f6 : 0 ≤ 0 + ((-1) * hv M' 234 30 + ((-4) * hv M' 257 0 + 0)) := f6
      exact w3 M' x b1 b2 b3 b4 b5 (by have h1 := f0; have h2 := f1; omega) (by have h1 := f2; have h2 := f3; omega) (by have h1 := f4; omega) (by have h1 := f5; omega) (by have h1 := f6; omega)
    rcases List.mem_cons.mp hp with rfl | hp
    · obtain ⟨x, rfl, hr, hz1, hu1⟩ := mz_re_0 mz_GG hre rfl
      obtain ⟨M', z', u'⟩ := S
      cases hz1
      cases hu1
      obtain ⟨f0, hf⟩ := hb_unc hf
      have f0 : 0 ≤ 1 + (1 * res + 0) := f0
      rw [← hr] at f0
      obtain ⟨f1, hf⟩ := hb_unc hf
      have f1 : 0 ≤ -1 + ((-1) * res + 0) := f1
      rw [← hr] at f1
      obtain ⟨f2, hf⟩ := hb_unc hf
      have f2 : 0 ≤ 0 + ((-1) * hv M 234 30 + (1 * hv M' 234 30 + 0)) := f2
      obtain ⟨f3, hf⟩ := hb_unc hf
      have f3 : 0 ≤ 0 + (1 * hv M 234 30 + ((-1) * hv M' 234 30 + 0)) := f3
      obtain ⟨f4, hf⟩ := hb_unc hf
      have f4 : 0 ≤ -1 + (1 * hv M 234 30 + 0) := f4
      obtain ⟨f5, hf⟩ := hb_unc hf
      have f5 : 0 ≤ 0 + (1 * x1.toInt + ((-1) * hv M 234 30 + 0)) := f5
      obtain ⟨f6, hf⟩ := hb_unc hf
      have f6 : 0 ≤ 0 + ((-1) * hv M' 234 30 + ((-4) * hv M' 257 0 + 0)) := f6
      exact w4 M' x b1 b2 b3 b4 b5 (by have h1 := f0; have h2 := f1; omega) (by have h1 := f2; have h2 := f3; omega) (by have h1 := f4; omega) (by have h1 := f5; omega) (by have h1 := f6; omega)
    rcases List.mem_cons.mp hp with rfl | hp
    · obtain ⟨x, rfl, hr, hz1, hu1⟩ := mz_re_0 mz_GG hre rfl
      obtain ⟨M', z', u'⟩ := S
      cases hz1
      cases hu1
      obtain ⟨f0, hf⟩ := hb_unc hf
      have f0 : 0 ≤ 0 + (1 * res + 0) := f0
      rw [← hr] at f0
      obtain ⟨f1, hf⟩ := hb_unc hf
      have f1 : 0 ≤ 0 + ((-1) * res + 0) := f1
      rw [← hr] at f1
      obtain ⟨f2, hf⟩ := hb_unc hf
      have f2 : 0 ≤ 0 + (1 * hv M 234 30 + 0) := f2
      obtain ⟨f3, hf⟩ := hb_unc hf
      have f3 : 0 ≤ 0 + ((-1) * hv M 234 30 + 0) := f3
      obtain ⟨f4, hf⟩ := hb_unc hf
      have f4 : 0 ≤ 1 + (1 * x1.toInt + 0) := f4
      obtain ⟨f5, hf⟩ := hb_unc hf
      have f5 : 0 ≤ -1 + ((-1) * x1.toInt + 0) := f5
      obtain ⟨f6, hf⟩ := hb_unc hf
      have f6 : 0 ≤ -1 + (1 * hv M' 234 30 + 0) := f6
      obtain ⟨f7, hf⟩ := hb_unc hf
      have f7 : 0 ≤ 1 + ((-1) * hv M' 234 30 + 0) := f7
      obtain ⟨f8, hf⟩ := hb_unc hf
      have f8 : 0 ≤ 0 + ((-1) * hv M' 234 30 + ((-4) * hv M' 257 0 + 0)) := f8
      exact w5 M' x b1 b2 b3 b4 b5 (by have h1 := f0; have h2 := f1; omega) (by have h1 := f2; have h2 := f3; omega) (by have h1 := f4; have h2 := f5; omega) (by have h1 := f6; have h2 := f7; omega) (by have h1 := f8; omega)
    rcases List.mem_cons.mp hp with rfl | hp
    · obtain ⟨x, rfl, hr, hz1, hu1⟩ := mz_re_0 mz_GG hre rfl
      obtain ⟨M', z', u'⟩ := S
      cases hz1
      cases hu1
      obtain ⟨f0, hf⟩ := hb_unc hf
      have f0 : 0 ≤ 0 + ((-1) * hv M 234 30 + (1 * res + 0)) := f0
      rw [← hr] at f0
      obtain ⟨f1, hf⟩ := hb_unc hf
      have f1 : 0 ≤ 0 + (1 * hv M 234 30 + ((-1) * res + 0)) := f1
      rw [← hr] at f1
      obtain ⟨f2, hf⟩ := hb_unc hf
      have f2 : 0 ≤ -1 + (1 * hv M 234 30 + 0) := f2
      obtain ⟨f3, hf⟩ := hb_unc hf
      have f3 : 0 ≤ 3 + ((-1) * hv M 234 30 + 0) := f3
      obtain ⟨f4, hf⟩ := hb_unc hf
      have f4 : 0 ≤ 0 + (1 * x1.toInt + 0) := f4
      obtain ⟨f5, hf⟩ := hb_unc hf
      have f5 : 0 ≤ -1 + ((-1) * x1.toInt + (1 * hv M 234 30 + 0)) := f5
      obtain ⟨f6, hf⟩ := hb_unc hf
      have f6 : 0 ≤ -1 + ((-1) * hv M 234 30 + (1 * hv M' 234 30 + 0)) := f6
      obtain ⟨f7, hf⟩ := hb_unc hf
      have f7 : 0 ≤ 1 + (1 * hv M 234 30 + ((-1) * hv M' 234 30 + 0)) := f7
      obtain ⟨f8, hf⟩ := hb_unc hf
      have f8 : 0 ≤ 0 + ((-1) * hv M' 234 30 + ((-4) * hv M' 257 0 + 0)) := f8
      exact w6 M' x b1 b2 b3 b4 b5 (by have h1 := f0; have h2 := f1; omega) (by have h1 := f2; omega) (by have h1 := f3; omega) (by have h1 := f4; omega) (by have h1 := f5; omega) (by have h1 := f6; have h2 := f7; omega) (by have h1 := f8; omega)
    cases hp
theorem lu_mopen {d z u : Nat} {M : Nat → mq_C} {Q : (Option Value ⊕ Nat) → mq_S → Prop} {x1 : Int32} (hd : 9 ≤ d) (hz : 272 ≤ z) (hm : mz_sh mz_GG M) (hx : HX M) (hl : lw M)
    (k : ∀ (M' : Nat → mq_C) (r : Int32), mz_sh mz_GG M' → HX M' → lw M' → (∀ a, a < 8 → M' a = M a) → M' 271 = M 271 → (∀ a, a < 234 → M' a = M a) → lms M M' → (M' 249 = M 249 ∧ M' 250 = M 250 ∧ M' 235 = M 235) → Q (.inl (some (.int r))) (M', z, u)) : mq_R mq_PP d 140 0 [some (.ref 234), some (.int x1)] [] (M, z, u) Q := by
  obtain ⟨l0, l1, l2, l3, l4, l5⟩ := hl
  have hW : ∀ b ∈ mz_q171.2.2.2.2.2, 234 ≤ b ∧ b < 271 := by decide +kernel
  refine ly_mopen (ha_all (mz_q171, 2) (List.mem_of_getElem? (show mz_Cs[171]? = _ from rfl))) (by omega) hz hm hx (by omega) ?_ ?_ ?_ ?_ ?_ ?_ ?_
  · intro M' r b1 b2 b3 b4 b5 f0 f1 f2 f3
    have e9 : hv M' 33 3 = hv M 33 3 := b5 9 (33, 3) rfl rfl
    have e10 : hv M' 33 5 = hv M 33 5 := b5 10 (33, 5) rfl rfl
    have e0 : hv M' 8 4 = hv M 8 4 := b5 0 (8, 4) rfl rfl
    have e12 : hv M' 44 0 = hv M 44 0 := b5 12 (44, 0) rfl rfl
    have e13 : hv M' 44 1 = hv M 44 1 := b5 13 (44, 1) rfl rfl
    have e14 : hv M' 44 3 = hv M 44 3 := b5 14 (44, 3) rfl rfl
    have e28 : hv M' 234 57 = hv M 234 57 := b5 28 (234, 57) rfl rfl
    have e17 : hv M' 234 15 = hv M 234 15 := b5 17 (234, 15) rfl rfl
    have e18 : hv M' 234 17 = hv M 234 17 := b5 18 (234, 17) rfl rfl
    have e19 : hv M' 234 19 = hv M 234 19 := b5 19 (234, 19) rfl rfl
    exact k M' r b1 b2 ⟨by omega, by omega, by omega, by omega, by omega, by omega⟩ b4 (b3 271 (by decide) (by decide +kernel)) (fun a ha => b3 a (by omega) (lx_el (fun h => by have := hW a h; omega))) ⟨⟨e17, e18, e19⟩, b3 251 (by decide) (by decide +kernel), b3 236 (by decide) (by decide +kernel), b3 237 (by decide) (by decide +kernel)⟩ ⟨b3 249 (by decide) (by decide +kernel), b3 250 (by decide) (by decide +kernel), b3 235 (by decide) (by decide +kernel)⟩
  · intro M' r b1 b2 b3 b4 b5 f0 f1 f2 f3 f4
    have e9 : hv M' 33 3 = hv M 33 3 := b5 9 (33, 3) rfl rfl
    have e10 : hv M' 33 5 = hv M 33 5 := b5 10 (33, 5) rfl rfl
    have e0 : hv M' 8 4 = hv M 8 4 := b5 0 (8, 4) rfl rfl
    have e12 : hv M' 44 0 = hv M 44 0 := b5 12 (44, 0) rfl rfl
    have e13 : hv M' 44 1 = hv M 44 1 := b5 13 (44, 1) rfl rfl
    have e14 : hv M' 44 3 = hv M 44 3 := b5 14 (44, 3) rfl rfl
    have e28 : hv M' 234 57 = hv M 234 57 := b5 28 (234, 57) rfl rfl
    have e17 : hv M' 234 15 = hv M 234 15 := b5 17 (234, 15) rfl rfl
    have e18 : hv M' 234 17 = hv M 234 17 := b5 18 (234, 17) rfl rfl
    have e19 : hv M' 234 19 = hv M 234 19 := b5 19 (234, 19) rfl rfl
    exact k M' r b1 b2 ⟨by omega, by omega, by omega, by omega, by omega, by omega⟩ b4 (b3 271 (by decide) (by decide +kernel)) (fun a ha => b3 a (by omega) (lx_el (fun h => by have := hW a h; omega))) ⟨⟨e17, e18, e19⟩, b3 251 (by decide) (by decide +kernel), b3 236 (by decide) (by decide +kernel), b3 237 (by decide) (by decide +kernel)⟩ ⟨b3 249 (by decide) (by decide +kernel), b3 250 (by decide) (by decide +kernel), b3 235 (by decide) (by decide +kernel)⟩
  · intro M' r b1 b2 b3 b4 b5 f0 f1 f2 f3 f4
    have e9 : hv M' 33 3 = hv M 33 3 := b5 9 (33, 3) rfl rfl
    have e10 : hv M' 33 5 = hv M 33 5 := b5 10 (33, 5) rfl rfl
    have e0 : hv M' 8 4 = hv M 8 4 := b5 0 (8, 4) rfl rfl
    have e12 : hv M' 44 0 = hv M 44 0 := b5 12 (44, 0) rfl rfl
    have e13 : hv M' 44 1 = hv M 44 1 := b5 13 (44, 1) rfl rfl
    have e14 : hv M' 44 3 = hv M 44 3 := b5 14 (44, 3) rfl rfl
    have e28 : hv M' 234 57 = hv M 234 57 := b5 28 (234, 57) rfl rfl
    have e17 : hv M' 234 15 = hv M 234 15 := b5 17 (234, 15) rfl rfl
    have e18 : hv M' 234 17 = hv M 234 17 := b5 18 (234, 17) rfl rfl
    have e19 : hv M' 234 19 = hv M 234 19 := b5 19 (234, 19) rfl rfl
    exact k M' r b1 b2 ⟨by omega, by omega, by omega, by omega, by omega, by omega⟩ b4 (b3 271 (by decide) (by decide +kernel)) (fun a ha => b3 a (by omega) (lx_el (fun h => by have := hW a h; omega))) ⟨⟨e17, e18, e19⟩, b3 251 (by decide) (by decide +kernel), b3 236 (by decide) (by decide +kernel), b3 237 (by decide) (by decide +kernel)⟩ ⟨b3 249 (by decide) (by decide +kernel), b3 250 (by decide) (by decide +kernel), b3 235 (by decide) (by decide +kernel)⟩
  · intro M' r b1 b2 b3 b4 b5 f0 f1 f2 f3 f4
    have e9 : hv M' 33 3 = hv M 33 3 := b5 9 (33, 3) rfl rfl
    have e10 : hv M' 33 5 = hv M 33 5 := b5 10 (33, 5) rfl rfl
    have e0 : hv M' 8 4 = hv M 8 4 := b5 0 (8, 4) rfl rfl
    have e12 : hv M' 44 0 = hv M 44 0 := b5 12 (44, 0) rfl rfl
    have e13 : hv M' 44 1 = hv M 44 1 := b5 13 (44, 1) rfl rfl
    have e14 : hv M' 44 3 = hv M 44 3 := b5 14 (44, 3) rfl rfl
    have e28 : hv M' 234 57 = hv M 234 57 := b5 28 (234, 57) rfl rfl
    have e17 : hv M' 234 15 = hv M 234 15 := b5 17 (234, 15) rfl rfl
    have e18 : hv M' 234 17 = hv M 234 17 := b5 18 (234, 17) rfl rfl
    have e19 : hv M' 234 19 = hv M 234 19 := b5 19 (234, 19) rfl rfl
    exact k M' r b1 b2 ⟨by omega, by omega, by omega, by omega, by omega, by omega⟩ b4 (b3 271 (by decide) (by decide +kernel)) (fun a ha => b3 a (by omega) (lx_el (fun h => by have := hW a h; omega))) ⟨⟨e17, e18, e19⟩, b3 251 (by decide) (by decide +kernel), b3 236 (by decide) (by decide +kernel), b3 237 (by decide) (by decide +kernel)⟩ ⟨b3 249 (by decide) (by decide +kernel), b3 250 (by decide) (by decide +kernel), b3 235 (by decide) (by decide +kernel)⟩
  · intro M' r b1 b2 b3 b4 b5 f0 f1 f2 f3 f4
    have e9 : hv M' 33 3 = hv M 33 3 := b5 9 (33, 3) rfl rfl
    have e10 : hv M' 33 5 = hv M 33 5 := b5 10 (33, 5) rfl rfl
    have e0 : hv M' 8 4 = hv M 8 4 := b5 0 (8, 4) rfl rfl
    have e12 : hv M' 44 0 = hv M 44 0 := b5 12 (44, 0) rfl rfl
    have e13 : hv M' 44 1 = hv M 44 1 := b5 13 (44, 1) rfl rfl
    have e14 : hv M' 44 3 = hv M 44 3 := b5 14 (44, 3) rfl rfl
    have e28 : hv M' 234 57 = hv M 234 57 := b5 28 (234, 57) rfl rfl
    have e17 : hv M' 234 15 = hv M 234 15 := b5 17 (234, 15) rfl rfl
    have e18 : hv M' 234 17 = hv M 234 17 := b5 18 (234, 17) rfl rfl
    have e19 : hv M' 234 19 = hv M 234 19 := b5 19 (234, 19) rfl rfl
    exact k M' r b1 b2 ⟨by omega, by omega, by omega, by omega, by omega, by omega⟩ b4 (b3 271 (by decide) (by decide +kernel)) (fun a ha => b3 a (by omega) (lx_el (fun h => by have := hW a h; omega))) ⟨⟨e17, e18, e19⟩, b3 251 (by decide) (by decide +kernel), b3 236 (by decide) (by decide +kernel), b3 237 (by decide) (by decide +kernel)⟩ ⟨b3 249 (by decide) (by decide +kernel), b3 250 (by decide) (by decide +kernel), b3 235 (by decide) (by decide +kernel)⟩
  · intro M' r b1 b2 b3 b4 b5 f0 f1 f2 f3 f4
    have e9 : hv M' 33 3 = hv M 33 3 := b5 9 (33, 3) rfl rfl
    have e10 : hv M' 33 5 = hv M 33 5 := b5 10 (33, 5) rfl rfl
    have e0 : hv M' 8 4 = hv M 8 4 := b5 0 (8, 4) rfl rfl
    have e12 : hv M' 44 0 = hv M 44 0 := b5 12 (44, 0) rfl rfl
    have e13 : hv M' 44 1 = hv M 44 1 := b5 13 (44, 1) rfl rfl
    have e14 : hv M' 44 3 = hv M 44 3 := b5 14 (44, 3) rfl rfl
    have e28 : hv M' 234 57 = hv M 234 57 := b5 28 (234, 57) rfl rfl
    have e17 : hv M' 234 15 = hv M 234 15 := b5 17 (234, 15) rfl rfl
    have e18 : hv M' 234 17 = hv M 234 17 := b5 18 (234, 17) rfl rfl
    have e19 : hv M' 234 19 = hv M 234 19 := b5 19 (234, 19) rfl rfl
    exact k M' r b1 b2 ⟨by omega, by omega, by omega, by omega, by omega, by omega⟩ b4 (b3 271 (by decide) (by decide +kernel)) (fun a ha => b3 a (by omega) (lx_el (fun h => by have := hW a h; omega))) ⟨⟨e17, e18, e19⟩, b3 251 (by decide) (by decide +kernel), b3 236 (by decide) (by decide +kernel), b3 237 (by decide) (by decide +kernel)⟩ ⟨b3 249 (by decide) (by decide +kernel), b3 250 (by decide) (by decide +kernel), b3 235 (by decide) (by decide +kernel)⟩
  · intro M' r b1 b2 b3 b4 b5 f0 f1 f2 f3 f4 f5 f6
    have e9 : hv M' 33 3 = hv M 33 3 := b5 9 (33, 3) rfl rfl
    have e10 : hv M' 33 5 = hv M 33 5 := b5 10 (33, 5) rfl rfl
    have e0 : hv M' 8 4 = hv M 8 4 := b5 0 (8, 4) rfl rfl
    have e12 : hv M' 44 0 = hv M 44 0 := b5 12 (44, 0) rfl rfl
    have e13 : hv M' 44 1 = hv M 44 1 := b5 13 (44, 1) rfl rfl
    have e14 : hv M' 44 3 = hv M 44 3 := b5 14 (44, 3) rfl rfl
    have e28 : hv M' 234 57 = hv M 234 57 := b5 28 (234, 57) rfl rfl
    have e17 : hv M' 234 15 = hv M 234 15 := b5 17 (234, 15) rfl rfl
    have e18 : hv M' 234 17 = hv M 234 17 := b5 18 (234, 17) rfl rfl
    have e19 : hv M' 234 19 = hv M 234 19 := b5 19 (234, 19) rfl rfl
    exact k M' r b1 b2 ⟨by omega, by omega, by omega, by omega, by omega, by omega⟩ b4 (b3 271 (by decide) (by decide +kernel)) (fun a ha => b3 a (by omega) (lx_el (fun h => by have := hW a h; omega))) ⟨⟨e17, e18, e19⟩, b3 251 (by decide) (by decide +kernel), b3 236 (by decide) (by decide +kernel), b3 237 (by decide) (by decide +kernel)⟩ ⟨b3 249 (by decide) (by decide +kernel), b3 250 (by decide) (by decide +kernel), b3 235 (by decide) (by decide +kernel)⟩
theorem lv_mopen {d z u : Nat} {M : Nat → mq_C} {Q : (Option Value ⊕ Nat) → mq_S → Prop} {x1 : Int32} (hd : 9 ≤ d) (hz : 272 ≤ z) (hm : mz_sh mz_GG M) (hx : HX M) (hl : lw M)
    (k : ∀ (M' : Nat → mq_C) (r : Int32), mz_sh mz_GG M' → HX M' → lw M' → (∀ a, a < 8 → M' a = M a) → M' 271 = M 271 → (∀ a, a < 234 → M' a = M a) → lms M M' → (M' 249 = M 249 ∧ M' 250 = M 250 ∧ M' 235 = M 235) → xSo (mvw M) (mvw M') x1.toInt r.toInt → Q (.inl (some (.int r))) (M', z, u)) : mq_R mq_PP d 140 0 [some (.ref 234), some (.int x1)] [] (M, z, u) Q := by
  refine mq_R_mono (lx_and (Q := fun r' S' => ∃ (M' : Nat → mq_C) (r : Int32), r' = .inl (some (.int r)) ∧ S' = (M', z, u) ∧ mz_sh mz_GG M' ∧ HX M' ∧ lw M' ∧ (∀ a, a < 8 → M' a = M a) ∧ M' 271 = M 271 ∧ (∀ a, a < 234 → M' a = M a) ∧ lms M M' ∧ (M' 249 = M 249 ∧ M' 250 = M 250 ∧ M' 235 = M 235)) (Q' := fun r' S' => ∃ (M' : Nat → mq_C) (r : Int32), r' = .inl (some (.int r)) ∧ S' = (M', z, u) ∧ xSo (mvw M) (mvw M') x1.toInt r.toInt) ?_ ?_) ?_
  · refine lu_mopen (by omega) hz hm hx hl ?_
    exact fun M' r b1 b2 b3 b4 b5 b6 b7 b8 => ⟨M', r, rfl, rfl, b1, b2, b3, b4, b5, b6, b7, b8⟩
  · obtain ⟨d, rfl⟩ : ∃ e, d = e + 1 := ⟨d - 1, by omega⟩
    exact ym_open hm (fun M' r h => ⟨M', r, rfl, rfl, h⟩)
  · rintro r' S' ⟨⟨M', r, rfl, rfl, b1, b2, b3, b4, b5, b6, b7, b8⟩, M2, r2, e1, e2, h⟩
    cases e1
    cases e2
    exact k M' r b1 b2 b3 b4 b5 b6 b7 b8 h
theorem ly_mappend {X : (Nat → mq_C) → Prop} (hq : mz_Ct mz_GG mq_PP X mz_q172 2) {d z u : Nat} {M : Nat → mq_C} {Q : (Option Value ⊕ Nat) → mq_S → Prop} {x1 : Int32} {x2 : Int32} (hd : 2 ≤ d) (hz : 272 ≤ z) (hm : mz_sh mz_GG M) (hx : X M)
    (w0 : ∀ (M' : Nat → mq_C) (r : Int32), mz_sh mz_GG M' → X M' → mz_fr mz_q172 M M' → (∀ a, a < 8 → M' a = M a) → hb_same mz_GG mz_q172 M M' → r.toInt = 0 → hv M' 258 0 = hv M 258 0 → hv M' 258 1 = hv M 258 1 → hv M' 258 2 = hv M 258 2 → hv M' 258 3 = hv M 258 3 → 0 ≤ (-1) - x1.toInt → Q (.inl (some (.int r))) (M', z, u))
    (w1 : ∀ (M' : Nat → mq_C) (r : Int32), mz_sh mz_GG M' → X M' → mz_fr mz_q172 M M' → (∀ a, a < 8 → M' a = M a) → hb_same mz_GG mz_q172 M M' → r.toInt = 0 → hv M' 258 0 = hv M 258 0 → hv M' 258 1 = hv M 258 1 → hv M' 258 2 = hv M 258 2 → hv M' 258 3 = hv M 258 3 → 0 ≤ x1.toInt - hv M 234 30 → Q (.inl (some (.int r))) (M', z, u))
    (w2 : ∀ (M' : Nat → mq_C) (r : Int32), mz_sh mz_GG M' → X M' → mz_fr mz_q172 M M' → (∀ a, a < 8 → M' a = M a) → hb_same mz_GG mz_q172 M M' → r.toInt = 0 → hv M' 258 0 = hv M 258 0 → hv M' 258 1 = hv M 258 1 → hv M' 258 2 = hv M 258 2 → hv M' 258 3 = hv M 258 3 → 0 ≤ (-1) - x2.toInt → Q (.inl (some (.int r))) (M', z, u))
    (w3 : ∀ (M' : Nat → mq_C) (r : Int32), mz_sh mz_GG M' → X M' → mz_fr mz_q172 M M' → (∀ a, a < 8 → M' a = M a) → hb_same mz_GG mz_q172 M M' → r.toInt = 0 → hv M' 258 0 = hv M 258 0 → hv M' 258 1 = hv M 258 1 → hv M' 258 2 = hv M 258 2 → hv M' 258 3 = hv M 258 3 → 0 ≤ (-4) + x2.toInt → Q (.inl (some (.int r))) (M', z, u))
    (w4 : ∀ (M' : Nat → mq_C) (r : Int32), mz_sh mz_GG M' → X M' → mz_fr mz_q172 M M' → (∀ a, a < 8 → M' a = M a) → hb_same mz_GG mz_q172 M M' → r.toInt = 1 → x1.toInt = 0 → 0 ≤ (-1) + hv M 234 30 → 0 ≤ x2.toInt → 0 ≤ 3 - x2.toInt → hv M 260 0 = 0 → 0 ≤ 3 - hv M 258 0 → hv M' 258 0 = 1 + hv M 258 0 → hv M' 258 1 = hv M 258 1 → hv M' 258 2 = hv M 258 2 → hv M' 258 3 = hv M 258 3 → Q (.inl (some (.int r))) (M', z, u))
    (w5 : ∀ (M' : Nat → mq_C) (r : Int32), mz_sh mz_GG M' → X M' → mz_fr mz_q172 M M' → (∀ a, a < 8 → M' a = M a) → hb_same mz_GG mz_q172 M M' → r.toInt = 0 → hv M' 258 0 = hv M 258 0 → hv M' 258 1 = hv M 258 1 → hv M' 258 2 = hv M 258 2 → hv M' 258 3 = hv M 258 3 → x1.toInt = 0 → 0 ≤ (-1) + hv M 234 30 → 0 ≤ x2.toInt → 0 ≤ 3 - x2.toInt → 0 ≤ (-1) + hv M 260 0 → Q (.inl (some (.int r))) (M', z, u))
    (w6 : ∀ (M' : Nat → mq_C) (r : Int32), mz_sh mz_GG M' → X M' → mz_fr mz_q172 M M' → (∀ a, a < 8 → M' a = M a) → hb_same mz_GG mz_q172 M M' → r.toInt = 0 → hv M' 258 0 = hv M 258 0 → hv M' 258 1 = hv M 258 1 → hv M' 258 2 = hv M 258 2 → hv M' 258 3 = hv M 258 3 → x1.toInt = 0 → 0 ≤ (-1) + hv M 234 30 → 0 ≤ x2.toInt → 0 ≤ 3 - x2.toInt → 0 ≤ (-4) + hv M 258 0 → Q (.inl (some (.int r))) (M', z, u))
    (w7 : ∀ (M' : Nat → mq_C) (r : Int32), mz_sh mz_GG M' → X M' → mz_fr mz_q172 M M' → (∀ a, a < 8 → M' a = M a) → hb_same mz_GG mz_q172 M M' → r.toInt = 1 → x1.toInt = 1 → 0 ≤ (-2) + hv M 234 30 → 0 ≤ x2.toInt → 0 ≤ 3 - x2.toInt → hv M 260 1 = 0 → 0 ≤ 3 - hv M 258 1 → hv M' 258 1 = 1 + hv M 258 1 → hv M' 258 0 = hv M 258 0 → hv M' 258 2 = hv M 258 2 → hv M' 258 3 = hv M 258 3 → Q (.inl (some (.int r))) (M', z, u))
    (w8 : ∀ (M' : Nat → mq_C) (r : Int32), mz_sh mz_GG M' → X M' → mz_fr mz_q172 M M' → (∀ a, a < 8 → M' a = M a) → hb_same mz_GG mz_q172 M M' → r.toInt = 0 → hv M' 258 0 = hv M 258 0 → hv M' 258 1 = hv M 258 1 → hv M' 258 2 = hv M 258 2 → hv M' 258 3 = hv M 258 3 → x1.toInt = 1 → 0 ≤ (-2) + hv M 234 30 → 0 ≤ x2.toInt → 0 ≤ 3 - x2.toInt → 0 ≤ (-1) + hv M 260 1 → Q (.inl (some (.int r))) (M', z, u))
    (w9 : ∀ (M' : Nat → mq_C) (r : Int32), mz_sh mz_GG M' → X M' → mz_fr mz_q172 M M' → (∀ a, a < 8 → M' a = M a) → hb_same mz_GG mz_q172 M M' → r.toInt = 0 → hv M' 258 0 = hv M 258 0 → hv M' 258 1 = hv M 258 1 → hv M' 258 2 = hv M 258 2 → hv M' 258 3 = hv M 258 3 → x1.toInt = 1 → 0 ≤ (-2) + hv M 234 30 → 0 ≤ x2.toInt → 0 ≤ 3 - x2.toInt → 0 ≤ (-4) + hv M 258 1 → Q (.inl (some (.int r))) (M', z, u))
    (w10 : ∀ (M' : Nat → mq_C) (r : Int32), mz_sh mz_GG M' → X M' → mz_fr mz_q172 M M' → (∀ a, a < 8 → M' a = M a) → hb_same mz_GG mz_q172 M M' → r.toInt = 1 → x1.toInt = 2 → 0 ≤ (-3) + hv M 234 30 → 0 ≤ x2.toInt → 0 ≤ 3 - x2.toInt → hv M 260 2 = 0 → 0 ≤ 3 - hv M 258 2 → hv M' 258 2 = 1 + hv M 258 2 → hv M' 258 0 = hv M 258 0 → hv M' 258 1 = hv M 258 1 → hv M' 258 3 = hv M 258 3 → Q (.inl (some (.int r))) (M', z, u))
    (w11 : ∀ (M' : Nat → mq_C) (r : Int32), mz_sh mz_GG M' → X M' → mz_fr mz_q172 M M' → (∀ a, a < 8 → M' a = M a) → hb_same mz_GG mz_q172 M M' → r.toInt = 0 → hv M' 258 0 = hv M 258 0 → hv M' 258 1 = hv M 258 1 → hv M' 258 2 = hv M 258 2 → hv M' 258 3 = hv M 258 3 → x1.toInt = 2 → 0 ≤ (-3) + hv M 234 30 → 0 ≤ x2.toInt → 0 ≤ 3 - x2.toInt → 0 ≤ (-1) + hv M 260 2 → Q (.inl (some (.int r))) (M', z, u))
    (w12 : ∀ (M' : Nat → mq_C) (r : Int32), mz_sh mz_GG M' → X M' → mz_fr mz_q172 M M' → (∀ a, a < 8 → M' a = M a) → hb_same mz_GG mz_q172 M M' → r.toInt = 0 → hv M' 258 0 = hv M 258 0 → hv M' 258 1 = hv M 258 1 → hv M' 258 2 = hv M 258 2 → hv M' 258 3 = hv M 258 3 → x1.toInt = 2 → 0 ≤ (-3) + hv M 234 30 → 0 ≤ x2.toInt → 0 ≤ 3 - x2.toInt → 0 ≤ (-4) + hv M 258 2 → Q (.inl (some (.int r))) (M', z, u))
    (w13 : ∀ (M' : Nat → mq_C) (r : Int32), mz_sh mz_GG M' → X M' → mz_fr mz_q172 M M' → (∀ a, a < 8 → M' a = M a) → hb_same mz_GG mz_q172 M M' → r.toInt = 1 → x1.toInt = 3 → 0 ≤ (-4) + hv M 234 30 → 0 ≤ x2.toInt → 0 ≤ 3 - x2.toInt → hv M 260 3 = 0 → 0 ≤ 3 - hv M 258 3 → hv M' 258 3 = 1 + hv M 258 3 → hv M' 258 0 = hv M 258 0 → hv M' 258 1 = hv M 258 1 → hv M' 258 2 = hv M 258 2 → Q (.inl (some (.int r))) (M', z, u))
    (w14 : ∀ (M' : Nat → mq_C) (r : Int32), mz_sh mz_GG M' → X M' → mz_fr mz_q172 M M' → (∀ a, a < 8 → M' a = M a) → hb_same mz_GG mz_q172 M M' → r.toInt = 0 → hv M' 258 0 = hv M 258 0 → hv M' 258 1 = hv M 258 1 → hv M' 258 2 = hv M 258 2 → hv M' 258 3 = hv M 258 3 → x1.toInt = 3 → 0 ≤ (-4) + hv M 234 30 → 0 ≤ x2.toInt → 0 ≤ 3 - x2.toInt → 0 ≤ (-1) + hv M 260 3 → Q (.inl (some (.int r))) (M', z, u))
    (w15 : ∀ (M' : Nat → mq_C) (r : Int32), mz_sh mz_GG M' → X M' → mz_fr mz_q172 M M' → (∀ a, a < 8 → M' a = M a) → hb_same mz_GG mz_q172 M M' → r.toInt = 0 → hv M' 258 0 = hv M 258 0 → hv M' 258 1 = hv M 258 1 → hv M' 258 2 = hv M 258 2 → hv M' 258 3 = hv M 258 3 → x1.toInt = 3 → 0 ≤ (-4) + hv M 234 30 → 0 ≤ x2.toInt → 0 ≤ 3 - x2.toInt → 0 ≤ (-4) + hv M 258 3 → Q (.inl (some (.int r))) (M', z, u)) : mq_R mq_PP d 141 0 [some (.ref 234), some (.int x1), some (.int x2)] [] (M, z, u) Q := by
  refine hb_use mz_GG mq_PP X (q := mz_q172) (vs := [.ref 234, .int x1, .int x2]) hq (by decide +kernel) hd (show hb_pk mz_GG [(1, 234), (0, 0), (0, 0)] _ from ⟨⟨List.mem_singleton.mpr rfl, rfl⟩, trivial, trivial, trivial⟩) hm hx hz ?_ ?_
  · exact hb_nil
  · intro r S hpo
    obtain ⟨b1, b2, b3, b4, b5, p, hp, res, hf, hre⟩ := hpo
    rcases List.mem_cons.mp hp with rfl | hp
    · obtain ⟨x, rfl, hr, hz1, hu1⟩ := mz_re_0 mz_GG hre rfl
      obtain ⟨M', z', u'⟩ := S
      cases hz1
      cases hu1
      obtain ⟨f0, hf⟩ := hb_unc hf
      have f0 : 0 ≤ 0 + (1 * res + 0) := f0
      rw [← hr] at f0
      obtain ⟨f1, hf⟩ := hb_unc hf
      have f1 : 0 ≤ 0 + ((-1) * res + 0) := f1
      rw [← hr] at f1
      obtain ⟨f2, hf⟩ := hb_unc hf
      have f2 : 0 ≤ 0 + ((-1) * hv M 258 0 + (1 * hv M' 258 0 + 0)) := f2
      obtain ⟨f3, hf⟩ := hb_unc hf
      have f3 : 0 ≤ 0 + (1 * hv M 258 0 + ((-1) * hv M' 258 0 + 0)) := f3
      obtain ⟨f4, hf⟩ := hb_unc hf
      have f4 : 0 ≤ 0 + ((-1) * hv M 258 1 + (1 * hv M' 258 1 + 0)) := f4
      obtain ⟨f5, hf⟩ := hb_unc hf
      have f5 : 0 ≤ 0 + (1 * hv M 258 1 + ((-1) * hv M' 258 1 + 0)) := f5
      obtain ⟨f6, hf⟩ := hb_unc hf
      have f6 : 0 ≤ 0 + ((-1) * hv M 258 2 + (1 * hv M' 258 2 + 0)) := f6
      obtain ⟨f7, hf⟩ := hb_unc hf
      have f7 : 0 ≤ 0 + (1 * hv M 258 2 + ((-1) * hv M' 258 2 + 0)) := f7
      obtain ⟨f8, hf⟩ := hb_unc hf
      have f8 : 0 ≤ 0 + ((-1) * hv M 258 3 + (1 * hv M' 258 3 + 0)) := f8
      obtain ⟨f9, hf⟩ := hb_unc hf
      have f9 : 0 ≤ 0 + (1 * hv M 258 3 + ((-1) * hv M' 258 3 + 0)) := f9
      obtain ⟨f10, hf⟩ := hb_unc hf
      have f10 : 0 ≤ -1 + ((-1) * x1.toInt + 0) := f10
      exact w0 M' x b1 b2 b3 b4 b5 (by have h1 := f0; have h2 := f1; omega) (by have h1 := f2; have h2 := f3; omega) (by have h1 := f4; have h2 := f5; omega) (by have h1 := f6; have h2 := f7; omega) (by have h1 := f8; have h2 := f9; omega) (by have h1 := f10; omega)
    rcases List.mem_cons.mp hp with rfl | hp
    · obtain ⟨x, rfl, hr, hz1, hu1⟩ := mz_re_0 mz_GG hre rfl
      obtain ⟨M', z', u'⟩ := S
      cases hz1
      cases hu1
      obtain ⟨f0, hf⟩ := hb_unc hf
      have f0 : 0 ≤ 0 + (1 * res + 0) := f0
      rw [← hr] at f0
      obtain ⟨f1, hf⟩ := hb_unc hf
      have f1 : 0 ≤ 0 + ((-1) * res + 0) := f1
      rw [← hr] at f1
      obtain ⟨f2, hf⟩ := hb_unc hf
      have f2 : 0 ≤ 0 + ((-1) * hv M 258 0 + (1 * hv M' 258 0 + 0)) := f2
      obtain ⟨f3, hf⟩ := hb_unc hf
      have f3 : 0 ≤ 0 + (1 * hv M 258 0 + ((-1) * hv M' 258 0 + 0)) := f3
      obtain ⟨f4, hf⟩ := hb_unc hf
      have f4 : 0 ≤ 0 + ((-1) * hv M 258 1 + (1 * hv M' 258 1 + 0)) := f4
      obtain ⟨f5, hf⟩ := hb_unc hf
      have f5 : 0 ≤ 0 + (1 * hv M 258 1 + ((-1) * hv M' 258 1 + 0)) := f5
      obtain ⟨f6, hf⟩ := hb_unc hf
      have f6 : 0 ≤ 0 + ((-1) * hv M 258 2 + (1 * hv M' 258 2 + 0)) := f6
      obtain ⟨f7, hf⟩ := hb_unc hf
      have f7 : 0 ≤ 0 + (1 * hv M 258 2 + ((-1) * hv M' 258 2 + 0)) := f7
      obtain ⟨f8, hf⟩ := hb_unc hf
      have f8 : 0 ≤ 0 + ((-1) * hv M 258 3 + (1 * hv M' 258 3 + 0)) := f8
      obtain ⟨f9, hf⟩ := hb_unc hf
      have f9 : 0 ≤ 0 + (1 * hv M 258 3 + ((-1) * hv M' 258 3 + 0)) := f9
      obtain ⟨f10, hf⟩ := hb_unc hf
      have f10 : 0 ≤ 0 + (1 * x1.toInt + ((-1) * hv M 234 30 + 0)) := f10
      exact w1 M' x b1 b2 b3 b4 b5 (by have h1 := f0; have h2 := f1; omega) (by have h1 := f2; have h2 := f3; omega) (by have h1 := f4; have h2 := f5; omega) (by have h1 := f6; have h2 := f7; omega) (by have h1 := f8; have h2 := f9; omega) (by have h1 := f10; omega)
    rcases List.mem_cons.mp hp with rfl | hp
    · obtain ⟨x, rfl, hr, hz1, hu1⟩ := mz_re_0 mz_GG hre rfl
      obtain ⟨M', z', u'⟩ := S
      cases hz1
      cases hu1
      obtain ⟨f0, hf⟩ := hb_unc hf
      have f0 : 0 ≤ 0 + (1 * res + 0) := f0
      rw [← hr] at f0
      obtain ⟨f1, hf⟩ := hb_unc hf
      have f1 : 0 ≤ 0 + ((-1) * res + 0) := f1
      rw [← hr] at f1
      obtain ⟨f2, hf⟩ := hb_unc hf
      have f2 : 0 ≤ 0 + ((-1) * hv M 258 0 + (1 * hv M' 258 0 + 0)) := f2
      obtain ⟨f3, hf⟩ := hb_unc hf
      have f3 : 0 ≤ 0 + (1 * hv M 258 0 + ((-1) * hv M' 258 0 + 0)) := f3
      obtain ⟨f4, hf⟩ := hb_unc hf
      have f4 : 0 ≤ 0 + ((-1) * hv M 258 1 + (1 * hv M' 258 1 + 0)) := f4
      obtain ⟨f5, hf⟩ := hb_unc hf
      have f5 : 0 ≤ 0 + (1 * hv M 258 1 + ((-1) * hv M' 258 1 + 0)) := f5
      obtain ⟨f6, hf⟩ := hb_unc hf
      have f6 : 0 ≤ 0 + ((-1) * hv M 258 2 + (1 * hv M' 258 2 + 0)) := f6
      obtain ⟨f7, hf⟩ := hb_unc hf
      have f7 : 0 ≤ 0 + (1 * hv M 258 2 + ((-1) * hv M' 258 2 + 0)) := f7
      obtain ⟨f8, hf⟩ := hb_unc hf
      have f8 : 0 ≤ 0 + ((-1) * hv M 258 3 + (1 * hv M' 258 3 + 0)) := f8
      obtain ⟨f9, hf⟩ := hb_unc hf
      have f9 : 0 ≤ 0 + (1 * hv M 258 3 + ((-1) * hv M' 258 3 + 0)) := f9
      obtain ⟨f10, hf⟩ := hb_unc hf
      have f10 : 0 ≤ -1 + ((-1) * x2.toInt + 0) := f10
      exact w2 M' x b1 b2 b3 b4 b5 (by have h1 := f0; have h2 := f1; omega) (by have h1 := f2; have h2 := f3; omega) (by have h1 := f4; have h2 := f5; omega) (by have h1 := f6; have h2 := f7; omega) (by have h1 := f8; have h2 := f9; omega) (by have h1 := f10; omega)
    rcases List.mem_cons.mp hp with rfl | hp
    · obtain ⟨x, rfl, hr, hz1, hu1⟩ := mz_re_0 mz_GG hre rfl
      obtain ⟨M', z', u'⟩ := S
      cases hz1
      cases hu1
      obtain ⟨f0, hf⟩ := hb_unc hf
      have f0 : 0 ≤ 0 + (1 * res + 0) := f0
      rw [← hr] at f0
      obtain ⟨f1, hf⟩ := hb_unc hf
      have f1 : 0 ≤ 0 + ((-1) * res + 0) := f1
      rw [← hr] at f1
      obtain ⟨f2, hf⟩ := hb_unc hf
      have f2 : 0 ≤ 0 + ((-1) * hv M 258 0 + (1 * hv M' 258 0 + 0)) := f2
      obtain ⟨f3, hf⟩ := hb_unc hf
      have f3 : 0 ≤ 0 + (1 * hv M 258 0 + ((-1) * hv M' 258 0 + 0)) := f3
      obtain ⟨f4, hf⟩ := hb_unc hf
      have f4 : 0 ≤ 0 + ((-1) * hv M 258 1 + (1 * hv M' 258 1 + 0)) := f4
      obtain ⟨f5, hf⟩ := hb_unc hf
      have f5 : 0 ≤ 0 + (1 * hv M 258 1 + ((-1) * hv M' 258 1 + 0)) := f5
      obtain ⟨f6, hf⟩ := hb_unc hf
      have f6 : 0 ≤ 0 + ((-1) * hv M 258 2 + (1 * hv M' 258 2 + 0)) := f6
      obtain ⟨f7, hf⟩ := hb_unc hf
      have f7 : 0 ≤ 0 + (1 * hv M 258 2 + ((-1) * hv M' 258 2 + 0)) := f7
      obtain ⟨f8, hf⟩ := hb_unc hf
      have f8 : 0 ≤ 0 + ((-1) * hv M 258 3 + (1 * hv M' 258 3 + 0)) := f8
      obtain ⟨f9, hf⟩ := hb_unc hf
      have f9 : 0 ≤ 0 + (1 * hv M 258 3 + ((-1) * hv M' 258 3 + 0)) := f9
      obtain ⟨f10, hf⟩ := hb_unc hf
      have f10 : 0 ≤ -4 + (1 * x2.toInt + 0) := f10
      exact w3 M' x b1 b2 b3 b4 b5 (by have h1 := f0; have h2 := f1; omega) (by have h1 := f2; have h2 := f3; omega) (by have h1 := f4; have h2 := f5; omega) (by have h1 := f6; have h2 := f7; omega) (by have h1 := f8; have h2 := f9; omega) (by have h1 := f10; omega)
    rcases List.mem_cons.mp hp with rfl | hp
    · obtain ⟨x, rfl, hr, hz1, hu1⟩ := mz_re_0 mz_GG hre rfl
      obtain ⟨M', z', u'⟩ := S
      cases hz1
      cases hu1
      obtain ⟨f0, hf⟩ := hb_unc hf
      have f0 : 0 ≤ -1 + (1 * res + 0) := f0
      rw [← hr] at f0
      obtain ⟨f1, hf⟩ := hb_unc hf
      have f1 : 0 ≤ 1 + ((-1) * res + 0) := f1
      rw [← hr] at f1
      obtain ⟨f2, hf⟩ := hb_unc hf
      have f2 : 0 ≤ 0 + (1 * x1.toInt + 0) := f2
      obtain ⟨f3, hf⟩ := hb_unc hf
      have f3 : 0 ≤ 0 + ((-1) * x1.toInt + 0) := f3
      obtain ⟨f4, hf⟩ := hb_unc hf
      have f4 : 0 ≤ -1 + (1 * hv M 234 30 + 0) := f4
      obtain ⟨f5, hf⟩ := hb_unc hf
      have f5 : 0 ≤ 0 + (1 * x2.toInt + 0) := f5
      obtain ⟨f6, hf⟩ := hb_unc hf
      have f6 : 0 ≤ 3 + ((-1) * x2.toInt + 0) := f6
      obtain ⟨f7, hf⟩ := hb_unc hf
      have f7 : 0 ≤ 0 + (1 * hv M 260 0 + 0) := f7
      obtain ⟨f8, hf⟩ := hb_unc hf
      have f8 : 0 ≤ 0 + ((-1) * hv M 260 0 + 0) := f8
      obtain ⟨f9, hf⟩ := hb_unc hf
      have f9 : 0 ≤ 3 + ((-1) * hv M 258 0 + 0) := f9
      obtain ⟨f10, hf⟩ := hb_unc hf
      have f10 : 0 ≤ -1 + ((-1) * hv M 258 0 + (1 * hv M' 258 0 + 0)) := f10
      obtain ⟨f11, hf⟩ := hb_unc hf
      have f11 : 0 ≤ 1 + (1 * hv M 258 0 + ((-1) * hv M' 258 0 + 0)) := f11
      obtain ⟨f12, hf⟩ := hb_unc hf
      have f12 : 0 ≤ 0 + ((-1) * hv M 258 1 + (1 * hv M' 258 1 + 0)) := f12
      obtain ⟨f13, hf⟩ := hb_unc hf
      have f13 : 0 ≤ 0 + (1 * hv M 258 1 + ((-1) * hv M' 258 1 + 0)) := f13
      obtain ⟨f14, hf⟩ := hb_unc hf
      have f14 : 0 ≤ 0 + ((-1) * hv M 258 2 + (1 * hv M' 258 2 + 0)) := f14
      obtain ⟨f15, hf⟩ := hb_unc hf
      have f15 : 0 ≤ 0 + (1 * hv M 258 2 + ((-1) * hv M' 258 2 + 0)) := f15
      obtain ⟨f16, hf⟩ := hb_unc hf
      have f16 : 0 ≤ 0 + ((-1) * hv M 258 3 + (1 * hv M' 258 3 + 0)) := f16
      obtain ⟨f17, hf⟩ := hb_unc hf
      have f17 : 0 ≤ 0 + (1 * hv M 258 3 + ((-1) * hv M' 258 3 + 0)) := f17
      exact w4 M' x b1 b2 b3 b4 b5 (by have h1 := f0; have h2 := f1; omega) (by have h1 := f2; have h2 := f3; omega) (by have h1 := f4; omega) (by have h1 := f5; omega) (by have h1 := f6; omega) (by have h1 := f7; have h2 := f8; omega) (by have h1 := f9; omega) (by have h1 := f10; have h2 := f11; omega) (by have h1 := f12; have h2 := f13; omega) (by have h1 := f14; have h2 := f15; omega) (by have h1 := f16; have h2 := f17; omega)
    rcases List.mem_cons.mp hp with rfl | hp
    · obtain ⟨x, rfl, hr, hz1, hu1⟩ := mz_re_0 mz_GG hre rfl
      obtain ⟨M', z', u'⟩ := S
      cases hz1
      cases hu1
      obtain ⟨f0, hf⟩ := hb_unc hf
      have f0 : 0 ≤ 0 + (1 * res + 0) := f0
      rw [← hr] at f0
      obtain ⟨f1, hf⟩ := hb_unc hf
      have f1 : 0 ≤ 0 + ((-1) * res + 0) := f1
      rw [← hr] at f1
      obtain ⟨f2, hf⟩ := hb_unc hf
      have f2 : 0 ≤ 0 + ((-1) * hv M 258 0 + (1 * hv M' 258 0 + 0)) := f2
      obtain ⟨f3, hf⟩ := hb_unc hf
      have f3 : 0 ≤ 0 + (1 * hv M 258 0 + ((-1) * hv M' 258 0 + 0)) := f3
      obtain ⟨f4, hf⟩ := hb_unc hf
      have f4 : 0 ≤ 0 + ((-1) * hv M 258 1 + (1 * hv M' 258 1 + 0)) := f4
      obtain ⟨f5, hf⟩ := hb_unc hf
      have f5 : 0 ≤ 0 + (1 * hv M 258 1 + ((-1) * hv M' 258 1 + 0)) := f5
      obtain ⟨f6, hf⟩ := hb_unc hf
      have f6 : 0 ≤ 0 + ((-1) * hv M 258 2 + (1 * hv M' 258 2 + 0)) := f6
      obtain ⟨f7, hf⟩ := hb_unc hf
      have f7 : 0 ≤ 0 + (1 * hv M 258 2 + ((-1) * hv M' 258 2 + 0)) := f7
      obtain ⟨f8, hf⟩ := hb_unc hf
      have f8 : 0 ≤ 0 + ((-1) * hv M 258 3 + (1 * hv M' 258 3 + 0)) := f8
      obtain ⟨f9, hf⟩ := hb_unc hf
      have f9 : 0 ≤ 0 + (1 * hv M 258 3 + ((-1) * hv M' 258 3 + 0)) := f9
      obtain ⟨f10, hf⟩ := hb_unc hf
      have f10 : 0 ≤ 0 + (1 * x1.toInt + 0) := f10
      obtain ⟨f11, hf⟩ := hb_unc hf
      have f11 : 0 ≤ 0 + ((-1) * x1.toInt + 0) := f11
      obtain ⟨f12, hf⟩ := hb_unc hf
      have f12 : 0 ≤ -1 + (1 * hv M 234 30 + 0) := f12
      obtain ⟨f13, hf⟩ := hb_unc hf
      have f13 : 0 ≤ 0 + (1 * x2.toInt + 0) := f13
      obtain ⟨f14, hf⟩ := hb_unc hf
      have f14 : 0 ≤ 3 + ((-1) * x2.toInt + 0) := f14
      obtain ⟨f15, hf⟩ := hb_unc hf
      have f15 : 0 ≤ -1 + (1 * hv M 260 0 + 0) := f15
      exact w5 M' x b1 b2 b3 b4 b5 (by have h1 := f0; have h2 := f1; omega) (by have h1 := f2; have h2 := f3; omega) (by have h1 := f4; have h2 := f5; omega) (by have h1 := f6; have h2 := f7; omega) (by have h1 := f8; have h2 := f9; omega) (by have h1 := f10; have h2 := f11; omega) (by have h1 := f12; omega) (by have h1 := f13; omega) (by have h1 := f14; omega) (by have h1 := f15; omega)
    rcases List.mem_cons.mp hp with rfl | hp
    · obtain ⟨x, rfl, hr, hz1, hu1⟩ := mz_re_0 mz_GG hre rfl
      obtain ⟨M', z', u'⟩ := S
      cases hz1
      cases hu1
      obtain ⟨f0, hf⟩ := hb_unc hf
      have f0 : 0 ≤ 0 + (1 * res + 0) := f0
      rw [← hr] at f0
      obtain ⟨f1, hf⟩ := hb_unc hf
      have f1 : 0 ≤ 0 + ((-1) * res + 0) := f1
      rw [← hr] at f1
      obtain ⟨f2, hf⟩ := hb_unc hf
      have f2 : 0 ≤ 0 + ((-1) * hv M 258 0 + (1 * hv M' 258 0 + 0)) := f2
      obtain ⟨f3, hf⟩ := hb_unc hf
      have f3 : 0 ≤ 0 + (1 * hv M 258 0 + ((-1) * hv M' 258 0 + 0)) := f3
      obtain ⟨f4, hf⟩ := hb_unc hf
      have f4 : 0 ≤ 0 + ((-1) * hv M 258 1 + (1 * hv M' 258 1 + 0)) := f4
      obtain ⟨f5, hf⟩ := hb_unc hf
      have f5 : 0 ≤ 0 + (1 * hv M 258 1 + ((-1) * hv M' 258 1 + 0)) := f5
      obtain ⟨f6, hf⟩ := hb_unc hf
      have f6 : 0 ≤ 0 + ((-1) * hv M 258 2 + (1 * hv M' 258 2 + 0)) := f6
      obtain ⟨f7, hf⟩ := hb_unc hf
      have f7 : 0 ≤ 0 + (1 * hv M 258 2 + ((-1) * hv M' 258 2 + 0)) := f7
      obtain ⟨f8, hf⟩ := hb_unc hf
      have f8 : 0 ≤ 0 + ((-1) * hv M 258 3 + (1 * hv M' 258 3 + 0)) := f8
      obtain ⟨f9, hf⟩ := hb_unc hf
      have f9 : 0 ≤ 0 + (1 * hv M 258 3 + ((-1) * hv M' 258 3 + 0)) := f9
      obtain ⟨f10, hf⟩ := hb_unc hf
      have f10 : 0 ≤ 0 + (1 * x1.toInt + 0) := f10
      obtain ⟨f11, hf⟩ := hb_unc hf
      have f11 : 0 ≤ 0 + ((-1) * x1.toInt + 0) := f11
      obtain ⟨f12, hf⟩ := hb_unc hf
      have f12 : 0 ≤ -1 + (1 * hv M 234 30 + 0) := f12
      obtain ⟨f13, hf⟩ := hb_unc hf
      have f13 : 0 ≤ 0 + (1 * x2.toInt + 0) := f13
      obtain ⟨f14, hf⟩ := hb_unc hf
      have f14 : 0 ≤ 3 + ((-1) * x2.toInt + 0) := f14
      obtain ⟨f15, hf⟩ := hb_unc hf
      have f15 : 0 ≤ -4 + (1 * hv M 258 0 + 0) := f15
      exact w6 M' x b1 b2 b3 b4 b5 (by have h1 := f0; have h2 := f1; omega) (by have h1 := f2; have h2 := f3; omega) (by have h1 := f4; have h2 := f5; omega) (by have h1 := f6; have h2 := f7; omega) (by have h1 := f8; have h2 := f9; omega) (by have h1 := f10; have h2 := f11; omega) (by have h1 := f12; omega) (by have h1 := f13; omega) (by have h1 := f14; omega) (by have h1 := f15; omega)
    rcases List.mem_cons.mp hp with rfl | hp
    · obtain ⟨x, rfl, hr, hz1, hu1⟩ := mz_re_0 mz_GG hre rfl
      obtain ⟨M', z', u'⟩ := S
      cases hz1
      cases hu1
      obtain ⟨f0, hf⟩ := hb_unc hf
      have f0 : 0 ≤ -1 + (1 * res + 0) := f0
      rw [← hr] at f0
      obtain ⟨f1, hf⟩ := hb_unc hf
      have f1 : 0 ≤ 1 + ((-1) * res + 0) := f1
      rw [← hr] at f1
      obtain ⟨f2, hf⟩ := hb_unc hf
      have f2 : 0 ≤ -1 + (1 * x1.toInt + 0) := f2
      obtain ⟨f3, hf⟩ := hb_unc hf
      have f3 : 0 ≤ 1 + ((-1) * x1.toInt + 0) := f3
      obtain ⟨f4, hf⟩ := hb_unc hf
      have f4 : 0 ≤ -2 + (1 * hv M 234 30 + 0) := f4
      obtain ⟨f5, hf⟩ := hb_unc hf
      have f5 : 0 ≤ 0 + (1 * x2.toInt + 0) := f5
      obtain ⟨f6, hf⟩ := hb_unc hf
      have f6 : 0 ≤ 3 + ((-1) * x2.toInt + 0) := f6
      obtain ⟨f7, hf⟩ := hb_unc hf
      have f7 : 0 ≤ 0 + (1 * hv M 260 1 + 0) := f7
      obtain ⟨f8, hf⟩ := hb_unc hf
      have f8 : 0 ≤ 0 + ((-1) * hv M 260 1 + 0) := f8
      obtain ⟨f9, hf⟩ := hb_unc hf
      have f9 : 0 ≤ 3 + ((-1) * hv M 258 1 + 0) := f9
      obtain ⟨f10, hf⟩ := hb_unc hf
      have f10 : 0 ≤ -1 + ((-1) * hv M 258 1 + (1 * hv M' 258 1 + 0)) := f10
      obtain ⟨f11, hf⟩ := hb_unc hf
      have f11 : 0 ≤ 1 + (1 * hv M 258 1 + ((-1) * hv M' 258 1 + 0)) := f11
      obtain ⟨f12, hf⟩ := hb_unc hf
      have f12 : 0 ≤ 0 + ((-1) * hv M 258 0 + (1 * hv M' 258 0 + 0)) := f12
      obtain ⟨f13, hf⟩ := hb_unc hf
      have f13 : 0 ≤ 0 + (1 * hv M 258 0 + ((-1) * hv M' 258 0 + 0)) := f13
      obtain ⟨f14, hf⟩ := hb_unc hf
      have f14 : 0 ≤ 0 + ((-1) * hv M 258 2 + (1 * hv M' 258 2 + 0)) := f14
      obtain ⟨f15, hf⟩ := hb_unc hf
      have f15 : 0 ≤ 0 + (1 * hv M 258 2 + ((-1) * hv M' 258 2 + 0)) := f15
      obtain ⟨f16, hf⟩ := hb_unc hf
      have f16 : 0 ≤ 0 + ((-1) * hv M 258 3 + (1 * hv M' 258 3 + 0)) := f16
      obtain ⟨f17, hf⟩ := hb_unc hf
      have f17 : 0 ≤ 0 + (1 * hv M 258 3 + ((-1) * hv M' 258 3 + 0)) := f17
      exact w7 M' x b1 b2 b3 b4 b5 (by have h1 := f0; have h2 := f1; omega) (by have h1 := f2; have h2 := f3; omega) (by have h1 := f4; omega) (by have h1 := f5; omega) (by have h1 := f6; omega) (by have h1 := f7; have h2 := f8; omega) (by have h1 := f9; omega) (by have h1 := f10; have h2 := f11; omega) (by have h1 := f12; have h2 := f13; omega) (by have h1 := f14; have h2 := f15; omega) (by have h1 := f16; have h2 := f17; omega)
    rcases List.mem_cons.mp hp with rfl | hp
    · obtain ⟨x, rfl, hr, hz1, hu1⟩ := mz_re_0 mz_GG hre rfl
      obtain ⟨M', z', u'⟩ := S
      cases hz1
      cases hu1
      obtain ⟨f0, hf⟩ := hb_unc hf
      have f0 : 0 ≤ 0 + (1 * res + 0) := f0
      rw [← hr] at f0
      obtain ⟨f1, hf⟩ := hb_unc hf
      have f1 : 0 ≤ 0 + ((-1) * res + 0) := f1
      rw [← hr] at f1
      obtain ⟨f2, hf⟩ := hb_unc hf
      have f2 : 0 ≤ 0 + ((-1) * hv M 258 0 + (1 * hv M' 258 0 + 0)) := f2
      obtain ⟨f3, hf⟩ := hb_unc hf
      have f3 : 0 ≤ 0 + (1 * hv M 258 0 + ((-1) * hv M' 258 0 + 0)) := f3
      obtain ⟨f4, hf⟩ := hb_unc hf
      have f4 : 0 ≤ 0 + ((-1) * hv M 258 1 + (1 * hv M' 258 1 + 0)) := f4
      obtain ⟨f5, hf⟩ := hb_unc hf
      have f5 : 0 ≤ 0 + (1 * hv M 258 1 + ((-1) * hv M' 258 1 + 0)) := f5
      obtain ⟨f6, hf⟩ := hb_unc hf
      have f6 : 0 ≤ 0 + ((-1) * hv M 258 2 + (1 * hv M' 258 2 + 0)) := f6
      obtain ⟨f7, hf⟩ := hb_unc hf
      have f7 : 0 ≤ 0 + (1 * hv M 258 2 + ((-1) * hv M' 258 2 + 0)) := f7
      obtain ⟨f8, hf⟩ := hb_unc hf
      have f8 : 0 ≤ 0 + ((-1) * hv M 258 3 + (1 * hv M' 258 3 + 0)) := f8
      obtain ⟨f9, hf⟩ := hb_unc hf
      have f9 : 0 ≤ 0 + (1 * hv M 258 3 + ((-1) * hv M' 258 3 + 0)) := f9
      obtain ⟨f10, hf⟩ := hb_unc hf
      have f10 : 0 ≤ -1 + (1 * x1.toInt + 0) := f10
      obtain ⟨f11, hf⟩ := hb_unc hf
      have f11 : 0 ≤ 1 + ((-1) * x1.toInt + 0) := f11
      obtain ⟨f12, hf⟩ := hb_unc hf
      have f12 : 0 ≤ -2 + (1 * hv M 234 30 + 0) := f12
      obtain ⟨f13, hf⟩ := hb_unc hf
      have f13 : 0 ≤ 0 + (1 * x2.toInt + 0) := f13
      obtain ⟨f14, hf⟩ := hb_unc hf
      have f14 : 0 ≤ 3 + ((-1) * x2.toInt + 0) := f14
      obtain ⟨f15, hf⟩ := hb_unc hf
      have f15 : 0 ≤ -1 + (1 * hv M 260 1 + 0) := f15
      exact w8 M' x b1 b2 b3 b4 b5 (by have h1 := f0; have h2 := f1; omega) (by have h1 := f2; have h2 := f3; omega) (by have h1 := f4; have h2 := f5; omega) (by have h1 := f6; have h2 := f7; omega) (by have h1 := f8; have h2 := f9; omega) (by have h1 := f10; have h2 := f11; omega) (by have h1 := f12; omega) (by have h1 := f13; omega) (by have h1 := f14; omega) (by have h1 := f15; omega)
    rcases List.mem_cons.mp hp with rfl | hp
    · obtain ⟨x, rfl, hr, hz1, hu1⟩ := mz_re_0 mz_GG hre rfl
      obtain ⟨M', z', u'⟩ := S
      cases hz1
      cases hu1
      obtain ⟨f0, hf⟩ := hb_unc hf
      have f0 : 0 ≤ 0 + (1 * res + 0) := f0
      rw [← hr] at f0
      obtain ⟨f1, hf⟩ := hb_unc hf
      have f1 : 0 ≤ 0 + ((-1) * res + 0) := f1
      rw [← hr] at f1
      obtain ⟨f2, hf⟩ := hb_unc hf
      have f2 : 0 ≤ 0 + ((-1) * hv M 258 0 + (1 * hv M' 258 0 + 0)) := f2
      obtain ⟨f3, hf⟩ := hb_unc hf
      have f3 : 0 ≤ 0 + (1 * hv M 258 0 + ((-1) * hv M' 258 0 + 0)) := f3
      obtain ⟨f4, hf⟩ := hb_unc hf
      have f4 : 0 ≤ 0 + ((-1) * hv M 258 1 + (1 * hv M' 258 1 + 0)) := f4
      obtain ⟨f5, hf⟩ := hb_unc hf
      have f5 : 0 ≤ 0 + (1 * hv M 258 1 + ((-1) * hv M' 258 1 + 0)) := f5
      obtain ⟨f6, hf⟩ := hb_unc hf
      have f6 : 0 ≤ 0 + ((-1) * hv M 258 2 + (1 * hv M' 258 2 + 0)) := f6
      obtain ⟨f7, hf⟩ := hb_unc hf
      have f7 : 0 ≤ 0 + (1 * hv M 258 2 + ((-1) * hv M' 258 2 + 0)) := f7
      obtain ⟨f8, hf⟩ := hb_unc hf
      have f8 : 0 ≤ 0 + ((-1) * hv M 258 3 + (1 * hv M' 258 3 + 0)) := f8
      obtain ⟨f9, hf⟩ := hb_unc hf
      have f9 : 0 ≤ 0 + (1 * hv M 258 3 + ((-1) * hv M' 258 3 + 0)) := f9
      obtain ⟨f10, hf⟩ := hb_unc hf
      have f10 : 0 ≤ -1 + (1 * x1.toInt + 0) := f10
      obtain ⟨f11, hf⟩ := hb_unc hf
      have f11 : 0 ≤ 1 + ((-1) * x1.toInt + 0) := f11
      obtain ⟨f12, hf⟩ := hb_unc hf
      have f12 : 0 ≤ -2 + (1 * hv M 234 30 + 0) := f12
      obtain ⟨f13, hf⟩ := hb_unc hf
      have f13 : 0 ≤ 0 + (1 * x2.toInt + 0) := f13
      obtain ⟨f14, hf⟩ := hb_unc hf
      have f14 : 0 ≤ 3 + ((-1) * x2.toInt + 0) := f14
      obtain ⟨f15, hf⟩ := hb_unc hf
      have f15 : 0 ≤ -4 + (1 * hv M 258 1 + 0) := f15
      exact w9 M' x b1 b2 b3 b4 b5 (by have h1 := f0; have h2 := f1; omega) (by have h1 := f2; have h2 := f3; omega) (by have h1 := f4; have h2 := f5; omega) (by have h1 := f6; have h2 := f7; omega) (by have h1 := f8; have h2 := f9; omega) (by have h1 := f10; have h2 := f11; omega) (by have h1 := f12; omega) (by have h1 := f13; omega) (by have h1 := f14; omega) (by have h1 := f15; omega)
    rcases List.mem_cons.mp hp with rfl | hp
    · obtain ⟨x, rfl, hr, hz1, hu1⟩ := mz_re_0 mz_GG hre rfl
      obtain ⟨M', z', u'⟩ := S
      cases hz1
      cases hu1
      obtain ⟨f0, hf⟩ := hb_unc hf
      have f0 : 0 ≤ -1 + (1 * res + 0) := f0
      rw [← hr] at f0
      obtain ⟨f1, hf⟩ := hb_unc hf
      have f1 : 0 ≤ 1 + ((-1) * res + 0) := f1
      rw [← hr] at f1
      obtain ⟨f2, hf⟩ := hb_unc hf
      have f2 : 0 ≤ -2 + (1 * x1.toInt + 0) := f2
      obtain ⟨f3, hf⟩ := hb_unc hf
      have f3 : 0 ≤ 2 + ((-1) * x1.toInt + 0) := f3
      obtain ⟨f4, hf⟩ := hb_unc hf
      have f4 : 0 ≤ -3 + (1 * hv M 234 30 + 0) := f4
      obtain ⟨f5, hf⟩ := hb_unc hf
      have f5 : 0 ≤ 0 + (1 * x2.toInt + 0) := f5
      obtain ⟨f6, hf⟩ := hb_unc hf
      have f6 : 0 ≤ 3 + ((-1) * x2.toInt + 0) := f6
      obtain ⟨f7, hf⟩ := hb_unc hf
      have f7 : 0 ≤ 0 + (1 * hv M 260 2 + 0) := f7
      obtain ⟨f8, hf⟩ := hb_unc hf
      have f8 : 0 ≤ 0 + ((-1) * hv M 260 2 + 0) := f8
      obtain ⟨f9, hf⟩ := hb_unc hf
      have f9 : 0 ≤ 3 + ((-1) * hv M 258 2 + 0) := f9
      obtain ⟨f10, hf⟩ := hb_unc hf
      have f10 : 0 ≤ -1 + ((-1) * hv M 258 2 + (1 * hv M' 258 2 + 0)) := f10
      obtain ⟨f11, hf⟩ := hb_unc hf
      have f11 : 0 ≤ 1 + (1 * hv M 258 2 + ((-1) * hv M' 258 2 + 0)) := f11
      obtain ⟨f12, hf⟩ := hb_unc hf
      have f12 : 0 ≤ 0 + ((-1) * hv M 258 0 + (1 * hv M' 258 0 + 0)) := f12
      obtain ⟨f13, hf⟩ := hb_unc hf
      have f13 : 0 ≤ 0 + (1 * hv M 258 0 + ((-1) * hv M' 258 0 + 0)) := f13
      obtain ⟨f14, hf⟩ := hb_unc hf
      have f14 : 0 ≤ 0 + ((-1) * hv M 258 1 + (1 * hv M' 258 1 + 0)) := f14
      obtain ⟨f15, hf⟩ := hb_unc hf
      have f15 : 0 ≤ 0 + (1 * hv M 258 1 + ((-1) * hv M' 258 1 + 0)) := f15
      obtain ⟨f16, hf⟩ := hb_unc hf
      have f16 : 0 ≤ 0 + ((-1) * hv M 258 3 + (1 * hv M' 258 3 + 0)) := f16
      obtain ⟨f17, hf⟩ := hb_unc hf
      have f17 : 0 ≤ 0 + (1 * hv M 258 3 + ((-1) * hv M' 258 3 + 0)) := f17
      exact w10 M' x b1 b2 b3 b4 b5 (by have h1 := f0; have h2 := f1; omega) (by have h1 := f2; have h2 := f3; omega) (by have h1 := f4; omega) (by have h1 := f5; omega) (by have h1 := f6; omega) (by have h1 := f7; have h2 := f8; omega) (by have h1 := f9; omega) (by have h1 := f10; have h2 := f11; omega) (by have h1 := f12; have h2 := f13; omega) (by have h1 := f14; have h2 := f15; omega) (by have h1 := f16; have h2 := f17; omega)
    rcases List.mem_cons.mp hp with rfl | hp
    · obtain ⟨x, rfl, hr, hz1, hu1⟩ := mz_re_0 mz_GG hre rfl
      obtain ⟨M', z', u'⟩ := S
      cases hz1
      cases hu1
      obtain ⟨f0, hf⟩ := hb_unc hf
      have f0 : 0 ≤ 0 + (1 * res + 0) := f0
      rw [← hr] at f0
      obtain ⟨f1, hf⟩ := hb_unc hf
      have f1 : 0 ≤ 0 + ((-1) * res + 0) := f1
      rw [← hr] at f1
      obtain ⟨f2, hf⟩ := hb_unc hf
      have f2 : 0 ≤ 0 + ((-1) * hv M 258 0 + (1 * hv M' 258 0 + 0)) := f2
      obtain ⟨f3, hf⟩ := hb_unc hf
      have f3 : 0 ≤ 0 + (1 * hv M 258 0 + ((-1) * hv M' 258 0 + 0)) := f3
      obtain ⟨f4, hf⟩ := hb_unc hf
      have f4 : 0 ≤ 0 + ((-1) * hv M 258 1 + (1 * hv M' 258 1 + 0)) := f4
      obtain ⟨f5, hf⟩ := hb_unc hf
      have f5 : 0 ≤ 0 + (1 * hv M 258 1 + ((-1) * hv M' 258 1 + 0)) := f5
      obtain ⟨f6, hf⟩ := hb_unc hf
      have f6 : 0 ≤ 0 + ((-1) * hv M 258 2 + (1 * hv M' 258 2 + 0)) := f6
      obtain ⟨f7, hf⟩ := hb_unc hf
      have f7 : 0 ≤ 0 + (1 * hv M 258 2 + ((-1) * hv M' 258 2 + 0)) := f7
      obtain ⟨f8, hf⟩ := hb_unc hf
      have f8 : 0 ≤ 0 + ((-1) * hv M 258 3 + (1 * hv M' 258 3 + 0)) := f8
      obtain ⟨f9, hf⟩ := hb_unc hf
      have f9 : 0 ≤ 0 + (1 * hv M 258 3 + ((-1) * hv M' 258 3 + 0)) := f9
      obtain ⟨f10, hf⟩ := hb_unc hf
      have f10 : 0 ≤ -2 + (1 * x1.toInt + 0) := f10
      obtain ⟨f11, hf⟩ := hb_unc hf
      have f11 : 0 ≤ 2 + ((-1) * x1.toInt + 0) := f11
      obtain ⟨f12, hf⟩ := hb_unc hf
      have f12 : 0 ≤ -3 + (1 * hv M 234 30 + 0) := f12
      obtain ⟨f13, hf⟩ := hb_unc hf
      have f13 : 0 ≤ 0 + (1 * x2.toInt + 0) := f13
      obtain ⟨f14, hf⟩ := hb_unc hf
      have f14 : 0 ≤ 3 + ((-1) * x2.toInt + 0) := f14
      obtain ⟨f15, hf⟩ := hb_unc hf
      have f15 : 0 ≤ -1 + (1 * hv M 260 2 + 0) := f15
      exact w11 M' x b1 b2 b3 b4 b5 (by have h1 := f0; have h2 := f1; omega) (by have h1 := f2; have h2 := f3; omega) (by have h1 := f4; have h2 := f5; omega) (by have h1 := f6; have h2 := f7; omega) (by have h1 := f8; have h2 := f9; omega) (by have h1 := f10; have h2 := f11; omega) (by have h1 := f12; omega) (by have h1 := f13; omega) (by have h1 := f14; omega) (by have h1 := f15; omega)
    rcases List.mem_cons.mp hp with rfl | hp
    · obtain ⟨x, rfl, hr, hz1, hu1⟩ := mz_re_0 mz_GG hre rfl
      obtain ⟨M', z', u'⟩ := S
      cases hz1
      cases hu1
      obtain ⟨f0, hf⟩ := hb_unc hf
      have f0 : 0 ≤ 0 + (1 * res + 0) := f0
      rw [← hr] at f0
      obtain ⟨f1, hf⟩ := hb_unc hf
      have f1 : 0 ≤ 0 + ((-1) * res + 0) := f1
      rw [← hr] at f1
      obtain ⟨f2, hf⟩ := hb_unc hf
      have f2 : 0 ≤ 0 + ((-1) * hv M 258 0 + (1 * hv M' 258 0 + 0)) := f2
      obtain ⟨f3, hf⟩ := hb_unc hf
      have f3 : 0 ≤ 0 + (1 * hv M 258 0 + ((-1) * hv M' 258 0 + 0)) := f3
      obtain ⟨f4, hf⟩ := hb_unc hf
      have f4 : 0 ≤ 0 + ((-1) * hv M 258 1 + (1 * hv M' 258 1 + 0)) := f4
      obtain ⟨f5, hf⟩ := hb_unc hf
      have f5 : 0 ≤ 0 + (1 * hv M 258 1 + ((-1) * hv M' 258 1 + 0)) := f5
      obtain ⟨f6, hf⟩ := hb_unc hf
      have f6 : 0 ≤ 0 + ((-1) * hv M 258 2 + (1 * hv M' 258 2 + 0)) := f6
      obtain ⟨f7, hf⟩ := hb_unc hf
      have f7 : 0 ≤ 0 + (1 * hv M 258 2 + ((-1) * hv M' 258 2 + 0)) := f7
      obtain ⟨f8, hf⟩ := hb_unc hf
      have f8 : 0 ≤ 0 + ((-1) * hv M 258 3 + (1 * hv M' 258 3 + 0)) := f8
      obtain ⟨f9, hf⟩ := hb_unc hf
      have f9 : 0 ≤ 0 + (1 * hv M 258 3 + ((-1) * hv M' 258 3 + 0)) := f9
      obtain ⟨f10, hf⟩ := hb_unc hf
      have f10 : 0 ≤ -2 + (1 * x1.toInt + 0) := f10
      obtain ⟨f11, hf⟩ := hb_unc hf
      have f11 : 0 ≤ 2 + ((-1) * x1.toInt + 0) := f11
      obtain ⟨f12, hf⟩ := hb_unc hf
      have f12 : 0 ≤ -3 + (1 * hv M 234 30 + 0) := f12
      obtain ⟨f13, hf⟩ := hb_unc hf
      have f13 : 0 ≤ 0 + (1 * x2.toInt + 0) := f13
      obtain ⟨f14, hf⟩ := hb_unc hf
      have f14 : 0 ≤ 3 + ((-1) * x2.toInt + 0) := f14
      obtain ⟨f15, hf⟩ := hb_unc hf
      have f15 : 0 ≤ -4 + (1 * hv M 258 2 + 0) := f15
      exact w12 M' x b1 b2 b3 b4 b5 (by have h1 := f0; have h2 := f1; omega) (by have h1 := f2; have h2 := f3; omega) (by have h1 := f4; have h2 := f5; omega) (by have h1 := f6; have h2 := f7; omega) (by have h1 := f8; have h2 := f9; omega) (by have h1 := f10; have h2 := f11; omega) (by have h1 := f12; omega) (by have h1 := f13; omega) (by have h1 := f14; omega) (by have h1 := f15; omega)
    rcases List.mem_cons.mp hp with rfl | hp
    · obtain ⟨x, rfl, hr, hz1, hu1⟩ := mz_re_0 mz_GG hre rfl
      obtain ⟨M', z', u'⟩ := S
      cases hz1
      cases hu1
      obtain ⟨f0, hf⟩ := hb_unc hf
      have f0 : 0 ≤ -1 + (1 * res + 0) := f0
      rw [← hr] at f0
      obtain ⟨f1, hf⟩ := hb_unc hf
      have f1 : 0 ≤ 1 + ((-1) * res + 0) := f1
      rw [← hr] at f1
      obtain ⟨f2, hf⟩ := hb_unc hf
      have f2 : 0 ≤ -3 + (1 * x1.toInt + 0) := f2
      obtain ⟨f3, hf⟩ := hb_unc hf
      have f3 : 0 ≤ 3 + ((-1) * x1.toInt + 0) := f3
      obtain ⟨f4, hf⟩ := hb_unc hf
      have f4 : 0 ≤ -4 + (1 * hv M 234 30 + 0) := f4
      obtain ⟨f5, hf⟩ := hb_unc hf
      have f5 : 0 ≤ 0 + (1 * x2.toInt + 0) := f5
      obtain ⟨f6, hf⟩ := hb_unc hf
      have f6 : 0 ≤ 3 + ((-1) * x2.toInt + 0) := f6
      obtain ⟨f7, hf⟩ := hb_unc hf
      have f7 : 0 ≤ 0 + (1 * hv M 260 3 + 0) := f7
      obtain ⟨f8, hf⟩ := hb_unc hf
      have f8 : 0 ≤ 0 + ((-1) * hv M 260 3 + 0) := f8
      obtain ⟨f9, hf⟩ := hb_unc hf
      have f9 : 0 ≤ 3 + ((-1) * hv M 258 3 + 0) := f9
      obtain ⟨f10, hf⟩ := hb_unc hf
      have f10 : 0 ≤ -1 + ((-1) * hv M 258 3 + (1 * hv M' 258 3 + 0)) := f10
      obtain ⟨f11, hf⟩ := hb_unc hf
      have f11 : 0 ≤ 1 + (1 * hv M 258 3 + ((-1) * hv M' 258 3 + 0)) := f11
      obtain ⟨f12, hf⟩ := hb_unc hf
      have f12 : 0 ≤ 0 + ((-1) * hv M 258 0 + (1 * hv M' 258 0 + 0)) := f12
      obtain ⟨f13, hf⟩ := hb_unc hf
      have f13 : 0 ≤ 0 + (1 * hv M 258 0 + ((-1) * hv M' 258 0 + 0)) := f13
      obtain ⟨f14, hf⟩ := hb_unc hf
      have f14 : 0 ≤ 0 + ((-1) * hv M 258 1 + (1 * hv M' 258 1 + 0)) := f14
      obtain ⟨f15, hf⟩ := hb_unc hf
      have f15 : 0 ≤ 0 + (1 * hv M 258 1 + ((-1) * hv M' 258 1 + 0)) := f15
      obtain ⟨f16, hf⟩ := hb_unc hf
      have f16 : 0 ≤ 0 + ((-1) * hv M 258 2 + (1 * hv M' 258 2 + 0)) := f16
      obtain ⟨f17, hf⟩ := hb_unc hf
      have f17 : 0 ≤ 0 + (1 * hv M 258 2 + ((-1) * hv M' 258 2 + 0)) := f17
      exact w13 M' x b1 b2 b3 b4 b5 (by have h1 := f0; have h2 := f1; omega) (by have h1 := f2; have h2 := f3; omega) (by have h1 := f4; omega) (by have h1 := f5; omega) (by have h1 := f6; omega) (by have h1 := f7; have h2 := f8; omega) (by have h1 := f9; omega) (by have h1 := f10; have h2 := f11; omega) (by have h1 := f12; have h2 := f13; omega) (by have h1 := f14; have h2 := f15; omega) (by have h1 := f16; have h2 := f17; omega)
    rcases List.mem_cons.mp hp with rfl | hp
    · obtain ⟨x, rfl, hr, hz1, hu1⟩ := mz_re_0 mz_GG hre rfl
      obtain ⟨M', z', u'⟩ := S
      cases hz1
      cases hu1
      obtain ⟨f0, hf⟩ := hb_unc hf
      have f0 : 0 ≤ 0 + (1 * res + 0) := f0
      rw [← hr] at f0
      obtain ⟨f1, hf⟩ := hb_unc hf
      have f1 : 0 ≤ 0 + ((-1) * res + 0) := f1
      rw [← hr] at f1
      obtain ⟨f2, hf⟩ := hb_unc hf
      have f2 : 0 ≤ 0 + ((-1) * hv M 258 0 + (1 * hv M' 258 0 + 0)) := f2
      obtain ⟨f3, hf⟩ := hb_unc hf
      have f3 : 0 ≤ 0 + (1 * hv M 258 0 + ((-1) * hv M' 258 0 + 0)) := f3
      obtain ⟨f4, hf⟩ := hb_unc hf
      have f4 : 0 ≤ 0 + ((-1) * hv M 258 1 + (1 * hv M' 258 1 + 0)) := f4
      obtain ⟨f5, hf⟩ := hb_unc hf
      have f5 : 0 ≤ 0 + (1 * hv M 258 1 + ((-1) * hv M' 258 1 + 0)) := f5
      obtain ⟨f6, hf⟩ := hb_unc hf
      have f6 : 0 ≤ 0 + ((-1) * hv M 258 2 + (1 * hv M' 258 2 + 0)) := f6
      obtain ⟨f7, hf⟩ := hb_unc hf
      have f7 : 0 ≤ 0 + (1 * hv M 258 2 + ((-1) * hv M' 258 2 + 0)) := f7
      obtain ⟨f8, hf⟩ := hb_unc hf
      have f8 : 0 ≤ 0 + ((-1) * hv M 258 3 + (1 * hv M' 258 3 + 0)) := f8
      obtain ⟨f9, hf⟩ := hb_unc hf
      have f9 : 0 ≤ 0 + (1 * hv M 258 3 + ((-1) * hv M' 258 3 + 0)) := f9
      obtain ⟨f10, hf⟩ := hb_unc hf
      have f10 : 0 ≤ -3 + (1 * x1.toInt + 0) := f10
      obtain ⟨f11, hf⟩ := hb_unc hf
      have f11 : 0 ≤ 3 + ((-1) * x1.toInt + 0) := f11
      obtain ⟨f12, hf⟩ := hb_unc hf
      have f12 : 0 ≤ -4 + (1 * hv M 234 30 + 0) := f12
      obtain ⟨f13, hf⟩ := hb_unc hf
      have f13 : 0 ≤ 0 + (1 * x2.toInt + 0) := f13
      obtain ⟨f14, hf⟩ := hb_unc hf
      have f14 : 0 ≤ 3 + ((-1) * x2.toInt + 0) := f14
      obtain ⟨f15, hf⟩ := hb_unc hf
      have f15 : 0 ≤ -1 + (1 * hv M 260 3 + 0) := f15
      exact w14 M' x b1 b2 b3 b4 b5 (by have h1 := f0; have h2 := f1; omega) (by have h1 := f2; have h2 := f3; omega) (by have h1 := f4; have h2 := f5; omega) (by have h1 := f6; have h2 := f7; omega) (by have h1 := f8; have h2 := f9; omega) (by have h1 := f10; have h2 := f11; omega) (by have h1 := f12; omega) (by have h1 := f13; omega) (by have h1 := f14; omega) (by have h1 := f15; omega)
    rcases List.mem_cons.mp hp with rfl | hp
    · obtain ⟨x, rfl, hr, hz1, hu1⟩ := mz_re_0 mz_GG hre rfl
      obtain ⟨M', z', u'⟩ := S
      cases hz1
      cases hu1
      obtain ⟨f0, hf⟩ := hb_unc hf
      have f0 : 0 ≤ 0 + (1 * res + 0) := f0
      rw [← hr] at f0
      obtain ⟨f1, hf⟩ := hb_unc hf
      have f1 : 0 ≤ 0 + ((-1) * res + 0) := f1
      rw [← hr] at f1
      obtain ⟨f2, hf⟩ := hb_unc hf
      have f2 : 0 ≤ 0 + ((-1) * hv M 258 0 + (1 * hv M' 258 0 + 0)) := f2
      obtain ⟨f3, hf⟩ := hb_unc hf
      have f3 : 0 ≤ 0 + (1 * hv M 258 0 + ((-1) * hv M' 258 0 + 0)) := f3
      obtain ⟨f4, hf⟩ := hb_unc hf
      have f4 : 0 ≤ 0 + ((-1) * hv M 258 1 + (1 * hv M' 258 1 + 0)) := f4
      obtain ⟨f5, hf⟩ := hb_unc hf
      have f5 : 0 ≤ 0 + (1 * hv M 258 1 + ((-1) * hv M' 258 1 + 0)) := f5
      obtain ⟨f6, hf⟩ := hb_unc hf
      have f6 : 0 ≤ 0 + ((-1) * hv M 258 2 + (1 * hv M' 258 2 + 0)) := f6
      obtain ⟨f7, hf⟩ := hb_unc hf
      have f7 : 0 ≤ 0 + (1 * hv M 258 2 + ((-1) * hv M' 258 2 + 0)) := f7
      obtain ⟨f8, hf⟩ := hb_unc hf
      have f8 : 0 ≤ 0 + ((-1) * hv M 258 3 + (1 * hv M' 258 3 + 0)) := f8
      obtain ⟨f9, hf⟩ := hb_unc hf
      have f9 : 0 ≤ 0 + (1 * hv M 258 3 + ((-1) * hv M' 258 3 + 0)) := f9
      obtain ⟨f10, hf⟩ := hb_unc hf
      have f10 : 0 ≤ -3 + (1 * x1.toInt + 0) := f10
      obtain ⟨f11, hf⟩ := hb_unc hf
      have f11 : 0 ≤ 3 + ((-1) * x1.toInt + 0) := f11
      obtain ⟨f12, hf⟩ := hb_unc hf
      have f12 : 0 ≤ -4 + (1 * hv M 234 30 + 0) := f12
      obtain ⟨f13, hf⟩ := hb_unc hf
      have f13 : 0 ≤ 0 + (1 * x2.toInt + 0) := f13
      obtain ⟨f14, hf⟩ := hb_unc hf
      have f14 : 0 ≤ 3 + ((-1) * x2.toInt + 0) := f14
      obtain ⟨f15, hf⟩ := hb_unc hf
      have f15 : 0 ≤ -4 + (1 * hv M 258 3 + 0) := f15
      exact w15 M' x b1 b2 b3 b4 b5 (by have h1 := f0; have h2 := f1; omega) (by have h1 := f2; have h2 := f3; omega) (by have h1 := f4; have h2 := f5; omega) (by have h1 := f6; have h2 := f7; omega) (by have h1 := f8; have h2 := f9; omega) (by have h1 := f10; have h2 := f11; omega) (by have h1 := f12; omega) (by have h1 := f13; omega) (by have h1 := f14; omega) (by have h1 := f15; omega)
    cases hp
theorem lu_mappend {d z u : Nat} {M : Nat → mq_C} {Q : (Option Value ⊕ Nat) → mq_S → Prop} {x1 : Int32} {x2 : Int32} (hd : 9 ≤ d) (hz : 272 ≤ z) (hm : mz_sh mz_GG M) (hx : HX M) (hl : lw M)
    (k : ∀ (M' : Nat → mq_C) (r : Int32), mz_sh mz_GG M' → HX M' → lw M' → (∀ a, a < 8 → M' a = M a) → M' 271 = M 271 → (∀ a, a < 234 → M' a = M a) → lms M M' → (M' 249 = M 249 ∧ M' 250 = M 250 ∧ M' 235 = M 235) → Q (.inl (some (.int r))) (M', z, u)) : mq_R mq_PP d 141 0 [some (.ref 234), some (.int x1), some (.int x2)] [] (M, z, u) Q := by
  obtain ⟨l0, l1, l2, l3, l4, l5⟩ := hl
  have hW : ∀ b ∈ mz_q172.2.2.2.2.2, 234 ≤ b ∧ b < 271 := by decide +kernel
  refine ly_mappend (ha_all (mz_q172, 2) (List.mem_of_getElem? (show mz_Cs[172]? = _ from rfl))) (by omega) hz hm hx ?_ ?_ ?_ ?_ ?_ ?_ ?_ ?_ ?_ ?_ ?_ ?_ ?_ ?_ ?_ ?_
  · intro M' r b1 b2 b3 b4 b5 f0 f1 f2 f3 f4 f5
    have e9 : hv M' 33 3 = hv M 33 3 := b5 9 (33, 3) rfl rfl
    have e10 : hv M' 33 5 = hv M 33 5 := b5 10 (33, 5) rfl rfl
    have e24 : hv M' 234 30 = hv M 234 30 := b5 24 (234, 30) rfl rfl
    have e33 : hv M' 257 0 = hv M 257 0 := b5 33 (257, 0) rfl rfl
    have e0 : hv M' 8 4 = hv M 8 4 := b5 0 (8, 4) rfl rfl
    have e12 : hv M' 44 0 = hv M 44 0 := b5 12 (44, 0) rfl rfl
    have e13 : hv M' 44 1 = hv M 44 1 := b5 13 (44, 1) rfl rfl
    have e14 : hv M' 44 3 = hv M 44 3 := b5 14 (44, 3) rfl rfl
    have e28 : hv M' 234 57 = hv M 234 57 := b5 28 (234, 57) rfl rfl
    have e17 : hv M' 234 15 = hv M 234 15 := b5 17 (234, 15) rfl rfl
    have e18 : hv M' 234 17 = hv M 234 17 := b5 18 (234, 17) rfl rfl
    have e19 : hv M' 234 19 = hv M 234 19 := b5 19 (234, 19) rfl rfl
    exact k M' r b1 b2 ⟨by omega, by omega, by omega, by omega, by omega, by omega⟩ b4 (b3 271 (by decide) (by decide +kernel)) (fun a ha => b3 a (by omega) (lx_el (fun h => by have := hW a h; omega))) ⟨⟨e17, e18, e19⟩, b3 251 (by decide) (by decide +kernel), b3 236 (by decide) (by decide +kernel), b3 237 (by decide) (by decide +kernel)⟩ ⟨b3 249 (by decide) (by decide +kernel), b3 250 (by decide) (by decide +kernel), b3 235 (by decide) (by decide +kernel)⟩
  · intro M' r b1 b2 b3 b4 b5 f0 f1 f2 f3 f4 f5
    have e9 : hv M' 33 3 = hv M 33 3 := b5 9 (33, 3) rfl rfl
    have e10 : hv M' 33 5 = hv M 33 5 := b5 10 (33, 5) rfl rfl
    have e24 : hv M' 234 30 = hv M 234 30 := b5 24 (234, 30) rfl rfl
    have e33 : hv M' 257 0 = hv M 257 0 := b5 33 (257, 0) rfl rfl
    have e0 : hv M' 8 4 = hv M 8 4 := b5 0 (8, 4) rfl rfl
    have e12 : hv M' 44 0 = hv M 44 0 := b5 12 (44, 0) rfl rfl
    have e13 : hv M' 44 1 = hv M 44 1 := b5 13 (44, 1) rfl rfl
    have e14 : hv M' 44 3 = hv M 44 3 := b5 14 (44, 3) rfl rfl
    have e28 : hv M' 234 57 = hv M 234 57 := b5 28 (234, 57) rfl rfl
    have e17 : hv M' 234 15 = hv M 234 15 := b5 17 (234, 15) rfl rfl
    have e18 : hv M' 234 17 = hv M 234 17 := b5 18 (234, 17) rfl rfl
    have e19 : hv M' 234 19 = hv M 234 19 := b5 19 (234, 19) rfl rfl
    exact k M' r b1 b2 ⟨by omega, by omega, by omega, by omega, by omega, by omega⟩ b4 (b3 271 (by decide) (by decide +kernel)) (fun a ha => b3 a (by omega) (lx_el (fun h => by have := hW a h; omega))) ⟨⟨e17, e18, e19⟩, b3 251 (by decide) (by decide +kernel), b3 236 (by decide) (by decide +kernel), b3 237 (by decide) (by decide +kernel)⟩ ⟨b3 249 (by decide) (by decide +kernel), b3 250 (by decide) (by decide +kernel), b3 235 (by decide) (by decide +kernel)⟩
  · intro M' r b1 b2 b3 b4 b5 f0 f1 f2 f3 f4 f5
    have e9 : hv M' 33 3 = hv M 33 3 := b5 9 (33, 3) rfl rfl
    have e10 : hv M' 33 5 = hv M 33 5 := b5 10 (33, 5) rfl rfl
    have e24 : hv M' 234 30 = hv M 234 30 := b5 24 (234, 30) rfl rfl
    have e33 : hv M' 257 0 = hv M 257 0 := b5 33 (257, 0) rfl rfl
    have e0 : hv M' 8 4 = hv M 8 4 := b5 0 (8, 4) rfl rfl
    have e12 : hv M' 44 0 = hv M 44 0 := b5 12 (44, 0) rfl rfl
    have e13 : hv M' 44 1 = hv M 44 1 := b5 13 (44, 1) rfl rfl
    have e14 : hv M' 44 3 = hv M 44 3 := b5 14 (44, 3) rfl rfl
    have e28 : hv M' 234 57 = hv M 234 57 := b5 28 (234, 57) rfl rfl
    have e17 : hv M' 234 15 = hv M 234 15 := b5 17 (234, 15) rfl rfl
    have e18 : hv M' 234 17 = hv M 234 17 := b5 18 (234, 17) rfl rfl
    have e19 : hv M' 234 19 = hv M 234 19 := b5 19 (234, 19) rfl rfl
    exact k M' r b1 b2 ⟨by omega, by omega, by omega, by omega, by omega, by omega⟩ b4 (b3 271 (by decide) (by decide +kernel)) (fun a ha => b3 a (by omega) (lx_el (fun h => by have := hW a h; omega))) ⟨⟨e17, e18, e19⟩, b3 251 (by decide) (by decide +kernel), b3 236 (by decide) (by decide +kernel), b3 237 (by decide) (by decide +kernel)⟩ ⟨b3 249 (by decide) (by decide +kernel), b3 250 (by decide) (by decide +kernel), b3 235 (by decide) (by decide +kernel)⟩
  · intro M' r b1 b2 b3 b4 b5 f0 f1 f2 f3 f4 f5
    have e9 : hv M' 33 3 = hv M 33 3 := b5 9 (33, 3) rfl rfl
    have e10 : hv M' 33 5 = hv M 33 5 := b5 10 (33, 5) rfl rfl
    have e24 : hv M' 234 30 = hv M 234 30 := b5 24 (234, 30) rfl rfl
    have e33 : hv M' 257 0 = hv M 257 0 := b5 33 (257, 0) rfl rfl
    have e0 : hv M' 8 4 = hv M 8 4 := b5 0 (8, 4) rfl rfl
    have e12 : hv M' 44 0 = hv M 44 0 := b5 12 (44, 0) rfl rfl
    have e13 : hv M' 44 1 = hv M 44 1 := b5 13 (44, 1) rfl rfl
    have e14 : hv M' 44 3 = hv M 44 3 := b5 14 (44, 3) rfl rfl
    have e28 : hv M' 234 57 = hv M 234 57 := b5 28 (234, 57) rfl rfl
    have e17 : hv M' 234 15 = hv M 234 15 := b5 17 (234, 15) rfl rfl
    have e18 : hv M' 234 17 = hv M 234 17 := b5 18 (234, 17) rfl rfl
    have e19 : hv M' 234 19 = hv M 234 19 := b5 19 (234, 19) rfl rfl
    exact k M' r b1 b2 ⟨by omega, by omega, by omega, by omega, by omega, by omega⟩ b4 (b3 271 (by decide) (by decide +kernel)) (fun a ha => b3 a (by omega) (lx_el (fun h => by have := hW a h; omega))) ⟨⟨e17, e18, e19⟩, b3 251 (by decide) (by decide +kernel), b3 236 (by decide) (by decide +kernel), b3 237 (by decide) (by decide +kernel)⟩ ⟨b3 249 (by decide) (by decide +kernel), b3 250 (by decide) (by decide +kernel), b3 235 (by decide) (by decide +kernel)⟩
  · intro M' r b1 b2 b3 b4 b5 f0 f1 f2 f3 f4 f5 f6 f7 f8 f9 f10
    have e9 : hv M' 33 3 = hv M 33 3 := b5 9 (33, 3) rfl rfl
    have e10 : hv M' 33 5 = hv M 33 5 := b5 10 (33, 5) rfl rfl
    have e24 : hv M' 234 30 = hv M 234 30 := b5 24 (234, 30) rfl rfl
    have e33 : hv M' 257 0 = hv M 257 0 := b5 33 (257, 0) rfl rfl
    have e0 : hv M' 8 4 = hv M 8 4 := b5 0 (8, 4) rfl rfl
    have e12 : hv M' 44 0 = hv M 44 0 := b5 12 (44, 0) rfl rfl
    have e13 : hv M' 44 1 = hv M 44 1 := b5 13 (44, 1) rfl rfl
    have e14 : hv M' 44 3 = hv M 44 3 := b5 14 (44, 3) rfl rfl
    have e28 : hv M' 234 57 = hv M 234 57 := b5 28 (234, 57) rfl rfl
    have e17 : hv M' 234 15 = hv M 234 15 := b5 17 (234, 15) rfl rfl
    have e18 : hv M' 234 17 = hv M 234 17 := b5 18 (234, 17) rfl rfl
    have e19 : hv M' 234 19 = hv M 234 19 := b5 19 (234, 19) rfl rfl
    exact k M' r b1 b2 ⟨by omega, by omega, by omega, by omega, by omega, by omega⟩ b4 (b3 271 (by decide) (by decide +kernel)) (fun a ha => b3 a (by omega) (lx_el (fun h => by have := hW a h; omega))) ⟨⟨e17, e18, e19⟩, b3 251 (by decide) (by decide +kernel), b3 236 (by decide) (by decide +kernel), b3 237 (by decide) (by decide +kernel)⟩ ⟨b3 249 (by decide) (by decide +kernel), b3 250 (by decide) (by decide +kernel), b3 235 (by decide) (by decide +kernel)⟩
  · intro M' r b1 b2 b3 b4 b5 f0 f1 f2 f3 f4 f5 f6 f7 f8 f9
    have e9 : hv M' 33 3 = hv M 33 3 := b5 9 (33, 3) rfl rfl
    have e10 : hv M' 33 5 = hv M 33 5 := b5 10 (33, 5) rfl rfl
    have e24 : hv M' 234 30 = hv M 234 30 := b5 24 (234, 30) rfl rfl
    have e33 : hv M' 257 0 = hv M 257 0 := b5 33 (257, 0) rfl rfl
    have e0 : hv M' 8 4 = hv M 8 4 := b5 0 (8, 4) rfl rfl
    have e12 : hv M' 44 0 = hv M 44 0 := b5 12 (44, 0) rfl rfl
    have e13 : hv M' 44 1 = hv M 44 1 := b5 13 (44, 1) rfl rfl
    have e14 : hv M' 44 3 = hv M 44 3 := b5 14 (44, 3) rfl rfl
    have e28 : hv M' 234 57 = hv M 234 57 := b5 28 (234, 57) rfl rfl
    have e17 : hv M' 234 15 = hv M 234 15 := b5 17 (234, 15) rfl rfl
    have e18 : hv M' 234 17 = hv M 234 17 := b5 18 (234, 17) rfl rfl
    have e19 : hv M' 234 19 = hv M 234 19 := b5 19 (234, 19) rfl rfl
    exact k M' r b1 b2 ⟨by omega, by omega, by omega, by omega, by omega, by omega⟩ b4 (b3 271 (by decide) (by decide +kernel)) (fun a ha => b3 a (by omega) (lx_el (fun h => by have := hW a h; omega))) ⟨⟨e17, e18, e19⟩, b3 251 (by decide) (by decide +kernel), b3 236 (by decide) (by decide +kernel), b3 237 (by decide) (by decide +kernel)⟩ ⟨b3 249 (by decide) (by decide +kernel), b3 250 (by decide) (by decide +kernel), b3 235 (by decide) (by decide +kernel)⟩
  · intro M' r b1 b2 b3 b4 b5 f0 f1 f2 f3 f4 f5 f6 f7 f8 f9
    have e9 : hv M' 33 3 = hv M 33 3 := b5 9 (33, 3) rfl rfl
    have e10 : hv M' 33 5 = hv M 33 5 := b5 10 (33, 5) rfl rfl
    have e24 : hv M' 234 30 = hv M 234 30 := b5 24 (234, 30) rfl rfl
    have e33 : hv M' 257 0 = hv M 257 0 := b5 33 (257, 0) rfl rfl
    have e0 : hv M' 8 4 = hv M 8 4 := b5 0 (8, 4) rfl rfl
    have e12 : hv M' 44 0 = hv M 44 0 := b5 12 (44, 0) rfl rfl
    have e13 : hv M' 44 1 = hv M 44 1 := b5 13 (44, 1) rfl rfl
    have e14 : hv M' 44 3 = hv M 44 3 := b5 14 (44, 3) rfl rfl
    have e28 : hv M' 234 57 = hv M 234 57 := b5 28 (234, 57) rfl rfl
    have e17 : hv M' 234 15 = hv M 234 15 := b5 17 (234, 15) rfl rfl
    have e18 : hv M' 234 17 = hv M 234 17 := b5 18 (234, 17) rfl rfl
    have e19 : hv M' 234 19 = hv M 234 19 := b5 19 (234, 19) rfl rfl
    exact k M' r b1 b2 ⟨by omega, by omega, by omega, by omega, by omega, by omega⟩ b4 (b3 271 (by decide) (by decide +kernel)) (fun a ha => b3 a (by omega) (lx_el (fun h => by have := hW a h; omega))) ⟨⟨e17, e18, e19⟩, b3 251 (by decide) (by decide +kernel), b3 236 (by decide) (by decide +kernel), b3 237 (by decide) (by decide +kernel)⟩ ⟨b3 249 (by decide) (by decide +kernel), b3 250 (by decide) (by decide +kernel), b3 235 (by decide) (by decide +kernel)⟩
  · intro M' r b1 b2 b3 b4 b5 f0 f1 f2 f3 f4 f5 f6 f7 f8 f9 f10
    have e9 : hv M' 33 3 = hv M 33 3 := b5 9 (33, 3) rfl rfl
    have e10 : hv M' 33 5 = hv M 33 5 := b5 10 (33, 5) rfl rfl
    have e24 : hv M' 234 30 = hv M 234 30 := b5 24 (234, 30) rfl rfl
    have e33 : hv M' 257 0 = hv M 257 0 := b5 33 (257, 0) rfl rfl
    have e0 : hv M' 8 4 = hv M 8 4 := b5 0 (8, 4) rfl rfl
    have e12 : hv M' 44 0 = hv M 44 0 := b5 12 (44, 0) rfl rfl
    have e13 : hv M' 44 1 = hv M 44 1 := b5 13 (44, 1) rfl rfl
    have e14 : hv M' 44 3 = hv M 44 3 := b5 14 (44, 3) rfl rfl
    have e28 : hv M' 234 57 = hv M 234 57 := b5 28 (234, 57) rfl rfl
    have e17 : hv M' 234 15 = hv M 234 15 := b5 17 (234, 15) rfl rfl
    have e18 : hv M' 234 17 = hv M 234 17 := b5 18 (234, 17) rfl rfl
    have e19 : hv M' 234 19 = hv M 234 19 := b5 19 (234, 19) rfl rfl
    exact k M' r b1 b2 ⟨by omega, by omega, by omega, by omega, by omega, by omega⟩ b4 (b3 271 (by decide) (by decide +kernel)) (fun a ha => b3 a (by omega) (lx_el (fun h => by have := hW a h; omega))) ⟨⟨e17, e18, e19⟩, b3 251 (by decide) (by decide +kernel), b3 236 (by decide) (by decide +kernel), b3 237 (by decide) (by decide +kernel)⟩ ⟨b3 249 (by decide) (by decide +kernel), b3 250 (by decide) (by decide +kernel), b3 235 (by decide) (by decide +kernel)⟩
  · intro M' r b1 b2 b3 b4 b5 f0 f1 f2 f3 f4 f5 f6 f7 f8 f9
    have e9 : hv M' 33 3 = hv M 33 3 := b5 9 (33, 3) rfl rfl
    have e10 : hv M' 33 5 = hv M 33 5 := b5 10 (33, 5) rfl rfl
    have e24 : hv M' 234 30 = hv M 234 30 := b5 24 (234, 30) rfl rfl
    have e33 : hv M' 257 0 = hv M 257 0 := b5 33 (257, 0) rfl rfl
    have e0 : hv M' 8 4 = hv M 8 4 := b5 0 (8, 4) rfl rfl
    have e12 : hv M' 44 0 = hv M 44 0 := b5 12 (44, 0) rfl rfl
    have e13 : hv M' 44 1 = hv M 44 1 := b5 13 (44, 1) rfl rfl
    have e14 : hv M' 44 3 = hv M 44 3 := b5 14 (44, 3) rfl rfl
    have e28 : hv M' 234 57 = hv M 234 57 := b5 28 (234, 57) rfl rfl
    have e17 : hv M' 234 15 = hv M 234 15 := b5 17 (234, 15) rfl rfl
    have e18 : hv M' 234 17 = hv M 234 17 := b5 18 (234, 17) rfl rfl
    have e19 : hv M' 234 19 = hv M 234 19 := b5 19 (234, 19) rfl rfl
    exact k M' r b1 b2 ⟨by omega, by omega, by omega, by omega, by omega, by omega⟩ b4 (b3 271 (by decide) (by decide +kernel)) (fun a ha => b3 a (by omega) (lx_el (fun h => by have := hW a h; omega))) ⟨⟨e17, e18, e19⟩, b3 251 (by decide) (by decide +kernel), b3 236 (by decide) (by decide +kernel), b3 237 (by decide) (by decide +kernel)⟩ ⟨b3 249 (by decide) (by decide +kernel), b3 250 (by decide) (by decide +kernel), b3 235 (by decide) (by decide +kernel)⟩
  · intro M' r b1 b2 b3 b4 b5 f0 f1 f2 f3 f4 f5 f6 f7 f8 f9
    have e9 : hv M' 33 3 = hv M 33 3 := b5 9 (33, 3) rfl rfl
    have e10 : hv M' 33 5 = hv M 33 5 := b5 10 (33, 5) rfl rfl
    have e24 : hv M' 234 30 = hv M 234 30 := b5 24 (234, 30) rfl rfl
    have e33 : hv M' 257 0 = hv M 257 0 := b5 33 (257, 0) rfl rfl
    have e0 : hv M' 8 4 = hv M 8 4 := b5 0 (8, 4) rfl rfl
    have e12 : hv M' 44 0 = hv M 44 0 := b5 12 (44, 0) rfl rfl
    have e13 : hv M' 44 1 = hv M 44 1 := b5 13 (44, 1) rfl rfl
    have e14 : hv M' 44 3 = hv M 44 3 := b5 14 (44, 3) rfl rfl
    have e28 : hv M' 234 57 = hv M 234 57 := b5 28 (234, 57) rfl rfl
    have e17 : hv M' 234 15 = hv M 234 15 := b5 17 (234, 15) rfl rfl
    have e18 : hv M' 234 17 = hv M 234 17 := b5 18 (234, 17) rfl rfl
    have e19 : hv M' 234 19 = hv M 234 19 := b5 19 (234, 19) rfl rfl
    exact k M' r b1 b2 ⟨by omega, by omega, by omega, by omega, by omega, by omega⟩ b4 (b3 271 (by decide) (by decide +kernel)) (fun a ha => b3 a (by omega) (lx_el (fun h => by have := hW a h; omega))) ⟨⟨e17, e18, e19⟩, b3 251 (by decide) (by decide +kernel), b3 236 (by decide) (by decide +kernel), b3 237 (by decide) (by decide +kernel)⟩ ⟨b3 249 (by decide) (by decide +kernel), b3 250 (by decide) (by decide +kernel), b3 235 (by decide) (by decide +kernel)⟩
  · intro M' r b1 b2 b3 b4 b5 f0 f1 f2 f3 f4 f5 f6 f7 f8 f9 f10
    have e9 : hv M' 33 3 = hv M 33 3 := b5 9 (33, 3) rfl rfl
    have e10 : hv M' 33 5 = hv M 33 5 := b5 10 (33, 5) rfl rfl
    have e24 : hv M' 234 30 = hv M 234 30 := b5 24 (234, 30) rfl rfl
    have e33 : hv M' 257 0 = hv M 257 0 := b5 33 (257, 0) rfl rfl
    have e0 : hv M' 8 4 = hv M 8 4 := b5 0 (8, 4) rfl rfl
    have e12 : hv M' 44 0 = hv M 44 0 := b5 12 (44, 0) rfl rfl
    have e13 : hv M' 44 1 = hv M 44 1 := b5 13 (44, 1) rfl rfl
    have e14 : hv M' 44 3 = hv M 44 3 := b5 14 (44, 3) rfl rfl
    have e28 : hv M' 234 57 = hv M 234 57 := b5 28 (234, 57) rfl rfl
    have e17 : hv M' 234 15 = hv M 234 15 := b5 17 (234, 15) rfl rfl
    have e18 : hv M' 234 17 = hv M 234 17 := b5 18 (234, 17) rfl rfl
    have e19 : hv M' 234 19 = hv M 234 19 := b5 19 (234, 19) rfl rfl
    exact k M' r b1 b2 ⟨by omega, by omega, by omega, by omega, by omega, by omega⟩ b4 (b3 271 (by decide) (by decide +kernel)) (fun a ha => b3 a (by omega) (lx_el (fun h => by have := hW a h; omega))) ⟨⟨e17, e18, e19⟩, b3 251 (by decide) (by decide +kernel), b3 236 (by decide) (by decide +kernel), b3 237 (by decide) (by decide +kernel)⟩ ⟨b3 249 (by decide) (by decide +kernel), b3 250 (by decide) (by decide +kernel), b3 235 (by decide) (by decide +kernel)⟩
  · intro M' r b1 b2 b3 b4 b5 f0 f1 f2 f3 f4 f5 f6 f7 f8 f9
    have e9 : hv M' 33 3 = hv M 33 3 := b5 9 (33, 3) rfl rfl
    have e10 : hv M' 33 5 = hv M 33 5 := b5 10 (33, 5) rfl rfl
    have e24 : hv M' 234 30 = hv M 234 30 := b5 24 (234, 30) rfl rfl
    have e33 : hv M' 257 0 = hv M 257 0 := b5 33 (257, 0) rfl rfl
    have e0 : hv M' 8 4 = hv M 8 4 := b5 0 (8, 4) rfl rfl
    have e12 : hv M' 44 0 = hv M 44 0 := b5 12 (44, 0) rfl rfl
    have e13 : hv M' 44 1 = hv M 44 1 := b5 13 (44, 1) rfl rfl
    have e14 : hv M' 44 3 = hv M 44 3 := b5 14 (44, 3) rfl rfl
    have e28 : hv M' 234 57 = hv M 234 57 := b5 28 (234, 57) rfl rfl
    have e17 : hv M' 234 15 = hv M 234 15 := b5 17 (234, 15) rfl rfl
    have e18 : hv M' 234 17 = hv M 234 17 := b5 18 (234, 17) rfl rfl
    have e19 : hv M' 234 19 = hv M 234 19 := b5 19 (234, 19) rfl rfl
    exact k M' r b1 b2 ⟨by omega, by omega, by omega, by omega, by omega, by omega⟩ b4 (b3 271 (by decide) (by decide +kernel)) (fun a ha => b3 a (by omega) (lx_el (fun h => by have := hW a h; omega))) ⟨⟨e17, e18, e19⟩, b3 251 (by decide) (by decide +kernel), b3 236 (by decide) (by decide +kernel), b3 237 (by decide) (by decide +kernel)⟩ ⟨b3 249 (by decide) (by decide +kernel), b3 250 (by decide) (by decide +kernel), b3 235 (by decide) (by decide +kernel)⟩
  · intro M' r b1 b2 b3 b4 b5 f0 f1 f2 f3 f4 f5 f6 f7 f8 f9
    have e9 : hv M' 33 3 = hv M 33 3 := b5 9 (33, 3) rfl rfl
    have e10 : hv M' 33 5 = hv M 33 5 := b5 10 (33, 5) rfl rfl
    have e24 : hv M' 234 30 = hv M 234 30 := b5 24 (234, 30) rfl rfl
    have e33 : hv M' 257 0 = hv M 257 0 := b5 33 (257, 0) rfl rfl
    have e0 : hv M' 8 4 = hv M 8 4 := b5 0 (8, 4) rfl rfl
    have e12 : hv M' 44 0 = hv M 44 0 := b5 12 (44, 0) rfl rfl
    have e13 : hv M' 44 1 = hv M 44 1 := b5 13 (44, 1) rfl rfl
    have e14 : hv M' 44 3 = hv M 44 3 := b5 14 (44, 3) rfl rfl
    have e28 : hv M' 234 57 = hv M 234 57 := b5 28 (234, 57) rfl rfl
    have e17 : hv M' 234 15 = hv M 234 15 := b5 17 (234, 15) rfl rfl
    have e18 : hv M' 234 17 = hv M 234 17 := b5 18 (234, 17) rfl rfl
    have e19 : hv M' 234 19 = hv M 234 19 := b5 19 (234, 19) rfl rfl
    exact k M' r b1 b2 ⟨by omega, by omega, by omega, by omega, by omega, by omega⟩ b4 (b3 271 (by decide) (by decide +kernel)) (fun a ha => b3 a (by omega) (lx_el (fun h => by have := hW a h; omega))) ⟨⟨e17, e18, e19⟩, b3 251 (by decide) (by decide +kernel), b3 236 (by decide) (by decide +kernel), b3 237 (by decide) (by decide +kernel)⟩ ⟨b3 249 (by decide) (by decide +kernel), b3 250 (by decide) (by decide +kernel), b3 235 (by decide) (by decide +kernel)⟩
  · intro M' r b1 b2 b3 b4 b5 f0 f1 f2 f3 f4 f5 f6 f7 f8 f9 f10
    have e9 : hv M' 33 3 = hv M 33 3 := b5 9 (33, 3) rfl rfl
    have e10 : hv M' 33 5 = hv M 33 5 := b5 10 (33, 5) rfl rfl
    have e24 : hv M' 234 30 = hv M 234 30 := b5 24 (234, 30) rfl rfl
    have e33 : hv M' 257 0 = hv M 257 0 := b5 33 (257, 0) rfl rfl
    have e0 : hv M' 8 4 = hv M 8 4 := b5 0 (8, 4) rfl rfl
    have e12 : hv M' 44 0 = hv M 44 0 := b5 12 (44, 0) rfl rfl
    have e13 : hv M' 44 1 = hv M 44 1 := b5 13 (44, 1) rfl rfl
    have e14 : hv M' 44 3 = hv M 44 3 := b5 14 (44, 3) rfl rfl
    have e28 : hv M' 234 57 = hv M 234 57 := b5 28 (234, 57) rfl rfl
    have e17 : hv M' 234 15 = hv M 234 15 := b5 17 (234, 15) rfl rfl
    have e18 : hv M' 234 17 = hv M 234 17 := b5 18 (234, 17) rfl rfl
    have e19 : hv M' 234 19 = hv M 234 19 := b5 19 (234, 19) rfl rfl
    exact k M' r b1 b2 ⟨by omega, by omega, by omega, by omega, by omega, by omega⟩ b4 (b3 271 (by decide) (by decide +kernel)) (fun a ha => b3 a (by omega) (lx_el (fun h => by have := hW a h; omega))) ⟨⟨e17, e18, e19⟩, b3 251 (by decide) (by decide +kernel), b3 236 (by decide) (by decide +kernel), b3 237 (by decide) (by decide +kernel)⟩ ⟨b3 249 (by decide) (by decide +kernel), b3 250 (by decide) (by decide +kernel), b3 235 (by decide) (by decide +kernel)⟩
  · intro M' r b1 b2 b3 b4 b5 f0 f1 f2 f3 f4 f5 f6 f7 f8 f9
    have e9 : hv M' 33 3 = hv M 33 3 := b5 9 (33, 3) rfl rfl
    have e10 : hv M' 33 5 = hv M 33 5 := b5 10 (33, 5) rfl rfl
    have e24 : hv M' 234 30 = hv M 234 30 := b5 24 (234, 30) rfl rfl
    have e33 : hv M' 257 0 = hv M 257 0 := b5 33 (257, 0) rfl rfl
    have e0 : hv M' 8 4 = hv M 8 4 := b5 0 (8, 4) rfl rfl
    have e12 : hv M' 44 0 = hv M 44 0 := b5 12 (44, 0) rfl rfl
    have e13 : hv M' 44 1 = hv M 44 1 := b5 13 (44, 1) rfl rfl
    have e14 : hv M' 44 3 = hv M 44 3 := b5 14 (44, 3) rfl rfl
    have e28 : hv M' 234 57 = hv M 234 57 := b5 28 (234, 57) rfl rfl
    have e17 : hv M' 234 15 = hv M 234 15 := b5 17 (234, 15) rfl rfl
    have e18 : hv M' 234 17 = hv M 234 17 := b5 18 (234, 17) rfl rfl
    have e19 : hv M' 234 19 = hv M 234 19 := b5 19 (234, 19) rfl rfl
    exact k M' r b1 b2 ⟨by omega, by omega, by omega, by omega, by omega, by omega⟩ b4 (b3 271 (by decide) (by decide +kernel)) (fun a ha => b3 a (by omega) (lx_el (fun h => by have := hW a h; omega))) ⟨⟨e17, e18, e19⟩, b3 251 (by decide) (by decide +kernel), b3 236 (by decide) (by decide +kernel), b3 237 (by decide) (by decide +kernel)⟩ ⟨b3 249 (by decide) (by decide +kernel), b3 250 (by decide) (by decide +kernel), b3 235 (by decide) (by decide +kernel)⟩
  · intro M' r b1 b2 b3 b4 b5 f0 f1 f2 f3 f4 f5 f6 f7 f8 f9
    have e9 : hv M' 33 3 = hv M 33 3 := b5 9 (33, 3) rfl rfl
    have e10 : hv M' 33 5 = hv M 33 5 := b5 10 (33, 5) rfl rfl
    have e24 : hv M' 234 30 = hv M 234 30 := b5 24 (234, 30) rfl rfl
    have e33 : hv M' 257 0 = hv M 257 0 := b5 33 (257, 0) rfl rfl
    have e0 : hv M' 8 4 = hv M 8 4 := b5 0 (8, 4) rfl rfl
    have e12 : hv M' 44 0 = hv M 44 0 := b5 12 (44, 0) rfl rfl
    have e13 : hv M' 44 1 = hv M 44 1 := b5 13 (44, 1) rfl rfl
    have e14 : hv M' 44 3 = hv M 44 3 := b5 14 (44, 3) rfl rfl
    have e28 : hv M' 234 57 = hv M 234 57 := b5 28 (234, 57) rfl rfl
    have e17 : hv M' 234 15 = hv M 234 15 := b5 17 (234, 15) rfl rfl
    have e18 : hv M' 234 17 = hv M 234 17 := b5 18 (234, 17) rfl rfl
    have e19 : hv M' 234 19 = hv M 234 19 := b5 19 (234, 19) rfl rfl
    exact k M' r b1 b2 ⟨by omega, by omega, by omega, by omega, by omega, by omega⟩ b4 (b3 271 (by decide) (by decide +kernel)) (fun a ha => b3 a (by omega) (lx_el (fun h => by have := hW a h; omega))) ⟨⟨e17, e18, e19⟩, b3 251 (by decide) (by decide +kernel), b3 236 (by decide) (by decide +kernel), b3 237 (by decide) (by decide +kernel)⟩ ⟨b3 249 (by decide) (by decide +kernel), b3 250 (by decide) (by decide +kernel), b3 235 (by decide) (by decide +kernel)⟩
