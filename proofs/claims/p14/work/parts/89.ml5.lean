/-! The model's loads: take. -/
theorem hu_mfindPath {X : (Nat → mq_C) → Prop} (hq : mz_Ct mz_GG mq_PP X mz_q174 10) {d z u : Nat} {M : Nat → mq_C} {Q : (Option Value ⊕ Nat) → mq_S → Prop} {x1 : Int32} (hd : 10 ≤ d) (hz : 272 ≤ z) (hm : mz_sh mz_GG M) (hx : X M) (p0 : 0 ≤ x1.toInt) (p1 : 0 ≤ 3 - x1.toInt)
    (w0 : ∀ (M' : Nat → mq_C), mz_sh mz_GG M' → X M' → mz_fr mz_q174 M M' → (∀ a, a < 8 → M' a = M a) → hb_same mz_GG mz_q174 M M' → Q (.inl none) (M', z, u)) : mq_R mq_PP d 143 0 [some (.ref 234), some (.int x1), none, none, none, none] [] (M, z, u) Q := by
  refine hb_use mz_GG mq_PP X (q := mz_q174) (vs := [.ref 234, .int x1]) hq (by decide +kernel) hd (show hb_pk mz_GG [(1, 234), (0, 0)] _ from ⟨⟨List.mem_singleton.mpr rfl, rfl⟩, trivial, trivial⟩) hm hx hz ?_ ?_
  · exact hb_cons (show 0 ≤ mz_ev _ _ from (show 0 ≤ 0 + (1 * x1.toInt + 0) by omega)) (hb_cons (show 0 ≤ mz_ev _ _ from (show 0 ≤ 3 + ((-1) * x1.toInt + 0) by omega)) (hb_nil))
  · intro r S hpo
    obtain ⟨b1, b2, b3, b4, b5, p, hp, res, hf, hre⟩ := hpo
    rcases List.mem_cons.mp hp with rfl | hp
    · obtain ⟨rfl, hz1, hu1⟩ := mz_re_3 mz_GG hre rfl
      obtain ⟨M', z', u'⟩ := S
      cases hz1
      cases hu1
      exact w0 M' b1 b2 b3 b4 b5 
    cases hp
theorem hu_nameBytes {X : (Nat → mq_C) → Prop} (hq : mz_Ct mz_GG mq_PP X mz_q175 1) {d z u : Nat} {M : Nat → mq_C} {Q : (Option Value ⊕ Nat) → mq_S → Prop} {x0 : Int32} (hd : 1 ≤ d) (hz : 272 ≤ z) (hm : mz_sh mz_GG M) (hx : X M) (p0 : 0 ≤ x0.toInt) (p1 : 0 ≤ 31 - x0.toInt)
    (w0 : ∀ (M' : Nat → mq_C) (r : Int32), mz_sh mz_GG M' → X M' → mz_fr mz_q175 M M' → (∀ a, a < 8 → M' a = M a) → hb_same mz_GG mz_q175 M M' → 0 ≤ r.toInt → 0 ≤ 65535 - r.toInt → Q (.inl (some (.int r))) (M', z, u)) : mq_R mq_PP d 144 0 [some (.int x0)] [] (M, z, u) Q := by
  refine hb_use mz_GG mq_PP X (q := mz_q175) (vs := [.int x0]) hq (by decide +kernel) hd (show hb_pk mz_GG [(0, 0)] _ from ⟨trivial, trivial⟩) hm hx hz ?_ ?_
  · exact hb_cons (show 0 ≤ mz_ev _ _ from (show 0 ≤ 0 + (1 * x0.toInt + 0) by omega)) (hb_cons (show 0 ≤ mz_ev _ _ from (show 0 ≤ 31 + ((-1) * x0.toInt + 0) by omega)) (hb_nil))
  · intro r S hpo
    obtain ⟨b1, b2, b3, b4, b5, p, hp, res, hf, hre⟩ := hpo
    rcases List.mem_cons.mp hp with rfl | hp
    · obtain ⟨x, rfl, hr, hz1, hu1⟩ := mz_re_0 mz_GG hre rfl
      obtain ⟨M', z', u'⟩ := S
      cases hz1
      cases hu1
      obtain ⟨f0, hf⟩ := hb_unc hf
      have f0 : 0 ≤ 0 + (1 * res + 0) := f0
      rw [← hr] at f0
      obtain ⟨f1, hf⟩ := hb_unc hf
      have f1 : 0 ≤ 65535 + ((-1) * res + 0) := f1
      rw [← hr] at f1
      exact w0 M' x b1 b2 b3 b4 b5 (by have h1 := f0; omega) (by have h1 := f1; omega)
    cases hp
theorem hu_recordFor0 {X : (Nat → mq_C) → Prop} (hq : mz_Ct mz_GG mq_PP X mz_q149 2) {d z u : Nat} {M : Nat → mq_C} {Q : (Option Value ⊕ Nat) → mq_S → Prop} {x1 : Int32} {x2 : Int32} (hd : 2 ≤ d) (hz : 272 ≤ z) (hm : mz_sh mz_GG M) (hx : X M) (p0 : 0 ≤ x1.toInt) (p1 : 0 ≤ 0 - x1.toInt)
    (w0 : ∀ (M' : Nat → mq_C) (r : Int32), mz_sh mz_GG M' → X M' → mz_fr mz_q149 M M' → (∀ a, a < 8 → M' a = M a) → hb_same mz_GG mz_q149 M M' → 0 ≤ 1 + r.toInt → 0 ≤ (-1) + hv M 238 0 - r.toInt → Q (.inl (some (.int r))) (M', z, u))
    (w1 : ∀ (M' : Nat → mq_C) (r : Int32), mz_sh mz_GG M' → X M' → mz_fr mz_q149 M M' → (∀ a, a < 8 → M' a = M a) → hb_same mz_GG mz_q149 M M' → r.toInt = (-1) → Q (.inl (some (.int r))) (M', z, u)) : mq_R mq_PP d 139 0 [some (.ref 234), some (.int x1), some (.int x2), none] [] (M, z, u) Q := by
  refine hb_use mz_GG mq_PP X (q := mz_q149) (vs := [.ref 234, .int x1, .int x2]) hq (by decide +kernel) hd (show hb_pk mz_GG [(1, 234), (0, 0), (0, 0)] _ from ⟨⟨List.mem_singleton.mpr rfl, rfl⟩, trivial, trivial, trivial⟩) hm hx hz ?_ ?_
  · exact hb_cons (show 0 ≤ mz_ev _ _ from (show 0 ≤ 0 + (1 * x1.toInt + 0) by omega)) (hb_cons (show 0 ≤ mz_ev _ _ from (show 0 ≤ 0 + ((-1) * x1.toInt + 0) by omega)) (hb_nil))
  · intro r S hpo
    obtain ⟨b1, b2, b3, b4, b5, p, hp, res, hf, hre⟩ := hpo
    rcases List.mem_cons.mp hp with rfl | hp
    · obtain ⟨x, rfl, hr, hz1, hu1⟩ := mz_re_0 mz_GG hre rfl
      obtain ⟨M', z', u'⟩ := S
      cases hz1
      cases hu1
      obtain ⟨f0, hf⟩ := hb_unc hf
      have f0 : 0 ≤ 1 + (1 * res + 0) := f0
      rw [← hr] at f0
      obtain ⟨f1, hf⟩ := hb_unc hf
      have f1 : 0 ≤ -1 + (1 * hv M 238 0 + ((-1) * res + 0)) := f1
      rw [← hr] at f1
      exact w0 M' x b1 b2 b3 b4 b5 (by have h1 := f0; omega) (by have h1 := f1; omega)
    rcases List.mem_cons.mp hp with rfl | hp
    · obtain ⟨x, rfl, hr, hz1, hu1⟩ := mz_re_0 mz_GG hre rfl
      obtain ⟨M', z', u'⟩ := S
      cases hz1
      cases hu1
      obtain ⟨f0, hf⟩ := hb_unc hf
      have f0 : 0 ≤ 1 + (1 * res + 0) := f0
      rw [← hr] at f0
      obtain ⟨f1, hf⟩ := hb_unc hf
      have f1 : 0 ≤ -1 + ((-1) * res + 0) := f1
      rw [← hr] at f1
      exact w1 M' x b1 b2 b3 b4 b5 (by have h1 := f0; have h2 := f1; omega)
    cases hp
theorem hu_recordFor1 {X : (Nat → mq_C) → Prop} (hq : mz_Ct mz_GG mq_PP X mz_q156 2) {d z u : Nat} {M : Nat → mq_C} {Q : (Option Value ⊕ Nat) → mq_S → Prop} {x1 : Int32} {x2 : Int32} (hd : 2 ≤ d) (hz : 272 ≤ z) (hm : mz_sh mz_GG M) (hx : X M) (p0 : 0 ≤ (-1) + x1.toInt) (p1 : 0 ≤ 1 - x1.toInt)
    (w0 : ∀ (M' : Nat → mq_C) (r : Int32), mz_sh mz_GG M' → X M' → mz_fr mz_q156 M M' → (∀ a, a < 8 → M' a = M a) → hb_same mz_GG mz_q156 M M' → 0 ≤ 1 + r.toInt → 0 ≤ (-1) + hv M 238 1 - r.toInt → Q (.inl (some (.int r))) (M', z, u))
    (w1 : ∀ (M' : Nat → mq_C) (r : Int32), mz_sh mz_GG M' → X M' → mz_fr mz_q156 M M' → (∀ a, a < 8 → M' a = M a) → hb_same mz_GG mz_q156 M M' → r.toInt = (-1) → Q (.inl (some (.int r))) (M', z, u)) : mq_R mq_PP d 139 0 [some (.ref 234), some (.int x1), some (.int x2), none] [] (M, z, u) Q := by
  refine hb_use mz_GG mq_PP X (q := mz_q156) (vs := [.ref 234, .int x1, .int x2]) hq (by decide +kernel) hd (show hb_pk mz_GG [(1, 234), (0, 0), (0, 0)] _ from ⟨⟨List.mem_singleton.mpr rfl, rfl⟩, trivial, trivial, trivial⟩) hm hx hz ?_ ?_
  · exact hb_cons (show 0 ≤ mz_ev _ _ from (show 0 ≤ -1 + (1 * x1.toInt + 0) by omega)) (hb_cons (show 0 ≤ mz_ev _ _ from (show 0 ≤ 1 + ((-1) * x1.toInt + 0) by omega)) (hb_nil))
  · intro r S hpo
    obtain ⟨b1, b2, b3, b4, b5, p, hp, res, hf, hre⟩ := hpo
    rcases List.mem_cons.mp hp with rfl | hp
    · obtain ⟨x, rfl, hr, hz1, hu1⟩ := mz_re_0 mz_GG hre rfl
      obtain ⟨M', z', u'⟩ := S
      cases hz1
      cases hu1
      obtain ⟨f0, hf⟩ := hb_unc hf
      have f0 : 0 ≤ 1 + (1 * res + 0) := f0
      rw [← hr] at f0
      obtain ⟨f1, hf⟩ := hb_unc hf
      have f1 : 0 ≤ -1 + (1 * hv M 238 1 + ((-1) * res + 0)) := f1
      rw [← hr] at f1
      exact w0 M' x b1 b2 b3 b4 b5 (by have h1 := f0; omega) (by have h1 := f1; omega)
    rcases List.mem_cons.mp hp with rfl | hp
    · obtain ⟨x, rfl, hr, hz1, hu1⟩ := mz_re_0 mz_GG hre rfl
      obtain ⟨M', z', u'⟩ := S
      cases hz1
      cases hu1
      obtain ⟨f0, hf⟩ := hb_unc hf
      have f0 : 0 ≤ 1 + (1 * res + 0) := f0
      rw [← hr] at f0
      obtain ⟨f1, hf⟩ := hb_unc hf
      have f1 : 0 ≤ -1 + ((-1) * res + 0) := f1
      rw [← hr] at f1
      exact w1 M' x b1 b2 b3 b4 b5 (by have h1 := f0; have h2 := f1; omega)
    cases hp
theorem hu_recordFor2 {X : (Nat → mq_C) → Prop} (hq : mz_Ct mz_GG mq_PP X mz_q163 2) {d z u : Nat} {M : Nat → mq_C} {Q : (Option Value ⊕ Nat) → mq_S → Prop} {x1 : Int32} {x2 : Int32} (hd : 2 ≤ d) (hz : 272 ≤ z) (hm : mz_sh mz_GG M) (hx : X M) (p0 : 0 ≤ (-2) + x1.toInt) (p1 : 0 ≤ 2 - x1.toInt)
    (w0 : ∀ (M' : Nat → mq_C) (r : Int32), mz_sh mz_GG M' → X M' → mz_fr mz_q163 M M' → (∀ a, a < 8 → M' a = M a) → hb_same mz_GG mz_q163 M M' → 0 ≤ 1 + r.toInt → 0 ≤ (-1) + hv M 238 2 - r.toInt → Q (.inl (some (.int r))) (M', z, u))
    (w1 : ∀ (M' : Nat → mq_C) (r : Int32), mz_sh mz_GG M' → X M' → mz_fr mz_q163 M M' → (∀ a, a < 8 → M' a = M a) → hb_same mz_GG mz_q163 M M' → r.toInt = (-1) → Q (.inl (some (.int r))) (M', z, u)) : mq_R mq_PP d 139 0 [some (.ref 234), some (.int x1), some (.int x2), none] [] (M, z, u) Q := by
  refine hb_use mz_GG mq_PP X (q := mz_q163) (vs := [.ref 234, .int x1, .int x2]) hq (by decide +kernel) hd (show hb_pk mz_GG [(1, 234), (0, 0), (0, 0)] _ from ⟨⟨List.mem_singleton.mpr rfl, rfl⟩, trivial, trivial, trivial⟩) hm hx hz ?_ ?_
  · exact hb_cons (show 0 ≤ mz_ev _ _ from (show 0 ≤ -2 + (1 * x1.toInt + 0) by omega)) (hb_cons (show 0 ≤ mz_ev _ _ from (show 0 ≤ 2 + ((-1) * x1.toInt + 0) by omega)) (hb_nil))
  · intro r S hpo
    obtain ⟨b1, b2, b3, b4, b5, p, hp, res, hf, hre⟩ := hpo
    rcases List.mem_cons.mp hp with rfl | hp
    · obtain ⟨x, rfl, hr, hz1, hu1⟩ := mz_re_0 mz_GG hre rfl
      obtain ⟨M', z', u'⟩ := S
      cases hz1
      cases hu1
      obtain ⟨f0, hf⟩ := hb_unc hf
      have f0 : 0 ≤ 1 + (1 * res + 0) := f0
      rw [← hr] at f0
      obtain ⟨f1, hf⟩ := hb_unc hf
      have f1 : 0 ≤ -1 + (1 * hv M 238 2 + ((-1) * res + 0)) := f1
      rw [← hr] at f1
      exact w0 M' x b1 b2 b3 b4 b5 (by have h1 := f0; omega) (by have h1 := f1; omega)
    rcases List.mem_cons.mp hp with rfl | hp
    · obtain ⟨x, rfl, hr, hz1, hu1⟩ := mz_re_0 mz_GG hre rfl
      obtain ⟨M', z', u'⟩ := S
      cases hz1
      cases hu1
      obtain ⟨f0, hf⟩ := hb_unc hf
      have f0 : 0 ≤ 1 + (1 * res + 0) := f0
      rw [← hr] at f0
      obtain ⟨f1, hf⟩ := hb_unc hf
      have f1 : 0 ≤ -1 + ((-1) * res + 0) := f1
      rw [← hr] at f1
      exact w1 M' x b1 b2 b3 b4 b5 (by have h1 := f0; have h2 := f1; omega)
    cases hp
theorem hu_recordFor3 {X : (Nat → mq_C) → Prop} (hq : mz_Ct mz_GG mq_PP X mz_q170 2) {d z u : Nat} {M : Nat → mq_C} {Q : (Option Value ⊕ Nat) → mq_S → Prop} {x1 : Int32} {x2 : Int32} (hd : 2 ≤ d) (hz : 272 ≤ z) (hm : mz_sh mz_GG M) (hx : X M) (p0 : 0 ≤ (-3) + x1.toInt) (p1 : 0 ≤ 3 - x1.toInt)
    (w0 : ∀ (M' : Nat → mq_C) (r : Int32), mz_sh mz_GG M' → X M' → mz_fr mz_q170 M M' → (∀ a, a < 8 → M' a = M a) → hb_same mz_GG mz_q170 M M' → 0 ≤ 1 + r.toInt → 0 ≤ (-1) + hv M 238 3 - r.toInt → Q (.inl (some (.int r))) (M', z, u))
    (w1 : ∀ (M' : Nat → mq_C) (r : Int32), mz_sh mz_GG M' → X M' → mz_fr mz_q170 M M' → (∀ a, a < 8 → M' a = M a) → hb_same mz_GG mz_q170 M M' → r.toInt = (-1) → Q (.inl (some (.int r))) (M', z, u)) : mq_R mq_PP d 139 0 [some (.ref 234), some (.int x1), some (.int x2), none] [] (M, z, u) Q := by
  refine hb_use mz_GG mq_PP X (q := mz_q170) (vs := [.ref 234, .int x1, .int x2]) hq (by decide +kernel) hd (show hb_pk mz_GG [(1, 234), (0, 0), (0, 0)] _ from ⟨⟨List.mem_singleton.mpr rfl, rfl⟩, trivial, trivial, trivial⟩) hm hx hz ?_ ?_
  · exact hb_cons (show 0 ≤ mz_ev _ _ from (show 0 ≤ -3 + (1 * x1.toInt + 0) by omega)) (hb_cons (show 0 ≤ mz_ev _ _ from (show 0 ≤ 3 + ((-1) * x1.toInt + 0) by omega)) (hb_nil))
  · intro r S hpo
    obtain ⟨b1, b2, b3, b4, b5, p, hp, res, hf, hre⟩ := hpo
    rcases List.mem_cons.mp hp with rfl | hp
    · obtain ⟨x, rfl, hr, hz1, hu1⟩ := mz_re_0 mz_GG hre rfl
      obtain ⟨M', z', u'⟩ := S
      cases hz1
      cases hu1
      obtain ⟨f0, hf⟩ := hb_unc hf
      have f0 : 0 ≤ 1 + (1 * res + 0) := f0
      rw [← hr] at f0
      obtain ⟨f1, hf⟩ := hb_unc hf
      have f1 : 0 ≤ -1 + (1 * hv M 238 3 + ((-1) * res + 0)) := f1
      rw [← hr] at f1
      exact w0 M' x b1 b2 b3 b4 b5 (by have h1 := f0; omega) (by have h1 := f1; omega)
    rcases List.mem_cons.mp hp with rfl | hp
    · obtain ⟨x, rfl, hr, hz1, hu1⟩ := mz_re_0 mz_GG hre rfl
      obtain ⟨M', z', u'⟩ := S
      cases hz1
      cases hu1
      obtain ⟨f0, hf⟩ := hb_unc hf
      have f0 : 0 ≤ 1 + (1 * res + 0) := f0
      rw [← hr] at f0
      obtain ⟨f1, hf⟩ := hb_unc hf
      have f1 : 0 ≤ -1 + ((-1) * res + 0) := f1
      rw [← hr] at f1
      exact w1 M' x b1 b2 b3 b4 b5 (by have h1 := f0; have h2 := f1; omega)
    cases hp
theorem hu_isReadable0 {X : (Nat → mq_C) → Prop} (hq : mz_Ct mz_GG mq_PP X mz_q148 9) {d z u : Nat} {M : Nat → mq_C} {Q : (Option Value ⊕ Nat) → mq_S → Prop} {x1 : Int32} (hd : 9 ≤ d) (hz : 272 ≤ z) (hm : mz_sh mz_GG M) (hx : X M) (p0 : 0 ≤ x1.toInt) (p1 : 0 ≤ 0 - x1.toInt)
    (w0 : ∀ (M' : Nat → mq_C) (r : Int32), mz_sh mz_GG M' → X M' → mz_fr mz_q148 M M' → (∀ a, a < 8 → M' a = M a) → hb_same mz_GG mz_q148 M M' → 0 ≤ r.toInt → 0 ≤ 1 - r.toInt → Q (.inl (some (.int r))) (M', z, u)) : mq_R mq_PP d 138 0 [some (.ref 234), some (.int x1), none] [] (M, z, u) Q := by
  refine hb_use mz_GG mq_PP X (q := mz_q148) (vs := [.ref 234, .int x1]) hq (by decide +kernel) hd (show hb_pk mz_GG [(1, 234), (0, 0)] _ from ⟨⟨List.mem_singleton.mpr rfl, rfl⟩, trivial, trivial⟩) hm hx hz ?_ ?_
  · exact hb_cons (show 0 ≤ mz_ev _ _ from (show 0 ≤ 0 + (1 * x1.toInt + 0) by omega)) (hb_cons (show 0 ≤ mz_ev _ _ from (show 0 ≤ 0 + ((-1) * x1.toInt + 0) by omega)) (hb_nil))
  · intro r S hpo
    obtain ⟨b1, b2, b3, b4, b5, p, hp, res, hf, hre⟩ := hpo
    rcases List.mem_cons.mp hp with rfl | hp
    · obtain ⟨x, rfl, hr, hz1, hu1⟩ := mz_re_0 mz_GG hre rfl
      obtain ⟨M', z', u'⟩ := S
      cases hz1
      cases hu1
      obtain ⟨f0, hf⟩ := hb_unc hf
      have f0 : 0 ≤ 0 + (1 * res + 0) := f0
      rw [← hr] at f0
      obtain ⟨f1, hf⟩ := hb_unc hf
      have f1 : 0 ≤ 1 + ((-1) * res + 0) := f1
      rw [← hr] at f1
      exact w0 M' x b1 b2 b3 b4 b5 (by have h1 := f0; omega) (by have h1 := f1; omega)
    cases hp
theorem hu_isReadable1 {X : (Nat → mq_C) → Prop} (hq : mz_Ct mz_GG mq_PP X mz_q155 9) {d z u : Nat} {M : Nat → mq_C} {Q : (Option Value ⊕ Nat) → mq_S → Prop} {x1 : Int32} (hd : 9 ≤ d) (hz : 272 ≤ z) (hm : mz_sh mz_GG M) (hx : X M) (p0 : 0 ≤ (-1) + x1.toInt) (p1 : 0 ≤ 1 - x1.toInt)
    (w0 : ∀ (M' : Nat → mq_C) (r : Int32), mz_sh mz_GG M' → X M' → mz_fr mz_q155 M M' → (∀ a, a < 8 → M' a = M a) → hb_same mz_GG mz_q155 M M' → 0 ≤ r.toInt → 0 ≤ 1 - r.toInt → Q (.inl (some (.int r))) (M', z, u)) : mq_R mq_PP d 138 0 [some (.ref 234), some (.int x1), none] [] (M, z, u) Q := by
  refine hb_use mz_GG mq_PP X (q := mz_q155) (vs := [.ref 234, .int x1]) hq (by decide +kernel) hd (show hb_pk mz_GG [(1, 234), (0, 0)] _ from ⟨⟨List.mem_singleton.mpr rfl, rfl⟩, trivial, trivial⟩) hm hx hz ?_ ?_
  · exact hb_cons (show 0 ≤ mz_ev _ _ from (show 0 ≤ -1 + (1 * x1.toInt + 0) by omega)) (hb_cons (show 0 ≤ mz_ev _ _ from (show 0 ≤ 1 + ((-1) * x1.toInt + 0) by omega)) (hb_nil))
  · intro r S hpo
    obtain ⟨b1, b2, b3, b4, b5, p, hp, res, hf, hre⟩ := hpo
    rcases List.mem_cons.mp hp with rfl | hp
    · obtain ⟨x, rfl, hr, hz1, hu1⟩ := mz_re_0 mz_GG hre rfl
      obtain ⟨M', z', u'⟩ := S
      cases hz1
      cases hu1
      obtain ⟨f0, hf⟩ := hb_unc hf
      have f0 : 0 ≤ 0 + (1 * res + 0) := f0
      rw [← hr] at f0
      obtain ⟨f1, hf⟩ := hb_unc hf
      have f1 : 0 ≤ 1 + ((-1) * res + 0) := f1
      rw [← hr] at f1
      exact w0 M' x b1 b2 b3 b4 b5 (by have h1 := f0; omega) (by have h1 := f1; omega)
    cases hp
theorem hu_isReadable2 {X : (Nat → mq_C) → Prop} (hq : mz_Ct mz_GG mq_PP X mz_q162 9) {d z u : Nat} {M : Nat → mq_C} {Q : (Option Value ⊕ Nat) → mq_S → Prop} {x1 : Int32} (hd : 9 ≤ d) (hz : 272 ≤ z) (hm : mz_sh mz_GG M) (hx : X M) (p0 : 0 ≤ (-2) + x1.toInt) (p1 : 0 ≤ 2 - x1.toInt)
    (w0 : ∀ (M' : Nat → mq_C) (r : Int32), mz_sh mz_GG M' → X M' → mz_fr mz_q162 M M' → (∀ a, a < 8 → M' a = M a) → hb_same mz_GG mz_q162 M M' → 0 ≤ r.toInt → 0 ≤ 1 - r.toInt → Q (.inl (some (.int r))) (M', z, u)) : mq_R mq_PP d 138 0 [some (.ref 234), some (.int x1), none] [] (M, z, u) Q := by
  refine hb_use mz_GG mq_PP X (q := mz_q162) (vs := [.ref 234, .int x1]) hq (by decide +kernel) hd (show hb_pk mz_GG [(1, 234), (0, 0)] _ from ⟨⟨List.mem_singleton.mpr rfl, rfl⟩, trivial, trivial⟩) hm hx hz ?_ ?_
  · exact hb_cons (show 0 ≤ mz_ev _ _ from (show 0 ≤ -2 + (1 * x1.toInt + 0) by omega)) (hb_cons (show 0 ≤ mz_ev _ _ from (show 0 ≤ 2 + ((-1) * x1.toInt + 0) by omega)) (hb_nil))
  · intro r S hpo
    obtain ⟨b1, b2, b3, b4, b5, p, hp, res, hf, hre⟩ := hpo
    rcases List.mem_cons.mp hp with rfl | hp
    · obtain ⟨x, rfl, hr, hz1, hu1⟩ := mz_re_0 mz_GG hre rfl
      obtain ⟨M', z', u'⟩ := S
      cases hz1
      cases hu1
      obtain ⟨f0, hf⟩ := hb_unc hf
      have f0 : 0 ≤ 0 + (1 * res + 0) := f0
      rw [← hr] at f0
      obtain ⟨f1, hf⟩ := hb_unc hf
      have f1 : 0 ≤ 1 + ((-1) * res + 0) := f1
      rw [← hr] at f1
      exact w0 M' x b1 b2 b3 b4 b5 (by have h1 := f0; omega) (by have h1 := f1; omega)
    cases hp
theorem hu_isReadable3 {X : (Nat → mq_C) → Prop} (hq : mz_Ct mz_GG mq_PP X mz_q169 9) {d z u : Nat} {M : Nat → mq_C} {Q : (Option Value ⊕ Nat) → mq_S → Prop} {x1 : Int32} (hd : 9 ≤ d) (hz : 272 ≤ z) (hm : mz_sh mz_GG M) (hx : X M) (p0 : 0 ≤ (-3) + x1.toInt) (p1 : 0 ≤ 3 - x1.toInt)
    (w0 : ∀ (M' : Nat → mq_C) (r : Int32), mz_sh mz_GG M' → X M' → mz_fr mz_q169 M M' → (∀ a, a < 8 → M' a = M a) → hb_same mz_GG mz_q169 M M' → 0 ≤ r.toInt → 0 ≤ 1 - r.toInt → Q (.inl (some (.int r))) (M', z, u)) : mq_R mq_PP d 138 0 [some (.ref 234), some (.int x1), none] [] (M, z, u) Q := by
  refine hb_use mz_GG mq_PP X (q := mz_q169) (vs := [.ref 234, .int x1]) hq (by decide +kernel) hd (show hb_pk mz_GG [(1, 234), (0, 0)] _ from ⟨⟨List.mem_singleton.mpr rfl, rfl⟩, trivial, trivial⟩) hm hx hz ?_ ?_
  · exact hb_cons (show 0 ≤ mz_ev _ _ from (show 0 ≤ -3 + (1 * x1.toInt + 0) by omega)) (hb_cons (show 0 ≤ mz_ev _ _ from (show 0 ≤ 3 + ((-1) * x1.toInt + 0) by omega)) (hb_nil))
  · intro r S hpo
    obtain ⟨b1, b2, b3, b4, b5, p, hp, res, hf, hre⟩ := hpo
    rcases List.mem_cons.mp hp with rfl | hp
    · obtain ⟨x, rfl, hr, hz1, hu1⟩ := mz_re_0 mz_GG hre rfl
      obtain ⟨M', z', u'⟩ := S
      cases hz1
      cases hu1
      obtain ⟨f0, hf⟩ := hb_unc hf
      have f0 : 0 ≤ 0 + (1 * res + 0) := f0
      rw [← hr] at f0
      obtain ⟨f1, hf⟩ := hb_unc hf
      have f1 : 0 ≤ 1 + ((-1) * res + 0) := f1
      rw [← hr] at f1
      exact w0 M' x b1 b2 b3 b4 b5 (by have h1 := f0; omega) (by have h1 := f1; omega)
    cases hp
theorem hu_unpacked0 {X : (Nat → mq_C) → Prop} (hq : mz_Ct mz_GG mq_PP X mz_q145 7) {d z u : Nat} {M : Nat → mq_C} {Q : (Option Value ⊕ Nat) → mq_S → Prop} {x1 : Int32} {x2 : Int32} (hd : 7 ≤ d) (hz : 272 ≤ z) (hm : mz_sh mz_GG M) (hx : X M) (p0 : 0 ≤ x1.toInt) (p1 : 0 ≤ 0 - x1.toInt) (p2 : 0 ≤ x2.toInt) (p3 : 0 ≤ (-1) - x2.toInt + hv M 238 0)
    (w0 : ∀ (M' : Nat → mq_C) (r : Int32), mz_sh mz_GG M' → X M' → mz_fr mz_q145 M M' → (∀ a, a < 8 → M' a = M a) → hb_same mz_GG mz_q145 M M' → 0 ≤ r.toInt → 0 ≤ 1 - r.toInt → Q (.inl (some (.int r))) (M', z, u)) : mq_R mq_PP d 135 0 [some (.ref 234), some (.int x1), some (.int x2), none, none] [] (M, z, u) Q := by
  refine hb_use mz_GG mq_PP X (q := mz_q145) (vs := [.ref 234, .int x1, .int x2]) hq (by decide +kernel) hd (show hb_pk mz_GG [(1, 234), (0, 0), (0, 0)] _ from ⟨⟨List.mem_singleton.mpr rfl, rfl⟩, trivial, trivial, trivial⟩) hm hx hz ?_ ?_
  · exact hb_cons (show 0 ≤ mz_ev _ _ from (show 0 ≤ 0 + (1 * x1.toInt + 0) by omega)) (hb_cons (show 0 ≤ mz_ev _ _ from (show 0 ≤ 0 + ((-1) * x1.toInt + 0) by omega)) (hb_cons (show 0 ≤ mz_ev _ _ from (show 0 ≤ 0 + (1 * x2.toInt + 0) by omega)) (hb_cons (show 0 ≤ mz_ev _ _ from (show 0 ≤ -1 + ((-1) * x2.toInt + (1 * hv M 238 0 + 0)) by omega)) (hb_nil))))
  · intro r S hpo
    obtain ⟨b1, b2, b3, b4, b5, p, hp, res, hf, hre⟩ := hpo
    rcases List.mem_cons.mp hp with rfl | hp
    · obtain ⟨x, rfl, hr, hz1, hu1⟩ := mz_re_0 mz_GG hre rfl
      obtain ⟨M', z', u'⟩ := S
      cases hz1
      cases hu1
      obtain ⟨f0, hf⟩ := hb_unc hf
      have f0 : 0 ≤ 0 + (1 * res + 0) := f0
      rw [← hr] at f0
      obtain ⟨f1, hf⟩ := hb_unc hf
      have f1 : 0 ≤ 1 + ((-1) * res + 0) := f1
      rw [← hr] at f1
      exact w0 M' x b1 b2 b3 b4 b5 (by have h1 := f0; omega) (by have h1 := f1; omega)
    cases hp
theorem hu_unpacked1 {X : (Nat → mq_C) → Prop} (hq : mz_Ct mz_GG mq_PP X mz_q152 7) {d z u : Nat} {M : Nat → mq_C} {Q : (Option Value ⊕ Nat) → mq_S → Prop} {x1 : Int32} {x2 : Int32} (hd : 7 ≤ d) (hz : 272 ≤ z) (hm : mz_sh mz_GG M) (hx : X M) (p0 : 0 ≤ (-1) + x1.toInt) (p1 : 0 ≤ 1 - x1.toInt) (p2 : 0 ≤ x2.toInt) (p3 : 0 ≤ (-1) - x2.toInt + hv M 238 1)
    (w0 : ∀ (M' : Nat → mq_C) (r : Int32), mz_sh mz_GG M' → X M' → mz_fr mz_q152 M M' → (∀ a, a < 8 → M' a = M a) → hb_same mz_GG mz_q152 M M' → 0 ≤ r.toInt → 0 ≤ 1 - r.toInt → Q (.inl (some (.int r))) (M', z, u)) : mq_R mq_PP d 135 0 [some (.ref 234), some (.int x1), some (.int x2), none, none] [] (M, z, u) Q := by
  refine hb_use mz_GG mq_PP X (q := mz_q152) (vs := [.ref 234, .int x1, .int x2]) hq (by decide +kernel) hd (show hb_pk mz_GG [(1, 234), (0, 0), (0, 0)] _ from ⟨⟨List.mem_singleton.mpr rfl, rfl⟩, trivial, trivial, trivial⟩) hm hx hz ?_ ?_
  · exact hb_cons (show 0 ≤ mz_ev _ _ from (show 0 ≤ -1 + (1 * x1.toInt + 0) by omega)) (hb_cons (show 0 ≤ mz_ev _ _ from (show 0 ≤ 1 + ((-1) * x1.toInt + 0) by omega)) (hb_cons (show 0 ≤ mz_ev _ _ from (show 0 ≤ 0 + (1 * x2.toInt + 0) by omega)) (hb_cons (show 0 ≤ mz_ev _ _ from (show 0 ≤ -1 + ((-1) * x2.toInt + (1 * hv M 238 1 + 0)) by omega)) (hb_nil))))
  · intro r S hpo
    obtain ⟨b1, b2, b3, b4, b5, p, hp, res, hf, hre⟩ := hpo
    rcases List.mem_cons.mp hp with rfl | hp
    · obtain ⟨x, rfl, hr, hz1, hu1⟩ := mz_re_0 mz_GG hre rfl
      obtain ⟨M', z', u'⟩ := S
      cases hz1
      cases hu1
      obtain ⟨f0, hf⟩ := hb_unc hf
      have f0 : 0 ≤ 0 + (1 * res + 0) := f0
      rw [← hr] at f0
      obtain ⟨f1, hf⟩ := hb_unc hf
      have f1 : 0 ≤ 1 + ((-1) * res + 0) := f1
      rw [← hr] at f1
      exact w0 M' x b1 b2 b3 b4 b5 (by have h1 := f0; omega) (by have h1 := f1; omega)
    cases hp
theorem hu_unpacked2 {X : (Nat → mq_C) → Prop} (hq : mz_Ct mz_GG mq_PP X mz_q159 7) {d z u : Nat} {M : Nat → mq_C} {Q : (Option Value ⊕ Nat) → mq_S → Prop} {x1 : Int32} {x2 : Int32} (hd : 7 ≤ d) (hz : 272 ≤ z) (hm : mz_sh mz_GG M) (hx : X M) (p0 : 0 ≤ (-2) + x1.toInt) (p1 : 0 ≤ 2 - x1.toInt) (p2 : 0 ≤ x2.toInt) (p3 : 0 ≤ (-1) - x2.toInt + hv M 238 2)
    (w0 : ∀ (M' : Nat → mq_C) (r : Int32), mz_sh mz_GG M' → X M' → mz_fr mz_q159 M M' → (∀ a, a < 8 → M' a = M a) → hb_same mz_GG mz_q159 M M' → 0 ≤ r.toInt → 0 ≤ 1 - r.toInt → Q (.inl (some (.int r))) (M', z, u)) : mq_R mq_PP d 135 0 [some (.ref 234), some (.int x1), some (.int x2), none, none] [] (M, z, u) Q := by
  refine hb_use mz_GG mq_PP X (q := mz_q159) (vs := [.ref 234, .int x1, .int x2]) hq (by decide +kernel) hd (show hb_pk mz_GG [(1, 234), (0, 0), (0, 0)] _ from ⟨⟨List.mem_singleton.mpr rfl, rfl⟩, trivial, trivial, trivial⟩) hm hx hz ?_ ?_
  · exact hb_cons (show 0 ≤ mz_ev _ _ from (show 0 ≤ -2 + (1 * x1.toInt + 0) by omega)) (hb_cons (show 0 ≤ mz_ev _ _ from (show 0 ≤ 2 + ((-1) * x1.toInt + 0) by omega)) (hb_cons (show 0 ≤ mz_ev _ _ from (show 0 ≤ 0 + (1 * x2.toInt + 0) by omega)) (hb_cons (show 0 ≤ mz_ev _ _ from (show 0 ≤ -1 + ((-1) * x2.toInt + (1 * hv M 238 2 + 0)) by omega)) (hb_nil))))
  · intro r S hpo
    obtain ⟨b1, b2, b3, b4, b5, p, hp, res, hf, hre⟩ := hpo
    rcases List.mem_cons.mp hp with rfl | hp
    · obtain ⟨x, rfl, hr, hz1, hu1⟩ := mz_re_0 mz_GG hre rfl
      obtain ⟨M', z', u'⟩ := S
      cases hz1
      cases hu1
      obtain ⟨f0, hf⟩ := hb_unc hf
      have f0 : 0 ≤ 0 + (1 * res + 0) := f0
      rw [← hr] at f0
      obtain ⟨f1, hf⟩ := hb_unc hf
      have f1 : 0 ≤ 1 + ((-1) * res + 0) := f1
      rw [← hr] at f1
      exact w0 M' x b1 b2 b3 b4 b5 (by have h1 := f0; omega) (by have h1 := f1; omega)
    cases hp
theorem hu_unpacked3 {X : (Nat → mq_C) → Prop} (hq : mz_Ct mz_GG mq_PP X mz_q166 7) {d z u : Nat} {M : Nat → mq_C} {Q : (Option Value ⊕ Nat) → mq_S → Prop} {x1 : Int32} {x2 : Int32} (hd : 7 ≤ d) (hz : 272 ≤ z) (hm : mz_sh mz_GG M) (hx : X M) (p0 : 0 ≤ (-3) + x1.toInt) (p1 : 0 ≤ 3 - x1.toInt) (p2 : 0 ≤ x2.toInt) (p3 : 0 ≤ (-1) - x2.toInt + hv M 238 3)
    (w0 : ∀ (M' : Nat → mq_C) (r : Int32), mz_sh mz_GG M' → X M' → mz_fr mz_q166 M M' → (∀ a, a < 8 → M' a = M a) → hb_same mz_GG mz_q166 M M' → 0 ≤ r.toInt → 0 ≤ 1 - r.toInt → Q (.inl (some (.int r))) (M', z, u)) : mq_R mq_PP d 135 0 [some (.ref 234), some (.int x1), some (.int x2), none, none] [] (M, z, u) Q := by
  refine hb_use mz_GG mq_PP X (q := mz_q166) (vs := [.ref 234, .int x1, .int x2]) hq (by decide +kernel) hd (show hb_pk mz_GG [(1, 234), (0, 0), (0, 0)] _ from ⟨⟨List.mem_singleton.mpr rfl, rfl⟩, trivial, trivial, trivial⟩) hm hx hz ?_ ?_
  · exact hb_cons (show 0 ≤ mz_ev _ _ from (show 0 ≤ -3 + (1 * x1.toInt + 0) by omega)) (hb_cons (show 0 ≤ mz_ev _ _ from (show 0 ≤ 3 + ((-1) * x1.toInt + 0) by omega)) (hb_cons (show 0 ≤ mz_ev _ _ from (show 0 ≤ 0 + (1 * x2.toInt + 0) by omega)) (hb_cons (show 0 ≤ mz_ev _ _ from (show 0 ≤ -1 + ((-1) * x2.toInt + (1 * hv M 238 3 + 0)) by omega)) (hb_nil))))
  · intro r S hpo
    obtain ⟨b1, b2, b3, b4, b5, p, hp, res, hf, hre⟩ := hpo
    rcases List.mem_cons.mp hp with rfl | hp
    · obtain ⟨x, rfl, hr, hz1, hu1⟩ := mz_re_0 mz_GG hre rfl
      obtain ⟨M', z', u'⟩ := S
      cases hz1
      cases hu1
      obtain ⟨f0, hf⟩ := hb_unc hf
      have f0 : 0 ≤ 0 + (1 * res + 0) := f0
      rw [← hr] at f0
      obtain ⟨f1, hf⟩ := hb_unc hf
      have f1 : 0 ≤ 1 + ((-1) * res + 0) := f1
      rw [← hr] at f1
      exact w0 M' x b1 b2 b3 b4 b5 (by have h1 := f0; omega) (by have h1 := f1; omega)
    cases hp
theorem hm_pn {j : Nat} : ∀ l : List Nat, mz_pos j l = none ↔ j ∉ l := by
  intro l
  induction l with
  | nil => exact ⟨fun _ h => (by cases h), fun _ => rfl⟩
  | cons i r ih =>
    show (bif Nat.beq i j then some 0 else (mz_pos j r).map (fun n => n + 1)) = none ↔ _
    cases hb : Nat.beq i j with
    | true =>
      have := Nat.eq_of_beq_eq_true hb
      subst this
      exact ⟨fun h => (by cases h), fun h => absurd (List.mem_cons_self ..) h⟩
    | false =>
      have hne : ¬ i = j := fun e => by rw [e, Nat.beq_refl] at hb; cases hb
      show (mz_pos j r).map (fun n => n + 1) = none ↔ _
      rw [Option.map_eq_none_iff, ih, List.mem_cons]
      exact ⟨fun h h2 => h2.elim (fun e => hne e.symm) h, fun h h2 => h (.inr h2)⟩
theorem hm_pos {A B : List Nat} (h : ∀ b ∈ B, b ∈ A) (j : Nat) (hj : mz_pos j A = none) : mz_pos j B = none := (hm_pn B).mpr (fun hb => (hm_pn A).mp hj (h j hb))
/-- where take stands, before it sets the bit -/
def hm_C (j k : Nat) (M Mc : Nat → mq_C) : Prop := mz_sh mz_GG Mc ∧ HX Mc ∧ hm_rel k j M Mc ∧ hv Mc 234 48 = (j : Int) + 1 ∧ Mc 267 = M 267 ∧ Mc 261 = M 261
theorem hm_Cf {j k : Nat} {q' : mz_Q} {M Mc M' : Nat → mq_C} (h : hm_C j k M Mc) (hm : mz_sh mz_GG M') (hx : HX M') (h1 : mz_fr q' Mc M') (h2 : ∀ a, a < 8 → M' a = Mc a) (h3 : hb_same mz_GG q' Mc M') (hd : hv M' 234 48 = hv Mc 234 48) (hW : ∀ a ∈ q'.2.2.2.2.2, a ∈ mz_q178.2.2.2.2.2) (hp : ∀ a ∈ q'.2.2.2.1, a ∈ mz_q178.2.2.2.1) (hw : ∀ a ∈ q'.2.2.2.2.2, a ≠ 261 ∧ a ≠ 262 ∧ a ≠ 267) : hm_C j k M M' := by
  have key : ∀ a, a < 272 → a = 261 ∨ a = 267 → M' a = Mc a := by
    intro a ha hc
    refine h1 a ha ?_
    cases hx : q'.2.2.2.2.2.elem a with
    | false => rfl
    | true =>
      have := hw a (List.elem_iff.mp hx)
      omega
  obtain ⟨a1, a2, a3, a4, a5, a6⟩ := h
  exact ⟨hm, hx, hm_relt (Nat.le_refl _) (Nat.le_refl _) a3 (hm_relf hW (hm_pos hp) hw h1 h2 h3), hd.trans a4, (key 267 (by omega) (.inr rfl)).trans a5, (key 261 (by omega) (.inl rfl)).trans a6⟩
/-- the bit is set: a new frame stands on it -/
def hm_T (j k n : Nat) (M Mb : Nat → mq_C) : Prop := ∃ Ma : Nat → mq_C, hm_rel k j M Ma ∧ hm_bit (hv Ma 262 k) n = false ∧ hm_S Ma Mb ∧ (∀ i, i ≠ k → hv Mb 262 i = hv Ma 262 i) ∧ (∀ i, i < 32 → hm_bit (hv Mb 262 k) i = (hm_bit (hv Ma 262 k) i || decide (i = n))) ∧ (∀ i, hv Mb 261 i = hv Ma 261 i) ∧ (∀ i, i < 12 * j → hv Mb 267 i = hv Ma 267 i) ∧ (∃ x : Int32, hv Ma 262 k = x.toInt) ∧ ∀ i, hv Mb 261 i = hv M 261 i
theorem hm_Tfin {j k n : Nat} {M Mb Mc M' : Nat → mq_C} (hk : k < 4) (hn : n < 32) (h : hm_T j k n M Mb) (h1 : hm_rel k j Mb Mc) (h2 : hm_D j k n Mc M') (hm : mz_sh mz_GG M') : hm_rel k j M M' := by
  obtain ⟨Ma, a1, a2, a3, a4, a5, a6, a7, a8, a9⟩ := h
  exact hm_fin hk hn a1 a2 a3 a4 a5 a6 a7 h1 h2.1 h2.2.1 h2.2.2.1 h2.2.2.2.1 h2.2.2.2.2 (hm_i hm hk) a8
theorem hm_t279 {d z u j k n : Nat} {Q : (Option Value ⊕ Nat) → mq_S → Prop} {M Mc : Nat → mq_C} {x1 x2 x3 x4 x5 x6 x7 x8 x9 : Int32} (hC : ∀ c ∈ mz_Cs, c.2 < 14 → mz_Ct mz_GG mq_PP HX c.1 c.2) (hd : 10 ≤ d) (hz : 272 ≤ z) (hc : hm_C j k M Mc) (hj1 : j < 139) (p1 : x1.toInt = 12 * (j : Int)) (hk : hv M 267 (12 * j) = (k : Int)) (hn : hv M 267 (12 * j + 1) = (n : Int)) (hk4 : k < 4) (hn32 : n < 32) (hdf : hv M 261 (32 * k + n) = -1) (hu : hm_bit (hv M 262 k) n = false) (q2 : x2.toInt = (k : Int)) (q3 : x3.toInt = (n : Int)) (q4 : 0 ≤ x4.toInt) (q4' : x4.toInt ≤ 3) (f45 : -1 ≤ hv Mc 234 45) (f46 : -1 ≤ hv Mc 234 46) (f47 : -1 ≤ hv Mc 234 47)
    (KF : ∀ M' : Nat → mq_C, mz_sh mz_GG M' → HX M' → hm_rel k j M M' → hv M' 234 48 = (j : Int) → hm_w M' → Q (.inl none) (M', z, u))
    (KA : ∀ M' : Nat → mq_C, mz_sh mz_GG M' → HX M' → hm_T j k n M M' → hm_N j M M' → Q (.inl none) (M', z, u)) : mq_R mq_PP (d + 2) 152 279 [some (.ref 234), some (.int x1), some (.int x2), some (.int x3), some (.int x4), some (.int x5), some (.int x6), some (.int x7), some (.int x8), some (.int x9)] [] (Mc, z, u) Q := by
  obtain ⟨hm, hx, hR, hj, hf7, hf1⟩ := id hc
  refine he_aload (n := 280) (i := 0) (by decide +kernel) rfl ?_
  refine he_getr (n := 283) (ci := 9) (j := 36) (ns := [4213, 92]) (b := 262) hm (by decide +kernel) rfl rfl (by decide +kernel) ?_
  refine he_iload (n := 284) (i := 2) (by decide +kernel) rfl ?_
  refine he_aload (n := 285) (i := 0) (by decide +kernel) rfl ?_
  refine he_getr (n := 288) (ci := 9) (j := 36) (ns := [4213, 92]) (b := 262) hm (by decide +kernel) rfl rfl (by decide +kernel) ?_
  refine he_iload (n := 289) (i := 2) (by decide +kernel) rfl ?_
  refine hb_ld (n := 290) (kind := 64) hm (by decide +kernel) rfl rfl (.inl rfl) (by omega) (show _ < (4 : Int) by omega) hb_at1 ?_
  intro v289 hv289 lv289 uv289
  refine he_iconst (n := 291) (c := 1) (by decide +kernel) (by decide) ?_
  intro c290 hc290
  refine he_iload (n := 292) (i := 3) (by decide +kernel) rfl ?_
  refine he_ex2 (o := 15) (n := 293) (by decide +kernel) rfl ?_
  intro v292 hv292
  have ev292 : v292 = c290 <<< (x3 &&& 31) := hv292
  have bv292 := mz_i32 v292
  refine he_ex2 (o := 13) (n := 294) (by decide +kernel) rfl ?_
  intro v293 hv293
  have ev293 : v293 = v289 ||| v292 := hv293
  have bv293 := mz_i32 v293
  refine hb_sta (n := 295) (kind := 64) hm (by decide +kernel) rfl rfl (.inl rfl) (by omega) (show _ < (4 : Int) by omega) ?_
  generalize hM1 : hb_set Mc 262 (x2.toInt.toNat) v293 = M1
  have hm1 : mz_sh mz_GG M1 := by rw [← hM1]; exact hb_set_sh hm rfl hb_at1 (by omega) (by omega)
  have eM1 : ∀ b j, b ≠ 262 ∨ j ≠ x2.toInt.toNat → hv M1 b j = hv Mc b j := by intro b j h; rw [← hM1]; exact hb_set_n h
  have sM1 : hv M1 262 (x2.toInt.toNat) = v293.toInt := by rw [← hM1]; exact hb_set_v hm rfl (show _ < 4 by omega)
  have wM1 : ∀ b, b ≠ 262 → M1 b = Mc b := by intro b h; rw [← hM1]; exact hb_set_c h
  refine he_aload (n := 296) (i := 0) (by decide +kernel) rfl ?_
  refine he_getr (n := 299) (ci := 9) (j := 49) (ns := [4226, 107]) (b := 267) hm1 (by decide +kernel) rfl rfl (by decide +kernel) ?_
  refine he_iload (n := 300) (i := 1) (by decide +kernel) rfl ?_
  refine he_iconst (n := 301) (c := 3) (by decide +kernel) (by decide) ?_
  intro c300 hc300
  refine he_iadd (n := 302) (by decide +kernel) (by omega) (by omega) ?_
  intro v301 hv301
  refine he_iload (n := 304) (i := 4) (by decide +kernel) rfl ?_
  refine hb_sta (n := 305) (kind := 64) hm1 (by decide +kernel) rfl rfl (.inl rfl) (by omega) (show _ < (1680 : Int) by omega) ?_
  generalize hM2 : hb_set M1 267 (v301.toInt.toNat) x4 = M2
  have hm2 : mz_sh mz_GG M2 := by rw [← hM2]; exact hb_set_sh hm1 rfl (hm_f3 (by omega)) (by omega) (by omega)
  have eM2 : ∀ b j, b ≠ 267 ∨ j ≠ v301.toInt.toNat → hv M2 b j = hv M1 b j := by intro b j h; rw [← hM2]; exact hb_set_n h
  have sM2 : hv M2 267 (v301.toInt.toNat) = x4.toInt := by rw [← hM2]; exact hb_set_v hm1 rfl (show _ < 1680 by omega)
  have wM2 : ∀ b, b ≠ 267 → M2 b = M1 b := by intro b h; rw [← hM2]; exact hb_set_c h
  refine he_aload (n := 306) (i := 0) (by decide +kernel) rfl ?_
  refine he_getr (n := 309) (ci := 9) (j := 49) (ns := [4226, 107]) (b := 267) hm2 (by decide +kernel) rfl rfl (by decide +kernel) ?_
  refine he_iload (n := 310) (i := 1) (by decide +kernel) rfl ?_
  refine he_iconst (n := 311) (c := 4) (by decide +kernel) (by decide) ?_
  intro c310 hc310
  refine he_iadd (n := 312) (by decide +kernel) (by omega) (by omega) ?_
  intro v311 hv311
  refine he_aload (n := 313) (i := 0) (by decide +kernel) rfl ?_
  refine hb_gfd (n := 316) (ci := 9) (j := 43) (ns := [4220, 256]) hm2 (by decide +kernel) rfl rfl (by decide) rfl ?_
  intro v313 hv313 lv313 uv313
  refine hb_sta (n := 317) (kind := 64) hm2 (by decide +kernel) rfl rfl (.inl rfl) (by omega) (show _ < (1680 : Int) by omega) ?_
  generalize hM3 : hb_set M2 267 (v311.toInt.toNat) v313 = M3
  have hm3 : mz_sh mz_GG M3 := by rw [← hM3]; exact hb_set_sh hm2 rfl (hm_f4 (by omega)) (by omega) (by omega)
  have eM3 : ∀ b j, b ≠ 267 ∨ j ≠ v311.toInt.toNat → hv M3 b j = hv M2 b j := by intro b j h; rw [← hM3]; exact hb_set_n h
  have sM3 : hv M3 267 (v311.toInt.toNat) = v313.toInt := by rw [← hM3]; exact hb_set_v hm2 rfl (show _ < 1680 by omega)
  have wM3 : ∀ b, b ≠ 267 → M3 b = M2 b := by intro b h; rw [← hM3]; exact hb_set_c h
  refine he_aload (n := 318) (i := 0) (by decide +kernel) rfl ?_
  refine he_getr (n := 321) (ci := 9) (j := 49) (ns := [4226, 107]) (b := 267) hm3 (by decide +kernel) rfl rfl (by decide +kernel) ?_
  refine he_iload (n := 322) (i := 1) (by decide +kernel) rfl ?_
  refine he_iconst (n := 323) (c := 5) (by decide +kernel) (by decide) ?_
  intro c322 hc322
  refine he_iadd (n := 324) (by decide +kernel) (by omega) (by omega) ?_
  intro v323 hv323
  refine he_aload (n := 325) (i := 0) (by decide +kernel) rfl ?_
  refine hb_gfd (n := 328) (ci := 9) (j := 44) (ns := [4221, 253]) hm3 (by decide +kernel) rfl rfl (by decide) rfl ?_
  intro v325 hv325 lv325 uv325
  refine hb_sta (n := 329) (kind := 64) hm3 (by decide +kernel) rfl rfl (.inl rfl) (by omega) (show _ < (1680 : Int) by omega) ?_
  generalize hM4 : hb_set M3 267 (v323.toInt.toNat) v325 = M4
  have hm4 : mz_sh mz_GG M4 := by rw [← hM4]; exact hb_set_sh hm3 rfl (hm_f5 (by omega)) (by omega) (by omega)
  have eM4 : ∀ b j, b ≠ 267 ∨ j ≠ v323.toInt.toNat → hv M4 b j = hv M3 b j := by intro b j h; rw [← hM4]; exact hb_set_n h
  have sM4 : hv M4 267 (v323.toInt.toNat) = v325.toInt := by rw [← hM4]; exact hb_set_v hm3 rfl (show _ < 1680 by omega)
  have wM4 : ∀ b, b ≠ 267 → M4 b = M3 b := by intro b h; rw [← hM4]; exact hb_set_c h
  refine he_aload (n := 330) (i := 0) (by decide +kernel) rfl ?_
  refine he_getr (n := 333) (ci := 9) (j := 49) (ns := [4226, 107]) (b := 267) hm4 (by decide +kernel) rfl rfl (by decide +kernel) ?_
  refine he_iload (n := 334) (i := 1) (by decide +kernel) rfl ?_
  refine he_iconst (n := 336) (c := 6) (by decide +kernel) (by decide) ?_
  intro c334 hc334
  refine he_iadd (n := 337) (by decide +kernel) (by omega) (by omega) ?_
  intro v336 hv336
  refine he_aload (n := 338) (i := 0) (by decide +kernel) rfl ?_
  refine hb_gfd (n := 341) (ci := 9) (j := 45) (ns := [4222, 262]) hm4 (by decide +kernel) rfl rfl (by decide) rfl ?_
  intro v338 hv338 lv338 uv338
  have q338 : -1 ≤ v338.toInt := by rw [← hv338, eM4 _ _ (.inl (by decide)), eM3 _ _ (.inl (by decide)), eM2 _ _ (.inl (by decide)), eM1 _ _ (.inl (by decide))]; exact f45
  refine hb_sta (n := 342) (kind := 64) hm4 (by decide +kernel) rfl rfl (.inl rfl) (by omega) (show _ < (1680 : Int) by omega) ?_
  generalize hM5 : hb_set M4 267 (v336.toInt.toNat) v338 = M5
  have hm5 : mz_sh mz_GG M5 := by rw [← hM5]; exact hb_set_sh hm4 rfl (hm_f6 (by omega)) (by omega) (by omega)
  have eM5 : ∀ b j, b ≠ 267 ∨ j ≠ v336.toInt.toNat → hv M5 b j = hv M4 b j := by intro b j h; rw [← hM5]; exact hb_set_n h
  have sM5 : hv M5 267 (v336.toInt.toNat) = v338.toInt := by rw [← hM5]; exact hb_set_v hm4 rfl (show _ < 1680 by omega)
  have wM5 : ∀ b, b ≠ 267 → M5 b = M4 b := by intro b h; rw [← hM5]; exact hb_set_c h
  refine he_aload (n := 343) (i := 0) (by decide +kernel) rfl ?_
  refine he_getr (n := 346) (ci := 9) (j := 49) (ns := [4226, 107]) (b := 267) hm5 (by decide +kernel) rfl rfl (by decide +kernel) ?_
  refine he_iload (n := 347) (i := 1) (by decide +kernel) rfl ?_
  refine he_iconst (n := 349) (c := 7) (by decide +kernel) (by decide) ?_
  intro c347 hc347
  refine he_iadd (n := 350) (by decide +kernel) (by omega) (by omega) ?_
  intro v349 hv349
  refine he_aload (n := 351) (i := 0) (by decide +kernel) rfl ?_
  refine hb_gfd (n := 354) (ci := 9) (j := 46) (ns := [4223, 265]) hm5 (by decide +kernel) rfl rfl (by decide) rfl ?_
  intro v351 hv351 lv351 uv351
  have q351 : -1 ≤ v351.toInt := by rw [← hv351, eM5 _ _ (.inl (by decide)), eM4 _ _ (.inl (by decide)), eM3 _ _ (.inl (by decide)), eM2 _ _ (.inl (by decide)), eM1 _ _ (.inl (by decide))]; exact f46
  refine hb_sta (n := 355) (kind := 64) hm5 (by decide +kernel) rfl rfl (.inl rfl) (by omega) (show _ < (1680 : Int) by omega) ?_
  generalize hM6 : hb_set M5 267 (v349.toInt.toNat) v351 = M6
  have hm6 : mz_sh mz_GG M6 := by rw [← hM6]; exact hb_set_sh hm5 rfl (hm_f7 (by omega)) (by omega) (by omega)
  have eM6 : ∀ b j, b ≠ 267 ∨ j ≠ v349.toInt.toNat → hv M6 b j = hv M5 b j := by intro b j h; rw [← hM6]; exact hb_set_n h
  have sM6 : hv M6 267 (v349.toInt.toNat) = v351.toInt := by rw [← hM6]; exact hb_set_v hm5 rfl (show _ < 1680 by omega)
  have wM6 : ∀ b, b ≠ 267 → M6 b = M5 b := by intro b h; rw [← hM6]; exact hb_set_c h
  refine he_aload (n := 356) (i := 0) (by decide +kernel) rfl ?_
  refine he_getr (n := 359) (ci := 9) (j := 49) (ns := [4226, 107]) (b := 267) hm6 (by decide +kernel) rfl rfl (by decide +kernel) ?_
  refine he_iload (n := 360) (i := 1) (by decide +kernel) rfl ?_
  refine he_iconst (n := 362) (c := 8) (by decide +kernel) (by decide) ?_
  intro c360 hc360
  refine he_iadd (n := 363) (by decide +kernel) (by omega) (by omega) ?_
  intro v362 hv362
  refine he_aload (n := 364) (i := 0) (by decide +kernel) rfl ?_
  refine hb_gfd (n := 367) (ci := 9) (j := 47) (ns := [4224, 268]) hm6 (by decide +kernel) rfl rfl (by decide) rfl ?_
  intro v364 hv364 lv364 uv364
  have q364 : -1 ≤ v364.toInt := by rw [← hv364, eM6 _ _ (.inl (by decide)), eM5 _ _ (.inl (by decide)), eM4 _ _ (.inl (by decide)), eM3 _ _ (.inl (by decide)), eM2 _ _ (.inl (by decide)), eM1 _ _ (.inl (by decide))]; exact f47
  refine hb_sta (n := 368) (kind := 64) hm6 (by decide +kernel) rfl rfl (.inl rfl) (by omega) (show _ < (1680 : Int) by omega) ?_
  generalize hM7 : hb_set M6 267 (v362.toInt.toNat) v364 = M7
  have hm7 : mz_sh mz_GG M7 := by rw [← hM7]; exact hb_set_sh hm6 rfl (hm_f8 (by omega)) (by omega) (by omega)
  have eM7 : ∀ b j, b ≠ 267 ∨ j ≠ v362.toInt.toNat → hv M7 b j = hv M6 b j := by intro b j h; rw [← hM7]; exact hb_set_n h
  have sM7 : hv M7 267 (v362.toInt.toNat) = v364.toInt := by rw [← hM7]; exact hb_set_v hm6 rfl (show _ < 1680 by omega)
  have wM7 : ∀ b, b ≠ 267 → M7 b = M6 b := by intro b h; rw [← hM7]; exact hb_set_c h
  refine he_aload (n := 369) (i := 0) (by decide +kernel) rfl ?_
  refine he_getr (n := 372) (ci := 9) (j := 49) (ns := [4226, 107]) (b := 267) hm7 (by decide +kernel) rfl rfl (by decide +kernel) ?_
  refine he_iload (n := 373) (i := 1) (by decide +kernel) rfl ?_
  refine he_iconst (n := 375) (c := 9) (by decide +kernel) (by decide) ?_
  intro c373 hc373
  refine he_iadd (n := 376) (by decide +kernel) (by omega) (by omega) ?_
  intro v375 hv375
  refine he_iconst (n := 377) (c := -1) (by decide +kernel) (by decide) ?_
  intro c376 hc376
  refine hb_sta (n := 378) (kind := 64) hm7 (by decide +kernel) rfl rfl (.inl rfl) (by omega) (show _ < (1680 : Int) by omega) ?_
  generalize hM8 : hb_set M7 267 (v375.toInt.toNat) c376 = M8
  have hm8 : mz_sh mz_GG M8 := by rw [← hM8]; exact hb_set_sh hm7 rfl (hm_f9 (by omega)) (by omega) (by omega)
  have eM8 : ∀ b j, b ≠ 267 ∨ j ≠ v375.toInt.toNat → hv M8 b j = hv M7 b j := by intro b j h; rw [← hM8]; exact hb_set_n h
  have sM8 : hv M8 267 (v375.toInt.toNat) = c376.toInt := by rw [← hM8]; exact hb_set_v hm7 rfl (show _ < 1680 by omega)
  have wM8 : ∀ b, b ≠ 267 → M8 b = M7 b := by intro b h; rw [← hM8]; exact hb_set_c h
  refine he_aload (n := 379) (i := 0) (by decide +kernel) rfl ?_
  refine he_getr (n := 382) (ci := 9) (j := 49) (ns := [4226, 107]) (b := 267) hm8 (by decide +kernel) rfl rfl (by decide +kernel) ?_
  refine he_iload (n := 383) (i := 1) (by decide +kernel) rfl ?_
  refine he_iconst (n := 385) (c := 10) (by decide +kernel) (by decide) ?_
  intro c383 hc383
  refine he_iadd (n := 386) (by decide +kernel) (by omega) (by omega) ?_
  intro v385 hv385
  refine he_iconst (n := 387) (c := -1) (by decide +kernel) (by decide) ?_
  intro c386 hc386
  refine hb_sta (n := 388) (kind := 64) hm8 (by decide +kernel) rfl rfl (.inl rfl) (by omega) (show _ < (1680 : Int) by omega) ?_
  generalize hM9 : hb_set M8 267 (v385.toInt.toNat) c386 = M9
  have hm9 : mz_sh mz_GG M9 := by rw [← hM9]; exact hb_set_sh hm8 rfl (hm_f10 (by omega)) (by omega) (by omega)
  have eM9 : ∀ b j, b ≠ 267 ∨ j ≠ v385.toInt.toNat → hv M9 b j = hv M8 b j := by intro b j h; rw [← hM9]; exact hb_set_n h
  have sM9 : hv M9 267 (v385.toInt.toNat) = c386.toInt := by rw [← hM9]; exact hb_set_v hm8 rfl (show _ < 1680 by omega)
  have wM9 : ∀ b, b ≠ 267 → M9 b = M8 b := by intro b h; rw [← hM9]; exact hb_set_c h
  refine he_aload (n := 389) (i := 0) (by decide +kernel) rfl ?_
  refine he_getr (n := 392) (ci := 9) (j := 49) (ns := [4226, 107]) (b := 267) hm9 (by decide +kernel) rfl rfl (by decide +kernel) ?_
  refine he_iload (n := 393) (i := 1) (by decide +kernel) rfl ?_
  refine he_iconst (n := 395) (c := 11) (by decide +kernel) (by decide) ?_
  intro c393 hc393
  refine he_iadd (n := 396) (by decide +kernel) (by omega) (by omega) ?_
  intro v395 hv395
  refine he_iconst (n := 397) (c := -1) (by decide +kernel) (by decide) ?_
  intro c396 hc396
  refine hb_sta (n := 398) (kind := 64) hm9 (by decide +kernel) rfl rfl (.inl rfl) (by omega) (show _ < (1680 : Int) by omega) ?_
  generalize hM10 : hb_set M9 267 (v395.toInt.toNat) c396 = M10
  have hm10 : mz_sh mz_GG M10 := by rw [← hM10]; exact hb_set_sh hm9 rfl (hm_f11 (by omega)) (by omega) (by omega)
  have eM10 : ∀ b j, b ≠ 267 ∨ j ≠ v395.toInt.toNat → hv M10 b j = hv M9 b j := by intro b j h; rw [← hM10]; exact hb_set_n h
  have sM10 : hv M10 267 (v395.toInt.toNat) = c396.toInt := by rw [← hM10]; exact hb_set_v hm9 rfl (show _ < 1680 by omega)
  have wM10 : ∀ b, b ≠ 267 → M10 b = M9 b := by intro b h; rw [← hM10]; exact hb_set_c h
  refine he_aload (n := 399) (i := 0) (by decide +kernel) rfl ?_
  refine he_iload (n := 400) (i := 1) (by decide +kernel) rfl ?_
  refine he_iconst (n := 401) (c := 0) (by decide +kernel) (by decide) ?_
  intro c400 hc400
  have eN : ∀ a i, a ≠ 262 → a ≠ 267 → hv M10 a i = hv Mc a i := by
    intro a i h1 h2
    rw [eM10 _ _ (.inl h2), eM9 _ _ (.inl h2), eM8 _ _ (.inl h2), eM7 _ _ (.inl h2), eM6 _ _ (.inl h2), eM5 _ _ (.inl h2), eM4 _ _ (.inl h2), eM3 _ _ (.inl h2), eM2 _ _ (.inl h2), eM1 _ _ (.inl h1)]
  have wN : ∀ a, a ≠ 262 → a ≠ 267 → M10 a = Mc a := by
    intro a h1 h2
    rw [wM10 _ h2, wM9 _ h2, wM8 _ h2, wM7 _ h2, wM6 _ h2, wM5 _ h2, wM4 _ h2, wM3 _ h2, wM2 _ h2, wM1 _ h1]
  have f7 : ∀ i, i < 12 * j + 3 → hv M10 267 i = hv M 267 i := by
    intro i hi
    rw [eM10 _ _ (.inr (by omega)), eM9 _ _ (.inr (by omega)), eM8 _ _ (.inr (by omega)), eM7 _ _ (.inr (by omega)), eM6 _ _ (.inr (by omega)), eM5 _ _ (.inr (by omega)), eM4 _ _ (.inr (by omega)), eM3 _ _ (.inr (by omega)), eM2 _ _ (.inr (by omega)), eM1 _ _ (.inl (by decide)), hb_vc hf7]
  have b2 : ∀ i, i ≠ k → hv M10 262 i = hv Mc 262 i := by
    intro i hi
    rw [eM10 _ _ (.inl (by decide)), eM9 _ _ (.inl (by decide)), eM8 _ _ (.inl (by decide)), eM7 _ _ (.inl (by decide)), eM6 _ _ (.inl (by decide)), eM5 _ _ (.inl (by decide)), eM4 _ _ (.inl (by decide)), eM3 _ _ (.inl (by decide)), eM2 _ _ (.inl (by decide)), eM1 _ _ (.inr (by omega))]
  have b3 : ∀ i, i < 32 → hm_bit (hv M10 262 k) i = (hm_bit (hv Mc 262 k) i || decide (i = n)) := by
    intro i hi
    have e1 : hv M10 262 k = v293.toInt := by
      rw [eM10 _ _ (.inl (by decide)), eM9 _ _ (.inl (by decide)), eM8 _ _ (.inl (by decide)), eM7 _ _ (.inl (by decide)), eM6 _ _ (.inl (by decide)), eM5 _ _ (.inl (by decide)), eM4 _ _ (.inl (by decide)), eM3 _ _ (.inl (by decide)), eM2 _ _ (.inl (by decide)), show k = x2.toInt.toNat by omega]
      exact sM1
    have e2 : hv Mc 262 k = v289.toInt := by
      rw [← hv289, show x2.toInt.toNat = k by omega]
    rw [e1, e2, hm_set (n := x3) (by omega) (by omega) hc290 ev292 ev293 i hi, show x3.toInt.toNat = n by omega]
  have hS : hm_S Mc M10 := by
    refine ⟨fun a _ hw => wN a ?_ ?_, fun a ha => wN a (by omega) (by omega), ?_⟩
    · rintro rfl
      cases hw
    · rintro rfl
      cases hw
    · refine hb_same_of (fun t => decide (t.1 ≠ 262 ∧ t.1 ≠ 267)) ?_ (by decide +kernel)
      intro t ht
      obtain ⟨h1, h2⟩ := of_decide_eq_true ht
      exact hb_vc (wN _ h1 h2) _
  have hxN : HX M10 := by
    intro t
    refine hxk_c (fun a i hs => ?_) (hx t)
    by_cases h2 : a = 262 ∨ a = 267
    · rw [hm_sp t a i (by omega)] at hs
      cases hs
    · exact eN a i (by omega) (by omega)
  have hua : hm_bit (hv Mc 262 k) n = false := by rw [hR.2.1]; exact hu
  have hT : ∀ M' : Nat → mq_C, hm_E M10 M' → (∀ i, i < 12 * j → hv M' 267 i = hv M10 267 i) → hm_T j k n M M' := by
    intro M' hE hF
    refine ⟨Mc, hR, hua, hm_St hS (hm_ES hE), fun i hi => ?_, fun i hi => ?_, fun i => ?_, fun i hi => ?_, hm_i hm hk4, fun i => ?_⟩
    · rw [hb_vc (hE.1 262 (by decide) (by decide)), b2 i hi]
    · rw [hb_vc (hE.1 262 (by decide) (by decide)), b3 i hi]
    · rw [hb_vc (hE.1 261 (by decide) (by decide)), hb_vc (wN 261 (by decide) (by decide))]
    · rw [hF i hi, f7 i (by omega), hb_vc hf7]
    · rw [hb_vc (hE.1 261 (by decide) (by decide)), hb_vc (wN 261 (by decide) (by decide)), hb_vc hf1]
  refine he_v2 (n := 404) (j := 153) (ci := 9) (mx := 7) (ns := [6082, 6084, 86, 315]) (by decide +kernel) ((hb_kd (a := 234) hm10 rfl).trans rfl) (by decide) (by show 3 ≤ 7; omega) ?_
  rw [mq_e153]
  refine hm_goOn (d := d) (j := j) (k := k) (n := n) hm10 hxN (by rw [eN _ _ (by decide) (by decide)]; exact hj) hj1 p1 (by rw [f7 _ (by omega)]; exact hk) (by rw [f7 _ (by omega)]; exact hn) (by rw [hb_vc (wN 261 (by decide) (by decide)), hb_vc hf1]; exact hdf) (by omega) (by omega) ?_ ?_
  · intro M' a1 a2 a3 a4
    show mq_R mq_PP (d + 2) 152 404 _ [] (M', z, u) Q
    refine he_ret (by decide +kernel) ?_
    obtain ⟨c1, c2, c3, c4, c5, c6, c7, c8⟩ := a3
    exact KA M' a1 (hm_Ex a2 hxN) (hT M' a2 c8) ⟨c1, c2, c3, by rw [c4, f7 _ (by omega)], by rw [c5, f7 _ (by omega)], by rw [c6, f7 _ (by omega)], c7, fun i hi => by rw [c8 i hi, f7 i (by omega)]⟩
  · intro M' a1 a2 a3 a4 a5
    show mq_R mq_PP (d + 2) 152 404 _ [] (M', z, u) Q
    refine he_ret (by decide +kernel) ?_
    exact KF M' a1 a2 (hm_Tfin hk4 hn32 (hT M10 ⟨fun _ _ _ => rfl, fun _ _ _ _ _ => rfl⟩ (fun _ _ => rfl)) hm_relr a3 a1) a4 a5
theorem hm_t259 {o9 : Option Value} {d z u j k n : Nat} {Q : (Option Value ⊕ Nat) → mq_S → Prop} {M Mc : Nat → mq_C} {x1 x2 x3 x4 x5 x6 x7 x8 : Int32} (hC : ∀ c ∈ mz_Cs, c.2 < 14 → mz_Ct mz_GG mq_PP HX c.1 c.2) (hd : 10 ≤ d) (hz : 272 ≤ z) (hc : hm_C j k M Mc) (hj1 : j < 139) (p1 : x1.toInt = 12 * (j : Int)) (hk : hv M 267 (12 * j) = (k : Int)) (hn : hv M 267 (12 * j + 1) = (n : Int)) (hk4 : k < 4) (hn32 : n < 32) (hdf : hv M 261 (32 * k + n) = -1) (hu : hm_bit (hv M 262 k) n = false) (q2 : x2.toInt = (k : Int)) (q3 : x3.toInt = (n : Int)) (q4 : 0 ≤ x4.toInt) (q4' : x4.toInt ≤ 3)
    (KF : ∀ M' : Nat → mq_C, mz_sh mz_GG M' → HX M' → hm_rel k j M M' → hv M' 234 48 = (j : Int) → hm_w M' → Q (.inl none) (M', z, u))
    (KA : ∀ M' : Nat → mq_C, mz_sh mz_GG M' → HX M' → hm_T j k n M M' → hm_N j M M' → Q (.inl none) (M', z, u)) : mq_R mq_PP (d + 2) 152 259 [some (.ref 234), some (.int x1), some (.int x2), some (.int x3), some (.int x4), some (.int x5), some (.int x6), some (.int x7), some (.int x8), o9] [] (Mc, z, u) Q := by
  obtain ⟨hm, hx, hR, hj, hf7, hf1⟩ := id hc
  refine he_aload (n := 260) (i := 0) (by decide +kernel) rfl ?_
  refine he_iload (n := 261) (i := 3) (by decide +kernel) rfl ?_
  refine he_v1 (n := 264) (j := 146) (ci := 9) (mx := 4) (ns := [6074, 6076, 84, 312]) (by decide +kernel) ((hb_kd (a := 234) hm rfl).trans rfl) (by decide) (by show 2 ≤ 4; omega) ?_
  rw [mq_e146]
  refine hz_R hz_model (by decide) hm ?_
  refine hm_ff (fun c hc h => hC c hc (by omega)) (by omega) hz hm hx ?_
  intro Mf rf hmf hxf kf1 kf2 kf3 l1 l2 l3 hdp
  have hcf : hm_C j k M Mf := hm_Cf (q' := mz_q177) hc hmf hxf kf1 kf2 kf3 hdp (by decide) (by decide) (by decide)
  obtain ⟨_, _, hRf, hjf, _, _⟩ := id hcf
  show mq_R mq_PP (d + 2) 152 264 _ [.int rf] (Mf, z, u) Q
  refine he_istore (n := 266) (i := 9) (by decide +kernel) rfl ?_
  refine he_iload (n := 268) (i := 9) (by decide +kernel) rfl ?_
  by_cases h268 : rf.toInt ≤ 0
  · skip
    refine he_ifle_t (n := 271) (t := 279) (by decide +kernel) (by omega) ?_
    obtain ⟨f45, f46, f47⟩ := l3 (by omega)
    exact hm_t279 hC hd hz hcf hj1 p1 hk hn hk4 hn32 hdf hu q2 q3 q4 q4' f45 f46 f47 KF KA
  · skip
    refine he_ifle_f (n := 271) (t := 279) (by decide +kernel) (by omega) ?_
    refine he_aload (n := 272) (i := 0) (by decide +kernel) rfl ?_
    refine he_iload (n := 273) (i := 1) (by decide +kernel) rfl ?_
    refine he_iload (n := 275) (i := 9) (by decide +kernel) rfl ?_
    refine he_v2 (n := 278) (j := 149) (ci := 9) (mx := 3) (ns := [6018, 6020, 71, 300]) (by decide +kernel) ((hb_kd (a := 234) hmf rfl).trans rfl) (by decide) (by show 3 ≤ 3; omega) ?_
    rw [mq_e149]
    refine hm_fails (d := d) (j := j) hmf hjf (by omega) (by omega) (by omega) (by omega) ?_
    intro M' g1 g2 g3 g4 g5
    show mq_R mq_PP (d + 2) 152 278 _ [] (M', z, u) Q
    refine he_ret (by decide +kernel) ?_
    exact KF M' g1 (hm_Ex g2 hxf) (hm_relt (Nat.le_refl _) (Nat.le_refl _) hRf (hm_relE g2 (fun i _ => hb_vc g3 i))) g4 (.inr g5)
theorem hm_t239 {o9 : Option Value} {d z u j k n : Nat} {Q : (Option Value ⊕ Nat) → mq_S → Prop} {M Mc : Nat → mq_C} {x1 x2 x3 x4 x5 x6 x7 x8 : Int32} (hC : ∀ c ∈ mz_Cs, c.2 < 14 → mz_Ct mz_GG mq_PP HX c.1 c.2) (hd : 10 ≤ d) (hz : 272 ≤ z) (hc : hm_C j k M Mc) (hj1 : j < 139) (p1 : x1.toInt = 12 * (j : Int)) (hk : hv M 267 (12 * j) = (k : Int)) (hn : hv M 267 (12 * j + 1) = (n : Int)) (hk4 : k < 4) (hn32 : n < 32) (hdf : hv M 261 (32 * k + n) = -1) (hu : hm_bit (hv M 262 k) n = false) (q2 : x2.toInt = (k : Int)) (q3 : x3.toInt = (n : Int)) (q4 : 0 ≤ x4.toInt) (q4' : x4.toInt ≤ 3)
    (KF : ∀ M' : Nat → mq_C, mz_sh mz_GG M' → HX M' → hm_rel k j M M' → hv M' 234 48 = (j : Int) → hm_w M' → Q (.inl none) (M', z, u))
    (KA : ∀ M' : Nat → mq_C, mz_sh mz_GG M' → HX M' → hm_T j k n M M' → hm_N j M M' → Q (.inl none) (M', z, u)) : mq_R mq_PP (d + 2) 152 239 [some (.ref 234), some (.int x1), some (.int x2), some (.int x3), some (.int x4), some (.int x5), some (.int x6), some (.int x7), some (.int x8), o9] [] (Mc, z, u) Q := by
  obtain ⟨hm, hx, hR, hj, hf7, hf1⟩ := id hc
  refine he_iload (n := 240) (i := 3) (by decide +kernel) rfl ?_
  refine he_iconst (n := 242) (c := 8) (by decide +kernel) (by decide) ?_
  intro c240 hc240
  by_cases h242 : c240.toInt ≤ x3.toInt
  · skip
    refine he_cmpge_t (n := 245) (t := 259) (by decide +kernel) (by omega) ?_
    exact hm_t259 hC hd hz hc hj1 p1 hk hn hk4 hn32 hdf hu q2 q3 q4 q4' KF KA
  · skip
    refine he_cmpge_f (n := 245) (t := 259) (by decide +kernel) (by omega) ?_
    refine he_iload (n := 246) (i := 2) (by decide +kernel) rfl ?_
    by_cases h246 : x2.toInt ≤ 0
    · skip
      refine he_ifle_t (n := 249) (t := 259) (by decide +kernel) (by omega) ?_
      exact hm_t259 hC hd hz hc hj1 p1 hk hn hk4 hn32 hdf hu q2 q3 q4 q4' KF KA
    · skip
      refine he_ifle_f (n := 249) (t := 259) (by decide +kernel) (by omega) ?_
      refine he_aload (n := 250) (i := 0) (by decide +kernel) rfl ?_
      refine he_iload (n := 251) (i := 1) (by decide +kernel) rfl ?_
      refine he_iconst (n := 253) (c := 11) (by decide +kernel) (by decide) ?_
      intro c251 hc251
      refine he_v2 (n := 256) (j := 149) (ci := 9) (mx := 3) (ns := [6018, 6020, 71, 300]) (by decide +kernel) ((hb_kd (a := 234) hm rfl).trans rfl) (by decide) (by show 3 ≤ 3; omega) ?_
      rw [mq_e149]
      refine hm_fails (d := d) (j := j) hm hj (by omega) (by omega) (by omega) (by omega) ?_
      intro M' g1 g2 g3 g4 g5
      show mq_R mq_PP (d + 2) 152 256 _ [] (M', z, u) Q
      refine he_goto (t := 404) (by decide +kernel) ?_
      refine he_ret (by decide +kernel) ?_
      exact KF M' g1 (hm_Ex g2 hx) (hm_relt (Nat.le_refl _) (Nat.le_refl _) hR (hm_relE g2 (fun i _ => hb_vc g3 i))) g4 (.inr g5)
theorem hm_t219_0 {o9 : Option Value} {d z u j k n : Nat} {Q : (Option Value ⊕ Nat) → mq_S → Prop} {M Mc : Nat → mq_C} {x1 x2 x3 x4 x5 x6 x7 x8 : Int32} (hC : ∀ c ∈ mz_Cs, c.2 < 14 → mz_Ct mz_GG mq_PP HX c.1 c.2) (hd : 10 ≤ d) (hz : 272 ≤ z) (hc : hm_C j k M Mc) (hj1 : j < 139) (p1 : x1.toInt = 12 * (j : Int)) (hk : hv M 267 (12 * j) = (k : Int)) (hn : hv M 267 (12 * j + 1) = (n : Int)) (hk4 : k < 4) (hn32 : n < 32) (hdf : hv M 261 (32 * k + n) = -1) (hu : hm_bit (hv M 262 k) n = false) (q2 : x2.toInt = (k : Int)) (q3 : x3.toInt = (n : Int)) (q4 : x4.toInt = 0) (q5 : 0 ≤ x5.toInt) (q5' : x5.toInt < hv Mc 238 0)
    (KF : ∀ M' : Nat → mq_C, mz_sh mz_GG M' → HX M' → hm_rel k j M M' → hv M' 234 48 = (j : Int) → hm_w M' → Q (.inl none) (M', z, u))
    (KA : ∀ M' : Nat → mq_C, mz_sh mz_GG M' → HX M' → hm_T j k n M M' → hm_N j M M' → Q (.inl none) (M', z, u)) : mq_R mq_PP (d + 2) 152 219 [some (.ref 234), some (.int x1), some (.int x2), some (.int x3), some (.int x4), some (.int x5), some (.int x6), some (.int x7), some (.int x8), o9] [] (Mc, z, u) Q := by
  obtain ⟨hm, hx, hR, hj, hf7, hf1⟩ := id hc
  refine he_aload (n := 220) (i := 0) (by decide +kernel) rfl ?_
  refine he_iload (n := 222) (i := 4) (by decide +kernel) rfl ?_
  refine he_iload (n := 224) (i := 5) (by decide +kernel) rfl ?_
  refine he_v2 (n := 227) (j := 135) (ci := 9) (mx := 5) (ns := [6054, 6056, 80, 237]) (by decide +kernel) ((hb_kd (a := 234) hm rfl).trans rfl) (by decide) (by show 3 ≤ 5; omega) ?_
  rw [mq_e135]
  refine hz_R hz_model (by decide) hm ?_
  refine hu_unpacked0 (hC (mz_q145, 7) (List.mem_of_getElem? (show mz_Cs[145]? = _ from rfl)) (by decide)) (by omega) hz hm hx (by omega) (by omega) (by omega) (by omega) ?_
  intro Mu ru hmu hxu kf1 kf2 kf3 l1 l2 hdp
  have hcu : hm_C j k M Mu := hm_Cf (q' := mz_q145) hc hmu hxu kf1 kf2 kf3 hdp (by decide) (by decide) (by decide)
  obtain ⟨_, _, hRu, hju, _, _⟩ := id hcu
  show mq_R mq_PP (d + 2) 152 227 _ [.int ru] (Mu, z, u) Q
  by_cases h227 : ¬ ru.toInt = 0
  · skip
    refine he_ifne_t (n := 230) (t := 239) (by decide +kernel) (by omega) ?_
    exact hm_t239 hC hd hz hcu hj1 p1 hk hn hk4 hn32 hdf hu q2 q3 (by omega) (by omega) KF KA
  · skip
    refine he_ifne_f (n := 230) (t := 239) (by decide +kernel) (by omega) ?_
    refine he_aload (n := 231) (i := 0) (by decide +kernel) rfl ?_
    refine he_iload (n := 232) (i := 1) (by decide +kernel) rfl ?_
    refine he_iconst (n := 233) (c := 2) (by decide +kernel) (by decide) ?_
    intro c232 hc232
    refine he_v2 (n := 236) (j := 149) (ci := 9) (mx := 3) (ns := [6018, 6020, 71, 300]) (by decide +kernel) ((hb_kd (a := 234) hmu rfl).trans rfl) (by decide) (by show 3 ≤ 3; omega) ?_
    rw [mq_e149]
    refine hm_fails (d := d) (j := j) hmu hju (by omega) (by omega) (by omega) (by omega) ?_
    intro M' g1 g2 g3 g4 g5
    show mq_R mq_PP (d + 2) 152 236 _ [] (M', z, u) Q
    refine he_goto (t := 404) (by decide +kernel) ?_
    refine he_ret (by decide +kernel) ?_
    exact KF M' g1 (hm_Ex g2 hxu) (hm_relt (Nat.le_refl _) (Nat.le_refl _) hRu (hm_relE g2 (fun i _ => hb_vc g3 i))) g4 (.inr g5)
theorem hm_t219_1 {o9 : Option Value} {d z u j k n : Nat} {Q : (Option Value ⊕ Nat) → mq_S → Prop} {M Mc : Nat → mq_C} {x1 x2 x3 x4 x5 x6 x7 x8 : Int32} (hC : ∀ c ∈ mz_Cs, c.2 < 14 → mz_Ct mz_GG mq_PP HX c.1 c.2) (hd : 10 ≤ d) (hz : 272 ≤ z) (hc : hm_C j k M Mc) (hj1 : j < 139) (p1 : x1.toInt = 12 * (j : Int)) (hk : hv M 267 (12 * j) = (k : Int)) (hn : hv M 267 (12 * j + 1) = (n : Int)) (hk4 : k < 4) (hn32 : n < 32) (hdf : hv M 261 (32 * k + n) = -1) (hu : hm_bit (hv M 262 k) n = false) (q2 : x2.toInt = (k : Int)) (q3 : x3.toInt = (n : Int)) (q4 : x4.toInt = 1) (q5 : 0 ≤ x5.toInt) (q5' : x5.toInt < hv Mc 238 1)
    (KF : ∀ M' : Nat → mq_C, mz_sh mz_GG M' → HX M' → hm_rel k j M M' → hv M' 234 48 = (j : Int) → hm_w M' → Q (.inl none) (M', z, u))
    (KA : ∀ M' : Nat → mq_C, mz_sh mz_GG M' → HX M' → hm_T j k n M M' → hm_N j M M' → Q (.inl none) (M', z, u)) : mq_R mq_PP (d + 2) 152 219 [some (.ref 234), some (.int x1), some (.int x2), some (.int x3), some (.int x4), some (.int x5), some (.int x6), some (.int x7), some (.int x8), o9] [] (Mc, z, u) Q := by
  obtain ⟨hm, hx, hR, hj, hf7, hf1⟩ := id hc
  refine he_aload (n := 220) (i := 0) (by decide +kernel) rfl ?_
  refine he_iload (n := 222) (i := 4) (by decide +kernel) rfl ?_
  refine he_iload (n := 224) (i := 5) (by decide +kernel) rfl ?_
  refine he_v2 (n := 227) (j := 135) (ci := 9) (mx := 5) (ns := [6054, 6056, 80, 237]) (by decide +kernel) ((hb_kd (a := 234) hm rfl).trans rfl) (by decide) (by show 3 ≤ 5; omega) ?_
  rw [mq_e135]
  refine hz_R hz_model (by decide) hm ?_
  refine hu_unpacked1 (hC (mz_q152, 7) (List.mem_of_getElem? (show mz_Cs[152]? = _ from rfl)) (by decide)) (by omega) hz hm hx (by omega) (by omega) (by omega) (by omega) ?_
  intro Mu ru hmu hxu kf1 kf2 kf3 l1 l2 hdp
  have hcu : hm_C j k M Mu := hm_Cf (q' := mz_q152) hc hmu hxu kf1 kf2 kf3 hdp (by decide) (by decide) (by decide)
  obtain ⟨_, _, hRu, hju, _, _⟩ := id hcu
  show mq_R mq_PP (d + 2) 152 227 _ [.int ru] (Mu, z, u) Q
  by_cases h227 : ¬ ru.toInt = 0
  · skip
    refine he_ifne_t (n := 230) (t := 239) (by decide +kernel) (by omega) ?_
    exact hm_t239 hC hd hz hcu hj1 p1 hk hn hk4 hn32 hdf hu q2 q3 (by omega) (by omega) KF KA
  · skip
    refine he_ifne_f (n := 230) (t := 239) (by decide +kernel) (by omega) ?_
    refine he_aload (n := 231) (i := 0) (by decide +kernel) rfl ?_
    refine he_iload (n := 232) (i := 1) (by decide +kernel) rfl ?_
    refine he_iconst (n := 233) (c := 2) (by decide +kernel) (by decide) ?_
    intro c232 hc232
    refine he_v2 (n := 236) (j := 149) (ci := 9) (mx := 3) (ns := [6018, 6020, 71, 300]) (by decide +kernel) ((hb_kd (a := 234) hmu rfl).trans rfl) (by decide) (by show 3 ≤ 3; omega) ?_
    rw [mq_e149]
    refine hm_fails (d := d) (j := j) hmu hju (by omega) (by omega) (by omega) (by omega) ?_
    intro M' g1 g2 g3 g4 g5
    show mq_R mq_PP (d + 2) 152 236 _ [] (M', z, u) Q
    refine he_goto (t := 404) (by decide +kernel) ?_
    refine he_ret (by decide +kernel) ?_
    exact KF M' g1 (hm_Ex g2 hxu) (hm_relt (Nat.le_refl _) (Nat.le_refl _) hRu (hm_relE g2 (fun i _ => hb_vc g3 i))) g4 (.inr g5)
theorem hm_t219_2 {o9 : Option Value} {d z u j k n : Nat} {Q : (Option Value ⊕ Nat) → mq_S → Prop} {M Mc : Nat → mq_C} {x1 x2 x3 x4 x5 x6 x7 x8 : Int32} (hC : ∀ c ∈ mz_Cs, c.2 < 14 → mz_Ct mz_GG mq_PP HX c.1 c.2) (hd : 10 ≤ d) (hz : 272 ≤ z) (hc : hm_C j k M Mc) (hj1 : j < 139) (p1 : x1.toInt = 12 * (j : Int)) (hk : hv M 267 (12 * j) = (k : Int)) (hn : hv M 267 (12 * j + 1) = (n : Int)) (hk4 : k < 4) (hn32 : n < 32) (hdf : hv M 261 (32 * k + n) = -1) (hu : hm_bit (hv M 262 k) n = false) (q2 : x2.toInt = (k : Int)) (q3 : x3.toInt = (n : Int)) (q4 : x4.toInt = 2) (q5 : 0 ≤ x5.toInt) (q5' : x5.toInt < hv Mc 238 2)
    (KF : ∀ M' : Nat → mq_C, mz_sh mz_GG M' → HX M' → hm_rel k j M M' → hv M' 234 48 = (j : Int) → hm_w M' → Q (.inl none) (M', z, u))
    (KA : ∀ M' : Nat → mq_C, mz_sh mz_GG M' → HX M' → hm_T j k n M M' → hm_N j M M' → Q (.inl none) (M', z, u)) : mq_R mq_PP (d + 2) 152 219 [some (.ref 234), some (.int x1), some (.int x2), some (.int x3), some (.int x4), some (.int x5), some (.int x6), some (.int x7), some (.int x8), o9] [] (Mc, z, u) Q := by
  obtain ⟨hm, hx, hR, hj, hf7, hf1⟩ := id hc
  refine he_aload (n := 220) (i := 0) (by decide +kernel) rfl ?_
  refine he_iload (n := 222) (i := 4) (by decide +kernel) rfl ?_
  refine he_iload (n := 224) (i := 5) (by decide +kernel) rfl ?_
  refine he_v2 (n := 227) (j := 135) (ci := 9) (mx := 5) (ns := [6054, 6056, 80, 237]) (by decide +kernel) ((hb_kd (a := 234) hm rfl).trans rfl) (by decide) (by show 3 ≤ 5; omega) ?_
  rw [mq_e135]
  refine hz_R hz_model (by decide) hm ?_
  refine hu_unpacked2 (hC (mz_q159, 7) (List.mem_of_getElem? (show mz_Cs[159]? = _ from rfl)) (by decide)) (by omega) hz hm hx (by omega) (by omega) (by omega) (by omega) ?_
  intro Mu ru hmu hxu kf1 kf2 kf3 l1 l2 hdp
  have hcu : hm_C j k M Mu := hm_Cf (q' := mz_q159) hc hmu hxu kf1 kf2 kf3 hdp (by decide) (by decide) (by decide)
  obtain ⟨_, _, hRu, hju, _, _⟩ := id hcu
  show mq_R mq_PP (d + 2) 152 227 _ [.int ru] (Mu, z, u) Q
  by_cases h227 : ¬ ru.toInt = 0
  · skip
    refine he_ifne_t (n := 230) (t := 239) (by decide +kernel) (by omega) ?_
    exact hm_t239 hC hd hz hcu hj1 p1 hk hn hk4 hn32 hdf hu q2 q3 (by omega) (by omega) KF KA
  · skip
    refine he_ifne_f (n := 230) (t := 239) (by decide +kernel) (by omega) ?_
    refine he_aload (n := 231) (i := 0) (by decide +kernel) rfl ?_
    refine he_iload (n := 232) (i := 1) (by decide +kernel) rfl ?_
    refine he_iconst (n := 233) (c := 2) (by decide +kernel) (by decide) ?_
    intro c232 hc232
    refine he_v2 (n := 236) (j := 149) (ci := 9) (mx := 3) (ns := [6018, 6020, 71, 300]) (by decide +kernel) ((hb_kd (a := 234) hmu rfl).trans rfl) (by decide) (by show 3 ≤ 3; omega) ?_
    rw [mq_e149]
    refine hm_fails (d := d) (j := j) hmu hju (by omega) (by omega) (by omega) (by omega) ?_
    intro M' g1 g2 g3 g4 g5
    show mq_R mq_PP (d + 2) 152 236 _ [] (M', z, u) Q
    refine he_goto (t := 404) (by decide +kernel) ?_
    refine he_ret (by decide +kernel) ?_
    exact KF M' g1 (hm_Ex g2 hxu) (hm_relt (Nat.le_refl _) (Nat.le_refl _) hRu (hm_relE g2 (fun i _ => hb_vc g3 i))) g4 (.inr g5)
theorem hm_t219_3 {o9 : Option Value} {d z u j k n : Nat} {Q : (Option Value ⊕ Nat) → mq_S → Prop} {M Mc : Nat → mq_C} {x1 x2 x3 x4 x5 x6 x7 x8 : Int32} (hC : ∀ c ∈ mz_Cs, c.2 < 14 → mz_Ct mz_GG mq_PP HX c.1 c.2) (hd : 10 ≤ d) (hz : 272 ≤ z) (hc : hm_C j k M Mc) (hj1 : j < 139) (p1 : x1.toInt = 12 * (j : Int)) (hk : hv M 267 (12 * j) = (k : Int)) (hn : hv M 267 (12 * j + 1) = (n : Int)) (hk4 : k < 4) (hn32 : n < 32) (hdf : hv M 261 (32 * k + n) = -1) (hu : hm_bit (hv M 262 k) n = false) (q2 : x2.toInt = (k : Int)) (q3 : x3.toInt = (n : Int)) (q4 : x4.toInt = 3) (q5 : 0 ≤ x5.toInt) (q5' : x5.toInt < hv Mc 238 3)
    (KF : ∀ M' : Nat → mq_C, mz_sh mz_GG M' → HX M' → hm_rel k j M M' → hv M' 234 48 = (j : Int) → hm_w M' → Q (.inl none) (M', z, u))
    (KA : ∀ M' : Nat → mq_C, mz_sh mz_GG M' → HX M' → hm_T j k n M M' → hm_N j M M' → Q (.inl none) (M', z, u)) : mq_R mq_PP (d + 2) 152 219 [some (.ref 234), some (.int x1), some (.int x2), some (.int x3), some (.int x4), some (.int x5), some (.int x6), some (.int x7), some (.int x8), o9] [] (Mc, z, u) Q := by
  obtain ⟨hm, hx, hR, hj, hf7, hf1⟩ := id hc
  refine he_aload (n := 220) (i := 0) (by decide +kernel) rfl ?_
  refine he_iload (n := 222) (i := 4) (by decide +kernel) rfl ?_
  refine he_iload (n := 224) (i := 5) (by decide +kernel) rfl ?_
  refine he_v2 (n := 227) (j := 135) (ci := 9) (mx := 5) (ns := [6054, 6056, 80, 237]) (by decide +kernel) ((hb_kd (a := 234) hm rfl).trans rfl) (by decide) (by show 3 ≤ 5; omega) ?_
  rw [mq_e135]
  refine hz_R hz_model (by decide) hm ?_
  refine hu_unpacked3 (hC (mz_q166, 7) (List.mem_of_getElem? (show mz_Cs[166]? = _ from rfl)) (by decide)) (by omega) hz hm hx (by omega) (by omega) (by omega) (by omega) ?_
  intro Mu ru hmu hxu kf1 kf2 kf3 l1 l2 hdp
  have hcu : hm_C j k M Mu := hm_Cf (q' := mz_q166) hc hmu hxu kf1 kf2 kf3 hdp (by decide) (by decide) (by decide)
  obtain ⟨_, _, hRu, hju, _, _⟩ := id hcu
  show mq_R mq_PP (d + 2) 152 227 _ [.int ru] (Mu, z, u) Q
  by_cases h227 : ¬ ru.toInt = 0
  · skip
    refine he_ifne_t (n := 230) (t := 239) (by decide +kernel) (by omega) ?_
    exact hm_t239 hC hd hz hcu hj1 p1 hk hn hk4 hn32 hdf hu q2 q3 (by omega) (by omega) KF KA
  · skip
    refine he_ifne_f (n := 230) (t := 239) (by decide +kernel) (by omega) ?_
    refine he_aload (n := 231) (i := 0) (by decide +kernel) rfl ?_
    refine he_iload (n := 232) (i := 1) (by decide +kernel) rfl ?_
    refine he_iconst (n := 233) (c := 2) (by decide +kernel) (by decide) ?_
    intro c232 hc232
    refine he_v2 (n := 236) (j := 149) (ci := 9) (mx := 3) (ns := [6018, 6020, 71, 300]) (by decide +kernel) ((hb_kd (a := 234) hmu rfl).trans rfl) (by decide) (by show 3 ≤ 3; omega) ?_
    rw [mq_e149]
    refine hm_fails (d := d) (j := j) hmu hju (by omega) (by omega) (by omega) (by omega) ?_
    intro M' g1 g2 g3 g4 g5
    show mq_R mq_PP (d + 2) 152 236 _ [] (M', z, u) Q
    refine he_goto (t := 404) (by decide +kernel) ?_
    refine he_ret (by decide +kernel) ?_
    exact KF M' g1 (hm_Ex g2 hxu) (hm_relt (Nat.le_refl _) (Nat.le_refl _) hRu (hm_relE g2 (fun i _ => hb_vc g3 i))) g4 (.inr g5)
theorem hm_t219 {o9 : Option Value} {d z u j k n : Nat} {Q : (Option Value ⊕ Nat) → mq_S → Prop} {M Mc : Nat → mq_C} {x1 x2 x3 x4 x5 x6 x7 x8 : Int32} (hC : ∀ c ∈ mz_Cs, c.2 < 14 → mz_Ct mz_GG mq_PP HX c.1 c.2) (hd : 10 ≤ d) (hz : 272 ≤ z) (hc : hm_C j k M Mc) (hj1 : j < 139) (p1 : x1.toInt = 12 * (j : Int)) (hk : hv M 267 (12 * j) = (k : Int)) (hn : hv M 267 (12 * j + 1) = (n : Int)) (hk4 : k < 4) (hn32 : n < 32) (hdf : hv M 261 (32 * k + n) = -1) (hu : hm_bit (hv M 262 k) n = false) (q2 : x2.toInt = (k : Int)) (q3 : x3.toInt = (n : Int)) (q4 : 0 ≤ x4.toInt) (q4' : x4.toInt ≤ 3) (q5 : 0 ≤ x5.toInt) (q5' : x5.toInt < hv Mc 238 x4.toInt.toNat)
    (KF : ∀ M' : Nat → mq_C, mz_sh mz_GG M' → HX M' → hm_rel k j M M' → hv M' 234 48 = (j : Int) → hm_w M' → Q (.inl none) (M', z, u))
    (KA : ∀ M' : Nat → mq_C, mz_sh mz_GG M' → HX M' → hm_T j k n M M' → hm_N j M M' → Q (.inl none) (M', z, u)) : mq_R mq_PP (d + 2) 152 219 [some (.ref 234), some (.int x1), some (.int x2), some (.int x3), some (.int x4), some (.int x5), some (.int x6), some (.int x7), some (.int x8), o9] [] (Mc, z, u) Q := by
  obtain ⟨hm, hx, hR, hj, hf7, hf1⟩ := id hc
  have h4 : x4.toInt = 0 ∨ x4.toInt = 1 ∨ x4.toInt = 2 ∨ x4.toInt = 3 := by omega
  rcases h4 with h4 | h4 | h4 | h4
  · rw [show x4.toInt.toNat = 0 by omega] at q5'
    exact hm_t219_0 hC hd hz hc hj1 p1 hk hn hk4 hn32 hdf hu q2 q3 h4 q5 q5' KF KA
  · rw [show x4.toInt.toNat = 1 by omega] at q5'
    exact hm_t219_1 hC hd hz hc hj1 p1 hk hn hk4 hn32 hdf hu q2 q3 h4 q5 q5' KF KA
  · rw [show x4.toInt.toNat = 2 by omega] at q5'
    exact hm_t219_2 hC hd hz hc hj1 p1 hk hn hk4 hn32 hdf hu q2 q3 h4 q5 q5' KF KA
  · rw [show x4.toInt.toNat = 3 by omega] at q5'
    exact hm_t219_3 hC hd hz hc hj1 p1 hk hn hk4 hn32 hdf hu q2 q3 h4 q5 q5' KF KA
theorem hm_t209 {o9 : Option Value} {d z u j k n : Nat} {Q : (Option Value ⊕ Nat) → mq_S → Prop} {M Mc : Nat → mq_C} {x1 x2 x3 x4 x5 x6 x7 x8 : Int32} (hC : ∀ c ∈ mz_Cs, c.2 < 14 → mz_Ct mz_GG mq_PP HX c.1 c.2) (hd : 10 ≤ d) (hz : 272 ≤ z) (hc : hm_C j k M Mc) (hj1 : j < 139) (p1 : x1.toInt = 12 * (j : Int)) (hk : hv M 267 (12 * j) = (k : Int)) (hn : hv M 267 (12 * j + 1) = (n : Int)) (hk4 : k < 4) (hn32 : n < 32) (hdf : hv M 261 (32 * k + n) = -1) (hu : hm_bit (hv M 262 k) n = false) (q2 : x2.toInt = (k : Int)) (q3 : x3.toInt = (n : Int)) 
    (KF : ∀ M' : Nat → mq_C, mz_sh mz_GG M' → HX M' → hm_rel k j M M' → hv M' 234 48 = (j : Int) → hm_w M' → Q (.inl none) (M', z, u))
    (KA : ∀ M' : Nat → mq_C, mz_sh mz_GG M' → HX M' → hm_T j k n M M' → hm_N j M M' → Q (.inl none) (M', z, u)) : mq_R mq_PP (d + 2) 152 209 [some (.ref 234), some (.int x1), some (.int x2), some (.int x3), some (.int x4), some (.int x5), some (.int x6), some (.int x7), some (.int x8), o9] [] (Mc, z, u) Q := by
  obtain ⟨hm, hx, hR, hj, hf7, hf1⟩ := id hc
  refine he_aload (n := 210) (i := 0) (by decide +kernel) rfl ?_
  refine he_iload (n := 211) (i := 1) (by decide +kernel) rfl ?_
  refine he_iconst (n := 213) (c := 10) (by decide +kernel) (by decide) ?_
  intro c211 hc211
  refine he_v2 (n := 216) (j := 149) (ci := 9) (mx := 3) (ns := [6018, 6020, 71, 300]) (by decide +kernel) ((hb_kd (a := 234) hm rfl).trans rfl) (by decide) (by show 3 ≤ 3; omega) ?_
  rw [mq_e149]
  refine hm_fails (d := d) (j := j) hm hj (by omega) (by omega) (by omega) (by omega) ?_
  intro M' g1 g2 g3 g4 g5
  show mq_R mq_PP (d + 2) 152 216 _ [] (M', z, u) Q
  refine he_goto (t := 404) (by decide +kernel) ?_
  refine he_ret (by decide +kernel) ?_
  exact KF M' g1 (hm_Ex g2 hx) (hm_relt (Nat.le_refl _) (Nat.le_refl _) hR (hm_relE g2 (fun i _ => hb_vc g3 i))) g4 (.inr g5)
