/-! The contracts that the law calls, in use; what holds between calls (printed by b_law.py). -/
abbrev lw (M : Nat → mq_C) : Prop := 0 ≤ 236 - hv M 33 3 - hv M 33 5 ∧ 0 ≤ 0 - hv M 234 30 - 4 * hv M 257 0 ∧ 0 ≤ (-1) + hv M 8 4 - hv M 44 0 ∧ 0 ≤ 16 + 16 * hv M 44 0 - hv M 44 3 ∧ 0 ≤ 16 + 16 * hv M 44 1 - hv M 44 3 ∧ 0 ≤ (-1) + hv M 234 30 - hv M 234 57
abbrev lr (M : Nat → mq_C) : Prop := hv M 8 4 = hv M 234 30 ∧ hv M 91 1 = hv M 260 0 ∧ hv M 96 1 = hv M 260 1 ∧ hv M 101 1 = hv M 260 2 ∧ hv M 106 1 = hv M 260 3 ∧ hv M 91 3 = hv M 258 0 ∧ hv M 96 3 = hv M 258 1 ∧ hv M 101 3 = hv M 258 2 ∧ hv M 106 3 = hv M 258 3
def lr_open (c p c2 r : Int) : Prop := (r = -1 ∧ c2 = c ∧ (4 ≤ c ∨ c ≤ 0 ∧ ¬ p = -1 ∨ 1 ≤ c ∧ (p < 0 ∨ c ≤ p))) ∨ (c = 0 ∧ p = -1 ∧ r = 0 ∧ c2 = 1) ∨ (1 ≤ c ∧ c ≤ 3 ∧ 0 ≤ p ∧ p < c ∧ r = c ∧ c2 = c + 1)
theorem lr_open_d {c p c2 r c3 r2 : Int} (h : lr_open c p c2 r) (h2 : lr_open c p c3 r2) : c2 = c3 ∧ r = r2 := by
  unfold lr_open at h h2
  omega
def lr_close (n e0 e1 e2 e3 p f0 f1 f2 f3 r : Int) : Prop := (r = 0 ∧ f0 = e0 ∧ f1 = e1 ∧ f2 = e2 ∧ f3 = e3 ∧ (p < 0 ∨ n ≤ p ∨ p = 0 ∧ e0 = 1 ∨ p = 1 ∧ e1 = 1 ∨ p = 2 ∧ e2 = 1 ∨ p = 3 ∧ e3 = 1)) ∨ (r = 1 ∧ p = 0 ∧ 1 ≤ n ∧ e0 = 0 ∧ f0 = 1 ∧ f1 = e1 ∧ f2 = e2 ∧ f3 = e3) ∨ (r = 1 ∧ p = 1 ∧ 2 ≤ n ∧ e1 = 0 ∧ f1 = 1 ∧ f0 = e0 ∧ f2 = e2 ∧ f3 = e3) ∨ (r = 1 ∧ p = 2 ∧ 3 ≤ n ∧ e2 = 0 ∧ f2 = 1 ∧ f0 = e0 ∧ f1 = e1 ∧ f3 = e3) ∨ (r = 1 ∧ p = 3 ∧ 4 ≤ n ∧ e3 = 0 ∧ f3 = 1 ∧ f0 = e0 ∧ f1 = e1 ∧ f2 = e2)
theorem lr_close_d {n e0 e1 e2 e3 p f0 f1 f2 f3 r g0 g1 g2 g3 r2 : Int} (h : lr_close n e0 e1 e2 e3 p f0 f1 f2 f3 r) (h2 : lr_close n e0 e1 e2 e3 p g0 g1 g2 g3 r2) : f0 = g0 ∧ f1 = g1 ∧ f2 = g2 ∧ f3 = g3 ∧ r = r2 := by
  unfold lr_close at h h2
  rcases h with h | h | h | h | h <;> rcases h2 with h2 | h2 | h2 | h2 | h2 <;> omega
def lr_append (n e0 e1 e2 e3 a0 a1 a2 a3 p q f0 f1 f2 f3 r : Int) : Prop := (r = 0 ∧ f0 = a0 ∧ f1 = a1 ∧ f2 = a2 ∧ f3 = a3 ∧ (p < 0 ∨ n ≤ p ∨ q < 0 ∨ 4 ≤ q ∨ p = 0 ∧ (1 ≤ e0 ∨ 4 ≤ a0) ∨ p = 1 ∧ (1 ≤ e1 ∨ 4 ≤ a1) ∨ p = 2 ∧ (1 ≤ e2 ∨ 4 ≤ a2) ∨ p = 3 ∧ (1 ≤ e3 ∨ 4 ≤ a3))) ∨ (r = 1 ∧ p = 0 ∧ 1 ≤ n ∧ 0 ≤ q ∧ q ≤ 3 ∧ e0 = 0 ∧ a0 ≤ 3 ∧ f0 = a0 + 1 ∧ f1 = a1 ∧ f2 = a2 ∧ f3 = a3) ∨ (r = 1 ∧ p = 1 ∧ 2 ≤ n ∧ 0 ≤ q ∧ q ≤ 3 ∧ e1 = 0 ∧ a1 ≤ 3 ∧ f1 = a1 + 1 ∧ f0 = a0 ∧ f2 = a2 ∧ f3 = a3) ∨ (r = 1 ∧ p = 2 ∧ 3 ≤ n ∧ 0 ≤ q ∧ q ≤ 3 ∧ e2 = 0 ∧ a2 ≤ 3 ∧ f2 = a2 + 1 ∧ f0 = a0 ∧ f1 = a1 ∧ f3 = a3) ∨ (r = 1 ∧ p = 3 ∧ 4 ≤ n ∧ 0 ≤ q ∧ q ≤ 3 ∧ e3 = 0 ∧ a3 ≤ 3 ∧ f3 = a3 + 1 ∧ f0 = a0 ∧ f1 = a1 ∧ f2 = a2)
theorem lr_append_d {n e0 e1 e2 e3 a0 a1 a2 a3 p q f0 f1 f2 f3 r g0 g1 g2 g3 r2 : Int} (h : lr_append n e0 e1 e2 e3 a0 a1 a2 a3 p q f0 f1 f2 f3 r) (h2 : lr_append n e0 e1 e2 e3 a0 a1 a2 a3 p q g0 g1 g2 g3 r2) : f0 = g0 ∧ f1 = g1 ∧ f2 = g2 ∧ f3 = g3 ∧ r = r2 := by
  unfold lr_append at h h2
  rcases h with h | h | h | h | h <;> rcases h2 with h2 | h2 | h2 | h2 | h2 <;> omega
theorem ly_put {X : (Nat → mq_C) → Prop} (hq : mz_Ct mz_GG mq_PP X mz_q96 2) {d z u : Nat} {M : Nat → mq_C} {Q : (Option Value ⊕ Nat) → mq_S → Prop} {x1 : Int64} {x2 : Int32} (hd : 2 ≤ d) (hz : 272 ≤ z) (hm : mz_sh mz_GG M) (hx : X M)
    (w0 : ∀ (M' : Nat → mq_C) (r : Int32), mz_sh mz_GG M' → X M' → mz_fr mz_q96 M M' → (∀ a, a < 8 → M' a = M a) → hb_same mz_GG mz_q96 M M' → r.toInt = 1 → 0 ≤ (-1) + x2.toInt → 0 ≤ 8 - x2.toInt → hv M' 33 1 = x2.toInt + hv M 33 1 → Q (.inl (some (.int r))) (M', z, u))
    (w1 : ∀ (M' : Nat → mq_C) (r : Int32), mz_sh mz_GG M' → X M' → mz_fr mz_q96 M M' → (∀ a, a < 8 → M' a = M a) → hb_same mz_GG mz_q96 M M' → r.toInt = 0 → 0 ≤ 0 - x2.toInt → hv M' 33 1 = hv M 33 1 → Q (.inl (some (.int r))) (M', z, u))
    (w2 : ∀ (M' : Nat → mq_C) (r : Int32), mz_sh mz_GG M' → X M' → mz_fr mz_q96 M M' → (∀ a, a < 8 → M' a = M a) → hb_same mz_GG mz_q96 M M' → r.toInt = 0 → 0 ≤ (-9) + x2.toInt → hv M' 33 1 = hv M 33 1 → Q (.inl (some (.int r))) (M', z, u))
    (w3 : ∀ (M' : Nat → mq_C) (r : Int32), mz_sh mz_GG M' → X M' → mz_fr mz_q96 M M' → (∀ a, a < 8 → M' a = M a) → hb_same mz_GG mz_q96 M M' → r.toInt = 0 → 0 ≤ (-121) + x2.toInt + hv M 33 1 → hv M' 33 1 = hv M 33 1 → Q (.inl (some (.int r))) (M', z, u)) : mq_R mq_PP d 1 0 [some (.ref 8), some (.long x1), none, some (.int x2)] [] (M, z, u) Q := by
  refine hb_use mz_GG mq_PP X (q := mz_q96) (vs := [.ref 8, .long x1, .int x2]) hq (by decide +kernel) hd (show hb_pk mz_GG [(1, 8), (2, 0), (0, 0)] _ from ⟨⟨List.mem_singleton.mpr rfl, rfl⟩, trivial, trivial, trivial⟩) hm hx hz ?_ ?_
  · exact hb_nil
  · intro r S hpo
    obtain ⟨b1, b2, b3, b4, b5, p, hp, res, hf, hre⟩ := hpo
    rcases List.mem_cons.mp hp with rfl | hp
    · obtain ⟨x, rfl, hr, hz1, hu1⟩ := mz_re_0 mz_GG hre rfl
      obtain ⟨M', z', u'⟩ := S
      cases hz1
      cases hu1
      obtain ⟨f0, hf⟩ := hb_unc hf
      have f0 : 0 ≤ -1 + (1 * res + 0) := f0
      rw [← hr] at f0
      obtain ⟨f1, hf⟩ := hb_unc hf
      have f1 : 0 ≤ 1 + ((-1) * res + 0) := f1
      rw [← hr] at f1
      obtain ⟨f2, hf⟩ := hb_unc hf
      have f2 : 0 ≤ -1 + (1 * x2.toInt + 0) := f2
      obtain ⟨f3, hf⟩ := hb_unc hf
      have f3 : 0 ≤ 8 + ((-1) * x2.toInt + 0) := f3
      obtain ⟨f4, hf⟩ := hb_unc hf
      have f4 : 0 ≤ 0 + ((-1) * x2.toInt + ((-1) * hv M 33 1 + (1 * hv M' 33 1 + 0))) := f4
      obtain ⟨f5, hf⟩ := hb_unc hf
      have f5 : 0 ≤ 0 + (1 * x2.toInt + (1 * hv M 33 1 + ((-1) * hv M' 33 1 + 0))) := f5
      exact w0 M' x b1 b2 b3 b4 b5 (by have h1 := f0; have h2 := f1; omega) (by have h1 := f2; omega) (by have h1 := f3; omega) (by have h1 := f4; have h2 := f5; omega)
    rcases List.mem_cons.mp hp with rfl | hp
    · obtain ⟨x, rfl, hr, hz1, hu1⟩ := mz_re_0 mz_GG hre rfl
      obtain ⟨M', z', u'⟩ := S
      cases hz1
      cases hu1
      obtain ⟨f0, hf⟩ := hb_unc hf
      have f0 : 0 ≤ 0 + (1 * res + 0) := f0
      rw [← hr] at f0
      obtain ⟨f1, hf⟩ := hb_unc hf
      have f1 : 0 ≤ 0 + ((-1) * res + 0) := f1
      rw [← hr] at f1
      obtain ⟨f2, hf⟩ := hb_unc hf
      have f2 : 0 ≤ 0 + ((-1) * x2.toInt + 0) := f2
      obtain ⟨f3, hf⟩ := hb_unc hf
      have f3 : 0 ≤ 0 + ((-1) * hv M 33 1 + (1 * hv M' 33 1 + 0)) := f3
      obtain ⟨f4, hf⟩ := hb_unc hf
      have f4 : 0 ≤ 0 + (1 * hv M 33 1 + ((-1) * hv M' 33 1 + 0)) := f4
      exact w1 M' x b1 b2 b3 b4 b5 (by have h1 := f0; have h2 := f1; omega) (by have h1 := f2; omega) (by have h1 := f3; have h2 := f4; omega)
    rcases List.mem_cons.mp hp with rfl | hp
    · obtain ⟨x, rfl, hr, hz1, hu1⟩ := mz_re_0 mz_GG hre rfl
      obtain ⟨M', z', u'⟩ := S
      cases hz1
      cases hu1
      obtain ⟨f0, hf⟩ := hb_unc hf
      have f0 : 0 ≤ 0 + (1 * res + 0) := f0
      rw [← hr] at f0
      obtain ⟨f1, hf⟩ := hb_unc hf
      have f1 : 0 ≤ 0 + ((-1) * res + 0) := f1
      rw [← hr] at f1
      obtain ⟨f2, hf⟩ := hb_unc hf
      have f2 : 0 ≤ -9 + (1 * x2.toInt + 0) := f2
      obtain ⟨f3, hf⟩ := hb_unc hf
      have f3 : 0 ≤ 0 + ((-1) * hv M 33 1 + (1 * hv M' 33 1 + 0)) := f3
      obtain ⟨f4, hf⟩ := hb_unc hf
      have f4 : 0 ≤ 0 + (1 * hv M 33 1 + ((-1) * hv M' 33 1 + 0)) := f4
      exact w2 M' x b1 b2 b3 b4 b5 (by have h1 := f0; have h2 := f1; omega) (by have h1 := f2; omega) (by have h1 := f3; have h2 := f4; omega)
    rcases List.mem_cons.mp hp with rfl | hp
    · obtain ⟨x, rfl, hr, hz1, hu1⟩ := mz_re_0 mz_GG hre rfl
      obtain ⟨M', z', u'⟩ := S
      cases hz1
      cases hu1
      obtain ⟨f0, hf⟩ := hb_unc hf
      have f0 : 0 ≤ 0 + (1 * res + 0) := f0
      rw [← hr] at f0
      obtain ⟨f1, hf⟩ := hb_unc hf
      have f1 : 0 ≤ 0 + ((-1) * res + 0) := f1
      rw [← hr] at f1
      obtain ⟨f2, hf⟩ := hb_unc hf
      have f2 : 0 ≤ -121 + (1 * x2.toInt + (1 * hv M 33 1 + 0)) := f2
      obtain ⟨f3, hf⟩ := hb_unc hf
      have f3 : 0 ≤ 0 + ((-1) * hv M 33 1 + (1 * hv M' 33 1 + 0)) := f3
      obtain ⟨f4, hf⟩ := hb_unc hf
      have f4 : 0 ≤ 0 + (1 * hv M 33 1 + ((-1) * hv M' 33 1 + 0)) := f4
      exact w3 M' x b1 b2 b3 b4 b5 (by have h1 := f0; have h2 := f1; omega) (by have h1 := f2; omega) (by have h1 := f3; have h2 := f4; omega)
    cases hp
theorem lu_put {d z u : Nat} {M : Nat → mq_C} {Q : (Option Value ⊕ Nat) → mq_S → Prop} {x1 : Int64} {x2 : Int32} (hd : 2 ≤ d) (hz : 272 ≤ z) (hm : mz_sh mz_GG M) (hx : HX M) (hl : lw M)
    (k : ∀ (M' : Nat → mq_C) (r : Int32), mz_sh mz_GG M' → HX M' → lw M' → (∀ a, a < 8 → M' a = M a) → M' 271 = M 271 → hv M' 8 4 = hv M 8 4 → hv M' 234 30 = hv M 234 30 → hv M' 91 1 = hv M 91 1 → hv M' 260 0 = hv M 260 0 → hv M' 96 1 = hv M 96 1 → hv M' 260 1 = hv M 260 1 → hv M' 101 1 = hv M 101 1 → hv M' 260 2 = hv M 260 2 → hv M' 106 1 = hv M 106 1 → hv M' 260 3 = hv M 260 3 → hv M' 91 3 = hv M 91 3 → hv M' 258 0 = hv M 258 0 → hv M' 96 3 = hv M 96 3 → hv M' 258 1 = hv M 258 1 → hv M' 101 3 = hv M 101 3 → hv M' 258 2 = hv M 258 2 → hv M' 106 3 = hv M 106 3 → hv M' 258 3 = hv M 258 3 → Q (.inl (some (.int r))) (M', z, u)) : mq_R mq_PP d 1 0 [some (.ref 8), some (.long x1), none, some (.int x2)] [] (M, z, u) Q := by
  obtain ⟨l0, l1, l2, l3, l4, l5⟩ := hl
  refine ly_put (ha_all (mz_q96, 2) (List.mem_of_getElem? (show mz_Cs[96]? = _ from rfl))) hd hz hm hx ?_ ?_ ?_ ?_
  · intro M' r b1 b2 b3 b4 b5 f0 f1 f2 f3
    have e9 : hv M' 33 3 = hv M 33 3 := b5 9 (33, 3) rfl rfl
    have e10 : hv M' 33 5 = hv M 33 5 := b5 10 (33, 5) rfl rfl
    have e24 : hv M' 234 30 = hv M 234 30 := b5 24 (234, 30) rfl rfl
    have e33 : hv M' 257 0 = hv M 257 0 := b5 33 (257, 0) rfl rfl
    have e0 : hv M' 8 4 = hv M 8 4 := b5 0 (8, 4) rfl rfl
    have e12 : hv M' 44 0 = hv M 44 0 := b5 12 (44, 0) rfl rfl
    have e13 : hv M' 44 1 = hv M 44 1 := b5 13 (44, 1) rfl rfl
    have e14 : hv M' 44 3 = hv M 44 3 := b5 14 (44, 3) rfl rfl
    have e28 : hv M' 234 57 = hv M 234 57 := b5 28 (234, 57) rfl rfl
    have e38 : hv M' 91 1 = hv M 91 1 := b5 38 (91, 1) rfl rfl
    have e48 : hv M' 260 0 = hv M 260 0 := b5 48 (260, 0) rfl rfl
    have e40 : hv M' 96 1 = hv M 96 1 := b5 40 (96, 1) rfl rfl
    have e52 : hv M' 260 1 = hv M 260 1 := b5 52 (260, 1) rfl rfl
    have e42 : hv M' 101 1 = hv M 101 1 := b5 42 (101, 1) rfl rfl
    have e56 : hv M' 260 2 = hv M 260 2 := b5 56 (260, 2) rfl rfl
    have e44 : hv M' 106 1 = hv M 106 1 := b5 44 (106, 1) rfl rfl
    have e60 : hv M' 260 3 = hv M 260 3 := b5 60 (260, 3) rfl rfl
    have e37 : hv M' 91 3 = hv M 91 3 := b5 37 (91, 3) rfl rfl
    have e47 : hv M' 258 0 = hv M 258 0 := b5 47 (258, 0) rfl rfl
    have e39 : hv M' 96 3 = hv M 96 3 := b5 39 (96, 3) rfl rfl
    have e51 : hv M' 258 1 = hv M 258 1 := b5 51 (258, 1) rfl rfl
    have e41 : hv M' 101 3 = hv M 101 3 := b5 41 (101, 3) rfl rfl
    have e55 : hv M' 258 2 = hv M 258 2 := b5 55 (258, 2) rfl rfl
    have e43 : hv M' 106 3 = hv M 106 3 := b5 43 (106, 3) rfl rfl
    have e59 : hv M' 258 3 = hv M 258 3 := b5 59 (258, 3) rfl rfl
    exact k M' r b1 b2 ⟨by omega, by omega, by omega, by omega, by omega, by omega⟩ b4 (b3 271 (by decide) (by decide +kernel)) e0 e24 e38 e48 e40 e52 e42 e56 e44 e60 e37 e47 e39 e51 e41 e55 e43 e59
  · intro M' r b1 b2 b3 b4 b5 f0 f1 f2
    have e9 : hv M' 33 3 = hv M 33 3 := b5 9 (33, 3) rfl rfl
    have e10 : hv M' 33 5 = hv M 33 5 := b5 10 (33, 5) rfl rfl
    have e24 : hv M' 234 30 = hv M 234 30 := b5 24 (234, 30) rfl rfl
    have e33 : hv M' 257 0 = hv M 257 0 := b5 33 (257, 0) rfl rfl
    have e0 : hv M' 8 4 = hv M 8 4 := b5 0 (8, 4) rfl rfl
    have e12 : hv M' 44 0 = hv M 44 0 := b5 12 (44, 0) rfl rfl
    have e13 : hv M' 44 1 = hv M 44 1 := b5 13 (44, 1) rfl rfl
    have e14 : hv M' 44 3 = hv M 44 3 := b5 14 (44, 3) rfl rfl
    have e28 : hv M' 234 57 = hv M 234 57 := b5 28 (234, 57) rfl rfl
    have e38 : hv M' 91 1 = hv M 91 1 := b5 38 (91, 1) rfl rfl
    have e48 : hv M' 260 0 = hv M 260 0 := b5 48 (260, 0) rfl rfl
    have e40 : hv M' 96 1 = hv M 96 1 := b5 40 (96, 1) rfl rfl
    have e52 : hv M' 260 1 = hv M 260 1 := b5 52 (260, 1) rfl rfl
    have e42 : hv M' 101 1 = hv M 101 1 := b5 42 (101, 1) rfl rfl
    have e56 : hv M' 260 2 = hv M 260 2 := b5 56 (260, 2) rfl rfl
    have e44 : hv M' 106 1 = hv M 106 1 := b5 44 (106, 1) rfl rfl
    have e60 : hv M' 260 3 = hv M 260 3 := b5 60 (260, 3) rfl rfl
    have e37 : hv M' 91 3 = hv M 91 3 := b5 37 (91, 3) rfl rfl
    have e47 : hv M' 258 0 = hv M 258 0 := b5 47 (258, 0) rfl rfl
    have e39 : hv M' 96 3 = hv M 96 3 := b5 39 (96, 3) rfl rfl
    have e51 : hv M' 258 1 = hv M 258 1 := b5 51 (258, 1) rfl rfl
    have e41 : hv M' 101 3 = hv M 101 3 := b5 41 (101, 3) rfl rfl
    have e55 : hv M' 258 2 = hv M 258 2 := b5 55 (258, 2) rfl rfl
    have e43 : hv M' 106 3 = hv M 106 3 := b5 43 (106, 3) rfl rfl
    have e59 : hv M' 258 3 = hv M 258 3 := b5 59 (258, 3) rfl rfl
    exact k M' r b1 b2 ⟨by omega, by omega, by omega, by omega, by omega, by omega⟩ b4 (b3 271 (by decide) (by decide +kernel)) e0 e24 e38 e48 e40 e52 e42 e56 e44 e60 e37 e47 e39 e51 e41 e55 e43 e59
  · intro M' r b1 b2 b3 b4 b5 f0 f1 f2
    have e9 : hv M' 33 3 = hv M 33 3 := b5 9 (33, 3) rfl rfl
    have e10 : hv M' 33 5 = hv M 33 5 := b5 10 (33, 5) rfl rfl
    have e24 : hv M' 234 30 = hv M 234 30 := b5 24 (234, 30) rfl rfl
    have e33 : hv M' 257 0 = hv M 257 0 := b5 33 (257, 0) rfl rfl
    have e0 : hv M' 8 4 = hv M 8 4 := b5 0 (8, 4) rfl rfl
    have e12 : hv M' 44 0 = hv M 44 0 := b5 12 (44, 0) rfl rfl
    have e13 : hv M' 44 1 = hv M 44 1 := b5 13 (44, 1) rfl rfl
    have e14 : hv M' 44 3 = hv M 44 3 := b5 14 (44, 3) rfl rfl
    have e28 : hv M' 234 57 = hv M 234 57 := b5 28 (234, 57) rfl rfl
    have e38 : hv M' 91 1 = hv M 91 1 := b5 38 (91, 1) rfl rfl
    have e48 : hv M' 260 0 = hv M 260 0 := b5 48 (260, 0) rfl rfl
    have e40 : hv M' 96 1 = hv M 96 1 := b5 40 (96, 1) rfl rfl
    have e52 : hv M' 260 1 = hv M 260 1 := b5 52 (260, 1) rfl rfl
    have e42 : hv M' 101 1 = hv M 101 1 := b5 42 (101, 1) rfl rfl
    have e56 : hv M' 260 2 = hv M 260 2 := b5 56 (260, 2) rfl rfl
    have e44 : hv M' 106 1 = hv M 106 1 := b5 44 (106, 1) rfl rfl
    have e60 : hv M' 260 3 = hv M 260 3 := b5 60 (260, 3) rfl rfl
    have e37 : hv M' 91 3 = hv M 91 3 := b5 37 (91, 3) rfl rfl
    have e47 : hv M' 258 0 = hv M 258 0 := b5 47 (258, 0) rfl rfl
    have e39 : hv M' 96 3 = hv M 96 3 := b5 39 (96, 3) rfl rfl
    have e51 : hv M' 258 1 = hv M 258 1 := b5 51 (258, 1) rfl rfl
    have e41 : hv M' 101 3 = hv M 101 3 := b5 41 (101, 3) rfl rfl
    have e55 : hv M' 258 2 = hv M 258 2 := b5 55 (258, 2) rfl rfl
    have e43 : hv M' 106 3 = hv M 106 3 := b5 43 (106, 3) rfl rfl
    have e59 : hv M' 258 3 = hv M 258 3 := b5 59 (258, 3) rfl rfl
    exact k M' r b1 b2 ⟨by omega, by omega, by omega, by omega, by omega, by omega⟩ b4 (b3 271 (by decide) (by decide +kernel)) e0 e24 e38 e48 e40 e52 e42 e56 e44 e60 e37 e47 e39 e51 e41 e55 e43 e59
  · intro M' r b1 b2 b3 b4 b5 f0 f1 f2
    have e9 : hv M' 33 3 = hv M 33 3 := b5 9 (33, 3) rfl rfl
    have e10 : hv M' 33 5 = hv M 33 5 := b5 10 (33, 5) rfl rfl
    have e24 : hv M' 234 30 = hv M 234 30 := b5 24 (234, 30) rfl rfl
    have e33 : hv M' 257 0 = hv M 257 0 := b5 33 (257, 0) rfl rfl
    have e0 : hv M' 8 4 = hv M 8 4 := b5 0 (8, 4) rfl rfl
    have e12 : hv M' 44 0 = hv M 44 0 := b5 12 (44, 0) rfl rfl
    have e13 : hv M' 44 1 = hv M 44 1 := b5 13 (44, 1) rfl rfl
    have e14 : hv M' 44 3 = hv M 44 3 := b5 14 (44, 3) rfl rfl
    have e28 : hv M' 234 57 = hv M 234 57 := b5 28 (234, 57) rfl rfl
    have e38 : hv M' 91 1 = hv M 91 1 := b5 38 (91, 1) rfl rfl
    have e48 : hv M' 260 0 = hv M 260 0 := b5 48 (260, 0) rfl rfl
    have e40 : hv M' 96 1 = hv M 96 1 := b5 40 (96, 1) rfl rfl
    have e52 : hv M' 260 1 = hv M 260 1 := b5 52 (260, 1) rfl rfl
    have e42 : hv M' 101 1 = hv M 101 1 := b5 42 (101, 1) rfl rfl
    have e56 : hv M' 260 2 = hv M 260 2 := b5 56 (260, 2) rfl rfl
    have e44 : hv M' 106 1 = hv M 106 1 := b5 44 (106, 1) rfl rfl
    have e60 : hv M' 260 3 = hv M 260 3 := b5 60 (260, 3) rfl rfl
    have e37 : hv M' 91 3 = hv M 91 3 := b5 37 (91, 3) rfl rfl
    have e47 : hv M' 258 0 = hv M 258 0 := b5 47 (258, 0) rfl rfl
    have e39 : hv M' 96 3 = hv M 96 3 := b5 39 (96, 3) rfl rfl
    have e51 : hv M' 258 1 = hv M 258 1 := b5 51 (258, 1) rfl rfl
    have e41 : hv M' 101 3 = hv M 101 3 := b5 41 (101, 3) rfl rfl
    have e55 : hv M' 258 2 = hv M 258 2 := b5 55 (258, 2) rfl rfl
    have e43 : hv M' 106 3 = hv M 106 3 := b5 43 (106, 3) rfl rfl
    have e59 : hv M' 258 3 = hv M 258 3 := b5 59 (258, 3) rfl rfl
    exact k M' r b1 b2 ⟨by omega, by omega, by omega, by omega, by omega, by omega⟩ b4 (b3 271 (by decide) (by decide +kernel)) e0 e24 e38 e48 e40 e52 e42 e56 e44 e60 e37 e47 e39 e51 e41 e55 e43 e59
theorem ly_enter {X : (Nat → mq_C) → Prop} (hq : mz_Ct mz_GG mq_PP X mz_q80 5) {d z u : Nat} {M : Nat → mq_C} {Q : (Option Value ⊕ Nat) → mq_S → Prop} {x1 : Int32} {x2 : Int32} (hd : 5 ≤ d) (hz : 272 ≤ z) (hm : mz_sh mz_GG M) (hx : X M) (p0 : 0 ≤ 236 - hv M 33 3 - hv M 33 5)
    (w0 : ∀ (M' : Nat → mq_C) (r : Int32), mz_sh mz_GG M' → X M' → mz_fr mz_q80 M M' → (∀ a, a < 8 → M' a = M a) → hb_same mz_GG mz_q80 M M' → r.toInt = 1 → 0 ≤ 236 - hv M' 33 3 - hv M' 33 5 → Q (.inl (some (.int r))) (M', z, u))
    (w1 : ∀ (M' : Nat → mq_C) (r : Int32), mz_sh mz_GG M' → X M' → mz_fr mz_q80 M M' → (∀ a, a < 8 → M' a = M a) → hb_same mz_GG mz_q80 M M' → r.toInt = 0 → hv M' 33 1 = hv M 33 1 → hv M' 33 3 = hv M 33 3 → hv M' 33 5 = hv M 33 5 → hv M' 33 6 = hv M 33 6 → Q (.inl (some (.int r))) (M', z, u)) : mq_R mq_PP d 2 0 [some (.ref 8), some (.int x1), some (.int x2), none, none] [] (M, z, u) Q := by
  refine hb_use mz_GG mq_PP X (q := mz_q80) (vs := [.ref 8, .int x1, .int x2]) hq (by decide +kernel) hd (show hb_pk mz_GG [(1, 8), (0, 0), (0, 0)] _ from ⟨⟨List.mem_singleton.mpr rfl, rfl⟩, trivial, trivial, trivial⟩) hm hx hz ?_ ?_
  · exact hb_cons (show 0 ≤ mz_ev _ _ from (show 0 ≤ 236 + ((-1) * hv M 33 3 + ((-1) * hv M 33 5 + 0)) by omega)) (hb_nil)
  · intro r S hpo
    obtain ⟨b1, b2, b3, b4, b5, p, hp, res, hf, hre⟩ := hpo
    rcases List.mem_cons.mp hp with rfl | hp
    · obtain ⟨x, rfl, hr, hz1, hu1⟩ := mz_re_0 mz_GG hre rfl
      obtain ⟨M', z', u'⟩ := S
      cases hz1
      cases hu1
      obtain ⟨f0, hf⟩ := hb_unc hf
      have f0 : 0 ≤ -1 + (1 * res + 0) := f0
      rw [← hr] at f0
      obtain ⟨f1, hf⟩ := hb_unc hf
      have f1 : 0 ≤ 1 + ((-1) * res + 0) := f1
      rw [← hr] at f1
      obtain ⟨f2, hf⟩ := hb_unc hf
      have f2 : 0 ≤ 236 + ((-1) * hv M' 33 3 + ((-1) * hv M' 33 5 + 0)) := f2
      exact w0 M' x b1 b2 b3 b4 b5 (by have h1 := f0; have h2 := f1; omega) (by have h1 := f2; omega)
    rcases List.mem_cons.mp hp with rfl | hp
    · obtain ⟨x, rfl, hr, hz1, hu1⟩ := mz_re_0 mz_GG hre rfl
      obtain ⟨M', z', u'⟩ := S
      cases hz1
      cases hu1
      obtain ⟨f0, hf⟩ := hb_unc hf
      have f0 : 0 ≤ 0 + (1 * res + 0) := f0
      rw [← hr] at f0
      obtain ⟨f1, hf⟩ := hb_unc hf
      have f1 : 0 ≤ 0 + ((-1) * res + 0) := f1
      rw [← hr] at f1
      obtain ⟨f2, hf⟩ := hb_unc hf
      have f2 : 0 ≤ 0 + ((-1) * hv M 33 1 + (1 * hv M' 33 1 + 0)) := f2
      obtain ⟨f3, hf⟩ := hb_unc hf
      have f3 : 0 ≤ 0 + (1 * hv M 33 1 + ((-1) * hv M' 33 1 + 0)) := f3
      obtain ⟨f4, hf⟩ := hb_unc hf
      have f4 : 0 ≤ 0 + ((-1) * hv M 33 3 + (1 * hv M' 33 3 + 0)) := f4
      obtain ⟨f5, hf⟩ := hb_unc hf
      have f5 : 0 ≤ 0 + (1 * hv M 33 3 + ((-1) * hv M' 33 3 + 0)) := f5
      obtain ⟨f6, hf⟩ := hb_unc hf
      have f6 : 0 ≤ 0 + ((-1) * hv M 33 5 + (1 * hv M' 33 5 + 0)) := f6
      obtain ⟨f7, hf⟩ := hb_unc hf
      have f7 : 0 ≤ 0 + (1 * hv M 33 5 + ((-1) * hv M' 33 5 + 0)) := f7
      obtain ⟨f8, hf⟩ := hb_unc hf
      have f8 : 0 ≤ 0 + ((-1) * hv M 33 6 + (1 * hv M' 33 6 + 0)) := f8
      obtain ⟨f9, hf⟩ := hb_unc hf
      have f9 : 0 ≤ 0 + (1 * hv M 33 6 + ((-1) * hv M' 33 6 + 0)) := f9
      exact w1 M' x b1 b2 b3 b4 b5 (by have h1 := f0; have h2 := f1; omega) (by have h1 := f2; have h2 := f3; omega) (by have h1 := f4; have h2 := f5; omega) (by have h1 := f6; have h2 := f7; omega) (by have h1 := f8; have h2 := f9; omega)
    cases hp
theorem lu_enter {d z u : Nat} {M : Nat → mq_C} {Q : (Option Value ⊕ Nat) → mq_S → Prop} {x1 : Int32} {x2 : Int32} (hd : 5 ≤ d) (hz : 272 ≤ z) (hm : mz_sh mz_GG M) (hx : HX M) (hl : lw M)
    (k : ∀ (M' : Nat → mq_C) (r : Int32), mz_sh mz_GG M' → HX M' → lw M' → (∀ a, a < 8 → M' a = M a) → M' 271 = M 271 → hv M' 8 4 = hv M 8 4 → hv M' 234 30 = hv M 234 30 → hv M' 91 1 = hv M 91 1 → hv M' 260 0 = hv M 260 0 → hv M' 96 1 = hv M 96 1 → hv M' 260 1 = hv M 260 1 → hv M' 101 1 = hv M 101 1 → hv M' 260 2 = hv M 260 2 → hv M' 106 1 = hv M 106 1 → hv M' 260 3 = hv M 260 3 → hv M' 91 3 = hv M 91 3 → hv M' 258 0 = hv M 258 0 → hv M' 96 3 = hv M 96 3 → hv M' 258 1 = hv M 258 1 → hv M' 101 3 = hv M 101 3 → hv M' 258 2 = hv M 258 2 → hv M' 106 3 = hv M 106 3 → hv M' 258 3 = hv M 258 3 → Q (.inl (some (.int r))) (M', z, u)) : mq_R mq_PP d 2 0 [some (.ref 8), some (.int x1), some (.int x2), none, none] [] (M, z, u) Q := by
  obtain ⟨l0, l1, l2, l3, l4, l5⟩ := hl
  refine ly_enter (ha_all (mz_q80, 5) (List.mem_of_getElem? (show mz_Cs[80]? = _ from rfl))) hd hz hm hx (by omega) ?_ ?_
  · intro M' r b1 b2 b3 b4 b5 f0 f1
    have e24 : hv M' 234 30 = hv M 234 30 := b5 24 (234, 30) rfl rfl
    have e33 : hv M' 257 0 = hv M 257 0 := b5 33 (257, 0) rfl rfl
    have e0 : hv M' 8 4 = hv M 8 4 := b5 0 (8, 4) rfl rfl
    have e12 : hv M' 44 0 = hv M 44 0 := b5 12 (44, 0) rfl rfl
    have e13 : hv M' 44 1 = hv M 44 1 := b5 13 (44, 1) rfl rfl
    have e14 : hv M' 44 3 = hv M 44 3 := b5 14 (44, 3) rfl rfl
    have e28 : hv M' 234 57 = hv M 234 57 := b5 28 (234, 57) rfl rfl
    have e38 : hv M' 91 1 = hv M 91 1 := b5 38 (91, 1) rfl rfl
    have e48 : hv M' 260 0 = hv M 260 0 := b5 48 (260, 0) rfl rfl
    have e40 : hv M' 96 1 = hv M 96 1 := b5 40 (96, 1) rfl rfl
    have e52 : hv M' 260 1 = hv M 260 1 := b5 52 (260, 1) rfl rfl
    have e42 : hv M' 101 1 = hv M 101 1 := b5 42 (101, 1) rfl rfl
    have e56 : hv M' 260 2 = hv M 260 2 := b5 56 (260, 2) rfl rfl
    have e44 : hv M' 106 1 = hv M 106 1 := b5 44 (106, 1) rfl rfl
    have e60 : hv M' 260 3 = hv M 260 3 := b5 60 (260, 3) rfl rfl
    have e37 : hv M' 91 3 = hv M 91 3 := b5 37 (91, 3) rfl rfl
    have e47 : hv M' 258 0 = hv M 258 0 := b5 47 (258, 0) rfl rfl
    have e39 : hv M' 96 3 = hv M 96 3 := b5 39 (96, 3) rfl rfl
    have e51 : hv M' 258 1 = hv M 258 1 := b5 51 (258, 1) rfl rfl
    have e41 : hv M' 101 3 = hv M 101 3 := b5 41 (101, 3) rfl rfl
    have e55 : hv M' 258 2 = hv M 258 2 := b5 55 (258, 2) rfl rfl
    have e43 : hv M' 106 3 = hv M 106 3 := b5 43 (106, 3) rfl rfl
    have e59 : hv M' 258 3 = hv M 258 3 := b5 59 (258, 3) rfl rfl
    exact k M' r b1 b2 ⟨by omega, by omega, by omega, by omega, by omega, by omega⟩ b4 (b3 271 (by decide) (by decide +kernel)) e0 e24 e38 e48 e40 e52 e42 e56 e44 e60 e37 e47 e39 e51 e41 e55 e43 e59
  · intro M' r b1 b2 b3 b4 b5 f0 f1 f2 f3 f4
    have e24 : hv M' 234 30 = hv M 234 30 := b5 24 (234, 30) rfl rfl
    have e33 : hv M' 257 0 = hv M 257 0 := b5 33 (257, 0) rfl rfl
    have e0 : hv M' 8 4 = hv M 8 4 := b5 0 (8, 4) rfl rfl
    have e12 : hv M' 44 0 = hv M 44 0 := b5 12 (44, 0) rfl rfl
    have e13 : hv M' 44 1 = hv M 44 1 := b5 13 (44, 1) rfl rfl
    have e14 : hv M' 44 3 = hv M 44 3 := b5 14 (44, 3) rfl rfl
    have e28 : hv M' 234 57 = hv M 234 57 := b5 28 (234, 57) rfl rfl
    have e38 : hv M' 91 1 = hv M 91 1 := b5 38 (91, 1) rfl rfl
    have e48 : hv M' 260 0 = hv M 260 0 := b5 48 (260, 0) rfl rfl
    have e40 : hv M' 96 1 = hv M 96 1 := b5 40 (96, 1) rfl rfl
    have e52 : hv M' 260 1 = hv M 260 1 := b5 52 (260, 1) rfl rfl
    have e42 : hv M' 101 1 = hv M 101 1 := b5 42 (101, 1) rfl rfl
    have e56 : hv M' 260 2 = hv M 260 2 := b5 56 (260, 2) rfl rfl
    have e44 : hv M' 106 1 = hv M 106 1 := b5 44 (106, 1) rfl rfl
    have e60 : hv M' 260 3 = hv M 260 3 := b5 60 (260, 3) rfl rfl
    have e37 : hv M' 91 3 = hv M 91 3 := b5 37 (91, 3) rfl rfl
    have e47 : hv M' 258 0 = hv M 258 0 := b5 47 (258, 0) rfl rfl
    have e39 : hv M' 96 3 = hv M 96 3 := b5 39 (96, 3) rfl rfl
    have e51 : hv M' 258 1 = hv M 258 1 := b5 51 (258, 1) rfl rfl
    have e41 : hv M' 101 3 = hv M 101 3 := b5 41 (101, 3) rfl rfl
    have e55 : hv M' 258 2 = hv M 258 2 := b5 55 (258, 2) rfl rfl
    have e43 : hv M' 106 3 = hv M 106 3 := b5 43 (106, 3) rfl rfl
    have e59 : hv M' 258 3 = hv M 258 3 := b5 59 (258, 3) rfl rfl
    exact k M' r b1 b2 ⟨by omega, by omega, by omega, by omega, by omega, by omega⟩ b4 (b3 271 (by decide) (by decide +kernel)) e0 e24 e38 e48 e40 e52 e42 e56 e44 e60 e37 e47 e39 e51 e41 e55 e43 e59
theorem ly_finish {X : (Nat → mq_C) → Prop} (hq : mz_Ct mz_GG mq_PP X mz_q97 8) {d z u : Nat} {M : Nat → mq_C} {Q : (Option Value ⊕ Nat) → mq_S → Prop} {x1 : Int32} (hd : 8 ≤ d) (hz : 272 ≤ z) (hm : mz_sh mz_GG M) (hx : X M) (p0 : 0 ≤ 236 - hv M 33 3 - hv M 33 5)
    (w0 : ∀ (M' : Nat → mq_C) (r : Int32), mz_sh mz_GG M' → X M' → mz_fr mz_q97 M M' → (∀ a, a < 8 → M' a = M a) → hb_same mz_GG mz_q97 M M' → 0 ≤ r.toInt → 0 ≤ 1 - r.toInt → 0 ≤ 236 - hv M' 33 3 - hv M' 33 5 → Q (.inl (some (.int r))) (M', z, u)) : mq_R mq_PP d 3 0 [some (.ref 8), some (.int x1)] [] (M, z, u) Q := by
  refine hb_use mz_GG mq_PP X (q := mz_q97) (vs := [.ref 8, .int x1]) hq (by decide +kernel) hd (show hb_pk mz_GG [(1, 8), (0, 0)] _ from ⟨⟨List.mem_singleton.mpr rfl, rfl⟩, trivial, trivial⟩) hm hx hz ?_ ?_
  · exact hb_cons (show 0 ≤ mz_ev _ _ from (show 0 ≤ 236 + ((-1) * hv M 33 3 + ((-1) * hv M 33 5 + 0)) by omega)) (hb_nil)
  · intro r S hpo
    obtain ⟨b1, b2, b3, b4, b5, p, hp, res, hf, hre⟩ := hpo
    rcases List.mem_cons.mp hp with rfl | hp
    · obtain ⟨x, rfl, hr, hz1, hu1⟩ := mz_re_0 mz_GG hre rfl
      obtain ⟨M', z', u'⟩ := S
      cases hz1
      cases hu1
      obtain ⟨f0, hf⟩ := hb_unc hf
      have f0 : 0 ≤ 0 + (1 * res + 0) := f0
      rw [← hr] at f0
      obtain ⟨f1, hf⟩ := hb_unc hf
      have f1 : 0 ≤ 1 + ((-1) * res + 0) := f1
      rw [← hr] at f1
      obtain ⟨f2, hf⟩ := hb_unc hf
      have f2 : 0 ≤ 236 + ((-1) * hv M' 33 3 + ((-1) * hv M' 33 5 + 0)) := f2
      exact w0 M' x b1 b2 b3 b4 b5 (by have h1 := f0; omega) (by have h1 := f1; omega) (by have h1 := f2; omega)
    cases hp
theorem lu_finish {d z u : Nat} {M : Nat → mq_C} {Q : (Option Value ⊕ Nat) → mq_S → Prop} {x1 : Int32} (hd : 8 ≤ d) (hz : 272 ≤ z) (hm : mz_sh mz_GG M) (hx : HX M) (hl : lw M)
    (k : ∀ (M' : Nat → mq_C) (r : Int32), mz_sh mz_GG M' → HX M' → lw M' → (∀ a, a < 8 → M' a = M a) → M' 271 = M 271 → hv M' 8 4 = hv M 8 4 → hv M' 234 30 = hv M 234 30 → hv M' 91 1 = hv M 91 1 → hv M' 260 0 = hv M 260 0 → hv M' 96 1 = hv M 96 1 → hv M' 260 1 = hv M 260 1 → hv M' 101 1 = hv M 101 1 → hv M' 260 2 = hv M 260 2 → hv M' 106 1 = hv M 106 1 → hv M' 260 3 = hv M 260 3 → hv M' 91 3 = hv M 91 3 → hv M' 258 0 = hv M 258 0 → hv M' 96 3 = hv M 96 3 → hv M' 258 1 = hv M 258 1 → hv M' 101 3 = hv M 101 3 → hv M' 258 2 = hv M 258 2 → hv M' 106 3 = hv M 106 3 → hv M' 258 3 = hv M 258 3 → Q (.inl (some (.int r))) (M', z, u)) : mq_R mq_PP d 3 0 [some (.ref 8), some (.int x1)] [] (M, z, u) Q := by
  obtain ⟨l0, l1, l2, l3, l4, l5⟩ := hl
  refine ly_finish (ha_all (mz_q97, 8) (List.mem_of_getElem? (show mz_Cs[97]? = _ from rfl))) hd hz hm hx (by omega) ?_
  · intro M' r b1 b2 b3 b4 b5 f0 f1 f2
    have e24 : hv M' 234 30 = hv M 234 30 := b5 24 (234, 30) rfl rfl
    have e33 : hv M' 257 0 = hv M 257 0 := b5 33 (257, 0) rfl rfl
    have e0 : hv M' 8 4 = hv M 8 4 := b5 0 (8, 4) rfl rfl
    have e12 : hv M' 44 0 = hv M 44 0 := b5 12 (44, 0) rfl rfl
    have e13 : hv M' 44 1 = hv M 44 1 := b5 13 (44, 1) rfl rfl
    have e14 : hv M' 44 3 = hv M 44 3 := b5 14 (44, 3) rfl rfl
    have e28 : hv M' 234 57 = hv M 234 57 := b5 28 (234, 57) rfl rfl
    have e38 : hv M' 91 1 = hv M 91 1 := b5 38 (91, 1) rfl rfl
    have e48 : hv M' 260 0 = hv M 260 0 := b5 48 (260, 0) rfl rfl
    have e40 : hv M' 96 1 = hv M 96 1 := b5 40 (96, 1) rfl rfl
    have e52 : hv M' 260 1 = hv M 260 1 := b5 52 (260, 1) rfl rfl
    have e42 : hv M' 101 1 = hv M 101 1 := b5 42 (101, 1) rfl rfl
    have e56 : hv M' 260 2 = hv M 260 2 := b5 56 (260, 2) rfl rfl
    have e44 : hv M' 106 1 = hv M 106 1 := b5 44 (106, 1) rfl rfl
    have e60 : hv M' 260 3 = hv M 260 3 := b5 60 (260, 3) rfl rfl
    have e37 : hv M' 91 3 = hv M 91 3 := b5 37 (91, 3) rfl rfl
    have e47 : hv M' 258 0 = hv M 258 0 := b5 47 (258, 0) rfl rfl
    have e39 : hv M' 96 3 = hv M 96 3 := b5 39 (96, 3) rfl rfl
    have e51 : hv M' 258 1 = hv M 258 1 := b5 51 (258, 1) rfl rfl
    have e41 : hv M' 101 3 = hv M 101 3 := b5 41 (101, 3) rfl rfl
    have e55 : hv M' 258 2 = hv M 258 2 := b5 55 (258, 2) rfl rfl
    have e43 : hv M' 106 3 = hv M 106 3 := b5 43 (106, 3) rfl rfl
    have e59 : hv M' 258 3 = hv M 258 3 := b5 59 (258, 3) rfl rfl
    exact k M' r b1 b2 ⟨by omega, by omega, by omega, by omega, by omega, by omega⟩ b4 (b3 271 (by decide) (by decide +kernel)) e0 e24 e38 e48 e40 e52 e42 e56 e44 e60 e37 e47 e39 e51 e41 e55 e43 e59
theorem ly_spoil {X : (Nat → mq_C) → Prop} (hq : mz_Ct mz_GG mq_PP X mz_q99 8) {d z u : Nat} {M : Nat → mq_C} {Q : (Option Value ⊕ Nat) → mq_S → Prop} {x1 : Int32} {x2 : Int32} {x3 : Int32} (hd : 8 ≤ d) (hz : 272 ≤ z) (hm : mz_sh mz_GG M) (hx : X M)
    (w0 : ∀ (M' : Nat → mq_C) (r : Int32), mz_sh mz_GG M' → X M' → mz_fr mz_q99 M M' → (∀ a, a < 8 → M' a = M a) → hb_same mz_GG mz_q99 M M' → 0 ≤ r.toInt → 0 ≤ 1 - r.toInt → Q (.inl (some (.int r))) (M', z, u)) : mq_R mq_PP d 4 0 [some (.ref 8), some (.int x1), some (.int x2), some (.int x3)] [] (M, z, u) Q := by
  refine hb_use mz_GG mq_PP X (q := mz_q99) (vs := [.ref 8, .int x1, .int x2, .int x3]) hq (by decide +kernel) hd (show hb_pk mz_GG [(1, 8), (0, 0), (0, 0), (0, 0)] _ from ⟨⟨List.mem_singleton.mpr rfl, rfl⟩, trivial, trivial, trivial, trivial⟩) hm hx hz ?_ ?_
  · exact hb_nil
  · intro r S hpo
    obtain ⟨b1, b2, b3, b4, b5, p, hp, res, hf, hre⟩ := hpo
    rcases List.mem_cons.mp hp with rfl | hp
    · obtain ⟨x, rfl, hr, hz1, hu1⟩ := mz_re_0 mz_GG hre rfl
      obtain ⟨M', z', u'⟩ := S
      cases hz1
      cases hu1
      obtain ⟨f0, hf⟩ := hb_unc hf
      have f0 : 0 ≤ 0 + (1 * res + 0) := f0
      rw [← hr] at f0
      obtain ⟨f1, hf⟩ := hb_unc hf
      have f1 : 0 ≤ 1 + ((-1) * res + 0) := f1
      rw [← hr] at f1
      exact w0 M' x b1 b2 b3 b4 b5 (by have h1 := f0; omega) (by have h1 := f1; omega)
    cases hp
theorem lu_spoil {d z u : Nat} {M : Nat → mq_C} {Q : (Option Value ⊕ Nat) → mq_S → Prop} {x1 : Int32} {x2 : Int32} {x3 : Int32} (hd : 8 ≤ d) (hz : 272 ≤ z) (hm : mz_sh mz_GG M) (hx : HX M) (hl : lw M)
    (k : ∀ (M' : Nat → mq_C) (r : Int32), mz_sh mz_GG M' → HX M' → lw M' → (∀ a, a < 8 → M' a = M a) → M' 271 = M 271 → hv M' 8 4 = hv M 8 4 → hv M' 234 30 = hv M 234 30 → hv M' 91 1 = hv M 91 1 → hv M' 260 0 = hv M 260 0 → hv M' 96 1 = hv M 96 1 → hv M' 260 1 = hv M 260 1 → hv M' 101 1 = hv M 101 1 → hv M' 260 2 = hv M 260 2 → hv M' 106 1 = hv M 106 1 → hv M' 260 3 = hv M 260 3 → hv M' 91 3 = hv M 91 3 → hv M' 258 0 = hv M 258 0 → hv M' 96 3 = hv M 96 3 → hv M' 258 1 = hv M 258 1 → hv M' 101 3 = hv M 101 3 → hv M' 258 2 = hv M 258 2 → hv M' 106 3 = hv M 106 3 → hv M' 258 3 = hv M 258 3 → Q (.inl (some (.int r))) (M', z, u)) : mq_R mq_PP d 4 0 [some (.ref 8), some (.int x1), some (.int x2), some (.int x3)] [] (M, z, u) Q := by
  obtain ⟨l0, l1, l2, l3, l4, l5⟩ := hl
  refine ly_spoil (ha_all (mz_q99, 8) (List.mem_of_getElem? (show mz_Cs[99]? = _ from rfl))) hd hz hm hx ?_
  · intro M' r b1 b2 b3 b4 b5 f0 f1
    have e9 : hv M' 33 3 = hv M 33 3 := b5 9 (33, 3) rfl rfl
    have e10 : hv M' 33 5 = hv M 33 5 := b5 10 (33, 5) rfl rfl
    have e24 : hv M' 234 30 = hv M 234 30 := b5 24 (234, 30) rfl rfl
    have e33 : hv M' 257 0 = hv M 257 0 := b5 33 (257, 0) rfl rfl
    have e0 : hv M' 8 4 = hv M 8 4 := b5 0 (8, 4) rfl rfl
    have e12 : hv M' 44 0 = hv M 44 0 := b5 12 (44, 0) rfl rfl
    have e13 : hv M' 44 1 = hv M 44 1 := b5 13 (44, 1) rfl rfl
    have e14 : hv M' 44 3 = hv M 44 3 := b5 14 (44, 3) rfl rfl
    have e28 : hv M' 234 57 = hv M 234 57 := b5 28 (234, 57) rfl rfl
    have e38 : hv M' 91 1 = hv M 91 1 := b5 38 (91, 1) rfl rfl
    have e48 : hv M' 260 0 = hv M 260 0 := b5 48 (260, 0) rfl rfl
    have e40 : hv M' 96 1 = hv M 96 1 := b5 40 (96, 1) rfl rfl
    have e52 : hv M' 260 1 = hv M 260 1 := b5 52 (260, 1) rfl rfl
    have e42 : hv M' 101 1 = hv M 101 1 := b5 42 (101, 1) rfl rfl
    have e56 : hv M' 260 2 = hv M 260 2 := b5 56 (260, 2) rfl rfl
    have e44 : hv M' 106 1 = hv M 106 1 := b5 44 (106, 1) rfl rfl
    have e60 : hv M' 260 3 = hv M 260 3 := b5 60 (260, 3) rfl rfl
    have e37 : hv M' 91 3 = hv M 91 3 := b5 37 (91, 3) rfl rfl
    have e47 : hv M' 258 0 = hv M 258 0 := b5 47 (258, 0) rfl rfl
    have e39 : hv M' 96 3 = hv M 96 3 := b5 39 (96, 3) rfl rfl
    have e51 : hv M' 258 1 = hv M 258 1 := b5 51 (258, 1) rfl rfl
    have e41 : hv M' 101 3 = hv M 101 3 := b5 41 (101, 3) rfl rfl
    have e55 : hv M' 258 2 = hv M 258 2 := b5 55 (258, 2) rfl rfl
    have e43 : hv M' 106 3 = hv M 106 3 := b5 43 (106, 3) rfl rfl
    have e59 : hv M' 258 3 = hv M 258 3 := b5 59 (258, 3) rfl rfl
    exact k M' r b1 b2 ⟨by omega, by omega, by omega, by omega, by omega, by omega⟩ b4 (b3 271 (by decide) (by decide +kernel)) e0 e24 e38 e48 e40 e52 e42 e56 e44 e60 e37 e47 e39 e51 e41 e55 e43 e59
theorem ly_peek {X : (Nat → mq_C) → Prop} (hq : mz_Ct mz_GG mq_PP X mz_q100 3) {d z u : Nat} {M : Nat → mq_C} {Q : (Option Value ⊕ Nat) → mq_S → Prop} {x1 : Int32} {x2 : Int32} (hd : 3 ≤ d) (hz : 272 ≤ z) (hm : mz_sh mz_GG M) (hx : X M)
    (w0 : ∀ (M' : Nat → mq_C) (r : Int32), mz_sh mz_GG M' → X M' → mz_fr mz_q100 M M' → (∀ a, a < 8 → M' a = M a) → hb_same mz_GG mz_q100 M M' → Q (.inl (some (.int r))) (M', z, u)) : mq_R mq_PP d 5 0 [some (.ref 8), some (.int x1), some (.int x2)] [] (M, z, u) Q := by
  refine hb_use mz_GG mq_PP X (q := mz_q100) (vs := [.ref 8, .int x1, .int x2]) hq (by decide +kernel) hd (show hb_pk mz_GG [(1, 8), (0, 0), (0, 0)] _ from ⟨⟨List.mem_singleton.mpr rfl, rfl⟩, trivial, trivial, trivial⟩) hm hx hz ?_ ?_
  · exact hb_nil
  · intro r S hpo
    obtain ⟨b1, b2, b3, b4, b5, p, hp, res, hf, hre⟩ := hpo
    rcases List.mem_cons.mp hp with rfl | hp
    · obtain ⟨x, rfl, hr, hz1, hu1⟩ := mz_re_0 mz_GG hre rfl
      obtain ⟨M', z', u'⟩ := S
      cases hz1
      cases hu1
      exact w0 M' x b1 b2 b3 b4 b5 
    cases hp
theorem lu_peek {d z u : Nat} {M : Nat → mq_C} {Q : (Option Value ⊕ Nat) → mq_S → Prop} {x1 : Int32} {x2 : Int32} (hd : 3 ≤ d) (hz : 272 ≤ z) (hm : mz_sh mz_GG M) (hx : HX M) (hl : lw M)
    (k : ∀ (M' : Nat → mq_C) (r : Int32), mz_sh mz_GG M' → HX M' → lw M' → (∀ a, a < 8 → M' a = M a) → M' 271 = M 271 → hv M' 8 4 = hv M 8 4 → hv M' 234 30 = hv M 234 30 → hv M' 91 1 = hv M 91 1 → hv M' 260 0 = hv M 260 0 → hv M' 96 1 = hv M 96 1 → hv M' 260 1 = hv M 260 1 → hv M' 101 1 = hv M 101 1 → hv M' 260 2 = hv M 260 2 → hv M' 106 1 = hv M 106 1 → hv M' 260 3 = hv M 260 3 → hv M' 91 3 = hv M 91 3 → hv M' 258 0 = hv M 258 0 → hv M' 96 3 = hv M 96 3 → hv M' 258 1 = hv M 258 1 → hv M' 101 3 = hv M 101 3 → hv M' 258 2 = hv M 258 2 → hv M' 106 3 = hv M 106 3 → hv M' 258 3 = hv M 258 3 → Q (.inl (some (.int r))) (M', z, u)) : mq_R mq_PP d 5 0 [some (.ref 8), some (.int x1), some (.int x2)] [] (M, z, u) Q := by
  obtain ⟨l0, l1, l2, l3, l4, l5⟩ := hl
  refine ly_peek (ha_all (mz_q100, 3) (List.mem_of_getElem? (show mz_Cs[100]? = _ from rfl))) hd hz hm hx ?_
  · intro M' r b1 b2 b3 b4 b5
    have e9 : hv M' 33 3 = hv M 33 3 := b5 9 (33, 3) rfl rfl
    have e10 : hv M' 33 5 = hv M 33 5 := b5 10 (33, 5) rfl rfl
    have e24 : hv M' 234 30 = hv M 234 30 := b5 24 (234, 30) rfl rfl
    have e33 : hv M' 257 0 = hv M 257 0 := b5 33 (257, 0) rfl rfl
    have e0 : hv M' 8 4 = hv M 8 4 := b5 0 (8, 4) rfl rfl
    have e12 : hv M' 44 0 = hv M 44 0 := b5 12 (44, 0) rfl rfl
    have e13 : hv M' 44 1 = hv M 44 1 := b5 13 (44, 1) rfl rfl
    have e14 : hv M' 44 3 = hv M 44 3 := b5 14 (44, 3) rfl rfl
    have e28 : hv M' 234 57 = hv M 234 57 := b5 28 (234, 57) rfl rfl
    have e38 : hv M' 91 1 = hv M 91 1 := b5 38 (91, 1) rfl rfl
    have e48 : hv M' 260 0 = hv M 260 0 := b5 48 (260, 0) rfl rfl
    have e40 : hv M' 96 1 = hv M 96 1 := b5 40 (96, 1) rfl rfl
    have e52 : hv M' 260 1 = hv M 260 1 := b5 52 (260, 1) rfl rfl
    have e42 : hv M' 101 1 = hv M 101 1 := b5 42 (101, 1) rfl rfl
    have e56 : hv M' 260 2 = hv M 260 2 := b5 56 (260, 2) rfl rfl
    have e44 : hv M' 106 1 = hv M 106 1 := b5 44 (106, 1) rfl rfl
    have e60 : hv M' 260 3 = hv M 260 3 := b5 60 (260, 3) rfl rfl
    have e37 : hv M' 91 3 = hv M 91 3 := b5 37 (91, 3) rfl rfl
    have e47 : hv M' 258 0 = hv M 258 0 := b5 47 (258, 0) rfl rfl
    have e39 : hv M' 96 3 = hv M 96 3 := b5 39 (96, 3) rfl rfl
    have e51 : hv M' 258 1 = hv M 258 1 := b5 51 (258, 1) rfl rfl
    have e41 : hv M' 101 3 = hv M 101 3 := b5 41 (101, 3) rfl rfl
    have e55 : hv M' 258 2 = hv M 258 2 := b5 55 (258, 2) rfl rfl
    have e43 : hv M' 106 3 = hv M 106 3 := b5 43 (106, 3) rfl rfl
    have e59 : hv M' 258 3 = hv M 258 3 := b5 59 (258, 3) rfl rfl
    exact k M' r b1 b2 ⟨by omega, by omega, by omega, by omega, by omega, by omega⟩ b4 (b3 271 (by decide) (by decide +kernel)) e0 e24 e38 e48 e40 e52 e42 e56 e44 e60 e37 e47 e39 e51 e41 e55 e43 e59
theorem ly_open {X : (Nat → mq_C) → Prop} (hq : mz_Ct mz_GG mq_PP X mz_q101 2) {d z u : Nat} {M : Nat → mq_C} {Q : (Option Value ⊕ Nat) → mq_S → Prop} {x1 : Int32} (hd : 2 ≤ d) (hz : 272 ≤ z) (hm : mz_sh mz_GG M) (hx : X M)
    (w0 : ∀ (M' : Nat → mq_C) (r : Int32), mz_sh mz_GG M' → X M' → mz_fr mz_q101 M M' → (∀ a, a < 8 → M' a = M a) → hb_same mz_GG mz_q101 M M' → r.toInt = (-1) → hv M' 8 4 = hv M 8 4 → 0 ≤ (-4) + hv M 8 4 → Q (.inl (some (.int r))) (M', z, u))
    (w1 : ∀ (M' : Nat → mq_C) (r : Int32), mz_sh mz_GG M' → X M' → mz_fr mz_q101 M M' → (∀ a, a < 8 → M' a = M a) → hb_same mz_GG mz_q101 M M' → r.toInt = (-1) → hv M' 8 4 = hv M 8 4 → 0 ≤ 0 - hv M 8 4 → 0 ≤ (-2) - x1.toInt → Q (.inl (some (.int r))) (M', z, u))
    (w2 : ∀ (M' : Nat → mq_C) (r : Int32), mz_sh mz_GG M' → X M' → mz_fr mz_q101 M M' → (∀ a, a < 8 → M' a = M a) → hb_same mz_GG mz_q101 M M' → r.toInt = (-1) → hv M' 8 4 = hv M 8 4 → 0 ≤ 0 - hv M 8 4 → 0 ≤ x1.toInt → Q (.inl (some (.int r))) (M', z, u))
    (w3 : ∀ (M' : Nat → mq_C) (r : Int32), mz_sh mz_GG M' → X M' → mz_fr mz_q101 M M' → (∀ a, a < 8 → M' a = M a) → hb_same mz_GG mz_q101 M M' → r.toInt = (-1) → hv M' 8 4 = hv M 8 4 → 0 ≤ (-1) + hv M 8 4 → 0 ≤ (-1) - x1.toInt → Q (.inl (some (.int r))) (M', z, u))
    (w4 : ∀ (M' : Nat → mq_C) (r : Int32), mz_sh mz_GG M' → X M' → mz_fr mz_q101 M M' → (∀ a, a < 8 → M' a = M a) → hb_same mz_GG mz_q101 M M' → r.toInt = (-1) → hv M' 8 4 = hv M 8 4 → 0 ≤ (-1) + hv M 8 4 → 0 ≤ x1.toInt - hv M 8 4 → Q (.inl (some (.int r))) (M', z, u))
    (w5 : ∀ (M' : Nat → mq_C) (r : Int32), mz_sh mz_GG M' → X M' → mz_fr mz_q101 M M' → (∀ a, a < 8 → M' a = M a) → hb_same mz_GG mz_q101 M M' → r.toInt = 0 → hv M 8 4 = 0 → x1.toInt = (-1) → hv M' 8 4 = 1 → Q (.inl (some (.int r))) (M', z, u))
    (w6 : ∀ (M' : Nat → mq_C) (r : Int32), mz_sh mz_GG M' → X M' → mz_fr mz_q101 M M' → (∀ a, a < 8 → M' a = M a) → hb_same mz_GG mz_q101 M M' → r.toInt = hv M 8 4 → 0 ≤ (-1) + hv M 8 4 → 0 ≤ 3 - hv M 8 4 → 0 ≤ x1.toInt → 0 ≤ (-1) - x1.toInt + hv M 8 4 → hv M' 8 4 = 1 + hv M 8 4 → Q (.inl (some (.int r))) (M', z, u)) : mq_R mq_PP d 6 0 [some (.ref 8), some (.int x1), none] [] (M, z, u) Q := by
  refine hb_use mz_GG mq_PP X (q := mz_q101) (vs := [.ref 8, .int x1]) hq (by decide +kernel) hd (show hb_pk mz_GG [(1, 8), (0, 0)] _ from ⟨⟨List.mem_singleton.mpr rfl, rfl⟩, trivial, trivial⟩) hm hx hz ?_ ?_
  · exact hb_nil
  · intro r S hpo
    obtain ⟨b1, b2, b3, b4, b5, p, hp, res, hf, hre⟩ := hpo
    rcases List.mem_cons.mp hp with rfl | hp
    · obtain ⟨x, rfl, hr, hz1, hu1⟩ := mz_re_0 mz_GG hre rfl
      obtain ⟨M', z', u'⟩ := S
      cases hz1
      cases hu1
      obtain ⟨f0, hf⟩ := hb_unc hf
      have f0 : 0 ≤ 1 + (1 * res + 0) := f0
      rw [← hr] at f0
      obtain ⟨f1, hf⟩ := hb_unc hf
      have f1 : 0 ≤ -1 + ((-1) * res + 0) := f1
      rw [← hr] at f1
      obtain ⟨f2, hf⟩ := hb_unc hf
      have f2 : 0 ≤ 0 + ((-1) * hv M 8 4 + (1 * hv M' 8 4 + 0)) := f2
      obtain ⟨f3, hf⟩ := hb_unc hf
      have f3 : 0 ≤ 0 + (1 * hv M 8 4 + ((-1) * hv M' 8 4 + 0)) := f3
      obtain ⟨f4, hf⟩ := hb_unc hf
      have f4 : 0 ≤ -4 + (1 * hv M 8 4 + 0) := f4
      exact w0 M' x b1 b2 b3 b4 b5 (by have h1 := f0; have h2 := f1; omega) (by have h1 := f2; have h2 := f3; omega) (by have h1 := f4; omega)
    rcases List.mem_cons.mp hp with rfl | hp
    · obtain ⟨x, rfl, hr, hz1, hu1⟩ := mz_re_0 mz_GG hre rfl
      obtain ⟨M', z', u'⟩ := S
      cases hz1
      cases hu1
      obtain ⟨f0, hf⟩ := hb_unc hf
      have f0 : 0 ≤ 1 + (1 * res + 0) := f0
      rw [← hr] at f0
      obtain ⟨f1, hf⟩ := hb_unc hf
      have f1 : 0 ≤ -1 + ((-1) * res + 0) := f1
      rw [← hr] at f1
      obtain ⟨f2, hf⟩ := hb_unc hf
      have f2 : 0 ≤ 0 + ((-1) * hv M 8 4 + (1 * hv M' 8 4 + 0)) := f2
      obtain ⟨f3, hf⟩ := hb_unc hf
      have f3 : 0 ≤ 0 + (1 * hv M 8 4 + ((-1) * hv M' 8 4 + 0)) := f3
      obtain ⟨f4, hf⟩ := hb_unc hf
      have f4 : 0 ≤ 0 + ((-1) * hv M 8 4 + 0) := f4
      obtain ⟨f5, hf⟩ := hb_unc hf
      have f5 : 0 ≤ -2 + ((-1) * x1.toInt + 0) := f5
      exact w1 M' x b1 b2 b3 b4 b5 (by have h1 := f0; have h2 := f1; omega) (by have h1 := f2; have h2 := f3; omega) (by have h1 := f4; omega) (by have h1 := f5; omega)
    rcases List.mem_cons.mp hp with rfl | hp
    · obtain ⟨x, rfl, hr, hz1, hu1⟩ := mz_re_0 mz_GG hre rfl
      obtain ⟨M', z', u'⟩ := S
      cases hz1
      cases hu1
      obtain ⟨f0, hf⟩ := hb_unc hf
      have f0 : 0 ≤ 1 + (1 * res + 0) := f0
      rw [← hr] at f0
      obtain ⟨f1, hf⟩ := hb_unc hf
      have f1 : 0 ≤ -1 + ((-1) * res + 0) := f1
      rw [← hr] at f1
      obtain ⟨f2, hf⟩ := hb_unc hf
      have f2 : 0 ≤ 0 + ((-1) * hv M 8 4 + (1 * hv M' 8 4 + 0)) := f2
      obtain ⟨f3, hf⟩ := hb_unc hf
      have f3 : 0 ≤ 0 + (1 * hv M 8 4 + ((-1) * hv M' 8 4 + 0)) := f3
      obtain ⟨f4, hf⟩ := hb_unc hf
      have f4 : 0 ≤ 0 + ((-1) * hv M 8 4 + 0) := f4
      obtain ⟨f5, hf⟩ := hb_unc hf
      have f5 : 0 ≤ 0 + (1 * x1.toInt + 0) := f5
      exact w2 M' x b1 b2 b3 b4 b5 (by have h1 := f0; have h2 := f1; omega) (by have h1 := f2; have h2 := f3; omega) (by have h1 := f4; omega) (by have h1 := f5; omega)
    rcases List.mem_cons.mp hp with rfl | hp
    · obtain ⟨x, rfl, hr, hz1, hu1⟩ := mz_re_0 mz_GG hre rfl
      obtain ⟨M', z', u'⟩ := S
      cases hz1
      cases hu1
      obtain ⟨f0, hf⟩ := hb_unc hf
      have f0 : 0 ≤ 1 + (1 * res + 0) := f0
      rw [← hr] at f0
      obtain ⟨f1, hf⟩ := hb_unc hf
      have f1 : 0 ≤ -1 + ((-1) * res + 0) := f1
      rw [← hr] at f1
      obtain ⟨f2, hf⟩ := hb_unc hf
      have f2 : 0 ≤ 0 + ((-1) * hv M 8 4 + (1 * hv M' 8 4 + 0)) := f2
      obtain ⟨f3, hf⟩ := hb_unc hf
      have f3 : 0 ≤ 0 + (1 * hv M 8 4 + ((-1) * hv M' 8 4 + 0)) := f3
      obtain ⟨f4, hf⟩ := hb_unc hf
      have f4 : 0 ≤ -1 + (1 * hv M 8 4 + 0) := f4
      obtain ⟨f5, hf⟩ := hb_unc hf
      have f5 : 0 ≤ -1 + ((-1) * x1.toInt + 0) := f5
      exact w3 M' x b1 b2 b3 b4 b5 (by have h1 := f0; have h2 := f1; omega) (by have h1 := f2; have h2 := f3; omega) (by have h1 := f4; omega) (by have h1 := f5; omega)
    rcases List.mem_cons.mp hp with rfl | hp
    · obtain ⟨x, rfl, hr, hz1, hu1⟩ := mz_re_0 mz_GG hre rfl
      obtain ⟨M', z', u'⟩ := S
      cases hz1
      cases hu1
      obtain ⟨f0, hf⟩ := hb_unc hf
      have f0 : 0 ≤ 1 + (1 * res + 0) := f0
      rw [← hr] at f0
      obtain ⟨f1, hf⟩ := hb_unc hf
      have f1 : 0 ≤ -1 + ((-1) * res + 0) := f1
      rw [← hr] at f1
      obtain ⟨f2, hf⟩ := hb_unc hf
      have f2 : 0 ≤ 0 + ((-1) * hv M 8 4 + (1 * hv M' 8 4 + 0)) := f2
      obtain ⟨f3, hf⟩ := hb_unc hf
      have f3 : 0 ≤ 0 + (1 * hv M 8 4 + ((-1) * hv M' 8 4 + 0)) := f3
      obtain ⟨f4, hf⟩ := hb_unc hf
      have f4 : 0 ≤ -1 + (1 * hv M 8 4 + 0) := f4
      obtain ⟨f5, hf⟩ := hb_unc hf
      have f5 : 0 ≤ 0 + (1 * x1.toInt + ((-1) * hv M 8 4 + 0)) := f5
      exact w4 M' x b1 b2 b3 b4 b5 (by have h1 := f0; have h2 := f1; omega) (by have h1 := f2; have h2 := f3; omega) (by have h1 := f4; omega) (by have h1 := f5; omega)
    rcases List.mem_cons.mp hp with rfl | hp
    · obtain ⟨x, rfl, hr, hz1, hu1⟩ := mz_re_0 mz_GG hre rfl
      obtain ⟨M', z', u'⟩ := S
      cases hz1
      cases hu1
      obtain ⟨f0, hf⟩ := hb_unc hf
      have f0 : 0 ≤ 0 + (1 * res + 0) := f0
      rw [← hr] at f0
      obtain ⟨f1, hf⟩ := hb_unc hf
      have f1 : 0 ≤ 0 + ((-1) * res + 0) := f1
      rw [← hr] at f1
      obtain ⟨f2, hf⟩ := hb_unc hf
      have f2 : 0 ≤ 0 + (1 * hv M 8 4 + 0) := f2
      obtain ⟨f3, hf⟩ := hb_unc hf
      have f3 : 0 ≤ 0 + ((-1) * hv M 8 4 + 0) := f3
      obtain ⟨f4, hf⟩ := hb_unc hf
      have f4 : 0 ≤ 1 + (1 * x1.toInt + 0) := f4
      obtain ⟨f5, hf⟩ := hb_unc hf
      have f5 : 0 ≤ -1 + ((-1) * x1.toInt + 0) := f5
      obtain ⟨f6, hf⟩ := hb_unc hf
      have f6 : 0 ≤ -1 + (1 * hv M' 8 4 + 0) := f6
      obtain ⟨f7, hf⟩ := hb_unc hf
      have f7 : 0 ≤ 1 + ((-1) * hv M' 8 4 + 0) := f7
      exact w5 M' x b1 b2 b3 b4 b5 (by have h1 := f0; have h2 := f1; omega) (by have h1 := f2; have h2 := f3; omega) (by have h1 := f4; have h2 := f5; omega) (by have h1 := f6; have h2 := f7; omega)
    rcases List.mem_cons.mp hp with rfl | hp
    · obtain ⟨x, rfl, hr, hz1, hu1⟩ := mz_re_0 mz_GG hre rfl
      obtain ⟨M', z', u'⟩ := S
      cases hz1
      cases hu1
      obtain ⟨f0, hf⟩ := hb_unc hf
      have f0 : 0 ≤ 0 + ((-1) * hv M 8 4 + (1 * res + 0)) := f0
      rw [← hr] at f0
      obtain ⟨f1, hf⟩ := hb_unc hf
      have f1 : 0 ≤ 0 + (1 * hv M 8 4 + ((-1) * res + 0)) := f1
      rw [← hr] at f1
      obtain ⟨f2, hf⟩ := hb_unc hf
      have f2 : 0 ≤ -1 + (1 * hv M 8 4 + 0) := f2
      obtain ⟨f3, hf⟩ := hb_unc hf
      have f3 : 0 ≤ 3 + ((-1) * hv M 8 4 + 0) := f3
      obtain ⟨f4, hf⟩ := hb_unc hf
      have f4 : 0 ≤ 0 + (1 * x1.toInt + 0) := f4
      obtain ⟨f5, hf⟩ := hb_unc hf
      have f5 : 0 ≤ -1 + ((-1) * x1.toInt + (1 * hv M 8 4 + 0)) := f5
      obtain ⟨f6, hf⟩ := hb_unc hf
      have f6 : 0 ≤ -1 + ((-1) * hv M 8 4 + (1 * hv M' 8 4 + 0)) := f6
      obtain ⟨f7, hf⟩ := hb_unc hf
      have f7 : 0 ≤ 1 + (1 * hv M 8 4 + ((-1) * hv M' 8 4 + 0)) := f7
      exact w6 M' x b1 b2 b3 b4 b5 (by have h1 := f0; have h2 := f1; omega) (by have h1 := f2; omega) (by have h1 := f3; omega) (by have h1 := f4; omega) (by have h1 := f5; omega) (by have h1 := f6; have h2 := f7; omega)
    cases hp
theorem lu_open {d z u : Nat} {M : Nat → mq_C} {Q : (Option Value ⊕ Nat) → mq_S → Prop} {x1 : Int32} (hd : 2 ≤ d) (hz : 272 ≤ z) (hm : mz_sh mz_GG M) (hx : HX M) (hl : lw M)
    (k : ∀ (M' : Nat → mq_C) (r : Int32), mz_sh mz_GG M' → HX M' → lw M' → (∀ a, a < 8 → M' a = M a) → M' 271 = M 271 → hv M' 234 30 = hv M 234 30 → hv M' 91 1 = hv M 91 1 → hv M' 260 0 = hv M 260 0 → hv M' 96 1 = hv M 96 1 → hv M' 260 1 = hv M 260 1 → hv M' 101 1 = hv M 101 1 → hv M' 260 2 = hv M 260 2 → hv M' 106 1 = hv M 106 1 → hv M' 260 3 = hv M 260 3 → hv M' 91 3 = hv M 91 3 → hv M' 258 0 = hv M 258 0 → hv M' 96 3 = hv M 96 3 → hv M' 258 1 = hv M 258 1 → hv M' 101 3 = hv M 101 3 → hv M' 258 2 = hv M 258 2 → hv M' 106 3 = hv M 106 3 → hv M' 258 3 = hv M 258 3 → lr_open (hv M 8 4) x1.toInt (hv M' 8 4) r.toInt → Q (.inl (some (.int r))) (M', z, u)) : mq_R mq_PP d 6 0 [some (.ref 8), some (.int x1), none] [] (M, z, u) Q := by
  obtain ⟨l0, l1, l2, l3, l4, l5⟩ := hl
  refine ly_open (ha_all (mz_q101, 2) (List.mem_of_getElem? (show mz_Cs[101]? = _ from rfl))) hd hz hm hx ?_ ?_ ?_ ?_ ?_ ?_ ?_
  · intro M' r b1 b2 b3 b4 b5 f0 f1 f2
    have e9 : hv M' 33 3 = hv M 33 3 := b5 9 (33, 3) rfl rfl
    have e10 : hv M' 33 5 = hv M 33 5 := b5 10 (33, 5) rfl rfl
    have e24 : hv M' 234 30 = hv M 234 30 := b5 24 (234, 30) rfl rfl
    have e33 : hv M' 257 0 = hv M 257 0 := b5 33 (257, 0) rfl rfl
    have e12 : hv M' 44 0 = hv M 44 0 := b5 12 (44, 0) rfl rfl
    have e13 : hv M' 44 1 = hv M 44 1 := b5 13 (44, 1) rfl rfl
    have e14 : hv M' 44 3 = hv M 44 3 := b5 14 (44, 3) rfl rfl
    have e28 : hv M' 234 57 = hv M 234 57 := b5 28 (234, 57) rfl rfl
    have e38 : hv M' 91 1 = hv M 91 1 := b5 38 (91, 1) rfl rfl
    have e48 : hv M' 260 0 = hv M 260 0 := b5 48 (260, 0) rfl rfl
    have e40 : hv M' 96 1 = hv M 96 1 := b5 40 (96, 1) rfl rfl
    have e52 : hv M' 260 1 = hv M 260 1 := b5 52 (260, 1) rfl rfl
    have e42 : hv M' 101 1 = hv M 101 1 := b5 42 (101, 1) rfl rfl
    have e56 : hv M' 260 2 = hv M 260 2 := b5 56 (260, 2) rfl rfl
    have e44 : hv M' 106 1 = hv M 106 1 := b5 44 (106, 1) rfl rfl
    have e60 : hv M' 260 3 = hv M 260 3 := b5 60 (260, 3) rfl rfl
    have e37 : hv M' 91 3 = hv M 91 3 := b5 37 (91, 3) rfl rfl
    have e47 : hv M' 258 0 = hv M 258 0 := b5 47 (258, 0) rfl rfl
    have e39 : hv M' 96 3 = hv M 96 3 := b5 39 (96, 3) rfl rfl
    have e51 : hv M' 258 1 = hv M 258 1 := b5 51 (258, 1) rfl rfl
    have e41 : hv M' 101 3 = hv M 101 3 := b5 41 (101, 3) rfl rfl
    have e55 : hv M' 258 2 = hv M 258 2 := b5 55 (258, 2) rfl rfl
    have e43 : hv M' 106 3 = hv M 106 3 := b5 43 (106, 3) rfl rfl
    have e59 : hv M' 258 3 = hv M 258 3 := b5 59 (258, 3) rfl rfl
    exact k M' r b1 b2 ⟨by omega, by omega, by omega, by omega, by omega, by omega⟩ b4 (b3 271 (by decide) (by decide +kernel)) e24 e38 e48 e40 e52 e42 e56 e44 e60 e37 e47 e39 e51 e41 e55 e43 e59 (by unfold lr_open; omega)
  · intro M' r b1 b2 b3 b4 b5 f0 f1 f2 f3
    have e9 : hv M' 33 3 = hv M 33 3 := b5 9 (33, 3) rfl rfl
    have e10 : hv M' 33 5 = hv M 33 5 := b5 10 (33, 5) rfl rfl
    have e24 : hv M' 234 30 = hv M 234 30 := b5 24 (234, 30) rfl rfl
    have e33 : hv M' 257 0 = hv M 257 0 := b5 33 (257, 0) rfl rfl
    have e12 : hv M' 44 0 = hv M 44 0 := b5 12 (44, 0) rfl rfl
    have e13 : hv M' 44 1 = hv M 44 1 := b5 13 (44, 1) rfl rfl
    have e14 : hv M' 44 3 = hv M 44 3 := b5 14 (44, 3) rfl rfl
    have e28 : hv M' 234 57 = hv M 234 57 := b5 28 (234, 57) rfl rfl
    have e38 : hv M' 91 1 = hv M 91 1 := b5 38 (91, 1) rfl rfl
    have e48 : hv M' 260 0 = hv M 260 0 := b5 48 (260, 0) rfl rfl
    have e40 : hv M' 96 1 = hv M 96 1 := b5 40 (96, 1) rfl rfl
    have e52 : hv M' 260 1 = hv M 260 1 := b5 52 (260, 1) rfl rfl
    have e42 : hv M' 101 1 = hv M 101 1 := b5 42 (101, 1) rfl rfl
    have e56 : hv M' 260 2 = hv M 260 2 := b5 56 (260, 2) rfl rfl
    have e44 : hv M' 106 1 = hv M 106 1 := b5 44 (106, 1) rfl rfl
    have e60 : hv M' 260 3 = hv M 260 3 := b5 60 (260, 3) rfl rfl
    have e37 : hv M' 91 3 = hv M 91 3 := b5 37 (91, 3) rfl rfl
    have e47 : hv M' 258 0 = hv M 258 0 := b5 47 (258, 0) rfl rfl
    have e39 : hv M' 96 3 = hv M 96 3 := b5 39 (96, 3) rfl rfl
    have e51 : hv M' 258 1 = hv M 258 1 := b5 51 (258, 1) rfl rfl
    have e41 : hv M' 101 3 = hv M 101 3 := b5 41 (101, 3) rfl rfl
    have e55 : hv M' 258 2 = hv M 258 2 := b5 55 (258, 2) rfl rfl
    have e43 : hv M' 106 3 = hv M 106 3 := b5 43 (106, 3) rfl rfl
    have e59 : hv M' 258 3 = hv M 258 3 := b5 59 (258, 3) rfl rfl
    exact k M' r b1 b2 ⟨by omega, by omega, by omega, by omega, by omega, by omega⟩ b4 (b3 271 (by decide) (by decide +kernel)) e24 e38 e48 e40 e52 e42 e56 e44 e60 e37 e47 e39 e51 e41 e55 e43 e59 (by unfold lr_open; omega)
  · intro M' r b1 b2 b3 b4 b5 f0 f1 f2 f3
    have e9 : hv M' 33 3 = hv M 33 3 := b5 9 (33, 3) rfl rfl
    have e10 : hv M' 33 5 = hv M 33 5 := b5 10 (33, 5) rfl rfl
    have e24 : hv M' 234 30 = hv M 234 30 := b5 24 (234, 30) rfl rfl
    have e33 : hv M' 257 0 = hv M 257 0 := b5 33 (257, 0) rfl rfl
    have e12 : hv M' 44 0 = hv M 44 0 := b5 12 (44, 0) rfl rfl
    have e13 : hv M' 44 1 = hv M 44 1 := b5 13 (44, 1) rfl rfl
    have e14 : hv M' 44 3 = hv M 44 3 := b5 14 (44, 3) rfl rfl
    have e28 : hv M' 234 57 = hv M 234 57 := b5 28 (234, 57) rfl rfl
    have e38 : hv M' 91 1 = hv M 91 1 := b5 38 (91, 1) rfl rfl
    have e48 : hv M' 260 0 = hv M 260 0 := b5 48 (260, 0) rfl rfl
    have e40 : hv M' 96 1 = hv M 96 1 := b5 40 (96, 1) rfl rfl
    have e52 : hv M' 260 1 = hv M 260 1 := b5 52 (260, 1) rfl rfl
    have e42 : hv M' 101 1 = hv M 101 1 := b5 42 (101, 1) rfl rfl
    have e56 : hv M' 260 2 = hv M 260 2 := b5 56 (260, 2) rfl rfl
    have e44 : hv M' 106 1 = hv M 106 1 := b5 44 (106, 1) rfl rfl
    have e60 : hv M' 260 3 = hv M 260 3 := b5 60 (260, 3) rfl rfl
    have e37 : hv M' 91 3 = hv M 91 3 := b5 37 (91, 3) rfl rfl
    have e47 : hv M' 258 0 = hv M 258 0 := b5 47 (258, 0) rfl rfl
    have e39 : hv M' 96 3 = hv M 96 3 := b5 39 (96, 3) rfl rfl
    have e51 : hv M' 258 1 = hv M 258 1 := b5 51 (258, 1) rfl rfl
    have e41 : hv M' 101 3 = hv M 101 3 := b5 41 (101, 3) rfl rfl
    have e55 : hv M' 258 2 = hv M 258 2 := b5 55 (258, 2) rfl rfl
    have e43 : hv M' 106 3 = hv M 106 3 := b5 43 (106, 3) rfl rfl
    have e59 : hv M' 258 3 = hv M 258 3 := b5 59 (258, 3) rfl rfl
    exact k M' r b1 b2 ⟨by omega, by omega, by omega, by omega, by omega, by omega⟩ b4 (b3 271 (by decide) (by decide +kernel)) e24 e38 e48 e40 e52 e42 e56 e44 e60 e37 e47 e39 e51 e41 e55 e43 e59 (by unfold lr_open; omega)
  · intro M' r b1 b2 b3 b4 b5 f0 f1 f2 f3
    have e9 : hv M' 33 3 = hv M 33 3 := b5 9 (33, 3) rfl rfl
    have e10 : hv M' 33 5 = hv M 33 5 := b5 10 (33, 5) rfl rfl
    have e24 : hv M' 234 30 = hv M 234 30 := b5 24 (234, 30) rfl rfl
    have e33 : hv M' 257 0 = hv M 257 0 := b5 33 (257, 0) rfl rfl
    have e12 : hv M' 44 0 = hv M 44 0 := b5 12 (44, 0) rfl rfl
    have e13 : hv M' 44 1 = hv M 44 1 := b5 13 (44, 1) rfl rfl
    have e14 : hv M' 44 3 = hv M 44 3 := b5 14 (44, 3) rfl rfl
    have e28 : hv M' 234 57 = hv M 234 57 := b5 28 (234, 57) rfl rfl
    have e38 : hv M' 91 1 = hv M 91 1 := b5 38 (91, 1) rfl rfl
    have e48 : hv M' 260 0 = hv M 260 0 := b5 48 (260, 0) rfl rfl
    have e40 : hv M' 96 1 = hv M 96 1 := b5 40 (96, 1) rfl rfl
    have e52 : hv M' 260 1 = hv M 260 1 := b5 52 (260, 1) rfl rfl
    have e42 : hv M' 101 1 = hv M 101 1 := b5 42 (101, 1) rfl rfl
    have e56 : hv M' 260 2 = hv M 260 2 := b5 56 (260, 2) rfl rfl
    have e44 : hv M' 106 1 = hv M 106 1 := b5 44 (106, 1) rfl rfl
    have e60 : hv M' 260 3 = hv M 260 3 := b5 60 (260, 3) rfl rfl
    have e37 : hv M' 91 3 = hv M 91 3 := b5 37 (91, 3) rfl rfl
    have e47 : hv M' 258 0 = hv M 258 0 := b5 47 (258, 0) rfl rfl
    have e39 : hv M' 96 3 = hv M 96 3 := b5 39 (96, 3) rfl rfl
    have e51 : hv M' 258 1 = hv M 258 1 := b5 51 (258, 1) rfl rfl
    have e41 : hv M' 101 3 = hv M 101 3 := b5 41 (101, 3) rfl rfl
    have e55 : hv M' 258 2 = hv M 258 2 := b5 55 (258, 2) rfl rfl
    have e43 : hv M' 106 3 = hv M 106 3 := b5 43 (106, 3) rfl rfl
    have e59 : hv M' 258 3 = hv M 258 3 := b5 59 (258, 3) rfl rfl
    exact k M' r b1 b2 ⟨by omega, by omega, by omega, by omega, by omega, by omega⟩ b4 (b3 271 (by decide) (by decide +kernel)) e24 e38 e48 e40 e52 e42 e56 e44 e60 e37 e47 e39 e51 e41 e55 e43 e59 (by unfold lr_open; omega)
  · intro M' r b1 b2 b3 b4 b5 f0 f1 f2 f3
    have e9 : hv M' 33 3 = hv M 33 3 := b5 9 (33, 3) rfl rfl
    have e10 : hv M' 33 5 = hv M 33 5 := b5 10 (33, 5) rfl rfl
    have e24 : hv M' 234 30 = hv M 234 30 := b5 24 (234, 30) rfl rfl
    have e33 : hv M' 257 0 = hv M 257 0 := b5 33 (257, 0) rfl rfl
    have e12 : hv M' 44 0 = hv M 44 0 := b5 12 (44, 0) rfl rfl
    have e13 : hv M' 44 1 = hv M 44 1 := b5 13 (44, 1) rfl rfl
    have e14 : hv M' 44 3 = hv M 44 3 := b5 14 (44, 3) rfl rfl
    have e28 : hv M' 234 57 = hv M 234 57 := b5 28 (234, 57) rfl rfl
    have e38 : hv M' 91 1 = hv M 91 1 := b5 38 (91, 1) rfl rfl
    have e48 : hv M' 260 0 = hv M 260 0 := b5 48 (260, 0) rfl rfl
    have e40 : hv M' 96 1 = hv M 96 1 := b5 40 (96, 1) rfl rfl
    have e52 : hv M' 260 1 = hv M 260 1 := b5 52 (260, 1) rfl rfl
    have e42 : hv M' 101 1 = hv M 101 1 := b5 42 (101, 1) rfl rfl
    have e56 : hv M' 260 2 = hv M 260 2 := b5 56 (260, 2) rfl rfl
    have e44 : hv M' 106 1 = hv M 106 1 := b5 44 (106, 1) rfl rfl
    have e60 : hv M' 260 3 = hv M 260 3 := b5 60 (260, 3) rfl rfl
    have e37 : hv M' 91 3 = hv M 91 3 := b5 37 (91, 3) rfl rfl
    have e47 : hv M' 258 0 = hv M 258 0 := b5 47 (258, 0) rfl rfl
    have e39 : hv M' 96 3 = hv M 96 3 := b5 39 (96, 3) rfl rfl
    have e51 : hv M' 258 1 = hv M 258 1 := b5 51 (258, 1) rfl rfl
    have e41 : hv M' 101 3 = hv M 101 3 := b5 41 (101, 3) rfl rfl
    have e55 : hv M' 258 2 = hv M 258 2 := b5 55 (258, 2) rfl rfl
    have e43 : hv M' 106 3 = hv M 106 3 := b5 43 (106, 3) rfl rfl
    have e59 : hv M' 258 3 = hv M 258 3 := b5 59 (258, 3) rfl rfl
    exact k M' r b1 b2 ⟨by omega, by omega, by omega, by omega, by omega, by omega⟩ b4 (b3 271 (by decide) (by decide +kernel)) e24 e38 e48 e40 e52 e42 e56 e44 e60 e37 e47 e39 e51 e41 e55 e43 e59 (by unfold lr_open; omega)
  · intro M' r b1 b2 b3 b4 b5 f0 f1 f2 f3
    have e9 : hv M' 33 3 = hv M 33 3 := b5 9 (33, 3) rfl rfl
    have e10 : hv M' 33 5 = hv M 33 5 := b5 10 (33, 5) rfl rfl
    have e24 : hv M' 234 30 = hv M 234 30 := b5 24 (234, 30) rfl rfl
    have e33 : hv M' 257 0 = hv M 257 0 := b5 33 (257, 0) rfl rfl
    have e12 : hv M' 44 0 = hv M 44 0 := b5 12 (44, 0) rfl rfl
    have e13 : hv M' 44 1 = hv M 44 1 := b5 13 (44, 1) rfl rfl
    have e14 : hv M' 44 3 = hv M 44 3 := b5 14 (44, 3) rfl rfl
    have e28 : hv M' 234 57 = hv M 234 57 := b5 28 (234, 57) rfl rfl
    have e38 : hv M' 91 1 = hv M 91 1 := b5 38 (91, 1) rfl rfl
    have e48 : hv M' 260 0 = hv M 260 0 := b5 48 (260, 0) rfl rfl
    have e40 : hv M' 96 1 = hv M 96 1 := b5 40 (96, 1) rfl rfl
    have e52 : hv M' 260 1 = hv M 260 1 := b5 52 (260, 1) rfl rfl
    have e42 : hv M' 101 1 = hv M 101 1 := b5 42 (101, 1) rfl rfl
    have e56 : hv M' 260 2 = hv M 260 2 := b5 56 (260, 2) rfl rfl
    have e44 : hv M' 106 1 = hv M 106 1 := b5 44 (106, 1) rfl rfl
    have e60 : hv M' 260 3 = hv M 260 3 := b5 60 (260, 3) rfl rfl
    have e37 : hv M' 91 3 = hv M 91 3 := b5 37 (91, 3) rfl rfl
    have e47 : hv M' 258 0 = hv M 258 0 := b5 47 (258, 0) rfl rfl
    have e39 : hv M' 96 3 = hv M 96 3 := b5 39 (96, 3) rfl rfl
    have e51 : hv M' 258 1 = hv M 258 1 := b5 51 (258, 1) rfl rfl
    have e41 : hv M' 101 3 = hv M 101 3 := b5 41 (101, 3) rfl rfl
    have e55 : hv M' 258 2 = hv M 258 2 := b5 55 (258, 2) rfl rfl
    have e43 : hv M' 106 3 = hv M 106 3 := b5 43 (106, 3) rfl rfl
    have e59 : hv M' 258 3 = hv M 258 3 := b5 59 (258, 3) rfl rfl
    exact k M' r b1 b2 ⟨by omega, by omega, by omega, by omega, by omega, by omega⟩ b4 (b3 271 (by decide) (by decide +kernel)) e24 e38 e48 e40 e52 e42 e56 e44 e60 e37 e47 e39 e51 e41 e55 e43 e59 (by unfold lr_open; omega)
  · intro M' r b1 b2 b3 b4 b5 f0 f1 f2 f3 f4 f5
    have e9 : hv M' 33 3 = hv M 33 3 := b5 9 (33, 3) rfl rfl
    have e10 : hv M' 33 5 = hv M 33 5 := b5 10 (33, 5) rfl rfl
    have e24 : hv M' 234 30 = hv M 234 30 := b5 24 (234, 30) rfl rfl
    have e33 : hv M' 257 0 = hv M 257 0 := b5 33 (257, 0) rfl rfl
    have e12 : hv M' 44 0 = hv M 44 0 := b5 12 (44, 0) rfl rfl
    have e13 : hv M' 44 1 = hv M 44 1 := b5 13 (44, 1) rfl rfl
    have e14 : hv M' 44 3 = hv M 44 3 := b5 14 (44, 3) rfl rfl
    have e28 : hv M' 234 57 = hv M 234 57 := b5 28 (234, 57) rfl rfl
    have e38 : hv M' 91 1 = hv M 91 1 := b5 38 (91, 1) rfl rfl
    have e48 : hv M' 260 0 = hv M 260 0 := b5 48 (260, 0) rfl rfl
    have e40 : hv M' 96 1 = hv M 96 1 := b5 40 (96, 1) rfl rfl
    have e52 : hv M' 260 1 = hv M 260 1 := b5 52 (260, 1) rfl rfl
    have e42 : hv M' 101 1 = hv M 101 1 := b5 42 (101, 1) rfl rfl
    have e56 : hv M' 260 2 = hv M 260 2 := b5 56 (260, 2) rfl rfl
    have e44 : hv M' 106 1 = hv M 106 1 := b5 44 (106, 1) rfl rfl
    have e60 : hv M' 260 3 = hv M 260 3 := b5 60 (260, 3) rfl rfl
    have e37 : hv M' 91 3 = hv M 91 3 := b5 37 (91, 3) rfl rfl
    have e47 : hv M' 258 0 = hv M 258 0 := b5 47 (258, 0) rfl rfl
    have e39 : hv M' 96 3 = hv M 96 3 := b5 39 (96, 3) rfl rfl
    have e51 : hv M' 258 1 = hv M 258 1 := b5 51 (258, 1) rfl rfl
    have e41 : hv M' 101 3 = hv M 101 3 := b5 41 (101, 3) rfl rfl
    have e55 : hv M' 258 2 = hv M 258 2 := b5 55 (258, 2) rfl rfl
    have e43 : hv M' 106 3 = hv M 106 3 := b5 43 (106, 3) rfl rfl
    have e59 : hv M' 258 3 = hv M 258 3 := b5 59 (258, 3) rfl rfl
    exact k M' r b1 b2 ⟨by omega, by omega, by omega, by omega, by omega, by omega⟩ b4 (b3 271 (by decide) (by decide +kernel)) e24 e38 e48 e40 e52 e42 e56 e44 e60 e37 e47 e39 e51 e41 e55 e43 e59 (by unfold lr_open; omega)
theorem ly_append {X : (Nat → mq_C) → Prop} (hq : mz_Ct mz_GG mq_PP X mz_q106 2) {d z u : Nat} {M : Nat → mq_C} {Q : (Option Value ⊕ Nat) → mq_S → Prop} {x1 : Int32} {x2 : Int32} (hd : 2 ≤ d) (hz : 272 ≤ z) (hm : mz_sh mz_GG M) (hx : X M)
    (w0 : ∀ (M' : Nat → mq_C) (r : Int32), mz_sh mz_GG M' → X M' → mz_fr mz_q106 M M' → (∀ a, a < 8 → M' a = M a) → hb_same mz_GG mz_q106 M M' → r.toInt = 0 → hv M' 91 3 = hv M 91 3 → hv M' 96 3 = hv M 96 3 → hv M' 101 3 = hv M 101 3 → hv M' 106 3 = hv M 106 3 → 0 ≤ (-1) - x1.toInt → Q (.inl (some (.int r))) (M', z, u))
    (w1 : ∀ (M' : Nat → mq_C) (r : Int32), mz_sh mz_GG M' → X M' → mz_fr mz_q106 M M' → (∀ a, a < 8 → M' a = M a) → hb_same mz_GG mz_q106 M M' → r.toInt = 0 → hv M' 91 3 = hv M 91 3 → hv M' 96 3 = hv M 96 3 → hv M' 101 3 = hv M 101 3 → hv M' 106 3 = hv M 106 3 → 0 ≤ x1.toInt - hv M 8 4 → Q (.inl (some (.int r))) (M', z, u))
    (w2 : ∀ (M' : Nat → mq_C) (r : Int32), mz_sh mz_GG M' → X M' → mz_fr mz_q106 M M' → (∀ a, a < 8 → M' a = M a) → hb_same mz_GG mz_q106 M M' → r.toInt = 0 → hv M' 91 3 = hv M 91 3 → hv M' 96 3 = hv M 96 3 → hv M' 101 3 = hv M 101 3 → hv M' 106 3 = hv M 106 3 → 0 ≤ (-1) - x2.toInt → Q (.inl (some (.int r))) (M', z, u))
    (w3 : ∀ (M' : Nat → mq_C) (r : Int32), mz_sh mz_GG M' → X M' → mz_fr mz_q106 M M' → (∀ a, a < 8 → M' a = M a) → hb_same mz_GG mz_q106 M M' → r.toInt = 0 → hv M' 91 3 = hv M 91 3 → hv M' 96 3 = hv M 96 3 → hv M' 101 3 = hv M 101 3 → hv M' 106 3 = hv M 106 3 → 0 ≤ (-4) + x2.toInt → Q (.inl (some (.int r))) (M', z, u))
    (w4 : ∀ (M' : Nat → mq_C) (r : Int32), mz_sh mz_GG M' → X M' → mz_fr mz_q106 M M' → (∀ a, a < 8 → M' a = M a) → hb_same mz_GG mz_q106 M M' → r.toInt = 1 → x1.toInt = 0 → 0 ≤ (-1) + hv M 8 4 → 0 ≤ x2.toInt → 0 ≤ 3 - x2.toInt → hv M 91 1 = 0 → 0 ≤ 3 - hv M 91 3 → hv M' 91 3 = 1 + hv M 91 3 → hv M' 96 3 = hv M 96 3 → hv M' 101 3 = hv M 101 3 → hv M' 106 3 = hv M 106 3 → Q (.inl (some (.int r))) (M', z, u))
    (w5 : ∀ (M' : Nat → mq_C) (r : Int32), mz_sh mz_GG M' → X M' → mz_fr mz_q106 M M' → (∀ a, a < 8 → M' a = M a) → hb_same mz_GG mz_q106 M M' → r.toInt = 0 → hv M' 91 3 = hv M 91 3 → hv M' 96 3 = hv M 96 3 → hv M' 101 3 = hv M 101 3 → hv M' 106 3 = hv M 106 3 → x1.toInt = 0 → 0 ≤ (-1) + hv M 8 4 → 0 ≤ x2.toInt → 0 ≤ 3 - x2.toInt → 0 ≤ (-1) + hv M 91 1 → Q (.inl (some (.int r))) (M', z, u))
    (w6 : ∀ (M' : Nat → mq_C) (r : Int32), mz_sh mz_GG M' → X M' → mz_fr mz_q106 M M' → (∀ a, a < 8 → M' a = M a) → hb_same mz_GG mz_q106 M M' → r.toInt = 0 → hv M' 91 3 = hv M 91 3 → hv M' 96 3 = hv M 96 3 → hv M' 101 3 = hv M 101 3 → hv M' 106 3 = hv M 106 3 → x1.toInt = 0 → 0 ≤ (-1) + hv M 8 4 → 0 ≤ x2.toInt → 0 ≤ 3 - x2.toInt → 0 ≤ (-4) + hv M 91 3 → Q (.inl (some (.int r))) (M', z, u))
    (w7 : ∀ (M' : Nat → mq_C) (r : Int32), mz_sh mz_GG M' → X M' → mz_fr mz_q106 M M' → (∀ a, a < 8 → M' a = M a) → hb_same mz_GG mz_q106 M M' → r.toInt = 1 → x1.toInt = 1 → 0 ≤ (-2) + hv M 8 4 → 0 ≤ x2.toInt → 0 ≤ 3 - x2.toInt → hv M 96 1 = 0 → 0 ≤ 3 - hv M 96 3 → hv M' 96 3 = 1 + hv M 96 3 → hv M' 91 3 = hv M 91 3 → hv M' 101 3 = hv M 101 3 → hv M' 106 3 = hv M 106 3 → Q (.inl (some (.int r))) (M', z, u))
    (w8 : ∀ (M' : Nat → mq_C) (r : Int32), mz_sh mz_GG M' → X M' → mz_fr mz_q106 M M' → (∀ a, a < 8 → M' a = M a) → hb_same mz_GG mz_q106 M M' → r.toInt = 0 → hv M' 91 3 = hv M 91 3 → hv M' 96 3 = hv M 96 3 → hv M' 101 3 = hv M 101 3 → hv M' 106 3 = hv M 106 3 → x1.toInt = 1 → 0 ≤ (-2) + hv M 8 4 → 0 ≤ x2.toInt → 0 ≤ 3 - x2.toInt → 0 ≤ (-1) + hv M 96 1 → Q (.inl (some (.int r))) (M', z, u))
    (w9 : ∀ (M' : Nat → mq_C) (r : Int32), mz_sh mz_GG M' → X M' → mz_fr mz_q106 M M' → (∀ a, a < 8 → M' a = M a) → hb_same mz_GG mz_q106 M M' → r.toInt = 0 → hv M' 91 3 = hv M 91 3 → hv M' 96 3 = hv M 96 3 → hv M' 101 3 = hv M 101 3 → hv M' 106 3 = hv M 106 3 → x1.toInt = 1 → 0 ≤ (-2) + hv M 8 4 → 0 ≤ x2.toInt → 0 ≤ 3 - x2.toInt → 0 ≤ (-4) + hv M 96 3 → Q (.inl (some (.int r))) (M', z, u))
    (w10 : ∀ (M' : Nat → mq_C) (r : Int32), mz_sh mz_GG M' → X M' → mz_fr mz_q106 M M' → (∀ a, a < 8 → M' a = M a) → hb_same mz_GG mz_q106 M M' → r.toInt = 1 → x1.toInt = 2 → 0 ≤ (-3) + hv M 8 4 → 0 ≤ x2.toInt → 0 ≤ 3 - x2.toInt → hv M 101 1 = 0 → 0 ≤ 3 - hv M 101 3 → hv M' 101 3 = 1 + hv M 101 3 → hv M' 91 3 = hv M 91 3 → hv M' 96 3 = hv M 96 3 → hv M' 106 3 = hv M 106 3 → Q (.inl (some (.int r))) (M', z, u))
    (w11 : ∀ (M' : Nat → mq_C) (r : Int32), mz_sh mz_GG M' → X M' → mz_fr mz_q106 M M' → (∀ a, a < 8 → M' a = M a) → hb_same mz_GG mz_q106 M M' → r.toInt = 0 → hv M' 91 3 = hv M 91 3 → hv M' 96 3 = hv M 96 3 → hv M' 101 3 = hv M 101 3 → hv M' 106 3 = hv M 106 3 → x1.toInt = 2 → 0 ≤ (-3) + hv M 8 4 → 0 ≤ x2.toInt → 0 ≤ 3 - x2.toInt → 0 ≤ (-1) + hv M 101 1 → Q (.inl (some (.int r))) (M', z, u))
    (w12 : ∀ (M' : Nat → mq_C) (r : Int32), mz_sh mz_GG M' → X M' → mz_fr mz_q106 M M' → (∀ a, a < 8 → M' a = M a) → hb_same mz_GG mz_q106 M M' → r.toInt = 0 → hv M' 91 3 = hv M 91 3 → hv M' 96 3 = hv M 96 3 → hv M' 101 3 = hv M 101 3 → hv M' 106 3 = hv M 106 3 → x1.toInt = 2 → 0 ≤ (-3) + hv M 8 4 → 0 ≤ x2.toInt → 0 ≤ 3 - x2.toInt → 0 ≤ (-4) + hv M 101 3 → Q (.inl (some (.int r))) (M', z, u))
    (w13 : ∀ (M' : Nat → mq_C) (r : Int32), mz_sh mz_GG M' → X M' → mz_fr mz_q106 M M' → (∀ a, a < 8 → M' a = M a) → hb_same mz_GG mz_q106 M M' → r.toInt = 1 → x1.toInt = 3 → 0 ≤ (-4) + hv M 8 4 → 0 ≤ x2.toInt → 0 ≤ 3 - x2.toInt → hv M 106 1 = 0 → 0 ≤ 3 - hv M 106 3 → hv M' 106 3 = 1 + hv M 106 3 → hv M' 91 3 = hv M 91 3 → hv M' 96 3 = hv M 96 3 → hv M' 101 3 = hv M 101 3 → Q (.inl (some (.int r))) (M', z, u))
    (w14 : ∀ (M' : Nat → mq_C) (r : Int32), mz_sh mz_GG M' → X M' → mz_fr mz_q106 M M' → (∀ a, a < 8 → M' a = M a) → hb_same mz_GG mz_q106 M M' → r.toInt = 0 → hv M' 91 3 = hv M 91 3 → hv M' 96 3 = hv M 96 3 → hv M' 101 3 = hv M 101 3 → hv M' 106 3 = hv M 106 3 → x1.toInt = 3 → 0 ≤ (-4) + hv M 8 4 → 0 ≤ x2.toInt → 0 ≤ 3 - x2.toInt → 0 ≤ (-1) + hv M 106 1 → Q (.inl (some (.int r))) (M', z, u))
    (w15 : ∀ (M' : Nat → mq_C) (r : Int32), mz_sh mz_GG M' → X M' → mz_fr mz_q106 M M' → (∀ a, a < 8 → M' a = M a) → hb_same mz_GG mz_q106 M M' → r.toInt = 0 → hv M' 91 3 = hv M 91 3 → hv M' 96 3 = hv M 96 3 → hv M' 101 3 = hv M 101 3 → hv M' 106 3 = hv M 106 3 → x1.toInt = 3 → 0 ≤ (-4) + hv M 8 4 → 0 ≤ x2.toInt → 0 ≤ 3 - x2.toInt → 0 ≤ (-4) + hv M 106 3 → Q (.inl (some (.int r))) (M', z, u)) : mq_R mq_PP d 7 0 [some (.ref 8), some (.int x1), some (.int x2)] [] (M, z, u) Q := by
  refine hb_use mz_GG mq_PP X (q := mz_q106) (vs := [.ref 8, .int x1, .int x2]) hq (by decide +kernel) hd (show hb_pk mz_GG [(1, 8), (0, 0), (0, 0)] _ from ⟨⟨List.mem_singleton.mpr rfl, rfl⟩, trivial, trivial, trivial⟩) hm hx hz ?_ ?_
  · exact hb_nil
  · intro r S hpo
    obtain ⟨b1, b2, b3, b4, b5, p, hp, res, hf, hre⟩ := hpo
    rcases List.mem_cons.mp hp with rfl | hp
    · obtain ⟨x, rfl, hr, hz1, hu1⟩ := mz_re_0 mz_GG hre rfl
      obtain ⟨M', z', u'⟩ := S
      cases hz1
      cases hu1
      obtain ⟨f0, hf⟩ := hb_unc hf
      have f0 : 0 ≤ 0 + (1 * res + 0) := f0
      rw [← hr] at f0
      obtain ⟨f1, hf⟩ := hb_unc hf
      have f1 : 0 ≤ 0 + ((-1) * res + 0) := f1
      rw [← hr] at f1
      obtain ⟨f2, hf⟩ := hb_unc hf
      have f2 : 0 ≤ 0 + ((-1) * hv M 91 3 + (1 * hv M' 91 3 + 0)) := f2
      obtain ⟨f3, hf⟩ := hb_unc hf
      have f3 : 0 ≤ 0 + (1 * hv M 91 3 + ((-1) * hv M' 91 3 + 0)) := f3
      obtain ⟨f4, hf⟩ := hb_unc hf
      have f4 : 0 ≤ 0 + ((-1) * hv M 96 3 + (1 * hv M' 96 3 + 0)) := f4
      obtain ⟨f5, hf⟩ := hb_unc hf
      have f5 : 0 ≤ 0 + (1 * hv M 96 3 + ((-1) * hv M' 96 3 + 0)) := f5
      obtain ⟨f6, hf⟩ := hb_unc hf
      have f6 : 0 ≤ 0 + ((-1) * hv M 101 3 + (1 * hv M' 101 3 + 0)) := f6
      obtain ⟨f7, hf⟩ := hb_unc hf
      have f7 : 0 ≤ 0 + (1 * hv M 101 3 + ((-1) * hv M' 101 3 + 0)) := f7
      obtain ⟨f8, hf⟩ := hb_unc hf
      have f8 : 0 ≤ 0 + ((-1) * hv M 106 3 + (1 * hv M' 106 3 + 0)) := f8
      obtain ⟨f9, hf⟩ := hb_unc hf
      have f9 : 0 ≤ 0 + (1 * hv M 106 3 + ((-1) * hv M' 106 3 + 0)) := f9
      obtain ⟨f10, hf⟩ := hb_unc hf
      have f10 : 0 ≤ -1 + ((-1) * x1.toInt + 0) := f10
      exact w0 M' x b1 b2 b3 b4 b5 (by have h1 := f0; have h2 := f1; omega) (by have h1 := f2; have h2 := f3; omega) (by have h1 := f4; have h2 := f5; omega) (by have h1 := f6; have h2 := f7; omega) (by have h1 := f8; have h2 := f9; omega) (by have h1 := f10; omega)
    rcases List.mem_cons.mp hp with rfl | hp
    · obtain ⟨x, rfl, hr, hz1, hu1⟩ := mz_re_0 mz_GG hre rfl
      obtain ⟨M', z', u'⟩ := S
      cases hz1
      cases hu1
      obtain ⟨f0, hf⟩ := hb_unc hf
      have f0 : 0 ≤ 0 + (1 * res + 0) := f0
      rw [← hr] at f0
      obtain ⟨f1, hf⟩ := hb_unc hf
      have f1 : 0 ≤ 0 + ((-1) * res + 0) := f1
      rw [← hr] at f1
      obtain ⟨f2, hf⟩ := hb_unc hf
      have f2 : 0 ≤ 0 + ((-1) * hv M 91 3 + (1 * hv M' 91 3 + 0)) := f2
      obtain ⟨f3, hf⟩ := hb_unc hf
      have f3 : 0 ≤ 0 + (1 * hv M 91 3 + ((-1) * hv M' 91 3 + 0)) := f3
      obtain ⟨f4, hf⟩ := hb_unc hf
      have f4 : 0 ≤ 0 + ((-1) * hv M 96 3 + (1 * hv M' 96 3 + 0)) := f4
      obtain ⟨f5, hf⟩ := hb_unc hf
      have f5 : 0 ≤ 0 + (1 * hv M 96 3 + ((-1) * hv M' 96 3 + 0)) := f5
      obtain ⟨f6, hf⟩ := hb_unc hf
      have f6 : 0 ≤ 0 + ((-1) * hv M 101 3 + (1 * hv M' 101 3 + 0)) := f6
      obtain ⟨f7, hf⟩ := hb_unc hf
      have f7 : 0 ≤ 0 + (1 * hv M 101 3 + ((-1) * hv M' 101 3 + 0)) := f7
      obtain ⟨f8, hf⟩ := hb_unc hf
      have f8 : 0 ≤ 0 + ((-1) * hv M 106 3 + (1 * hv M' 106 3 + 0)) := f8
      obtain ⟨f9, hf⟩ := hb_unc hf
      have f9 : 0 ≤ 0 + (1 * hv M 106 3 + ((-1) * hv M' 106 3 + 0)) := f9
      obtain ⟨f10, hf⟩ := hb_unc hf
      have f10 : 0 ≤ 0 + (1 * x1.toInt + ((-1) * hv M 8 4 + 0)) := f10
      exact w1 M' x b1 b2 b3 b4 b5 (by have h1 := f0; have h2 := f1; omega) (by have h1 := f2; have h2 := f3; omega) (by have h1 := f4; have h2 := f5; omega) (by have h1 := f6; have h2 := f7; omega) (by have h1 := f8; have h2 := f9; omega) (by have h1 := f10; omega)
    rcases List.mem_cons.mp hp with rfl | hp
    · obtain ⟨x, rfl, hr, hz1, hu1⟩ := mz_re_0 mz_GG hre rfl
      obtain ⟨M', z', u'⟩ := S
      cases hz1
      cases hu1
      obtain ⟨f0, hf⟩ := hb_unc hf
      have f0 : 0 ≤ 0 + (1 * res + 0) := f0
      rw [← hr] at f0
      obtain ⟨f1, hf⟩ := hb_unc hf
      have f1 : 0 ≤ 0 + ((-1) * res + 0) := f1
      rw [← hr] at f1
      obtain ⟨f2, hf⟩ := hb_unc hf
      have f2 : 0 ≤ 0 + ((-1) * hv M 91 3 + (1 * hv M' 91 3 + 0)) := f2
      obtain ⟨f3, hf⟩ := hb_unc hf
      have f3 : 0 ≤ 0 + (1 * hv M 91 3 + ((-1) * hv M' 91 3 + 0)) := f3
      obtain ⟨f4, hf⟩ := hb_unc hf
      have f4 : 0 ≤ 0 + ((-1) * hv M 96 3 + (1 * hv M' 96 3 + 0)) := f4
      obtain ⟨f5, hf⟩ := hb_unc hf
      have f5 : 0 ≤ 0 + (1 * hv M 96 3 + ((-1) * hv M' 96 3 + 0)) := f5
      obtain ⟨f6, hf⟩ := hb_unc hf
      have f6 : 0 ≤ 0 + ((-1) * hv M 101 3 + (1 * hv M' 101 3 + 0)) := f6
      obtain ⟨f7, hf⟩ := hb_unc hf
      have f7 : 0 ≤ 0 + (1 * hv M 101 3 + ((-1) * hv M' 101 3 + 0)) := f7
      obtain ⟨f8, hf⟩ := hb_unc hf
      have f8 : 0 ≤ 0 + ((-1) * hv M 106 3 + (1 * hv M' 106 3 + 0)) := f8
      obtain ⟨f9, hf⟩ := hb_unc hf
      have f9 : 0 ≤ 0 + (1 * hv M 106 3 + ((-1) * hv M' 106 3 + 0)) := f9
      obtain ⟨f10, hf⟩ := hb_unc hf
      have f10 : 0 ≤ -1 + ((-1) * x2.toInt + 0) := f10
      exact w2 M' x b1 b2 b3 b4 b5 (by have h1 := f0; have h2 := f1; omega) (by have h1 := f2; have h2 := f3; omega) (by have h1 := f4; have h2 := f5; omega) (by have h1 := f6; have h2 := f7; omega) (by have h1 := f8; have h2 := f9; omega) (by have h1 := f10; omega)
    rcases List.mem_cons.mp hp with rfl | hp
    · obtain ⟨x, rfl, hr, hz1, hu1⟩ := mz_re_0 mz_GG hre rfl
      obtain ⟨M', z', u'⟩ := S
      cases hz1
      cases hu1
      obtain ⟨f0, hf⟩ := hb_unc hf
      have f0 : 0 ≤ 0 + (1 * res + 0) := f0
      rw [← hr] at f0
      obtain ⟨f1, hf⟩ := hb_unc hf
      have f1 : 0 ≤ 0 + ((-1) * res + 0) := f1
      rw [← hr] at f1
      obtain ⟨f2, hf⟩ := hb_unc hf
      have f2 : 0 ≤ 0 + ((-1) * hv M 91 3 + (1 * hv M' 91 3 + 0)) := f2
      obtain ⟨f3, hf⟩ := hb_unc hf
      have f3 : 0 ≤ 0 + (1 * hv M 91 3 + ((-1) * hv M' 91 3 + 0)) := f3
      obtain ⟨f4, hf⟩ := hb_unc hf
      have f4 : 0 ≤ 0 + ((-1) * hv M 96 3 + (1 * hv M' 96 3 + 0)) := f4
      obtain ⟨f5, hf⟩ := hb_unc hf
      have f5 : 0 ≤ 0 + (1 * hv M 96 3 + ((-1) * hv M' 96 3 + 0)) := f5
      obtain ⟨f6, hf⟩ := hb_unc hf
      have f6 : 0 ≤ 0 + ((-1) * hv M 101 3 + (1 * hv M' 101 3 + 0)) := f6
      obtain ⟨f7, hf⟩ := hb_unc hf
      have f7 : 0 ≤ 0 + (1 * hv M 101 3 + ((-1) * hv M' 101 3 + 0)) := f7
      obtain ⟨f8, hf⟩ := hb_unc hf
      have f8 : 0 ≤ 0 + ((-1) * hv M 106 3 + (1 * hv M' 106 3 + 0)) := f8
      obtain ⟨f9, hf⟩ := hb_unc hf
      have f9 : 0 ≤ 0 + (1 * hv M 106 3 + ((-1) * hv M' 106 3 + 0)) := f9
      obtain ⟨f10, hf⟩ := hb_unc hf
      have f10 : 0 ≤ -4 + (1 * x2.toInt + 0) := f10
      exact w3 M' x b1 b2 b3 b4 b5 (by have h1 := f0; have h2 := f1; omega) (by have h1 := f2; have h2 := f3; omega) (by have h1 := f4; have h2 := f5; omega) (by have h1 := f6; have h2 := f7; omega) (by have h1 := f8; have h2 := f9; omega) (by have h1 := f10; omega)
    rcases List.mem_cons.mp hp with rfl | hp
    · obtain ⟨x, rfl, hr, hz1, hu1⟩ := mz_re_0 mz_GG hre rfl
      obtain ⟨M', z', u'⟩ := S
      cases hz1
      cases hu1
      obtain ⟨f0, hf⟩ := hb_unc hf
      have f0 : 0 ≤ -1 + (1 * res + 0) := f0
      rw [← hr] at f0
      obtain ⟨f1, hf⟩ := hb_unc hf
      have f1 : 0 ≤ 1 + ((-1) * res + 0) := f1
      rw [← hr] at f1
      obtain ⟨f2, hf⟩ := hb_unc hf
      have f2 : 0 ≤ 0 + (1 * x1.toInt + 0) := f2
      obtain ⟨f3, hf⟩ := hb_unc hf
      have f3 : 0 ≤ 0 + ((-1) * x1.toInt + 0) := f3
      obtain ⟨f4, hf⟩ := hb_unc hf
      have f4 : 0 ≤ -1 + (1 * hv M 8 4 + 0) := f4
      obtain ⟨f5, hf⟩ := hb_unc hf
      have f5 : 0 ≤ 0 + (1 * x2.toInt + 0) := f5
      obtain ⟨f6, hf⟩ := hb_unc hf
      have f6 : 0 ≤ 3 + ((-1) * x2.toInt + 0) := f6
      obtain ⟨f7, hf⟩ := hb_unc hf
      have f7 : 0 ≤ 0 + (1 * hv M 91 1 + 0) := f7
      obtain ⟨f8, hf⟩ := hb_unc hf
      have f8 : 0 ≤ 0 + ((-1) * hv M 91 1 + 0) := f8
      obtain ⟨f9, hf⟩ := hb_unc hf
      have f9 : 0 ≤ 3 + ((-1) * hv M 91 3 + 0) := f9
      obtain ⟨f10, hf⟩ := hb_unc hf
      have f10 : 0 ≤ -1 + ((-1) * hv M 91 3 + (1 * hv M' 91 3 + 0)) := f10
      obtain ⟨f11, hf⟩ := hb_unc hf
      have f11 : 0 ≤ 1 + (1 * hv M 91 3 + ((-1) * hv M' 91 3 + 0)) := f11
      obtain ⟨f12, hf⟩ := hb_unc hf
      have f12 : 0 ≤ 0 + ((-1) * hv M 96 3 + (1 * hv M' 96 3 + 0)) := f12
      obtain ⟨f13, hf⟩ := hb_unc hf
      have f13 : 0 ≤ 0 + (1 * hv M 96 3 + ((-1) * hv M' 96 3 + 0)) := f13
      obtain ⟨f14, hf⟩ := hb_unc hf
      have f14 : 0 ≤ 0 + ((-1) * hv M 101 3 + (1 * hv M' 101 3 + 0)) := f14
      obtain ⟨f15, hf⟩ := hb_unc hf
      have f15 : 0 ≤ 0 + (1 * hv M 101 3 + ((-1) * hv M' 101 3 + 0)) := f15
      obtain ⟨f16, hf⟩ := hb_unc hf
      have f16 : 0 ≤ 0 + ((-1) * hv M 106 3 + (1 * hv M' 106 3 + 0)) := f16
      obtain ⟨f17, hf⟩ := hb_unc hf
      have f17 : 0 ≤ 0 + (1 * hv M 106 3 + ((-1) * hv M' 106 3 + 0)) := f17
      exact w4 M' x b1 b2 b3 b4 b5 (by have h1 := f0; have h2 := f1; omega) (by have h1 := f2; have h2 := f3; omega) (by have h1 := f4; omega) (by have h1 := f5; omega) (by have h1 := f6; omega) (by have h1 := f7; have h2 := f8; omega) (by have h1 := f9; omega) (by have h1 := f10; have h2 := f11; omega) (by have h1 := f12; have h2 := f13; omega) (by have h1 := f14; have h2 := f15; omega) (by have h1 := f16; have h2 := f17; omega)
    rcases List.mem_cons.mp hp with rfl | hp
    · obtain ⟨x, rfl, hr, hz1, hu1⟩ := mz_re_0 mz_GG hre rfl
      obtain ⟨M', z', u'⟩ := S
      cases hz1
      cases hu1
      obtain ⟨f0, hf⟩ := hb_unc hf
      have f0 : 0 ≤ 0 + (1 * res + 0) := f0
      rw [← hr] at f0
      obtain ⟨f1, hf⟩ := hb_unc hf
      have f1 : 0 ≤ 0 + ((-1) * res + 0) := f1
      rw [← hr] at f1
      obtain ⟨f2, hf⟩ := hb_unc hf
      have f2 : 0 ≤ 0 + ((-1) * hv M 91 3 + (1 * hv M' 91 3 + 0)) := f2
      obtain ⟨f3, hf⟩ := hb_unc hf
      have f3 : 0 ≤ 0 + (1 * hv M 91 3 + ((-1) * hv M' 91 3 + 0)) := f3
      obtain ⟨f4, hf⟩ := hb_unc hf
      have f4 : 0 ≤ 0 + ((-1) * hv M 96 3 + (1 * hv M' 96 3 + 0)) := f4
      obtain ⟨f5, hf⟩ := hb_unc hf
      have f5 : 0 ≤ 0 + (1 * hv M 96 3 + ((-1) * hv M' 96 3 + 0)) := f5
      obtain ⟨f6, hf⟩ := hb_unc hf
      have f6 : 0 ≤ 0 + ((-1) * hv M 101 3 + (1 * hv M' 101 3 + 0)) := f6
      obtain ⟨f7, hf⟩ := hb_unc hf
      have f7 : 0 ≤ 0 + (1 * hv M 101 3 + ((-1) * hv M' 101 3 + 0)) := f7
      obtain ⟨f8, hf⟩ := hb_unc hf
      have f8 : 0 ≤ 0 + ((-1) * hv M 106 3 + (1 * hv M' 106 3 + 0)) := f8
      obtain ⟨f9, hf⟩ := hb_unc hf
      have f9 : 0 ≤ 0 + (1 * hv M 106 3 + ((-1) * hv M' 106 3 + 0)) := f9
      obtain ⟨f10, hf⟩ := hb_unc hf
      have f10 : 0 ≤ 0 + (1 * x1.toInt + 0) := f10
      obtain ⟨f11, hf⟩ := hb_unc hf
      have f11 : 0 ≤ 0 + ((-1) * x1.toInt + 0) := f11
      obtain ⟨f12, hf⟩ := hb_unc hf
      have f12 : 0 ≤ -1 + (1 * hv M 8 4 + 0) := f12
      obtain ⟨f13, hf⟩ := hb_unc hf
      have f13 : 0 ≤ 0 + (1 * x2.toInt + 0) := f13
      obtain ⟨f14, hf⟩ := hb_unc hf
      have f14 : 0 ≤ 3 + ((-1) * x2.toInt + 0) := f14
      obtain ⟨f15, hf⟩ := hb_unc hf
      have f15 : 0 ≤ -1 + (1 * hv M 91 1 + 0) := f15
      exact w5 M' x b1 b2 b3 b4 b5 (by have h1 := f0; have h2 := f1; omega) (by have h1 := f2; have h2 := f3; omega) (by have h1 := f4; have h2 := f5; omega) (by have h1 := f6; have h2 := f7; omega) (by have h1 := f8; have h2 := f9; omega) (by have h1 := f10; have h2 := f11; omega) (by have h1 := f12; omega) (by have h1 := f13; omega) (by have h1 := f14; omega) (by have h1 := f15; omega)
    rcases List.mem_cons.mp hp with rfl | hp
    · obtain ⟨x, rfl, hr, hz1, hu1⟩ := mz_re_0 mz_GG hre rfl
      obtain ⟨M', z', u'⟩ := S
      cases hz1
      cases hu1
      obtain ⟨f0, hf⟩ := hb_unc hf
      have f0 : 0 ≤ 0 + (1 * res + 0) := f0
      rw [← hr] at f0
      obtain ⟨f1, hf⟩ := hb_unc hf
      have f1 : 0 ≤ 0 + ((-1) * res + 0) := f1
      rw [← hr] at f1
      obtain ⟨f2, hf⟩ := hb_unc hf
      have f2 : 0 ≤ 0 + ((-1) * hv M 91 3 + (1 * hv M' 91 3 + 0)) := f2
      obtain ⟨f3, hf⟩ := hb_unc hf
      have f3 : 0 ≤ 0 + (1 * hv M 91 3 + ((-1) * hv M' 91 3 + 0)) := f3
      obtain ⟨f4, hf⟩ := hb_unc hf
      have f4 : 0 ≤ 0 + ((-1) * hv M 96 3 + (1 * hv M' 96 3 + 0)) := f4
      obtain ⟨f5, hf⟩ := hb_unc hf
      have f5 : 0 ≤ 0 + (1 * hv M 96 3 + ((-1) * hv M' 96 3 + 0)) := f5
      obtain ⟨f6, hf⟩ := hb_unc hf
      have f6 : 0 ≤ 0 + ((-1) * hv M 101 3 + (1 * hv M' 101 3 + 0)) := f6
      obtain ⟨f7, hf⟩ := hb_unc hf
      have f7 : 0 ≤ 0 + (1 * hv M 101 3 + ((-1) * hv M' 101 3 + 0)) := f7
      obtain ⟨f8, hf⟩ := hb_unc hf
      have f8 : 0 ≤ 0 + ((-1) * hv M 106 3 + (1 * hv M' 106 3 + 0)) := f8
      obtain ⟨f9, hf⟩ := hb_unc hf
      have f9 : 0 ≤ 0 + (1 * hv M 106 3 + ((-1) * hv M' 106 3 + 0)) := f9
      obtain ⟨f10, hf⟩ := hb_unc hf
      have f10 : 0 ≤ 0 + (1 * x1.toInt + 0) := f10
      obtain ⟨f11, hf⟩ := hb_unc hf
      have f11 : 0 ≤ 0 + ((-1) * x1.toInt + 0) := f11
      obtain ⟨f12, hf⟩ := hb_unc hf
      have f12 : 0 ≤ -1 + (1 * hv M 8 4 + 0) := f12
      obtain ⟨f13, hf⟩ := hb_unc hf
      have f13 : 0 ≤ 0 + (1 * x2.toInt + 0) := f13
      obtain ⟨f14, hf⟩ := hb_unc hf
      have f14 : 0 ≤ 3 + ((-1) * x2.toInt + 0) := f14
      obtain ⟨f15, hf⟩ := hb_unc hf
      have f15 : 0 ≤ -4 + (1 * hv M 91 3 + 0) := f15
      exact w6 M' x b1 b2 b3 b4 b5 (by have h1 := f0; have h2 := f1; omega) (by have h1 := f2; have h2 := f3; omega) (by have h1 := f4; have h2 := f5; omega) (by have h1 := f6; have h2 := f7; omega) (by have h1 := f8; have h2 := f9; omega) (by have h1 := f10; have h2 := f11; omega) (by have h1 := f12; omega) (by have h1 := f13; omega) (by have h1 := f14; omega) (by have h1 := f15; omega)
    rcases List.mem_cons.mp hp with rfl | hp
    · obtain ⟨x, rfl, hr, hz1, hu1⟩ := mz_re_0 mz_GG hre rfl
      obtain ⟨M', z', u'⟩ := S
      cases hz1
      cases hu1
      obtain ⟨f0, hf⟩ := hb_unc hf
      have f0 : 0 ≤ -1 + (1 * res + 0) := f0
      rw [← hr] at f0
      obtain ⟨f1, hf⟩ := hb_unc hf
      have f1 : 0 ≤ 1 + ((-1) * res + 0) := f1
      rw [← hr] at f1
      obtain ⟨f2, hf⟩ := hb_unc hf
      have f2 : 0 ≤ -1 + (1 * x1.toInt + 0) := f2
      obtain ⟨f3, hf⟩ := hb_unc hf
      have f3 : 0 ≤ 1 + ((-1) * x1.toInt + 0) := f3
      obtain ⟨f4, hf⟩ := hb_unc hf
      have f4 : 0 ≤ -2 + (1 * hv M 8 4 + 0) := f4
      obtain ⟨f5, hf⟩ := hb_unc hf
      have f5 : 0 ≤ 0 + (1 * x2.toInt + 0) := f5
      obtain ⟨f6, hf⟩ := hb_unc hf
      have f6 : 0 ≤ 3 + ((-1) * x2.toInt + 0) := f6
      obtain ⟨f7, hf⟩ := hb_unc hf
      have f7 : 0 ≤ 0 + (1 * hv M 96 1 + 0) := f7
      obtain ⟨f8, hf⟩ := hb_unc hf
      have f8 : 0 ≤ 0 + ((-1) * hv M 96 1 + 0) := f8
      obtain ⟨f9, hf⟩ := hb_unc hf
      have f9 : 0 ≤ 3 + ((-1) * hv M 96 3 + 0) := f9
      obtain ⟨f10, hf⟩ := hb_unc hf
      have f10 : 0 ≤ -1 + ((-1) * hv M 96 3 + (1 * hv M' 96 3 + 0)) := f10
      obtain ⟨f11, hf⟩ := hb_unc hf
      have f11 : 0 ≤ 1 + (1 * hv M 96 3 + ((-1) * hv M' 96 3 + 0)) := f11
      obtain ⟨f12, hf⟩ := hb_unc hf
      have f12 : 0 ≤ 0 + ((-1) * hv M 91 3 + (1 * hv M' 91 3 + 0)) := f12
      obtain ⟨f13, hf⟩ := hb_unc hf
      have f13 : 0 ≤ 0 + (1 * hv M 91 3 + ((-1) * hv M' 91 3 + 0)) := f13
      obtain ⟨f14, hf⟩ := hb_unc hf
      have f14 : 0 ≤ 0 + ((-1) * hv M 101 3 + (1 * hv M' 101 3 + 0)) := f14
      obtain ⟨f15, hf⟩ := hb_unc hf
      have f15 : 0 ≤ 0 + (1 * hv M 101 3 + ((-1) * hv M' 101 3 + 0)) := f15
      obtain ⟨f16, hf⟩ := hb_unc hf
      have f16 : 0 ≤ 0 + ((-1) * hv M 106 3 + (1 * hv M' 106 3 + 0)) := f16
      obtain ⟨f17, hf⟩ := hb_unc hf
      have f17 : 0 ≤ 0 + (1 * hv M 106 3 + ((-1) * hv M' 106 3 + 0)) := f17
      exact w7 M' x b1 b2 b3 b4 b5 (by have h1 := f0; have h2 := f1; omega) (by have h1 := f2; have h2 := f3; omega) (by have h1 := f4; omega) (by have h1 := f5; omega) (by have h1 := f6; omega) (by have h1 := f7; have h2 := f8; omega) (by have h1 := f9; omega) (by have h1 := f10; have h2 := f11; omega) (by have h1 := f12; have h2 := f13; omega) (by have h1 := f14; have h2 := f15; omega) (by have h1 := f16; have h2 := f17; omega)
    rcases List.mem_cons.mp hp with rfl | hp
    · obtain ⟨x, rfl, hr, hz1, hu1⟩ := mz_re_0 mz_GG hre rfl
      obtain ⟨M', z', u'⟩ := S
      cases hz1
      cases hu1
      obtain ⟨f0, hf⟩ := hb_unc hf
      have f0 : 0 ≤ 0 + (1 * res + 0) := f0
      rw [← hr] at f0
      obtain ⟨f1, hf⟩ := hb_unc hf
      have f1 : 0 ≤ 0 + ((-1) * res + 0) := f1
      rw [← hr] at f1
      obtain ⟨f2, hf⟩ := hb_unc hf
      have f2 : 0 ≤ 0 + ((-1) * hv M 91 3 + (1 * hv M' 91 3 + 0)) := f2
      obtain ⟨f3, hf⟩ := hb_unc hf
      have f3 : 0 ≤ 0 + (1 * hv M 91 3 + ((-1) * hv M' 91 3 + 0)) := f3
      obtain ⟨f4, hf⟩ := hb_unc hf
      have f4 : 0 ≤ 0 + ((-1) * hv M 96 3 + (1 * hv M' 96 3 + 0)) := f4
      obtain ⟨f5, hf⟩ := hb_unc hf
      have f5 : 0 ≤ 0 + (1 * hv M 96 3 + ((-1) * hv M' 96 3 + 0)) := f5
      obtain ⟨f6, hf⟩ := hb_unc hf
      have f6 : 0 ≤ 0 + ((-1) * hv M 101 3 + (1 * hv M' 101 3 + 0)) := f6
      obtain ⟨f7, hf⟩ := hb_unc hf
      have f7 : 0 ≤ 0 + (1 * hv M 101 3 + ((-1) * hv M' 101 3 + 0)) := f7
      obtain ⟨f8, hf⟩ := hb_unc hf
      have f8 : 0 ≤ 0 + ((-1) * hv M 106 3 + (1 * hv M' 106 3 + 0)) := f8
      obtain ⟨f9, hf⟩ := hb_unc hf
      have f9 : 0 ≤ 0 + (1 * hv M 106 3 + ((-1) * hv M' 106 3 + 0)) := f9
      obtain ⟨f10, hf⟩ := hb_unc hf
      have f10 : 0 ≤ -1 + (1 * x1.toInt + 0) := f10
      obtain ⟨f11, hf⟩ := hb_unc hf
      have f11 : 0 ≤ 1 + ((-1) * x1.toInt + 0) := f11
      obtain ⟨f12, hf⟩ := hb_unc hf
      have f12 : 0 ≤ -2 + (1 * hv M 8 4 + 0) := f12
      obtain ⟨f13, hf⟩ := hb_unc hf
      have f13 : 0 ≤ 0 + (1 * x2.toInt + 0) := f13
      obtain ⟨f14, hf⟩ := hb_unc hf
      have f14 : 0 ≤ 3 + ((-1) * x2.toInt + 0) := f14
      obtain ⟨f15, hf⟩ := hb_unc hf
      have f15 : 0 ≤ -1 + (1 * hv M 96 1 + 0) := f15
      exact w8 M' x b1 b2 b3 b4 b5 (by have h1 := f0; have h2 := f1; omega) (by have h1 := f2; have h2 := f3; omega) (by have h1 := f4; have h2 := f5; omega) (by have h1 := f6; have h2 := f7; omega) (by have h1 := f8; have h2 := f9; omega) (by have h1 := f10; have h2 := f11; omega) (by have h1 := f12; omega) (by have h1 := f13; omega) (by have h1 := f14; omega) (by have h1 := f15; omega)
    rcases List.mem_cons.mp hp with rfl | hp
    · obtain ⟨x, rfl, hr, hz1, hu1⟩ := mz_re_0 mz_GG hre rfl
      obtain ⟨M', z', u'⟩ := S
      cases hz1
      cases hu1
      obtain ⟨f0, hf⟩ := hb_unc hf
      have f0 : 0 ≤ 0 + (1 * res + 0) := f0
      rw [← hr] at f0
      obtain ⟨f1, hf⟩ := hb_unc hf
      have f1 : 0 ≤ 0 + ((-1) * res + 0) := f1
      rw [← hr] at f1
      obtain ⟨f2, hf⟩ := hb_unc hf
      have f2 : 0 ≤ 0 + ((-1) * hv M 91 3 + (1 * hv M' 91 3 + 0)) := f2
      obtain ⟨f3, hf⟩ := hb_unc hf
      have f3 : 0 ≤ 0 + (1 * hv M 91 3 + ((-1) * hv M' 91 3 + 0)) := f3
      obtain ⟨f4, hf⟩ := hb_unc hf
      have f4 : 0 ≤ 0 + ((-1) * hv M 96 3 + (1 * hv M' 96 3 + 0)) := f4
      obtain ⟨f5, hf⟩ := hb_unc hf
      have f5 : 0 ≤ 0 + (1 * hv M 96 3 + ((-1) * hv M' 96 3 + 0)) := f5
      obtain ⟨f6, hf⟩ := hb_unc hf
      have f6 : 0 ≤ 0 + ((-1) * hv M 101 3 + (1 * hv M' 101 3 + 0)) := f6
      obtain ⟨f7, hf⟩ := hb_unc hf
      have f7 : 0 ≤ 0 + (1 * hv M 101 3 + ((-1) * hv M' 101 3 + 0)) := f7
      obtain ⟨f8, hf⟩ := hb_unc hf
      have f8 : 0 ≤ 0 + ((-1) * hv M 106 3 + (1 * hv M' 106 3 + 0)) := f8
      obtain ⟨f9, hf⟩ := hb_unc hf
      have f9 : 0 ≤ 0 + (1 * hv M 106 3 + ((-1) * hv M' 106 3 + 0)) := f9
      obtain ⟨f10, hf⟩ := hb_unc hf
      have f10 : 0 ≤ -1 + (1 * x1.toInt + 0) := f10
      obtain ⟨f11, hf⟩ := hb_unc hf
      have f11 : 0 ≤ 1 + ((-1) * x1.toInt + 0) := f11
      obtain ⟨f12, hf⟩ := hb_unc hf
      have f12 : 0 ≤ -2 + (1 * hv M 8 4 + 0) := f12
      obtain ⟨f13, hf⟩ := hb_unc hf
      have f13 : 0 ≤ 0 + (1 * x2.toInt + 0) := f13
      obtain ⟨f14, hf⟩ := hb_unc hf
      have f14 : 0 ≤ 3 + ((-1) * x2.toInt + 0) := f14
      obtain ⟨f15, hf⟩ := hb_unc hf
      have f15 : 0 ≤ -4 + (1 * hv M 96 3 + 0) := f15
      exact w9 M' x b1 b2 b3 b4 b5 (by have h1 := f0; have h2 := f1; omega) (by have h1 := f2; have h2 := f3; omega) (by have h1 := f4; have h2 := f5; omega) (by have h1 := f6; have h2 := f7; omega) (by have h1 := f8; have h2 := f9; omega) (by have h1 := f10; have h2 := f11; omega) (by have h1 := f12; omega) (by have h1 := f13; omega) (by have h1 := f14; omega) (by have h1 := f15; omega)
    rcases List.mem_cons.mp hp with rfl | hp
    · obtain ⟨x, rfl, hr, hz1, hu1⟩ := mz_re_0 mz_GG hre rfl
      obtain ⟨M', z', u'⟩ := S
      cases hz1
      cases hu1
      obtain ⟨f0, hf⟩ := hb_unc hf
      have f0 : 0 ≤ -1 + (1 * res + 0) := f0
      rw [← hr] at f0
      obtain ⟨f1, hf⟩ := hb_unc hf
      have f1 : 0 ≤ 1 + ((-1) * res + 0) := f1
      rw [← hr] at f1
      obtain ⟨f2, hf⟩ := hb_unc hf
      have f2 : 0 ≤ -2 + (1 * x1.toInt + 0) := f2
      obtain ⟨f3, hf⟩ := hb_unc hf
      have f3 : 0 ≤ 2 + ((-1) * x1.toInt + 0) := f3
      obtain ⟨f4, hf⟩ := hb_unc hf
      have f4 : 0 ≤ -3 + (1 * hv M 8 4 + 0) := f4
      obtain ⟨f5, hf⟩ := hb_unc hf
      have f5 : 0 ≤ 0 + (1 * x2.toInt + 0) := f5
      obtain ⟨f6, hf⟩ := hb_unc hf
      have f6 : 0 ≤ 3 + ((-1) * x2.toInt + 0) := f6
      obtain ⟨f7, hf⟩ := hb_unc hf
      have f7 : 0 ≤ 0 + (1 * hv M 101 1 + 0) := f7
      obtain ⟨f8, hf⟩ := hb_unc hf
      have f8 : 0 ≤ 0 + ((-1) * hv M 101 1 + 0) := f8
      obtain ⟨f9, hf⟩ := hb_unc hf
      have f9 : 0 ≤ 3 + ((-1) * hv M 101 3 + 0) := f9
      obtain ⟨f10, hf⟩ := hb_unc hf
      have f10 : 0 ≤ -1 + ((-1) * hv M 101 3 + (1 * hv M' 101 3 + 0)) := f10
      obtain ⟨f11, hf⟩ := hb_unc hf
      have f11 : 0 ≤ 1 + (1 * hv M 101 3 + ((-1) * hv M' 101 3 + 0)) := f11
      obtain ⟨f12, hf⟩ := hb_unc hf
      have f12 : 0 ≤ 0 + ((-1) * hv M 91 3 + (1 * hv M' 91 3 + 0)) := f12
      obtain ⟨f13, hf⟩ := hb_unc hf
      have f13 : 0 ≤ 0 + (1 * hv M 91 3 + ((-1) * hv M' 91 3 + 0)) := f13
      obtain ⟨f14, hf⟩ := hb_unc hf
      have f14 : 0 ≤ 0 + ((-1) * hv M 96 3 + (1 * hv M' 96 3 + 0)) := f14
      obtain ⟨f15, hf⟩ := hb_unc hf
      have f15 : 0 ≤ 0 + (1 * hv M 96 3 + ((-1) * hv M' 96 3 + 0)) := f15
      obtain ⟨f16, hf⟩ := hb_unc hf
      have f16 : 0 ≤ 0 + ((-1) * hv M 106 3 + (1 * hv M' 106 3 + 0)) := f16
      obtain ⟨f17, hf⟩ := hb_unc hf
      have f17 : 0 ≤ 0 + (1 * hv M 106 3 + ((-1) * hv M' 106 3 + 0)) := f17
      exact w10 M' x b1 b2 b3 b4 b5 (by have h1 := f0; have h2 := f1; omega) (by have h1 := f2; have h2 := f3; omega) (by have h1 := f4; omega) (by have h1 := f5; omega) (by have h1 := f6; omega) (by have h1 := f7; have h2 := f8; omega) (by have h1 := f9; omega) (by have h1 := f10; have h2 := f11; omega) (by have h1 := f12; have h2 := f13; omega) (by have h1 := f14; have h2 := f15; omega) (by have h1 := f16; have h2 := f17; omega)
    rcases List.mem_cons.mp hp with rfl | hp
    · obtain ⟨x, rfl, hr, hz1, hu1⟩ := mz_re_0 mz_GG hre rfl
      obtain ⟨M', z', u'⟩ := S
      cases hz1
      cases hu1
      obtain ⟨f0, hf⟩ := hb_unc hf
      have f0 : 0 ≤ 0 + (1 * res + 0) := f0
      rw [← hr] at f0
      obtain ⟨f1, hf⟩ := hb_unc hf
      have f1 : 0 ≤ 0 + ((-1) * res + 0) := f1
      rw [← hr] at f1
      obtain ⟨f2, hf⟩ := hb_unc hf
      have f2 : 0 ≤ 0 + ((-1) * hv M 91 3 + (1 * hv M' 91 3 + 0)) := f2
      obtain ⟨f3, hf⟩ := hb_unc hf
      have f3 : 0 ≤ 0 + (1 * hv M 91 3 + ((-1) * hv M' 91 3 + 0)) := f3
      obtain ⟨f4, hf⟩ := hb_unc hf
      have f4 : 0 ≤ 0 + ((-1) * hv M 96 3 + (1 * hv M' 96 3 + 0)) := f4
      obtain ⟨f5, hf⟩ := hb_unc hf
      have f5 : 0 ≤ 0 + (1 * hv M 96 3 + ((-1) * hv M' 96 3 + 0)) := f5
      obtain ⟨f6, hf⟩ := hb_unc hf
      have f6 : 0 ≤ 0 + ((-1) * hv M 101 3 + (1 * hv M' 101 3 + 0)) := f6
      obtain ⟨f7, hf⟩ := hb_unc hf
      have f7 : 0 ≤ 0 + (1 * hv M 101 3 + ((-1) * hv M' 101 3 + 0)) := f7
      obtain ⟨f8, hf⟩ := hb_unc hf
      have f8 : 0 ≤ 0 + ((-1) * hv M 106 3 + (1 * hv M' 106 3 + 0)) := f8
      obtain ⟨f9, hf⟩ := hb_unc hf
      have f9 : 0 ≤ 0 + (1 * hv M 106 3 + ((-1) * hv M' 106 3 + 0)) := f9
      obtain ⟨f10, hf⟩ := hb_unc hf
      have f10 : 0 ≤ -2 + (1 * x1.toInt + 0) := f10
      obtain ⟨f11, hf⟩ := hb_unc hf
      have f11 : 0 ≤ 2 + ((-1) * x1.toInt + 0) := f11
      obtain ⟨f12, hf⟩ := hb_unc hf
      have f12 : 0 ≤ -3 + (1 * hv M 8 4 + 0) := f12
      obtain ⟨f13, hf⟩ := hb_unc hf
      have f13 : 0 ≤ 0 + (1 * x2.toInt + 0) := f13
      obtain ⟨f14, hf⟩ := hb_unc hf
      have f14 : 0 ≤ 3 + ((-1) * x2.toInt + 0) := f14
      obtain ⟨f15, hf⟩ := hb_unc hf
      have f15 : 0 ≤ -1 + (1 * hv M 101 1 + 0) := f15
      exact w11 M' x b1 b2 b3 b4 b5 (by have h1 := f0; have h2 := f1; omega) (by have h1 := f2; have h2 := f3; omega) (by have h1 := f4; have h2 := f5; omega) (by have h1 := f6; have h2 := f7; omega) (by have h1 := f8; have h2 := f9; omega) (by have h1 := f10; have h2 := f11; omega) (by have h1 := f12; omega) (by have h1 := f13; omega) (by have h1 := f14; omega) (by have h1 := f15; omega)
    rcases List.mem_cons.mp hp with rfl | hp
    · obtain ⟨x, rfl, hr, hz1, hu1⟩ := mz_re_0 mz_GG hre rfl
      obtain ⟨M', z', u'⟩ := S
      cases hz1
      cases hu1
      obtain ⟨f0, hf⟩ := hb_unc hf
      have f0 : 0 ≤ 0 + (1 * res + 0) := f0
      rw [← hr] at f0
      obtain ⟨f1, hf⟩ := hb_unc hf
      have f1 : 0 ≤ 0 + ((-1) * res + 0) := f1
      rw [← hr] at f1
      obtain ⟨f2, hf⟩ := hb_unc hf
      have f2 : 0 ≤ 0 + ((-1) * hv M 91 3 + (1 * hv M' 91 3 + 0)) := f2
      obtain ⟨f3, hf⟩ := hb_unc hf
      have f3 : 0 ≤ 0 + (1 * hv M 91 3 + ((-1) * hv M' 91 3 + 0)) := f3
      obtain ⟨f4, hf⟩ := hb_unc hf
      have f4 : 0 ≤ 0 + ((-1) * hv M 96 3 + (1 * hv M' 96 3 + 0)) := f4
      obtain ⟨f5, hf⟩ := hb_unc hf
      have f5 : 0 ≤ 0 + (1 * hv M 96 3 + ((-1) * hv M' 96 3 + 0)) := f5
      obtain ⟨f6, hf⟩ := hb_unc hf
      have f6 : 0 ≤ 0 + ((-1) * hv M 101 3 + (1 * hv M' 101 3 + 0)) := f6
      obtain ⟨f7, hf⟩ := hb_unc hf
      have f7 : 0 ≤ 0 + (1 * hv M 101 3 + ((-1) * hv M' 101 3 + 0)) := f7
      obtain ⟨f8, hf⟩ := hb_unc hf
      have f8 : 0 ≤ 0 + ((-1) * hv M 106 3 + (1 * hv M' 106 3 + 0)) := f8
      obtain ⟨f9, hf⟩ := hb_unc hf
      have f9 : 0 ≤ 0 + (1 * hv M 106 3 + ((-1) * hv M' 106 3 + 0)) := f9
      obtain ⟨f10, hf⟩ := hb_unc hf
      have f10 : 0 ≤ -2 + (1 * x1.toInt + 0) := f10
      obtain ⟨f11, hf⟩ := hb_unc hf
      have f11 : 0 ≤ 2 + ((-1) * x1.toInt + 0) := f11
      obtain ⟨f12, hf⟩ := hb_unc hf
      have f12 : 0 ≤ -3 + (1 * hv M 8 4 + 0) := f12
      obtain ⟨f13, hf⟩ := hb_unc hf
      have f13 : 0 ≤ 0 + (1 * x2.toInt + 0) := f13
      obtain ⟨f14, hf⟩ := hb_unc hf
      have f14 : 0 ≤ 3 + ((-1) * x2.toInt + 0) := f14
      obtain ⟨f15, hf⟩ := hb_unc hf
      have f15 : 0 ≤ -4 + (1 * hv M 101 3 + 0) := f15
      exact w12 M' x b1 b2 b3 b4 b5 (by have h1 := f0; have h2 := f1; omega) (by have h1 := f2; have h2 := f3; omega) (by have h1 := f4; have h2 := f5; omega) (by have h1 := f6; have h2 := f7; omega) (by have h1 := f8; have h2 := f9; omega) (by have h1 := f10; have h2 := f11; omega) (by have h1 := f12; omega) (by have h1 := f13; omega) (by have h1 := f14; omega) (by have h1 := f15; omega)
    rcases List.mem_cons.mp hp with rfl | hp
    · obtain ⟨x, rfl, hr, hz1, hu1⟩ := mz_re_0 mz_GG hre rfl
      obtain ⟨M', z', u'⟩ := S
      cases hz1
      cases hu1
      obtain ⟨f0, hf⟩ := hb_unc hf
      have f0 : 0 ≤ -1 + (1 * res + 0) := f0
      rw [← hr] at f0
      obtain ⟨f1, hf⟩ := hb_unc hf
      have f1 : 0 ≤ 1 + ((-1) * res + 0) := f1
      rw [← hr] at f1
      obtain ⟨f2, hf⟩ := hb_unc hf
      have f2 : 0 ≤ -3 + (1 * x1.toInt + 0) := f2
      obtain ⟨f3, hf⟩ := hb_unc hf
      have f3 : 0 ≤ 3 + ((-1) * x1.toInt + 0) := f3
      obtain ⟨f4, hf⟩ := hb_unc hf
      have f4 : 0 ≤ -4 + (1 * hv M 8 4 + 0) := f4
      obtain ⟨f5, hf⟩ := hb_unc hf
      have f5 : 0 ≤ 0 + (1 * x2.toInt + 0) := f5
      obtain ⟨f6, hf⟩ := hb_unc hf
      have f6 : 0 ≤ 3 + ((-1) * x2.toInt + 0) := f6
      obtain ⟨f7, hf⟩ := hb_unc hf
      have f7 : 0 ≤ 0 + (1 * hv M 106 1 + 0) := f7
      obtain ⟨f8, hf⟩ := hb_unc hf
      have f8 : 0 ≤ 0 + ((-1) * hv M 106 1 + 0) := f8
      obtain ⟨f9, hf⟩ := hb_unc hf
      have f9 : 0 ≤ 3 + ((-1) * hv M 106 3 + 0) := f9
      obtain ⟨f10, hf⟩ := hb_unc hf
      have f10 : 0 ≤ -1 + ((-1) * hv M 106 3 + (1 * hv M' 106 3 + 0)) := f10
      obtain ⟨f11, hf⟩ := hb_unc hf
      have f11 : 0 ≤ 1 + (1 * hv M 106 3 + ((-1) * hv M' 106 3 + 0)) := f11
      obtain ⟨f12, hf⟩ := hb_unc hf
      have f12 : 0 ≤ 0 + ((-1) * hv M 91 3 + (1 * hv M' 91 3 + 0)) := f12
      obtain ⟨f13, hf⟩ := hb_unc hf
      have f13 : 0 ≤ 0 + (1 * hv M 91 3 + ((-1) * hv M' 91 3 + 0)) := f13
      obtain ⟨f14, hf⟩ := hb_unc hf
      have f14 : 0 ≤ 0 + ((-1) * hv M 96 3 + (1 * hv M' 96 3 + 0)) := f14
      obtain ⟨f15, hf⟩ := hb_unc hf
      have f15 : 0 ≤ 0 + (1 * hv M 96 3 + ((-1) * hv M' 96 3 + 0)) := f15
      obtain ⟨f16, hf⟩ := hb_unc hf
      have f16 : 0 ≤ 0 + ((-1) * hv M 101 3 + (1 * hv M' 101 3 + 0)) := f16
      obtain ⟨f17, hf⟩ := hb_unc hf
      have f17 : 0 ≤ 0 + (1 * hv M 101 3 + ((-1) * hv M' 101 3 + 0)) := f17
      exact w13 M' x b1 b2 b3 b4 b5 (by have h1 := f0; have h2 := f1; omega) (by have h1 := f2; have h2 := f3; omega) (by have h1 := f4; omega) (by have h1 := f5; omega) (by have h1 := f6; omega) (by have h1 := f7; have h2 := f8; omega) (by have h1 := f9; omega) (by have h1 := f10; have h2 := f11; omega) (by have h1 := f12; have h2 := f13; omega) (by have h1 := f14; have h2 := f15; omega) (by have h1 := f16; have h2 := f17; omega)
    rcases List.mem_cons.mp hp with rfl | hp
    · obtain ⟨x, rfl, hr, hz1, hu1⟩ := mz_re_0 mz_GG hre rfl
      obtain ⟨M', z', u'⟩ := S
      cases hz1
      cases hu1
      obtain ⟨f0, hf⟩ := hb_unc hf
      have f0 : 0 ≤ 0 + (1 * res + 0) := f0
      rw [← hr] at f0
      obtain ⟨f1, hf⟩ := hb_unc hf
      have f1 : 0 ≤ 0 + ((-1) * res + 0) := f1
      rw [← hr] at f1
      obtain ⟨f2, hf⟩ := hb_unc hf
      have f2 : 0 ≤ 0 + ((-1) * hv M 91 3 + (1 * hv M' 91 3 + 0)) := f2
      obtain ⟨f3, hf⟩ := hb_unc hf
      have f3 : 0 ≤ 0 + (1 * hv M 91 3 + ((-1) * hv M' 91 3 + 0)) := f3
      obtain ⟨f4, hf⟩ := hb_unc hf
      have f4 : 0 ≤ 0 + ((-1) * hv M 96 3 + (1 * hv M' 96 3 + 0)) := f4
      obtain ⟨f5, hf⟩ := hb_unc hf
      have f5 : 0 ≤ 0 + (1 * hv M 96 3 + ((-1) * hv M' 96 3 + 0)) := f5
      obtain ⟨f6, hf⟩ := hb_unc hf
      have f6 : 0 ≤ 0 + ((-1) * hv M 101 3 + (1 * hv M' 101 3 + 0)) := f6
      obtain ⟨f7, hf⟩ := hb_unc hf
      have f7 : 0 ≤ 0 + (1 * hv M 101 3 + ((-1) * hv M' 101 3 + 0)) := f7
      obtain ⟨f8, hf⟩ := hb_unc hf
      have f8 : 0 ≤ 0 + ((-1) * hv M 106 3 + (1 * hv M' 106 3 + 0)) := f8
      obtain ⟨f9, hf⟩ := hb_unc hf
      have f9 : 0 ≤ 0 + (1 * hv M 106 3 + ((-1) * hv M' 106 3 + 0)) := f9
      obtain ⟨f10, hf⟩ := hb_unc hf
      have f10 : 0 ≤ -3 + (1 * x1.toInt + 0) := f10
      obtain ⟨f11, hf⟩ := hb_unc hf
      have f11 : 0 ≤ 3 + ((-1) * x1.toInt + 0) := f11
      obtain ⟨f12, hf⟩ := hb_unc hf
      have f12 : 0 ≤ -4 + (1 * hv M 8 4 + 0) := f12
      obtain ⟨f13, hf⟩ := hb_unc hf
      have f13 : 0 ≤ 0 + (1 * x2.toInt + 0) := f13
      obtain ⟨f14, hf⟩ := hb_unc hf
      have f14 : 0 ≤ 3 + ((-1) * x2.toInt + 0) := f14
      obtain ⟨f15, hf⟩ := hb_unc hf
      have f15 : 0 ≤ -1 + (1 * hv M 106 1 + 0) := f15
      exact w14 M' x b1 b2 b3 b4 b5 (by have h1 := f0; have h2 := f1; omega) (by have h1 := f2; have h2 := f3; omega) (by have h1 := f4; have h2 := f5; omega) (by have h1 := f6; have h2 := f7; omega) (by have h1 := f8; have h2 := f9; omega) (by have h1 := f10; have h2 := f11; omega) (by have h1 := f12; omega) (by have h1 := f13; omega) (by have h1 := f14; omega) (by have h1 := f15; omega)
    rcases List.mem_cons.mp hp with rfl | hp
    · obtain ⟨x, rfl, hr, hz1, hu1⟩ := mz_re_0 mz_GG hre rfl
      obtain ⟨M', z', u'⟩ := S
      cases hz1
      cases hu1
      obtain ⟨f0, hf⟩ := hb_unc hf
      have f0 : 0 ≤ 0 + (1 * res + 0) := f0
      rw [← hr] at f0
      obtain ⟨f1, hf⟩ := hb_unc hf
      have f1 : 0 ≤ 0 + ((-1) * res + 0) := f1
      rw [← hr] at f1
      obtain ⟨f2, hf⟩ := hb_unc hf
      have f2 : 0 ≤ 0 + ((-1) * hv M 91 3 + (1 * hv M' 91 3 + 0)) := f2
      obtain ⟨f3, hf⟩ := hb_unc hf
      have f3 : 0 ≤ 0 + (1 * hv M 91 3 + ((-1) * hv M' 91 3 + 0)) := f3
      obtain ⟨f4, hf⟩ := hb_unc hf
      have f4 : 0 ≤ 0 + ((-1) * hv M 96 3 + (1 * hv M' 96 3 + 0)) := f4
      obtain ⟨f5, hf⟩ := hb_unc hf
      have f5 : 0 ≤ 0 + (1 * hv M 96 3 + ((-1) * hv M' 96 3 + 0)) := f5
      obtain ⟨f6, hf⟩ := hb_unc hf
      have f6 : 0 ≤ 0 + ((-1) * hv M 101 3 + (1 * hv M' 101 3 + 0)) := f6
      obtain ⟨f7, hf⟩ := hb_unc hf
      have f7 : 0 ≤ 0 + (1 * hv M 101 3 + ((-1) * hv M' 101 3 + 0)) := f7
      obtain ⟨f8, hf⟩ := hb_unc hf
      have f8 : 0 ≤ 0 + ((-1) * hv M 106 3 + (1 * hv M' 106 3 + 0)) := f8
      obtain ⟨f9, hf⟩ := hb_unc hf
      have f9 : 0 ≤ 0 + (1 * hv M 106 3 + ((-1) * hv M' 106 3 + 0)) := f9
      obtain ⟨f10, hf⟩ := hb_unc hf
      have f10 : 0 ≤ -3 + (1 * x1.toInt + 0) := f10
      obtain ⟨f11, hf⟩ := hb_unc hf
      have f11 : 0 ≤ 3 + ((-1) * x1.toInt + 0) := f11
      obtain ⟨f12, hf⟩ := hb_unc hf
      have f12 : 0 ≤ -4 + (1 * hv M 8 4 + 0) := f12
      obtain ⟨f13, hf⟩ := hb_unc hf
      have f13 : 0 ≤ 0 + (1 * x2.toInt + 0) := f13
      obtain ⟨f14, hf⟩ := hb_unc hf
      have f14 : 0 ≤ 3 + ((-1) * x2.toInt + 0) := f14
      obtain ⟨f15, hf⟩ := hb_unc hf
      have f15 : 0 ≤ -4 + (1 * hv M 106 3 + 0) := f15
      exact w15 M' x b1 b2 b3 b4 b5 (by have h1 := f0; have h2 := f1; omega) (by have h1 := f2; have h2 := f3; omega) (by have h1 := f4; have h2 := f5; omega) (by have h1 := f6; have h2 := f7; omega) (by have h1 := f8; have h2 := f9; omega) (by have h1 := f10; have h2 := f11; omega) (by have h1 := f12; omega) (by have h1 := f13; omega) (by have h1 := f14; omega) (by have h1 := f15; omega)
    cases hp
theorem lu_append {d z u : Nat} {M : Nat → mq_C} {Q : (Option Value ⊕ Nat) → mq_S → Prop} {x1 : Int32} {x2 : Int32} (hd : 2 ≤ d) (hz : 272 ≤ z) (hm : mz_sh mz_GG M) (hx : HX M) (hl : lw M)
    (k : ∀ (M' : Nat → mq_C) (r : Int32), mz_sh mz_GG M' → HX M' → lw M' → (∀ a, a < 8 → M' a = M a) → M' 271 = M 271 → hv M' 8 4 = hv M 8 4 → hv M' 234 30 = hv M 234 30 → hv M' 91 1 = hv M 91 1 → hv M' 260 0 = hv M 260 0 → hv M' 96 1 = hv M 96 1 → hv M' 260 1 = hv M 260 1 → hv M' 101 1 = hv M 101 1 → hv M' 260 2 = hv M 260 2 → hv M' 106 1 = hv M 106 1 → hv M' 260 3 = hv M 260 3 → hv M' 258 0 = hv M 258 0 → hv M' 258 1 = hv M 258 1 → hv M' 258 2 = hv M 258 2 → hv M' 258 3 = hv M 258 3 → lr_append (hv M 8 4) (hv M 91 1) (hv M 96 1) (hv M 101 1) (hv M 106 1) (hv M 91 3) (hv M 96 3) (hv M 101 3) (hv M 106 3) x1.toInt x2.toInt (hv M' 91 3) (hv M' 96 3) (hv M' 101 3) (hv M' 106 3) r.toInt → Q (.inl (some (.int r))) (M', z, u)) : mq_R mq_PP d 7 0 [some (.ref 8), some (.int x1), some (.int x2)] [] (M, z, u) Q := by
  obtain ⟨l0, l1, l2, l3, l4, l5⟩ := hl
  refine ly_append (ha_all (mz_q106, 2) (List.mem_of_getElem? (show mz_Cs[106]? = _ from rfl))) hd hz hm hx ?_ ?_ ?_ ?_ ?_ ?_ ?_ ?_ ?_ ?_ ?_ ?_ ?_ ?_ ?_ ?_
  · intro M' r b1 b2 b3 b4 b5 f0 f1 f2 f3 f4 f5
    have e9 : hv M' 33 3 = hv M 33 3 := b5 9 (33, 3) rfl rfl
    have e10 : hv M' 33 5 = hv M 33 5 := b5 10 (33, 5) rfl rfl
    have e24 : hv M' 234 30 = hv M 234 30 := b5 24 (234, 30) rfl rfl
    have e33 : hv M' 257 0 = hv M 257 0 := b5 33 (257, 0) rfl rfl
    have e0 : hv M' 8 4 = hv M 8 4 := b5 0 (8, 4) rfl rfl
    have e12 : hv M' 44 0 = hv M 44 0 := b5 12 (44, 0) rfl rfl
    have e13 : hv M' 44 1 = hv M 44 1 := b5 13 (44, 1) rfl rfl
    have e14 : hv M' 44 3 = hv M 44 3 := b5 14 (44, 3) rfl rfl
    have e28 : hv M' 234 57 = hv M 234 57 := b5 28 (234, 57) rfl rfl
    have e38 : hv M' 91 1 = hv M 91 1 := b5 38 (91, 1) rfl rfl
    have e48 : hv M' 260 0 = hv M 260 0 := b5 48 (260, 0) rfl rfl
    have e40 : hv M' 96 1 = hv M 96 1 := b5 40 (96, 1) rfl rfl
    have e52 : hv M' 260 1 = hv M 260 1 := b5 52 (260, 1) rfl rfl
    have e42 : hv M' 101 1 = hv M 101 1 := b5 42 (101, 1) rfl rfl
    have e56 : hv M' 260 2 = hv M 260 2 := b5 56 (260, 2) rfl rfl
    have e44 : hv M' 106 1 = hv M 106 1 := b5 44 (106, 1) rfl rfl
    have e60 : hv M' 260 3 = hv M 260 3 := b5 60 (260, 3) rfl rfl
    have e47 : hv M' 258 0 = hv M 258 0 := b5 47 (258, 0) rfl rfl
    have e51 : hv M' 258 1 = hv M 258 1 := b5 51 (258, 1) rfl rfl
    have e55 : hv M' 258 2 = hv M 258 2 := b5 55 (258, 2) rfl rfl
    have e59 : hv M' 258 3 = hv M 258 3 := b5 59 (258, 3) rfl rfl
    exact k M' r b1 b2 ⟨by omega, by omega, by omega, by omega, by omega, by omega⟩ b4 (b3 271 (by decide) (by decide +kernel)) e0 e24 e38 e48 e40 e52 e42 e56 e44 e60 e47 e51 e55 e59 (show lr_append _ _ _ _ _ _ _ _ _ _ _ _ _ _ _ _ from .inl ⟨by omega, by omega, by omega, by omega, by omega, (.inl (by omega))⟩)
  · intro M' r b1 b2 b3 b4 b5 f0 f1 f2 f3 f4 f5
    have e9 : hv M' 33 3 = hv M 33 3 := b5 9 (33, 3) rfl rfl
    have e10 : hv M' 33 5 = hv M 33 5 := b5 10 (33, 5) rfl rfl
    have e24 : hv M' 234 30 = hv M 234 30 := b5 24 (234, 30) rfl rfl
    have e33 : hv M' 257 0 = hv M 257 0 := b5 33 (257, 0) rfl rfl
    have e0 : hv M' 8 4 = hv M 8 4 := b5 0 (8, 4) rfl rfl
    have e12 : hv M' 44 0 = hv M 44 0 := b5 12 (44, 0) rfl rfl
    have e13 : hv M' 44 1 = hv M 44 1 := b5 13 (44, 1) rfl rfl
    have e14 : hv M' 44 3 = hv M 44 3 := b5 14 (44, 3) rfl rfl
    have e28 : hv M' 234 57 = hv M 234 57 := b5 28 (234, 57) rfl rfl
    have e38 : hv M' 91 1 = hv M 91 1 := b5 38 (91, 1) rfl rfl
    have e48 : hv M' 260 0 = hv M 260 0 := b5 48 (260, 0) rfl rfl
    have e40 : hv M' 96 1 = hv M 96 1 := b5 40 (96, 1) rfl rfl
    have e52 : hv M' 260 1 = hv M 260 1 := b5 52 (260, 1) rfl rfl
    have e42 : hv M' 101 1 = hv M 101 1 := b5 42 (101, 1) rfl rfl
    have e56 : hv M' 260 2 = hv M 260 2 := b5 56 (260, 2) rfl rfl
    have e44 : hv M' 106 1 = hv M 106 1 := b5 44 (106, 1) rfl rfl
    have e60 : hv M' 260 3 = hv M 260 3 := b5 60 (260, 3) rfl rfl
    have e47 : hv M' 258 0 = hv M 258 0 := b5 47 (258, 0) rfl rfl
    have e51 : hv M' 258 1 = hv M 258 1 := b5 51 (258, 1) rfl rfl
    have e55 : hv M' 258 2 = hv M 258 2 := b5 55 (258, 2) rfl rfl
    have e59 : hv M' 258 3 = hv M 258 3 := b5 59 (258, 3) rfl rfl
    exact k M' r b1 b2 ⟨by omega, by omega, by omega, by omega, by omega, by omega⟩ b4 (b3 271 (by decide) (by decide +kernel)) e0 e24 e38 e48 e40 e52 e42 e56 e44 e60 e47 e51 e55 e59 (show lr_append _ _ _ _ _ _ _ _ _ _ _ _ _ _ _ _ from .inl ⟨by omega, by omega, by omega, by omega, by omega, (.inr (.inl (by omega)))⟩)
  · intro M' r b1 b2 b3 b4 b5 f0 f1 f2 f3 f4 f5
    have e9 : hv M' 33 3 = hv M 33 3 := b5 9 (33, 3) rfl rfl
    have e10 : hv M' 33 5 = hv M 33 5 := b5 10 (33, 5) rfl rfl
    have e24 : hv M' 234 30 = hv M 234 30 := b5 24 (234, 30) rfl rfl
    have e33 : hv M' 257 0 = hv M 257 0 := b5 33 (257, 0) rfl rfl
    have e0 : hv M' 8 4 = hv M 8 4 := b5 0 (8, 4) rfl rfl
    have e12 : hv M' 44 0 = hv M 44 0 := b5 12 (44, 0) rfl rfl
    have e13 : hv M' 44 1 = hv M 44 1 := b5 13 (44, 1) rfl rfl
    have e14 : hv M' 44 3 = hv M 44 3 := b5 14 (44, 3) rfl rfl
    have e28 : hv M' 234 57 = hv M 234 57 := b5 28 (234, 57) rfl rfl
    have e38 : hv M' 91 1 = hv M 91 1 := b5 38 (91, 1) rfl rfl
    have e48 : hv M' 260 0 = hv M 260 0 := b5 48 (260, 0) rfl rfl
    have e40 : hv M' 96 1 = hv M 96 1 := b5 40 (96, 1) rfl rfl
    have e52 : hv M' 260 1 = hv M 260 1 := b5 52 (260, 1) rfl rfl
    have e42 : hv M' 101 1 = hv M 101 1 := b5 42 (101, 1) rfl rfl
    have e56 : hv M' 260 2 = hv M 260 2 := b5 56 (260, 2) rfl rfl
    have e44 : hv M' 106 1 = hv M 106 1 := b5 44 (106, 1) rfl rfl
    have e60 : hv M' 260 3 = hv M 260 3 := b5 60 (260, 3) rfl rfl
    have e47 : hv M' 258 0 = hv M 258 0 := b5 47 (258, 0) rfl rfl
    have e51 : hv M' 258 1 = hv M 258 1 := b5 51 (258, 1) rfl rfl
    have e55 : hv M' 258 2 = hv M 258 2 := b5 55 (258, 2) rfl rfl
    have e59 : hv M' 258 3 = hv M 258 3 := b5 59 (258, 3) rfl rfl
    exact k M' r b1 b2 ⟨by omega, by omega, by omega, by omega, by omega, by omega⟩ b4 (b3 271 (by decide) (by decide +kernel)) e0 e24 e38 e48 e40 e52 e42 e56 e44 e60 e47 e51 e55 e59 (show lr_append _ _ _ _ _ _ _ _ _ _ _ _ _ _ _ _ from .inl ⟨by omega, by omega, by omega, by omega, by omega, (.inr (.inr (.inl (by omega))))⟩)
  · intro M' r b1 b2 b3 b4 b5 f0 f1 f2 f3 f4 f5
    have e9 : hv M' 33 3 = hv M 33 3 := b5 9 (33, 3) rfl rfl
    have e10 : hv M' 33 5 = hv M 33 5 := b5 10 (33, 5) rfl rfl
    have e24 : hv M' 234 30 = hv M 234 30 := b5 24 (234, 30) rfl rfl
    have e33 : hv M' 257 0 = hv M 257 0 := b5 33 (257, 0) rfl rfl
    have e0 : hv M' 8 4 = hv M 8 4 := b5 0 (8, 4) rfl rfl
    have e12 : hv M' 44 0 = hv M 44 0 := b5 12 (44, 0) rfl rfl
    have e13 : hv M' 44 1 = hv M 44 1 := b5 13 (44, 1) rfl rfl
    have e14 : hv M' 44 3 = hv M 44 3 := b5 14 (44, 3) rfl rfl
    have e28 : hv M' 234 57 = hv M 234 57 := b5 28 (234, 57) rfl rfl
    have e38 : hv M' 91 1 = hv M 91 1 := b5 38 (91, 1) rfl rfl
    have e48 : hv M' 260 0 = hv M 260 0 := b5 48 (260, 0) rfl rfl
    have e40 : hv M' 96 1 = hv M 96 1 := b5 40 (96, 1) rfl rfl
    have e52 : hv M' 260 1 = hv M 260 1 := b5 52 (260, 1) rfl rfl
    have e42 : hv M' 101 1 = hv M 101 1 := b5 42 (101, 1) rfl rfl
    have e56 : hv M' 260 2 = hv M 260 2 := b5 56 (260, 2) rfl rfl
    have e44 : hv M' 106 1 = hv M 106 1 := b5 44 (106, 1) rfl rfl
    have e60 : hv M' 260 3 = hv M 260 3 := b5 60 (260, 3) rfl rfl
    have e47 : hv M' 258 0 = hv M 258 0 := b5 47 (258, 0) rfl rfl
    have e51 : hv M' 258 1 = hv M 258 1 := b5 51 (258, 1) rfl rfl
    have e55 : hv M' 258 2 = hv M 258 2 := b5 55 (258, 2) rfl rfl
    have e59 : hv M' 258 3 = hv M 258 3 := b5 59 (258, 3) rfl rfl
    exact k M' r b1 b2 ⟨by omega, by omega, by omega, by omega, by omega, by omega⟩ b4 (b3 271 (by decide) (by decide +kernel)) e0 e24 e38 e48 e40 e52 e42 e56 e44 e60 e47 e51 e55 e59 (show lr_append _ _ _ _ _ _ _ _ _ _ _ _ _ _ _ _ from .inl ⟨by omega, by omega, by omega, by omega, by omega, (.inr (.inr (.inr (.inl (by omega)))))⟩)
  · intro M' r b1 b2 b3 b4 b5 f0 f1 f2 f3 f4 f5 f6 f7 f8 f9 f10
    have e9 : hv M' 33 3 = hv M 33 3 := b5 9 (33, 3) rfl rfl
    have e10 : hv M' 33 5 = hv M 33 5 := b5 10 (33, 5) rfl rfl
    have e24 : hv M' 234 30 = hv M 234 30 := b5 24 (234, 30) rfl rfl
    have e33 : hv M' 257 0 = hv M 257 0 := b5 33 (257, 0) rfl rfl
    have e0 : hv M' 8 4 = hv M 8 4 := b5 0 (8, 4) rfl rfl
    have e12 : hv M' 44 0 = hv M 44 0 := b5 12 (44, 0) rfl rfl
    have e13 : hv M' 44 1 = hv M 44 1 := b5 13 (44, 1) rfl rfl
    have e14 : hv M' 44 3 = hv M 44 3 := b5 14 (44, 3) rfl rfl
    have e28 : hv M' 234 57 = hv M 234 57 := b5 28 (234, 57) rfl rfl
    have e38 : hv M' 91 1 = hv M 91 1 := b5 38 (91, 1) rfl rfl
    have e48 : hv M' 260 0 = hv M 260 0 := b5 48 (260, 0) rfl rfl
    have e40 : hv M' 96 1 = hv M 96 1 := b5 40 (96, 1) rfl rfl
    have e52 : hv M' 260 1 = hv M 260 1 := b5 52 (260, 1) rfl rfl
    have e42 : hv M' 101 1 = hv M 101 1 := b5 42 (101, 1) rfl rfl
    have e56 : hv M' 260 2 = hv M 260 2 := b5 56 (260, 2) rfl rfl
    have e44 : hv M' 106 1 = hv M 106 1 := b5 44 (106, 1) rfl rfl
    have e60 : hv M' 260 3 = hv M 260 3 := b5 60 (260, 3) rfl rfl
    have e47 : hv M' 258 0 = hv M 258 0 := b5 47 (258, 0) rfl rfl
    have e51 : hv M' 258 1 = hv M 258 1 := b5 51 (258, 1) rfl rfl
    have e55 : hv M' 258 2 = hv M 258 2 := b5 55 (258, 2) rfl rfl
    have e59 : hv M' 258 3 = hv M 258 3 := b5 59 (258, 3) rfl rfl
    exact k M' r b1 b2 ⟨by omega, by omega, by omega, by omega, by omega, by omega⟩ b4 (b3 271 (by decide) (by decide +kernel)) e0 e24 e38 e48 e40 e52 e42 e56 e44 e60 e47 e51 e55 e59 (show lr_append _ _ _ _ _ _ _ _ _ _ _ _ _ _ _ _ from (.inr (.inl ⟨by omega, by omega, by omega, by omega, by omega, by omega, by omega, by omega, by omega, by omega, by omega⟩)))
  · intro M' r b1 b2 b3 b4 b5 f0 f1 f2 f3 f4 f5 f6 f7 f8 f9
    have e9 : hv M' 33 3 = hv M 33 3 := b5 9 (33, 3) rfl rfl
    have e10 : hv M' 33 5 = hv M 33 5 := b5 10 (33, 5) rfl rfl
    have e24 : hv M' 234 30 = hv M 234 30 := b5 24 (234, 30) rfl rfl
    have e33 : hv M' 257 0 = hv M 257 0 := b5 33 (257, 0) rfl rfl
    have e0 : hv M' 8 4 = hv M 8 4 := b5 0 (8, 4) rfl rfl
    have e12 : hv M' 44 0 = hv M 44 0 := b5 12 (44, 0) rfl rfl
    have e13 : hv M' 44 1 = hv M 44 1 := b5 13 (44, 1) rfl rfl
    have e14 : hv M' 44 3 = hv M 44 3 := b5 14 (44, 3) rfl rfl
    have e28 : hv M' 234 57 = hv M 234 57 := b5 28 (234, 57) rfl rfl
    have e38 : hv M' 91 1 = hv M 91 1 := b5 38 (91, 1) rfl rfl
    have e48 : hv M' 260 0 = hv M 260 0 := b5 48 (260, 0) rfl rfl
    have e40 : hv M' 96 1 = hv M 96 1 := b5 40 (96, 1) rfl rfl
    have e52 : hv M' 260 1 = hv M 260 1 := b5 52 (260, 1) rfl rfl
    have e42 : hv M' 101 1 = hv M 101 1 := b5 42 (101, 1) rfl rfl
    have e56 : hv M' 260 2 = hv M 260 2 := b5 56 (260, 2) rfl rfl
    have e44 : hv M' 106 1 = hv M 106 1 := b5 44 (106, 1) rfl rfl
    have e60 : hv M' 260 3 = hv M 260 3 := b5 60 (260, 3) rfl rfl
    have e47 : hv M' 258 0 = hv M 258 0 := b5 47 (258, 0) rfl rfl
    have e51 : hv M' 258 1 = hv M 258 1 := b5 51 (258, 1) rfl rfl
    have e55 : hv M' 258 2 = hv M 258 2 := b5 55 (258, 2) rfl rfl
    have e59 : hv M' 258 3 = hv M 258 3 := b5 59 (258, 3) rfl rfl
    exact k M' r b1 b2 ⟨by omega, by omega, by omega, by omega, by omega, by omega⟩ b4 (b3 271 (by decide) (by decide +kernel)) e0 e24 e38 e48 e40 e52 e42 e56 e44 e60 e47 e51 e55 e59 (show lr_append _ _ _ _ _ _ _ _ _ _ _ _ _ _ _ _ from .inl ⟨by omega, by omega, by omega, by omega, by omega, (.inr (.inr (.inr (.inr (.inl ⟨by omega, (.inl (by omega))⟩)))))⟩)
  · intro M' r b1 b2 b3 b4 b5 f0 f1 f2 f3 f4 f5 f6 f7 f8 f9
    have e9 : hv M' 33 3 = hv M 33 3 := b5 9 (33, 3) rfl rfl
    have e10 : hv M' 33 5 = hv M 33 5 := b5 10 (33, 5) rfl rfl
    have e24 : hv M' 234 30 = hv M 234 30 := b5 24 (234, 30) rfl rfl
    have e33 : hv M' 257 0 = hv M 257 0 := b5 33 (257, 0) rfl rfl
    have e0 : hv M' 8 4 = hv M 8 4 := b5 0 (8, 4) rfl rfl
    have e12 : hv M' 44 0 = hv M 44 0 := b5 12 (44, 0) rfl rfl
    have e13 : hv M' 44 1 = hv M 44 1 := b5 13 (44, 1) rfl rfl
    have e14 : hv M' 44 3 = hv M 44 3 := b5 14 (44, 3) rfl rfl
    have e28 : hv M' 234 57 = hv M 234 57 := b5 28 (234, 57) rfl rfl
    have e38 : hv M' 91 1 = hv M 91 1 := b5 38 (91, 1) rfl rfl
    have e48 : hv M' 260 0 = hv M 260 0 := b5 48 (260, 0) rfl rfl
    have e40 : hv M' 96 1 = hv M 96 1 := b5 40 (96, 1) rfl rfl
    have e52 : hv M' 260 1 = hv M 260 1 := b5 52 (260, 1) rfl rfl
    have e42 : hv M' 101 1 = hv M 101 1 := b5 42 (101, 1) rfl rfl
    have e56 : hv M' 260 2 = hv M 260 2 := b5 56 (260, 2) rfl rfl
    have e44 : hv M' 106 1 = hv M 106 1 := b5 44 (106, 1) rfl rfl
    have e60 : hv M' 260 3 = hv M 260 3 := b5 60 (260, 3) rfl rfl
    have e47 : hv M' 258 0 = hv M 258 0 := b5 47 (258, 0) rfl rfl
    have e51 : hv M' 258 1 = hv M 258 1 := b5 51 (258, 1) rfl rfl
    have e55 : hv M' 258 2 = hv M 258 2 := b5 55 (258, 2) rfl rfl
    have e59 : hv M' 258 3 = hv M 258 3 := b5 59 (258, 3) rfl rfl
    exact k M' r b1 b2 ⟨by omega, by omega, by omega, by omega, by omega, by omega⟩ b4 (b3 271 (by decide) (by decide +kernel)) e0 e24 e38 e48 e40 e52 e42 e56 e44 e60 e47 e51 e55 e59 (show lr_append _ _ _ _ _ _ _ _ _ _ _ _ _ _ _ _ from .inl ⟨by omega, by omega, by omega, by omega, by omega, (.inr (.inr (.inr (.inr (.inl ⟨by omega, (.inr (by omega))⟩)))))⟩)
  · intro M' r b1 b2 b3 b4 b5 f0 f1 f2 f3 f4 f5 f6 f7 f8 f9 f10
    have e9 : hv M' 33 3 = hv M 33 3 := b5 9 (33, 3) rfl rfl
    have e10 : hv M' 33 5 = hv M 33 5 := b5 10 (33, 5) rfl rfl
    have e24 : hv M' 234 30 = hv M 234 30 := b5 24 (234, 30) rfl rfl
    have e33 : hv M' 257 0 = hv M 257 0 := b5 33 (257, 0) rfl rfl
    have e0 : hv M' 8 4 = hv M 8 4 := b5 0 (8, 4) rfl rfl
    have e12 : hv M' 44 0 = hv M 44 0 := b5 12 (44, 0) rfl rfl
    have e13 : hv M' 44 1 = hv M 44 1 := b5 13 (44, 1) rfl rfl
    have e14 : hv M' 44 3 = hv M 44 3 := b5 14 (44, 3) rfl rfl
    have e28 : hv M' 234 57 = hv M 234 57 := b5 28 (234, 57) rfl rfl
    have e38 : hv M' 91 1 = hv M 91 1 := b5 38 (91, 1) rfl rfl
    have e48 : hv M' 260 0 = hv M 260 0 := b5 48 (260, 0) rfl rfl
    have e40 : hv M' 96 1 = hv M 96 1 := b5 40 (96, 1) rfl rfl
    have e52 : hv M' 260 1 = hv M 260 1 := b5 52 (260, 1) rfl rfl
    have e42 : hv M' 101 1 = hv M 101 1 := b5 42 (101, 1) rfl rfl
    have e56 : hv M' 260 2 = hv M 260 2 := b5 56 (260, 2) rfl rfl
    have e44 : hv M' 106 1 = hv M 106 1 := b5 44 (106, 1) rfl rfl
    have e60 : hv M' 260 3 = hv M 260 3 := b5 60 (260, 3) rfl rfl
    have e47 : hv M' 258 0 = hv M 258 0 := b5 47 (258, 0) rfl rfl
    have e51 : hv M' 258 1 = hv M 258 1 := b5 51 (258, 1) rfl rfl
    have e55 : hv M' 258 2 = hv M 258 2 := b5 55 (258, 2) rfl rfl
    have e59 : hv M' 258 3 = hv M 258 3 := b5 59 (258, 3) rfl rfl
    exact k M' r b1 b2 ⟨by omega, by omega, by omega, by omega, by omega, by omega⟩ b4 (b3 271 (by decide) (by decide +kernel)) e0 e24 e38 e48 e40 e52 e42 e56 e44 e60 e47 e51 e55 e59 (show lr_append _ _ _ _ _ _ _ _ _ _ _ _ _ _ _ _ from (.inr (.inr (.inl ⟨by omega, by omega, by omega, by omega, by omega, by omega, by omega, by omega, by omega, by omega, by omega⟩))))
  · intro M' r b1 b2 b3 b4 b5 f0 f1 f2 f3 f4 f5 f6 f7 f8 f9
    have e9 : hv M' 33 3 = hv M 33 3 := b5 9 (33, 3) rfl rfl
    have e10 : hv M' 33 5 = hv M 33 5 := b5 10 (33, 5) rfl rfl
    have e24 : hv M' 234 30 = hv M 234 30 := b5 24 (234, 30) rfl rfl
    have e33 : hv M' 257 0 = hv M 257 0 := b5 33 (257, 0) rfl rfl
    have e0 : hv M' 8 4 = hv M 8 4 := b5 0 (8, 4) rfl rfl
    have e12 : hv M' 44 0 = hv M 44 0 := b5 12 (44, 0) rfl rfl
    have e13 : hv M' 44 1 = hv M 44 1 := b5 13 (44, 1) rfl rfl
    have e14 : hv M' 44 3 = hv M 44 3 := b5 14 (44, 3) rfl rfl
    have e28 : hv M' 234 57 = hv M 234 57 := b5 28 (234, 57) rfl rfl
    have e38 : hv M' 91 1 = hv M 91 1 := b5 38 (91, 1) rfl rfl
    have e48 : hv M' 260 0 = hv M 260 0 := b5 48 (260, 0) rfl rfl
    have e40 : hv M' 96 1 = hv M 96 1 := b5 40 (96, 1) rfl rfl
    have e52 : hv M' 260 1 = hv M 260 1 := b5 52 (260, 1) rfl rfl
    have e42 : hv M' 101 1 = hv M 101 1 := b5 42 (101, 1) rfl rfl
    have e56 : hv M' 260 2 = hv M 260 2 := b5 56 (260, 2) rfl rfl
    have e44 : hv M' 106 1 = hv M 106 1 := b5 44 (106, 1) rfl rfl
    have e60 : hv M' 260 3 = hv M 260 3 := b5 60 (260, 3) rfl rfl
    have e47 : hv M' 258 0 = hv M 258 0 := b5 47 (258, 0) rfl rfl
    have e51 : hv M' 258 1 = hv M 258 1 := b5 51 (258, 1) rfl rfl
    have e55 : hv M' 258 2 = hv M 258 2 := b5 55 (258, 2) rfl rfl
    have e59 : hv M' 258 3 = hv M 258 3 := b5 59 (258, 3) rfl rfl
    exact k M' r b1 b2 ⟨by omega, by omega, by omega, by omega, by omega, by omega⟩ b4 (b3 271 (by decide) (by decide +kernel)) e0 e24 e38 e48 e40 e52 e42 e56 e44 e60 e47 e51 e55 e59 (show lr_append _ _ _ _ _ _ _ _ _ _ _ _ _ _ _ _ from .inl ⟨by omega, by omega, by omega, by omega, by omega, (.inr (.inr (.inr (.inr (.inr (.inl ⟨by omega, (.inl (by omega))⟩))))))⟩)
  · intro M' r b1 b2 b3 b4 b5 f0 f1 f2 f3 f4 f5 f6 f7 f8 f9
    have e9 : hv M' 33 3 = hv M 33 3 := b5 9 (33, 3) rfl rfl
    have e10 : hv M' 33 5 = hv M 33 5 := b5 10 (33, 5) rfl rfl
    have e24 : hv M' 234 30 = hv M 234 30 := b5 24 (234, 30) rfl rfl
    have e33 : hv M' 257 0 = hv M 257 0 := b5 33 (257, 0) rfl rfl
    have e0 : hv M' 8 4 = hv M 8 4 := b5 0 (8, 4) rfl rfl
    have e12 : hv M' 44 0 = hv M 44 0 := b5 12 (44, 0) rfl rfl
    have e13 : hv M' 44 1 = hv M 44 1 := b5 13 (44, 1) rfl rfl
    have e14 : hv M' 44 3 = hv M 44 3 := b5 14 (44, 3) rfl rfl
    have e28 : hv M' 234 57 = hv M 234 57 := b5 28 (234, 57) rfl rfl
    have e38 : hv M' 91 1 = hv M 91 1 := b5 38 (91, 1) rfl rfl
    have e48 : hv M' 260 0 = hv M 260 0 := b5 48 (260, 0) rfl rfl
    have e40 : hv M' 96 1 = hv M 96 1 := b5 40 (96, 1) rfl rfl
    have e52 : hv M' 260 1 = hv M 260 1 := b5 52 (260, 1) rfl rfl
    have e42 : hv M' 101 1 = hv M 101 1 := b5 42 (101, 1) rfl rfl
    have e56 : hv M' 260 2 = hv M 260 2 := b5 56 (260, 2) rfl rfl
    have e44 : hv M' 106 1 = hv M 106 1 := b5 44 (106, 1) rfl rfl
    have e60 : hv M' 260 3 = hv M 260 3 := b5 60 (260, 3) rfl rfl
    have e47 : hv M' 258 0 = hv M 258 0 := b5 47 (258, 0) rfl rfl
    have e51 : hv M' 258 1 = hv M 258 1 := b5 51 (258, 1) rfl rfl
    have e55 : hv M' 258 2 = hv M 258 2 := b5 55 (258, 2) rfl rfl
    have e59 : hv M' 258 3 = hv M 258 3 := b5 59 (258, 3) rfl rfl
    exact k M' r b1 b2 ⟨by omega, by omega, by omega, by omega, by omega, by omega⟩ b4 (b3 271 (by decide) (by decide +kernel)) e0 e24 e38 e48 e40 e52 e42 e56 e44 e60 e47 e51 e55 e59 (show lr_append _ _ _ _ _ _ _ _ _ _ _ _ _ _ _ _ from .inl ⟨by omega, by omega, by omega, by omega, by omega, (.inr (.inr (.inr (.inr (.inr (.inl ⟨by omega, (.inr (by omega))⟩))))))⟩)
  · intro M' r b1 b2 b3 b4 b5 f0 f1 f2 f3 f4 f5 f6 f7 f8 f9 f10
    have e9 : hv M' 33 3 = hv M 33 3 := b5 9 (33, 3) rfl rfl
    have e10 : hv M' 33 5 = hv M 33 5 := b5 10 (33, 5) rfl rfl
    have e24 : hv M' 234 30 = hv M 234 30 := b5 24 (234, 30) rfl rfl
    have e33 : hv M' 257 0 = hv M 257 0 := b5 33 (257, 0) rfl rfl
    have e0 : hv M' 8 4 = hv M 8 4 := b5 0 (8, 4) rfl rfl
    have e12 : hv M' 44 0 = hv M 44 0 := b5 12 (44, 0) rfl rfl
    have e13 : hv M' 44 1 = hv M 44 1 := b5 13 (44, 1) rfl rfl
    have e14 : hv M' 44 3 = hv M 44 3 := b5 14 (44, 3) rfl rfl
    have e28 : hv M' 234 57 = hv M 234 57 := b5 28 (234, 57) rfl rfl
    have e38 : hv M' 91 1 = hv M 91 1 := b5 38 (91, 1) rfl rfl
    have e48 : hv M' 260 0 = hv M 260 0 := b5 48 (260, 0) rfl rfl
    have e40 : hv M' 96 1 = hv M 96 1 := b5 40 (96, 1) rfl rfl
    have e52 : hv M' 260 1 = hv M 260 1 := b5 52 (260, 1) rfl rfl
    have e42 : hv M' 101 1 = hv M 101 1 := b5 42 (101, 1) rfl rfl
    have e56 : hv M' 260 2 = hv M 260 2 := b5 56 (260, 2) rfl rfl
    have e44 : hv M' 106 1 = hv M 106 1 := b5 44 (106, 1) rfl rfl
    have e60 : hv M' 260 3 = hv M 260 3 := b5 60 (260, 3) rfl rfl
    have e47 : hv M' 258 0 = hv M 258 0 := b5 47 (258, 0) rfl rfl
    have e51 : hv M' 258 1 = hv M 258 1 := b5 51 (258, 1) rfl rfl
    have e55 : hv M' 258 2 = hv M 258 2 := b5 55 (258, 2) rfl rfl
    have e59 : hv M' 258 3 = hv M 258 3 := b5 59 (258, 3) rfl rfl
    exact k M' r b1 b2 ⟨by omega, by omega, by omega, by omega, by omega, by omega⟩ b4 (b3 271 (by decide) (by decide +kernel)) e0 e24 e38 e48 e40 e52 e42 e56 e44 e60 e47 e51 e55 e59 (show lr_append _ _ _ _ _ _ _ _ _ _ _ _ _ _ _ _ from (.inr (.inr (.inr (.inl ⟨by omega, by omega, by omega, by omega, by omega, by omega, by omega, by omega, by omega, by omega, by omega⟩)))))
  · intro M' r b1 b2 b3 b4 b5 f0 f1 f2 f3 f4 f5 f6 f7 f8 f9
    have e9 : hv M' 33 3 = hv M 33 3 := b5 9 (33, 3) rfl rfl
    have e10 : hv M' 33 5 = hv M 33 5 := b5 10 (33, 5) rfl rfl
    have e24 : hv M' 234 30 = hv M 234 30 := b5 24 (234, 30) rfl rfl
    have e33 : hv M' 257 0 = hv M 257 0 := b5 33 (257, 0) rfl rfl
    have e0 : hv M' 8 4 = hv M 8 4 := b5 0 (8, 4) rfl rfl
    have e12 : hv M' 44 0 = hv M 44 0 := b5 12 (44, 0) rfl rfl
    have e13 : hv M' 44 1 = hv M 44 1 := b5 13 (44, 1) rfl rfl
    have e14 : hv M' 44 3 = hv M 44 3 := b5 14 (44, 3) rfl rfl
    have e28 : hv M' 234 57 = hv M 234 57 := b5 28 (234, 57) rfl rfl
    have e38 : hv M' 91 1 = hv M 91 1 := b5 38 (91, 1) rfl rfl
    have e48 : hv M' 260 0 = hv M 260 0 := b5 48 (260, 0) rfl rfl
    have e40 : hv M' 96 1 = hv M 96 1 := b5 40 (96, 1) rfl rfl
    have e52 : hv M' 260 1 = hv M 260 1 := b5 52 (260, 1) rfl rfl
    have e42 : hv M' 101 1 = hv M 101 1 := b5 42 (101, 1) rfl rfl
    have e56 : hv M' 260 2 = hv M 260 2 := b5 56 (260, 2) rfl rfl
    have e44 : hv M' 106 1 = hv M 106 1 := b5 44 (106, 1) rfl rfl
    have e60 : hv M' 260 3 = hv M 260 3 := b5 60 (260, 3) rfl rfl
    have e47 : hv M' 258 0 = hv M 258 0 := b5 47 (258, 0) rfl rfl
    have e51 : hv M' 258 1 = hv M 258 1 := b5 51 (258, 1) rfl rfl
    have e55 : hv M' 258 2 = hv M 258 2 := b5 55 (258, 2) rfl rfl
    have e59 : hv M' 258 3 = hv M 258 3 := b5 59 (258, 3) rfl rfl
    exact k M' r b1 b2 ⟨by omega, by omega, by omega, by omega, by omega, by omega⟩ b4 (b3 271 (by decide) (by decide +kernel)) e0 e24 e38 e48 e40 e52 e42 e56 e44 e60 e47 e51 e55 e59 (show lr_append _ _ _ _ _ _ _ _ _ _ _ _ _ _ _ _ from .inl ⟨by omega, by omega, by omega, by omega, by omega, (.inr (.inr (.inr (.inr (.inr (.inr (.inl ⟨by omega, (.inl (by omega))⟩)))))))⟩)
  · intro M' r b1 b2 b3 b4 b5 f0 f1 f2 f3 f4 f5 f6 f7 f8 f9
    have e9 : hv M' 33 3 = hv M 33 3 := b5 9 (33, 3) rfl rfl
    have e10 : hv M' 33 5 = hv M 33 5 := b5 10 (33, 5) rfl rfl
    have e24 : hv M' 234 30 = hv M 234 30 := b5 24 (234, 30) rfl rfl
    have e33 : hv M' 257 0 = hv M 257 0 := b5 33 (257, 0) rfl rfl
    have e0 : hv M' 8 4 = hv M 8 4 := b5 0 (8, 4) rfl rfl
    have e12 : hv M' 44 0 = hv M 44 0 := b5 12 (44, 0) rfl rfl
    have e13 : hv M' 44 1 = hv M 44 1 := b5 13 (44, 1) rfl rfl
    have e14 : hv M' 44 3 = hv M 44 3 := b5 14 (44, 3) rfl rfl
    have e28 : hv M' 234 57 = hv M 234 57 := b5 28 (234, 57) rfl rfl
    have e38 : hv M' 91 1 = hv M 91 1 := b5 38 (91, 1) rfl rfl
    have e48 : hv M' 260 0 = hv M 260 0 := b5 48 (260, 0) rfl rfl
    have e40 : hv M' 96 1 = hv M 96 1 := b5 40 (96, 1) rfl rfl
    have e52 : hv M' 260 1 = hv M 260 1 := b5 52 (260, 1) rfl rfl
    have e42 : hv M' 101 1 = hv M 101 1 := b5 42 (101, 1) rfl rfl
    have e56 : hv M' 260 2 = hv M 260 2 := b5 56 (260, 2) rfl rfl
    have e44 : hv M' 106 1 = hv M 106 1 := b5 44 (106, 1) rfl rfl
    have e60 : hv M' 260 3 = hv M 260 3 := b5 60 (260, 3) rfl rfl
    have e47 : hv M' 258 0 = hv M 258 0 := b5 47 (258, 0) rfl rfl
    have e51 : hv M' 258 1 = hv M 258 1 := b5 51 (258, 1) rfl rfl
    have e55 : hv M' 258 2 = hv M 258 2 := b5 55 (258, 2) rfl rfl
    have e59 : hv M' 258 3 = hv M 258 3 := b5 59 (258, 3) rfl rfl
    exact k M' r b1 b2 ⟨by omega, by omega, by omega, by omega, by omega, by omega⟩ b4 (b3 271 (by decide) (by decide +kernel)) e0 e24 e38 e48 e40 e52 e42 e56 e44 e60 e47 e51 e55 e59 (show lr_append _ _ _ _ _ _ _ _ _ _ _ _ _ _ _ _ from .inl ⟨by omega, by omega, by omega, by omega, by omega, (.inr (.inr (.inr (.inr (.inr (.inr (.inl ⟨by omega, (.inr (by omega))⟩)))))))⟩)
  · intro M' r b1 b2 b3 b4 b5 f0 f1 f2 f3 f4 f5 f6 f7 f8 f9 f10
    have e9 : hv M' 33 3 = hv M 33 3 := b5 9 (33, 3) rfl rfl
    have e10 : hv M' 33 5 = hv M 33 5 := b5 10 (33, 5) rfl rfl
    have e24 : hv M' 234 30 = hv M 234 30 := b5 24 (234, 30) rfl rfl
    have e33 : hv M' 257 0 = hv M 257 0 := b5 33 (257, 0) rfl rfl
    have e0 : hv M' 8 4 = hv M 8 4 := b5 0 (8, 4) rfl rfl
    have e12 : hv M' 44 0 = hv M 44 0 := b5 12 (44, 0) rfl rfl
    have e13 : hv M' 44 1 = hv M 44 1 := b5 13 (44, 1) rfl rfl
    have e14 : hv M' 44 3 = hv M 44 3 := b5 14 (44, 3) rfl rfl
    have e28 : hv M' 234 57 = hv M 234 57 := b5 28 (234, 57) rfl rfl
    have e38 : hv M' 91 1 = hv M 91 1 := b5 38 (91, 1) rfl rfl
    have e48 : hv M' 260 0 = hv M 260 0 := b5 48 (260, 0) rfl rfl
    have e40 : hv M' 96 1 = hv M 96 1 := b5 40 (96, 1) rfl rfl
    have e52 : hv M' 260 1 = hv M 260 1 := b5 52 (260, 1) rfl rfl
    have e42 : hv M' 101 1 = hv M 101 1 := b5 42 (101, 1) rfl rfl
    have e56 : hv M' 260 2 = hv M 260 2 := b5 56 (260, 2) rfl rfl
    have e44 : hv M' 106 1 = hv M 106 1 := b5 44 (106, 1) rfl rfl
    have e60 : hv M' 260 3 = hv M 260 3 := b5 60 (260, 3) rfl rfl
    have e47 : hv M' 258 0 = hv M 258 0 := b5 47 (258, 0) rfl rfl
    have e51 : hv M' 258 1 = hv M 258 1 := b5 51 (258, 1) rfl rfl
    have e55 : hv M' 258 2 = hv M 258 2 := b5 55 (258, 2) rfl rfl
    have e59 : hv M' 258 3 = hv M 258 3 := b5 59 (258, 3) rfl rfl
    exact k M' r b1 b2 ⟨by omega, by omega, by omega, by omega, by omega, by omega⟩ b4 (b3 271 (by decide) (by decide +kernel)) e0 e24 e38 e48 e40 e52 e42 e56 e44 e60 e47 e51 e55 e59 (show lr_append _ _ _ _ _ _ _ _ _ _ _ _ _ _ _ _ from (.inr (.inr (.inr (.inr ⟨by omega, by omega, by omega, by omega, by omega, by omega, by omega, by omega, by omega, by omega, by omega⟩)))))
  · intro M' r b1 b2 b3 b4 b5 f0 f1 f2 f3 f4 f5 f6 f7 f8 f9
    have e9 : hv M' 33 3 = hv M 33 3 := b5 9 (33, 3) rfl rfl
    have e10 : hv M' 33 5 = hv M 33 5 := b5 10 (33, 5) rfl rfl
    have e24 : hv M' 234 30 = hv M 234 30 := b5 24 (234, 30) rfl rfl
    have e33 : hv M' 257 0 = hv M 257 0 := b5 33 (257, 0) rfl rfl
    have e0 : hv M' 8 4 = hv M 8 4 := b5 0 (8, 4) rfl rfl
    have e12 : hv M' 44 0 = hv M 44 0 := b5 12 (44, 0) rfl rfl
    have e13 : hv M' 44 1 = hv M 44 1 := b5 13 (44, 1) rfl rfl
    have e14 : hv M' 44 3 = hv M 44 3 := b5 14 (44, 3) rfl rfl
    have e28 : hv M' 234 57 = hv M 234 57 := b5 28 (234, 57) rfl rfl
    have e38 : hv M' 91 1 = hv M 91 1 := b5 38 (91, 1) rfl rfl
    have e48 : hv M' 260 0 = hv M 260 0 := b5 48 (260, 0) rfl rfl
    have e40 : hv M' 96 1 = hv M 96 1 := b5 40 (96, 1) rfl rfl
    have e52 : hv M' 260 1 = hv M 260 1 := b5 52 (260, 1) rfl rfl
    have e42 : hv M' 101 1 = hv M 101 1 := b5 42 (101, 1) rfl rfl
    have e56 : hv M' 260 2 = hv M 260 2 := b5 56 (260, 2) rfl rfl
    have e44 : hv M' 106 1 = hv M 106 1 := b5 44 (106, 1) rfl rfl
    have e60 : hv M' 260 3 = hv M 260 3 := b5 60 (260, 3) rfl rfl
    have e47 : hv M' 258 0 = hv M 258 0 := b5 47 (258, 0) rfl rfl
    have e51 : hv M' 258 1 = hv M 258 1 := b5 51 (258, 1) rfl rfl
    have e55 : hv M' 258 2 = hv M 258 2 := b5 55 (258, 2) rfl rfl
    have e59 : hv M' 258 3 = hv M 258 3 := b5 59 (258, 3) rfl rfl
    exact k M' r b1 b2 ⟨by omega, by omega, by omega, by omega, by omega, by omega⟩ b4 (b3 271 (by decide) (by decide +kernel)) e0 e24 e38 e48 e40 e52 e42 e56 e44 e60 e47 e51 e55 e59 (show lr_append _ _ _ _ _ _ _ _ _ _ _ _ _ _ _ _ from .inl ⟨by omega, by omega, by omega, by omega, by omega, (.inr (.inr (.inr (.inr (.inr (.inr (.inr ⟨by omega, (.inl (by omega))⟩)))))))⟩)
  · intro M' r b1 b2 b3 b4 b5 f0 f1 f2 f3 f4 f5 f6 f7 f8 f9
    have e9 : hv M' 33 3 = hv M 33 3 := b5 9 (33, 3) rfl rfl
    have e10 : hv M' 33 5 = hv M 33 5 := b5 10 (33, 5) rfl rfl
    have e24 : hv M' 234 30 = hv M 234 30 := b5 24 (234, 30) rfl rfl
    have e33 : hv M' 257 0 = hv M 257 0 := b5 33 (257, 0) rfl rfl
    have e0 : hv M' 8 4 = hv M 8 4 := b5 0 (8, 4) rfl rfl
    have e12 : hv M' 44 0 = hv M 44 0 := b5 12 (44, 0) rfl rfl
    have e13 : hv M' 44 1 = hv M 44 1 := b5 13 (44, 1) rfl rfl
    have e14 : hv M' 44 3 = hv M 44 3 := b5 14 (44, 3) rfl rfl
    have e28 : hv M' 234 57 = hv M 234 57 := b5 28 (234, 57) rfl rfl
    have e38 : hv M' 91 1 = hv M 91 1 := b5 38 (91, 1) rfl rfl
    have e48 : hv M' 260 0 = hv M 260 0 := b5 48 (260, 0) rfl rfl
    have e40 : hv M' 96 1 = hv M 96 1 := b5 40 (96, 1) rfl rfl
    have e52 : hv M' 260 1 = hv M 260 1 := b5 52 (260, 1) rfl rfl
    have e42 : hv M' 101 1 = hv M 101 1 := b5 42 (101, 1) rfl rfl
    have e56 : hv M' 260 2 = hv M 260 2 := b5 56 (260, 2) rfl rfl
    have e44 : hv M' 106 1 = hv M 106 1 := b5 44 (106, 1) rfl rfl
    have e60 : hv M' 260 3 = hv M 260 3 := b5 60 (260, 3) rfl rfl
    have e47 : hv M' 258 0 = hv M 258 0 := b5 47 (258, 0) rfl rfl
    have e51 : hv M' 258 1 = hv M 258 1 := b5 51 (258, 1) rfl rfl
    have e55 : hv M' 258 2 = hv M 258 2 := b5 55 (258, 2) rfl rfl
    have e59 : hv M' 258 3 = hv M 258 3 := b5 59 (258, 3) rfl rfl
    exact k M' r b1 b2 ⟨by omega, by omega, by omega, by omega, by omega, by omega⟩ b4 (b3 271 (by decide) (by decide +kernel)) e0 e24 e38 e48 e40 e52 e42 e56 e44 e60 e47 e51 e55 e59 (show lr_append _ _ _ _ _ _ _ _ _ _ _ _ _ _ _ _ from .inl ⟨by omega, by omega, by omega, by omega, by omega, (.inr (.inr (.inr (.inr (.inr (.inr (.inr ⟨by omega, (.inr (by omega))⟩)))))))⟩)
