/-! spoil, exactly. -/
def lr_spoil (p q b l0 l1 l2 l3 r : Int) : Prop := (r = 0 ∧ (p < 0 ∨ 3 < p ∨ q < 0 ∨ b < 0 ∨ 255 < b ∨ p = 0 ∧ l0 ≤ q ∨ p = 1 ∧ l1 ≤ q ∨ p = 2 ∧ l2 ≤ q ∨ p = 3 ∧ l3 ≤ q)) ∨ (r = 1 ∧ 0 ≤ b ∧ b ≤ 255 ∧ 0 ≤ q ∧ (p = 0 ∧ q < l0 ∨ p = 1 ∧ q < l1 ∨ p = 2 ∧ q < l2 ∨ p = 3 ∧ q < l3))
theorem lr_spoil_d {p q b l0 l1 l2 l3 r r2 : Int} (h : lr_spoil p q b l0 l1 l2 l3 r) (h2 : lr_spoil p q b l0 l1 l2 l3 r2) : r = r2 := by
  unfold lr_spoil at h h2
  omega
def la_qp : mz_Q := (128, [(1, 234), (0, 0), (0, 0), (0, 0)], [], [34], [(0, 0, [(-1, [(66, 1)]), (1, [(66, -1)]), (0, [(3, 1)]), (255, [(3, -1)]), (0, [(2, 1)]), (0, [(1, 1)]), (0, [(1, -1)]), (-1, [(2, -1), (49, 1)])]), (0, 0, [(-1, [(66, 1)]), (1, [(66, -1)]), (0, [(3, 1)]), (255, [(3, -1)]), (0, [(2, 1)]), (-1, [(1, 1)]), (1, [(1, -1)]), (-1, [(2, -1), (53, 1)])]), (0, 0, [(-1, [(66, 1)]), (1, [(66, -1)]), (0, [(3, 1)]), (255, [(3, -1)]), (0, [(2, 1)]), (-2, [(1, 1)]), (2, [(1, -1)]), (-1, [(2, -1), (57, 1)])]), (0, 0, [(-1, [(66, 1)]), (1, [(66, -1)]), (0, [(3, 1)]), (255, [(3, -1)]), (0, [(2, 1)]), (-3, [(1, 1)]), (3, [(1, -1)]), (-1, [(2, -1), (61, 1)])]), (0, 0, [(0, [(66, 1)]), (0, [(66, -1)]), (-1, [(1, -1)])]), (0, 0, [(0, [(66, 1)]), (0, [(66, -1)]), (-4, [(1, 1)])]), (0, 0, [(0, [(66, 1)]), (0, [(66, -1)]), (-1, [(3, -1)])]), (0, 0, [(0, [(66, 1)]), (0, [(66, -1)]), (-256, [(3, 1)])]), (0, 0, [(0, [(66, 1)]), (0, [(66, -1)]), (-1, [(2, -1)])]), (0, 0, [(0, [(66, 1)]), (0, [(66, -1)]), (0, [(1, 1)]), (0, [(1, -1)]), (0, [(2, 1), (49, -1)])]), (0, 0, [(0, [(66, 1)]), (0, [(66, -1)]), (-1, [(1, 1)]), (1, [(1, -1)]), (0, [(2, 1), (53, -1)])]), (0, 0, [(0, [(66, 1)]), (0, [(66, -1)]), (-2, [(1, 1)]), (2, [(1, -1)]), (0, [(2, 1), (57, -1)])]), (0, 0, [(0, [(66, 1)]), (0, [(66, -1)]), (-3, [(1, 1)]), (3, [(1, -1)]), (0, [(2, 1), (61, -1)])])], [234, 235])
def la_yp : mz_Ck := (152, [], [(40, 0, 1, 0, 4, [])], [(0, 0, []), (0, 0, []), (38, 0, []), (0, 0, []), (0, 0, []), (0, 0, []), (1, 0, []), (0, 0, [(3, 1)]), (0, 0, [(2, 1)]), (0, 0, []), (38, 0, []), (0, 0, []), (0, 0, []), (0, 0, []), (1, 0, []), (0, 0, [(3, 1)]), (0, 0, [(2, 1)]), (0, 0, []), (236, 0, []), (38, 0, []), (0, 0, []), (1, 0, []), (0, 0, [(0, 1000000), (16, 1000000)]), (1, 0, []), (0, 0, [(0, 1000000), (15, 1000000)]), (0, 0, []), (1, 0, []), (0, 0, [(3, 1)]), (0, 0, [(2, 1)]), (0, 0, []), (0, 0, [(3, 1)]), (0, 0, [(2, 1)]), (0, 0, []), (0, 0, []), (0, 0, []), (0, 0, []), (0, 0, []), (0, 0, []), (38, 0, []), (0, 0, []), (0, 0, []), (0, 0, []), (0, 0, []), (1, 0, []), (0, 0, [(3, 1)]), (0, 0, [(2, 1)]), (235, 0, []), (0, 0, []), (0, 0, [(3, 1)]), (0, 0, [(37, 1)]), (235, 0, []), (0, 0, []), (0, 0, [(3, 1)]), (0, 0, [(37, 1)]), (0, 0, [(3, 1)]), (0, 0, [(2, 1), (131, 1)]), (3, 8, []), (0, 0, [(0, 1)]), (0, 0, [(1, 1)]), (0, 0, [(23, 1)]), (0, 0, [(22, 1)]), (0, 0, [(7, 1)]), (0, 0, [(6, 1), (135, 1)]), (0, 0, [(0, 1)]), (0, 0, [(1, 1)]), (0, 0, []), (0, 0, []), (0, 0, []), (0, 0, []), (0, 0, []), (0, 0, [(25, 1)]), (0, 0, [(24, 1)]), (0, 0, [(7, 1)]), (0, 0, [(13, 1)]), (0, 0, [(12, 1)]), (0, 0, [(6, 1)]), (1, 1, []), (0, 0, [(2, 1)]), (3, 0, []), (0, 0, [(2, 1)]), (0, 0, []), (0, 0, []), (8, 0, []), (0, 0, []), (0, 0, []), (0, 0, [(1, 1)]), (1, 1, []), (0, 0, [(2, 1)]), (3, 0, []), (0, 0, [(2, 1)]), (0, 0, []), (0, 0, []), (9, 0, []), (0, 0, []), (0, 0, []), (0, 0, [(7, 1)]), (0, 0, [(6, 1)]), (0, 0, [(1, 1)]), (0, 0, []), (0, 0, []), (38, 0, []), (0, 0, []), (0, 0, []), (0, 0, []), (0, 0, []), (1, 0, []), (0, 0, [(3, 1)]), (0, 0, [(2, 1)]), (235, 0, []), (0, 0, []), (0, 0, [(3, 1)]), (0, 0, [(2, 1), (139, 1)]), (235, 0, []), (0, 0, []), (0, 0, [(3, 1)]), (0, 0, [(2, 1), (139, 1)]), (0, 0, [(3, 1)]), (0, 0, [(2, 1), (139, 1)]), (3, 8, []), (0, 0, [(0, 1)]), (0, 0, [(1, 1)]), (0, 0, [(23, 1)]), (0, 0, [(22, 1)]), (0, 0, [(7, 1)]), (0, 0, [(6, 1), (143, 1)]), (0, 0, [(0, 1)]), (0, 0, [(1, 1)]), (0, 0, []), (0, 0, []), (1, 0, []), (0, 0, []), (0, 0, []), (0, 0, [(25, 1)]), (0, 0, [(24, 1)]), (0, 0, [(7, 1)]), (0, 0, [(13, 1)]), (0, 0, [(12, 1)]), (0, 0, [(6, 1)]), (1, 1, []), (0, 0, [(2, 1)]), (3, 0, []), (0, 0, [(2, 1)]), (0, 0, []), (0, 0, []), (8, 0, []), (0, 0, []), (0, 0, []), (0, 0, [(1, 1)]), (1, 1, []), (0, 0, [(2, 1)]), (3, 0, []), (0, 0, [(2, 1)]), (0, 0, []), (0, 0, []), (10, 0, []), (0, 0, []), (0, 0, []), (0, 0, [(7, 1)]), (0, 0, [(6, 1)]), (0, 0, [(1, 1)]), (0, 0, []), (0, 0, []), (38, 0, []), (0, 0, []), (0, 0, []), (0, 0, []), (0, 0, []), (1, 0, []), (0, 0, [(3, 1)]), (0, 0, [(2, 1)]), (235, 0, []), (0, 0, []), (0, 0, [(3, 1)]), (0, 0, [(2, 1), (147, 1)]), (235, 0, []), (0, 0, []), (0, 0, [(3, 1)]), (0, 0, [(2, 1), (147, 1)]), (0, 0, [(3, 1)]), (0, 0, [(2, 1), (147, 1)]), (3, 8, []), (0, 0, [(0, 1)]), (0, 0, [(1, 1)]), (0, 0, [(23, 1)]), (0, 0, [(22, 1)]), (0, 0, [(7, 1)]), (0, 0, [(6, 1), (151, 1)]), (0, 0, [(0, 1)]), (0, 0, [(1, 1)]), (0, 0, []), (0, 0, []), (2, 0, []), (0, 0, []), (0, 0, []), (0, 0, [(25, 1)]), (0, 0, [(24, 1)]), (0, 0, [(7, 1)]), (0, 0, [(13, 1)]), (0, 0, [(12, 1)]), (0, 0, [(6, 1)]), (1, 1, []), (0, 0, [(2, 1)]), (3, 0, []), (0, 0, [(2, 1)]), (0, 0, []), (0, 0, []), (8, 0, []), (0, 0, []), (0, 0, []), (0, 0, [(1, 1)]), (1, 1, []), (0, 0, [(2, 1)]), (3, 0, []), (0, 0, [(2, 1)]), (0, 0, []), (0, 0, []), (11, 0, []), (0, 0, []), (0, 0, []), (0, 0, [(7, 1)]), (0, 0, [(6, 1)]), (0, 0, [(1, 1)]), (0, 0, []), (0, 0, []), (38, 0, []), (0, 0, []), (0, 0, []), (0, 0, []), (0, 0, []), (1, 0, []), (0, 0, [(3, 1)]), (0, 0, [(2, 1)]), (235, 0, []), (0, 0, []), (0, 0, [(3, 1)]), (0, 0, [(2, 1), (155, 1)]), (235, 0, []), (0, 0, []), (0, 0, [(3, 1)]), (0, 0, [(2, 1), (155, 1)]), (0, 0, [(3, 1)]), (0, 0, [(2, 1), (155, 1)]), (3, 8, []), (0, 0, [(0, 1)]), (0, 0, [(1, 1)]), (0, 0, [(23, 1)]), (0, 0, [(22, 1)]), (0, 0, [(7, 1)]), (0, 0, [(6, 1), (159, 1)]), (0, 0, [(0, 1)]), (0, 0, [(1, 1)]), (0, 0, []), (0, 0, []), (3, 0, []), (0, 0, []), (0, 0, []), (0, 0, [(25, 1)]), (0, 0, [(24, 1)]), (0, 0, [(7, 1)]), (0, 0, [(13, 1)]), (0, 0, [(12, 1)]), (0, 0, [(6, 1)]), (1, 1, []), (0, 0, [(2, 1)]), (3, 0, []), (0, 0, [(2, 1)]), (0, 0, []), (0, 0, []), (8, 0, []), (0, 0, []), (0, 0, []), (0, 0, [(1, 1)]), (1, 1, []), (0, 0, [(2, 1)]), (3, 0, []), (0, 0, [(2, 1)]), (0, 0, []), (0, 0, []), (12, 0, []), (0, 0, []), (0, 0, []), (0, 0, [(7, 1)]), (0, 0, [(6, 1)]), (0, 0, [(1, 1)]), (3, 0, []), (0, 0, [(2, 1)]), (1, 1, []), (0, 0, [(2, 1)]), (0, 0, []), (0, 0, []), (6, 0, []), (0, 0, []), (0, 0, []), (0, 0, [(1, 1)]), (3, 0, []), (0, 0, [(2, 1)]), (1, 1, []), (0, 0, [(2, 1)]), (0, 0, []), (0, 0, []), (7, 0, []), (0, 0, []), (0, 0, []), (0, 0, [(1, 1)]), (3, 0, []), (0, 0, [(2, 1)]), (1, 1, []), (0, 0, [(2, 1)]), (0, 0, []), (0, 0, []), (4, 0, []), (0, 0, []), (0, 0, []), (0, 0, [(1, 1)]), (3, 0, []), (0, 0, [(2, 1)]), (1, 1, []), (0, 0, [(2, 1)]), (0, 0, []), (0, 0, []), (5, 0, []), (0, 0, []), (0, 0, []), (0, 0, [(1, 1)])], [])
set_option maxRecDepth 100000 in
theorem la_cp : mz_chk mz_GG mq_PP mz_Cs la_qp 2 la_yp = true := by decide +kernel
theorem la_msp : mz_Ct mz_GG mq_PP HX la_qp 2 := ha_chk (fun c hc _ => ha_all c hc) la_cp
theorem lx_mspoil {X : (Nat → mq_C) → Prop} (hq : mz_Ct mz_GG mq_PP X la_qp 2) {d z u : Nat} {M : Nat → mq_C} {Q : (Option Value ⊕ Nat) → mq_S → Prop} {x1 : Int32} {x2 : Int32} {x3 : Int32} (hd : 2 ≤ d) (hz : 272 ≤ z) (hm : mz_sh mz_GG M) (hx : X M)
    (w0 : ∀ (M' : Nat → mq_C) (r : Int32), mz_sh mz_GG M' → X M' → mz_fr la_qp M M' → (∀ a, a < 8 → M' a = M a) → hb_same mz_GG la_qp M M' → r.toInt = 1 → 0 ≤ x3.toInt → 0 ≤ 255 - x3.toInt → 0 ≤ x2.toInt → x1.toInt = 0 → 0 ≤ (-1) - x2.toInt + hv M 236 0 → Q (.inl (some (.int r))) (M', z, u))
    (w1 : ∀ (M' : Nat → mq_C) (r : Int32), mz_sh mz_GG M' → X M' → mz_fr la_qp M M' → (∀ a, a < 8 → M' a = M a) → hb_same mz_GG la_qp M M' → r.toInt = 1 → 0 ≤ x3.toInt → 0 ≤ 255 - x3.toInt → 0 ≤ x2.toInt → x1.toInt = 1 → 0 ≤ (-1) - x2.toInt + hv M 236 1 → Q (.inl (some (.int r))) (M', z, u))
    (w2 : ∀ (M' : Nat → mq_C) (r : Int32), mz_sh mz_GG M' → X M' → mz_fr la_qp M M' → (∀ a, a < 8 → M' a = M a) → hb_same mz_GG la_qp M M' → r.toInt = 1 → 0 ≤ x3.toInt → 0 ≤ 255 - x3.toInt → 0 ≤ x2.toInt → x1.toInt = 2 → 0 ≤ (-1) - x2.toInt + hv M 236 2 → Q (.inl (some (.int r))) (M', z, u))
    (w3 : ∀ (M' : Nat → mq_C) (r : Int32), mz_sh mz_GG M' → X M' → mz_fr la_qp M M' → (∀ a, a < 8 → M' a = M a) → hb_same mz_GG la_qp M M' → r.toInt = 1 → 0 ≤ x3.toInt → 0 ≤ 255 - x3.toInt → 0 ≤ x2.toInt → x1.toInt = 3 → 0 ≤ (-1) - x2.toInt + hv M 236 3 → Q (.inl (some (.int r))) (M', z, u))
    (w4 : ∀ (M' : Nat → mq_C) (r : Int32), mz_sh mz_GG M' → X M' → mz_fr la_qp M M' → (∀ a, a < 8 → M' a = M a) → hb_same mz_GG la_qp M M' → r.toInt = 0 → 0 ≤ (-1) - x1.toInt → Q (.inl (some (.int r))) (M', z, u))
    (w5 : ∀ (M' : Nat → mq_C) (r : Int32), mz_sh mz_GG M' → X M' → mz_fr la_qp M M' → (∀ a, a < 8 → M' a = M a) → hb_same mz_GG la_qp M M' → r.toInt = 0 → 0 ≤ (-4) + x1.toInt → Q (.inl (some (.int r))) (M', z, u))
    (w6 : ∀ (M' : Nat → mq_C) (r : Int32), mz_sh mz_GG M' → X M' → mz_fr la_qp M M' → (∀ a, a < 8 → M' a = M a) → hb_same mz_GG la_qp M M' → r.toInt = 0 → 0 ≤ (-1) - x3.toInt → Q (.inl (some (.int r))) (M', z, u))
    (w7 : ∀ (M' : Nat → mq_C) (r : Int32), mz_sh mz_GG M' → X M' → mz_fr la_qp M M' → (∀ a, a < 8 → M' a = M a) → hb_same mz_GG la_qp M M' → r.toInt = 0 → 0 ≤ (-256) + x3.toInt → Q (.inl (some (.int r))) (M', z, u))
    (w8 : ∀ (M' : Nat → mq_C) (r : Int32), mz_sh mz_GG M' → X M' → mz_fr la_qp M M' → (∀ a, a < 8 → M' a = M a) → hb_same mz_GG la_qp M M' → r.toInt = 0 → 0 ≤ (-1) - x2.toInt → Q (.inl (some (.int r))) (M', z, u))
    (w9 : ∀ (M' : Nat → mq_C) (r : Int32), mz_sh mz_GG M' → X M' → mz_fr la_qp M M' → (∀ a, a < 8 → M' a = M a) → hb_same mz_GG la_qp M M' → r.toInt = 0 → x1.toInt = 0 → 0 ≤ x2.toInt - hv M 236 0 → Q (.inl (some (.int r))) (M', z, u))
    (w10 : ∀ (M' : Nat → mq_C) (r : Int32), mz_sh mz_GG M' → X M' → mz_fr la_qp M M' → (∀ a, a < 8 → M' a = M a) → hb_same mz_GG la_qp M M' → r.toInt = 0 → x1.toInt = 1 → 0 ≤ x2.toInt - hv M 236 1 → Q (.inl (some (.int r))) (M', z, u))
    (w11 : ∀ (M' : Nat → mq_C) (r : Int32), mz_sh mz_GG M' → X M' → mz_fr la_qp M M' → (∀ a, a < 8 → M' a = M a) → hb_same mz_GG la_qp M M' → r.toInt = 0 → x1.toInt = 2 → 0 ≤ x2.toInt - hv M 236 2 → Q (.inl (some (.int r))) (M', z, u))
    (w12 : ∀ (M' : Nat → mq_C) (r : Int32), mz_sh mz_GG M' → X M' → mz_fr la_qp M M' → (∀ a, a < 8 → M' a = M a) → hb_same mz_GG la_qp M M' → r.toInt = 0 → x1.toInt = 3 → 0 ≤ x2.toInt - hv M 236 3 → Q (.inl (some (.int r))) (M', z, u)) : mq_R mq_PP d 128 0 [some (.ref 234), some (.int x1), some (.int x2), some (.int x3)] [] (M, z, u) Q := by
  refine hb_use mz_GG mq_PP X (q := la_qp) (vs := [.ref 234, .int x1, .int x2, .int x3]) hq (by decide +kernel) hd (show hb_pk mz_GG [(1, 234), (0, 0), (0, 0), (0, 0)] _ from ⟨⟨List.mem_singleton.mpr rfl, rfl⟩, trivial, trivial, trivial, trivial⟩) hm hx hz ?_ ?_
  · exact hb_nil
  · intro r S hpo
    obtain ⟨b1, b2, b3, b4, b5, p, hp, res, hf, hre⟩ := hpo
    rcases List.mem_cons.mp hp with rfl | hp
    · obtain ⟨x, rfl, hr, hz1, hu1⟩ := mz_re_0 mz_GG hre rfl
      obtain ⟨M', z', u'⟩ := S
      cases hz1
      cases hu1
      obtain ⟨f0, hf⟩ := hb_unc hf
      have f0 : 0 ≤ -1 + (1 * res + 0) := f0
      rw [← hr] at f0
      obtain ⟨f1, hf⟩ := hb_unc hf
      have f1 : 0 ≤ 1 + ((-1) * res + 0) := f1
      rw [← hr] at f1
      obtain ⟨f2, hf⟩ := hb_unc hf
      have f2 : 0 ≤ 0 + (1 * x3.toInt + 0) := f2
      obtain ⟨f3, hf⟩ := hb_unc hf
      have f3 : 0 ≤ 255 + ((-1) * x3.toInt + 0) := f3
      obtain ⟨f4, hf⟩ := hb_unc hf
      have f4 : 0 ≤ 0 + (1 * x2.toInt + 0) := f4
      obtain ⟨f5, hf⟩ := hb_unc hf
      have f5 : 0 ≤ 0 + (1 * x1.toInt + 0) := f5
      obtain ⟨f6, hf⟩ := hb_unc hf
      have f6 : 0 ≤ 0 + ((-1) * x1.toInt + 0) := f6
      obtain ⟨f7, hf⟩ := hb_unc hf
      have f7 : 0 ≤ -1 + ((-1) * x2.toInt + (1 * hv M 236 0 + 0)) := f7
      exact w0 M' x b1 b2 b3 b4 b5 (by have h1 := f0; have h2 := f1; omega) (by have h1 := f2; omega) (by have h1 := f3; omega) (by have h1 := f4; omega) (by have h1 := f5; have h2 := f6; omega) (by have h1 := f7; omega)
    rcases List.mem_cons.mp hp with rfl | hp
    · obtain ⟨x, rfl, hr, hz1, hu1⟩ := mz_re_0 mz_GG hre rfl
      obtain ⟨M', z', u'⟩ := S
      cases hz1
      cases hu1
      obtain ⟨f0, hf⟩ := hb_unc hf
      have f0 : 0 ≤ -1 + (1 * res + 0) := f0
      rw [← hr] at f0
      obtain ⟨f1, hf⟩ := hb_unc hf
      have f1 : 0 ≤ 1 + ((-1) * res + 0) := f1
      rw [← hr] at f1
      obtain ⟨f2, hf⟩ := hb_unc hf
      have f2 : 0 ≤ 0 + (1 * x3.toInt + 0) := f2
      obtain ⟨f3, hf⟩ := hb_unc hf
      have f3 : 0 ≤ 255 + ((-1) * x3.toInt + 0) := f3
      obtain ⟨f4, hf⟩ := hb_unc hf
      have f4 : 0 ≤ 0 + (1 * x2.toInt + 0) := f4
      obtain ⟨f5, hf⟩ := hb_unc hf
      have f5 : 0 ≤ -1 + (1 * x1.toInt + 0) := f5
      obtain ⟨f6, hf⟩ := hb_unc hf
      have f6 : 0 ≤ 1 + ((-1) * x1.toInt + 0) := f6
      obtain ⟨f7, hf⟩ := hb_unc hf
      have f7 : 0 ≤ -1 + ((-1) * x2.toInt + (1 * hv M 236 1 + 0)) := f7
      exact w1 M' x b1 b2 b3 b4 b5 (by have h1 := f0; have h2 := f1; omega) (by have h1 := f2; omega) (by have h1 := f3; omega) (by have h1 := f4; omega) (by have h1 := f5; have h2 := f6; omega) (by have h1 := f7; omega)
    rcases List.mem_cons.mp hp with rfl | hp
    · obtain ⟨x, rfl, hr, hz1, hu1⟩ := mz_re_0 mz_GG hre rfl
      obtain ⟨M', z', u'⟩ := S
      cases hz1
      cases hu1
      obtain ⟨f0, hf⟩ := hb_unc hf
      have f0 : 0 ≤ -1 + (1 * res + 0) := f0
      rw [← hr] at f0
      obtain ⟨f1, hf⟩ := hb_unc hf
      have f1 : 0 ≤ 1 + ((-1) * res + 0) := f1
      rw [← hr] at f1
      obtain ⟨f2, hf⟩ := hb_unc hf
      have f2 : 0 ≤ 0 + (1 * x3.toInt + 0) := f2
      obtain ⟨f3, hf⟩ := hb_unc hf
      have f3 : 0 ≤ 255 + ((-1) * x3.toInt + 0) := f3
      obtain ⟨f4, hf⟩ := hb_unc hf
      have f4 : 0 ≤ 0 + (1 * x2.toInt + 0) := f4
      obtain ⟨f5, hf⟩ := hb_unc hf
      have f5 : 0 ≤ -2 + (1 * x1.toInt + 0) := f5
      obtain ⟨f6, hf⟩ := hb_unc hf
      have f6 : 0 ≤ 2 + ((-1) * x1.toInt + 0) := f6
      obtain ⟨f7, hf⟩ := hb_unc hf
      have f7 : 0 ≤ -1 + ((-1) * x2.toInt + (1 * hv M 236 2 + 0)) := f7
      exact w2 M' x b1 b2 b3 b4 b5 (by have h1 := f0; have h2 := f1; omega) (by have h1 := f2; omega) (by have h1 := f3; omega) (by have h1 := f4; omega) (by have h1 := f5; have h2 := f6; omega) (by have h1 := f7; omega)
    rcases List.mem_cons.mp hp with rfl | hp
    · obtain ⟨x, rfl, hr, hz1, hu1⟩ := mz_re_0 mz_GG hre rfl
      obtain ⟨M', z', u'⟩ := S
      cases hz1
      cases hu1
      obtain ⟨f0, hf⟩ := hb_unc hf
      have f0 : 0 ≤ -1 + (1 * res + 0) := f0
      rw [← hr] at f0
      obtain ⟨f1, hf⟩ := hb_unc hf
      have f1 : 0 ≤ 1 + ((-1) * res + 0) := f1
      rw [← hr] at f1
      obtain ⟨f2, hf⟩ := hb_unc hf
      have f2 : 0 ≤ 0 + (1 * x3.toInt + 0) := f2
      obtain ⟨f3, hf⟩ := hb_unc hf
      have f3 : 0 ≤ 255 + ((-1) * x3.toInt + 0) := f3
      obtain ⟨f4, hf⟩ := hb_unc hf
      have f4 : 0 ≤ 0 + (1 * x2.toInt + 0) := f4
      obtain ⟨f5, hf⟩ := hb_unc hf
      have f5 : 0 ≤ -3 + (1 * x1.toInt + 0) := f5
      obtain ⟨f6, hf⟩ := hb_unc hf
      have f6 : 0 ≤ 3 + ((-1) * x1.toInt + 0) := f6
      obtain ⟨f7, hf⟩ := hb_unc hf
      have f7 : 0 ≤ -1 + ((-1) * x2.toInt + (1 * hv M 236 3 + 0)) := f7
      exact w3 M' x b1 b2 b3 b4 b5 (by have h1 := f0; have h2 := f1; omega) (by have h1 := f2; omega) (by have h1 := f3; omega) (by have h1 := f4; omega) (by have h1 := f5; have h2 := f6; omega) (by have h1 := f7; omega)
    rcases List.mem_cons.mp hp with rfl | hp
    · obtain ⟨x, rfl, hr, hz1, hu1⟩ := mz_re_0 mz_GG hre rfl
      obtain ⟨M', z', u'⟩ := S
      cases hz1
      cases hu1
      obtain ⟨f0, hf⟩ := hb_unc hf
      have f0 : 0 ≤ 0 + (1 * res + 0) := f0
      rw [← hr] at f0
      obtain ⟨f1, hf⟩ := hb_unc hf
      have f1 : 0 ≤ 0 + ((-1) * res + 0) := f1
      rw [← hr] at f1
      obtain ⟨f2, hf⟩ := hb_unc hf
      have f2 : 0 ≤ -1 + ((-1) * x1.toInt + 0) := f2
      exact w4 M' x b1 b2 b3 b4 b5 (by have h1 := f0; have h2 := f1; omega) (by have h1 := f2; omega)
    rcases List.mem_cons.mp hp with rfl | hp
    · obtain ⟨x, rfl, hr, hz1, hu1⟩ := mz_re_0 mz_GG hre rfl
      obtain ⟨M', z', u'⟩ := S
      cases hz1
      cases hu1
      obtain ⟨f0, hf⟩ := hb_unc hf
      have f0 : 0 ≤ 0 + (1 * res + 0) := f0
      rw [← hr] at f0
      obtain ⟨f1, hf⟩ := hb_unc hf
      have f1 : 0 ≤ 0 + ((-1) * res + 0) := f1
      rw [← hr] at f1
      obtain ⟨f2, hf⟩ := hb_unc hf
      have f2 : 0 ≤ -4 + (1 * x1.toInt + 0) := f2
      exact w5 M' x b1 b2 b3 b4 b5 (by have h1 := f0; have h2 := f1; omega) (by have h1 := f2; omega)
    rcases List.mem_cons.mp hp with rfl | hp
    · obtain ⟨x, rfl, hr, hz1, hu1⟩ := mz_re_0 mz_GG hre rfl
      obtain ⟨M', z', u'⟩ := S
      cases hz1
      cases hu1
      obtain ⟨f0, hf⟩ := hb_unc hf
      have f0 : 0 ≤ 0 + (1 * res + 0) := f0
      rw [← hr] at f0
      obtain ⟨f1, hf⟩ := hb_unc hf
      have f1 : 0 ≤ 0 + ((-1) * res + 0) := f1
      rw [← hr] at f1
      obtain ⟨f2, hf⟩ := hb_unc hf
      have f2 : 0 ≤ -1 + ((-1) * x3.toInt + 0) := f2
      exact w6 M' x b1 b2 b3 b4 b5 (by have h1 := f0; have h2 := f1; omega) (by have h1 := f2; omega)
    rcases List.mem_cons.mp hp with rfl | hp
    · obtain ⟨x, rfl, hr, hz1, hu1⟩ := mz_re_0 mz_GG hre rfl
      obtain ⟨M', z', u'⟩ := S
      cases hz1
      cases hu1
      obtain ⟨f0, hf⟩ := hb_unc hf
      have f0 : 0 ≤ 0 + (1 * res + 0) := f0
      rw [← hr] at f0
      obtain ⟨f1, hf⟩ := hb_unc hf
      have f1 : 0 ≤ 0 + ((-1) * res + 0) := f1
      rw [← hr] at f1
      obtain ⟨f2, hf⟩ := hb_unc hf
      have f2 : 0 ≤ -256 + (1 * x3.toInt + 0) := f2
      exact w7 M' x b1 b2 b3 b4 b5 (by have h1 := f0; have h2 := f1; omega) (by have h1 := f2; omega)
    rcases List.mem_cons.mp hp with rfl | hp
    · obtain ⟨x, rfl, hr, hz1, hu1⟩ := mz_re_0 mz_GG hre rfl
      obtain ⟨M', z', u'⟩ := S
      cases hz1
      cases hu1
      obtain ⟨f0, hf⟩ := hb_unc hf
      have f0 : 0 ≤ 0 + (1 * res + 0) := f0
      rw [← hr] at f0
      obtain ⟨f1, hf⟩ := hb_unc hf
      have f1 : 0 ≤ 0 + ((-1) * res + 0) := f1
      rw [← hr] at f1
      obtain ⟨f2, hf⟩ := hb_unc hf
      have f2 : 0 ≤ -1 + ((-1) * x2.toInt + 0) := f2
      exact w8 M' x b1 b2 b3 b4 b5 (by have h1 := f0; have h2 := f1; omega) (by have h1 := f2; omega)
    rcases List.mem_cons.mp hp with rfl | hp
    · obtain ⟨x, rfl, hr, hz1, hu1⟩ := mz_re_0 mz_GG hre rfl
      obtain ⟨M', z', u'⟩ := S
      cases hz1
      cases hu1
      obtain ⟨f0, hf⟩ := hb_unc hf
      have f0 : 0 ≤ 0 + (1 * res + 0) := f0
      rw [← hr] at f0
      obtain ⟨f1, hf⟩ := hb_unc hf
      have f1 : 0 ≤ 0 + ((-1) * res + 0) := f1
      rw [← hr] at f1
      obtain ⟨f2, hf⟩ := hb_unc hf
      have f2 : 0 ≤ 0 + (1 * x1.toInt + 0) := f2
      obtain ⟨f3, hf⟩ := hb_unc hf
      have f3 : 0 ≤ 0 + ((-1) * x1.toInt + 0) := f3
      obtain ⟨f4, hf⟩ := hb_unc hf
      have f4 : 0 ≤ 0 + (1 * x2.toInt + ((-1) * hv M 236 0 + 0)) := f4
      exact w9 M' x b1 b2 b3 b4 b5 (by have h1 := f0; have h2 := f1; omega) (by have h1 := f2; have h2 := f3; omega) (by have h1 := f4; omega)
    rcases List.mem_cons.mp hp with rfl | hp
    · obtain ⟨x, rfl, hr, hz1, hu1⟩ := mz_re_0 mz_GG hre rfl
      obtain ⟨M', z', u'⟩ := S
      cases hz1
      cases hu1
      obtain ⟨f0, hf⟩ := hb_unc hf
      have f0 : 0 ≤ 0 + (1 * res + 0) := f0
      rw [← hr] at f0
      obtain ⟨f1, hf⟩ := hb_unc hf
      have f1 : 0 ≤ 0 + ((-1) * res + 0) := f1
      rw [← hr] at f1
      obtain ⟨f2, hf⟩ := hb_unc hf
      have f2 : 0 ≤ -1 + (1 * x1.toInt + 0) := f2
      obtain ⟨f3, hf⟩ := hb_unc hf
      have f3 : 0 ≤ 1 + ((-1) * x1.toInt + 0) := f3
      obtain ⟨f4, hf⟩ := hb_unc hf
      have f4 : 0 ≤ 0 + (1 * x2.toInt + ((-1) * hv M 236 1 + 0)) := f4
      exact w10 M' x b1 b2 b3 b4 b5 (by have h1 := f0; have h2 := f1; omega) (by have h1 := f2; have h2 := f3; omega) (by have h1 := f4; omega)
    rcases List.mem_cons.mp hp with rfl | hp
    · obtain ⟨x, rfl, hr, hz1, hu1⟩ := mz_re_0 mz_GG hre rfl
      obtain ⟨M', z', u'⟩ := S
      cases hz1
      cases hu1
      obtain ⟨f0, hf⟩ := hb_unc hf
      have f0 : 0 ≤ 0 + (1 * res + 0) := f0
      rw [← hr] at f0
      obtain ⟨f1, hf⟩ := hb_unc hf
      have f1 : 0 ≤ 0 + ((-1) * res + 0) := f1
      rw [← hr] at f1
      obtain ⟨f2, hf⟩ := hb_unc hf
      have f2 : 0 ≤ -2 + (1 * x1.toInt + 0) := f2
      obtain ⟨f3, hf⟩ := hb_unc hf
      have f3 : 0 ≤ 2 + ((-1) * x1.toInt + 0) := f3
      obtain ⟨f4, hf⟩ := hb_unc hf
      have f4 : 0 ≤ 0 + (1 * x2.toInt + ((-1) * hv M 236 2 + 0)) := f4
      exact w11 M' x b1 b2 b3 b4 b5 (by have h1 := f0; have h2 := f1; omega) (by have h1 := f2; have h2 := f3; omega) (by have h1 := f4; omega)
    rcases List.mem_cons.mp hp with rfl | hp
    · obtain ⟨x, rfl, hr, hz1, hu1⟩ := mz_re_0 mz_GG hre rfl
      obtain ⟨M', z', u'⟩ := S
      cases hz1
      cases hu1
      obtain ⟨f0, hf⟩ := hb_unc hf
      have f0 : 0 ≤ 0 + (1 * res + 0) := f0
      rw [← hr] at f0
      obtain ⟨f1, hf⟩ := hb_unc hf
      have f1 : 0 ≤ 0 + ((-1) * res + 0) := f1
      rw [← hr] at f1
      obtain ⟨f2, hf⟩ := hb_unc hf
      have f2 : 0 ≤ -3 + (1 * x1.toInt + 0) := f2
      obtain ⟨f3, hf⟩ := hb_unc hf
      have f3 : 0 ≤ 3 + ((-1) * x1.toInt + 0) := f3
      obtain ⟨f4, hf⟩ := hb_unc hf
      have f4 : 0 ≤ 0 + (1 * x2.toInt + ((-1) * hv M 236 3 + 0)) := f4
      exact w12 M' x b1 b2 b3 b4 b5 (by have h1 := f0; have h2 := f1; omega) (by have h1 := f2; have h2 := f3; omega) (by have h1 := f4; omega)
    cases hp
theorem lx_mspoilx {d z u : Nat} {M : Nat → mq_C} {Q : (Option Value ⊕ Nat) → mq_S → Prop} {x1 x2 x3 : Int32} (hd : 2 ≤ d) (hz : 272 ≤ z) (hm : mz_sh mz_GG M) (hx : HX M)
    (K : ∀ (M' : Nat → mq_C) (r : Int32), lr_spoil x1.toInt x2.toInt x3.toInt (hv M 236 0) (hv M 236 1) (hv M 236 2) (hv M 236 3) r.toInt → Q (.inl (some (.int r))) (M', z, u)) : mq_R mq_PP d 128 0 [some (.ref 234), some (.int x1), some (.int x2), some (.int x3)] [] (M, z, u) Q := by
  refine lx_mspoil la_msp hd hz hm hx ?_ ?_ ?_ ?_ ?_ ?_ ?_ ?_ ?_ ?_ ?_ ?_ ?_
  · intro M' r b1 b2 b3 b4 b5 f0 f1 f2 f3 f4 f5
    exact K M' r (by unfold lr_spoil; omega)
  · intro M' r b1 b2 b3 b4 b5 f0 f1 f2 f3 f4 f5
    exact K M' r (by unfold lr_spoil; omega)
  · intro M' r b1 b2 b3 b4 b5 f0 f1 f2 f3 f4 f5
    exact K M' r (by unfold lr_spoil; omega)
  · intro M' r b1 b2 b3 b4 b5 f0 f1 f2 f3 f4 f5
    exact K M' r (by unfold lr_spoil; omega)
  · intro M' r b1 b2 b3 b4 b5 f0 f1
    exact K M' r (by unfold lr_spoil; omega)
  · intro M' r b1 b2 b3 b4 b5 f0 f1
    exact K M' r (by unfold lr_spoil; omega)
  · intro M' r b1 b2 b3 b4 b5 f0 f1
    exact K M' r (by unfold lr_spoil; omega)
  · intro M' r b1 b2 b3 b4 b5 f0 f1
    exact K M' r (by unfold lr_spoil; omega)
  · intro M' r b1 b2 b3 b4 b5 f0 f1
    exact K M' r (by unfold lr_spoil; omega)
  · intro M' r b1 b2 b3 b4 b5 f0 f1 f2
    exact K M' r (by unfold lr_spoil; omega)
  · intro M' r b1 b2 b3 b4 b5 f0 f1 f2
    exact K M' r (by unfold lr_spoil; omega)
  · intro M' r b1 b2 b3 b4 b5 f0 f1 f2
    exact K M' r (by unfold lr_spoil; omega)
  · intro M' r b1 b2 b3 b4 b5 f0 f1 f2
    exact K M' r (by unfold lr_spoil; omega)
def lx_ib (p q l0 l1 l2 l3 r : Int) : Prop := (r = 0 ∧ (p < 0 ∨ 3 < p ∨ q < 0 ∨ p = 0 ∧ l0 ≤ q ∨ p = 1 ∧ l1 ≤ q ∨ p = 2 ∧ l2 ≤ q ∨ p = 3 ∧ l3 ≤ q)) ∨ (r = 1 ∧ 0 ≤ q ∧ q ≤ 239 ∧ 0 ≤ p ∧ p ≤ 3 ∧ (p = 0 ∧ q < l0 ∨ p = 1 ∧ q < l1 ∨ p = 2 ∧ q < l2 ∨ p = 3 ∧ q < l3))
theorem lx_ib0 {d z u : Nat} {M N : Nat → mq_C} {Q : (Option Value ⊕ Nat) → mq_S → Prop} {x1 x2 : Int32} (hm : mz_sh mz_GG N) (hx : HX N) (hN : ∀ a, a < 272 → N a = M a) (hs : x1.toInt = 0)
    (K : ∀ (N : Nat → mq_C) (r : Int32), mz_sh mz_GG N → HX N → (∀ a, a < 272 → N a = M a) → lx_ib x1.toInt x2.toInt (hv M 47 1) (hv M 58 1) (hv M 69 1) (hv M 80 1) r.toInt → Q (.inl (some (.int r))) (N, z, u)) : mq_R mq_PP d 18 7 [some (.ref 8), some (.int x1), some (.int x2)] [] (N, z, u) Q := by
  have nA := hb_vc (hN 47 (by decide)) 1
  refine he_iload (n := 8) (i := 2) (by decide +kernel) rfl ?_
  by_cases h8 : x2.toInt < 0
  · skip
    refine he_iflt_t (n := 11) (t := 28) (by decide +kernel) (by omega) ?_
    refine he_iconst (n := 29) (c := 0) (by decide +kernel) (by decide) ?_
    intro c28 hc28
    refine he_retz (by decide +kernel) (by omega) ?_
    exact K N _ hm hx hN (by unfold lx_ib; omega)
  · skip
    refine he_iflt_f (n := 11) (t := 28) (by decide +kernel) (by omega) ?_
    refine he_iload (n := 12) (i := 2) (by decide +kernel) rfl ?_
    refine he_aload (n := 13) (i := 0) (by decide +kernel) rfl ?_
    refine he_getr (n := 16) (ci := 0) (j := 2) (ns := [2079, 25]) (b := 37) hm (by decide +kernel) rfl rfl (by decide +kernel) ?_
    refine he_iload (n := 17) (i := 1) (by decide +kernel) rfl ?_
    refine he_aald (n := 18) (kind := 71) (b := 47) hm (by decide +kernel) rfl rfl (by decide) (by omega) (by rw [show x1.toInt.toNat = 0 by omega]; decide +kernel) ?_
    refine hb_gfd (n := 21) (ci := 1) (j := 1) (ns := [1218, 124]) hm (by decide +kernel) rfl rfl (by decide) rfl ?_
    intro v18 hv18 lv18 uv18
    by_cases h21 : v18.toInt ≤ x2.toInt
    · skip
      refine he_cmpge_t (n := 24) (t := 28) (by decide +kernel) (by omega) ?_
      refine he_iconst (n := 29) (c := 0) (by decide +kernel) (by decide) ?_
      intro c28 hc28
      refine he_retz (by decide +kernel) (by omega) ?_
      exact K N _ hm hx hN (by unfold lx_ib; omega)
    · skip
      refine he_cmpge_f (n := 24) (t := 28) (by decide +kernel) (by omega) ?_
      refine he_iconst (n := 25) (c := 1) (by decide +kernel) (by decide) ?_
      intro c24 hc24
      refine he_goto (t := 29) (by decide +kernel) ?_
      refine he_retz (by decide +kernel) (by omega) ?_
      exact K N _ hm hx hN (by unfold lx_ib; omega)
theorem lx_ib1 {d z u : Nat} {M N : Nat → mq_C} {Q : (Option Value ⊕ Nat) → mq_S → Prop} {x1 x2 : Int32} (hm : mz_sh mz_GG N) (hx : HX N) (hN : ∀ a, a < 272 → N a = M a) (hs : x1.toInt = 1)
    (K : ∀ (N : Nat → mq_C) (r : Int32), mz_sh mz_GG N → HX N → (∀ a, a < 272 → N a = M a) → lx_ib x1.toInt x2.toInt (hv M 47 1) (hv M 58 1) (hv M 69 1) (hv M 80 1) r.toInt → Q (.inl (some (.int r))) (N, z, u)) : mq_R mq_PP d 18 7 [some (.ref 8), some (.int x1), some (.int x2)] [] (N, z, u) Q := by
  have nA := hb_vc (hN 58 (by decide)) 1
  refine he_iload (n := 8) (i := 2) (by decide +kernel) rfl ?_
  by_cases h8 : x2.toInt < 0
  · skip
    refine he_iflt_t (n := 11) (t := 28) (by decide +kernel) (by omega) ?_
    refine he_iconst (n := 29) (c := 0) (by decide +kernel) (by decide) ?_
    intro c28 hc28
    refine he_retz (by decide +kernel) (by omega) ?_
    exact K N _ hm hx hN (by unfold lx_ib; omega)
  · skip
    refine he_iflt_f (n := 11) (t := 28) (by decide +kernel) (by omega) ?_
    refine he_iload (n := 12) (i := 2) (by decide +kernel) rfl ?_
    refine he_aload (n := 13) (i := 0) (by decide +kernel) rfl ?_
    refine he_getr (n := 16) (ci := 0) (j := 2) (ns := [2079, 25]) (b := 37) hm (by decide +kernel) rfl rfl (by decide +kernel) ?_
    refine he_iload (n := 17) (i := 1) (by decide +kernel) rfl ?_
    refine he_aald (n := 18) (kind := 71) (b := 58) hm (by decide +kernel) rfl rfl (by decide) (by omega) (by rw [show x1.toInt.toNat = 1 by omega]; decide +kernel) ?_
    refine hb_gfd (n := 21) (ci := 1) (j := 1) (ns := [1218, 124]) hm (by decide +kernel) rfl rfl (by decide) rfl ?_
    intro v18 hv18 lv18 uv18
    by_cases h21 : v18.toInt ≤ x2.toInt
    · skip
      refine he_cmpge_t (n := 24) (t := 28) (by decide +kernel) (by omega) ?_
      refine he_iconst (n := 29) (c := 0) (by decide +kernel) (by decide) ?_
      intro c28 hc28
      refine he_retz (by decide +kernel) (by omega) ?_
      exact K N _ hm hx hN (by unfold lx_ib; omega)
    · skip
      refine he_cmpge_f (n := 24) (t := 28) (by decide +kernel) (by omega) ?_
      refine he_iconst (n := 25) (c := 1) (by decide +kernel) (by decide) ?_
      intro c24 hc24
      refine he_goto (t := 29) (by decide +kernel) ?_
      refine he_retz (by decide +kernel) (by omega) ?_
      exact K N _ hm hx hN (by unfold lx_ib; omega)
theorem lx_ib2 {d z u : Nat} {M N : Nat → mq_C} {Q : (Option Value ⊕ Nat) → mq_S → Prop} {x1 x2 : Int32} (hm : mz_sh mz_GG N) (hx : HX N) (hN : ∀ a, a < 272 → N a = M a) (hs : x1.toInt = 2)
    (K : ∀ (N : Nat → mq_C) (r : Int32), mz_sh mz_GG N → HX N → (∀ a, a < 272 → N a = M a) → lx_ib x1.toInt x2.toInt (hv M 47 1) (hv M 58 1) (hv M 69 1) (hv M 80 1) r.toInt → Q (.inl (some (.int r))) (N, z, u)) : mq_R mq_PP d 18 7 [some (.ref 8), some (.int x1), some (.int x2)] [] (N, z, u) Q := by
  have nA := hb_vc (hN 69 (by decide)) 1
  refine he_iload (n := 8) (i := 2) (by decide +kernel) rfl ?_
  by_cases h8 : x2.toInt < 0
  · skip
    refine he_iflt_t (n := 11) (t := 28) (by decide +kernel) (by omega) ?_
    refine he_iconst (n := 29) (c := 0) (by decide +kernel) (by decide) ?_
    intro c28 hc28
    refine he_retz (by decide +kernel) (by omega) ?_
    exact K N _ hm hx hN (by unfold lx_ib; omega)
  · skip
    refine he_iflt_f (n := 11) (t := 28) (by decide +kernel) (by omega) ?_
    refine he_iload (n := 12) (i := 2) (by decide +kernel) rfl ?_
    refine he_aload (n := 13) (i := 0) (by decide +kernel) rfl ?_
    refine he_getr (n := 16) (ci := 0) (j := 2) (ns := [2079, 25]) (b := 37) hm (by decide +kernel) rfl rfl (by decide +kernel) ?_
    refine he_iload (n := 17) (i := 1) (by decide +kernel) rfl ?_
    refine he_aald (n := 18) (kind := 71) (b := 69) hm (by decide +kernel) rfl rfl (by decide) (by omega) (by rw [show x1.toInt.toNat = 2 by omega]; decide +kernel) ?_
    refine hb_gfd (n := 21) (ci := 1) (j := 1) (ns := [1218, 124]) hm (by decide +kernel) rfl rfl (by decide) rfl ?_
    intro v18 hv18 lv18 uv18
    by_cases h21 : v18.toInt ≤ x2.toInt
    · skip
      refine he_cmpge_t (n := 24) (t := 28) (by decide +kernel) (by omega) ?_
      refine he_iconst (n := 29) (c := 0) (by decide +kernel) (by decide) ?_
      intro c28 hc28
      refine he_retz (by decide +kernel) (by omega) ?_
      exact K N _ hm hx hN (by unfold lx_ib; omega)
    · skip
      refine he_cmpge_f (n := 24) (t := 28) (by decide +kernel) (by omega) ?_
      refine he_iconst (n := 25) (c := 1) (by decide +kernel) (by decide) ?_
      intro c24 hc24
      refine he_goto (t := 29) (by decide +kernel) ?_
      refine he_retz (by decide +kernel) (by omega) ?_
      exact K N _ hm hx hN (by unfold lx_ib; omega)
theorem lx_ib3 {d z u : Nat} {M N : Nat → mq_C} {Q : (Option Value ⊕ Nat) → mq_S → Prop} {x1 x2 : Int32} (hm : mz_sh mz_GG N) (hx : HX N) (hN : ∀ a, a < 272 → N a = M a) (hs : x1.toInt = 3)
    (K : ∀ (N : Nat → mq_C) (r : Int32), mz_sh mz_GG N → HX N → (∀ a, a < 272 → N a = M a) → lx_ib x1.toInt x2.toInt (hv M 47 1) (hv M 58 1) (hv M 69 1) (hv M 80 1) r.toInt → Q (.inl (some (.int r))) (N, z, u)) : mq_R mq_PP d 18 7 [some (.ref 8), some (.int x1), some (.int x2)] [] (N, z, u) Q := by
  have nA := hb_vc (hN 80 (by decide)) 1
  refine he_iload (n := 8) (i := 2) (by decide +kernel) rfl ?_
  by_cases h8 : x2.toInt < 0
  · skip
    refine he_iflt_t (n := 11) (t := 28) (by decide +kernel) (by omega) ?_
    refine he_iconst (n := 29) (c := 0) (by decide +kernel) (by decide) ?_
    intro c28 hc28
    refine he_retz (by decide +kernel) (by omega) ?_
    exact K N _ hm hx hN (by unfold lx_ib; omega)
  · skip
    refine he_iflt_f (n := 11) (t := 28) (by decide +kernel) (by omega) ?_
    refine he_iload (n := 12) (i := 2) (by decide +kernel) rfl ?_
    refine he_aload (n := 13) (i := 0) (by decide +kernel) rfl ?_
    refine he_getr (n := 16) (ci := 0) (j := 2) (ns := [2079, 25]) (b := 37) hm (by decide +kernel) rfl rfl (by decide +kernel) ?_
    refine he_iload (n := 17) (i := 1) (by decide +kernel) rfl ?_
    refine he_aald (n := 18) (kind := 71) (b := 80) hm (by decide +kernel) rfl rfl (by decide) (by omega) (by rw [show x1.toInt.toNat = 3 by omega]; decide +kernel) ?_
    refine hb_gfd (n := 21) (ci := 1) (j := 1) (ns := [1218, 124]) hm (by decide +kernel) rfl rfl (by decide) rfl ?_
    intro v18 hv18 lv18 uv18
    by_cases h21 : v18.toInt ≤ x2.toInt
    · skip
      refine he_cmpge_t (n := 24) (t := 28) (by decide +kernel) (by omega) ?_
      refine he_iconst (n := 29) (c := 0) (by decide +kernel) (by decide) ?_
      intro c28 hc28
      refine he_retz (by decide +kernel) (by omega) ?_
      exact K N _ hm hx hN (by unfold lx_ib; omega)
    · skip
      refine he_cmpge_f (n := 24) (t := 28) (by decide +kernel) (by omega) ?_
      refine he_iconst (n := 25) (c := 1) (by decide +kernel) (by decide) ?_
      intro c24 hc24
      refine he_goto (t := 29) (by decide +kernel) ?_
      refine he_retz (by decide +kernel) (by omega) ?_
      exact K N _ hm hx hN (by unfold lx_ib; omega)
theorem lx_isByte {d z u : Nat} {M : Nat → mq_C} {Q : (Option Value ⊕ Nat) → mq_S → Prop} {x1 x2 : Int32} (hd : 2 ≤ d) (hz : 272 ≤ z) (hm : mz_sh mz_GG M) (hx : HX M)
    (K : ∀ (N : Nat → mq_C) (r : Int32), mz_sh mz_GG N → HX N → (∀ a, a < 272 → N a = M a) → lx_ib x1.toInt x2.toInt (hv M 47 1) (hv M 58 1) (hv M 69 1) (hv M 80 1) r.toInt → Q (.inl (some (.int r))) (N, z, u)) : mq_R mq_PP d 18 0 [some (.ref 8), some (.int x1), some (.int x2)] [] (M, z, u) Q := by
  obtain ⟨d, rfl⟩ : ∃ d', d = d' + 1 := ⟨d - 1, by omega⟩
  refine he_iload (n := 1) (i := 1) (by decide +kernel) rfl ?_
  refine he_s1 (n := 4) (j := 17) (mx := 1) (ns := [2234, 2235, 1001, 121]) (by decide +kernel) (by decide) (by show 1 ≤ 1; omega) ?_
  rw [mq_e17]
  refine lx_isSlot (ha_all (mz_q0, 1) (List.mem_of_getElem? (show mz_Cs[0]? = _ from rfl))) (by omega) hz hm hx ?_ ?_ ?_
  · intro N r g1 g2 g3 g4 g5 f0 f1 f2
    have hN : ∀ a, a < 272 → N a = M a := fun a ha => g3 a ha rfl
    show mq_R mq_PP (d + 1) 18 4 _ [.int r] (N, z, u) Q
    refine he_ifeq_f (n := 7) (t := 28) (by decide +kernel) (by omega) ?_
    have hs : x1.toInt = 0 ∨ x1.toInt = 1 ∨ x1.toInt = 2 ∨ x1.toInt = 3 := by omega
    rcases hs with hs | hs | hs | hs
    · exact lx_ib0 g1 g2 hN hs K
    · exact lx_ib1 g1 g2 hN hs K
    · exact lx_ib2 g1 g2 hN hs K
    · exact lx_ib3 g1 g2 hN hs K
  · intro N r g1 g2 g3 g4 g5 f0 f1
    have hN : ∀ a, a < 272 → N a = M a := fun a ha => g3 a ha rfl
    show mq_R mq_PP (d + 1) 18 4 _ [.int r] (N, z, u) Q
    refine he_ifeq_t (n := 7) (t := 28) (by decide +kernel) (by omega) ?_
    refine he_iconst (n := 29) (c := 0) (by decide +kernel) (by decide) ?_
    intro c19 hc19
    refine he_retz (by decide +kernel) (by omega) ?_
    exact K N _ g1 g2 hN (by unfold lx_ib; omega)
  · intro N r g1 g2 g3 g4 g5 f0 f1
    have hN : ∀ a, a < 272 → N a = M a := fun a ha => g3 a ha rfl
    show mq_R mq_PP (d + 1) 18 4 _ [.int r] (N, z, u) Q
    refine he_ifeq_t (n := 7) (t := 28) (by decide +kernel) (by omega) ?_
    refine he_iconst (n := 29) (c := 0) (by decide +kernel) (by decide) ?_
    intro c19 hc19
    refine he_retz (by decide +kernel) (by omega) ?_
    exact K N _ g1 g2 hN (by unfold lx_ib; omega)
def lx_sb_q : mz_Q := (4, [(1, 8), (0, 0), (0, 0), (0, 0)], [(0, [(1, 1)]), (3, [(1, -1)]), (0, [(2, 1)]), (239, [(2, -1)]), (0, [(3, 1)]), (255, [(3, -1)])], [4, 3, 5, 6, 7], [(0, 0, [(-1, [(70, 1)]), (1, [(70, -1)])])], [9, 10, 11, 12, 13, 14, 15, 16, 17, 18, 19, 20, 21, 22, 23, 24, 25, 26, 27, 28, 29, 30, 31, 47, 48, 49, 50, 51, 52, 53, 54, 55, 56, 57, 58, 59, 60, 61, 62, 63, 64, 65, 66, 67, 68, 69, 70, 71, 72, 73, 74, 75, 76, 77, 78, 79, 80, 81, 82, 83, 84, 85, 86, 87, 88, 89, 90])
def lx_sb_s : List mz_Sp2 := []
def lx_sb_h : List mz_H := [(37, 0, []), (0, 0, [(0, 1)]), (0, 0, [(1, 1)]), (1000, 0, []), (1001, 0, []), (0, 0, [(2, 1)]), (0, 0, [(3, 1)]), (3, 8, []), (0, 0, [(0, 1)]), (0, 0, [(1, 1)]), (0, 0, [(6, 1)]), (0, 0, [(7, 1)]), (0, 0, [(6, 1)]), (0, 0, [(7, 1)]), (0, 0, [(0, 1)]), (0, 0, [(1, 1)]), (37, 0, []), (0, 0, [(4, 1)]), (0, 0, [(5, 1)]), (1000, 0, []), (9, 0, []), (95, 0, []), (0, 0, []), (0, 0, []), (0, 0, []), (0, 0, []), (0, 0, []), (0, 0, [])]
set_option maxRecDepth 100000 in
theorem lx_sb_c : mz_blk mz_GG mq_PP mz_Cs lx_sb_q 4 8 22 lx_sb_s [] 25 lx_sb_h = true := by decide +kernel
theorem lx_sb {X : (Nat → mq_C) → Prop} (hX : ∀ M M' : Nat → mq_C, mz_same mz_GG M M' → X M → X M') (hC : ∀ c ∈ mz_Cs, c.2 < 8 → mz_Ct mz_GG mq_PP X c.1 c.2) {d z u : Nat} {M : Nat → mq_C} {Q : (Option Value ⊕ Nat) → mq_S → Prop} {x1 : Int32} {x2 : Int32} {x3 : Int32} (hd : 8 ≤ d) (hz : 272 ≤ z) (hm : mz_sh mz_GG M) (hx : X M) (p0 : 0 ≤ x1.toInt) (p1 : 0 ≤ 3 - x1.toInt) (p2 : 0 ≤ x2.toInt) (p3 : 0 ≤ 239 - x2.toInt) (p4 : 0 ≤ x3.toInt) (p5 : 0 ≤ 255 - x3.toInt)
    (w0 : ∀ (M' : Nat → mq_C) (r : Int32), mz_sh mz_GG M' → X M' → mz_fr lx_sb_q M M' → (∀ a, a < 8 → M' a = M a) → hb_same mz_GG lx_sb_q M M' → 0 ≤ (-1) + r.toInt → 0 ≤ 1 - r.toInt → Q (.inl (some (.int r))) (M', z, u)) : mq_R mq_PP d 4 22 [some (.ref 8), some (.int x1), some (.int x2), some (.int x3)] [] (M, z, u) Q := by
  refine hb_blk mz_GG mq_PP X (q := lx_sb_q) (nl := 4) (M := M) hb_okG hX hC lx_sb_c hz hd (L := [some (.ref 8), some (.int x1), some (.int x2), some (.int x3)]) (st := []) (show hb_lk mz_GG ([(1, 8), (0, 0), (0, 0), (0, 0)]) _ from ⟨⟨List.mem_singleton.mpr rfl, rfl⟩, trivial, trivial, trivial, trivial⟩) (show hb_pk mz_GG ([]) _ from trivial) hm hx ?_ ?_ ?_
  · exact hb_cons (show 0 ≤ mz_ev _ _ from (show 0 ≤ 0 + (1 * x1.toInt + 0) by omega)) (hb_cons (show 0 ≤ mz_ev _ _ from (show 0 ≤ 3 + ((-1) * x1.toInt + 0) by omega)) (hb_cons (show 0 ≤ mz_ev _ _ from (show 0 ≤ 0 + (1 * x2.toInt + 0) by omega)) (hb_cons (show 0 ≤ mz_ev _ _ from (show 0 ≤ 239 + ((-1) * x2.toInt + 0) by omega)) (hb_cons (show 0 ≤ mz_ev _ _ from (show 0 ≤ 0 + (1 * x3.toInt + 0) by omega)) (hb_cons (show 0 ≤ mz_ev _ _ from (show 0 ≤ 255 + ((-1) * x3.toInt + 0) by omega)) (hb_nil))))))
  · intro s hs
    cases hs
  · intro r S hpo
    obtain ⟨b1, b2, b3, b4, b5, p, hp, res, hf, hre⟩ := hpo
    rcases List.mem_cons.mp hp with rfl | hp
    · obtain ⟨x, rfl, hr, hz1, hu1⟩ := mz_re_0 mz_GG hre rfl
      obtain ⟨M', z', u'⟩ := S
      cases hz1
      cases hu1
      have r70 : hb_r1 mz_GG lx_sb_q (hb_rb mz_GG lx_sb_q 4 [some (.ref 8), some (.int x1), some (.int x2), some (.int x3)] [] M) M' res 70 = res := rfl
      obtain ⟨f0, hf⟩ := hb_unc hf
      have f0 : 0 ≤ -1 + (1 * res + 0) := f0
      rw [← hr] at f0
      obtain ⟨f1, hf⟩ := hb_unc hf
      have f1 : 0 ≤ 1 + ((-1) * res + 0) := f1
      rw [← hr] at f1
      exact w0 M' x b1 b2 b3 b4 b5 (by have h1 := f0; omega) (by have h1 := f1; omega)
    cases hp

theorem lx_spoilx {d z u : Nat} {M : Nat → mq_C} {Q : (Option Value ⊕ Nat) → mq_S → Prop} {x1 x2 x3 : Int32} (hd : 8 ≤ d) (hz : 272 ≤ z) (hm : mz_sh mz_GG M) (hx : HX M)
    (K : ∀ (M' : Nat → mq_C) (r : Int32), lr_spoil x1.toInt x2.toInt x3.toInt (hv M 47 1) (hv M 58 1) (hv M 69 1) (hv M 80 1) r.toInt → Q (.inl (some (.int r))) (M', z, u)) : mq_R mq_PP d 4 0 [some (.ref 8), some (.int x1), some (.int x2), some (.int x3)] [] (M, z, u) Q := by
  obtain ⟨d, rfl⟩ : ∃ d', d = d' + 1 := ⟨d - 1, by omega⟩
  refine he_aload (n := 1) (i := 0) (by decide +kernel) rfl ?_
  refine he_iload (n := 2) (i := 1) (by decide +kernel) rfl ?_
  refine he_iload (n := 3) (i := 2) (by decide +kernel) rfl ?_
  refine he_v2 (n := 6) (j := 18) (ci := 0) (mx := 3) (ns := [3072, 3074, 25, 133]) (by decide +kernel) ((hb_kd (a := 8) hm rfl).trans rfl) (by decide) (by show 3 ≤ 3; omega) ?_
  rw [mq_e18]
  refine lx_isByte (by omega) hz hm hx ?_
  intro N r g1 g2 hN hib
  show mq_R mq_PP (d + 1) 4 6 _ [.int r] (N, z, u) Q
  unfold lx_ib at hib
  have fail : ∀ r' : Int32, r'.toInt = 0 → (r.toInt = 0 ∨ x3.toInt < 0 ∨ 255 < x3.toInt) → Q (.inl (some (.int r'))) (N, z, u) := fun r' h1 h2 => K N r' (by unfold lr_spoil; omega)
  by_cases h6 : r.toInt = 0
  · skip
    refine he_ifeq_t (n := 9) (t := 20) (by decide +kernel) (by omega) ?_
    refine he_iconst (n := 21) (c := 0) (by decide +kernel) (by decide) ?_
    intro c20 hc20
    refine he_retz (by decide +kernel) (by omega) ?_
    exact fail _ (by omega) (by omega)
  · skip
    refine he_ifeq_f (n := 9) (t := 20) (by decide +kernel) (by omega) ?_
    refine he_iload (n := 10) (i := 3) (by decide +kernel) rfl ?_
    by_cases h10 : x3.toInt < 0
    · skip
      refine he_iflt_t (n := 13) (t := 20) (by decide +kernel) (by omega) ?_
      refine he_iconst (n := 21) (c := 0) (by decide +kernel) (by decide) ?_
      intro c20 hc20
      refine he_retz (by decide +kernel) (by omega) ?_
      exact fail _ (by omega) (by omega)
    · skip
      refine he_iflt_f (n := 13) (t := 20) (by decide +kernel) (by omega) ?_
      refine he_iload (n := 14) (i := 3) (by decide +kernel) rfl ?_
      refine he_iconst (n := 17) (c := 255) (by decide +kernel) (by decide) ?_
      intro c14 hc14
      by_cases h17 : x3.toInt ≤ 255
      · skip
        refine he_cmple_t (n := 20) (t := 22) (by decide +kernel) (by omega) ?_
        refine lx_sb HX_same (fun c hc _ => ha_all c hc) (by omega) hz g1 g2 (by omega) (by omega) (by omega) (by omega) (by omega) (by omega) ?_
        intro M' r' k1 k2 k3 k4 k5
        intros
        exact K M' r' (by unfold lr_spoil; omega)
      · skip
        refine he_cmple_f (n := 20) (t := 22) (by decide +kernel) (by omega) ?_
        refine he_iconst (n := 21) (c := 0) (by decide +kernel) (by decide) ?_
        intro c20 hc20
        refine he_retz (by decide +kernel) (by omega) ?_
        exact fail _ (by omega) (by omega)
