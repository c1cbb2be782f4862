/-! The model's loads: take, whole. -/
def hm_td_q : mz_Q := (152, [(1, 234), (0, 0), (0, 0), (0, 0), (0, 0), (0, 0), (0, 0), (0, 0), (3, 0), (3, 0), (0, 0)], [(0, [(7, 1)]), (3, [(7, -1)]), (0, [(3, 1)]), (31, [(3, -1)])], [], [], [])
def hm_td_s : List mz_Sp2 := [(219, [(1, 234), (0, 0), (0, 0), (0, 0), (0, 0), (0, 0), (0, 0), (0, 0), (0, 0), (3, 0)], [], [(0, [(1, -1), (73, 1)]), (0, [(1, 1), (73, -1)]), (0, [(2, -1), (74, 1)]), (0, [(2, 1), (74, -1)]), (0, [(3, -1), (75, 1)]), (0, [(3, 1), (75, -1)]), (0, [(4, -1), (76, 1)]), (0, [(4, 1), (76, -1)]), (0, [(5, -1), (77, 1)]), (0, [(5, 1), (77, -1)]), (0, [(6, -1), (78, 1)]), (0, [(6, 1), (78, -1)]), (0, [(7, -1), (79, 1)]), (0, [(7, 1), (79, -1)]), (0, [(80, 1)]), (0, [(80, -1)]), (0, [(10, 1)]), (0, [(10, -1)])]), (219, [(1, 234), (0, 0), (0, 0), (0, 0), (0, 0), (0, 0), (0, 0), (0, 0), (0, 0), (3, 0)], [], [(0, [(1, -1), (73, 1)]), (0, [(1, 1), (73, -1)]), (0, [(2, -1), (74, 1)]), (0, [(2, 1), (74, -1)]), (0, [(3, -1), (75, 1)]), (0, [(3, 1), (75, -1)]), (0, [(4, -1), (76, 1)]), (0, [(4, 1), (76, -1)]), (0, [(5, -1), (77, 1)]), (0, [(5, 1), (77, -1)]), (0, [(6, -1), (78, 1)]), (0, [(6, 1), (78, -1)]), (0, [(7, -1), (79, 1)]), (0, [(7, 1), (79, -1)]), (0, [(80, 1)]), (0, [(80, -1)])]), (209, [(1, 234), (0, 0), (0, 0), (0, 0), (0, 0), (0, 0), (0, 0), (0, 0), (0, 0), (3, 0)], [], [(0, [(1, -1), (73, 1)]), (0, [(1, 1), (73, -1)]), (0, [(2, -1), (74, 1)]), (0, [(2, 1), (74, -1)]), (0, [(3, -1), (75, 1)]), (0, [(3, 1), (75, -1)]), (0, [(4, -1), (76, 1)]), (0, [(4, 1), (76, -1)]), (0, [(5, -1), (77, 1)]), (0, [(5, 1), (77, -1)]), (0, [(6, -1), (78, 1)]), (0, [(6, 1), (78, -1)]), (0, [(7, -1), (79, 1)]), (0, [(7, 1), (79, -1)]), (-1, [(80, 1)]), (1, [(80, -1)])])]
def hm_td_h : List mz_H := [(0, 0, []), (0, 0, []), (0, 0, []), (1, 0, []), (0, 0, []), (0, 0, []), (0, 0, []), (0, 0, []), (0, 0, []), (0, 0, []), (0, 0, []), (0, 0, []), (0, 0, []), (0, 0, []), (0, 0, []), (0, 0, []), (0, 0, []), (0, 0, []), (0, 0, []), (0, 0, []), (0, 0, []), (0, 0, []), (0, 0, []), (0, 0, [(3, 1)]), (0, 0, [(2, 1)]), (247, 0, []), (0, 0, [(0, 1)]), (0, 0, [(1, 1)]), (1, 0, []), (0, 0, [(4, 1)]), (4, 0, []), (0, 0, [(1, 1)]), (0, 0, []), (0, 0, []), (1, 0, []), (0, 0, []), (0, 0, []), (1, 0, []), (0, 0, []), (0, 0, []), (0, 0, []), (0, 0, []), (0, 0, []), (0, 0, []), (0, 0, []), (0, 0, []), (0, 0, []), (0, 0, []), (0, 0, []), (0, 0, []), (0, 0, []), (0, 0, []), (0, 0, []), (0, 0, []), (1, 1, []), (0, 0, []), (3, 0, []), (0, 0, []), (2, 0, []), (0, 0, []), (0, 0, []), (0, 0, []), (0, 0, []), (0, 0, []), (0, 0, []), (0, 0, []), (0, 0, []), (0, 0, []), (0, 0, []), (0, 0, []), (0, 0, []), (0, 0, []), (0, 0, []), (0, 0, []), (0, 0, [])]
set_option maxRecDepth 100000 in
theorem hm_td_c : mz_blk mz_GG mq_PP mz_Cs hm_td_q 10 1 176 hm_td_s [] 34 hm_td_h = true := by decide +kernel
theorem hm_td {X : (Nat → mq_C) → Prop} (hX : ∀ M M' : Nat → mq_C, mz_same mz_GG M M' → X M → X M') (hC : ∀ c ∈ mz_Cs, c.2 < 1 → mz_Ct mz_GG mq_PP X c.1 c.2) {d z u : Nat} {M : Nat → mq_C} {Q : (Option Value ⊕ Nat) → mq_S → Prop} {x1 : Int32} {x2 : Int32} {x3 : Int32} {x4 : Int32} {x5 : Int32} {x6 : Int32} {x7 : Int32} {o8 : Option Value} {o9 : Option Value} {x10 : Int32} (hd : 1 ≤ d) (hz : 272 ≤ z) (hm : mz_sh mz_GG M) (hx : X M) (h0 : mq_nl o8 = true) (h1 : mq_nl o9 = true) (p0 : 0 ≤ x7.toInt) (p1 : 0 ≤ 3 - x7.toInt) (p2 : 0 ≤ x3.toInt) (p3 : 0 ≤ 31 - x3.toInt)
    (k0 : ∀ (M' : Nat → mq_C) (y8 : Int32) (w9 : Option Value), mz_sh mz_GG M' → X M' → mz_fr hm_td_q M M' → (∀ a, a < 8 → M' a = M a) → hb_same mz_GG hm_td_q M M' → mq_nl w9 = true → y8.toInt = 0 → 0 ≤ x10.toInt → 0 ≤ 0 - x10.toInt → mq_R mq_PP d 152 219 [some (.ref 234), some (.int x1), some (.int x2), some (.int x3), some (.int x4), some (.int x5), some (.int x6), some (.int x7), some (.int y8), w9] [] (M', z, u) Q)
    (k1 : ∀ (M' : Nat → mq_C) (y8 : Int32) (w9 : Option Value), mz_sh mz_GG M' → X M' → mz_fr hm_td_q M M' → (∀ a, a < 8 → M' a = M a) → hb_same mz_GG hm_td_q M M' → mq_nl w9 = true → y8.toInt = 0 → mq_R mq_PP d 152 219 [some (.ref 234), some (.int x1), some (.int x2), some (.int x3), some (.int x4), some (.int x5), some (.int x6), some (.int x7), some (.int y8), w9] [] (M', z, u) Q)
    (k2 : ∀ (M' : Nat → mq_C) (y8 : Int32) (w9 : Option Value), mz_sh mz_GG M' → X M' → mz_fr hm_td_q M M' → (∀ a, a < 8 → M' a = M a) → hb_same mz_GG hm_td_q M M' → mq_nl w9 = true → y8.toInt = 1 → mq_R mq_PP d 152 209 [some (.ref 234), some (.int x1), some (.int x2), some (.int x3), some (.int x4), some (.int x5), some (.int x6), some (.int x7), some (.int y8), w9] [] (M', z, u) Q) : mq_R mq_PP d 152 176 [some (.ref 234), some (.int x1), some (.int x2), some (.int x3), some (.int x4), some (.int x5), some (.int x6), some (.int x7), o8, o9] [.int x10] (M, z, u) Q := by
  refine hb_blk mz_GG mq_PP X (q := hm_td_q) (nl := 10) (M := M) hb_okG hX hC hm_td_c hz hd (L := [some (.ref 234), some (.int x1), some (.int x2), some (.int x3), some (.int x4), some (.int x5), some (.int x6), some (.int x7), o8, o9]) (st := [.int x10]) (show hb_lk mz_GG ([(1, 234), (0, 0), (0, 0), (0, 0), (0, 0), (0, 0), (0, 0), (0, 0), (3, 0), (3, 0)]) _ from ⟨⟨List.mem_singleton.mpr rfl, rfl⟩, trivial, trivial, trivial, trivial, trivial, trivial, trivial, h0, h1, trivial⟩) (show hb_pk mz_GG ([(0, 0)]) _ from ⟨trivial, trivial⟩) hm hx ?_ ?_ ?_
  · exact hb_cons (show 0 ≤ mz_ev _ _ from (show 0 ≤ 0 + (1 * x7.toInt + 0) by omega)) (hb_cons (show 0 ≤ mz_ev _ _ from (show 0 ≤ 3 + ((-1) * x7.toInt + 0) by omega)) (hb_cons (show 0 ≤ mz_ev _ _ from (show 0 ≤ 0 + (1 * x3.toInt + 0) by omega)) (hb_cons (show 0 ≤ mz_ev _ _ from (show 0 ≤ 31 + ((-1) * x3.toInt + 0) by omega)) (hb_nil))))
  · intro s hs
    rcases List.mem_cons.mp hs with rfl | hs
    · intro ρ1 L' st' M' g1 g2 gm gr gf gs gx gw g8 ge
      obtain ⟨e0, L1, rfl, n0, gg0⟩ := hb_l1 mz_GG g1
      obtain rfl : e0 = 234 := List.mem_singleton.mp n0
      obtain ⟨y1, L1, rfl, qr73, gg1⟩ := hb_l0 mz_GG gg0
      have r73 : ρ1 73 = y1.toInt := qr73
      obtain ⟨y2, L1, rfl, qr74, gg2⟩ := hb_l0 mz_GG gg1
      have r74 : ρ1 74 = y2.toInt := qr74
      obtain ⟨y3, L1, rfl, qr75, gg3⟩ := hb_l0 mz_GG gg2
      have r75 : ρ1 75 = y3.toInt := qr75
      obtain ⟨y4, L1, rfl, qr76, gg4⟩ := hb_l0 mz_GG gg3
      have r76 : ρ1 76 = y4.toInt := qr76
      obtain ⟨y5, L1, rfl, qr77, gg5⟩ := hb_l0 mz_GG gg4
      have r77 : ρ1 77 = y5.toInt := qr77
      obtain ⟨y6, L1, rfl, qr78, gg6⟩ := hb_l0 mz_GG gg5
      have r78 : ρ1 78 = y6.toInt := qr78
      obtain ⟨y7, L1, rfl, qr79, gg7⟩ := hb_l0 mz_GG gg6
      have r79 : ρ1 79 = y7.toInt := qr79
      obtain ⟨y8, L1, rfl, qr80, gg8⟩ := hb_l0 mz_GG gg7
      have r80 : ρ1 80 = y8.toInt := qr80
      obtain ⟨w9, L1, rfl, n9, gg9⟩ := hb_l3 mz_GG gg8
      obtain rfl := hb_ln mz_GG gg9
      obtain rfl := hb_pn mz_GG g2
      have r1 : ρ1 1 = x1.toInt := gr 1 (by decide +kernel)
      have r2 : ρ1 2 = x2.toInt := gr 2 (by decide +kernel)
      have r3 : ρ1 3 = x3.toInt := gr 3 (by decide +kernel)
      have r4 : ρ1 4 = x4.toInt := gr 4 (by decide +kernel)
      have r5 : ρ1 5 = x5.toInt := gr 5 (by decide +kernel)
      have r6 : ρ1 6 = x6.toInt := gr 6 (by decide +kernel)
      have r7 : ρ1 7 = x7.toInt := gr 7 (by decide +kernel)
      have r10 : ρ1 10 = x10.toInt := gr 10 (by decide +kernel)
      obtain ⟨f0, gf⟩ := hb_unc gf
      have f0 : 0 ≤ 0 + ((-1) * ρ1 1 + (1 * ρ1 73 + 0)) := f0
      rw [r1, r73] at f0
      obtain ⟨f1, gf⟩ := hb_unc gf
      have f1 : 0 ≤ 0 + (1 * ρ1 1 + ((-1) * ρ1 73 + 0)) := f1
      rw [r1, r73] at f1
      obtain ⟨f2, gf⟩ := hb_unc gf
      have f2 : 0 ≤ 0 + ((-1) * ρ1 2 + (1 * ρ1 74 + 0)) := f2
      rw [r2, r74] at f2
      obtain ⟨f3, gf⟩ := hb_unc gf
      have f3 : 0 ≤ 0 + (1 * ρ1 2 + ((-1) * ρ1 74 + 0)) := f3
      rw [r2, r74] at f3
      obtain ⟨f4, gf⟩ := hb_unc gf
      have f4 : 0 ≤ 0 + ((-1) * ρ1 3 + (1 * ρ1 75 + 0)) := f4
      rw [r3, r75] at f4
      obtain ⟨f5, gf⟩ := hb_unc gf
      have f5 : 0 ≤ 0 + (1 * ρ1 3 + ((-1) * ρ1 75 + 0)) := f5
      rw [r3, r75] at f5
      obtain ⟨f6, gf⟩ := hb_unc gf
      have f6 : 0 ≤ 0 + ((-1) * ρ1 4 + (1 * ρ1 76 + 0)) := f6
      rw [r4, r76] at f6
      obtain ⟨f7, gf⟩ := hb_unc gf
      have f7 : 0 ≤ 0 + (1 * ρ1 4 + ((-1) * ρ1 76 + 0)) := f7
      rw [r4, r76] at f7
      obtain ⟨f8, gf⟩ := hb_unc gf
      have f8 : 0 ≤ 0 + ((-1) * ρ1 5 + (1 * ρ1 77 + 0)) := f8
      rw [r5, r77] at f8
      obtain ⟨f9, gf⟩ := hb_unc gf
      have f9 : 0 ≤ 0 + (1 * ρ1 5 + ((-1) * ρ1 77 + 0)) := f9
      rw [r5, r77] at f9
      obtain ⟨f10, gf⟩ := hb_unc gf
      have f10 : 0 ≤ 0 + ((-1) * ρ1 6 + (1 * ρ1 78 + 0)) := f10
      rw [r6, r78] at f10
      obtain ⟨f11, gf⟩ := hb_unc gf
      have f11 : 0 ≤ 0 + (1 * ρ1 6 + ((-1) * ρ1 78 + 0)) := f11
      rw [r6, r78] at f11
      obtain ⟨f12, gf⟩ := hb_unc gf
      have f12 : 0 ≤ 0 + ((-1) * ρ1 7 + (1 * ρ1 79 + 0)) := f12
      rw [r7, r79] at f12
      obtain ⟨f13, gf⟩ := hb_unc gf
      have f13 : 0 ≤ 0 + (1 * ρ1 7 + ((-1) * ρ1 79 + 0)) := f13
      rw [r7, r79] at f13
      obtain ⟨f14, gf⟩ := hb_unc gf
      have f14 : 0 ≤ 0 + (1 * ρ1 80 + 0) := f14
      rw [r80] at f14
      obtain ⟨f15, gf⟩ := hb_unc gf
      have f15 : 0 ≤ 0 + ((-1) * ρ1 80 + 0) := f15
      rw [r80] at f15
      obtain ⟨f16, gf⟩ := hb_unc gf
      have f16 : 0 ≤ 0 + (1 * ρ1 10 + 0) := f16
      rw [r10] at f16
      obtain ⟨f17, gf⟩ := hb_unc gf
      have f17 : 0 ≤ 0 + ((-1) * ρ1 10 + 0) := f17
      rw [r10] at f17
      have hy1 : y1 = x1 := hb_inj f0 f1
      subst y1
      have hy2 : y2 = x2 := hb_inj f2 f3
      subst y2
      have hy3 : y3 = x3 := hb_inj f4 f5
      subst y3
      have hy4 : y4 = x4 := hb_inj f6 f7
      subst y4
      have hy5 : y5 = x5 := hb_inj f8 f9
      subst y5
      have hy6 : y6 = x6 := hb_inj f10 f11
      subst y6
      have hy7 : y7 = x7 := hb_inj f12 f13
      subst y7
      exact k0 M' y8 w9 gs gx gw g8 ge n9 (by have h1 := f14; have h2 := f15; omega) (by have h1 := f16; omega) (by have h1 := f17; omega)
    rcases List.mem_cons.mp hs with rfl | hs
    · intro ρ1 L' st' M' g1 g2 gm gr gf gs gx gw g8 ge
      obtain ⟨e0, L1, rfl, n0, gg0⟩ := hb_l1 mz_GG g1
      obtain rfl : e0 = 234 := List.mem_singleton.mp n0
      obtain ⟨y1, L1, rfl, qr73, gg1⟩ := hb_l0 mz_GG gg0
      have r73 : ρ1 73 = y1.toInt := qr73
      obtain ⟨y2, L1, rfl, qr74, gg2⟩ := hb_l0 mz_GG gg1
      have r74 : ρ1 74 = y2.toInt := qr74
      obtain ⟨y3, L1, rfl, qr75, gg3⟩ := hb_l0 mz_GG gg2
      have r75 : ρ1 75 = y3.toInt := qr75
      obtain ⟨y4, L1, rfl, qr76, gg4⟩ := hb_l0 mz_GG gg3
      have r76 : ρ1 76 = y4.toInt := qr76
      obtain ⟨y5, L1, rfl, qr77, gg5⟩ := hb_l0 mz_GG gg4
      have r77 : ρ1 77 = y5.toInt := qr77
      obtain ⟨y6, L1, rfl, qr78, gg6⟩ := hb_l0 mz_GG gg5
      have r78 : ρ1 78 = y6.toInt := qr78
      obtain ⟨y7, L1, rfl, qr79, gg7⟩ := hb_l0 mz_GG gg6
      have r79 : ρ1 79 = y7.toInt := qr79
      obtain ⟨y8, L1, rfl, qr80, gg8⟩ := hb_l0 mz_GG gg7
      have r80 : ρ1 80 = y8.toInt := qr80
      obtain ⟨w9, L1, rfl, n9, gg9⟩ := hb_l3 mz_GG gg8
      obtain rfl := hb_ln mz_GG gg9
      obtain rfl := hb_pn mz_GG g2
      have r1 : ρ1 1 = x1.toInt := gr 1 (by decide +kernel)
      have r2 : ρ1 2 = x2.toInt := gr 2 (by decide +kernel)
      have r3 : ρ1 3 = x3.toInt := gr 3 (by decide +kernel)
      have r4 : ρ1 4 = x4.toInt := gr 4 (by decide +kernel)
      have r5 : ρ1 5 = x5.toInt := gr 5 (by decide +kernel)
      have r6 : ρ1 6 = x6.toInt := gr 6 (by decide +kernel)
      have r7 : ρ1 7 = x7.toInt := gr 7 (by decide +kernel)
      obtain ⟨f0, gf⟩ := hb_unc gf
      have f0 : 0 ≤ 0 + ((-1) * ρ1 1 + (1 * ρ1 73 + 0)) := f0
      rw [r1, r73] at f0
      obtain ⟨f1, gf⟩ := hb_unc gf
      have f1 : 0 ≤ 0 + (1 * ρ1 1 + ((-1) * ρ1 73 + 0)) := f1
      rw [r1, r73] at f1
      obtain ⟨f2, gf⟩ := hb_unc gf
      have f2 : 0 ≤ 0 + ((-1) * ρ1 2 + (1 * ρ1 74 + 0)) := f2
      rw [r2, r74] at f2
      obtain ⟨f3, gf⟩ := hb_unc gf
      have f3 : 0 ≤ 0 + (1 * ρ1 2 + ((-1) * ρ1 74 + 0)) := f3
      rw [r2, r74] at f3
      obtain ⟨f4, gf⟩ := hb_unc gf
      have f4 : 0 ≤ 0 + ((-1) * ρ1 3 + (1 * ρ1 75 + 0)) := f4
      rw [r3, r75] at f4
      obtain ⟨f5, gf⟩ := hb_unc gf
      have f5 : 0 ≤ 0 + (1 * ρ1 3 + ((-1) * ρ1 75 + 0)) := f5
      rw [r3, r75] at f5
      obtain ⟨f6, gf⟩ := hb_unc gf
      have f6 : 0 ≤ 0 + ((-1) * ρ1 4 + (1 * ρ1 76 + 0)) := f6
      rw [r4, r76] at f6
      obtain ⟨f7, gf⟩ := hb_unc gf
      have f7 : 0 ≤ 0 + (1 * ρ1 4 + ((-1) * ρ1 76 + 0)) := f7
      rw [r4, r76] at f7
      obtain ⟨f8, gf⟩ := hb_unc gf
      have f8 : 0 ≤ 0 + ((-1) * ρ1 5 + (1 * ρ1 77 + 0)) := f8
      rw [r5, r77] at f8
      obtain ⟨f9, gf⟩ := hb_unc gf
      have f9 : 0 ≤ 0 + (1 * ρ1 5 + ((-1) * ρ1 77 + 0)) := f9
      rw [r5, r77] at f9
      obtain ⟨f10, gf⟩ := hb_unc gf
      have f10 : 0 ≤ 0 + ((-1) * ρ1 6 + (1 * ρ1 78 + 0)) := f10
      rw [r6, r78] at f10
      obtain ⟨f11, gf⟩ := hb_unc gf
      have f11 : 0 ≤ 0 + (1 * ρ1 6 + ((-1) * ρ1 78 + 0)) := f11
      rw [r6, r78] at f11
      obtain ⟨f12, gf⟩ := hb_unc gf
      have f12 : 0 ≤ 0 + ((-1) * ρ1 7 + (1 * ρ1 79 + 0)) := f12
      rw [r7, r79] at f12
      obtain ⟨f13, gf⟩ := hb_unc gf
      have f13 : 0 ≤ 0 + (1 * ρ1 7 + ((-1) * ρ1 79 + 0)) := f13
      rw [r7, r79] at f13
      obtain ⟨f14, gf⟩ := hb_unc gf
      have f14 : 0 ≤ 0 + (1 * ρ1 80 + 0) := f14
      rw [r80] at f14
      obtain ⟨f15, gf⟩ := hb_unc gf
      have f15 : 0 ≤ 0 + ((-1) * ρ1 80 + 0) := f15
      rw [r80] at f15
      have hy1 : y1 = x1 := hb_inj f0 f1
      subst y1
      have hy2 : y2 = x2 := hb_inj f2 f3
      subst y2
      have hy3 : y3 = x3 := hb_inj f4 f5
      subst y3
      have hy4 : y4 = x4 := hb_inj f6 f7
      subst y4
      have hy5 : y5 = x5 := hb_inj f8 f9
      subst y5
      have hy6 : y6 = x6 := hb_inj f10 f11
      subst y6
      have hy7 : y7 = x7 := hb_inj f12 f13
      subst y7
      exact k1 M' y8 w9 gs gx gw g8 ge n9 (by have h1 := f14; have h2 := f15; omega)
    rcases List.mem_cons.mp hs with rfl | hs
    · intro ρ1 L' st' M' g1 g2 gm gr gf gs gx gw g8 ge
      obtain ⟨e0, L1, rfl, n0, gg0⟩ := hb_l1 mz_GG g1
      obtain rfl : e0 = 234 := List.mem_singleton.mp n0
      obtain ⟨y1, L1, rfl, qr73, gg1⟩ := hb_l0 mz_GG gg0
      have r73 : ρ1 73 = y1.toInt := qr73
      obtain ⟨y2, L1, rfl, qr74, gg2⟩ := hb_l0 mz_GG gg1
      have r74 : ρ1 74 = y2.toInt := qr74
      obtain ⟨y3, L1, rfl, qr75, gg3⟩ := hb_l0 mz_GG gg2
      have r75 : ρ1 75 = y3.toInt := qr75
      obtain ⟨y4, L1, rfl, qr76, gg4⟩ := hb_l0 mz_GG gg3
      have r76 : ρ1 76 = y4.toInt := qr76
      obtain ⟨y5, L1, rfl, qr77, gg5⟩ := hb_l0 mz_GG gg4
      have r77 : ρ1 77 = y5.toInt := qr77
      obtain ⟨y6, L1, rfl, qr78, gg6⟩ := hb_l0 mz_GG gg5
      have r78 : ρ1 78 = y6.toInt := qr78
      obtain ⟨y7, L1, rfl, qr79, gg7⟩ := hb_l0 mz_GG gg6
      have r79 : ρ1 79 = y7.toInt := qr79
      obtain ⟨y8, L1, rfl, qr80, gg8⟩ := hb_l0 mz_GG gg7
      have r80 : ρ1 80 = y8.toInt := qr80
      obtain ⟨w9, L1, rfl, n9, gg9⟩ := hb_l3 mz_GG gg8
      obtain rfl := hb_ln mz_GG gg9
      obtain rfl := hb_pn mz_GG g2
      have r1 : ρ1 1 = x1.toInt := gr 1 (by decide +kernel)
      have r2 : ρ1 2 = x2.toInt := gr 2 (by decide +kernel)
      have r3 : ρ1 3 = x3.toInt := gr 3 (by decide +kernel)
      have r4 : ρ1 4 = x4.toInt := gr 4 (by decide +kernel)
      have r5 : ρ1 5 = x5.toInt := gr 5 (by decide +kernel)
      have r6 : ρ1 6 = x6.toInt := gr 6 (by decide +kernel)
      have r7 : ρ1 7 = x7.toInt := gr 7 (by decide +kernel)
      obtain ⟨f0, gf⟩ := hb_unc gf
      have f0 : 0 ≤ 0 + ((-1) * ρ1 1 + (1 * ρ1 73 + 0)) := f0
      rw [r1, r73] at f0
      obtain ⟨f1, gf⟩ := hb_unc gf
      have f1 : 0 ≤ 0 + (1 * ρ1 1 + ((-1) * ρ1 73 + 0)) := f1
      rw [r1, r73] at f1
      obtain ⟨f2, gf⟩ := hb_unc gf
      have f2 : 0 ≤ 0 + ((-1) * ρ1 2 + (1 * ρ1 74 + 0)) := f2
      rw [r2, r74] at f2
      obtain ⟨f3, gf⟩ := hb_unc gf
      have f3 : 0 ≤ 0 + (1 * ρ1 2 + ((-1) * ρ1 74 + 0)) := f3
      rw [r2, r74] at f3
      obtain ⟨f4, gf⟩ := hb_unc gf
      have f4 : 0 ≤ 0 + ((-1) * ρ1 3 + (1 * ρ1 75 + 0)) := f4
      rw [r3, r75] at f4
      obtain ⟨f5, gf⟩ := hb_unc gf
      have f5 : 0 ≤ 0 + (1 * ρ1 3 + ((-1) * ρ1 75 + 0)) := f5
      rw [r3, r75] at f5
      obtain ⟨f6, gf⟩ := hb_unc gf
      have f6 : 0 ≤ 0 + ((-1) * ρ1 4 + (1 * ρ1 76 + 0)) := f6
      rw [r4, r76] at f6
      obtain ⟨f7, gf⟩ := hb_unc gf
      have f7 : 0 ≤ 0 + (1 * ρ1 4 + ((-1) * ρ1 76 + 0)) := f7
      rw [r4, r76] at f7
      obtain ⟨f8, gf⟩ := hb_unc gf
      have f8 : 0 ≤ 0 + ((-1) * ρ1 5 + (1 * ρ1 77 + 0)) := f8
      rw [r5, r77] at f8
      obtain ⟨f9, gf⟩ := hb_unc gf
      have f9 : 0 ≤ 0 + (1 * ρ1 5 + ((-1) * ρ1 77 + 0)) := f9
      rw [r5, r77] at f9
      obtain ⟨f10, gf⟩ := hb_unc gf
      have f10 : 0 ≤ 0 + ((-1) * ρ1 6 + (1 * ρ1 78 + 0)) := f10
      rw [r6, r78] at f10
      obtain ⟨f11, gf⟩ := hb_unc gf
      have f11 : 0 ≤ 0 + (1 * ρ1 6 + ((-1) * ρ1 78 + 0)) := f11
      rw [r6, r78] at f11
      obtain ⟨f12, gf⟩ := hb_unc gf
      have f12 : 0 ≤ 0 + ((-1) * ρ1 7 + (1 * ρ1 79 + 0)) := f12
      rw [r7, r79] at f12
      obtain ⟨f13, gf⟩ := hb_unc gf
      have f13 : 0 ≤ 0 + (1 * ρ1 7 + ((-1) * ρ1 79 + 0)) := f13
      rw [r7, r79] at f13
      obtain ⟨f14, gf⟩ := hb_unc gf
      have f14 : 0 ≤ -1 + (1 * ρ1 80 + 0) := f14
      rw [r80] at f14
      obtain ⟨f15, gf⟩ := hb_unc gf
      have f15 : 0 ≤ 1 + ((-1) * ρ1 80 + 0) := f15
      rw [r80] at f15
      have hy1 : y1 = x1 := hb_inj f0 f1
      subst y1
      have hy2 : y2 = x2 := hb_inj f2 f3
      subst y2
      have hy3 : y3 = x3 := hb_inj f4 f5
      subst y3
      have hy4 : y4 = x4 := hb_inj f6 f7
      subst y4
      have hy5 : y5 = x5 := hb_inj f8 f9
      subst y5
      have hy6 : y6 = x6 := hb_inj f10 f11
      subst y6
      have hy7 : y7 = x7 := hb_inj f12 f13
      subst y7
      exact k2 M' y8 w9 gs gx gw g8 ge n9 (by have h1 := f14; have h2 := f15; omega)
    cases hs
  · intro r S hpo
    obtain ⟨b1, b2, b3, b4, b5, p, hp, res, hf, hre⟩ := hpo
    cases hp

def hm_tc_q : mz_Q := (152, [(1, 234), (0, 0), (0, 0), (0, 0), (0, 0), (0, 0), (0, 0), (0, 0), (3, 0), (3, 0)], [(0, [(4, 1)]), (3, [(4, -1)]), (0, [(7, 1)]), (3, [(7, -1)]), (0, [(3, 1)]), (31, [(3, -1)])], [], [], [])
def hm_tc_s : List mz_Sp2 := [(209, [(1, 234), (0, 0), (0, 0), (0, 0), (0, 0), (0, 0), (0, 0), (0, 0), (0, 0), (3, 0)], [], [(0, [(1, -1), (72, 1)]), (0, [(1, 1), (72, -1)]), (0, [(2, -1), (73, 1)]), (0, [(2, 1), (73, -1)]), (0, [(3, -1), (74, 1)]), (0, [(3, 1), (74, -1)]), (0, [(4, -1), (75, 1)]), (0, [(4, 1), (75, -1)]), (0, [(5, -1), (76, 1)]), (0, [(5, 1), (76, -1)]), (0, [(6, -1), (77, 1)]), (0, [(6, 1), (77, -1)]), (0, [(7, -1), (78, 1)]), (0, [(7, 1), (78, -1)]), (-1, [(79, 1)]), (1, [(79, -1)])]), (170, [(1, 234), (0, 0), (0, 0), (0, 0), (0, 0), (0, 0), (0, 0), (0, 0), (3, 0), (3, 0)], [], [(0, [(1, -1), (72, 1)]), (0, [(1, 1), (72, -1)]), (0, [(2, -1), (73, 1)]), (0, [(2, 1), (73, -1)]), (0, [(3, -1), (74, 1)]), (0, [(3, 1), (74, -1)]), (0, [(4, -1), (75, 1)]), (0, [(4, 1), (75, -1)]), (0, [(5, -1), (76, 1)]), (0, [(5, 1), (76, -1)]), (0, [(6, -1), (77, 1)]), (0, [(6, 1), (77, -1)]), (0, [(7, -1), (78, 1)]), (0, [(7, 1), (78, -1)])])]
def hm_tc_h : List mz_H := [(247, 0, []), (0, 0, [(0, 1)]), (0, 0, [(1, 1)]), (1, 0, []), (0, 0, [(6, 1)]), (0, 0, []), (4, 0, []), (0, 0, [(1, 1)]), (1, 1, []), (0, 0, []), (3, 0, []), (0, 0, []), (0, 0, []), (0, 0, []), (0, 0, []), (0, 0, []), (0, 0, []), (0, 0, []), (0, 0, []), (0, 0, []), (0, 0, []), (0, 0, []), (0, 0, []), (0, 0, []), (0, 0, []), (0, 0, []), (0, 0, []), (0, 0, []), (0, 0, []), (1, 0, []), (0, 0, []), (0, 0, []), (0, 0, []), (0, 0, []), (0, 0, []), (0, 0, []), (0, 0, []), (0, 0, []), (0, 0, []), (0, 0, []), (0, 0, []), (0, 0, []), (0, 0, []), (0, 0, [])]
set_option maxRecDepth 100000 in
theorem hm_tc_c : mz_blk mz_GG mq_PP mz_Cs hm_tc_q 10 1 152 hm_tc_s [] 24 hm_tc_h = true := by decide +kernel
theorem hm_tc {X : (Nat → mq_C) → Prop} (hX : ∀ M M' : Nat → mq_C, mz_same mz_GG M M' → X M → X M') (hC : ∀ c ∈ mz_Cs, c.2 < 1 → mz_Ct mz_GG mq_PP X c.1 c.2) {d z u : Nat} {M : Nat → mq_C} {Q : (Option Value ⊕ Nat) → mq_S → Prop} {x1 : Int32} {x2 : Int32} {x3 : Int32} {x4 : Int32} {x5 : Int32} {x6 : Int32} {x7 : Int32} {o8 : Option Value} {o9 : Option Value} (hd : 1 ≤ d) (hz : 272 ≤ z) (hm : mz_sh mz_GG M) (hx : X M) (h0 : mq_nl o8 = true) (h1 : mq_nl o9 = true) (p0 : 0 ≤ x4.toInt) (p1 : 0 ≤ 3 - x4.toInt) (p2 : 0 ≤ x7.toInt) (p3 : 0 ≤ 3 - x7.toInt) (p4 : 0 ≤ x3.toInt) (p5 : 0 ≤ 31 - x3.toInt)
    (k0 : ∀ (M' : Nat → mq_C) (y8 : Int32) (w9 : Option Value), mz_sh mz_GG M' → X M' → mz_fr hm_tc_q M M' → (∀ a, a < 8 → M' a = M a) → hb_same mz_GG hm_tc_q M M' → mq_nl w9 = true → y8.toInt = 1 → mq_R mq_PP d 152 209 [some (.ref 234), some (.int x1), some (.int x2), some (.int x3), some (.int x4), some (.int x5), some (.int x6), some (.int x7), some (.int y8), w9] [] (M', z, u) Q)
    (k1 : ∀ (M' : Nat → mq_C) (w8 : Option Value) (w9 : Option Value), mz_sh mz_GG M' → X M' → mz_fr hm_tc_q M M' → (∀ a, a < 8 → M' a = M a) → hb_same mz_GG hm_tc_q M M' → mq_nl w8 = true → mq_nl w9 = true → mq_R mq_PP d 152 170 [some (.ref 234), some (.int x1), some (.int x2), some (.int x3), some (.int x4), some (.int x5), some (.int x6), some (.int x7), w8, w9] [] (M', z, u) Q) : mq_R mq_PP d 152 152 [some (.ref 234), some (.int x1), some (.int x2), some (.int x3), some (.int x4), some (.int x5), some (.int x6), some (.int x7), o8, o9] [] (M, z, u) Q := by
  refine hb_blk mz_GG mq_PP X (q := hm_tc_q) (nl := 10) (M := M) hb_okG hX hC hm_tc_c hz hd (L := [some (.ref 234), some (.int x1), some (.int x2), some (.int x3), some (.int x4), some (.int x5), some (.int x6), some (.int x7), o8, o9]) (st := []) (show hb_lk mz_GG ([(1, 234), (0, 0), (0, 0), (0, 0), (0, 0), (0, 0), (0, 0), (0, 0), (3, 0), (3, 0)]) _ from ⟨⟨List.mem_singleton.mpr rfl, rfl⟩, trivial, trivial, trivial, trivial, trivial, trivial, trivial, h0, h1, trivial⟩) (show hb_pk mz_GG ([]) _ from trivial) hm hx ?_ ?_ ?_
  · exact hb_cons (show 0 ≤ mz_ev _ _ from (show 0 ≤ 0 + (1 * x4.toInt + 0) by omega)) (hb_cons (show 0 ≤ mz_ev _ _ from (show 0 ≤ 3 + ((-1) * x4.toInt + 0) by omega)) (hb_cons (show 0 ≤ mz_ev _ _ from (show 0 ≤ 0 + (1 * x7.toInt + 0) by omega)) (hb_cons (show 0 ≤ mz_ev _ _ from (show 0 ≤ 3 + ((-1) * x7.toInt + 0) by omega)) (hb_cons (show 0 ≤ mz_ev _ _ from (show 0 ≤ 0 + (1 * x3.toInt + 0) by omega)) (hb_cons (show 0 ≤ mz_ev _ _ from (show 0 ≤ 31 + ((-1) * x3.toInt + 0) by omega)) (hb_nil))))))
  · intro s hs
    rcases List.mem_cons.mp hs with rfl | hs
    · intro ρ1 L' st' M' g1 g2 gm gr gf gs gx gw g8 ge
      obtain ⟨e0, L1, rfl, n0, gg0⟩ := hb_l1 mz_GG g1
      obtain rfl : e0 = 234 := List.mem_singleton.mp n0
      obtain ⟨y1, L1, rfl, qr72, gg1⟩ := hb_l0 mz_GG gg0
      have r72 : ρ1 72 = y1.toInt := qr72
      obtain ⟨y2, L1, rfl, qr73, gg2⟩ := hb_l0 mz_GG gg1
      have r73 : ρ1 73 = y2.toInt := qr73
      obtain ⟨y3, L1, rfl, qr74, gg3⟩ := hb_l0 mz_GG gg2
      have r74 : ρ1 74 = y3.toInt := qr74
      obtain ⟨y4, L1, rfl, qr75, gg4⟩ := hb_l0 mz_GG gg3
      have r75 : ρ1 75 = y4.toInt := qr75
      obtain ⟨y5, L1, rfl, qr76, gg5⟩ := hb_l0 mz_GG gg4
      have r76 : ρ1 76 = y5.toInt := qr76
      obtain ⟨y6, L1, rfl, qr77, gg6⟩ := hb_l0 mz_GG gg5
      have r77 : ρ1 77 = y6.toInt := qr77
      obtain ⟨y7, L1, rfl, qr78, gg7⟩ := hb_l0 mz_GG gg6
      have r78 : ρ1 78 = y7.toInt := qr78
      obtain ⟨y8, L1, rfl, qr79, gg8⟩ := hb_l0 mz_GG gg7
      have r79 : ρ1 79 = y8.toInt := qr79
      obtain ⟨w9, L1, rfl, n9, gg9⟩ := hb_l3 mz_GG gg8
      obtain rfl := hb_ln mz_GG gg9
      obtain rfl := hb_pn mz_GG g2
      have r1 : ρ1 1 = x1.toInt := gr 1 (by decide +kernel)
      have r2 : ρ1 2 = x2.toInt := gr 2 (by decide +kernel)
      have r3 : ρ1 3 = x3.toInt := gr 3 (by decide +kernel)
      have r4 : ρ1 4 = x4.toInt := gr 4 (by decide +kernel)
      have r5 : ρ1 5 = x5.toInt := gr 5 (by decide +kernel)
      have r6 : ρ1 6 = x6.toInt := gr 6 (by decide +kernel)
      have r7 : ρ1 7 = x7.toInt := gr 7 (by decide +kernel)
      obtain ⟨f0, gf⟩ := hb_unc gf
      have f0 : 0 ≤ 0 + ((-1) * ρ1 1 + (1 * ρ1 72 + 0)) := f0
      rw [r1, r72] at f0
      obtain ⟨f1, gf⟩ := hb_unc gf
      have f1 : 0 ≤ 0 + (1 * ρ1 1 + ((-1) * ρ1 72 + 0)) := f1
      rw [r1, r72] at f1
      obtain ⟨f2, gf⟩ := hb_unc gf
      have f2 : 0 ≤ 0 + ((-1) * ρ1 2 + (1 * ρ1 73 + 0)) := f2
      rw [r2, r73] at f2
      obtain ⟨f3, gf⟩ := hb_unc gf
      have f3 : 0 ≤ 0 + (1 * ρ1 2 + ((-1) * ρ1 73 + 0)) := f3
      rw [r2, r73] at f3
      obtain ⟨f4, gf⟩ := hb_unc gf
      have f4 : 0 ≤ 0 + ((-1) * ρ1 3 + (1 * ρ1 74 + 0)) := f4
      rw [r3, r74] at f4
      obtain ⟨f5, gf⟩ := hb_unc gf
      have f5 : 0 ≤ 0 + (1 * ρ1 3 + ((-1) * ρ1 74 + 0)) := f5
      rw [r3, r74] at f5
      obtain ⟨f6, gf⟩ := hb_unc gf
      have f6 : 0 ≤ 0 + ((-1) * ρ1 4 + (1 * ρ1 75 + 0)) := f6
      rw [r4, r75] at f6
      obtain ⟨f7, gf⟩ := hb_unc gf
      have f7 : 0 ≤ 0 + (1 * ρ1 4 + ((-1) * ρ1 75 + 0)) := f7
      rw [r4, r75] at f7
      obtain ⟨f8, gf⟩ := hb_unc gf
      have f8 : 0 ≤ 0 + ((-1) * ρ1 5 + (1 * ρ1 76 + 0)) := f8
      rw [r5, r76] at f8
      obtain ⟨f9, gf⟩ := hb_unc gf
      have f9 : 0 ≤ 0 + (1 * ρ1 5 + ((-1) * ρ1 76 + 0)) := f9
      rw [r5, r76] at f9
      obtain ⟨f10, gf⟩ := hb_unc gf
      have f10 : 0 ≤ 0 + ((-1) * ρ1 6 + (1 * ρ1 77 + 0)) := f10
      rw [r6, r77] at f10
      obtain ⟨f11, gf⟩ := hb_unc gf
      have f11 : 0 ≤ 0 + (1 * ρ1 6 + ((-1) * ρ1 77 + 0)) := f11
      rw [r6, r77] at f11
      obtain ⟨f12, gf⟩ := hb_unc gf
      have f12 : 0 ≤ 0 + ((-1) * ρ1 7 + (1 * ρ1 78 + 0)) := f12
      rw [r7, r78] at f12
      obtain ⟨f13, gf⟩ := hb_unc gf
      have f13 : 0 ≤ 0 + (1 * ρ1 7 + ((-1) * ρ1 78 + 0)) := f13
      rw [r7, r78] at f13
      obtain ⟨f14, gf⟩ := hb_unc gf
      have f14 : 0 ≤ -1 + (1 * ρ1 79 + 0) := f14
      rw [r79] at f14
      obtain ⟨f15, gf⟩ := hb_unc gf
      have f15 : 0 ≤ 1 + ((-1) * ρ1 79 + 0) := f15
      rw [r79] at f15
      have hy1 : y1 = x1 := hb_inj f0 f1
      subst y1
      have hy2 : y2 = x2 := hb_inj f2 f3
      subst y2
      have hy3 : y3 = x3 := hb_inj f4 f5
      subst y3
      have hy4 : y4 = x4 := hb_inj f6 f7
      subst y4
      have hy5 : y5 = x5 := hb_inj f8 f9
      subst y5
      have hy6 : y6 = x6 := hb_inj f10 f11
      subst y6
      have hy7 : y7 = x7 := hb_inj f12 f13
      subst y7
      exact k0 M' y8 w9 gs gx gw g8 ge n9 (by have h1 := f14; have h2 := f15; omega)
    rcases List.mem_cons.mp hs with rfl | hs
    · intro ρ1 L' st' M' g1 g2 gm gr gf gs gx gw g8 ge
      obtain ⟨e0, L1, rfl, n0, gg0⟩ := hb_l1 mz_GG g1
      obtain rfl : e0 = 234 := List.mem_singleton.mp n0
      obtain ⟨y1, L1, rfl, qr72, gg1⟩ := hb_l0 mz_GG gg0
      have r72 : ρ1 72 = y1.toInt := qr72
      obtain ⟨y2, L1, rfl, qr73, gg2⟩ := hb_l0 mz_GG gg1
      have r73 : ρ1 73 = y2.toInt := qr73
      obtain ⟨y3, L1, rfl, qr74, gg3⟩ := hb_l0 mz_GG gg2
      have r74 : ρ1 74 = y3.toInt := qr74
      obtain ⟨y4, L1, rfl, qr75, gg4⟩ := hb_l0 mz_GG gg3
      have r75 : ρ1 75 = y4.toInt := qr75
      obtain ⟨y5, L1, rfl, qr76, gg5⟩ := hb_l0 mz_GG gg4
      have r76 : ρ1 76 = y5.toInt := qr76
      obtain ⟨y6, L1, rfl, qr77, gg6⟩ := hb_l0 mz_GG gg5
      have r77 : ρ1 77 = y6.toInt := qr77
      obtain ⟨y7, L1, rfl, qr78, gg7⟩ := hb_l0 mz_GG gg6
      have r78 : ρ1 78 = y7.toInt := qr78
      obtain ⟨w8, L1, rfl, n8, gg8⟩ := hb_l3 mz_GG gg7
      obtain ⟨w9, L1, rfl, n9, gg9⟩ := hb_l3 mz_GG gg8
      obtain rfl := hb_ln mz_GG gg9
      obtain rfl := hb_pn mz_GG g2
      have r1 : ρ1 1 = x1.toInt := gr 1 (by decide +kernel)
      have r2 : ρ1 2 = x2.toInt := gr 2 (by decide +kernel)
      have r3 : ρ1 3 = x3.toInt := gr 3 (by decide +kernel)
      have r4 : ρ1 4 = x4.toInt := gr 4 (by decide +kernel)
      have r5 : ρ1 5 = x5.toInt := gr 5 (by decide +kernel)
      have r6 : ρ1 6 = x6.toInt := gr 6 (by decide +kernel)
      have r7 : ρ1 7 = x7.toInt := gr 7 (by decide +kernel)
      obtain ⟨f0, gf⟩ := hb_unc gf
      have f0 : 0 ≤ 0 + ((-1) * ρ1 1 + (1 * ρ1 72 + 0)) := f0
      rw [r1, r72] at f0
      obtain ⟨f1, gf⟩ := hb_unc gf
      have f1 : 0 ≤ 0 + (1 * ρ1 1 + ((-1) * ρ1 72 + 0)) := f1
      rw [r1, r72] at f1
      obtain ⟨f2, gf⟩ := hb_unc gf
      have f2 : 0 ≤ 0 + ((-1) * ρ1 2 + (1 * ρ1 73 + 0)) := f2
      rw [r2, r73] at f2
      obtain ⟨f3, gf⟩ := hb_unc gf
      have f3 : 0 ≤ 0 + (1 * ρ1 2 + ((-1) * ρ1 73 + 0)) := f3
      rw [r2, r73] at f3
      obtain ⟨f4, gf⟩ := hb_unc gf
      have f4 : 0 ≤ 0 + ((-1) * ρ1 3 + (1 * ρ1 74 + 0)) := f4
      rw [r3, r74] at f4
      obtain ⟨f5, gf⟩ := hb_unc gf
      have f5 : 0 ≤ 0 + (1 * ρ1 3 + ((-1) * ρ1 74 + 0)) := f5
      rw [r3, r74] at f5
      obtain ⟨f6, gf⟩ := hb_unc gf
      have f6 : 0 ≤ 0 + ((-1) * ρ1 4 + (1 * ρ1 75 + 0)) := f6
      rw [r4, r75] at f6
      obtain ⟨f7, gf⟩ := hb_unc gf
      have f7 : 0 ≤ 0 + (1 * ρ1 4 + ((-1) * ρ1 75 + 0)) := f7
      rw [r4, r75] at f7
      obtain ⟨f8, gf⟩ := hb_unc gf
      have f8 : 0 ≤ 0 + ((-1) * ρ1 5 + (1 * ρ1 76 + 0)) := f8
      rw [r5, r76] at f8
      obtain ⟨f9, gf⟩ := hb_unc gf
      have f9 : 0 ≤ 0 + (1 * ρ1 5 + ((-1) * ρ1 76 + 0)) := f9
      rw [r5, r76] at f9
      obtain ⟨f10, gf⟩ := hb_unc gf
      have f10 : 0 ≤ 0 + ((-1) * ρ1 6 + (1 * ρ1 77 + 0)) := f10
      rw [r6, r77] at f10
      obtain ⟨f11, gf⟩ := hb_unc gf
      have f11 : 0 ≤ 0 + (1 * ρ1 6 + ((-1) * ρ1 77 + 0)) := f11
      rw [r6, r77] at f11
      obtain ⟨f12, gf⟩ := hb_unc gf
      have f12 : 0 ≤ 0 + ((-1) * ρ1 7 + (1 * ρ1 78 + 0)) := f12
      rw [r7, r78] at f12
      obtain ⟨f13, gf⟩ := hb_unc gf
      have f13 : 0 ≤ 0 + (1 * ρ1 7 + ((-1) * ρ1 78 + 0)) := f13
      rw [r7, r78] at f13
      have hy1 : y1 = x1 := hb_inj f0 f1
      subst y1
      have hy2 : y2 = x2 := hb_inj f2 f3
      subst y2
      have hy3 : y3 = x3 := hb_inj f4 f5
      subst y3
      have hy4 : y4 = x4 := hb_inj f6 f7
      subst y4
      have hy5 : y5 = x5 := hb_inj f8 f9
      subst y5
      have hy6 : y6 = x6 := hb_inj f10 f11
      subst y6
      have hy7 : y7 = x7 := hb_inj f12 f13
      subst y7
      exact k1 M' w8 w9 gs gx gw g8 ge n8 n9 
    cases hs
  · intro r S hpo
    obtain ⟨b1, b2, b3, b4, b5, p, hp, res, hf, hre⟩ := hpo
    cases hp

def hm_tb_q : mz_Q := (152, [(1, 234), (0, 0), (0, 0), (0, 0), (0, 0), (0, 0), (0, 0), (3, 0), (3, 0), (3, 0)], [(0, [(2, 1)]), (3, [(2, -1)]), (0, [(3, 1)]), (31, [(3, -1)])], [], [], [])
def hm_tb_s : List mz_Sp2 := [(107, [(1, 234), (0, 0), (0, 0), (0, 0), (0, 0), (0, 0), (0, 0), (3, 0), (3, 0), (3, 0)], [], [(0, [(1, -1), (72, 1)]), (0, [(1, 1), (72, -1)]), (0, [(2, -1), (73, 1)]), (0, [(2, 1), (73, -1)]), (0, [(3, -1), (74, 1)]), (0, [(3, 1), (74, -1)]), (0, [(4, -1), (75, 1)]), (0, [(4, 1), (75, -1)]), (0, [(5, -1), (76, 1)]), (0, [(5, 1), (76, -1)]), (0, [(2, 32), (3, 1), (77, -8)]), (7, [(2, -32), (3, -1), (77, 8)])])]
def hm_tb_h : List mz_H := [(0, 0, []), (0, 0, [(0, 4)]), (0, 0, [(1, 4)]), (1, 0, []), (0, 0, [(2, 1)]), (0, 0, []), (0, 7, [(0, 1), (4, 32), (6, 1)]), (0, 7, [(1, 1), (5, 32), (7, 1)]), (0, 0, []), (0, 0, []), (0, 0, []), (0, 0, []), (0, 0, []), (0, 0, []), (0, 0, []), (0, 0, []), (0, 0, []), (0, 0, []), (0, 0, []), (0, 0, [(1, 1)]), (0, 0, [(0, 1)])]
set_option maxRecDepth 100000 in
theorem hm_tb_c : mz_blk mz_GG mq_PP mz_Cs hm_tb_q 10 1 97 hm_tb_s [] 14 hm_tb_h = true := by decide +kernel
theorem hm_tb {X : (Nat → mq_C) → Prop} (hX : ∀ M M' : Nat → mq_C, mz_same mz_GG M M' → X M → X M') (hC : ∀ c ∈ mz_Cs, c.2 < 1 → mz_Ct mz_GG mq_PP X c.1 c.2) {d z u : Nat} {M : Nat → mq_C} {Q : (Option Value ⊕ Nat) → mq_S → Prop} {x1 : Int32} {x2 : Int32} {x3 : Int32} {x4 : Int32} {x5 : Int32} {x6 : Int32} {o7 : Option Value} {o8 : Option Value} {o9 : Option Value} (hd : 1 ≤ d) (hz : 272 ≤ z) (hm : mz_sh mz_GG M) (hx : X M) (h0 : mq_nl o7 = true) (h1 : mq_nl o8 = true) (h2 : mq_nl o9 = true) (p0 : 0 ≤ x2.toInt) (p1 : 0 ≤ 3 - x2.toInt) (p2 : 0 ≤ x3.toInt) (p3 : 0 ≤ 31 - x3.toInt)
    (k0 : ∀ (M' : Nat → mq_C) (y6 : Int32) (w7 : Option Value) (w8 : Option Value) (w9 : Option Value), mz_sh mz_GG M' → X M' → mz_fr hm_tb_q M M' → (∀ a, a < 8 → M' a = M a) → hb_same mz_GG hm_tb_q M M' → mq_nl w7 = true → mq_nl w8 = true → mq_nl w9 = true → 0 ≤ 32 * x2.toInt + x3.toInt - 8 * y6.toInt → 0 ≤ 7 - 32 * x2.toInt - x3.toInt + 8 * y6.toInt → mq_R mq_PP d 152 107 [some (.ref 234), some (.int x1), some (.int x2), some (.int x3), some (.int x4), some (.int x5), some (.int y6), w7, w8, w9] [] (M', z, u) Q) : mq_R mq_PP d 152 97 [some (.ref 234), some (.int x1), some (.int x2), some (.int x3), some (.int x4), some (.int x5), some (.int x6), o7, o8, o9] [] (M, z, u) Q := by
  refine hb_blk mz_GG mq_PP X (q := hm_tb_q) (nl := 10) (M := M) hb_okG hX hC hm_tb_c hz hd (L := [some (.ref 234), some (.int x1), some (.int x2), some (.int x3), some (.int x4), some (.int x5), some (.int x6), o7, o8, o9]) (st := []) (show hb_lk mz_GG ([(1, 234), (0, 0), (0, 0), (0, 0), (0, 0), (0, 0), (0, 0), (3, 0), (3, 0), (3, 0)]) _ from ⟨⟨List.mem_singleton.mpr rfl, rfl⟩, trivial, trivial, trivial, trivial, trivial, trivial, h0, h1, h2, trivial⟩) (show hb_pk mz_GG ([]) _ from trivial) hm hx ?_ ?_ ?_
  · exact hb_cons (show 0 ≤ mz_ev _ _ from (show 0 ≤ 0 + (1 * x2.toInt + 0) by omega)) (hb_cons (show 0 ≤ mz_ev _ _ from (show 0 ≤ 3 + ((-1) * x2.toInt + 0) by omega)) (hb_cons (show 0 ≤ mz_ev _ _ from (show 0 ≤ 0 + (1 * x3.toInt + 0) by omega)) (hb_cons (show 0 ≤ mz_ev _ _ from (show 0 ≤ 31 + ((-1) * x3.toInt + 0) by omega)) (hb_nil))))
  · intro s hs
    rcases List.mem_cons.mp hs with rfl | hs
    · intro ρ1 L' st' M' g1 g2 gm gr gf gs gx gw g8 ge
      obtain ⟨e0, L1, rfl, n0, gg0⟩ := hb_l1 mz_GG g1
      obtain rfl : e0 = 234 := List.mem_singleton.mp n0
      obtain ⟨y1, L1, rfl, qr72, gg1⟩ := hb_l0 mz_GG gg0
      have r72 : ρ1 72 = y1.toInt := qr72
      obtain ⟨y2, L1, rfl, qr73, gg2⟩ := hb_l0 mz_GG gg1
      have r73 : ρ1 73 = y2.toInt := qr73
      obtain ⟨y3, L1, rfl, qr74, gg3⟩ := hb_l0 mz_GG gg2
      have r74 : ρ1 74 = y3.toInt := qr74
      obtain ⟨y4, L1, rfl, qr75, gg4⟩ := hb_l0 mz_GG gg3
      have r75 : ρ1 75 = y4.toInt := qr75
      obtain ⟨y5, L1, rfl, qr76, gg5⟩ := hb_l0 mz_GG gg4
      have r76 : ρ1 76 = y5.toInt := qr76
      obtain ⟨y6, L1, rfl, qr77, gg6⟩ := hb_l0 mz_GG gg5
      have r77 : ρ1 77 = y6.toInt := qr77
      obtain ⟨w7, L1, rfl, n7, gg7⟩ := hb_l3 mz_GG gg6
      obtain ⟨w8, L1, rfl, n8, gg8⟩ := hb_l3 mz_GG gg7
      obtain ⟨w9, L1, rfl, n9, gg9⟩ := hb_l3 mz_GG gg8
      obtain rfl := hb_ln mz_GG gg9
      obtain rfl := hb_pn mz_GG g2
      have r1 : ρ1 1 = x1.toInt := gr 1 (by decide +kernel)
      have r2 : ρ1 2 = x2.toInt := gr 2 (by decide +kernel)
      have r3 : ρ1 3 = x3.toInt := gr 3 (by decide +kernel)
      have r4 : ρ1 4 = x4.toInt := gr 4 (by decide +kernel)
      have r5 : ρ1 5 = x5.toInt := gr 5 (by decide +kernel)
      obtain ⟨f0, gf⟩ := hb_unc gf
      have f0 : 0 ≤ 0 + ((-1) * ρ1 1 + (1 * ρ1 72 + 0)) := f0
      rw [r1, r72] at f0
      obtain ⟨f1, gf⟩ := hb_unc gf
      have f1 : 0 ≤ 0 + (1 * ρ1 1 + ((-1) * ρ1 72 + 0)) := f1
      rw [r1, r72] at f1
      obtain ⟨f2, gf⟩ := hb_unc gf
      have f2 : 0 ≤ 0 + ((-1) * ρ1 2 + (1 * ρ1 73 + 0)) := f2
      rw [r2, r73] at f2
      obtain ⟨f3, gf⟩ := hb_unc gf
      have f3 : 0 ≤ 0 + (1 * ρ1 2 + ((-1) * ρ1 73 + 0)) := f3
      rw [r2, r73] at f3
      obtain ⟨f4, gf⟩ := hb_unc gf
      have f4 : 0 ≤ 0 + ((-1) * ρ1 3 + (1 * ρ1 74 + 0)) := f4
      rw [r3, r74] at f4
      obtain ⟨f5, gf⟩ := hb_unc gf
      have f5 : 0 ≤ 0 + (1 * ρ1 3 + ((-1) * ρ1 74 + 0)) := f5
      rw [r3, r74] at f5
      obtain ⟨f6, gf⟩ := hb_unc gf
      have f6 : 0 ≤ 0 + ((-1) * ρ1 4 + (1 * ρ1 75 + 0)) := f6
      rw [r4, r75] at f6
      obtain ⟨f7, gf⟩ := hb_unc gf
      have f7 : 0 ≤ 0 + (1 * ρ1 4 + ((-1) * ρ1 75 + 0)) := f7
      rw [r4, r75] at f7
      obtain ⟨f8, gf⟩ := hb_unc gf
      have f8 : 0 ≤ 0 + ((-1) * ρ1 5 + (1 * ρ1 76 + 0)) := f8
      rw [r5, r76] at f8
      obtain ⟨f9, gf⟩ := hb_unc gf
      have f9 : 0 ≤ 0 + (1 * ρ1 5 + ((-1) * ρ1 76 + 0)) := f9
      rw [r5, r76] at f9
      obtain ⟨f10, gf⟩ := hb_unc gf
      have f10 : 0 ≤ 0 + (32 * ρ1 2 + (1 * ρ1 3 + ((-8) * ρ1 77 + 0))) := f10
      rw [r2, r3, r77] at f10
      obtain ⟨f11, gf⟩ := hb_unc gf
      have f11 : 0 ≤ 7 + ((-32) * ρ1 2 + ((-1) * ρ1 3 + (8 * ρ1 77 + 0))) := f11
      rw [r2, r3, r77] at f11
      have hy1 : y1 = x1 := hb_inj f0 f1
      subst y1
      have hy2 : y2 = x2 := hb_inj f2 f3
      subst y2
      have hy3 : y3 = x3 := hb_inj f4 f5
      subst y3
      have hy4 : y4 = x4 := hb_inj f6 f7
      subst y4
      have hy5 : y5 = x5 := hb_inj f8 f9
      subst y5
      exact k0 M' y6 w7 w8 w9 gs gx gw g8 ge n7 n8 n9 (by have h1 := f10; omega) (by have h1 := f11; omega)
    cases hs
  · intro r S hpo
    obtain ⟨b1, b2, b3, b4, b5, p, hp, res, hf, hre⟩ := hpo
    cases hp

theorem hm_t176 {o8 o9 : Option Value} (h8 : mq_nl o8 = true) (h9 : mq_nl o9 = true) {d z u j k n : Nat} {Q : (Option Value ⊕ Nat) → mq_S → Prop} {M Mc : Nat → mq_C} {x1 x2 x3 x4 x5 x6 x7 r : Int32} (hC : ∀ c ∈ mz_Cs, c.2 < 14 → mz_Ct mz_GG mq_PP HX c.1 c.2) (hd : 10 ≤ d) (hz : 272 ≤ z) (hc : hm_C j k M Mc) (hj1 : j < 139) (p1 : x1.toInt = 12 * (j : Int)) (hk : hv M 267 (12 * j) = (k : Int)) (hn : hv M 267 (12 * j + 1) = (n : Int)) (hk4 : k < 4) (hn32 : n < 32) (hdf : hv M 261 (32 * k + n) = -1) (hu : hm_bit (hv M 262 k) n = false) (q2 : x2.toInt = (k : Int)) (q3 : x3.toInt = (n : Int)) (q4 : 0 ≤ x4.toInt) (q4' : x4.toInt ≤ 3) (q5 : 0 ≤ x5.toInt) (q5' : x5.toInt < hv Mc 238 x4.toInt.toNat) (q7 : 0 ≤ x7.toInt) (q7' : x7.toInt ≤ 3)
    (KF : ∀ M' : Nat → mq_C, mz_sh mz_GG M' → HX M' → hm_rel k j M M' → hv M' 234 48 = (j : Int) → hm_w M' → Q (.inl none) (M', z, u))
    (KA : ∀ M' : Nat → mq_C, mz_sh mz_GG M' → HX M' → hm_T j k n M M' → hm_N j M M' → Q (.inl none) (M', z, u)) : mq_R mq_PP (d + 2) 152 176 [some (.ref 234), some (.int x1), some (.int x2), some (.int x3), some (.int x4), some (.int x5), some (.int x6), some (.int x7), o8, o9] [.int r] (Mc, z, u) Q := by
  obtain ⟨hm, hx, hR, hj, hf7, hf1⟩ := id hc
  refine hm_td HX_same hb_C1 (by omega) hz hm hx h8 h9 (by omega) (by omega) (by omega) (by omega) ?_ ?_ ?_
  · intro M2 y8 w9 gs gx gw g8 ge hw9
    intros
    have hc2 : hm_C j k M M2 := hm_Cf (q' := hm_td_q) hc gs gx gw g8 ge (hb_vc (gw 234 (by decide) (by decide)) 48) (by decide) (by decide) (by decide)
    exact hm_t219 hC hd hz hc2 hj1 p1 hk hn hk4 hn32 hdf hu q2 q3 q4 q4' q5 (by rw [hb_vc (gw 238 (by decide) (by decide))]; exact q5') KF KA
  · intro M2 y8 w9 gs gx gw g8 ge hw9
    intros
    have hc2 : hm_C j k M M2 := hm_Cf (q' := hm_td_q) hc gs gx gw g8 ge (hb_vc (gw 234 (by decide) (by decide)) 48) (by decide) (by decide) (by decide)
    exact hm_t219 hC hd hz hc2 hj1 p1 hk hn hk4 hn32 hdf hu q2 q3 q4 q4' q5 (by rw [hb_vc (gw 238 (by decide) (by decide))]; exact q5') KF KA
  · intro M2 y8 w9 gs gx gw g8 ge hw9
    intros
    have hc2 : hm_C j k M M2 := hm_Cf (q' := hm_td_q) hc gs gx gw g8 ge (hb_vc (gw 234 (by decide) (by decide)) 48) (by decide) (by decide) (by decide)
    exact hm_t209 hC hd hz hc2 hj1 p1 hk hn hk4 hn32 hdf hu q2 q3 KF KA
theorem hm_t170_0 {o8 o9 : Option Value} (h8 : mq_nl o8 = true) (h9 : mq_nl o9 = true) {d z u j k n : Nat} {Q : (Option Value ⊕ Nat) → mq_S → Prop} {M Mc : Nat → mq_C} {x1 x2 x3 x4 x5 x6 x7 : Int32} (hC : ∀ c ∈ mz_Cs, c.2 < 14 → mz_Ct mz_GG mq_PP HX c.1 c.2) (hd : 10 ≤ d) (hz : 272 ≤ z) (hc : hm_C j k M Mc) (hj1 : j < 139) (p1 : x1.toInt = 12 * (j : Int)) (hk : hv M 267 (12 * j) = (k : Int)) (hn : hv M 267 (12 * j + 1) = (n : Int)) (hk4 : k < 4) (hn32 : n < 32) (hdf : hv M 261 (32 * k + n) = -1) (hu : hm_bit (hv M 262 k) n = false) (q2 : x2.toInt = (k : Int)) (q3 : x3.toInt = (n : Int)) (q4 : 0 ≤ x4.toInt) (q4' : x4.toInt ≤ 3) (q5 : 0 ≤ x5.toInt) (q5' : x5.toInt < hv Mc 238 x4.toInt.toNat) (q7 : x7.toInt = 0) (q74 : ¬ x7.toInt = x4.toInt)
    (KF : ∀ M' : Nat → mq_C, mz_sh mz_GG M' → HX M' → hm_rel k j M M' → hv M' 234 48 = (j : Int) → hm_w M' → Q (.inl none) (M', z, u))
    (KA : ∀ M' : Nat → mq_C, mz_sh mz_GG M' → HX M' → hm_T j k n M M' → hm_N j M M' → Q (.inl none) (M', z, u)) : mq_R mq_PP (d + 2) 152 170 [some (.ref 234), some (.int x1), some (.int x2), some (.int x3), some (.int x4), some (.int x5), some (.int x6), some (.int x7), o8, o9] [] (Mc, z, u) Q := by
  obtain ⟨hm, hx, hR, hj, hf7, hf1⟩ := id hc
  refine he_aload (n := 171) (i := 0) (by decide +kernel) rfl ?_
  refine he_iload (n := 173) (i := 7) (by decide +kernel) rfl ?_
  refine he_v1 (n := 176) (j := 138) (ci := 9) (mx := 3) (ns := [6030, 6032, 74, 250]) (by decide +kernel) ((hb_kd (a := 234) hm rfl).trans rfl) (by decide) (by show 2 ≤ 3; omega) ?_
  rw [mq_e138]
  refine hz_R hz_model (by decide) hm ?_
  refine hu_isReadable0 (hC (mz_q148, 9) (List.mem_of_getElem? (show mz_Cs[148]? = _ from rfl)) (by decide)) (by omega) hz hm hx (by omega) (by omega) ?_
  intro Mu ru hmu hxu kf1 kf2 kf3 l1 l2 hdp
  have hcu : hm_C j k M Mu := hm_Cf (q' := mz_q148) hc hmu hxu kf1 kf2 kf3 hdp (by decide) (by decide) (by decide)
  have hr : hv Mu 238 x4.toInt.toNat = hv Mc 238 x4.toInt.toNat := by
    have h4 : x4.toInt.toNat = 1 ∨ x4.toInt.toNat = 2 ∨ x4.toInt.toNat = 3 := by omega
    rcases h4 with e | e | e
    · rw [e]
      exact kf3 50 (238, 1) rfl rfl
    · rw [e]
      exact kf3 54 (238, 2) rfl rfl
    · rw [e]
      exact kf3 58 (238, 3) rfl rfl
  show mq_R mq_PP (d + 2) 152 176 _ [.int ru] (Mu, z, u) Q
  exact hm_t176 h8 h9 hC hd hz hcu hj1 p1 hk hn hk4 hn32 hdf hu q2 q3 q4 q4' q5 (by rw [hr]; exact q5') (by omega) (by omega) KF KA
theorem hm_t170_1 {o8 o9 : Option Value} (h8 : mq_nl o8 = true) (h9 : mq_nl o9 = true) {d z u j k n : Nat} {Q : (Option Value ⊕ Nat) → mq_S → Prop} {M Mc : Nat → mq_C} {x1 x2 x3 x4 x5 x6 x7 : Int32} (hC : ∀ c ∈ mz_Cs, c.2 < 14 → mz_Ct mz_GG mq_PP HX c.1 c.2) (hd : 10 ≤ d) (hz : 272 ≤ z) (hc : hm_C j k M Mc) (hj1 : j < 139) (p1 : x1.toInt = 12 * (j : Int)) (hk : hv M 267 (12 * j) = (k : Int)) (hn : hv M 267 (12 * j + 1) = (n : Int)) (hk4 : k < 4) (hn32 : n < 32) (hdf : hv M 261 (32 * k + n) = -1) (hu : hm_bit (hv M 262 k) n = false) (q2 : x2.toInt = (k : Int)) (q3 : x3.toInt = (n : Int)) (q4 : 0 ≤ x4.toInt) (q4' : x4.toInt ≤ 3) (q5 : 0 ≤ x5.toInt) (q5' : x5.toInt < hv Mc 238 x4.toInt.toNat) (q7 : x7.toInt = 1) (q74 : ¬ x7.toInt = x4.toInt)
    (KF : ∀ M' : Nat → mq_C, mz_sh mz_GG M' → HX M' → hm_rel k j M M' → hv M' 234 48 = (j : Int) → hm_w M' → Q (.inl none) (M', z, u))
    (KA : ∀ M' : Nat → mq_C, mz_sh mz_GG M' → HX M' → hm_T j k n M M' → hm_N j M M' → Q (.inl none) (M', z, u)) : mq_R mq_PP (d + 2) 152 170 [some (.ref 234), some (.int x1), some (.int x2), some (.int x3), some (.int x4), some (.int x5), some (.int x6), some (.int x7), o8, o9] [] (Mc, z, u) Q := by
  obtain ⟨hm, hx, hR, hj, hf7, hf1⟩ := id hc
  refine he_aload (n := 171) (i := 0) (by decide +kernel) rfl ?_
  refine he_iload (n := 173) (i := 7) (by decide +kernel) rfl ?_
  refine he_v1 (n := 176) (j := 138) (ci := 9) (mx := 3) (ns := [6030, 6032, 74, 250]) (by decide +kernel) ((hb_kd (a := 234) hm rfl).trans rfl) (by decide) (by show 2 ≤ 3; omega) ?_
  rw [mq_e138]
  refine hz_R hz_model (by decide) hm ?_
  refine hu_isReadable1 (hC (mz_q155, 9) (List.mem_of_getElem? (show mz_Cs[155]? = _ from rfl)) (by decide)) (by omega) hz hm hx (by omega) (by omega) ?_
  intro Mu ru hmu hxu kf1 kf2 kf3 l1 l2 hdp
  have hcu : hm_C j k M Mu := hm_Cf (q' := mz_q155) hc hmu hxu kf1 kf2 kf3 hdp (by decide) (by decide) (by decide)
  have hr : hv Mu 238 x4.toInt.toNat = hv Mc 238 x4.toInt.toNat := by
    have h4 : x4.toInt.toNat = 0 ∨ x4.toInt.toNat = 2 ∨ x4.toInt.toNat = 3 := by omega
    rcases h4 with e | e | e
    · rw [e]
      exact kf3 46 (238, 0) rfl rfl
    · rw [e]
      exact kf3 54 (238, 2) rfl rfl
    · rw [e]
      exact kf3 58 (238, 3) rfl rfl
  show mq_R mq_PP (d + 2) 152 176 _ [.int ru] (Mu, z, u) Q
  exact hm_t176 h8 h9 hC hd hz hcu hj1 p1 hk hn hk4 hn32 hdf hu q2 q3 q4 q4' q5 (by rw [hr]; exact q5') (by omega) (by omega) KF KA
theorem hm_t170_2 {o8 o9 : Option Value} (h8 : mq_nl o8 = true) (h9 : mq_nl o9 = true) {d z u j k n : Nat} {Q : (Option Value ⊕ Nat) → mq_S → Prop} {M Mc : Nat → mq_C} {x1 x2 x3 x4 x5 x6 x7 : Int32} (hC : ∀ c ∈ mz_Cs, c.2 < 14 → mz_Ct mz_GG mq_PP HX c.1 c.2) (hd : 10 ≤ d) (hz : 272 ≤ z) (hc : hm_C j k M Mc) (hj1 : j < 139) (p1 : x1.toInt = 12 * (j : Int)) (hk : hv M 267 (12 * j) = (k : Int)) (hn : hv M 267 (12 * j + 1) = (n : Int)) (hk4 : k < 4) (hn32 : n < 32) (hdf : hv M 261 (32 * k + n) = -1) (hu : hm_bit (hv M 262 k) n = false) (q2 : x2.toInt = (k : Int)) (q3 : x3.toInt = (n : Int)) (q4 : 0 ≤ x4.toInt) (q4' : x4.toInt ≤ 3) (q5 : 0 ≤ x5.toInt) (q5' : x5.toInt < hv Mc 238 x4.toInt.toNat) (q7 : x7.toInt = 2) (q74 : ¬ x7.toInt = x4.toInt)
    (KF : ∀ M' : Nat → mq_C, mz_sh mz_GG M' → HX M' → hm_rel k j M M' → hv M' 234 48 = (j : Int) → hm_w M' → Q (.inl none) (M', z, u))
    (KA : ∀ M' : Nat → mq_C, mz_sh mz_GG M' → HX M' → hm_T j k n M M' → hm_N j M M' → Q (.inl none) (M', z, u)) : mq_R mq_PP (d + 2) 152 170 [some (.ref 234), some (.int x1), some (.int x2), some (.int x3), some (.int x4), some (.int x5), some (.int x6), some (.int x7), o8, o9] [] (Mc, z, u) Q := by
  obtain ⟨hm, hx, hR, hj, hf7, hf1⟩ := id hc
  refine he_aload (n := 171) (i := 0) (by decide +kernel) rfl ?_
  refine he_iload (n := 173) (i := 7) (by decide +kernel) rfl ?_
  refine he_v1 (n := 176) (j := 138) (ci := 9) (mx := 3) (ns := [6030, 6032, 74, 250]) (by decide +kernel) ((hb_kd (a := 234) hm rfl).trans rfl) (by decide) (by show 2 ≤ 3; omega) ?_
  rw [mq_e138]
  refine hz_R hz_model (by decide) hm ?_
  refine hu_isReadable2 (hC (mz_q162, 9) (List.mem_of_getElem? (show mz_Cs[162]? = _ from rfl)) (by decide)) (by omega) hz hm hx (by omega) (by omega) ?_
  intro Mu ru hmu hxu kf1 kf2 kf3 l1 l2 hdp
  have hcu : hm_C j k M Mu := hm_Cf (q' := mz_q162) hc hmu hxu kf1 kf2 kf3 hdp (by decide) (by decide) (by decide)
  have hr : hv Mu 238 x4.toInt.toNat = hv Mc 238 x4.toInt.toNat := by
    have h4 : x4.toInt.toNat = 0 ∨ x4.toInt.toNat = 1 ∨ x4.toInt.toNat = 3 := by omega
    rcases h4 with e | e | e
    · rw [e]
      exact kf3 46 (238, 0) rfl rfl
    · rw [e]
      exact kf3 50 (238, 1) rfl rfl
    · rw [e]
      exact kf3 58 (238, 3) rfl rfl
  show mq_R mq_PP (d + 2) 152 176 _ [.int ru] (Mu, z, u) Q
  exact hm_t176 h8 h9 hC hd hz hcu hj1 p1 hk hn hk4 hn32 hdf hu q2 q3 q4 q4' q5 (by rw [hr]; exact q5') (by omega) (by omega) KF KA
theorem hm_t170_3 {o8 o9 : Option Value} (h8 : mq_nl o8 = true) (h9 : mq_nl o9 = true) {d z u j k n : Nat} {Q : (Option Value ⊕ Nat) → mq_S → Prop} {M Mc : Nat → mq_C} {x1 x2 x3 x4 x5 x6 x7 : Int32} (hC : ∀ c ∈ mz_Cs, c.2 < 14 → mz_Ct mz_GG mq_PP HX c.1 c.2) (hd : 10 ≤ d) (hz : 272 ≤ z) (hc : hm_C j k M Mc) (hj1 : j < 139) (p1 : x1.toInt = 12 * (j : Int)) (hk : hv M 267 (12 * j) = (k : Int)) (hn : hv M 267 (12 * j + 1) = (n : Int)) (hk4 : k < 4) (hn32 : n < 32) (hdf : hv M 261 (32 * k + n) = -1) (hu : hm_bit (hv M 262 k) n = false) (q2 : x2.toInt = (k : Int)) (q3 : x3.toInt = (n : Int)) (q4 : 0 ≤ x4.toInt) (q4' : x4.toInt ≤ 3) (q5 : 0 ≤ x5.toInt) (q5' : x5.toInt < hv Mc 238 x4.toInt.toNat) (q7 : x7.toInt = 3) (q74 : ¬ x7.toInt = x4.toInt)
    (KF : ∀ M' : Nat → mq_C, mz_sh mz_GG M' → HX M' → hm_rel k j M M' → hv M' 234 48 = (j : Int) → hm_w M' → Q (.inl none) (M', z, u))
    (KA : ∀ M' : Nat → mq_C, mz_sh mz_GG M' → HX M' → hm_T j k n M M' → hm_N j M M' → Q (.inl none) (M', z, u)) : mq_R mq_PP (d + 2) 152 170 [some (.ref 234), some (.int x1), some (.int x2), some (.int x3), some (.int x4), some (.int x5), some (.int x6), some (.int x7), o8, o9] [] (Mc, z, u) Q := by
  obtain ⟨hm, hx, hR, hj, hf7, hf1⟩ := id hc
  refine he_aload (n := 171) (i := 0) (by decide +kernel) rfl ?_
  refine he_iload (n := 173) (i := 7) (by decide +kernel) rfl ?_
  refine he_v1 (n := 176) (j := 138) (ci := 9) (mx := 3) (ns := [6030, 6032, 74, 250]) (by decide +kernel) ((hb_kd (a := 234) hm rfl).trans rfl) (by decide) (by show 2 ≤ 3; omega) ?_
  rw [mq_e138]
  refine hz_R hz_model (by decide) hm ?_
  refine hu_isReadable3 (hC (mz_q169, 9) (List.mem_of_getElem? (show mz_Cs[169]? = _ from rfl)) (by decide)) (by omega) hz hm hx (by omega) (by omega) ?_
  intro Mu ru hmu hxu kf1 kf2 kf3 l1 l2 hdp
  have hcu : hm_C j k M Mu := hm_Cf (q' := mz_q169) hc hmu hxu kf1 kf2 kf3 hdp (by decide) (by decide) (by decide)
  have hr : hv Mu 238 x4.toInt.toNat = hv Mc 238 x4.toInt.toNat := by
    have h4 : x4.toInt.toNat = 0 ∨ x4.toInt.toNat = 1 ∨ x4.toInt.toNat = 2 := by omega
    rcases h4 with e | e | e
    · rw [e]
      exact kf3 46 (238, 0) rfl rfl
    · rw [e]
      exact kf3 50 (238, 1) rfl rfl
    · rw [e]
      exact kf3 54 (238, 2) rfl rfl
  show mq_R mq_PP (d + 2) 152 176 _ [.int ru] (Mu, z, u) Q
  exact hm_t176 h8 h9 hC hd hz hcu hj1 p1 hk hn hk4 hn32 hdf hu q2 q3 q4 q4' q5 (by rw [hr]; exact q5') (by omega) (by omega) KF KA
theorem hm_t152 {o8 o9 : Option Value} (h8 : mq_nl o8 = true) (h9 : mq_nl o9 = true) {d z u j k n : Nat} {Q : (Option Value ⊕ Nat) → mq_S → Prop} {M Mc : Nat → mq_C} {x1 x2 x3 x4 x5 x6 x7 : Int32} (hC : ∀ c ∈ mz_Cs, c.2 < 14 → mz_Ct mz_GG mq_PP HX c.1 c.2) (hd : 10 ≤ d) (hz : 272 ≤ z) (hc : hm_C j k M Mc) (hj1 : j < 139) (p1 : x1.toInt = 12 * (j : Int)) (hk : hv M 267 (12 * j) = (k : Int)) (hn : hv M 267 (12 * j + 1) = (n : Int)) (hk4 : k < 4) (hn32 : n < 32) (hdf : hv M 261 (32 * k + n) = -1) (hu : hm_bit (hv M 262 k) n = false) (q2 : x2.toInt = (k : Int)) (q3 : x3.toInt = (n : Int)) (q4 : 0 ≤ x4.toInt) (q4' : x4.toInt ≤ 3) (q5 : 0 ≤ x5.toInt) (q5' : x5.toInt < hv Mc 238 x4.toInt.toNat) (q7 : 0 ≤ x7.toInt) (q7' : x7.toInt ≤ 3) (q74 : ¬ x7.toInt = x4.toInt)
    (KF : ∀ M' : Nat → mq_C, mz_sh mz_GG M' → HX M' → hm_rel k j M M' → hv M' 234 48 = (j : Int) → hm_w M' → Q (.inl none) (M', z, u))
    (KA : ∀ M' : Nat → mq_C, mz_sh mz_GG M' → HX M' → hm_T j k n M M' → hm_N j M M' → Q (.inl none) (M', z, u)) : mq_R mq_PP (d + 2) 152 152 [some (.ref 234), some (.int x1), some (.int x2), some (.int x3), some (.int x4), some (.int x5), some (.int x6), some (.int x7), o8, o9] [] (Mc, z, u) Q := by
  obtain ⟨hm, hx, hR, hj, hf7, hf1⟩ := id hc
  refine hm_tc HX_same hb_C1 (by omega) hz hm hx h8 h9 (by omega) (by omega) (by omega) (by omega) (by omega) (by omega) ?_ ?_
  · intro M2 y8 w9 gs gx gw g8 ge hw9
    intros
    have hc2 : hm_C j k M M2 := hm_Cf (q' := hm_tc_q) hc gs gx gw g8 ge (hb_vc (gw 234 (by decide) (by decide)) 48) (by decide) (by decide) (by decide)
    exact hm_t209 hC hd hz hc2 hj1 p1 hk hn hk4 hn32 hdf hu q2 q3 KF KA
  · intro M2 w8 w9 gs gx gw g8 ge hw8 hw9
    intros
    have hc2 : hm_C j k M M2 := hm_Cf (q' := hm_tc_q) hc gs gx gw g8 ge (hb_vc (gw 234 (by decide) (by decide)) 48) (by decide) (by decide) (by decide)
    have q5b : x5.toInt < hv M2 238 x4.toInt.toNat := by rw [hb_vc (gw 238 (by decide) (by decide))]; exact q5'
    have h7 : x7.toInt = 0 ∨ x7.toInt = 1 ∨ x7.toInt = 2 ∨ x7.toInt = 3 := by omega
    rcases h7 with h7 | h7 | h7 | h7
    · exact hm_t170_0 hw8 hw9 hC hd hz hc2 hj1 p1 hk hn hk4 hn32 hdf hu q2 q3 q4 q4' q5 q5b h7 q74 KF KA
    · exact hm_t170_1 hw8 hw9 hC hd hz hc2 hj1 p1 hk hn hk4 hn32 hdf hu q2 q3 q4 q4' q5 q5b h7 q74 KF KA
    · exact hm_t170_2 hw8 hw9 hC hd hz hc2 hj1 p1 hk hn hk4 hn32 hdf hu q2 q3 q4 q4' q5 q5b h7 q74 KF KA
    · exact hm_t170_3 hw8 hw9 hC hd hz hc2 hj1 p1 hk hn hk4 hn32 hdf hu q2 q3 q4 q4' q5 q5b h7 q74 KF KA
theorem hm_Cs {j k i : Nat} {v : Int32} {M Mc M1 : Nat → mq_C} (h : hm_C j k M Mc) (hm1 : mz_sh mz_GG M1) (hs : hb_set Mc 263 i v = M1) : hm_C j k M M1 := by
  obtain ⟨a1, a2, a3, a4, a5, a6⟩ := h
  have w1 : ∀ b, b ≠ 263 → M1 b = Mc b := by intro b hb; rw [← hs]; exact hb_set_c hb
  have hS : hm_S Mc M1 := by
    refine ⟨fun a _ hw => w1 a ?_, fun a ha => w1 a (by omega), ?_⟩
    · rintro rfl
      cases hw
    · refine hb_same_of (fun t => decide (t.1 ≠ 263)) ?_ (by decide +kernel)
      intro t ht
      exact hb_vc (w1 _ (of_decide_eq_true ht)) _
  refine ⟨hm1, fun t => by rw [← hs]; exact hxk_s (hm_sp t _ _ (by omega)) (a2 t), hm_relt (Nat.le_refl _) (Nat.le_refl _) a3 ⟨hS, fun i => hb_vc (w1 262 (by decide)) i, fun c n _ _ _ => hb_vc (w1 261 (by decide)) _, fun i _ => hb_vc (w1 267 (by decide)) i⟩, ?_, (w1 267 (by decide)).trans a5, (w1 261 (by decide)).trans a6⟩
  rw [hb_vc (w1 234 (by decide))]
  exact a4
theorem hm_t107 {o7 o8 o9 : Option Value} (h8 : mq_nl o8 = true) (h9 : mq_nl o9 = true) {d z u j k n : Nat} {Q : (Option Value ⊕ Nat) → mq_S → Prop} {M Mc : Nat → mq_C} {x1 x2 x3 x4 x5 x6 : Int32} (hC : ∀ c ∈ mz_Cs, c.2 < 14 → mz_Ct mz_GG mq_PP HX c.1 c.2) (hd : 10 ≤ d) (hz : 272 ≤ z) (hc : hm_C j k M Mc) (hj1 : j < 139) (p1 : x1.toInt = 12 * (j : Int)) (hk : hv M 267 (12 * j) = (k : Int)) (hn : hv M 267 (12 * j + 1) = (n : Int)) (hk4 : k < 4) (hn32 : n < 32) (hdf : hv M 261 (32 * k + n) = -1) (hu : hm_bit (hv M 262 k) n = false) (q2 : x2.toInt = (k : Int)) (q3 : x3.toInt = (n : Int)) (q4 : 0 ≤ x4.toInt) (q4' : x4.toInt ≤ 3) (q5 : 0 ≤ x5.toInt) (q5' : x5.toInt < hv Mc 238 x4.toInt.toNat) (q6 : 0 ≤ x6.toInt) (q6' : x6.toInt ≤ 15)
    (KF : ∀ M' : Nat → mq_C, mz_sh mz_GG M' → HX M' → hm_rel k j M M' → hv M' 234 48 = (j : Int) → hm_w M' → Q (.inl none) (M', z, u))
    (KA : ∀ M' : Nat → mq_C, mz_sh mz_GG M' → HX M' → hm_T j k n M M' → hm_N j M M' → Q (.inl none) (M', z, u)) : mq_R mq_PP (d + 2) 152 107 [some (.ref 234), some (.int x1), some (.int x2), some (.int x3), some (.int x4), some (.int x5), some (.int x6), o7, o8, o9] [] (Mc, z, u) Q := by
  obtain ⟨hm, hx, hR, hj, hf7, hf1⟩ := id hc
  refine he_aload (n := 108) (i := 0) (by decide +kernel) rfl ?_
  refine he_getr (n := 111) (ci := 9) (j := 37) (ns := [4214, 95]) (b := 263) hm (by decide +kernel) rfl rfl (by decide +kernel) ?_
  refine he_iload (n := 113) (i := 6) (by decide +kernel) rfl ?_
  refine he_aload (n := 114) (i := 0) (by decide +kernel) rfl ?_
  refine he_getr (n := 117) (ci := 9) (j := 37) (ns := [4214, 95]) (b := 263) hm (by decide +kernel) rfl rfl (by decide +kernel) ?_
  refine he_iload (n := 119) (i := 6) (by decide +kernel) rfl ?_
  refine hb_ld (n := 120) (kind := 64) hm (by decide +kernel) rfl rfl (.inl rfl) (by omega) (show _ < (16 : Int) by omega) hb_at1 ?_
  intro v119 hv119 lv119 uv119
  by_cases h120 : 0 ≤ v119.toInt
  · skip
    refine he_ifge_t (n := 123) (t := 128) (by decide +kernel) (by omega) ?_
    refine he_aload (n := 129) (i := 0) (by decide +kernel) rfl ?_
    refine he_getr (n := 132) (ci := 9) (j := 37) (ns := [4214, 95]) (b := 263) hm (by decide +kernel) rfl rfl (by decide +kernel) ?_
    refine he_iload (n := 134) (i := 6) (by decide +kernel) rfl ?_
    refine hb_ld (n := 135) (kind := 64) hm (by decide +kernel) rfl rfl (.inl rfl) (by omega) (show _ < (16 : Int) by omega) hb_at1 ?_
    intro v134 hv134 lv134 uv134
    refine hb_sta (n := 136) (kind := 64) hm (by decide +kernel) rfl rfl (.inl rfl) (by omega) (show _ < (16 : Int) by omega) ?_
    generalize hM1 : hb_set Mc 263 (x6.toInt.toNat) v134 = M1
    have hm1 : mz_sh mz_GG M1 := by rw [← hM1]; exact hb_set_sh hm rfl hb_at1 (by omega) (by omega)
    have eM1 : ∀ b j, b ≠ 263 ∨ j ≠ x6.toInt.toNat → hv M1 b j = hv Mc b j := by intro b j h; rw [← hM1]; exact hb_set_n h
    have sM1 : hv M1 263 (x6.toInt.toNat) = v134.toInt := by rw [← hM1]; exact hb_set_v hm rfl (show _ < 16 by omega)
    have wM1 : ∀ b, b ≠ 263 → M1 b = Mc b := by intro b h; rw [← hM1]; exact hb_set_c h
    refine he_aload (n := 137) (i := 0) (by decide +kernel) rfl ?_
    refine he_getr (n := 140) (ci := 9) (j := 37) (ns := [4214, 95]) (b := 263) hm1 (by decide +kernel) rfl rfl (by decide +kernel) ?_
    refine he_iload (n := 142) (i := 6) (by decide +kernel) rfl ?_
    refine hb_ld (n := 143) (kind := 64) hm1 (by decide +kernel) rfl rfl (.inl rfl) (by omega) (show _ < (16 : Int) by omega) hb_at1 ?_
    intro v142 hv142 lv142 uv142
    refine he_istore (n := 145) (i := 7) (by decide +kernel) rfl ?_
    refine he_iload (n := 147) (i := 7) (by decide +kernel) rfl ?_
    refine he_iload (n := 149) (i := 4) (by decide +kernel) rfl ?_
    have hc1 : hm_C j k M M1 := hm_Cs hc hm1 hM1
    have q238 : x5.toInt < hv M1 238 x4.toInt.toNat := by rw [hb_vc (wM1 238 (by decide))]; exact q5'
    by_cases h149 : v142.toInt = x4.toInt
    · skip
      refine he_cmpeq_t (n := 152) (t := 201) (by decide +kernel) (by omega) ?_
      refine he_iconst (n := 202) (c := 0) (by decide +kernel) (by decide) ?_
      intro c201 hc201
      refine he_istore (n := 204) (i := 8) (by decide +kernel) rfl ?_
      refine he_iload (n := 206) (i := 8) (by decide +kernel) rfl ?_
      refine he_ifeq_t (n := 209) (t := 219) (by decide +kernel) (by omega) ?_
      exact hm_t219 hC hd hz hc1 hj1 p1 hk hn hk4 hn32 hdf hu q2 q3 q4 q4' q5 q238 KF KA
    · skip
      refine he_cmpeq_f (n := 152) (t := 201) (by decide +kernel) (by omega) ?_
      exact hm_t152 h8 h9 hC hd hz hc1 hj1 p1 hk hn hk4 hn32 hdf hu q2 q3 q4 q4' q5 q238 (by omega) (by omega) h149 KF KA
  · skip
    refine he_ifge_f (n := 123) (t := 128) (by decide +kernel) (by omega) ?_
    refine he_iload (n := 125) (i := 4) (by decide +kernel) rfl ?_
    refine he_goto (t := 135) (by decide +kernel) ?_
    refine hb_sta (n := 136) (kind := 64) hm (by decide +kernel) rfl rfl (.inl rfl) (by omega) (show _ < (16 : Int) by omega) ?_
    generalize hM1 : hb_set Mc 263 (x6.toInt.toNat) x4 = M1
    have hm1 : mz_sh mz_GG M1 := by rw [← hM1]; exact hb_set_sh hm rfl hb_at1 (by omega) (by omega)
    have eM1 : ∀ b j, b ≠ 263 ∨ j ≠ x6.toInt.toNat → hv M1 b j = hv Mc b j := by intro b j h; rw [← hM1]; exact hb_set_n h
    have sM1 : hv M1 263 (x6.toInt.toNat) = x4.toInt := by rw [← hM1]; exact hb_set_v hm rfl (show _ < 16 by omega)
    have wM1 : ∀ b, b ≠ 263 → M1 b = Mc b := by intro b h; rw [← hM1]; exact hb_set_c h
    refine he_aload (n := 137) (i := 0) (by decide +kernel) rfl ?_
    refine he_getr (n := 140) (ci := 9) (j := 37) (ns := [4214, 95]) (b := 263) hm1 (by decide +kernel) rfl rfl (by decide +kernel) ?_
    refine he_iload (n := 142) (i := 6) (by decide +kernel) rfl ?_
    refine hb_ld (n := 143) (kind := 64) hm1 (by decide +kernel) rfl rfl (.inl rfl) (by omega) (show _ < (16 : Int) by omega) hb_at1 ?_
    intro v142 hv142 lv142 uv142
    refine he_istore (n := 145) (i := 7) (by decide +kernel) rfl ?_
    refine he_iload (n := 147) (i := 7) (by decide +kernel) rfl ?_
    refine he_iload (n := 149) (i := 4) (by decide +kernel) rfl ?_
    have hc1 : hm_C j k M M1 := hm_Cs hc hm1 hM1
    have q238 : x5.toInt < hv M1 238 x4.toInt.toNat := by rw [hb_vc (wM1 238 (by decide))]; exact q5'
    by_cases h149 : v142.toInt = x4.toInt
    · skip
      refine he_cmpeq_t (n := 152) (t := 201) (by decide +kernel) (by omega) ?_
      refine he_iconst (n := 202) (c := 0) (by decide +kernel) (by decide) ?_
      intro c201 hc201
      refine he_istore (n := 204) (i := 8) (by decide +kernel) rfl ?_
      refine he_iload (n := 206) (i := 8) (by decide +kernel) rfl ?_
      refine he_ifeq_t (n := 209) (t := 219) (by decide +kernel) (by omega) ?_
      exact hm_t219 hC hd hz hc1 hj1 p1 hk hn hk4 hn32 hdf hu q2 q3 q4 q4' q5 q238 KF KA
    · skip
      refine he_cmpeq_f (n := 152) (t := 201) (by decide +kernel) (by omega) ?_
      exact hm_t152 h8 h9 hC hd hz hc1 hj1 p1 hk hn hk4 hn32 hdf hu q2 q3 q4 q4' q5 q238 (by omega) (by omega) h149 KF KA
theorem hm_t97 {d z u j k n : Nat} {Q : (Option Value ⊕ Nat) → mq_S → Prop} {M Mc : Nat → mq_C} {x1 x2 x3 x4 x5 x6 : Int32} (hC : ∀ c ∈ mz_Cs, c.2 < 14 → mz_Ct mz_GG mq_PP HX c.1 c.2) (hd : 10 ≤ d) (hz : 272 ≤ z) (hc : hm_C j k M Mc) (hj1 : j < 139) (p1 : x1.toInt = 12 * (j : Int)) (hk : hv M 267 (12 * j) = (k : Int)) (hn : hv M 267 (12 * j + 1) = (n : Int)) (hk4 : k < 4) (hn32 : n < 32) (hdf : hv M 261 (32 * k + n) = -1) (hu : hm_bit (hv M 262 k) n = false) (q2 : x2.toInt = (k : Int)) (q3 : x3.toInt = (n : Int)) (q4 : 0 ≤ x4.toInt) (q4' : x4.toInt ≤ 3) (q5 : 0 ≤ x5.toInt) (q5' : x5.toInt < hv Mc 238 x4.toInt.toNat)
    (KF : ∀ M' : Nat → mq_C, mz_sh mz_GG M' → HX M' → hm_rel k j M M' → hv M' 234 48 = (j : Int) → hm_w M' → Q (.inl none) (M', z, u))
    (KA : ∀ M' : Nat → mq_C, mz_sh mz_GG M' → HX M' → hm_T j k n M M' → hm_N j M M' → Q (.inl none) (M', z, u)) : mq_R mq_PP (d + 2) 152 97 [some (.ref 234), some (.int x1), some (.int x2), some (.int x3), some (.int x4), some (.int x5), some (.int x6), none, none, none] [] (Mc, z, u) Q := by
  obtain ⟨hm, hx, hR, hj, hf7, hf1⟩ := id hc
  refine hm_tb HX_same hb_C1 (by omega) hz hm hx rfl rfl rfl (by omega) (by omega) (by omega) (by omega) ?_
  · intro M2 y6 w7 w8 w9 gs gx gw g8 ge hw7 hw8 hw9
    intros
    have hc2 : hm_C j k M M2 := hm_Cf (q' := hm_tb_q) hc gs gx gw g8 ge (hb_vc (gw 234 (by decide) (by decide)) 48) (by decide) (by decide) (by decide)
    exact hm_t107 hw8 hw9 hC hd hz hc2 hj1 p1 hk hn hk4 hn32 hdf hu q2 q3 q4 q4' q5 (by rw [hb_vc (gw 238 (by decide) (by decide))]; exact q5') (by omega) (by omega) KF KA
