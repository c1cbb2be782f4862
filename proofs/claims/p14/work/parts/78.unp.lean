/-! unpacked and isReadable of the model. -/
def hw_a_q : mz_Q := (135, [(1, 234), (0, 0), (0, 0), (0, 0), (0, 0)], [(0, [(4, 1)])], [20, 21, 22, 23], [], [])
def hw_a_s : List mz_Sp2 := [(58, [(1, 234), (0, 0), (0, 0), (0, 0), (0, 0)], [], [(0, [(1, -1), (67, 1)]), (0, [(1, 1), (67, -1)]), (0, [(2, -1), (68, 1)]), (0, [(2, 1), (68, -1)]), (0, [(3, -1), (69, 1)]), (0, [(3, 1), (69, -1)]), (0, [(4, -1), (70, 1)]), (0, [(4, 1), (70, -1)]), (0, [(25, -1), (71, 1)]), (0, [(25, 1), (71, -1)]), (0, [(26, -1), (72, 1)]), (0, [(26, 1), (72, -1)]), (0, [(27, -1), (73, 1)]), (0, [(27, 1), (73, -1)]), (0, [(28, -1), (74, 1)]), (0, [(28, 1), (74, -1)]), (0, [(4, 1), (25, -1)])]), (42, [(1, 234), (0, 0), (0, 0), (0, 0), (0, 0)], [(0, 0), (1, 244), (0, 0), (1, 234), (0, 0), (1, 252)], [(0, [(1, -1), (67, 1)]), (0, [(1, 1), (67, -1)]), (0, [(2, -1), (68, 1)]), (0, [(2, 1), (68, -1)]), (0, [(3, -1), (69, 1)]), (0, [(3, 1), (69, -1)]), (0, [(4, -1), (70, 1)]), (0, [(4, 1), (70, -1)]), (0, [(3, -1), (71, 1)]), (0, [(3, 1), (71, -1)]), (0, [(1, -1), (73, 1)]), (0, [(1, 1), (73, -1)]), (0, [(4, -1), (75, 1)]), (0, [(4, 1), (75, -1)]), (0, [(25, -1), (77, 1)]), (0, [(25, 1), (77, -1)]), (0, [(26, -1), (78, 1)]), (0, [(26, 1), (78, -1)]), (0, [(27, -1), (79, 1)]), (0, [(27, 1), (79, -1)]), (0, [(28, -1), (80, 1)]), (0, [(28, 1), (80, -1)]), (-1, [(4, -1), (25, 1)])])]
def hw_a_h : List mz_H := [(0, 0, []), (0, 0, []), (0, 0, []), (0, 0, []), (0, 0, []), (0, 0, []), (0, 0, []), (0, 0, []), (0, 0, []), (0, 0, []), (0, 0, []), (0, 0, []), (0, 0, []), (0, 0, []), (0, 0, []), (0, 0, []), (0, 0, []), (0, 0, []), (0, 0, []), (0, 0, [(0, 1)]), (252, 0, []), (244, 0, []), (1, 0, []), (0, 0, []), (0, 0, []), (0, 0, []), (0, 0, []), (0, 0, []), (0, 0, []), (0, 0, []), (0, 0, []), (0, 0, []), (0, 0, []), (0, 0, []), (0, 0, []), (0, 0, []), (0, 0, []), (0, 0, []), (0, 0, []), (0, 0, []), (0, 0, []), (0, 0, []), (0, 0, []), (0, 0, []), (0, 0, []), (0, 0, [(0, 1)])]
set_option maxRecDepth 100000 in
theorem hw_a_c : mz_blk mz_GG mq_PP mz_Cs hw_a_q 5 1 20 hw_a_s [] 19 hw_a_h = true := by decide +kernel
theorem hw_a {X : (Nat → mq_C) → Prop} (hX : ∀ M M' : Nat → mq_C, mz_same mz_GG M M' → X M → X M') (hC : ∀ c ∈ mz_Cs, c.2 < 1 → mz_Ct mz_GG mq_PP X c.1 c.2) {d z u : Nat} {M : Nat → mq_C} {Q : (Option Value ⊕ Nat) → mq_S → Prop} {x1 : Int32} {x2 : Int32} {x3 : Int32} {x4 : Int32} (hd : 1 ≤ d) (hz : 272 ≤ z) (hm : mz_sh mz_GG M) (hx : X M) (p0 : 0 ≤ x4.toInt)
    (k0 : ∀ (M' : Nat → mq_C) , mz_sh mz_GG M' → X M' → mz_fr hw_a_q M M' → (∀ a, a < 8 → M' a = M a) → hb_same mz_GG hw_a_q M M' → hv M' 234 21 = hv M 234 21 → hv M' 234 23 = hv M 234 23 → hv M' 234 24 = hv M 234 24 → hv M' 234 25 = hv M 234 25 → 0 ≤ x4.toInt - hv M 234 21 → mq_R mq_PP d 135 58 [some (.ref 234), some (.int x1), some (.int x2), some (.int x3), some (.int x4)] [] (M', z, u) Q)
    (k1 : ∀ (M' : Nat → mq_C) , mz_sh mz_GG M' → X M' → mz_fr hw_a_q M M' → (∀ a, a < 8 → M' a = M a) → hb_same mz_GG hw_a_q M M' → hv M' 234 21 = hv M 234 21 → hv M' 234 23 = hv M 234 23 → hv M' 234 24 = hv M 234 24 → hv M' 234 25 = hv M 234 25 → 0 ≤ (-1) - x4.toInt + hv M 234 21 → mq_R mq_PP d 135 42 [some (.ref 234), some (.int x1), some (.int x2), some (.int x3), some (.int x4)] [.int x3, .ref 244, .int x1, .ref 234, .int x4, .ref 252] (M', z, u) Q) : mq_R mq_PP d 135 20 [some (.ref 234), some (.int x1), some (.int x2), some (.int x3), some (.int x4)] [] (M, z, u) Q := by
  refine hb_blk mz_GG mq_PP X (q := hw_a_q) (nl := 5) (M := M) hb_okG hX hC hw_a_c hz hd (L := [some (.ref 234), some (.int x1), some (.int x2), some (.int x3), some (.int x4)]) (st := []) (show hb_lk mz_GG ([(1, 234), (0, 0), (0, 0), (0, 0), (0, 0)]) _ from ⟨⟨List.mem_singleton.mpr rfl, rfl⟩, trivial, trivial, trivial, trivial, trivial⟩) (show hb_pk mz_GG ([]) _ from trivial) hm hx ?_ ?_ ?_
  · exact hb_cons (show 0 ≤ mz_ev _ _ from (show 0 ≤ 0 + (1 * x4.toInt + 0) by omega)) (hb_nil)
  · intro s hs
    rcases List.mem_cons.mp hs with rfl | hs
    · intro ρ1 L' st' M' g1 g2 gm gr gf gs gx gw g8 ge
      obtain ⟨e0, L1, rfl, n0, gg0⟩ := hb_l1 mz_GG g1
      obtain rfl : e0 = 234 := List.mem_singleton.mp n0
      obtain ⟨y1, L1, rfl, qr67, gg1⟩ := hb_l0 mz_GG gg0
      have r67 : ρ1 67 = y1.toInt := qr67
      obtain ⟨y2, L1, rfl, qr68, gg2⟩ := hb_l0 mz_GG gg1
      have r68 : ρ1 68 = y2.toInt := qr68
      obtain ⟨y3, L1, rfl, qr69, gg3⟩ := hb_l0 mz_GG gg2
      have r69 : ρ1 69 = y3.toInt := qr69
      obtain ⟨y4, L1, rfl, qr70, gg4⟩ := hb_l0 mz_GG gg3
      have r70 : ρ1 70 = y4.toInt := qr70
      obtain rfl := hb_ln mz_GG gg4
      obtain rfl := hb_pn mz_GG g2
      have r1 : ρ1 1 = x1.toInt := gr 1 (by decide +kernel)
      have r2 : ρ1 2 = x2.toInt := gr 2 (by decide +kernel)
      have r3 : ρ1 3 = x3.toInt := gr 3 (by decide +kernel)
      have r4 : ρ1 4 = x4.toInt := gr 4 (by decide +kernel)
      have r25 : ρ1 25 = hv M 234 21 := gr 25 (by decide +kernel)
      have r26 : ρ1 26 = hv M 234 23 := gr 26 (by decide +kernel)
      have r27 : ρ1 27 = hv M 234 24 := gr 27 (by decide +kernel)
      have r28 : ρ1 28 = hv M 234 25 := gr 28 (by decide +kernel)
      have r71 : ρ1 71 = hv M' 234 21 := gm 0 20 (234, 21) rfl rfl
      have r72 : ρ1 72 = hv M' 234 23 := gm 1 21 (234, 23) rfl rfl
      have r73 : ρ1 73 = hv M' 234 24 := gm 2 22 (234, 24) rfl rfl
      have r74 : ρ1 74 = hv M' 234 25 := gm 3 23 (234, 25) rfl rfl
      obtain ⟨f0, gf⟩ := hb_unc gf
      have f0 : 0 ≤ 0 + ((-1) * ρ1 1 + (1 * ρ1 67 + 0)) := f0
      rw [r1, r67] at f0
      obtain ⟨f1, gf⟩ := hb_unc gf
      have f1 : 0 ≤ 0 + (1 * ρ1 1 + ((-1) * ρ1 67 + 0)) := f1
      rw [r1, r67] at f1
      obtain ⟨f2, gf⟩ := hb_unc gf
      have f2 : 0 ≤ 0 + ((-1) * ρ1 2 + (1 * ρ1 68 + 0)) := f2
      rw [r2, r68] at f2
      obtain ⟨f3, gf⟩ := hb_unc gf
      have f3 : 0 ≤ 0 + (1 * ρ1 2 + ((-1) * ρ1 68 + 0)) := f3
      rw [r2, r68] at f3
      obtain ⟨f4, gf⟩ := hb_unc gf
      have f4 : 0 ≤ 0 + ((-1) * ρ1 3 + (1 * ρ1 69 + 0)) := f4
      rw [r3, r69] at f4
      obtain ⟨f5, gf⟩ := hb_unc gf
      have f5 : 0 ≤ 0 + (1 * ρ1 3 + ((-1) * ρ1 69 + 0)) := f5
      rw [r3, r69] at f5
      obtain ⟨f6, gf⟩ := hb_unc gf
      have f6 : 0 ≤ 0 + ((-1) * ρ1 4 + (1 * ρ1 70 + 0)) := f6
      rw [r4, r70] at f6
      obtain ⟨f7, gf⟩ := hb_unc gf
      have f7 : 0 ≤ 0 + (1 * ρ1 4 + ((-1) * ρ1 70 + 0)) := f7
      rw [r4, r70] at f7
      obtain ⟨f8, gf⟩ := hb_unc gf
      have f8 : 0 ≤ 0 + ((-1) * ρ1 25 + (1 * ρ1 71 + 0)) := f8
      rw [r25, r71] at f8
      obtain ⟨f9, gf⟩ := hb_unc gf
      have f9 : 0 ≤ 0 + (1 * ρ1 25 + ((-1) * ρ1 71 + 0)) := f9
      rw [r25, r71] at f9
      obtain ⟨f10, gf⟩ := hb_unc gf
      have f10 : 0 ≤ 0 + ((-1) * ρ1 26 + (1 * ρ1 72 + 0)) := f10
      rw [r26, r72] at f10
      obtain ⟨f11, gf⟩ := hb_unc gf
      have f11 : 0 ≤ 0 + (1 * ρ1 26 + ((-1) * ρ1 72 + 0)) := f11
      rw [r26, r72] at f11
      obtain ⟨f12, gf⟩ := hb_unc gf
      have f12 : 0 ≤ 0 + ((-1) * ρ1 27 + (1 * ρ1 73 + 0)) := f12
      rw [r27, r73] at f12
      obtain ⟨f13, gf⟩ := hb_unc gf
      have f13 : 0 ≤ 0 + (1 * ρ1 27 + ((-1) * ρ1 73 + 0)) := f13
      rw [r27, r73] at f13
      obtain ⟨f14, gf⟩ := hb_unc gf
      have f14 : 0 ≤ 0 + ((-1) * ρ1 28 + (1 * ρ1 74 + 0)) := f14
      rw [r28, r74] at f14
      obtain ⟨f15, gf⟩ := hb_unc gf
      have f15 : 0 ≤ 0 + (1 * ρ1 28 + ((-1) * ρ1 74 + 0)) := f15
      rw [r28, r74] at f15
      obtain ⟨f16, gf⟩ := hb_unc gf
      have f16 : 0 ≤ 0 + (1 * ρ1 4 + ((-1) * ρ1 25 + 0)) := f16
      rw [r4, r25] at f16
      have hy1 : y1 = x1 := hb_inj f0 f1
      subst y1
      have hy2 : y2 = x2 := hb_inj f2 f3
      subst y2
      have hy3 : y3 = x3 := hb_inj f4 f5
      subst y3
      have hy4 : y4 = x4 := hb_inj f6 f7
      subst y4
      exact k0 M'  gs gx gw g8 ge  (by have h1 := f8; have h2 := f9; omega) (by have h1 := f10; have h2 := f11; omega) (by have h1 := f12; have h2 := f13; omega) (by have h1 := f14; have h2 := f15; omega) (by have h1 := f16; omega)
    rcases List.mem_cons.mp hs with rfl | hs
    · intro ρ1 L' st' M' g1 g2 gm gr gf gs gx gw g8 ge
      obtain ⟨e0, L1, rfl, n0, gg0⟩ := hb_l1 mz_GG g1
      obtain rfl : e0 = 234 := List.mem_singleton.mp n0
      obtain ⟨y1, L1, rfl, qr67, gg1⟩ := hb_l0 mz_GG gg0
      have r67 : ρ1 67 = y1.toInt := qr67
      obtain ⟨y2, L1, rfl, qr68, gg2⟩ := hb_l0 mz_GG gg1
      have r68 : ρ1 68 = y2.toInt := qr68
      obtain ⟨y3, L1, rfl, qr69, gg3⟩ := hb_l0 mz_GG gg2
      have r69 : ρ1 69 = y3.toInt := qr69
      obtain ⟨y4, L1, rfl, qr70, gg4⟩ := hb_l0 mz_GG gg3
      have r70 : ρ1 70 = y4.toInt := qr70
      obtain ⟨y5, s1, rfl, qr71, gg5⟩ := hb_p0 mz_GG g2
      have r71 : ρ1 71 = y5.toInt := qr71
      obtain ⟨e6, s1, rfl, n6, gg6⟩ := hb_p1 mz_GG gg5
      obtain rfl : e6 = 244 := List.mem_singleton.mp n6
      obtain ⟨y7, s1, rfl, qr73, gg7⟩ := hb_p0 mz_GG gg6
      have r73 : ρ1 73 = y7.toInt := qr73
      obtain ⟨e8, s1, rfl, n8, gg8⟩ := hb_p1 mz_GG gg7
      obtain rfl : e8 = 234 := List.mem_singleton.mp n8
      obtain ⟨y9, s1, rfl, qr75, gg9⟩ := hb_p0 mz_GG gg8
      have r75 : ρ1 75 = y9.toInt := qr75
      obtain ⟨e10, s1, rfl, n10, gg10⟩ := hb_p1 mz_GG gg9
      obtain rfl : e10 = 252 := List.mem_singleton.mp n10
      obtain rfl := hb_ln mz_GG gg4
      obtain rfl := hb_pn mz_GG gg10
      have r1 : ρ1 1 = x1.toInt := gr 1 (by decide +kernel)
      have r2 : ρ1 2 = x2.toInt := gr 2 (by decide +kernel)
      have r3 : ρ1 3 = x3.toInt := gr 3 (by decide +kernel)
      have r4 : ρ1 4 = x4.toInt := gr 4 (by decide +kernel)
      have r25 : ρ1 25 = hv M 234 21 := gr 25 (by decide +kernel)
      have r26 : ρ1 26 = hv M 234 23 := gr 26 (by decide +kernel)
      have r27 : ρ1 27 = hv M 234 24 := gr 27 (by decide +kernel)
      have r28 : ρ1 28 = hv M 234 25 := gr 28 (by decide +kernel)
      have r77 : ρ1 77 = hv M' 234 21 := gm 0 20 (234, 21) rfl rfl
      have r78 : ρ1 78 = hv M' 234 23 := gm 1 21 (234, 23) rfl rfl
      have r79 : ρ1 79 = hv M' 234 24 := gm 2 22 (234, 24) rfl rfl
      have r80 : ρ1 80 = hv M' 234 25 := gm 3 23 (234, 25) rfl rfl
      obtain ⟨f0, gf⟩ := hb_unc gf
      have f0 : 0 ≤ 0 + ((-1) * ρ1 1 + (1 * ρ1 67 + 0)) := f0
      rw [r1, r67] at f0
      obtain ⟨f1, gf⟩ := hb_unc gf
      have f1 : 0 ≤ 0 + (1 * ρ1 1 + ((-1) * ρ1 67 + 0)) := f1
      rw [r1, r67] at f1
      obtain ⟨f2, gf⟩ := hb_unc gf
      have f2 : 0 ≤ 0 + ((-1) * ρ1 2 + (1 * ρ1 68 + 0)) := f2
      rw [r2, r68] at f2
      obtain ⟨f3, gf⟩ := hb_unc gf
      have f3 : 0 ≤ 0 + (1 * ρ1 2 + ((-1) * ρ1 68 + 0)) := f3
      rw [r2, r68] at f3
      obtain ⟨f4, gf⟩ := hb_unc gf
      have f4 : 0 ≤ 0 + ((-1) * ρ1 3 + (1 * ρ1 69 + 0)) := f4
      rw [r3, r69] at f4
      obtain ⟨f5, gf⟩ := hb_unc gf
      have f5 : 0 ≤ 0 + (1 * ρ1 3 + ((-1) * ρ1 69 + 0)) := f5
      rw [r3, r69] at f5
      obtain ⟨f6, gf⟩ := hb_unc gf
      have f6 : 0 ≤ 0 + ((-1) * ρ1 4 + (1 * ρ1 70 + 0)) := f6
      rw [r4, r70] at f6
      obtain ⟨f7, gf⟩ := hb_unc gf
      have f7 : 0 ≤ 0 + (1 * ρ1 4 + ((-1) * ρ1 70 + 0)) := f7
      rw [r4, r70] at f7
      obtain ⟨f8, gf⟩ := hb_unc gf
      have f8 : 0 ≤ 0 + ((-1) * ρ1 3 + (1 * ρ1 71 + 0)) := f8
      rw [r3, r71] at f8
      obtain ⟨f9, gf⟩ := hb_unc gf
      have f9 : 0 ≤ 0 + (1 * ρ1 3 + ((-1) * ρ1 71 + 0)) := f9
      rw [r3, r71] at f9
      obtain ⟨f10, gf⟩ := hb_unc gf
      have f10 : 0 ≤ 0 + ((-1) * ρ1 1 + (1 * ρ1 73 + 0)) := f10
      rw [r1, r73] at f10
      obtain ⟨f11, gf⟩ := hb_unc gf
      have f11 : 0 ≤ 0 + (1 * ρ1 1 + ((-1) * ρ1 73 + 0)) := f11
      rw [r1, r73] at f11
      obtain ⟨f12, gf⟩ := hb_unc gf
      have f12 : 0 ≤ 0 + ((-1) * ρ1 4 + (1 * ρ1 75 + 0)) := f12
      rw [r4, r75] at f12
      obtain ⟨f13, gf⟩ := hb_unc gf
      have f13 : 0 ≤ 0 + (1 * ρ1 4 + ((-1) * ρ1 75 + 0)) := f13
      rw [r4, r75] at f13
      obtain ⟨f14, gf⟩ := hb_unc gf
      have f14 : 0 ≤ 0 + ((-1) * ρ1 25 + (1 * ρ1 77 + 0)) := f14
      rw [r25, r77] at f14
      obtain ⟨f15, gf⟩ := hb_unc gf
      have f15 : 0 ≤ 0 + (1 * ρ1 25 + ((-1) * ρ1 77 + 0)) := f15
      rw [r25, r77] at f15
      obtain ⟨f16, gf⟩ := hb_unc gf
      have f16 : 0 ≤ 0 + ((-1) * ρ1 26 + (1 * ρ1 78 + 0)) := f16
      rw [r26, r78] at f16
      obtain ⟨f17, gf⟩ := hb_unc gf
      have f17 : 0 ≤ 0 + (1 * ρ1 26 + ((-1) * ρ1 78 + 0)) := f17
      rw [r26, r78] at f17
      obtain ⟨f18, gf⟩ := hb_unc gf
      have f18 : 0 ≤ 0 + ((-1) * ρ1 27 + (1 * ρ1 79 + 0)) := f18
      rw [r27, r79] at f18
      obtain ⟨f19, gf⟩ := hb_unc gf
      have f19 : 0 ≤ 0 + (1 * ρ1 27 + ((-1) * ρ1 79 + 0)) := f19
      rw [r27, r79] at f19
      obtain ⟨f20, gf⟩ := hb_unc gf
      have f20 : 0 ≤ 0 + ((-1) * ρ1 28 + (1 * ρ1 80 + 0)) := f20
      rw [r28, r80] at f20
      obtain ⟨f21, gf⟩ := hb_unc gf
      have f21 : 0 ≤ 0 + (1 * ρ1 28 + ((-1) * ρ1 80 + 0)) := f21
      rw [r28, r80] at f21
      obtain ⟨f22, gf⟩ := hb_unc gf
      have f22 : 0 ≤ -1 + ((-1) * ρ1 4 + (1 * ρ1 25 + 0)) := f22
      rw [r4, r25] at f22
      have hy1 : y1 = x1 := hb_inj f0 f1
      subst y1
      have hy2 : y2 = x2 := hb_inj f2 f3
      subst y2
      have hy3 : y3 = x3 := hb_inj f4 f5
      subst y3
      have hy4 : y4 = x4 := hb_inj f6 f7
      subst y4
      have hy5 : y5 = x3 := hb_inj f8 f9
      subst y5
      have hy7 : y7 = x1 := hb_inj f10 f11
      subst y7
      have hy9 : y9 = x4 := hb_inj f12 f13
      subst y9
      exact k1 M'  gs gx gw g8 ge  (by have h1 := f14; have h2 := f15; omega) (by have h1 := f16; have h2 := f17; omega) (by have h1 := f18; have h2 := f19; omega) (by have h1 := f20; have h2 := f21; omega) (by have h1 := f22; omega)
    cases hs
  · intro r S hpo
    obtain ⟨b1, b2, b3, b4, b5, p, hp, res, hf, hre⟩ := hpo
    cases hp

def hw_b_q : mz_Q := (135, [(1, 234), (0, 0), (0, 0), (0, 0), (0, 0), (0, 0), (0, 0), (1, 234), (0, 0), (1, 252)], [(0, [(6, 1)]), (3, [(6, -1)]), (0, [(5, 1)]), (0, [(4, 1)]), (237, [(4, -1), (5, -1)]), (0, [(8, 1)]), (239, [(8, -1)])], [20, 21, 22, 23], [], [252])
def hw_b_s : List mz_Sp2 := [(20, [(1, 234), (0, 0), (0, 0), (0, 0), (0, 0)], [], [(0, [(1, -1), (72, 1)]), (0, [(1, 1), (72, -1)]), (0, [(2, -1), (73, 1)]), (0, [(2, 1), (73, -1)]), (0, [(3, -1), (74, 1)]), (0, [(3, 1), (74, -1)]), (-1, [(4, -1), (75, 1)]), (1, [(4, 1), (75, -1)]), (0, [(30, -1), (76, 1)]), (0, [(30, 1), (76, -1)]), (0, [(31, -1), (77, 1)]), (0, [(31, 1), (77, -1)]), (0, [(32, -1), (78, 1)]), (0, [(32, 1), (78, -1)]), (0, [(33, -1), (79, 1)]), (0, [(33, 1), (79, -1)])])]
def hw_b_h : List mz_H := [(0, 0, []), (0, 0, [(2, 1)]), (0, 0, [(4, 1), (3, 1)]), (0, 0, []), (0, 0, [(2, 1), (3, 1)]), (0, 0, [(4, 1)]), (137, 0, []), (0, 0, [(0, 1)]), (0, 0, [(1, 1)]), (0, 0, [(2, 1), (3, 1)]), (0, 0, [(4, 1)]), (0, 0, []), (0, 0, [(9, 1)]), (0, 0, [(10, 1)]), (0, 0, [(1, 1)]), (0, 0, [(0, 1)]), (0, 0, []), (0, 0, [(7, 1)]), (0, 0, [(8, 1), (6, 1)]), (0, 0, []), (0, 0, []), (0, 0, []), (0, 0, []), (0, 0, []), (0, 0, []), (0, 0, []), (0, 0, []), (0, 0, []), (0, 0, []), (0, 0, []), (0, 0, []), (0, 0, []), (0, 0, []), (0, 0, []), (0, 0, []), (0, 0, [])]
set_option maxRecDepth 100000 in
theorem hw_b_c : mz_blk mz_GG mq_PP mz_Cs hw_b_q 5 2 43 hw_b_s [] 14 hw_b_h = true := by decide +kernel
theorem hw_b {X : (Nat → mq_C) → Prop} (hX : ∀ M M' : Nat → mq_C, mz_same mz_GG M M' → X M → X M') (hC : ∀ c ∈ mz_Cs, c.2 < 2 → mz_Ct mz_GG mq_PP X c.1 c.2) {d z u : Nat} {M : Nat → mq_C} {Q : (Option Value ⊕ Nat) → mq_S → Prop} {x1 : Int32} {x2 : Int32} {x3 : Int32} {x4 : Int32} {x5 : Int32} {x6 : Int32} {x8 : Int32} (hd : 2 ≤ d) (hz : 272 ≤ z) (hm : mz_sh mz_GG M) (hx : X M) (p0 : 0 ≤ x6.toInt) (p1 : 0 ≤ 3 - x6.toInt) (p2 : 0 ≤ x5.toInt) (p3 : 0 ≤ x4.toInt) (p4 : 0 ≤ 237 - x4.toInt - x5.toInt) (p5 : 0 ≤ x8.toInt) (p6 : 0 ≤ 239 - x8.toInt)
    (k0 : ∀ (M' : Nat → mq_C) (y4 : Int32), mz_sh mz_GG M' → X M' → mz_fr hw_b_q M M' → (∀ a, a < 8 → M' a = M a) → hb_same mz_GG hw_b_q M M' → y4.toInt = 1 + x4.toInt → hv M' 234 21 = hv M 234 21 → hv M' 234 23 = hv M 234 23 → hv M' 234 24 = hv M 234 24 → hv M' 234 25 = hv M 234 25 → mq_R mq_PP d 135 20 [some (.ref 234), some (.int x1), some (.int x2), some (.int x3), some (.int y4)] [] (M', z, u) Q) : mq_R mq_PP d 135 43 [some (.ref 234), some (.int x1), some (.int x2), some (.int x3), some (.int x4)] [.int x5, .int x6, .ref 234, .int x8, .ref 252] (M, z, u) Q := by
  refine hb_blk mz_GG mq_PP X (q := hw_b_q) (nl := 5) (M := M) hb_okG hX hC hw_b_c hz hd (L := [some (.ref 234), some (.int x1), some (.int x2), some (.int x3), some (.int x4)]) (st := [.int x5, .int x6, .ref 234, .int x8, .ref 252]) (show hb_lk mz_GG ([(1, 234), (0, 0), (0, 0), (0, 0), (0, 0)]) _ from ⟨⟨List.mem_singleton.mpr rfl, rfl⟩, trivial, trivial, trivial, trivial, trivial⟩) (show hb_pk mz_GG ([(0, 0), (0, 0), (1, 234), (0, 0), (1, 252)]) _ from ⟨trivial, trivial, ⟨List.mem_singleton.mpr rfl, rfl⟩, trivial, ⟨List.mem_singleton.mpr rfl, rfl⟩, trivial⟩) hm hx ?_ ?_ ?_
  · exact hb_cons (show 0 ≤ mz_ev _ _ from (show 0 ≤ 0 + (1 * x6.toInt + 0) by omega)) (hb_cons (show 0 ≤ mz_ev _ _ from (show 0 ≤ 3 + ((-1) * x6.toInt + 0) by omega)) (hb_cons (show 0 ≤ mz_ev _ _ from (show 0 ≤ 0 + (1 * x5.toInt + 0) by omega)) (hb_cons (show 0 ≤ mz_ev _ _ from (show 0 ≤ 0 + (1 * x4.toInt + 0) by omega)) (hb_cons (show 0 ≤ mz_ev _ _ from (show 0 ≤ 237 + ((-1) * x4.toInt + ((-1) * x5.toInt + 0)) by omega)) (hb_cons (show 0 ≤ mz_ev _ _ from (show 0 ≤ 0 + (1 * x8.toInt + 0) by omega)) (hb_cons (show 0 ≤ mz_ev _ _ from (show 0 ≤ 239 + ((-1) * x8.toInt + 0) by omega)) (hb_nil)))))))
  · intro s hs
    rcases List.mem_cons.mp hs with rfl | hs
    · intro ρ1 L' st' M' g1 g2 gm gr gf gs gx gw g8 ge
      obtain ⟨e0, L1, rfl, n0, gg0⟩ := hb_l1 mz_GG g1
      obtain rfl : e0 = 234 := List.mem_singleton.mp n0
      obtain ⟨y1, L1, rfl, qr72, gg1⟩ := hb_l0 mz_GG gg0
      have r72 : ρ1 72 = y1.toInt := qr72
      obtain ⟨y2, L1, rfl, qr73, gg2⟩ := hb_l0 mz_GG gg1
      have r73 : ρ1 73 = y2.toInt := qr73
      obtain ⟨y3, L1, rfl, qr74, gg3⟩ := hb_l0 mz_GG gg2
      have r74 : ρ1 74 = y3.toInt := qr74
      obtain ⟨y4, L1, rfl, qr75, gg4⟩ := hb_l0 mz_GG gg3
      have r75 : ρ1 75 = y4.toInt := qr75
      obtain rfl := hb_ln mz_GG gg4
      obtain rfl := hb_pn mz_GG g2
      have r1 : ρ1 1 = x1.toInt := gr 1 (by decide +kernel)
      have r2 : ρ1 2 = x2.toInt := gr 2 (by decide +kernel)
      have r3 : ρ1 3 = x3.toInt := gr 3 (by decide +kernel)
      have r4 : ρ1 4 = x4.toInt := gr 4 (by decide +kernel)
      have r30 : ρ1 30 = hv M 234 21 := gr 30 (by decide +kernel)
      have r31 : ρ1 31 = hv M 234 23 := gr 31 (by decide +kernel)
      have r32 : ρ1 32 = hv M 234 24 := gr 32 (by decide +kernel)
      have r33 : ρ1 33 = hv M 234 25 := gr 33 (by decide +kernel)
      have r76 : ρ1 76 = hv M' 234 21 := gm 0 20 (234, 21) rfl rfl
      have r77 : ρ1 77 = hv M' 234 23 := gm 1 21 (234, 23) rfl rfl
      have r78 : ρ1 78 = hv M' 234 24 := gm 2 22 (234, 24) rfl rfl
      have r79 : ρ1 79 = hv M' 234 25 := gm 3 23 (234, 25) rfl rfl
      obtain ⟨f0, gf⟩ := hb_unc gf
      have f0 : 0 ≤ 0 + ((-1) * ρ1 1 + (1 * ρ1 72 + 0)) := f0
      rw [r1, r72] at f0
      obtain ⟨f1, gf⟩ := hb_unc gf
      have f1 : 0 ≤ 0 + (1 * ρ1 1 + ((-1) * ρ1 72 + 0)) := f1
      rw [r1, r72] at f1
      obtain ⟨f2, gf⟩ := hb_unc gf
      have f2 : 0 ≤ 0 + ((-1) * ρ1 2 + (1 * ρ1 73 + 0)) := f2
      rw [r2, r73] at f2
      obtain ⟨f3, gf⟩ := hb_unc gf
      have f3 : 0 ≤ 0 + (1 * ρ1 2 + ((-1) * ρ1 73 + 0)) := f3
      rw [r2, r73] at f3
      obtain ⟨f4, gf⟩ := hb_unc gf
      have f4 : 0 ≤ 0 + ((-1) * ρ1 3 + (1 * ρ1 74 + 0)) := f4
      rw [r3, r74] at f4
      obtain ⟨f5, gf⟩ := hb_unc gf
      have f5 : 0 ≤ 0 + (1 * ρ1 3 + ((-1) * ρ1 74 + 0)) := f5
      rw [r3, r74] at f5
      obtain ⟨f6, gf⟩ := hb_unc gf
      have f6 : 0 ≤ -1 + ((-1) * ρ1 4 + (1 * ρ1 75 + 0)) := f6
      rw [r4, r75] at f6
      obtain ⟨f7, gf⟩ := hb_unc gf
      have f7 : 0 ≤ 1 + (1 * ρ1 4 + ((-1) * ρ1 75 + 0)) := f7
      rw [r4, r75] at f7
      obtain ⟨f8, gf⟩ := hb_unc gf
      have f8 : 0 ≤ 0 + ((-1) * ρ1 30 + (1 * ρ1 76 + 0)) := f8
      rw [r30, r76] at f8
      obtain ⟨f9, gf⟩ := hb_unc gf
      have f9 : 0 ≤ 0 + (1 * ρ1 30 + ((-1) * ρ1 76 + 0)) := f9
      rw [r30, r76] at f9
      obtain ⟨f10, gf⟩ := hb_unc gf
      have f10 : 0 ≤ 0 + ((-1) * ρ1 31 + (1 * ρ1 77 + 0)) := f10
      rw [r31, r77] at f10
      obtain ⟨f11, gf⟩ := hb_unc gf
      have f11 : 0 ≤ 0 + (1 * ρ1 31 + ((-1) * ρ1 77 + 0)) := f11
      rw [r31, r77] at f11
      obtain ⟨f12, gf⟩ := hb_unc gf
      have f12 : 0 ≤ 0 + ((-1) * ρ1 32 + (1 * ρ1 78 + 0)) := f12
      rw [r32, r78] at f12
      obtain ⟨f13, gf⟩ := hb_unc gf
      have f13 : 0 ≤ 0 + (1 * ρ1 32 + ((-1) * ρ1 78 + 0)) := f13
      rw [r32, r78] at f13
      obtain ⟨f14, gf⟩ := hb_unc gf
      have f14 : 0 ≤ 0 + ((-1) * ρ1 33 + (1 * ρ1 79 + 0)) := f14
      rw [r33, r79] at f14
      obtain ⟨f15, gf⟩ := hb_unc gf
      have f15 : 0 ≤ 0 + (1 * ρ1 33 + ((-1) * ρ1 79 + 0)) := f15
      rw [r33, r79] at f15
      have hy1 : y1 = x1 := hb_inj f0 f1
      subst y1
      have hy2 : y2 = x2 := hb_inj f2 f3
      subst y2
      have hy3 : y3 = x3 := hb_inj f4 f5
      subst y3
      exact k0 M' y4 gs gx gw g8 ge  (by have h1 := f6; have h2 := f7; omega) (by have h1 := f8; have h2 := f9; omega) (by have h1 := f10; have h2 := f11; omega) (by have h1 := f12; have h2 := f13; omega) (by have h1 := f14; have h2 := f15; omega)
    cases hs
  · intro r S hpo
    obtain ⟨b1, b2, b3, b4, b5, p, hp, res, hf, hre⟩ := hpo
    cases hp

def hw_d_q : mz_Q := (135, [(1, 234), (0, 0), (0, 0), (0, 0), (0, 0)], [(0, [(3, 1)]), (23, [(3, -1)])], [20, 21, 22, 23], [(0, 0, [(0, [(70, 1)]), (1, [(70, -1)])])], [234, 253, 254, 255, 256])
def hw_d_s : List mz_Sp2 := []
def hw_d_h : List mz_H := [(240, 0, []), (0, 0, [(0, 1)]), (0, 0, [(1, 1)]), (65, 0, []), (0, 0, []), (0, 0, []), (3, 0, []), (0, 0, [(1, 1)]), (0, 0, []), (0, 0, []), (0, 0, []), (0, 0, []), (0, 0, []), (242, 0, []), (0, 0, [(13, 1)]), (0, 0, [(14, 1)]), (0, 0, []), (0, 0, []), (0, 0, []), (0, 0, []), (0, 0, []), (0, 0, []), (0, 0, []), (66, 0, []), (0, 0, []), (241, 0, []), (0, 0, [(19, 1)]), (0, 0, [(20, 1)]), (0, 0, []), (0, 0, []), (0, 0, []), (0, 0, []), (0, 0, []), (0, 0, []), (0, 0, []), (0, 0, []), (0, 0, []), (0, 0, []), (0, 0, []), (0, 0, [])]
set_option maxRecDepth 100000 in
theorem hw_d_c : mz_blk mz_GG mq_PP mz_Cs hw_d_q 5 7 58 hw_d_s [] 35 hw_d_h = true := by decide +kernel
theorem hw_d {X : (Nat → mq_C) → Prop} (hX : ∀ M M' : Nat → mq_C, mz_same mz_GG M M' → X M → X M') (hC : ∀ c ∈ mz_Cs, c.2 < 7 → mz_Ct mz_GG mq_PP X c.1 c.2) {d z u : Nat} {M : Nat → mq_C} {Q : (Option Value ⊕ Nat) → mq_S → Prop} {x1 : Int32} {x2 : Int32} {x3 : Int32} {x4 : Int32} (hd : 7 ≤ d) (hz : 272 ≤ z) (hm : mz_sh mz_GG M) (hx : X M) (p0 : 0 ≤ x3.toInt) (p1 : 0 ≤ 23 - x3.toInt)
    (w0 : ∀ (M' : Nat → mq_C) (r : Int32), mz_sh mz_GG M' → X M' → mz_fr hw_d_q M M' → (∀ a, a < 8 → M' a = M a) → hb_same mz_GG hw_d_q M M' → 0 ≤ r.toInt → 0 ≤ 1 - r.toInt → Q (.inl (some (.int r))) (M', z, u)) : mq_R mq_PP d 135 58 [some (.ref 234), some (.int x1), some (.int x2), some (.int x3), some (.int x4)] [] (M, z, u) Q := by
  refine hb_blk mz_GG mq_PP X (q := hw_d_q) (nl := 5) (M := M) hb_okG hX hC hw_d_c hz hd (L := [some (.ref 234), some (.int x1), some (.int x2), some (.int x3), some (.int x4)]) (st := []) (show hb_lk mz_GG ([(1, 234), (0, 0), (0, 0), (0, 0), (0, 0)]) _ from ⟨⟨List.mem_singleton.mpr rfl, rfl⟩, trivial, trivial, trivial, trivial, trivial⟩) (show hb_pk mz_GG ([]) _ from trivial) hm hx ?_ ?_ ?_
  · exact hb_cons (show 0 ≤ mz_ev _ _ from (show 0 ≤ 0 + (1 * x3.toInt + 0) by omega)) (hb_cons (show 0 ≤ mz_ev _ _ from (show 0 ≤ 23 + ((-1) * x3.toInt + 0) by omega)) (hb_nil))
  · intro s hs
    cases hs
  · intro r S hpo
    obtain ⟨b1, b2, b3, b4, b5, p, hp, res, hf, hre⟩ := hpo
    rcases List.mem_cons.mp hp with rfl | hp
    · obtain ⟨x, rfl, hr, hz1, hu1⟩ := mz_re_0 mz_GG hre rfl
      obtain ⟨M', z', u'⟩ := S
      cases hz1
      cases hu1
      have r70 : hb_r1 mz_GG hw_d_q (hb_rb mz_GG hw_d_q 5 [some (.ref 234), some (.int x1), some (.int x2), some (.int x3), some (.int x4)] [] M) M' res 70 = res := rfl
      obtain ⟨f0, hf⟩ := hb_unc hf
      have f0 : 0 ≤ 0 + (1 * res + 0) := f0
      rw [← hr] at f0
      obtain ⟨f1, hf⟩ := hb_unc hf
      have f1 : 0 ≤ 1 + ((-1) * res + 0) := f1
      rw [← hr] at f1
      exact w0 M' x b1 b2 b3 b4 b5 (by have h1 := f0; omega) (by have h1 := f1; omega)
    cases hp

def hw_R (M0 M : Nat → mq_C) : Prop := mz_fr mz_q145 M0 M ∧ (∀ a, a < 8 → M a = M0 a) ∧ hb_same mz_GG mz_q145 M0 M
theorem hw_Rt {M0 M M' : Nat → mq_C} (h : hw_R M0 M) (h' : hw_R M M') : hw_R M0 M' := ⟨hb_fr_t (q' := mz_q145) (fun a ha => ha) h.1 h'.1, fun a ha => (h'.2.1 a ha).trans (h.2.1 a ha), hb_same_t (q' := mz_q145) (fun j hj => hj) h.2.2 h'.2.2⟩
theorem hw_Rb {q' : mz_Q} {M M' : Nat → mq_C} (hW : ∀ a ∈ q'.2.2.2.2.2, a ∈ mz_q145.2.2.2.2.2) (hm : q'.2.2.2.1 = mz_q145.2.2.2.1) (h1 : mz_fr q' M M') (h2 : ∀ a, a < 8 → M' a = M a) (h3 : hb_same mz_GG q' M M') : hw_R M M' := ⟨hb_fr_t (hb_wsub hW) hb_fr_r h1, h2, hb_same_t (fun j hj => by rw [hm]; exact hj) hb_same_r h3⟩
theorem hw_sp (k : Nat) : hsp k 234 21 = false := by
  match k with
  | 0 | 1 | 2 | 3 | 4 | 5 | 6 | 7 | 8 | 9 | 10 | 11 | 12 | 13 | 14 | 15 | 16 | 17 | 18 | 19 | 20 | 21 | 22 | 23 | 24 | 25 | 26 | 27 | 28 | 29 => rfl
  | n + 30 => rfl
theorem hw_l {d z u : Nat} {Q : (Option Value ⊕ Nat) → mq_S → Prop} {M0 : Nat → mq_C} {x1 x2 x3 : Int32} {pk : Int} (hC : ∀ c ∈ mz_Cs, c.2 < 7 → mz_Ct mz_GG mq_PP HX c.1 c.2) (hd : 7 ≤ d) (hz : 272 ≤ z) (p1 : 0 ≤ x1.toInt) (p2 : x1.toInt ≤ 3) (p3 : 0 ≤ x3.toInt) (p4 : x3.toInt ≤ 23) (p5 : hv M0 244 x3.toInt.toNat + pk + 2 ≤ 240)
    (K : ∀ (M' : Nat → mq_C) (r : Int32), mz_sh mz_GG M' → HX M' → hw_R M0 M' → 0 ≤ r.toInt → 0 ≤ 1 - r.toInt → Q (.inl (some (.int r))) (M', z, u)) :
    ∀ (m : Nat) (M : Nat → mq_C) (x4 : Int32), (m : Int) + x4.toInt = 241 → 0 ≤ x4.toInt → mz_sh mz_GG M → HX M → hw_R M0 M → M 244 = M0 244 → hv M 234 21 = pk → mq_R mq_PP d 135 20 [some (.ref 234), some (.int x1), some (.int x2), some (.int x3), some (.int x4)] [] (M, z, u) Q := by
  intro m
  induction m with
  | zero =>
    intro M x4 e1 e2 hm hx hR h44 hpk
    have hr := hb_rg hm (a := 234) (i := 21) rfl (by decide) rfl
    refine hw_a HX_same (fun c hc h => hC c hc (by omega)) (by omega) hz hm hx (by omega) ?_ ?_
    · intro M1  gs gx gw g8 ge
      intros
      have R1 := hw_Rt hR (hw_Rb (q' := hw_a_q) (by decide) rfl gw g8 ge)
      refine hw_d HX_same (fun c hc h => hC c hc (by omega)) hd hz gs gx (by omega) (by omega) ?_
      intro M2 r k1 k2 k3 k4 k5 l1 l2
      exact K M2 r k1 k2 (hw_Rt R1 (hw_Rb (q' := hw_d_q) (by decide) rfl k3 k4 k5)) l1 l2
    · intro M1  gs gx gw g8 ge
      intros
      omega
  | succ m ih =>
    intro M x4 e1 e2 hm hx hR h44 hpk
    refine hw_a HX_same (fun c hc h => hC c hc (by omega)) (by omega) hz hm hx (by omega) ?_ ?_
    · intro M1  gs gx gw g8 ge
      intros
      have R1 := hw_Rt hR (hw_Rb (q' := hw_a_q) (by decide) rfl gw g8 ge)
      refine hw_d HX_same (fun c hc h => hC c hc (by omega)) hd hz gs gx (by omega) (by omega) ?_
      intro M2 r k1 k2 k3 k4 k5 l1 l2
      exact K M2 r k1 k2 (hw_Rt R1 (hw_Rb (q' := hw_d_q) (by decide) rfl k3 k4 k5)) l1 l2
    · intro M1  gs gx gw g8 ge
      intros
      have R1 := hw_Rt hR (hw_Rb (q' := hw_a_q) (by decide) rfl gw g8 ge)
      have c4 : M1 244 = M0 244 := (gw 244 (by decide) (by decide)).trans h44
      refine hb_ld (n := 43) (kind := 64) gs (by decide +kernel) rfl rfl (.inl rfl) (by omega) (show _ < (24 : Int) by omega) hb_at1 ?_
      intro v hv1 hv2 hv3
      rw [hb_vc c4] at hv1
      refine hw_b HX_same (fun c hc h => hC c hc (by omega)) (by omega) hz gs gx (by omega) (by omega) (by omega) (by omega) (by omega) (by omega) (by omega) ?_
      intro M2 y4 k1 k2 k3 k4 k5
      intros
      exact ih M2 y4 (by omega) (by omega) k1 k2 (hw_Rt R1 (hw_Rb (q' := hw_b_q) (by decide) rfl k3 k4 k5)) ((k3 244 (by decide) (by decide)).trans c4) (by omega)
theorem hw_u {d z u : Nat} {Q : (Option Value ⊕ Nat) → mq_S → Prop} {M : Nat → mq_C} {x1 x2 : Int32} (hC : ∀ c ∈ mz_Cs, c.2 < 7 → mz_Ct mz_GG mq_PP HX c.1 c.2) (hd : 7 ≤ d) (hz : 272 ≤ z) (hm : mz_sh mz_GG M) (hx : HX M) (p1 : 0 ≤ x1.toInt) (p2 : x1.toInt ≤ 3) (p3 : 0 ≤ x2.toInt) (p4 : x2.toInt < hv M 238 x1.toInt.toNat)
    (K : ∀ (M' : Nat → mq_C) (r : Int32), mz_sh mz_GG M' → HX M' → hw_R M M' → 0 ≤ r.toInt → 0 ≤ 1 - r.toInt → Q (.inl (some (.int r))) (M', z, u)) : mq_R mq_PP d 135 0 [some (.ref 234), some (.int x1), some (.int x2), none, none] [] (M, z, u) Q := by
  have hr := hb_rg hm (a := 238) (i := x1.toInt.toNat) rfl (show x1.toInt.toNat < 4 by omega) hb_at1
  have h7 : hx7 x1.toInt.toNat M := by
    have := hx (16 + x1.toInt.toNat)
    rw [hj_k7 (by omega)] at this
    exact this
  have h7 := h7 x2.toInt.toNat (by omega) (by omega)
  refine he_iconst (n := 2) (c := 6) (by decide +kernel) (by decide) ?_
  intro c0 hc0
  refine he_iload (n := 3) (i := 1) (by decide +kernel) rfl ?_
  refine he_imul (n := 4) (p := 6 * x1.toInt) (by decide +kernel) (by rw [hc0]) (by omega) (by omega) ?_
  intro v3 hv3
  refine he_iload (n := 5) (i := 2) (by decide +kernel) rfl ?_
  refine he_iadd (n := 6) (by decide +kernel) (by omega) (by omega) ?_
  intro v5 hv5
  refine he_istore (n := 7) (i := 3) (by decide +kernel) rfl ?_
  refine he_aload (n := 8) (i := 0) (by decide +kernel) rfl ?_
  refine he_aload (n := 9) (i := 0) (by decide +kernel) rfl ?_
  refine he_getr (n := 12) (ci := 9) (j := 9) (ns := [4186, 35]) (b := 243) hm (by decide +kernel) rfl rfl (by decide +kernel) ?_
  refine he_iload (n := 13) (i := 3) (by decide +kernel) rfl ?_
  refine hb_ld (n := 14) (kind := 64) hm (by decide +kernel) rfl rfl (.inl rfl) (by omega) (show _ < (24 : Int) by omega) hb_at1 ?_
  intro v13 hv13 lv13 uv13
  have e13 : v5.toInt.toNat = 6 * x1.toInt.toNat + x2.toInt.toNat := by omega
  rw [← e13] at h7
  have hge := hb_rg hm (a := 244) (i := v5.toInt.toNat) rfl (show v5.toInt.toNat < 24 by omega) hb_at1
  refine hb_pfd (n := 17) (ci := 9) (j := 21) (t := 0) (ns := [4198, 132]) hm (by decide +kernel) rfl rfl (by decide) (.inl rfl) ?_
  generalize hM1 : hb_set M 234 21 v13 = M1
  have hm1 : mz_sh mz_GG M1 := by rw [← hM1]; exact hb_set_sh hm rfl rfl (by omega) (by omega)
  have eM1 : ∀ b j, b ≠ 234 ∨ j ≠ 21 → hv M1 b j = hv M b j := by intro b j h; rw [← hM1]; exact hb_set_n h
  have sM1 : hv M1 234 21 = v13.toInt := by rw [← hM1]; exact hb_set_v hm rfl (by decide)
  have wM1 : ∀ b, b ≠ 234 → M1 b = M b := by intro b h; rw [← hM1]; exact hb_set_c h
  refine he_iconst (n := 18) (c := 0) (by decide +kernel) (by decide) ?_
  intro c17 hc17
  refine he_istore (n := 20) (i := 4) (by decide +kernel) rfl ?_
  have R1 : hw_R M M1 := by
    have ho : hb_only [234] M M1 := hb_only_s hb_only_r (by decide) wM1
    refine ⟨hb_only_fr ho (by decide), hb_low ho (by decide), ?_⟩
    refine hb_same_of (fun t => decide (t.1 ≠ 234 ∨ t.2 ≠ 21)) (fun t ht => eM1 _ _ (of_decide_eq_true ht)) (by decide +kernel)
  have hx1 : HX M1 := fun k => by rw [← hM1]; exact hxk_s (hw_sp k) (hx k)
  have c4 : M1 244 = M 244 := wM1 _ (by decide)
  refine hw_l (M0 := M1) (x1 := x1) (pk := v13.toInt) hC hd hz p1 p2 (by omega) (by omega) (by rw [hb_vc c4]; omega) ?_ 241 M1 c17 (by omega) (by omega) hm1 hx1 ⟨hb_fr_r, fun _ _ => rfl, hb_same_r⟩ rfl sM1
  intro M' r k1 k2 k3 l1 l2
  exact K M' r k1 k2 (hw_Rt R1 k3) l1 l2
theorem hs_unpacked0_P (hC : ∀ c ∈ mz_Cs, c.2 < 7 → mz_Ct mz_GG mq_PP HX c.1 c.2) : hc_unpacked0_P := by
  intro d z u M Q x1 x2 hd hz hm hx p1 p2 p3 p4 K
  refine hw_u hC hd hz hm hx (by omega) (by omega) p3 (by rw [show x1.toInt.toNat = 0 by omega]; omega) ?_
  intro M' r k1 k2 k3 l1 l2
  exact K M' r k1 k2 k3.1 k3.2.1 k3.2.2 l1 l2
theorem hs_unpacked0 (hC : ∀ c ∈ mz_Cs, c.2 < 7 → mz_Ct mz_GG mq_PP HX c.1 c.2) : mz_Ct mz_GG mq_PP HX mz_q145 7 := hc_unpacked0 (hs_unpacked0_P hC)
theorem hs_unpacked1_P (hC : ∀ c ∈ mz_Cs, c.2 < 7 → mz_Ct mz_GG mq_PP HX c.1 c.2) : hc_unpacked1_P := by
  intro d z u M Q x1 x2 hd hz hm hx p1 p2 p3 p4 K
  refine hw_u hC hd hz hm hx (by omega) (by omega) p3 (by rw [show x1.toInt.toNat = 1 by omega]; omega) ?_
  intro M' r k1 k2 k3 l1 l2
  exact K M' r k1 k2 k3.1 k3.2.1 k3.2.2 l1 l2
theorem hs_unpacked1 (hC : ∀ c ∈ mz_Cs, c.2 < 7 → mz_Ct mz_GG mq_PP HX c.1 c.2) : mz_Ct mz_GG mq_PP HX mz_q152 7 := hc_unpacked1 (hs_unpacked1_P hC)
theorem hs_unpacked2_P (hC : ∀ c ∈ mz_Cs, c.2 < 7 → mz_Ct mz_GG mq_PP HX c.1 c.2) : hc_unpacked2_P := by
  intro d z u M Q x1 x2 hd hz hm hx p1 p2 p3 p4 K
  refine hw_u hC hd hz hm hx (by omega) (by omega) p3 (by rw [show x1.toInt.toNat = 2 by omega]; omega) ?_
  intro M' r k1 k2 k3 l1 l2
  exact K M' r k1 k2 k3.1 k3.2.1 k3.2.2 l1 l2
theorem hs_unpacked2 (hC : ∀ c ∈ mz_Cs, c.2 < 7 → mz_Ct mz_GG mq_PP HX c.1 c.2) : mz_Ct mz_GG mq_PP HX mz_q159 7 := hc_unpacked2 (hs_unpacked2_P hC)
theorem hs_unpacked3_P (hC : ∀ c ∈ mz_Cs, c.2 < 7 → mz_Ct mz_GG mq_PP HX c.1 c.2) : hc_unpacked3_P := by
  intro d z u M Q x1 x2 hd hz hm hx p1 p2 p3 p4 K
  refine hw_u hC hd hz hm hx (by omega) (by omega) p3 (by rw [show x1.toInt.toNat = 3 by omega]; omega) ?_
  intro M' r k1 k2 k3 l1 l2
  exact K M' r k1 k2 k3.1 k3.2.1 k3.2.2 l1 l2
theorem hs_unpacked3 (hC : ∀ c ∈ mz_Cs, c.2 < 7 → mz_Ct mz_GG mq_PP HX c.1 c.2) : mz_Ct mz_GG mq_PP HX mz_q166 7 := hc_unpacked3 (hs_unpacked3_P hC)
def hr_b0_q : mz_Q := (138, [(1, 234), (0, 0), (3, 0)], [(0, [(1, 1)]), (0, [(1, -1)])], [20, 21, 22, 23, 46], [(0, 0, [(0, [(69, 1)]), (1, [(69, -1)])])], [234, 238, 239, 240, 241, 242, 243, 244, 245, 246, 247, 248, 252, 253, 254, 255, 256])
def hr_b0_s : List mz_Sp2 := []
def hr_b0_h : List mz_H := [(0, 0, []), (0, 0, [(0, 1)]), (0, 0, [(1, 1)]), (0, 0, []), (247, 0, []), (0, 0, []), (0, 0, []), (0, 0, []), (0, 0, []), (248, 0, []), (0, 0, []), (0, 0, []), (0, 0, []), (0, 0, []), (143, 0, []), (0, 0, []), (0, 0, []), (0, 0, []), (3, 0, []), (0, 0, [(1, 1)]), (0, 0, []), (144, 0, []), (0, 0, []), (0, 0, []), (0, 0, []), (0, 0, []), (0, 0, []), (0, 0, []), (0, 0, []), (0, 0, []), (0, 0, []), (0, 0, []), (0, 0, []), (145, 0, []), (0, 0, []), (0, 0, []), (0, 0, [(0, 1)]), (0, 0, [(1, 1)]), (0, 0, []), (0, 0, []), (3, 0, []), (0, 0, [(1, 1)]), (0, 0, []), (0, 0, []), (0, 0, []), (0, 0, []), (0, 0, []), (147, 0, []), (0, 0, []), (0, 0, []), (0, 0, []), (0, 0, []), (3, 0, []), (0, 0, [(1, 1)]), (0, 0, []), (0, 0, []), (0, 0, []), (0, 0, []), (0, 0, []), (0, 0, []), (0, 0, []), (0, 0, []), (0, 0, []), (0, 0, []), (0, 0, []), (1, 0, []), (0, 0, [(0, 1)]), (0, 0, []), (0, 0, []), (0, 0, []), (0, 0, []), (0, 0, []), (0, 0, []), (0, 0, []), (0, 0, []), (0, 0, []), (0, 0, [])]
set_option maxRecDepth 100000 in
theorem hr_b0_c : mz_blk mz_GG mq_PP mz_Cs hr_b0_q 3 8 7 hr_b0_s [(7, 0, 1, 0, 1, [])] 53 hr_b0_h = true := by decide +kernel
theorem hr_b0 {X : (Nat → mq_C) → Prop} (hX : ∀ M M' : Nat → mq_C, mz_same mz_GG M M' → X M → X M') (hC : ∀ c ∈ mz_Cs, c.2 < 8 → mz_Ct mz_GG mq_PP X c.1 c.2) {d z u : Nat} {M : Nat → mq_C} {Q : (Option Value ⊕ Nat) → mq_S → Prop} {x1 : Int32} {o2 : Option Value} (hd : 8 ≤ d) (hz : 272 ≤ z) (hm : mz_sh mz_GG M) (hx : X M) (h0 : mq_nl o2 = true) (p0 : 0 ≤ x1.toInt) (p1 : 0 ≤ 0 - x1.toInt)
    (w0 : ∀ (M' : Nat → mq_C) (r : Int32), mz_sh mz_GG M' → X M' → mz_fr hr_b0_q M M' → (∀ a, a < 8 → M' a = M a) → hb_same mz_GG hr_b0_q M M' → 0 ≤ r.toInt → 0 ≤ 1 - r.toInt → Q (.inl (some (.int r))) (M', z, u)) : mq_R mq_PP d 138 7 [some (.ref 234), some (.int x1), o2] [] (M, z, u) Q := by
  refine hb_blk mz_GG mq_PP X (q := hr_b0_q) (nl := 3) (M := M) hb_okG hX hC hr_b0_c hz hd (L := [some (.ref 234), some (.int x1), o2]) (st := []) (show hb_lk mz_GG ([(1, 234), (0, 0), (3, 0)]) _ from ⟨⟨List.mem_singleton.mpr rfl, rfl⟩, trivial, h0, trivial⟩) (show hb_pk mz_GG ([]) _ from trivial) hm hx ?_ ?_ ?_
  · exact hb_cons (show 0 ≤ mz_ev _ _ from (show 0 ≤ 0 + (1 * x1.toInt + 0) by omega)) (hb_cons (show 0 ≤ mz_ev _ _ from (show 0 ≤ 0 + ((-1) * x1.toInt + 0) by omega)) (hb_nil))
  · intro s hs
    cases hs
  · intro r S hpo
    obtain ⟨b1, b2, b3, b4, b5, p, hp, res, hf, hre⟩ := hpo
    rcases List.mem_cons.mp hp with rfl | hp
    · obtain ⟨x, rfl, hr, hz1, hu1⟩ := mz_re_0 mz_GG hre rfl
      obtain ⟨M', z', u'⟩ := S
      cases hz1
      cases hu1
      have r69 : hb_r1 mz_GG hr_b0_q (hb_rb mz_GG hr_b0_q 3 [some (.ref 234), some (.int x1), o2] [] M) M' res 69 = res := rfl
      obtain ⟨f0, hf⟩ := hb_unc hf
      have f0 : 0 ≤ 0 + (1 * res + 0) := f0
      rw [← hr] at f0
      obtain ⟨f1, hf⟩ := hb_unc hf
      have f1 : 0 ≤ 1 + ((-1) * res + 0) := f1
      rw [← hr] at f1
      exact w0 M' x b1 b2 b3 b4 b5 (by have h1 := f0; omega) (by have h1 := f1; omega)
    cases hp

theorem hs_isReadable0_P (hC : ∀ c ∈ mz_Cs, c.2 < 9 → mz_Ct mz_GG mq_PP HX c.1 c.2) : hc_isReadable0_P := by
  intro d z u M Q x1 hd hz hm hx p1 p2 K
  refine he_aload (n := 1) (i := 0) (by decide +kernel) rfl ?_
  refine he_getr (n := 4) (ci := 9) (j := 11) (ns := [4188, 41]) (b := 245) hm (by decide +kernel) rfl rfl (by decide +kernel) ?_
  refine he_iload (n := 5) (i := 1) (by decide +kernel) rfl ?_
  refine he_iconst (n := 6) (c := 0) (by decide +kernel) (by decide) ?_
  intro c5 hc5
  refine hb_sta (n := 7) (kind := 64) hm (by decide +kernel) rfl rfl (.inl rfl) (by omega) (show _ < (4 : Int) by omega) ?_
  generalize hM1 : hb_set M 245 (x1.toInt.toNat) c5 = M1
  have hm1 : mz_sh mz_GG M1 := by rw [← hM1]; exact hb_set_sh hm rfl hb_at1 (by omega) (by omega)
  have eM1 : ∀ b j, b ≠ 245 ∨ j ≠ x1.toInt.toNat → hv M1 b j = hv M b j := by intro b j h; rw [← hM1]; exact hb_set_n h
  have sM1 : hv M1 245 (x1.toInt.toNat) = c5.toInt := by rw [← hM1]; exact hb_set_v hm rfl (show _ < 4 by omega)
  have wM1 : ∀ b, b ≠ 245 → M1 b = M b := by intro b h; rw [← hM1]; exact hb_set_c h
  have e1 : x1.toInt.toNat = 0 := by omega
  have ho : hb_only [245] M M1 := hb_only_s hb_only_r (by decide) wM1
  have hx1 : HX M1 := by
    intro k
    by_cases e : k = 20
    · subst e
      intro i j h1 h2 h3
      have h3 : (j : Int) < hv M1 245 0 := h3
      rw [e1] at sM1
      omega
    · rw [← hM1, e1]
      exact hxk_s (hd_sp0 k e 0).2.1 (hx k)
  refine hr_b0 HX_same (fun c hc h => hC c hc (by omega)) (by omega) hz hm1 hx1 rfl (by omega) (by omega) ?_
  intro M' r k1 k2 k3 k4 k5 l1 l2
  exact K M' r k1 k2 (hb_fr_t (q' := hr_b0_q) (hb_wsub (by decide)) (hb_only_fr ho (by decide)) k3) (fun a ha => (k4 a ha).trans (hb_low ho (by decide) a ha)) (hb_same_t (q' := hr_b0_q) (fun j hj => hj) (hb_only_same ho (by decide +kernel)) k5) l1 l2
theorem hs_isReadable0 (hC : ∀ c ∈ mz_Cs, c.2 < 9 → mz_Ct mz_GG mq_PP HX c.1 c.2) : mz_Ct mz_GG mq_PP HX mz_q148 9 := hc_isReadable0 (hs_isReadable0_P hC)
def hr_b1_q : mz_Q := (138, [(1, 234), (0, 0), (3, 0)], [(-1, [(1, 1)]), (1, [(1, -1)])], [20, 21, 22, 23, 50], [(0, 0, [(0, [(69, 1)]), (1, [(69, -1)])])], [234, 238, 239, 240, 241, 242, 243, 244, 245, 246, 247, 248, 252, 253, 254, 255, 256])
def hr_b1_s : List mz_Sp2 := []
def hr_b1_h : List mz_H := [(0, 0, []), (0, 0, [(0, 1)]), (0, 0, [(1, 1)]), (0, 0, []), (247, 0, []), (0, 0, []), (0, 0, []), (0, 0, []), (0, 0, []), (248, 0, []), (0, 0, []), (0, 0, []), (0, 0, []), (0, 0, []), (150, 0, []), (0, 0, []), (0, 0, []), (0, 0, []), (3, 0, []), (0, 0, [(1, 1)]), (0, 0, []), (151, 0, []), (0, 0, []), (0, 0, []), (0, 0, []), (0, 0, []), (0, 0, []), (0, 0, []), (0, 0, []), (0, 0, []), (0, 0, []), (0, 0, []), (0, 0, []), (152, 0, []), (0, 0, []), (0, 0, []), (0, 0, [(0, 1)]), (0, 0, [(1, 1)]), (0, 0, []), (0, 0, []), (3, 0, []), (0, 0, [(1, 1)]), (0, 0, []), (0, 0, []), (0, 0, []), (0, 0, []), (0, 0, []), (154, 0, []), (0, 0, []), (0, 0, []), (0, 0, []), (0, 0, []), (3, 0, []), (0, 0, [(1, 1)]), (0, 0, []), (0, 0, []), (0, 0, []), (0, 0, []), (0, 0, []), (0, 0, []), (0, 0, []), (0, 0, []), (0, 0, []), (0, 0, []), (0, 0, []), (1, 0, []), (0, 0, [(0, 1)]), (0, 0, []), (0, 0, []), (0, 0, []), (0, 0, []), (0, 0, []), (0, 0, []), (0, 0, []), (0, 0, []), (0, 0, []), (0, 0, [])]
set_option maxRecDepth 100000 in
theorem hr_b1_c : mz_blk mz_GG mq_PP mz_Cs hr_b1_q 3 8 7 hr_b1_s [(7, 0, 1, 1, 1, [])] 53 hr_b1_h = true := by decide +kernel
theorem hr_b1 {X : (Nat → mq_C) → Prop} (hX : ∀ M M' : Nat → mq_C, mz_same mz_GG M M' → X M → X M') (hC : ∀ c ∈ mz_Cs, c.2 < 8 → mz_Ct mz_GG mq_PP X c.1 c.2) {d z u : Nat} {M : Nat → mq_C} {Q : (Option Value ⊕ Nat) → mq_S → Prop} {x1 : Int32} {o2 : Option Value} (hd : 8 ≤ d) (hz : 272 ≤ z) (hm : mz_sh mz_GG M) (hx : X M) (h0 : mq_nl o2 = true) (p0 : 0 ≤ (-1) + x1.toInt) (p1 : 0 ≤ 1 - x1.toInt)
    (w0 : ∀ (M' : Nat → mq_C) (r : Int32), mz_sh mz_GG M' → X M' → mz_fr hr_b1_q M M' → (∀ a, a < 8 → M' a = M a) → hb_same mz_GG hr_b1_q M M' → 0 ≤ r.toInt → 0 ≤ 1 - r.toInt → Q (.inl (some (.int r))) (M', z, u)) : mq_R mq_PP d 138 7 [some (.ref 234), some (.int x1), o2] [] (M, z, u) Q := by
  refine hb_blk mz_GG mq_PP X (q := hr_b1_q) (nl := 3) (M := M) hb_okG hX hC hr_b1_c hz hd (L := [some (.ref 234), some (.int x1), o2]) (st := []) (show hb_lk mz_GG ([(1, 234), (0, 0), (3, 0)]) _ from ⟨⟨List.mem_singleton.mpr rfl, rfl⟩, trivial, h0, trivial⟩) (show hb_pk mz_GG ([]) _ from trivial) hm hx ?_ ?_ ?_
  · exact hb_cons (show 0 ≤ mz_ev _ _ from (show 0 ≤ -1 + (1 * x1.toInt + 0) by omega)) (hb_cons (show 0 ≤ mz_ev _ _ from (show 0 ≤ 1 + ((-1) * x1.toInt + 0) by omega)) (hb_nil))
  · intro s hs
    cases hs
  · intro r S hpo
    obtain ⟨b1, b2, b3, b4, b5, p, hp, res, hf, hre⟩ := hpo
    rcases List.mem_cons.mp hp with rfl | hp
    · obtain ⟨x, rfl, hr, hz1, hu1⟩ := mz_re_0 mz_GG hre rfl
      obtain ⟨M', z', u'⟩ := S
      cases hz1
      cases hu1
      have r69 : hb_r1 mz_GG hr_b1_q (hb_rb mz_GG hr_b1_q 3 [some (.ref 234), some (.int x1), o2] [] M) M' res 69 = res := rfl
      obtain ⟨f0, hf⟩ := hb_unc hf
      have f0 : 0 ≤ 0 + (1 * res + 0) := f0
      rw [← hr] at f0
      obtain ⟨f1, hf⟩ := hb_unc hf
      have f1 : 0 ≤ 1 + ((-1) * res + 0) := f1
      rw [← hr] at f1
      exact w0 M' x b1 b2 b3 b4 b5 (by have h1 := f0; omega) (by have h1 := f1; omega)
    cases hp

theorem hs_isReadable1_P (hC : ∀ c ∈ mz_Cs, c.2 < 9 → mz_Ct mz_GG mq_PP HX c.1 c.2) : hc_isReadable1_P := by
  intro d z u M Q x1 hd hz hm hx p1 p2 K
  refine he_aload (n := 1) (i := 0) (by decide +kernel) rfl ?_
  refine he_getr (n := 4) (ci := 9) (j := 11) (ns := [4188, 41]) (b := 245) hm (by decide +kernel) rfl rfl (by decide +kernel) ?_
  refine he_iload (n := 5) (i := 1) (by decide +kernel) rfl ?_
  refine he_iconst (n := 6) (c := 0) (by decide +kernel) (by decide) ?_
  intro c5 hc5
  refine hb_sta (n := 7) (kind := 64) hm (by decide +kernel) rfl rfl (.inl rfl) (by omega) (show _ < (4 : Int) by omega) ?_
  generalize hM1 : hb_set M 245 (x1.toInt.toNat) c5 = M1
  have hm1 : mz_sh mz_GG M1 := by rw [← hM1]; exact hb_set_sh hm rfl hb_at1 (by omega) (by omega)
  have eM1 : ∀ b j, b ≠ 245 ∨ j ≠ x1.toInt.toNat → hv M1 b j = hv M b j := by intro b j h; rw [← hM1]; exact hb_set_n h
  have sM1 : hv M1 245 (x1.toInt.toNat) = c5.toInt := by rw [← hM1]; exact hb_set_v hm rfl (show _ < 4 by omega)
  have wM1 : ∀ b, b ≠ 245 → M1 b = M b := by intro b h; rw [← hM1]; exact hb_set_c h
  have e1 : x1.toInt.toNat = 1 := by omega
  have ho : hb_only [245] M M1 := hb_only_s hb_only_r (by decide) wM1
  have hx1 : HX M1 := by
    intro k
    by_cases e : k = 21
    · subst e
      intro i j h1 h2 h3
      have h3 : (j : Int) < hv M1 245 1 := h3
      rw [e1] at sM1
      omega
    · rw [← hM1, e1]
      exact hxk_s (hd_sp1 k e 0).2.1 (hx k)
  refine hr_b1 HX_same (fun c hc h => hC c hc (by omega)) (by omega) hz hm1 hx1 rfl (by omega) (by omega) ?_
  intro M' r k1 k2 k3 k4 k5 l1 l2
  exact K M' r k1 k2 (hb_fr_t (q' := hr_b1_q) (hb_wsub (by decide)) (hb_only_fr ho (by decide)) k3) (fun a ha => (k4 a ha).trans (hb_low ho (by decide) a ha)) (hb_same_t (q' := hr_b1_q) (fun j hj => hj) (hb_only_same ho (by decide +kernel)) k5) l1 l2
theorem hs_isReadable1 (hC : ∀ c ∈ mz_Cs, c.2 < 9 → mz_Ct mz_GG mq_PP HX c.1 c.2) : mz_Ct mz_GG mq_PP HX mz_q155 9 := hc_isReadable1 (hs_isReadable1_P hC)
def hr_b2_q : mz_Q := (138, [(1, 234), (0, 0), (3, 0)], [(-2, [(1, 1)]), (2, [(1, -1)])], [20, 21, 22, 23, 54], [(0, 0, [(0, [(69, 1)]), (1, [(69, -1)])])], [234, 238, 239, 240, 241, 242, 243, 244, 245, 246, 247, 248, 252, 253, 254, 255, 256])
def hr_b2_s : List mz_Sp2 := []
def hr_b2_h : List mz_H := [(0, 0, []), (0, 0, [(0, 1)]), (0, 0, [(1, 1)]), (0, 0, []), (247, 0, []), (0, 0, []), (0, 0, []), (0, 0, []), (0, 0, []), (248, 0, []), (0, 0, []), (0, 0, []), (0, 0, []), (0, 0, []), (157, 0, []), (0, 0, []), (0, 0, []), (0, 0, []), (3, 0, []), (0, 0, [(1, 1)]), (0, 0, []), (158, 0, []), (0, 0, []), (0, 0, []), (0, 0, []), (0, 0, []), (0, 0, []), (0, 0, []), (0, 0, []), (0, 0, []), (0, 0, []), (0, 0, []), (0, 0, []), (159, 0, []), (0, 0, []), (0, 0, []), (0, 0, [(0, 1)]), (0, 0, [(1, 1)]), (0, 0, []), (0, 0, []), (3, 0, []), (0, 0, [(1, 1)]), (0, 0, []), (0, 0, []), (0, 0, []), (0, 0, []), (0, 0, []), (161, 0, []), (0, 0, []), (0, 0, []), (0, 0, []), (0, 0, []), (3, 0, []), (0, 0, [(1, 1)]), (0, 0, []), (0, 0, []), (0, 0, []), (0, 0, []), (0, 0, []), (0, 0, []), (0, 0, []), (0, 0, []), (0, 0, []), (0, 0, []), (0, 0, []), (1, 0, []), (0, 0, [(0, 1)]), (0, 0, []), (0, 0, []), (0, 0, []), (0, 0, []), (0, 0, []), (0, 0, []), (0, 0, []), (0, 0, []), (0, 0, []), (0, 0, [])]
set_option maxRecDepth 100000 in
theorem hr_b2_c : mz_blk mz_GG mq_PP mz_Cs hr_b2_q 3 8 7 hr_b2_s [(7, 0, 1, 2, 1, [])] 53 hr_b2_h = true := by decide +kernel
theorem hr_b2 {X : (Nat → mq_C) → Prop} (hX : ∀ M M' : Nat → mq_C, mz_same mz_GG M M' → X M → X M') (hC : ∀ c ∈ mz_Cs, c.2 < 8 → mz_Ct mz_GG mq_PP X c.1 c.2) {d z u : Nat} {M : Nat → mq_C} {Q : (Option Value ⊕ Nat) → mq_S → Prop} {x1 : Int32} {o2 : Option Value} (hd : 8 ≤ d) (hz : 272 ≤ z) (hm : mz_sh mz_GG M) (hx : X M) (h0 : mq_nl o2 = true) (p0 : 0 ≤ (-2) + x1.toInt) (p1 : 0 ≤ 2 - x1.toInt)
    (w0 : ∀ (M' : Nat → mq_C) (r : Int32), mz_sh mz_GG M' → X M' → mz_fr hr_b2_q M M' → (∀ a, a < 8 → M' a = M a) → hb_same mz_GG hr_b2_q M M' → 0 ≤ r.toInt → 0 ≤ 1 - r.toInt → Q (.inl (some (.int r))) (M', z, u)) : mq_R mq_PP d 138 7 [some (.ref 234), some (.int x1), o2] [] (M, z, u) Q := by
  refine hb_blk mz_GG mq_PP X (q := hr_b2_q) (nl := 3) (M := M) hb_okG hX hC hr_b2_c hz hd (L := [some (.ref 234), some (.int x1), o2]) (st := []) (show hb_lk mz_GG ([(1, 234), (0, 0), (3, 0)]) _ from ⟨⟨List.mem_singleton.mpr rfl, rfl⟩, trivial, h0, trivial⟩) (show hb_pk mz_GG ([]) _ from trivial) hm hx ?_ ?_ ?_
  · exact hb_cons (show 0 ≤ mz_ev _ _ from (show 0 ≤ -2 + (1 * x1.toInt + 0) by omega)) (hb_cons (show 0 ≤ mz_ev _ _ from (show 0 ≤ 2 + ((-1) * x1.toInt + 0) by omega)) (hb_nil))
  · intro s hs
    cases hs
  · intro r S hpo
    obtain ⟨b1, b2, b3, b4, b5, p, hp, res, hf, hre⟩ := hpo
    rcases List.mem_cons.mp hp with rfl | hp
    · obtain ⟨x, rfl, hr, hz1, hu1⟩ := mz_re_0 mz_GG hre rfl
      obtain ⟨M', z', u'⟩ := S
      cases hz1
      cases hu1
      have r69 : hb_r1 mz_GG hr_b2_q (hb_rb mz_GG hr_b2_q 3 [some (.ref 234), some (.int x1), o2] [] M) M' res 69 = res := rfl
      obtain ⟨f0, hf⟩ := hb_unc hf
      have f0 : 0 ≤ 0 + (1 * res + 0) := f0
      rw [← hr] at f0
      obtain ⟨f1, hf⟩ := hb_unc hf
      have f1 : 0 ≤ 1 + ((-1) * res + 0) := f1
      rw [← hr] at f1
      exact w0 M' x b1 b2 b3 b4 b5 (by have h1 := f0; omega) (by have h1 := f1; omega)
    cases hp

theorem hs_isReadable2_P (hC : ∀ c ∈ mz_Cs, c.2 < 9 → mz_Ct mz_GG mq_PP HX c.1 c.2) : hc_isReadable2_P := by
  intro d z u M Q x1 hd hz hm hx p1 p2 K
  refine he_aload (n := 1) (i := 0) (by decide +kernel) rfl ?_
  refine he_getr (n := 4) (ci := 9) (j := 11) (ns := [4188, 41]) (b := 245) hm (by decide +kernel) rfl rfl (by decide +kernel) ?_
  refine he_iload (n := 5) (i := 1) (by decide +kernel) rfl ?_
  refine he_iconst (n := 6) (c := 0) (by decide +kernel) (by decide) ?_
  intro c5 hc5
  refine hb_sta (n := 7) (kind := 64) hm (by decide +kernel) rfl rfl (.inl rfl) (by omega) (show _ < (4 : Int) by omega) ?_
  generalize hM1 : hb_set M 245 (x1.toInt.toNat) c5 = M1
  have hm1 : mz_sh mz_GG M1 := by rw [← hM1]; exact hb_set_sh hm rfl hb_at1 (by omega) (by omega)
  have eM1 : ∀ b j, b ≠ 245 ∨ j ≠ x1.toInt.toNat → hv M1 b j = hv M b j := by intro b j h; rw [← hM1]; exact hb_set_n h
  have sM1 : hv M1 245 (x1.toInt.toNat) = c5.toInt := by rw [← hM1]; exact hb_set_v hm rfl (show _ < 4 by omega)
  have wM1 : ∀ b, b ≠ 245 → M1 b = M b := by intro b h; rw [← hM1]; exact hb_set_c h
  have e1 : x1.toInt.toNat = 2 := by omega
  have ho : hb_only [245] M M1 := hb_only_s hb_only_r (by decide) wM1
  have hx1 : HX M1 := by
    intro k
    by_cases e : k = 22
    · subst e
      intro i j h1 h2 h3
      have h3 : (j : Int) < hv M1 245 2 := h3
      rw [e1] at sM1
      omega
    · rw [← hM1, e1]
      exact hxk_s (hd_sp2 k e 0).2.1 (hx k)
  refine hr_b2 HX_same (fun c hc h => hC c hc (by omega)) (by omega) hz hm1 hx1 rfl (by omega) (by omega) ?_
  intro M' r k1 k2 k3 k4 k5 l1 l2
  exact K M' r k1 k2 (hb_fr_t (q' := hr_b2_q) (hb_wsub (by decide)) (hb_only_fr ho (by decide)) k3) (fun a ha => (k4 a ha).trans (hb_low ho (by decide) a ha)) (hb_same_t (q' := hr_b2_q) (fun j hj => hj) (hb_only_same ho (by decide +kernel)) k5) l1 l2
theorem hs_isReadable2 (hC : ∀ c ∈ mz_Cs, c.2 < 9 → mz_Ct mz_GG mq_PP HX c.1 c.2) : mz_Ct mz_GG mq_PP HX mz_q162 9 := hc_isReadable2 (hs_isReadable2_P hC)
def hr_b3_q : mz_Q := (138, [(1, 234), (0, 0), (3, 0)], [(-3, [(1, 1)]), (3, [(1, -1)])], [20, 21, 22, 23, 58], [(0, 0, [(0, [(69, 1)]), (1, [(69, -1)])])], [234, 238, 239, 240, 241, 242, 243, 244, 245, 246, 247, 248, 252, 253, 254, 255, 256])
def hr_b3_s : List mz_Sp2 := []
def hr_b3_h : List mz_H := [(0, 0, []), (0, 0, [(0, 1)]), (0, 0, [(1, 1)]), (0, 0, []), (247, 0, []), (0, 0, []), (0, 0, []), (0, 0, []), (0, 0, []), (248, 0, []), (0, 0, []), (0, 0, []), (0, 0, []), (0, 0, []), (164, 0, []), (0, 0, []), (0, 0, []), (0, 0, []), (3, 0, []), (0, 0, [(1, 1)]), (0, 0, []), (165, 0, []), (0, 0, []), (0, 0, []), (0, 0, []), (0, 0, []), (0, 0, []), (0, 0, []), (0, 0, []), (0, 0, []), (0, 0, []), (0, 0, []), (0, 0, []), (166, 0, []), (0, 0, []), (0, 0, []), (0, 0, [(0, 1)]), (0, 0, [(1, 1)]), (0, 0, []), (0, 0, []), (3, 0, []), (0, 0, [(1, 1)]), (0, 0, []), (0, 0, []), (0, 0, []), (0, 0, []), (0, 0, []), (168, 0, []), (0, 0, []), (0, 0, []), (0, 0, []), (0, 0, []), (3, 0, []), (0, 0, [(1, 1)]), (0, 0, []), (0, 0, []), (0, 0, []), (0, 0, []), (0, 0, []), (0, 0, []), (0, 0, []), (0, 0, []), (0, 0, []), (0, 0, []), (0, 0, []), (1, 0, []), (0, 0, [(0, 1)]), (0, 0, []), (0, 0, []), (0, 0, []), (0, 0, []), (0, 0, []), (0, 0, []), (0, 0, []), (0, 0, []), (0, 0, []), (0, 0, [])]
set_option maxRecDepth 100000 in
theorem hr_b3_c : mz_blk mz_GG mq_PP mz_Cs hr_b3_q 3 8 7 hr_b3_s [(7, 0, 1, 3, 1, [])] 53 hr_b3_h = true := by decide +kernel
theorem hr_b3 {X : (Nat → mq_C) → Prop} (hX : ∀ M M' : Nat → mq_C, mz_same mz_GG M M' → X M → X M') (hC : ∀ c ∈ mz_Cs, c.2 < 8 → mz_Ct mz_GG mq_PP X c.1 c.2) {d z u : Nat} {M : Nat → mq_C} {Q : (Option Value ⊕ Nat) → mq_S → Prop} {x1 : Int32} {o2 : Option Value} (hd : 8 ≤ d) (hz : 272 ≤ z) (hm : mz_sh mz_GG M) (hx : X M) (h0 : mq_nl o2 = true) (p0 : 0 ≤ (-3) + x1.toInt) (p1 : 0 ≤ 3 - x1.toInt)
    (w0 : ∀ (M' : Nat → mq_C) (r : Int32), mz_sh mz_GG M' → X M' → mz_fr hr_b3_q M M' → (∀ a, a < 8 → M' a = M a) → hb_same mz_GG hr_b3_q M M' → 0 ≤ r.toInt → 0 ≤ 1 - r.toInt → Q (.inl (some (.int r))) (M', z, u)) : mq_R mq_PP d 138 7 [some (.ref 234), some (.int x1), o2] [] (M, z, u) Q := by
  refine hb_blk mz_GG mq_PP X (q := hr_b3_q) (nl := 3) (M := M) hb_okG hX hC hr_b3_c hz hd (L := [some (.ref 234), some (.int x1), o2]) (st := []) (show hb_lk mz_GG ([(1, 234), (0, 0), (3, 0)]) _ from ⟨⟨List.mem_singleton.mpr rfl, rfl⟩, trivial, h0, trivial⟩) (show hb_pk mz_GG ([]) _ from trivial) hm hx ?_ ?_ ?_
  · exact hb_cons (show 0 ≤ mz_ev _ _ from (show 0 ≤ -3 + (1 * x1.toInt + 0) by omega)) (hb_cons (show 0 ≤ mz_ev _ _ from (show 0 ≤ 3 + ((-1) * x1.toInt + 0) by omega)) (hb_nil))
  · intro s hs
    cases hs
  · intro r S hpo
    obtain ⟨b1, b2, b3, b4, b5, p, hp, res, hf, hre⟩ := hpo
    rcases List.mem_cons.mp hp with rfl | hp
    · obtain ⟨x, rfl, hr, hz1, hu1⟩ := mz_re_0 mz_GG hre rfl
      obtain ⟨M', z', u'⟩ := S
      cases hz1
      cases hu1
      have r69 : hb_r1 mz_GG hr_b3_q (hb_rb mz_GG hr_b3_q 3 [some (.ref 234), some (.int x1), o2] [] M) M' res 69 = res := rfl
      obtain ⟨f0, hf⟩ := hb_unc hf
      have f0 : 0 ≤ 0 + (1 * res + 0) := f0
      rw [← hr] at f0
      obtain ⟨f1, hf⟩ := hb_unc hf
      have f1 : 0 ≤ 1 + ((-1) * res + 0) := f1
      rw [← hr] at f1
      exact w0 M' x b1 b2 b3 b4 b5 (by have h1 := f0; omega) (by have h1 := f1; omega)
    cases hp

theorem hs_isReadable3_P (hC : ∀ c ∈ mz_Cs, c.2 < 9 → mz_Ct mz_GG mq_PP HX c.1 c.2) : hc_isReadable3_P := by
  intro d z u M Q x1 hd hz hm hx p1 p2 K
  refine he_aload (n := 1) (i := 0) (by decide +kernel) rfl ?_
  refine he_getr (n := 4) (ci := 9) (j := 11) (ns := [4188, 41]) (b := 245) hm (by decide +kernel) rfl rfl (by decide +kernel) ?_
  refine he_iload (n := 5) (i := 1) (by decide +kernel) rfl ?_
  refine he_iconst (n := 6) (c := 0) (by decide +kernel) (by decide) ?_
  intro c5 hc5
  refine hb_sta (n := 7) (kind := 64) hm (by decide +kernel) rfl rfl (.inl rfl) (by omega) (show _ < (4 : Int) by omega) ?_
  generalize hM1 : hb_set M 245 (x1.toInt.toNat) c5 = M1
  have hm1 : mz_sh mz_GG M1 := by rw [← hM1]; exact hb_set_sh hm rfl hb_at1 (by omega) (by omega)
  have eM1 : ∀ b j, b ≠ 245 ∨ j ≠ x1.toInt.toNat → hv M1 b j = hv M b j := by intro b j h; rw [← hM1]; exact hb_set_n h
  have sM1 : hv M1 245 (x1.toInt.toNat) = c5.toInt := by rw [← hM1]; exact hb_set_v hm rfl (show _ < 4 by omega)
  have wM1 : ∀ b, b ≠ 245 → M1 b = M b := by intro b h; rw [← hM1]; exact hb_set_c h
  have e1 : x1.toInt.toNat = 3 := by omega
  have ho : hb_only [245] M M1 := hb_only_s hb_only_r (by decide) wM1
  have hx1 : HX M1 := by
    intro k
    by_cases e : k = 23
    · subst e
      intro i j h1 h2 h3
      have h3 : (j : Int) < hv M1 245 3 := h3
      rw [e1] at sM1
      omega
    · rw [← hM1, e1]
      exact hxk_s (hd_sp3 k e 0).2.1 (hx k)
  refine hr_b3 HX_same (fun c hc h => hC c hc (by omega)) (by omega) hz hm1 hx1 rfl (by omega) (by omega) ?_
  intro M' r k1 k2 k3 k4 k5 l1 l2
  exact K M' r k1 k2 (hb_fr_t (q' := hr_b3_q) (hb_wsub (by decide)) (hb_only_fr ho (by decide)) k3) (fun a ha => (k4 a ha).trans (hb_low ho (by decide) a ha)) (hb_same_t (q' := hr_b3_q) (fun j hj => hj) (hb_only_same ho (by decide +kernel)) k5) l1 l2
theorem hs_isReadable3 (hC : ∀ c ∈ mz_Cs, c.2 < 9 → mz_Ct mz_GG mq_PP HX c.1 c.2) : mz_Ct mz_GG mq_PP HX mz_q169 9 := hc_isReadable3 (hs_isReadable3_P hC)
