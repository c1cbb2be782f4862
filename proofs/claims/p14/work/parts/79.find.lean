/-! findPath of the model. -/
def hf_a_q : mz_Q := (143, [(1, 234), (0, 0), (3, 0), (3, 0), (3, 0), (3, 0)], [(0, [(1, 1)]), (3, [(1, -1)])], [25, 20, 21, 22, 23, 46, 50, 54, 58], [], [234])
def hf_a_s : List mz_Sp2 := [(19, [(1, 234), (0, 0), (0, 0), (0, 0), (0, 0), (3, 0)], [], [(0, [(1, -1), (68, 1)]), (0, [(1, 1), (68, -1)]), (0, [(69, 1)]), (0, [(69, -1)]), (0, [(70, 1)]), (0, [(70, -1)]), (0, [(73, 1)]), (0, [(73, -1)]), (0, [(26, -1), (74, 1)]), (0, [(26, 1), (74, -1)]), (0, [(27, -1), (75, 1)]), (0, [(27, 1), (75, -1)]), (0, [(28, -1), (76, 1)]), (0, [(28, 1), (76, -1)]), (0, [(29, -1), (77, 1)]), (0, [(29, 1), (77, -1)]), (0, [(52, -1), (78, 1)]), (0, [(52, 1), (78, -1)]), (0, [(56, -1), (79, 1)]), (0, [(56, 1), (79, -1)]), (0, [(60, -1), (80, 1)]), (0, [(60, 1), (80, -1)]), (0, [(64, -1), (81, 1)]), (0, [(64, 1), (81, -1)]), (3, [(71, -1)]), (1, [(71, 1)])])]
def hf_a_h : List mz_H := [(0, 0, []), (0, 0, []), (258, 0, []), (0, 0, [(0, 1)]), (0, 0, [(1, 1)]), (0, 0, []), (0, 0, [(0, 1)]), (0, 0, [(1, 1)]), (0, 0, []), (0, 0, []), (0, 0, []), (0, 0, []), (0, 0, []), (0, 0, []), (0, 0, []), (0, 0, []), (0, 0, []), (0, 0, []), (0, 0, []), (0, 0, []), (0, 0, []), (0, 0, []), (0, 0, []), (0, 0, []), (0, 0, []), (0, 0, []), (0, 0, []), (0, 0, []), (0, 0, []), (0, 0, []), (0, 0, []), (0, 0, []), (0, 0, []), (0, 0, [(1, 1)]), (0, 0, [(0, 1)])]
set_option maxRecDepth 100000 in
theorem hf_a_c : mz_blk mz_GG mq_PP mz_Cs hf_a_q 6 1 0 hf_a_s [] 20 hf_a_h = true := by decide +kernel
theorem hf_a {X : (Nat → mq_C) → Prop} (hX : ∀ M M' : Nat → mq_C, mz_same mz_GG M M' → X M → X M') (hC : ∀ c ∈ mz_Cs, c.2 < 1 → mz_Ct mz_GG mq_PP X c.1 c.2) {d z u : Nat} {M : Nat → mq_C} {Q : (Option Value ⊕ Nat) → mq_S → Prop} {x1 : Int32} {o2 : Option Value} {o3 : Option Value} {o4 : Option Value} {o5 : Option Value} (hd : 1 ≤ d) (hz : 272 ≤ z) (hm : mz_sh mz_GG M) (hx : X M) (h0 : mq_nl o2 = true) (h1 : mq_nl o3 = true) (h2 : mq_nl o4 = true) (h3 : mq_nl o5 = true) (p0 : 0 ≤ x1.toInt) (p1 : 0 ≤ 3 - x1.toInt)
    (k0 : ∀ (M' : Nat → mq_C) (y2 : Int32) (y3 : Int32) (y4 : Int32) (w5 : Option Value), mz_sh mz_GG M' → X M' → mz_fr hf_a_q M M' → (∀ a, a < 8 → M' a = M a) → hb_same mz_GG hf_a_q M M' → mq_nl w5 = true → y2.toInt = 0 → y3.toInt = 0 → hv M' 234 38 = 0 → hv M' 234 21 = hv M 234 21 → hv M' 234 23 = hv M 234 23 → hv M' 234 24 = hv M 234 24 → hv M' 234 25 = hv M 234 25 → hv M' 238 0 = hv M 238 0 → hv M' 238 1 = hv M 238 1 → hv M' 238 2 = hv M 238 2 → hv M' 238 3 = hv M 238 3 → 0 ≤ 3 - y4.toInt → 0 ≤ 1 + y4.toInt → mq_R mq_PP d 143 19 [some (.ref 234), some (.int x1), some (.int y2), some (.int y3), some (.int y4), w5] [] (M', z, u) Q) : mq_R mq_PP d 143 0 [some (.ref 234), some (.int x1), o2, o3, o4, o5] [] (M, z, u) Q := by
  refine hb_blk mz_GG mq_PP X (q := hf_a_q) (nl := 6) (M := M) hb_okG hX hC hf_a_c hz hd (L := [some (.ref 234), some (.int x1), o2, o3, o4, o5]) (st := []) (show hb_lk mz_GG ([(1, 234), (0, 0), (3, 0), (3, 0), (3, 0), (3, 0)]) _ from ⟨⟨List.mem_singleton.mpr rfl, rfl⟩, trivial, h0, h1, h2, h3, trivial⟩) (show hb_pk mz_GG ([]) _ from trivial) hm hx ?_ ?_ ?_
  · exact hb_cons (show 0 ≤ mz_ev _ _ from (show 0 ≤ 0 + (1 * x1.toInt + 0) by omega)) (hb_cons (show 0 ≤ mz_ev _ _ from (show 0 ≤ 3 + ((-1) * x1.toInt + 0) by omega)) (hb_nil))
  · intro s hs
    rcases List.mem_cons.mp hs with rfl | hs
    · intro ρ1 L' st' M' g1 g2 gm gr gf gs gx gw g8 ge
      obtain ⟨e0, L1, rfl, n0, gg0⟩ := hb_l1 mz_GG g1
      obtain rfl : e0 = 234 := List.mem_singleton.mp n0
      obtain ⟨y1, L1, rfl, qr68, gg1⟩ := hb_l0 mz_GG gg0
      have r68 : ρ1 68 = y1.toInt := qr68
      obtain ⟨y2, L1, rfl, qr69, gg2⟩ := hb_l0 mz_GG gg1
      have r69 : ρ1 69 = y2.toInt := qr69
      obtain ⟨y3, L1, rfl, qr70, gg3⟩ := hb_l0 mz_GG gg2
      have r70 : ρ1 70 = y3.toInt := qr70
      obtain ⟨y4, L1, rfl, qr71, gg4⟩ := hb_l0 mz_GG gg3
      have r71 : ρ1 71 = y4.toInt := qr71
      obtain ⟨w5, L1, rfl, n5, gg5⟩ := hb_l3 mz_GG gg4
      obtain rfl := hb_ln mz_GG gg5
      obtain rfl := hb_pn mz_GG g2
      have r1 : ρ1 1 = x1.toInt := gr 1 (by decide +kernel)
      have r26 : ρ1 26 = hv M 234 21 := gr 26 (by decide +kernel)
      have r27 : ρ1 27 = hv M 234 23 := gr 27 (by decide +kernel)
      have r28 : ρ1 28 = hv M 234 24 := gr 28 (by decide +kernel)
      have r29 : ρ1 29 = hv M 234 25 := gr 29 (by decide +kernel)
      have r52 : ρ1 52 = hv M 238 0 := gr 52 (by decide +kernel)
      have r56 : ρ1 56 = hv M 238 1 := gr 56 (by decide +kernel)
      have r60 : ρ1 60 = hv M 238 2 := gr 60 (by decide +kernel)
      have r64 : ρ1 64 = hv M 238 3 := gr 64 (by decide +kernel)
      have r73 : ρ1 73 = hv M' 234 38 := gm 0 25 (234, 38) rfl rfl
      have r74 : ρ1 74 = hv M' 234 21 := gm 1 20 (234, 21) rfl rfl
      have r75 : ρ1 75 = hv M' 234 23 := gm 2 21 (234, 23) rfl rfl
      have r76 : ρ1 76 = hv M' 234 24 := gm 3 22 (234, 24) rfl rfl
      have r77 : ρ1 77 = hv M' 234 25 := gm 4 23 (234, 25) rfl rfl
      have r78 : ρ1 78 = hv M' 238 0 := gm 5 46 (238, 0) rfl rfl
      have r79 : ρ1 79 = hv M' 238 1 := gm 6 50 (238, 1) rfl rfl
      have r80 : ρ1 80 = hv M' 238 2 := gm 7 54 (238, 2) rfl rfl
      have r81 : ρ1 81 = hv M' 238 3 := gm 8 58 (238, 3) rfl rfl
      obtain ⟨f0, gf⟩ := hb_unc gf
      have f0 : 0 ≤ 0 + ((-1) * ρ1 1 + (1 * ρ1 68 + 0)) := f0
      rw [r1, r68] at f0
      obtain ⟨f1, gf⟩ := hb_unc gf
      have f1 : 0 ≤ 0 + (1 * ρ1 1 + ((-1) * ρ1 68 + 0)) := f1
      rw [r1, r68] at f1
      obtain ⟨f2, gf⟩ := hb_unc gf
      have f2 : 0 ≤ 0 + (1 * ρ1 69 + 0) := f2
      rw [r69] at f2
      obtain ⟨f3, gf⟩ := hb_unc gf
      have f3 : 0 ≤ 0 + ((-1) * ρ1 69 + 0) := f3
      rw [r69] at f3
      obtain ⟨f4, gf⟩ := hb_unc gf
      have f4 : 0 ≤ 0 + (1 * ρ1 70 + 0) := f4
      rw [r70] at f4
      obtain ⟨f5, gf⟩ := hb_unc gf
      have f5 : 0 ≤ 0 + ((-1) * ρ1 70 + 0) := f5
      rw [r70] at f5
      obtain ⟨f6, gf⟩ := hb_unc gf
      have f6 : 0 ≤ 0 + (1 * ρ1 73 + 0) := f6
      rw [r73] at f6
      obtain ⟨f7, gf⟩ := hb_unc gf
      have f7 : 0 ≤ 0 + ((-1) * ρ1 73 + 0) := f7
      rw [r73] at f7
      obtain ⟨f8, gf⟩ := hb_unc gf
      have f8 : 0 ≤ 0 + ((-1) * ρ1 26 + (1 * ρ1 74 + 0)) := f8
      rw [r26, r74] at f8
      obtain ⟨f9, gf⟩ := hb_unc gf
      have f9 : 0 ≤ 0 + (1 * ρ1 26 + ((-1) * ρ1 74 + 0)) := f9
      rw [r26, r74] at f9
      obtain ⟨f10, gf⟩ := hb_unc gf
      have f10 : 0 ≤ 0 + ((-1) * ρ1 27 + (1 * ρ1 75 + 0)) := f10
      rw [r27, r75] at f10
      obtain ⟨f11, gf⟩ := hb_unc gf
      have f11 : 0 ≤ 0 + (1 * ρ1 27 + ((-1) * ρ1 75 + 0)) := f11
      rw [r27, r75] at f11
      obtain ⟨f12, gf⟩ := hb_unc gf
      have f12 : 0 ≤ 0 + ((-1) * ρ1 28 + (1 * ρ1 76 + 0)) := f12
      rw [r28, r76] at f12
      obtain ⟨f13, gf⟩ := hb_unc gf
      have f13 : 0 ≤ 0 + (1 * ρ1 28 + ((-1) * ρ1 76 + 0)) := f13
      rw [r28, r76] at f13
      obtain ⟨f14, gf⟩ := hb_unc gf
      have f14 : 0 ≤ 0 + ((-1) * ρ1 29 + (1 * ρ1 77 + 0)) := f14
      rw [r29, r77] at f14
      obtain ⟨f15, gf⟩ := hb_unc gf
      have f15 : 0 ≤ 0 + (1 * ρ1 29 + ((-1) * ρ1 77 + 0)) := f15
      rw [r29, r77] at f15
      obtain ⟨f16, gf⟩ := hb_unc gf
      have f16 : 0 ≤ 0 + ((-1) * ρ1 52 + (1 * ρ1 78 + 0)) := f16
      rw [r52, r78] at f16
      obtain ⟨f17, gf⟩ := hb_unc gf
      have f17 : 0 ≤ 0 + (1 * ρ1 52 + ((-1) * ρ1 78 + 0)) := f17
      rw [r52, r78] at f17
      obtain ⟨f18, gf⟩ := hb_unc gf
      have f18 : 0 ≤ 0 + ((-1) * ρ1 56 + (1 * ρ1 79 + 0)) := f18
      rw [r56, r79] at f18
      obtain ⟨f19, gf⟩ := hb_unc gf
      have f19 : 0 ≤ 0 + (1 * ρ1 56 + ((-1) * ρ1 79 + 0)) := f19
      rw [r56, r79] at f19
      obtain ⟨f20, gf⟩ := hb_unc gf
      have f20 : 0 ≤ 0 + ((-1) * ρ1 60 + (1 * ρ1 80 + 0)) := f20
      rw [r60, r80] at f20
      obtain ⟨f21, gf⟩ := hb_unc gf
      have f21 : 0 ≤ 0 + (1 * ρ1 60 + ((-1) * ρ1 80 + 0)) := f21
      rw [r60, r80] at f21
      obtain ⟨f22, gf⟩ := hb_unc gf
      have f22 : 0 ≤ 0 + ((-1) * ρ1 64 + (1 * ρ1 81 + 0)) := f22
      rw [r64, r81] at f22
      obtain ⟨f23, gf⟩ := hb_unc gf
      have f23 : 0 ≤ 0 + (1 * ρ1 64 + ((-1) * ρ1 81 + 0)) := f23
      rw [r64, r81] at f23
      obtain ⟨f24, gf⟩ := hb_unc gf
      have f24 : 0 ≤ 3 + ((-1) * ρ1 71 + 0) := f24
      rw [r71] at f24
      obtain ⟨f25, gf⟩ := hb_unc gf
      have f25 : 0 ≤ 1 + (1 * ρ1 71 + 0) := f25
      rw [r71] at f25
      have hy1 : y1 = x1 := hb_inj f0 f1
      subst y1
      exact k0 M' y2 y3 y4 w5 gs gx gw g8 ge n5 (by have h1 := f2; have h2 := f3; omega) (by have h1 := f4; have h2 := f5; omega) (by have h1 := f6; have h2 := f7; omega) (by have h1 := f8; have h2 := f9; omega) (by have h1 := f10; have h2 := f11; omega) (by have h1 := f12; have h2 := f13; omega) (by have h1 := f14; have h2 := f15; omega) (by have h1 := f16; have h2 := f17; omega) (by have h1 := f18; have h2 := f19; omega) (by have h1 := f20; have h2 := f21; omega) (by have h1 := f22; have h2 := f23; omega) (by have h1 := f24; omega) (by have h1 := f25; omega)
    cases hs
  · intro r S hpo
    obtain ⟨b1, b2, b3, b4, b5, p, hp, res, hf, hre⟩ := hpo
    cases hp

def hf_b_q : mz_Q := (143, [(1, 234), (0, 0), (0, 0), (0, 0), (0, 0), (3, 0)], [(0, [(1, 1)]), (3, [(1, -1)]), (0, [(3, 1)]), (1, [(4, 1)]), (3, [(3, -1), (4, -1)])], [25, 20, 21, 22, 23, 46, 50, 54, 58], [], [265])
def hf_b_s : List mz_Sp2 := [(59, [(1, 234), (0, 0), (0, 0), (0, 0), (0, 0), (3, 0)], [], [(0, [(1, -1), (68, 1)]), (0, [(1, 1), (68, -1)]), (0, [(2, -1), (69, 1)]), (0, [(2, 1), (69, -1)]), (0, [(3, -1), (70, 1)]), (0, [(3, 1), (70, -1)]), (0, [(4, -1), (71, 1)]), (0, [(4, 1), (71, -1)]), (0, [(31, -1), (73, 1)]), (0, [(31, 1), (73, -1)]), (0, [(26, -1), (74, 1)]), (0, [(26, 1), (74, -1)]), (0, [(27, -1), (75, 1)]), (0, [(27, 1), (75, -1)]), (0, [(28, -1), (76, 1)]), (0, [(28, 1), (76, -1)]), (0, [(29, -1), (77, 1)]), (0, [(29, 1), (77, -1)]), (0, [(52, -1), (78, 1)]), (0, [(52, 1), (78, -1)]), (0, [(56, -1), (79, 1)]), (0, [(56, 1), (79, -1)]), (0, [(60, -1), (80, 1)]), (0, [(60, 1), (80, -1)]), (0, [(64, -1), (81, 1)]), (0, [(64, 1), (81, -1)]), (-1, [(4, -1)])]), (59, [(1, 234), (0, 0), (0, 0), (0, 0), (0, 0), (3, 0)], [], [(0, [(1, -1), (68, 1)]), (0, [(1, 1), (68, -1)]), (0, [(2, -1), (69, 1)]), (0, [(2, 1), (69, -1)]), (0, [(3, -1), (70, 1)]), (0, [(3, 1), (70, -1)]), (0, [(4, -1), (71, 1)]), (0, [(4, 1), (71, -1)]), (0, [(31, -1), (73, 1)]), (0, [(31, 1), (73, -1)]), (0, [(26, -1), (74, 1)]), (0, [(26, 1), (74, -1)]), (0, [(27, -1), (75, 1)]), (0, [(27, 1), (75, -1)]), (0, [(28, -1), (76, 1)]), (0, [(28, 1), (76, -1)]), (0, [(29, -1), (77, 1)]), (0, [(29, 1), (77, -1)]), (0, [(52, -1), (78, 1)]), (0, [(52, 1), (78, -1)]), (0, [(56, -1), (79, 1)]), (0, [(56, 1), (79, -1)]), (0, [(60, -1), (80, 1)]), (0, [(60, 1), (80, -1)]), (0, [(64, -1), (81, 1)]), (0, [(64, 1), (81, -1)]), (0, [(4, 1)])]), (19, [(1, 234), (0, 0), (0, 0), (0, 0), (0, 0), (3, 0)], [], [(0, [(1, -1), (68, 1)]), (0, [(1, 1), (68, -1)]), (0, [(2, -1), (69, 1)]), (0, [(2, 1), (69, -1)]), (-1, [(3, -1), (70, 1)]), (1, [(3, 1), (70, -1)]), (1, [(4, -1), (71, 1)]), (-1, [(4, 1), (71, -1)]), (0, [(31, -1), (73, 1)]), (0, [(31, 1), (73, -1)]), (0, [(26, -1), (74, 1)]), (0, [(26, 1), (74, -1)]), (0, [(27, -1), (75, 1)]), (0, [(27, 1), (75, -1)]), (0, [(28, -1), (76, 1)]), (0, [(28, 1), (76, -1)]), (0, [(29, -1), (77, 1)]), (0, [(29, 1), (77, -1)]), (0, [(52, -1), (78, 1)]), (0, [(52, 1), (78, -1)]), (0, [(56, -1), (79, 1)]), (0, [(56, 1), (79, -1)]), (0, [(60, -1), (80, 1)]), (0, [(60, 1), (80, -1)]), (0, [(64, -1), (81, 1)]), (0, [(64, 1), (81, -1)]), (0, [(4, 1)])])]
def hf_b_h : List mz_H := [(0, 0, []), (0, 0, []), (0, 0, []), (0, 0, []), (0, 0, []), (0, 0, []), (0, 0, []), (0, 0, []), (0, 0, []), (0, 0, []), (0, 0, []), (0, 0, []), (0, 0, []), (0, 0, []), (0, 0, []), (0, 0, []), (0, 0, []), (0, 0, []), (0, 0, []), (0, 0, []), (0, 0, []), (0, 0, []), (0, 0, []), (0, 0, []), (0, 0, []), (0, 0, []), (0, 0, []), (0, 0, []), (0, 0, []), (0, 0, [(0, 1)]), (260, 0, []), (0, 0, [(1, 1)]), (0, 0, [(2, 1)]), (3, 0, []), (0, 0, [(0, 1)]), (0, 0, []), (1, 0, []), (0, 0, []), (0, 0, []), (0, 0, []), (0, 0, []), (0, 0, []), (0, 0, []), (0, 0, []), (0, 0, []), (0, 0, []), (0, 0, []), (0, 0, []), (0, 0, []), (0, 0, []), (0, 0, []), (0, 0, []), (0, 0, []), (0, 0, []), (0, 0, []), (0, 0, []), (0, 0, []), (0, 0, []), (0, 0, []), (0, 0, []), (0, 0, []), (0, 0, []), (0, 0, []), (0, 0, [(3, 1)]), (265, 0, []), (259, 0, []), (0, 0, []), (0, 0, [(5, 4)]), (0, 0, [(6, 4)]), (0, 0, []), (0, 0, [(4, 1), (5, 4)]), (0, 0, [(6, 4), (9, 1), (7, 1)]), (0, 0, [(4, 1), (5, 4)]), (0, 0, [(6, 4), (9, 1), (7, 1)]), (0, 0, [(9, 1)]), (0, 0, [(11, 1), (6, 1)]), (0, 0, [(0, 1)]), (0, 0, [(1, 1)]), (0, 0, []), (0, 0, [(9, 1)]), (0, 0, [(11, 1), (6, 1)]), (0, 0, []), (0, 0, [(6, 1)]), (0, 0, [(19, 1)]), (2, 0, []), (0, 0, []), (0, 0, []), (0, 0, []), (0, 0, []), (0, 0, []), (0, 0, []), (0, 0, []), (0, 0, []), (0, 0, []), (0, 0, []), (0, 0, []), (0, 0, []), (0, 0, []), (0, 0, []), (0, 0, []), (0, 0, []), (0, 0, []), (0, 0, []), (0, 0, []), (0, 0, []), (0, 0, []), (0, 0, []), (0, 0, []), (0, 0, []), (0, 0, []), (0, 0, []), (0, 0, [(6, 1)])]
set_option maxRecDepth 100000 in
theorem hf_b_c : mz_blk mz_GG mq_PP mz_Cs hf_b_q 6 1 19 hf_b_s [] 30 hf_b_h = true := by decide +kernel
theorem hf_b {X : (Nat → mq_C) → Prop} (hX : ∀ M M' : Nat → mq_C, mz_same mz_GG M M' → X M → X M') (hC : ∀ c ∈ mz_Cs, c.2 < 1 → mz_Ct mz_GG mq_PP X c.1 c.2) {d z u : Nat} {M : Nat → mq_C} {Q : (Option Value ⊕ Nat) → mq_S → Prop} {x1 : Int32} {x2 : Int32} {x3 : Int32} {x4 : Int32} {o5 : Option Value} (hd : 1 ≤ d) (hz : 272 ≤ z) (hm : mz_sh mz_GG M) (hx : X M) (h0 : mq_nl o5 = true) (p0 : 0 ≤ x1.toInt) (p1 : 0 ≤ 3 - x1.toInt) (p2 : 0 ≤ x3.toInt) (p3 : 0 ≤ 1 + x4.toInt) (p4 : 0 ≤ 3 - x3.toInt - x4.toInt)
    (k0 : ∀ (M' : Nat → mq_C) (w5 : Option Value), mz_sh mz_GG M' → X M' → mz_fr hf_b_q M M' → (∀ a, a < 8 → M' a = M a) → hb_same mz_GG hf_b_q M M' → mq_nl w5 = true → hv M' 234 38 = hv M 234 38 → hv M' 234 21 = hv M 234 21 → hv M' 234 23 = hv M 234 23 → hv M' 234 24 = hv M 234 24 → hv M' 234 25 = hv M 234 25 → hv M' 238 0 = hv M 238 0 → hv M' 238 1 = hv M 238 1 → hv M' 238 2 = hv M 238 2 → hv M' 238 3 = hv M 238 3 → 0 ≤ (-1) - x4.toInt → mq_R mq_PP d 143 59 [some (.ref 234), some (.int x1), some (.int x2), some (.int x3), some (.int x4), w5] [] (M', z, u) Q)
    (k1 : ∀ (M' : Nat → mq_C) (w5 : Option Value), mz_sh mz_GG M' → X M' → mz_fr hf_b_q M M' → (∀ a, a < 8 → M' a = M a) → hb_same mz_GG hf_b_q M M' → mq_nl w5 = true → hv M' 234 38 = hv M 234 38 → hv M' 234 21 = hv M 234 21 → hv M' 234 23 = hv M 234 23 → hv M' 234 24 = hv M 234 24 → hv M' 234 25 = hv M 234 25 → hv M' 238 0 = hv M 238 0 → hv M' 238 1 = hv M 238 1 → hv M' 238 2 = hv M 238 2 → hv M' 238 3 = hv M 238 3 → 0 ≤ x4.toInt → mq_R mq_PP d 143 59 [some (.ref 234), some (.int x1), some (.int x2), some (.int x3), some (.int x4), w5] [] (M', z, u) Q)
    (k2 : ∀ (M' : Nat → mq_C) (y3 : Int32) (y4 : Int32) (w5 : Option Value), mz_sh mz_GG M' → X M' → mz_fr hf_b_q M M' → (∀ a, a < 8 → M' a = M a) → hb_same mz_GG hf_b_q M M' → mq_nl w5 = true → y3.toInt = 1 + x3.toInt → y4.toInt = (-1) + x4.toInt → hv M' 234 38 = hv M 234 38 → hv M' 234 21 = hv M 234 21 → hv M' 234 23 = hv M 234 23 → hv M' 234 24 = hv M 234 24 → hv M' 234 25 = hv M 234 25 → hv M' 238 0 = hv M 238 0 → hv M' 238 1 = hv M 238 1 → hv M' 238 2 = hv M 238 2 → hv M' 238 3 = hv M 238 3 → 0 ≤ x4.toInt → mq_R mq_PP d 143 19 [some (.ref 234), some (.int x1), some (.int x2), some (.int y3), some (.int y4), w5] [] (M', z, u) Q) : mq_R mq_PP d 143 19 [some (.ref 234), some (.int x1), some (.int x2), some (.int x3), some (.int x4), o5] [] (M, z, u) Q := by
  refine hb_blk mz_GG mq_PP X (q := hf_b_q) (nl := 6) (M := M) hb_okG hX hC hf_b_c hz hd (L := [some (.ref 234), some (.int x1), some (.int x2), some (.int x3), some (.int x4), o5]) (st := []) (show hb_lk mz_GG ([(1, 234), (0, 0), (0, 0), (0, 0), (0, 0), (3, 0)]) _ from ⟨⟨List.mem_singleton.mpr rfl, rfl⟩, trivial, trivial, trivial, trivial, h0, trivial⟩) (show hb_pk mz_GG ([]) _ from trivial) hm hx ?_ ?_ ?_
  · exact hb_cons (show 0 ≤ mz_ev _ _ from (show 0 ≤ 0 + (1 * x1.toInt + 0) by omega)) (hb_cons (show 0 ≤ mz_ev _ _ from (show 0 ≤ 3 + ((-1) * x1.toInt + 0) by omega)) (hb_cons (show 0 ≤ mz_ev _ _ from (show 0 ≤ 0 + (1 * x3.toInt + 0) by omega)) (hb_cons (show 0 ≤ mz_ev _ _ from (show 0 ≤ 1 + (1 * x4.toInt + 0) by omega)) (hb_cons (show 0 ≤ mz_ev _ _ from (show 0 ≤ 3 + ((-1) * x3.toInt + ((-1) * x4.toInt + 0)) by omega)) (hb_nil)))))
  · intro s hs
    rcases List.mem_cons.mp hs with rfl | hs
    · intro ρ1 L' st' M' g1 g2 gm gr gf gs gx gw g8 ge
      obtain ⟨e0, L1, rfl, n0, gg0⟩ := hb_l1 mz_GG g1
      obtain rfl : e0 = 234 := List.mem_singleton.mp n0
      obtain ⟨y1, L1, rfl, qr68, gg1⟩ := hb_l0 mz_GG gg0
      have r68 : ρ1 68 = y1.toInt := qr68
      obtain ⟨y2, L1, rfl, qr69, gg2⟩ := hb_l0 mz_GG gg1
      have r69 : ρ1 69 = y2.toInt := qr69
      obtain ⟨y3, L1, rfl, qr70, gg3⟩ := hb_l0 mz_GG gg2
      have r70 : ρ1 70 = y3.toInt := qr70
      obtain ⟨y4, L1, rfl, qr71, gg4⟩ := hb_l0 mz_GG gg3
      have r71 : ρ1 71 = y4.toInt := qr71
      obtain ⟨w5, L1, rfl, n5, gg5⟩ := hb_l3 mz_GG gg4
      obtain rfl := hb_ln mz_GG gg5
      obtain rfl := hb_pn mz_GG g2
      have r1 : ρ1 1 = x1.toInt := gr 1 (by decide +kernel)
      have r2 : ρ1 2 = x2.toInt := gr 2 (by decide +kernel)
      have r3 : ρ1 3 = x3.toInt := gr 3 (by decide +kernel)
      have r4 : ρ1 4 = x4.toInt := gr 4 (by decide +kernel)
      have r26 : ρ1 26 = hv M 234 21 := gr 26 (by decide +kernel)
      have r27 : ρ1 27 = hv M 234 23 := gr 27 (by decide +kernel)
      have r28 : ρ1 28 = hv M 234 24 := gr 28 (by decide +kernel)
      have r29 : ρ1 29 = hv M 234 25 := gr 29 (by decide +kernel)
      have r31 : ρ1 31 = hv M 234 38 := gr 31 (by decide +kernel)
      have r52 : ρ1 52 = hv M 238 0 := gr 52 (by decide +kernel)
      have r56 : ρ1 56 = hv M 238 1 := gr 56 (by decide +kernel)
      have r60 : ρ1 60 = hv M 238 2 := gr 60 (by decide +kernel)
      have r64 : ρ1 64 = hv M 238 3 := gr 64 (by decide +kernel)
      have r73 : ρ1 73 = hv M' 234 38 := gm 0 25 (234, 38) rfl rfl
      have r74 : ρ1 74 = hv M' 234 21 := gm 1 20 (234, 21) rfl rfl
      have r75 : ρ1 75 = hv M' 234 23 := gm 2 21 (234, 23) rfl rfl
      have r76 : ρ1 76 = hv M' 234 24 := gm 3 22 (234, 24) rfl rfl
      have r77 : ρ1 77 = hv M' 234 25 := gm 4 23 (234, 25) rfl rfl
      have r78 : ρ1 78 = hv M' 238 0 := gm 5 46 (238, 0) rfl rfl
      have r79 : ρ1 79 = hv M' 238 1 := gm 6 50 (238, 1) rfl rfl
      have r80 : ρ1 80 = hv M' 238 2 := gm 7 54 (238, 2) rfl rfl
      have r81 : ρ1 81 = hv M' 238 3 := gm 8 58 (238, 3) rfl rfl
      obtain ⟨f0, gf⟩ := hb_unc gf
      have f0 : 0 ≤ 0 + ((-1) * ρ1 1 + (1 * ρ1 68 + 0)) := f0
      rw [r1, r68] at f0
      obtain ⟨f1, gf⟩ := hb_unc gf
      have f1 : 0 ≤ 0 + (1 * ρ1 1 + ((-1) * ρ1 68 + 0)) := f1
      rw [r1, r68] at f1
      obtain ⟨f2, gf⟩ := hb_unc gf
      have f2 : 0 ≤ 0 + ((-1) * ρ1 2 + (1 * ρ1 69 + 0)) := f2
      rw [r2, r69] at f2
      obtain ⟨f3, gf⟩ := hb_unc gf
      have f3 : 0 ≤ 0 + (1 * ρ1 2 + ((-1) * ρ1 69 + 0)) := f3
      rw [r2, r69] at f3
      obtain ⟨f4, gf⟩ := hb_unc gf
      have f4 : 0 ≤ 0 + ((-1) * ρ1 3 + (1 * ρ1 70 + 0)) := f4
      rw [r3, r70] at f4
      obtain ⟨f5, gf⟩ := hb_unc gf
      have f5 : 0 ≤ 0 + (1 * ρ1 3 + ((-1) * ρ1 70 + 0)) := f5
      rw [r3, r70] at f5
      obtain ⟨f6, gf⟩ := hb_unc gf
      have f6 : 0 ≤ 0 + ((-1) * ρ1 4 + (1 * ρ1 71 + 0)) := f6
      rw [r4, r71] at f6
      obtain ⟨f7, gf⟩ := hb_unc gf
      have f7 : 0 ≤ 0 + (1 * ρ1 4 + ((-1) * ρ1 71 + 0)) := f7
      rw [r4, r71] at f7
      obtain ⟨f8, gf⟩ := hb_unc gf
      have f8 : 0 ≤ 0 + ((-1) * ρ1 31 + (1 * ρ1 73 + 0)) := f8
      rw [r31, r73] at f8
      obtain ⟨f9, gf⟩ := hb_unc gf
      have f9 : 0 ≤ 0 + (1 * ρ1 31 + ((-1) * ρ1 73 + 0)) := f9
      rw [r31, r73] at f9
      obtain ⟨f10, gf⟩ := hb_unc gf
      have f10 : 0 ≤ 0 + ((-1) * ρ1 26 + (1 * ρ1 74 + 0)) := f10
      rw [r26, r74] at f10
      obtain ⟨f11, gf⟩ := hb_unc gf
      have f11 : 0 ≤ 0 + (1 * ρ1 26 + ((-1) * ρ1 74 + 0)) := f11
      rw [r26, r74] at f11
      obtain ⟨f12, gf⟩ := hb_unc gf
      have f12 : 0 ≤ 0 + ((-1) * ρ1 27 + (1 * ρ1 75 + 0)) := f12
      rw [r27, r75] at f12
      obtain ⟨f13, gf⟩ := hb_unc gf
      have f13 : 0 ≤ 0 + (1 * ρ1 27 + ((-1) * ρ1 75 + 0)) := f13
      rw [r27, r75] at f13
      obtain ⟨f14, gf⟩ := hb_unc gf
      have f14 : 0 ≤ 0 + ((-1) * ρ1 28 + (1 * ρ1 76 + 0)) := f14
      rw [r28, r76] at f14
      obtain ⟨f15, gf⟩ := hb_unc gf
      have f15 : 0 ≤ 0 + (1 * ρ1 28 + ((-1) * ρ1 76 + 0)) := f15
      rw [r28, r76] at f15
      obtain ⟨f16, gf⟩ := hb_unc gf
      have f16 : 0 ≤ 0 + ((-1) * ρ1 29 + (1 * ρ1 77 + 0)) := f16
      rw [r29, r77] at f16
      obtain ⟨f17, gf⟩ := hb_unc gf
      have f17 : 0 ≤ 0 + (1 * ρ1 29 + ((-1) * ρ1 77 + 0)) := f17
      rw [r29, r77] at f17
      obtain ⟨f18, gf⟩ := hb_unc gf
      have f18 : 0 ≤ 0 + ((-1) * ρ1 52 + (1 * ρ1 78 + 0)) := f18
      rw [r52, r78] at f18
      obtain ⟨f19, gf⟩ := hb_unc gf
      have f19 : 0 ≤ 0 + (1 * ρ1 52 + ((-1) * ρ1 78 + 0)) := f19
      rw [r52, r78] at f19
      obtain ⟨f20, gf⟩ := hb_unc gf
      have f20 : 0 ≤ 0 + ((-1) * ρ1 56 + (1 * ρ1 79 + 0)) := f20
      rw [r56, r79] at f20
      obtain ⟨f21, gf⟩ := hb_unc gf
      have f21 : 0 ≤ 0 + (1 * ρ1 56 + ((-1) * ρ1 79 + 0)) := f21
      rw [r56, r79] at f21
      obtain ⟨f22, gf⟩ := hb_unc gf
      have f22 : 0 ≤ 0 + ((-1) * ρ1 60 + (1 * ρ1 80 + 0)) := f22
      rw [r60, r80] at f22
      obtain ⟨f23, gf⟩ := hb_unc gf
      have f23 : 0 ≤ 0 + (1 * ρ1 60 + ((-1) * ρ1 80 + 0)) := f23
      rw [r60, r80] at f23
      obtain ⟨f24, gf⟩ := hb_unc gf
      have f24 : 0 ≤ 0 + ((-1) * ρ1 64 + (1 * ρ1 81 + 0)) := f24
      rw [r64, r81] at f24
      obtain ⟨f25, gf⟩ := hb_unc gf
      have f25 : 0 ≤ 0 + (1 * ρ1 64 + ((-1) * ρ1 81 + 0)) := f25
      rw [r64, r81] at f25
      obtain ⟨f26, gf⟩ := hb_unc gf
      have f26 : 0 ≤ -1 + ((-1) * ρ1 4 + 0) := f26
      rw [r4] at f26
      have hy1 : y1 = x1 := hb_inj f0 f1
      subst y1
      have hy2 : y2 = x2 := hb_inj f2 f3
      subst y2
      have hy3 : y3 = x3 := hb_inj f4 f5
      subst y3
      have hy4 : y4 = x4 := hb_inj f6 f7
      subst y4
      exact k0 M' w5 gs gx gw g8 ge n5 (by have h1 := f8; have h2 := f9; omega) (by have h1 := f10; have h2 := f11; omega) (by have h1 := f12; have h2 := f13; omega) (by have h1 := f14; have h2 := f15; omega) (by have h1 := f16; have h2 := f17; omega) (by have h1 := f18; have h2 := f19; omega) (by have h1 := f20; have h2 := f21; omega) (by have h1 := f22; have h2 := f23; omega) (by have h1 := f24; have h2 := f25; omega) (by have h1 := f26; omega)
    rcases List.mem_cons.mp hs with rfl | hs
    · intro ρ1 L' st' M' g1 g2 gm gr gf gs gx gw g8 ge
      obtain ⟨e0, L1, rfl, n0, gg0⟩ := hb_l1 mz_GG g1
      obtain rfl : e0 = 234 := List.mem_singleton.mp n0
      obtain ⟨y1, L1, rfl, qr68, gg1⟩ := hb_l0 mz_GG gg0
      have r68 : ρ1 68 = y1.toInt := qr68
      obtain ⟨y2, L1, rfl, qr69, gg2⟩ := hb_l0 mz_GG gg1
      have r69 : ρ1 69 = y2.toInt := qr69
      obtain ⟨y3, L1, rfl, qr70, gg3⟩ := hb_l0 mz_GG gg2
      have r70 : ρ1 70 = y3.toInt := qr70
      obtain ⟨y4, L1, rfl, qr71, gg4⟩ := hb_l0 mz_GG gg3
      have r71 : ρ1 71 = y4.toInt := qr71
      obtain ⟨w5, L1, rfl, n5, gg5⟩ := hb_l3 mz_GG gg4
      obtain rfl := hb_ln mz_GG gg5
      obtain rfl := hb_pn mz_GG g2
      have r1 : ρ1 1 = x1.toInt := gr 1 (by decide +kernel)
      have r2 : ρ1 2 = x2.toInt := gr 2 (by decide +kernel)
      have r3 : ρ1 3 = x3.toInt := gr 3 (by decide +kernel)
      have r4 : ρ1 4 = x4.toInt := gr 4 (by decide +kernel)
      have r26 : ρ1 26 = hv M 234 21 := gr 26 (by decide +kernel)
      have r27 : ρ1 27 = hv M 234 23 := gr 27 (by decide +kernel)
      have r28 : ρ1 28 = hv M 234 24 := gr 28 (by decide +kernel)
      have r29 : ρ1 29 = hv M 234 25 := gr 29 (by decide +kernel)
      have r31 : ρ1 31 = hv M 234 38 := gr 31 (by decide +kernel)
      have r52 : ρ1 52 = hv M 238 0 := gr 52 (by decide +kernel)
      have r56 : ρ1 56 = hv M 238 1 := gr 56 (by decide +kernel)
      have r60 : ρ1 60 = hv M 238 2 := gr 60 (by decide +kernel)
      have r64 : ρ1 64 = hv M 238 3 := gr 64 (by decide +kernel)
      have r73 : ρ1 73 = hv M' 234 38 := gm 0 25 (234, 38) rfl rfl
      have r74 : ρ1 74 = hv M' 234 21 := gm 1 20 (234, 21) rfl rfl
      have r75 : ρ1 75 = hv M' 234 23 := gm 2 21 (234, 23) rfl rfl
      have r76 : ρ1 76 = hv M' 234 24 := gm 3 22 (234, 24) rfl rfl
      have r77 : ρ1 77 = hv M' 234 25 := gm 4 23 (234, 25) rfl rfl
      have r78 : ρ1 78 = hv M' 238 0 := gm 5 46 (238, 0) rfl rfl
      have r79 : ρ1 79 = hv M' 238 1 := gm 6 50 (238, 1) rfl rfl
      have r80 : ρ1 80 = hv M' 238 2 := gm 7 54 (238, 2) rfl rfl
      have r81 : ρ1 81 = hv M' 238 3 := gm 8 58 (238, 3) rfl rfl
      obtain ⟨f0, gf⟩ := hb_unc gf
      have f0 : 0 ≤ 0 + ((-1) * ρ1 1 + (1 * ρ1 68 + 0)) := f0
      rw [r1, r68] at f0
      obtain ⟨f1, gf⟩ := hb_unc gf
      have f1 : 0 ≤ 0 + (1 * ρ1 1 + ((-1) * ρ1 68 + 0)) := f1
      rw [r1, r68] at f1
      obtain ⟨f2, gf⟩ := hb_unc gf
      have f2 : 0 ≤ 0 + ((-1) * ρ1 2 + (1 * ρ1 69 + 0)) := f2
      rw [r2, r69] at f2
      obtain ⟨f3, gf⟩ := hb_unc gf
      have f3 : 0 ≤ 0 + (1 * ρ1 2 + ((-1) * ρ1 69 + 0)) := f3
      rw [r2, r69] at f3
      obtain ⟨f4, gf⟩ := hb_unc gf
      have f4 : 0 ≤ 0 + ((-1) * ρ1 3 + (1 * ρ1 70 + 0)) := f4
      rw [r3, r70] at f4
      obtain ⟨f5, gf⟩ := hb_unc gf
      have f5 : 0 ≤ 0 + (1 * ρ1 3 + ((-1) * ρ1 70 + 0)) := f5
      rw [r3, r70] at f5
      obtain ⟨f6, gf⟩ := hb_unc gf
      have f6 : 0 ≤ 0 + ((-1) * ρ1 4 + (1 * ρ1 71 + 0)) := f6
      rw [r4, r71] at f6
      obtain ⟨f7, gf⟩ := hb_unc gf
      have f7 : 0 ≤ 0 + (1 * ρ1 4 + ((-1) * ρ1 71 + 0)) := f7
      rw [r4, r71] at f7
      obtain ⟨f8, gf⟩ := hb_unc gf
      have f8 : 0 ≤ 0 + ((-1) * ρ1 31 + (1 * ρ1 73 + 0)) := f8
      rw [r31, r73] at f8
      obtain ⟨f9, gf⟩ := hb_unc gf
      have f9 : 0 ≤ 0 + (1 * ρ1 31 + ((-1) * ρ1 73 + 0)) := f9
      rw [r31, r73] at f9
      obtain ⟨f10, gf⟩ := hb_unc gf
      have f10 : 0 ≤ 0 + ((-1) * ρ1 26 + (1 * ρ1 74 + 0)) := f10
      rw [r26, r74] at f10
      obtain ⟨f11, gf⟩ := hb_unc gf
      have f11 : 0 ≤ 0 + (1 * ρ1 26 + ((-1) * ρ1 74 + 0)) := f11
      rw [r26, r74] at f11
      obtain ⟨f12, gf⟩ := hb_unc gf
      have f12 : 0 ≤ 0 + ((-1) * ρ1 27 + (1 * ρ1 75 + 0)) := f12
      rw [r27, r75] at f12
      obtain ⟨f13, gf⟩ := hb_unc gf
      have f13 : 0 ≤ 0 + (1 * ρ1 27 + ((-1) * ρ1 75 + 0)) := f13
      rw [r27, r75] at f13
      obtain ⟨f14, gf⟩ := hb_unc gf
      have f14 : 0 ≤ 0 + ((-1) * ρ1 28 + (1 * ρ1 76 + 0)) := f14
      rw [r28, r76] at f14
      obtain ⟨f15, gf⟩ := hb_unc gf
      have f15 : 0 ≤ 0 + (1 * ρ1 28 + ((-1) * ρ1 76 + 0)) := f15
      rw [r28, r76] at f15
      obtain ⟨f16, gf⟩ := hb_unc gf
      have f16 : 0 ≤ 0 + ((-1) * ρ1 29 + (1 * ρ1 77 + 0)) := f16
      rw [r29, r77] at f16
      obtain ⟨f17, gf⟩ := hb_unc gf
      have f17 : 0 ≤ 0 + (1 * ρ1 29 + ((-1) * ρ1 77 + 0)) := f17
      rw [r29, r77] at f17
      obtain ⟨f18, gf⟩ := hb_unc gf
      have f18 : 0 ≤ 0 + ((-1) * ρ1 52 + (1 * ρ1 78 + 0)) := f18
      rw [r52, r78] at f18
      obtain ⟨f19, gf⟩ := hb_unc gf
      have f19 : 0 ≤ 0 + (1 * ρ1 52 + ((-1) * ρ1 78 + 0)) := f19
      rw [r52, r78] at f19
      obtain ⟨f20, gf⟩ := hb_unc gf
      have f20 : 0 ≤ 0 + ((-1) * ρ1 56 + (1 * ρ1 79 + 0)) := f20
      rw [r56, r79] at f20
      obtain ⟨f21, gf⟩ := hb_unc gf
      have f21 : 0 ≤ 0 + (1 * ρ1 56 + ((-1) * ρ1 79 + 0)) := f21
      rw [r56, r79] at f21
      obtain ⟨f22, gf⟩ := hb_unc gf
      have f22 : 0 ≤ 0 + ((-1) * ρ1 60 + (1 * ρ1 80 + 0)) := f22
      rw [r60, r80] at f22
      obtain ⟨f23, gf⟩ := hb_unc gf
      have f23 : 0 ≤ 0 + (1 * ρ1 60 + ((-1) * ρ1 80 + 0)) := f23
      rw [r60, r80] at f23
      obtain ⟨f24, gf⟩ := hb_unc gf
      have f24 : 0 ≤ 0 + ((-1) * ρ1 64 + (1 * ρ1 81 + 0)) := f24
      rw [r64, r81] at f24
      obtain ⟨f25, gf⟩ := hb_unc gf
      have f25 : 0 ≤ 0 + (1 * ρ1 64 + ((-1) * ρ1 81 + 0)) := f25
      rw [r64, r81] at f25
      obtain ⟨f26, gf⟩ := hb_unc gf
      have f26 : 0 ≤ 0 + (1 * ρ1 4 + 0) := f26
      rw [r4] at f26
      have hy1 : y1 = x1 := hb_inj f0 f1
      subst y1
      have hy2 : y2 = x2 := hb_inj f2 f3
      subst y2
      have hy3 : y3 = x3 := hb_inj f4 f5
      subst y3
      have hy4 : y4 = x4 := hb_inj f6 f7
      subst y4
      exact k1 M' w5 gs gx gw g8 ge n5 (by have h1 := f8; have h2 := f9; omega) (by have h1 := f10; have h2 := f11; omega) (by have h1 := f12; have h2 := f13; omega) (by have h1 := f14; have h2 := f15; omega) (by have h1 := f16; have h2 := f17; omega) (by have h1 := f18; have h2 := f19; omega) (by have h1 := f20; have h2 := f21; omega) (by have h1 := f22; have h2 := f23; omega) (by have h1 := f24; have h2 := f25; omega) (by have h1 := f26; omega)
    rcases List.mem_cons.mp hs with rfl | hs
    · intro ρ1 L' st' M' g1 g2 gm gr gf gs gx gw g8 ge
      obtain ⟨e0, L1, rfl, n0, gg0⟩ := hb_l1 mz_GG g1
      obtain rfl : e0 = 234 := List.mem_singleton.mp n0
      obtain ⟨y1, L1, rfl, qr68, gg1⟩ := hb_l0 mz_GG gg0
      have r68 : ρ1 68 = y1.toInt := qr68
      obtain ⟨y2, L1, rfl, qr69, gg2⟩ := hb_l0 mz_GG gg1
      have r69 : ρ1 69 = y2.toInt := qr69
      obtain ⟨y3, L1, rfl, qr70, gg3⟩ := hb_l0 mz_GG gg2
      have r70 : ρ1 70 = y3.toInt := qr70
      obtain ⟨y4, L1, rfl, qr71, gg4⟩ := hb_l0 mz_GG gg3
      have r71 : ρ1 71 = y4.toInt := qr71
      obtain ⟨w5, L1, rfl, n5, gg5⟩ := hb_l3 mz_GG gg4
      obtain rfl := hb_ln mz_GG gg5
      obtain rfl := hb_pn mz_GG g2
      have r1 : ρ1 1 = x1.toInt := gr 1 (by decide +kernel)
      have r2 : ρ1 2 = x2.toInt := gr 2 (by decide +kernel)
      have r3 : ρ1 3 = x3.toInt := gr 3 (by decide +kernel)
      have r4 : ρ1 4 = x4.toInt := gr 4 (by decide +kernel)
      have r26 : ρ1 26 = hv M 234 21 := gr 26 (by decide +kernel)
      have r27 : ρ1 27 = hv M 234 23 := gr 27 (by decide +kernel)
      have r28 : ρ1 28 = hv M 234 24 := gr 28 (by decide +kernel)
      have r29 : ρ1 29 = hv M 234 25 := gr 29 (by decide +kernel)
      have r31 : ρ1 31 = hv M 234 38 := gr 31 (by decide +kernel)
      have r52 : ρ1 52 = hv M 238 0 := gr 52 (by decide +kernel)
      have r56 : ρ1 56 = hv M 238 1 := gr 56 (by decide +kernel)
      have r60 : ρ1 60 = hv M 238 2 := gr 60 (by decide +kernel)
      have r64 : ρ1 64 = hv M 238 3 := gr 64 (by decide +kernel)
      have r73 : ρ1 73 = hv M' 234 38 := gm 0 25 (234, 38) rfl rfl
      have r74 : ρ1 74 = hv M' 234 21 := gm 1 20 (234, 21) rfl rfl
      have r75 : ρ1 75 = hv M' 234 23 := gm 2 21 (234, 23) rfl rfl
      have r76 : ρ1 76 = hv M' 234 24 := gm 3 22 (234, 24) rfl rfl
      have r77 : ρ1 77 = hv M' 234 25 := gm 4 23 (234, 25) rfl rfl
      have r78 : ρ1 78 = hv M' 238 0 := gm 5 46 (238, 0) rfl rfl
      have r79 : ρ1 79 = hv M' 238 1 := gm 6 50 (238, 1) rfl rfl
      have r80 : ρ1 80 = hv M' 238 2 := gm 7 54 (238, 2) rfl rfl
      have r81 : ρ1 81 = hv M' 238 3 := gm 8 58 (238, 3) rfl rfl
      obtain ⟨f0, gf⟩ := hb_unc gf
      have f0 : 0 ≤ 0 + ((-1) * ρ1 1 + (1 * ρ1 68 + 0)) := f0
      rw [r1, r68] at f0
      obtain ⟨f1, gf⟩ := hb_unc gf
      have f1 : 0 ≤ 0 + (1 * ρ1 1 + ((-1) * ρ1 68 + 0)) := f1
      rw [r1, r68] at f1
      obtain ⟨f2, gf⟩ := hb_unc gf
      have f2 : 0 ≤ 0 + ((-1) * ρ1 2 + (1 * ρ1 69 + 0)) := f2
      rw [r2, r69] at f2
      obtain ⟨f3, gf⟩ := hb_unc gf
      have f3 : 0 ≤ 0 + (1 * ρ1 2 + ((-1) * ρ1 69 + 0)) := f3
      rw [r2, r69] at f3
      obtain ⟨f4, gf⟩ := hb_unc gf
      have f4 : 0 ≤ -1 + ((-1) * ρ1 3 + (1 * ρ1 70 + 0)) := f4
      rw [r3, r70] at f4
      obtain ⟨f5, gf⟩ := hb_unc gf
      have f5 : 0 ≤ 1 + (1 * ρ1 3 + ((-1) * ρ1 70 + 0)) := f5
      rw [r3, r70] at f5
      obtain ⟨f6, gf⟩ := hb_unc gf
      have f6 : 0 ≤ 1 + ((-1) * ρ1 4 + (1 * ρ1 71 + 0)) := f6
      rw [r4, r71] at f6
      obtain ⟨f7, gf⟩ := hb_unc gf
      have f7 : 0 ≤ -1 + (1 * ρ1 4 + ((-1) * ρ1 71 + 0)) := f7
      rw [r4, r71] at f7
      obtain ⟨f8, gf⟩ := hb_unc gf
      have f8 : 0 ≤ 0 + ((-1) * ρ1 31 + (1 * ρ1 73 + 0)) := f8
      rw [r31, r73] at f8
      obtain ⟨f9, gf⟩ := hb_unc gf
      have f9 : 0 ≤ 0 + (1 * ρ1 31 + ((-1) * ρ1 73 + 0)) := f9
      rw [r31, r73] at f9
      obtain ⟨f10, gf⟩ := hb_unc gf
      have f10 : 0 ≤ 0 + ((-1) * ρ1 26 + (1 * ρ1 74 + 0)) := f10
      rw [r26, r74] at f10
      obtain ⟨f11, gf⟩ := hb_unc gf
      have f11 : 0 ≤ 0 + (1 * ρ1 26 + ((-1) * ρ1 74 + 0)) := f11
      rw [r26, r74] at f11
      obtain ⟨f12, gf⟩ := hb_unc gf
      have f12 : 0 ≤ 0 + ((-1) * ρ1 27 + (1 * ρ1 75 + 0)) := f12
      rw [r27, r75] at f12
      obtain ⟨f13, gf⟩ := hb_unc gf
      have f13 : 0 ≤ 0 + (1 * ρ1 27 + ((-1) * ρ1 75 + 0)) := f13
      rw [r27, r75] at f13
      obtain ⟨f14, gf⟩ := hb_unc gf
      have f14 : 0 ≤ 0 + ((-1) * ρ1 28 + (1 * ρ1 76 + 0)) := f14
      rw [r28, r76] at f14
      obtain ⟨f15, gf⟩ := hb_unc gf
      have f15 : 0 ≤ 0 + (1 * ρ1 28 + ((-1) * ρ1 76 + 0)) := f15
      rw [r28, r76] at f15
      obtain ⟨f16, gf⟩ := hb_unc gf
      have f16 : 0 ≤ 0 + ((-1) * ρ1 29 + (1 * ρ1 77 + 0)) := f16
      rw [r29, r77] at f16
      obtain ⟨f17, gf⟩ := hb_unc gf
      have f17 : 0 ≤ 0 + (1 * ρ1 29 + ((-1) * ρ1 77 + 0)) := f17
      rw [r29, r77] at f17
      obtain ⟨f18, gf⟩ := hb_unc gf
      have f18 : 0 ≤ 0 + ((-1) * ρ1 52 + (1 * ρ1 78 + 0)) := f18
      rw [r52, r78] at f18
      obtain ⟨f19, gf⟩ := hb_unc gf
      have f19 : 0 ≤ 0 + (1 * ρ1 52 + ((-1) * ρ1 78 + 0)) := f19
      rw [r52, r78] at f19
      obtain ⟨f20, gf⟩ := hb_unc gf
      have f20 : 0 ≤ 0 + ((-1) * ρ1 56 + (1 * ρ1 79 + 0)) := f20
      rw [r56, r79] at f20
      obtain ⟨f21, gf⟩ := hb_unc gf
      have f21 : 0 ≤ 0 + (1 * ρ1 56 + ((-1) * ρ1 79 + 0)) := f21
      rw [r56, r79] at f21
      obtain ⟨f22, gf⟩ := hb_unc gf
      have f22 : 0 ≤ 0 + ((-1) * ρ1 60 + (1 * ρ1 80 + 0)) := f22
      rw [r60, r80] at f22
      obtain ⟨f23, gf⟩ := hb_unc gf
      have f23 : 0 ≤ 0 + (1 * ρ1 60 + ((-1) * ρ1 80 + 0)) := f23
      rw [r60, r80] at f23
      obtain ⟨f24, gf⟩ := hb_unc gf
      have f24 : 0 ≤ 0 + ((-1) * ρ1 64 + (1 * ρ1 81 + 0)) := f24
      rw [r64, r81] at f24
      obtain ⟨f25, gf⟩ := hb_unc gf
      have f25 : 0 ≤ 0 + (1 * ρ1 64 + ((-1) * ρ1 81 + 0)) := f25
      rw [r64, r81] at f25
      obtain ⟨f26, gf⟩ := hb_unc gf
      have f26 : 0 ≤ 0 + (1 * ρ1 4 + 0) := f26
      rw [r4] at f26
      have hy1 : y1 = x1 := hb_inj f0 f1
      subst y1
      have hy2 : y2 = x2 := hb_inj f2 f3
      subst y2
      exact k2 M' y3 y4 w5 gs gx gw g8 ge n5 (by have h1 := f4; have h2 := f5; omega) (by have h1 := f6; have h2 := f7; omega) (by have h1 := f8; have h2 := f9; omega) (by have h1 := f10; have h2 := f11; omega) (by have h1 := f12; have h2 := f13; omega) (by have h1 := f14; have h2 := f15; omega) (by have h1 := f16; have h2 := f17; omega) (by have h1 := f18; have h2 := f19; omega) (by have h1 := f20; have h2 := f21; omega) (by have h1 := f22; have h2 := f23; omega) (by have h1 := f24; have h2 := f25; omega) (by have h1 := f26; omega)
    cases hs
  · intro r S hpo
    obtain ⟨b1, b2, b3, b4, b5, p, hp, res, hf, hre⟩ := hpo
    cases hp

def hf_d_q : mz_Q := (143, [(1, 234), (0, 0), (0, 0), (0, 0), (3, 0), (3, 0)], [(0, [(3, 1)]), (24, [(3, -1)])], [25, 20, 21, 22, 23, 46, 50, 54, 58], [(3, 0, [])], [])
def hf_d_s : List mz_Sp2 := [(74, [(1, 234), (0, 0), (0, 0), (0, 0), (0, 0), (3, 0)], [], [(0, [(1, -1), (68, 1)]), (0, [(1, 1), (68, -1)]), (0, [(2, -1), (69, 1)]), (0, [(2, 1), (69, -1)]), (1, [(3, -1), (70, 1)]), (-1, [(3, 1), (70, -1)]), (0, [(31, -1), (73, 1)]), (0, [(31, 1), (73, -1)]), (0, [(26, -1), (74, 1)]), (0, [(26, 1), (74, -1)]), (0, [(27, -1), (75, 1)]), (0, [(27, 1), (75, -1)]), (0, [(28, -1), (76, 1)]), (0, [(28, 1), (76, -1)]), (0, [(29, -1), (77, 1)]), (0, [(29, 1), (77, -1)]), (0, [(52, -1), (78, 1)]), (0, [(52, 1), (78, -1)]), (0, [(56, -1), (79, 1)]), (0, [(56, 1), (79, -1)]), (0, [(60, -1), (80, 1)]), (0, [(60, 1), (80, -1)]), (0, [(64, -1), (81, 1)]), (0, [(64, 1), (81, -1)]), (-1, [(3, 1)]), (3, [(71, -1)]), (0, [(71, 1)])])]
def hf_d_h : List mz_H := [(0, 0, []), (0, 0, []), (0, 0, []), (0, 0, []), (0, 0, [(0, 1)]), (0, 0, [(2, 1)]), (265, 0, []), (0, 0, [(0, 1)]), (0, 0, [(2, 1)]), (0, 0, []), (0, 0, []), (0, 0, []), (0, 0, []), (0, 0, []), (0, 0, []), (0, 0, []), (0, 0, []), (0, 0, []), (0, 0, []), (0, 0, []), (0, 0, []), (0, 0, []), (0, 0, []), (0, 0, []), (0, 0, []), (0, 0, []), (0, 0, []), (0, 0, []), (0, 0, []), (0, 0, []), (0, 0, []), (0, 0, []), (0, 0, []), (0, 0, []), (0, 0, [(2, 1)]), (0, 0, [(1, 1)]), (0, 0, [(0, 1)])]
set_option maxRecDepth 100000 in
theorem hf_d_c : mz_blk mz_GG mq_PP mz_Cs hf_d_q 6 1 59 hf_d_s [] 15 hf_d_h = true := by decide +kernel
theorem hf_d {X : (Nat → mq_C) → Prop} (hX : ∀ M M' : Nat → mq_C, mz_same mz_GG M M' → X M → X M') (hC : ∀ c ∈ mz_Cs, c.2 < 1 → mz_Ct mz_GG mq_PP X c.1 c.2) {d z u : Nat} {M : Nat → mq_C} {Q : (Option Value ⊕ Nat) → mq_S → Prop} {x1 : Int32} {x2 : Int32} {x3 : Int32} {o4 : Option Value} {o5 : Option Value} (hd : 1 ≤ d) (hz : 272 ≤ z) (hm : mz_sh mz_GG M) (hx : X M) (h0 : mq_nl o4 = true) (h1 : mq_nl o5 = true) (p0 : 0 ≤ x3.toInt) (p1 : 0 ≤ 24 - x3.toInt)
    (k0 : ∀ (M' : Nat → mq_C) (y3 : Int32) (y4 : Int32) (w5 : Option Value), mz_sh mz_GG M' → X M' → mz_fr hf_d_q M M' → (∀ a, a < 8 → M' a = M a) → hb_same mz_GG hf_d_q M M' → mq_nl w5 = true → y3.toInt = (-1) + x3.toInt → hv M' 234 38 = hv M 234 38 → hv M' 234 21 = hv M 234 21 → hv M' 234 23 = hv M 234 23 → hv M' 234 24 = hv M 234 24 → hv M' 234 25 = hv M 234 25 → hv M' 238 0 = hv M 238 0 → hv M' 238 1 = hv M 238 1 → hv M' 238 2 = hv M 238 2 → hv M' 238 3 = hv M 238 3 → 0 ≤ (-1) + x3.toInt → 0 ≤ 3 - y4.toInt → 0 ≤ y4.toInt → mq_R mq_PP d 143 74 [some (.ref 234), some (.int x1), some (.int x2), some (.int y3), some (.int y4), w5] [] (M', z, u) Q)
    (w0 : ∀ (M' : Nat → mq_C), mz_sh mz_GG M' → X M' → mz_fr hf_d_q M M' → (∀ a, a < 8 → M' a = M a) → hb_same mz_GG hf_d_q M M' → Q (.inl none) (M', z, u)) : mq_R mq_PP d 143 59 [some (.ref 234), some (.int x1), some (.int x2), some (.int x3), o4, o5] [] (M, z, u) Q := by
  refine hb_blk mz_GG mq_PP X (q := hf_d_q) (nl := 6) (M := M) hb_okG hX hC hf_d_c hz hd (L := [some (.ref 234), some (.int x1), some (.int x2), some (.int x3), o4, o5]) (st := []) (show hb_lk mz_GG ([(1, 234), (0, 0), (0, 0), (0, 0), (3, 0), (3, 0)]) _ from ⟨⟨List.mem_singleton.mpr rfl, rfl⟩, trivial, trivial, trivial, h0, h1, trivial⟩) (show hb_pk mz_GG ([]) _ from trivial) hm hx ?_ ?_ ?_
  · exact hb_cons (show 0 ≤ mz_ev _ _ from (show 0 ≤ 0 + (1 * x3.toInt + 0) by omega)) (hb_cons (show 0 ≤ mz_ev _ _ from (show 0 ≤ 24 + ((-1) * x3.toInt + 0) by omega)) (hb_nil))
  · intro s hs
    rcases List.mem_cons.mp hs with rfl | hs
    · intro ρ1 L' st' M' g1 g2 gm gr gf gs gx gw g8 ge
      obtain ⟨e0, L1, rfl, n0, gg0⟩ := hb_l1 mz_GG g1
      obtain rfl : e0 = 234 := List.mem_singleton.mp n0
      obtain ⟨y1, L1, rfl, qr68, gg1⟩ := hb_l0 mz_GG gg0
      have r68 : ρ1 68 = y1.toInt := qr68
      obtain ⟨y2, L1, rfl, qr69, gg2⟩ := hb_l0 mz_GG gg1
      have r69 : ρ1 69 = y2.toInt := qr69
      obtain ⟨y3, L1, rfl, qr70, gg3⟩ := hb_l0 mz_GG gg2
      have r70 : ρ1 70 = y3.toInt := qr70
      obtain ⟨y4, L1, rfl, qr71, gg4⟩ := hb_l0 mz_GG gg3
      have r71 : ρ1 71 = y4.toInt := qr71
      obtain ⟨w5, L1, rfl, n5, gg5⟩ := hb_l3 mz_GG gg4
      obtain rfl := hb_ln mz_GG gg5
      obtain rfl := hb_pn mz_GG g2
      have r1 : ρ1 1 = x1.toInt := gr 1 (by decide +kernel)
      have r2 : ρ1 2 = x2.toInt := gr 2 (by decide +kernel)
      have r3 : ρ1 3 = x3.toInt := gr 3 (by decide +kernel)
      have r26 : ρ1 26 = hv M 234 21 := gr 26 (by decide +kernel)
      have r27 : ρ1 27 = hv M 234 23 := gr 27 (by decide +kernel)
      have r28 : ρ1 28 = hv M 234 24 := gr 28 (by decide +kernel)
      have r29 : ρ1 29 = hv M 234 25 := gr 29 (by decide +kernel)
      have r31 : ρ1 31 = hv M 234 38 := gr 31 (by decide +kernel)
      have r52 : ρ1 52 = hv M 238 0 := gr 52 (by decide +kernel)
      have r56 : ρ1 56 = hv M 238 1 := gr 56 (by decide +kernel)
      have r60 : ρ1 60 = hv M 238 2 := gr 60 (by decide +kernel)
      have r64 : ρ1 64 = hv M 238 3 := gr 64 (by decide +kernel)
      have r73 : ρ1 73 = hv M' 234 38 := gm 0 25 (234, 38) rfl rfl
      have r74 : ρ1 74 = hv M' 234 21 := gm 1 20 (234, 21) rfl rfl
      have r75 : ρ1 75 = hv M' 234 23 := gm 2 21 (234, 23) rfl rfl
      have r76 : ρ1 76 = hv M' 234 24 := gm 3 22 (234, 24) rfl rfl
      have r77 : ρ1 77 = hv M' 234 25 := gm 4 23 (234, 25) rfl rfl
      have r78 : ρ1 78 = hv M' 238 0 := gm 5 46 (238, 0) rfl rfl
      have r79 : ρ1 79 = hv M' 238 1 := gm 6 50 (238, 1) rfl rfl
      have r80 : ρ1 80 = hv M' 238 2 := gm 7 54 (238, 2) rfl rfl
      have r81 : ρ1 81 = hv M' 238 3 := gm 8 58 (238, 3) rfl rfl
      obtain ⟨f0, gf⟩ := hb_unc gf
      have f0 : 0 ≤ 0 + ((-1) * ρ1 1 + (1 * ρ1 68 + 0)) := f0
      rw [r1, r68] at f0
      obtain ⟨f1, gf⟩ := hb_unc gf
      have f1 : 0 ≤ 0 + (1 * ρ1 1 + ((-1) * ρ1 68 + 0)) := f1
      rw [r1, r68] at f1
      obtain ⟨f2, gf⟩ := hb_unc gf
      have f2 : 0 ≤ 0 + ((-1) * ρ1 2 + (1 * ρ1 69 + 0)) := f2
      rw [r2, r69] at f2
      obtain ⟨f3, gf⟩ := hb_unc gf
      have f3 : 0 ≤ 0 + (1 * ρ1 2 + ((-1) * ρ1 69 + 0)) := f3
      rw [r2, r69] at f3
      obtain ⟨f4, gf⟩ := hb_unc gf
      have f4 : 0 ≤ 1 + ((-1) * ρ1 3 + (1 * ρ1 70 + 0)) := f4
      rw [r3, r70] at f4
      obtain ⟨f5, gf⟩ := hb_unc gf
      have f5 : 0 ≤ -1 + (1 * ρ1 3 + ((-1) * ρ1 70 + 0)) := f5
      rw [r3, r70] at f5
      obtain ⟨f6, gf⟩ := hb_unc gf
      have f6 : 0 ≤ 0 + ((-1) * ρ1 31 + (1 * ρ1 73 + 0)) := f6
      rw [r31, r73] at f6
      obtain ⟨f7, gf⟩ := hb_unc gf
      have f7 : 0 ≤ 0 + (1 * ρ1 31 + ((-1) * ρ1 73 + 0)) := f7
      rw [r31, r73] at f7
      obtain ⟨f8, gf⟩ := hb_unc gf
      have f8 : 0 ≤ 0 + ((-1) * ρ1 26 + (1 * ρ1 74 + 0)) := f8
      rw [r26, r74] at f8
      obtain ⟨f9, gf⟩ := hb_unc gf
      have f9 : 0 ≤ 0 + (1 * ρ1 26 + ((-1) * ρ1 74 + 0)) := f9
      rw [r26, r74] at f9
      obtain ⟨f10, gf⟩ := hb_unc gf
      have f10 : 0 ≤ 0 + ((-1) * ρ1 27 + (1 * ρ1 75 + 0)) := f10
      rw [r27, r75] at f10
      obtain ⟨f11, gf⟩ := hb_unc gf
      have f11 : 0 ≤ 0 + (1 * ρ1 27 + ((-1) * ρ1 75 + 0)) := f11
      rw [r27, r75] at f11
      obtain ⟨f12, gf⟩ := hb_unc gf
      have f12 : 0 ≤ 0 + ((-1) * ρ1 28 + (1 * ρ1 76 + 0)) := f12
      rw [r28, r76] at f12
      obtain ⟨f13, gf⟩ := hb_unc gf
      have f13 : 0 ≤ 0 + (1 * ρ1 28 + ((-1) * ρ1 76 + 0)) := f13
      rw [r28, r76] at f13
      obtain ⟨f14, gf⟩ := hb_unc gf
      have f14 : 0 ≤ 0 + ((-1) * ρ1 29 + (1 * ρ1 77 + 0)) := f14
      rw [r29, r77] at f14
      obtain ⟨f15, gf⟩ := hb_unc gf
      have f15 : 0 ≤ 0 + (1 * ρ1 29 + ((-1) * ρ1 77 + 0)) := f15
      rw [r29, r77] at f15
      obtain ⟨f16, gf⟩ := hb_unc gf
      have f16 : 0 ≤ 0 + ((-1) * ρ1 52 + (1 * ρ1 78 + 0)) := f16
      rw [r52, r78] at f16
      obtain ⟨f17, gf⟩ := hb_unc gf
      have f17 : 0 ≤ 0 + (1 * ρ1 52 + ((-1) * ρ1 78 + 0)) := f17
      rw [r52, r78] at f17
      obtain ⟨f18, gf⟩ := hb_unc gf
      have f18 : 0 ≤ 0 + ((-1) * ρ1 56 + (1 * ρ1 79 + 0)) := f18
      rw [r56, r79] at f18
      obtain ⟨f19, gf⟩ := hb_unc gf
      have f19 : 0 ≤ 0 + (1 * ρ1 56 + ((-1) * ρ1 79 + 0)) := f19
      rw [r56, r79] at f19
      obtain ⟨f20, gf⟩ := hb_unc gf
      have f20 : 0 ≤ 0 + ((-1) * ρ1 60 + (1 * ρ1 80 + 0)) := f20
      rw [r60, r80] at f20
      obtain ⟨f21, gf⟩ := hb_unc gf
      have f21 : 0 ≤ 0 + (1 * ρ1 60 + ((-1) * ρ1 80 + 0)) := f21
      rw [r60, r80] at f21
      obtain ⟨f22, gf⟩ := hb_unc gf
      have f22 : 0 ≤ 0 + ((-1) * ρ1 64 + (1 * ρ1 81 + 0)) := f22
      rw [r64, r81] at f22
      obtain ⟨f23, gf⟩ := hb_unc gf
      have f23 : 0 ≤ 0 + (1 * ρ1 64 + ((-1) * ρ1 81 + 0)) := f23
      rw [r64, r81] at f23
      obtain ⟨f24, gf⟩ := hb_unc gf
      have f24 : 0 ≤ -1 + (1 * ρ1 3 + 0) := f24
      rw [r3] at f24
      obtain ⟨f25, gf⟩ := hb_unc gf
      have f25 : 0 ≤ 3 + ((-1) * ρ1 71 + 0) := f25
      rw [r71] at f25
      obtain ⟨f26, gf⟩ := hb_unc gf
      have f26 : 0 ≤ 0 + (1 * ρ1 71 + 0) := f26
      rw [r71] at f26
      have hy1 : y1 = x1 := hb_inj f0 f1
      subst y1
      have hy2 : y2 = x2 := hb_inj f2 f3
      subst y2
      exact k0 M' y3 y4 w5 gs gx gw g8 ge n5 (by have h1 := f4; have h2 := f5; omega) (by have h1 := f6; have h2 := f7; omega) (by have h1 := f8; have h2 := f9; omega) (by have h1 := f10; have h2 := f11; omega) (by have h1 := f12; have h2 := f13; omega) (by have h1 := f14; have h2 := f15; omega) (by have h1 := f16; have h2 := f17; omega) (by have h1 := f18; have h2 := f19; omega) (by have h1 := f20; have h2 := f21; omega) (by have h1 := f22; have h2 := f23; omega) (by have h1 := f24; omega) (by have h1 := f25; omega) (by have h1 := f26; omega)
    cases hs
  · intro r S hpo
    obtain ⟨b1, b2, b3, b4, b5, p, hp, res, hf, hre⟩ := hpo
    rcases List.mem_cons.mp hp with rfl | hp
    · obtain ⟨rfl, hz1, hu1⟩ := mz_re_3 mz_GG hre rfl
      obtain ⟨M', z', u'⟩ := S
      cases hz1
      cases hu1
      exact w0 M' b1 b2 b3 b4 b5 
    cases hp

def hf_e_q : mz_Q := (143, [(1, 234), (0, 0), (0, 0), (0, 0), (0, 0), (3, 0)], [(0, [(3, 1)]), (19, [(3, -1)]), (3, [(31, -1)]), (0, [(4, 1)]), (3, [(4, -1)])], [25, 20, 21, 22, 23, 46, 50, 54, 58], [], [234, 238, 239, 240, 241, 242, 243, 244, 245, 246, 247, 248, 252, 253, 254, 255, 256, 264])
def hf_e_s : List mz_Sp2 := [(138, [(1, 234), (0, 0), (0, 0), (0, 0), (0, 0), (0, 0)], [], [(0, [(1, -1), (68, 1)]), (0, [(1, 1), (68, -1)]), (0, [(2, -1), (69, 1)]), (0, [(2, 1), (69, -1)]), (0, [(3, -1), (70, 1)]), (0, [(3, 1), (70, -1)]), (0, [(71, 1)]), (0, [(71, -1)]), (-1, [(31, -1), (73, 1)]), (1, [(31, 1), (73, -1)]), (0, [(56, -1), (79, 1)]), (0, [(56, 1), (79, -1)]), (0, [(60, -1), (80, 1)]), (0, [(60, 1), (80, -1)]), (0, [(64, -1), (81, 1)]), (0, [(64, 1), (81, -1)]), (0, [(4, -1)]), (240, [(74, -1)]), (0, [(74, 1)]), (1920, [(75, -1)]), (0, [(75, 1)]), (1, [(76, -1)]), (0, [(76, 1)]), (200, [(77, -1)]), (0, [(77, 1)]), (6, [(78, -1)]), (0, [(78, 1)]), (3, [(72, -1)]), (1, [(72, 1)])]), (59, [(1, 234), (0, 0), (0, 0), (0, 0), (0, 0), (3, 0)], [], [(0, [(1, -1), (68, 1)]), (0, [(1, 1), (68, -1)]), (0, [(2, -1), (69, 1)]), (0, [(2, 1), (69, -1)]), (0, [(3, -1), (70, 1)]), (0, [(3, 1), (70, -1)]), (0, [(71, 1)]), (0, [(71, -1)]), (0, [(31, -1), (73, 1)]), (0, [(31, 1), (73, -1)]), (0, [(56, -1), (79, 1)]), (0, [(56, 1), (79, -1)]), (0, [(60, -1), (80, 1)]), (0, [(60, 1), (80, -1)]), (0, [(64, -1), (81, 1)]), (0, [(64, 1), (81, -1)]), (0, [(4, -1)]), (240, [(74, -1)]), (0, [(74, 1)]), (1920, [(75, -1)]), (0, [(75, 1)]), (1, [(76, -1)]), (0, [(76, 1)]), (200, [(77, -1)]), (0, [(77, 1)]), (6, [(78, -1)]), (0, [(78, 1)])]), (138, [(1, 234), (0, 0), (0, 0), (0, 0), (0, 0), (0, 0)], [], [(0, [(1, -1), (68, 1)]), (0, [(1, 1), (68, -1)]), (0, [(2, -1), (69, 1)]), (0, [(2, 1), (69, -1)]), (0, [(3, -1), (70, 1)]), (0, [(3, 1), (70, -1)]), (-1, [(71, 1)]), (1, [(71, -1)]), (-1, [(31, -1), (73, 1)]), (1, [(31, 1), (73, -1)]), (0, [(52, -1), (78, 1)]), (0, [(52, 1), (78, -1)]), (0, [(60, -1), (80, 1)]), (0, [(60, 1), (80, -1)]), (0, [(64, -1), (81, 1)]), (0, [(64, 1), (81, -1)]), (-1, [(4, 1)]), (1, [(4, -1)]), (240, [(74, -1)]), (0, [(74, 1)]), (1920, [(75, -1)]), (0, [(75, 1)]), (1, [(76, -1)]), (0, [(76, 1)]), (200, [(77, -1)]), (0, [(77, 1)]), (6, [(79, -1)]), (0, [(79, 1)]), (3, [(72, -1)]), (1, [(72, 1)])]), (59, [(1, 234), (0, 0), (0, 0), (0, 0), (0, 0), (3, 0)], [], [(0, [(1, -1), (68, 1)]), (0, [(1, 1), (68, -1)]), (0, [(2, -1), (69, 1)]), (0, [(2, 1), (69, -1)]), (0, [(3, -1), (70, 1)]), (0, [(3, 1), (70, -1)]), (-1, [(71, 1)]), (1, [(71, -1)]), (0, [(31, -1), (73, 1)]), (0, [(31, 1), (73, -1)]), (0, [(52, -1), (78, 1)]), (0, [(52, 1), (78, -1)]), (0, [(60, -1), (80, 1)]), (0, [(60, 1), (80, -1)]), (0, [(64, -1), (81, 1)]), (0, [(64, 1), (81, -1)]), (-1, [(4, 1)]), (1, [(4, -1)]), (240, [(74, -1)]), (0, [(74, 1)]), (1920, [(75, -1)]), (0, [(75, 1)]), (1, [(76, -1)]), (0, [(76, 1)]), (200, [(77, -1)]), (0, [(77, 1)]), (6, [(79, -1)]), (0, [(79, 1)])]), (138, [(1, 234), (0, 0), (0, 0), (0, 0), (0, 0), (0, 0)], [], [(0, [(1, -1), (68, 1)]), (0, [(1, 1), (68, -1)]), (0, [(2, -1), (69, 1)]), (0, [(2, 1), (69, -1)]), (0, [(3, -1), (70, 1)]), (0, [(3, 1), (70, -1)]), (-2, [(71, 1)]), (2, [(71, -1)]), (-1, [(31, -1), (73, 1)]), (1, [(31, 1), (73, -1)]), (0, [(52, -1), (78, 1)]), (0, [(52, 1), (78, -1)]), (0, [(56, -1), (79, 1)]), (0, [(56, 1), (79, -1)]), (0, [(64, -1), (81, 1)]), (0, [(64, 1), (81, -1)]), (-2, [(4, 1)]), (2, [(4, -1)]), (240, [(74, -1)]), (0, [(74, 1)]), (1920, [(75, -1)]), (0, [(75, 1)]), (1, [(76, -1)]), (0, [(76, 1)]), (200, [(77, -1)]), (0, [(77, 1)]), (6, [(80, -1)]), (0, [(80, 1)]), (3, [(72, -1)]), (1, [(72, 1)])]), (59, [(1, 234), (0, 0), (0, 0), (0, 0), (0, 0), (3, 0)], [], [(0, [(1, -1), (68, 1)]), (0, [(1, 1), (68, -1)]), (0, [(2, -1), (69, 1)]), (0, [(2, 1), (69, -1)]), (0, [(3, -1), (70, 1)]), (0, [(3, 1), (70, -1)]), (-2, [(71, 1)]), (2, [(71, -1)]), (0, [(31, -1), (73, 1)]), (0, [(31, 1), (73, -1)]), (0, [(52, -1), (78, 1)]), (0, [(52, 1), (78, -1)]), (0, [(56, -1), (79, 1)]), (0, [(56, 1), (79, -1)]), (0, [(64, -1), (81, 1)]), (0, [(64, 1), (81, -1)]), (-2, [(4, 1)]), (2, [(4, -1)]), (240, [(74, -1)]), (0, [(74, 1)]), (1920, [(75, -1)]), (0, [(75, 1)]), (1, [(76, -1)]), (0, [(76, 1)]), (200, [(77, -1)]), (0, [(77, 1)]), (6, [(80, -1)]), (0, [(80, 1)])]), (138, [(1, 234), (0, 0), (0, 0), (0, 0), (0, 0), (0, 0)], [], [(0, [(1, -1), (68, 1)]), (0, [(1, 1), (68, -1)]), (0, [(2, -1), (69, 1)]), (0, [(2, 1), (69, -1)]), (0, [(3, -1), (70, 1)]), (0, [(3, 1), (70, -1)]), (-3, [(71, 1)]), (3, [(71, -1)]), (-1, [(31, -1), (73, 1)]), (1, [(31, 1), (73, -1)]), (0, [(52, -1), (78, 1)]), (0, [(52, 1), (78, -1)]), (0, [(56, -1), (79, 1)]), (0, [(56, 1), (79, -1)]), (0, [(60, -1), (80, 1)]), (0, [(60, 1), (80, -1)]), (-3, [(4, 1)]), (240, [(74, -1)]), (0, [(74, 1)]), (1920, [(75, -1)]), (0, [(75, 1)]), (1, [(76, -1)]), (0, [(76, 1)]), (200, [(77, -1)]), (0, [(77, 1)]), (6, [(81, -1)]), (0, [(81, 1)]), (3, [(72, -1)]), (1, [(72, 1)])]), (59, [(1, 234), (0, 0), (0, 0), (0, 0), (0, 0), (3, 0)], [], [(0, [(1, -1), (68, 1)]), (0, [(1, 1), (68, -1)]), (0, [(2, -1), (69, 1)]), (0, [(2, 1), (69, -1)]), (0, [(3, -1), (70, 1)]), (0, [(3, 1), (70, -1)]), (-3, [(71, 1)]), (3, [(71, -1)]), (0, [(31, -1), (73, 1)]), (0, [(31, 1), (73, -1)]), (0, [(52, -1), (78, 1)]), (0, [(52, 1), (78, -1)]), (0, [(56, -1), (79, 1)]), (0, [(56, 1), (79, -1)]), (0, [(60, -1), (80, 1)]), (0, [(60, 1), (80, -1)]), (-3, [(4, 1)]), (240, [(74, -1)]), (0, [(74, 1)]), (1920, [(75, -1)]), (0, [(75, 1)]), (1, [(76, -1)]), (0, [(76, 1)]), (200, [(77, -1)]), (0, [(77, 1)]), (6, [(81, -1)]), (0, [(81, 1)])])]
def hf_e_h : List mz_H := [(0, 0, []), (0, 0, [(3, 1)]), (0, 0, [(4, 1)]), (0, 0, []), (0, 0, []), (0, 0, []), (0, 0, []), (148, 0, []), (0, 0, []), (0, 0, []), (0, 0, []), (3, 0, []), (0, 0, [(1, 1)]), (0, 0, []), (264, 0, []), (0, 0, [(80, 1)]), (0, 0, [(19, 1)]), (0, 0, []), (0, 0, []), (0, 0, []), (0, 0, [(80, 1)]), (0, 0, [(19, 1)]), (0, 0, [(80, 1)]), (0, 0, [(19, 1)]), (245, 0, []), (0, 0, []), (0, 0, []), (0, 0, []), (0, 0, [(0, 1)]), (0, 0, [(1, 1)]), (0, 0, []), (0, 0, []), (0, 0, []), (0, 0, []), (0, 0, []), (0, 0, []), (0, 0, []), (0, 0, []), (0, 0, []), (0, 0, []), (0, 0, []), (0, 0, []), (0, 0, []), (0, 0, []), (0, 0, []), (0, 0, []), (0, 0, []), (0, 0, [(17, 1)]), (0, 0, [(16, 1)]), (0, 0, [(15, 1)]), (0, 0, [(14, 1)]), (0, 0, [(13, 1)]), (0, 0, [(12, 1)]), (0, 0, [(11, 1)]), (0, 0, [(10, 1)]), (0, 0, [(9, 1)]), (0, 0, [(8, 1)]), (0, 0, [(7, 1)]), (0, 0, [(1, 1)]), (0, 0, [(0, 1)]), (1, 0, []), (0, 0, []), (0, 0, []), (0, 0, []), (0, 0, []), (0, 0, []), (0, 0, []), (0, 0, []), (0, 0, []), (0, 0, []), (0, 0, []), (0, 0, []), (0, 0, []), (0, 0, []), (0, 0, []), (0, 0, []), (0, 0, []), (0, 0, [(16, 1)]), (0, 0, [(15, 1)]), (0, 0, [(14, 1)]), (0, 0, [(13, 1)]), (0, 0, [(12, 1)]), (0, 0, [(11, 1)]), (0, 0, [(10, 1)]), (0, 0, [(9, 1)]), (0, 0, [(8, 1)]), (0, 0, [(7, 1)]), (0, 0, [(6, 1)]), (155, 0, []), (0, 0, []), (0, 0, []), (0, 0, []), (3, 0, []), (0, 0, [(1, 1)]), (0, 0, []), (264, 0, []), (0, 0, [(80, 1)]), (0, 0, [(19, 1)]), (0, 0, []), (0, 0, []), (0, 0, []), (0, 0, [(80, 1)]), (0, 0, [(19, 1)]), (0, 0, [(80, 1)]), (0, 0, [(19, 1)]), (245, 0, []), (0, 0, []), (0, 0, []), (0, 0, []), (0, 0, [(0, 1)]), (0, 0, [(1, 1)]), (2, 0, []), (0, 0, []), (0, 0, []), (0, 0, []), (0, 0, []), (0, 0, []), (0, 0, []), (0, 0, []), (0, 0, []), (0, 0, []), (0, 0, []), (0, 0, []), (0, 0, []), (0, 0, []), (0, 0, []), (0, 0, []), (0, 0, []), (0, 0, [(18, 1)]), (0, 0, [(17, 1)]), (0, 0, [(16, 1)]), (0, 0, [(15, 1)]), (0, 0, [(14, 1)]), (0, 0, [(13, 1)]), (0, 0, [(12, 1)]), (0, 0, [(11, 1)]), (0, 0, [(10, 1)]), (0, 0, [(9, 1)]), (0, 0, [(8, 1)]), (0, 0, [(7, 1)]), (0, 0, [(1, 1)]), (0, 0, [(0, 1)]), (3, 0, []), (0, 0, []), (0, 0, []), (0, 0, []), (0, 0, []), (0, 0, []), (0, 0, []), (0, 0, []), (0, 0, []), (0, 0, []), (0, 0, []), (0, 0, []), (0, 0, []), (0, 0, []), (0, 0, []), (0, 0, []), (0, 0, []), (0, 0, [(17, 1)]), (0, 0, [(16, 1)]), (0, 0, [(15, 1)]), (0, 0, [(14, 1)]), (0, 0, [(13, 1)]), (0, 0, [(12, 1)]), (0, 0, [(11, 1)]), (0, 0, [(10, 1)]), (0, 0, [(9, 1)]), (0, 0, [(8, 1)]), (0, 0, [(7, 1)]), (0, 0, [(6, 1)]), (162, 0, []), (0, 0, []), (0, 0, []), (0, 0, []), (3, 0, []), (0, 0, [(1, 1)]), (0, 0, []), (264, 0, []), (0, 0, [(80, 1)]), (0, 0, [(19, 1)]), (0, 0, []), (0, 0, []), (0, 0, []), (0, 0, [(80, 1)]), (0, 0, [(19, 1)]), (0, 0, [(80, 1)]), (0, 0, [(19, 1)]), (245, 0, []), (0, 0, []), (0, 0, []), (0, 0, []), (0, 0, [(0, 1)]), (0, 0, [(1, 1)]), (4, 0, []), (0, 0, []), (0, 0, []), (0, 0, []), (0, 0, []), (0, 0, []), (0, 0, []), (0, 0, []), (0, 0, []), (0, 0, []), (0, 0, []), (0, 0, []), (0, 0, []), (0, 0, []), (0, 0, []), (0, 0, []), (0, 0, []), (0, 0, [(18, 1)]), (0, 0, [(17, 1)]), (0, 0, [(16, 1)]), (0, 0, [(15, 1)]), (0, 0, [(14, 1)]), (0, 0, [(13, 1)]), (0, 0, [(12, 1)]), (0, 0, [(11, 1)]), (0, 0, [(10, 1)]), (0, 0, [(9, 1)]), (0, 0, [(8, 1)]), (0, 0, [(7, 1)]), (0, 0, [(1, 1)]), (0, 0, [(0, 1)]), (5, 0, []), (0, 0, []), (0, 0, []), (0, 0, []), (0, 0, []), (0, 0, []), (0, 0, []), (0, 0, []), (0, 0, []), (0, 0, []), (0, 0, []), (0, 0, []), (0, 0, []), (0, 0, []), (0, 0, []), (0, 0, []), (0, 0, []), (0, 0, [(17, 1)]), (0, 0, [(16, 1)]), (0, 0, [(15, 1)]), (0, 0, [(14, 1)]), (0, 0, [(13, 1)]), (0, 0, [(12, 1)]), (0, 0, [(11, 1)]), (0, 0, [(10, 1)]), (0, 0, [(9, 1)]), (0, 0, [(8, 1)]), (0, 0, [(7, 1)]), (0, 0, [(6, 1)]), (169, 0, []), (0, 0, []), (0, 0, []), (0, 0, []), (3, 0, []), (0, 0, [(1, 1)]), (0, 0, []), (264, 0, []), (0, 0, [(80, 1)]), (0, 0, [(19, 1)]), (0, 0, []), (0, 0, []), (0, 0, []), (0, 0, [(80, 1)]), (0, 0, [(19, 1)]), (0, 0, [(80, 1)]), (0, 0, [(19, 1)]), (245, 0, []), (0, 0, []), (0, 0, []), (0, 0, []), (0, 0, [(0, 1)]), (0, 0, [(1, 1)]), (6, 0, []), (0, 0, []), (0, 0, []), (0, 0, []), (0, 0, []), (0, 0, []), (0, 0, []), (0, 0, []), (0, 0, []), (0, 0, []), (0, 0, []), (0, 0, []), (0, 0, []), (0, 0, []), (0, 0, []), (0, 0, []), (0, 0, []), (0, 0, [(18, 1)]), (0, 0, [(16, 1)]), (0, 0, [(15, 1)]), (0, 0, [(14, 1)]), (0, 0, [(13, 1)]), (0, 0, [(12, 1)]), (0, 0, [(11, 1)]), (0, 0, [(10, 1)]), (0, 0, [(9, 1)]), (0, 0, [(8, 1)]), (0, 0, [(7, 1)]), (0, 0, [(1, 1)]), (0, 0, [(0, 1)]), (7, 0, []), (0, 0, []), (0, 0, []), (0, 0, []), (0, 0, []), (0, 0, []), (0, 0, []), (0, 0, []), (0, 0, []), (0, 0, []), (0, 0, []), (0, 0, []), (0, 0, []), (0, 0, []), (0, 0, []), (0, 0, []), (0, 0, []), (0, 0, [(17, 1)]), (0, 0, [(15, 1)]), (0, 0, [(14, 1)]), (0, 0, [(13, 1)]), (0, 0, [(12, 1)]), (0, 0, [(11, 1)]), (0, 0, [(10, 1)]), (0, 0, [(9, 1)]), (0, 0, [(8, 1)]), (0, 0, [(7, 1)]), (0, 0, [(6, 1)])]
set_option maxRecDepth 100000 in
theorem hf_e_c : mz_blk mz_GG mq_PP mz_Cs hf_e_q 6 10 94 hf_e_s [(94, 0, 4, 0, 4, [])] 106 hf_e_h = true := by decide +kernel
theorem hf_e {X : (Nat → mq_C) → Prop} (hX : ∀ M M' : Nat → mq_C, mz_same mz_GG M M' → X M → X M') (hC : ∀ c ∈ mz_Cs, c.2 < 10 → mz_Ct mz_GG mq_PP X c.1 c.2) {d z u : Nat} {M : Nat → mq_C} {Q : (Option Value ⊕ Nat) → mq_S → Prop} {x1 : Int32} {x2 : Int32} {x3 : Int32} {x4 : Int32} {o5 : Option Value} (hd : 10 ≤ d) (hz : 272 ≤ z) (hm : mz_sh mz_GG M) (hx : X M) (h0 : mq_nl o5 = true) (p0 : 0 ≤ x3.toInt) (p1 : 0 ≤ 19 - x3.toInt) (p2 : 0 ≤ 3 - hv M 234 38) (p3 : 0 ≤ x4.toInt) (p4 : 0 ≤ 3 - x4.toInt)
    (k0 : ∀ (M' : Nat → mq_C) (y4 : Int32) (y5 : Int32), mz_sh mz_GG M' → X M' → mz_fr hf_e_q M M' → (∀ a, a < 8 → M' a = M a) → hb_same mz_GG hf_e_q M M' → y4.toInt = 0 → hv M' 234 38 = 1 + hv M 234 38 → hv M' 238 1 = hv M 238 1 → hv M' 238 2 = hv M 238 2 → hv M' 238 3 = hv M 238 3 → 0 ≤ 0 - x4.toInt → 0 ≤ 240 - hv M' 234 21 → 0 ≤ hv M' 234 21 → 0 ≤ 1920 - hv M' 234 23 → 0 ≤ hv M' 234 23 → 0 ≤ 1 - hv M' 234 24 → 0 ≤ hv M' 234 24 → 0 ≤ 200 - hv M' 234 25 → 0 ≤ hv M' 234 25 → 0 ≤ 6 - hv M' 238 0 → 0 ≤ hv M' 238 0 → 0 ≤ 3 - y5.toInt → 0 ≤ 1 + y5.toInt → mq_R mq_PP d 143 138 [some (.ref 234), some (.int x1), some (.int x2), some (.int x3), some (.int y4), some (.int y5)] [] (M', z, u) Q)
    (k1 : ∀ (M' : Nat → mq_C) (y4 : Int32) (w5 : Option Value), mz_sh mz_GG M' → X M' → mz_fr hf_e_q M M' → (∀ a, a < 8 → M' a = M a) → hb_same mz_GG hf_e_q M M' → mq_nl w5 = true → y4.toInt = 0 → hv M' 234 38 = hv M 234 38 → hv M' 238 1 = hv M 238 1 → hv M' 238 2 = hv M 238 2 → hv M' 238 3 = hv M 238 3 → 0 ≤ 0 - x4.toInt → 0 ≤ 240 - hv M' 234 21 → 0 ≤ hv M' 234 21 → 0 ≤ 1920 - hv M' 234 23 → 0 ≤ hv M' 234 23 → 0 ≤ 1 - hv M' 234 24 → 0 ≤ hv M' 234 24 → 0 ≤ 200 - hv M' 234 25 → 0 ≤ hv M' 234 25 → 0 ≤ 6 - hv M' 238 0 → 0 ≤ hv M' 238 0 → mq_R mq_PP d 143 59 [some (.ref 234), some (.int x1), some (.int x2), some (.int x3), some (.int y4), w5] [] (M', z, u) Q)
    (k2 : ∀ (M' : Nat → mq_C) (y4 : Int32) (y5 : Int32), mz_sh mz_GG M' → X M' → mz_fr hf_e_q M M' → (∀ a, a < 8 → M' a = M a) → hb_same mz_GG hf_e_q M M' → y4.toInt = 1 → hv M' 234 38 = 1 + hv M 234 38 → hv M' 238 0 = hv M 238 0 → hv M' 238 2 = hv M 238 2 → hv M' 238 3 = hv M 238 3 → 0 ≤ (-1) + x4.toInt → 0 ≤ 1 - x4.toInt → 0 ≤ 240 - hv M' 234 21 → 0 ≤ hv M' 234 21 → 0 ≤ 1920 - hv M' 234 23 → 0 ≤ hv M' 234 23 → 0 ≤ 1 - hv M' 234 24 → 0 ≤ hv M' 234 24 → 0 ≤ 200 - hv M' 234 25 → 0 ≤ hv M' 234 25 → 0 ≤ 6 - hv M' 238 1 → 0 ≤ hv M' 238 1 → 0 ≤ 3 - y5.toInt → 0 ≤ 1 + y5.toInt → mq_R mq_PP d 143 138 [some (.ref 234), some (.int x1), some (.int x2), some (.int x3), some (.int y4), some (.int y5)] [] (M', z, u) Q)
    (k3 : ∀ (M' : Nat → mq_C) (y4 : Int32) (w5 : Option Value), mz_sh mz_GG M' → X M' → mz_fr hf_e_q M M' → (∀ a, a < 8 → M' a = M a) → hb_same mz_GG hf_e_q M M' → mq_nl w5 = true → y4.toInt = 1 → hv M' 234 38 = hv M 234 38 → hv M' 238 0 = hv M 238 0 → hv M' 238 2 = hv M 238 2 → hv M' 238 3 = hv M 238 3 → 0 ≤ (-1) + x4.toInt → 0 ≤ 1 - x4.toInt → 0 ≤ 240 - hv M' 234 21 → 0 ≤ hv M' 234 21 → 0 ≤ 1920 - hv M' 234 23 → 0 ≤ hv M' 234 23 → 0 ≤ 1 - hv M' 234 24 → 0 ≤ hv M' 234 24 → 0 ≤ 200 - hv M' 234 25 → 0 ≤ hv M' 234 25 → 0 ≤ 6 - hv M' 238 1 → 0 ≤ hv M' 238 1 → mq_R mq_PP d 143 59 [some (.ref 234), some (.int x1), some (.int x2), some (.int x3), some (.int y4), w5] [] (M', z, u) Q)
    (k4 : ∀ (M' : Nat → mq_C) (y4 : Int32) (y5 : Int32), mz_sh mz_GG M' → X M' → mz_fr hf_e_q M M' → (∀ a, a < 8 → M' a = M a) → hb_same mz_GG hf_e_q M M' → y4.toInt = 2 → hv M' 234 38 = 1 + hv M 234 38 → hv M' 238 0 = hv M 238 0 → hv M' 238 1 = hv M 238 1 → hv M' 238 3 = hv M 238 3 → 0 ≤ (-2) + x4.toInt → 0 ≤ 2 - x4.toInt → 0 ≤ 240 - hv M' 234 21 → 0 ≤ hv M' 234 21 → 0 ≤ 1920 - hv M' 234 23 → 0 ≤ hv M' 234 23 → 0 ≤ 1 - hv M' 234 24 → 0 ≤ hv M' 234 24 → 0 ≤ 200 - hv M' 234 25 → 0 ≤ hv M' 234 25 → 0 ≤ 6 - hv M' 238 2 → 0 ≤ hv M' 238 2 → 0 ≤ 3 - y5.toInt → 0 ≤ 1 + y5.toInt → mq_R mq_PP d 143 138 [some (.ref 234), some (.int x1), some (.int x2), some (.int x3), some (.int y4), some (.int y5)] [] (M', z, u) Q)
    (k5 : ∀ (M' : Nat → mq_C) (y4 : Int32) (w5 : Option Value), mz_sh mz_GG M' → X M' → mz_fr hf_e_q M M' → (∀ a, a < 8 → M' a = M a) → hb_same mz_GG hf_e_q M M' → mq_nl w5 = true → y4.toInt = 2 → hv M' 234 38 = hv M 234 38 → hv M' 238 0 = hv M 238 0 → hv M' 238 1 = hv M 238 1 → hv M' 238 3 = hv M 238 3 → 0 ≤ (-2) + x4.toInt → 0 ≤ 2 - x4.toInt → 0 ≤ 240 - hv M' 234 21 → 0 ≤ hv M' 234 21 → 0 ≤ 1920 - hv M' 234 23 → 0 ≤ hv M' 234 23 → 0 ≤ 1 - hv M' 234 24 → 0 ≤ hv M' 234 24 → 0 ≤ 200 - hv M' 234 25 → 0 ≤ hv M' 234 25 → 0 ≤ 6 - hv M' 238 2 → 0 ≤ hv M' 238 2 → mq_R mq_PP d 143 59 [some (.ref 234), some (.int x1), some (.int x2), some (.int x3), some (.int y4), w5] [] (M', z, u) Q)
    (k6 : ∀ (M' : Nat → mq_C) (y4 : Int32) (y5 : Int32), mz_sh mz_GG M' → X M' → mz_fr hf_e_q M M' → (∀ a, a < 8 → M' a = M a) → hb_same mz_GG hf_e_q M M' → y4.toInt = 3 → hv M' 234 38 = 1 + hv M 234 38 → hv M' 238 0 = hv M 238 0 → hv M' 238 1 = hv M 238 1 → hv M' 238 2 = hv M 238 2 → 0 ≤ (-3) + x4.toInt → 0 ≤ 240 - hv M' 234 21 → 0 ≤ hv M' 234 21 → 0 ≤ 1920 - hv M' 234 23 → 0 ≤ hv M' 234 23 → 0 ≤ 1 - hv M' 234 24 → 0 ≤ hv M' 234 24 → 0 ≤ 200 - hv M' 234 25 → 0 ≤ hv M' 234 25 → 0 ≤ 6 - hv M' 238 3 → 0 ≤ hv M' 238 3 → 0 ≤ 3 - y5.toInt → 0 ≤ 1 + y5.toInt → mq_R mq_PP d 143 138 [some (.ref 234), some (.int x1), some (.int x2), some (.int x3), some (.int y4), some (.int y5)] [] (M', z, u) Q)
    (k7 : ∀ (M' : Nat → mq_C) (y4 : Int32) (w5 : Option Value), mz_sh mz_GG M' → X M' → mz_fr hf_e_q M M' → (∀ a, a < 8 → M' a = M a) → hb_same mz_GG hf_e_q M M' → mq_nl w5 = true → y4.toInt = 3 → hv M' 234 38 = hv M 234 38 → hv M' 238 0 = hv M 238 0 → hv M' 238 1 = hv M 238 1 → hv M' 238 2 = hv M 238 2 → 0 ≤ (-3) + x4.toInt → 0 ≤ 240 - hv M' 234 21 → 0 ≤ hv M' 234 21 → 0 ≤ 1920 - hv M' 234 23 → 0 ≤ hv M' 234 23 → 0 ≤ 1 - hv M' 234 24 → 0 ≤ hv M' 234 24 → 0 ≤ 200 - hv M' 234 25 → 0 ≤ hv M' 234 25 → 0 ≤ 6 - hv M' 238 3 → 0 ≤ hv M' 238 3 → mq_R mq_PP d 143 59 [some (.ref 234), some (.int x1), some (.int x2), some (.int x3), some (.int y4), w5] [] (M', z, u) Q) : mq_R mq_PP d 143 94 [some (.ref 234), some (.int x1), some (.int x2), some (.int x3), some (.int x4), o5] [] (M, z, u) Q := by
  refine hb_blk mz_GG mq_PP X (q := hf_e_q) (nl := 6) (M := M) hb_okG hX hC hf_e_c hz hd (L := [some (.ref 234), some (.int x1), some (.int x2), some (.int x3), some (.int x4), o5]) (st := []) (show hb_lk mz_GG ([(1, 234), (0, 0), (0, 0), (0, 0), (0, 0), (3, 0)]) _ from ⟨⟨List.mem_singleton.mpr rfl, rfl⟩, trivial, trivial, trivial, trivial, h0, trivial⟩) (show hb_pk mz_GG ([]) _ from trivial) hm hx ?_ ?_ ?_
  · exact hb_cons (show 0 ≤ mz_ev _ _ from (show 0 ≤ 0 + (1 * x3.toInt + 0) by omega)) (hb_cons (show 0 ≤ mz_ev _ _ from (show 0 ≤ 19 + ((-1) * x3.toInt + 0) by omega)) (hb_cons (show 0 ≤ mz_ev _ _ from (show 0 ≤ 3 + ((-1) * hv M 234 38 + 0) by omega)) (hb_cons (show 0 ≤ mz_ev _ _ from (show 0 ≤ 0 + (1 * x4.toInt + 0) by omega)) (hb_cons (show 0 ≤ mz_ev _ _ from (show 0 ≤ 3 + ((-1) * x4.toInt + 0) by omega)) (hb_nil)))))
  · intro s hs
    rcases List.mem_cons.mp hs with rfl | hs
    · intro ρ1 L' st' M' g1 g2 gm gr gf gs gx gw g8 ge
      obtain ⟨e0, L1, rfl, n0, gg0⟩ := hb_l1 mz_GG g1
      obtain rfl : e0 = 234 := List.mem_singleton.mp n0
      obtain ⟨y1, L1, rfl, qr68, gg1⟩ := hb_l0 mz_GG gg0
      have r68 : ρ1 68 = y1.toInt := qr68
      obtain ⟨y2, L1, rfl, qr69, gg2⟩ := hb_l0 mz_GG gg1
      have r69 : ρ1 69 = y2.toInt := qr69
      obtain ⟨y3, L1, rfl, qr70, gg3⟩ := hb_l0 mz_GG gg2
      have r70 : ρ1 70 = y3.toInt := qr70
      obtain ⟨y4, L1, rfl, qr71, gg4⟩ := hb_l0 mz_GG gg3
      have r71 : ρ1 71 = y4.toInt := qr71
      obtain ⟨y5, L1, rfl, qr72, gg5⟩ := hb_l0 mz_GG gg4
      have r72 : ρ1 72 = y5.toInt := qr72
      obtain rfl := hb_ln mz_GG gg5
      obtain rfl := hb_pn mz_GG g2
      have r1 : ρ1 1 = x1.toInt := gr 1 (by decide +kernel)
      have r2 : ρ1 2 = x2.toInt := gr 2 (by decide +kernel)
      have r3 : ρ1 3 = x3.toInt := gr 3 (by decide +kernel)
      have r4 : ρ1 4 = x4.toInt := gr 4 (by decide +kernel)
      have r31 : ρ1 31 = hv M 234 38 := gr 31 (by decide +kernel)
      have r56 : ρ1 56 = hv M 238 1 := gr 56 (by decide +kernel)
      have r60 : ρ1 60 = hv M 238 2 := gr 60 (by decide +kernel)
      have r64 : ρ1 64 = hv M 238 3 := gr 64 (by decide +kernel)
      have r73 : ρ1 73 = hv M' 234 38 := gm 0 25 (234, 38) rfl rfl
      have r74 : ρ1 74 = hv M' 234 21 := gm 1 20 (234, 21) rfl rfl
      have r75 : ρ1 75 = hv M' 234 23 := gm 2 21 (234, 23) rfl rfl
      have r76 : ρ1 76 = hv M' 234 24 := gm 3 22 (234, 24) rfl rfl
      have r77 : ρ1 77 = hv M' 234 25 := gm 4 23 (234, 25) rfl rfl
      have r78 : ρ1 78 = hv M' 238 0 := gm 5 46 (238, 0) rfl rfl
      have r79 : ρ1 79 = hv M' 238 1 := gm 6 50 (238, 1) rfl rfl
      have r80 : ρ1 80 = hv M' 238 2 := gm 7 54 (238, 2) rfl rfl
      have r81 : ρ1 81 = hv M' 238 3 := gm 8 58 (238, 3) rfl rfl
      obtain ⟨f0, gf⟩ := hb_unc gf
      have f0 : 0 ≤ 0 + ((-1) * ρ1 1 + (1 * ρ1 68 + 0)) := f0
      rw [r1, r68] at f0
      obtain ⟨f1, gf⟩ := hb_unc gf
      have f1 : 0 ≤ 0 + (1 * ρ1 1 + ((-1) * ρ1 68 + 0)) := f1
      rw [r1, r68] at f1
      obtain ⟨f2, gf⟩ := hb_unc gf
      have f2 : 0 ≤ 0 + ((-1) * ρ1 2 + (1 * ρ1 69 + 0)) := f2
      rw [r2, r69] at f2
      obtain ⟨f3, gf⟩ := hb_unc gf
      have f3 : 0 ≤ 0 + (1 * ρ1 2 + ((-1) * ρ1 69 + 0)) := f3
      rw [r2, r69] at f3
      obtain ⟨f4, gf⟩ := hb_unc gf
      have f4 : 0 ≤ 0 + ((-1) * ρ1 3 + (1 * ρ1 70 + 0)) := f4
      rw [r3, r70] at f4
      obtain ⟨f5, gf⟩ := hb_unc gf
      have f5 : 0 ≤ 0 + (1 * ρ1 3 + ((-1) * ρ1 70 + 0)) := f5
      rw [r3, r70] at f5
      obtain ⟨f6, gf⟩ := hb_unc gf
      have f6 : 0 ≤ 0 + (1 * ρ1 71 + 0) := f6
      rw [r71] at f6
      obtain ⟨f7, gf⟩ := hb_unc gf
      have f7 : 0 ≤ 0 + ((-1) * ρ1 71 + 0) := f7
      rw [r71] at f7
      obtain ⟨f8, gf⟩ := hb_unc gf
      have f8 : 0 ≤ -1 + ((-1) * ρ1 31 + (1 * ρ1 73 + 0)) := f8
      rw [r31, r73] at f8
      obtain ⟨f9, gf⟩ := hb_unc gf
      have f9 : 0 ≤ 1 + (1 * ρ1 31 + ((-1) * ρ1 73 + 0)) := f9
      rw [r31, r73] at f9
      obtain ⟨f10, gf⟩ := hb_unc gf
      have f10 : 0 ≤ 0 + ((-1) * ρ1 56 + (1 * ρ1 79 + 0)) := f10
      rw [r56, r79] at f10
      obtain ⟨f11, gf⟩ := hb_unc gf
      have f11 : 0 ≤ 0 + (1 * ρ1 56 + ((-1) * ρ1 79 + 0)) := f11
      rw [r56, r79] at f11
      obtain ⟨f12, gf⟩ := hb_unc gf
      have f12 : 0 ≤ 0 + ((-1) * ρ1 60 + (1 * ρ1 80 + 0)) := f12
      rw [r60, r80] at f12
      obtain ⟨f13, gf⟩ := hb_unc gf
      have f13 : 0 ≤ 0 + (1 * ρ1 60 + ((-1) * ρ1 80 + 0)) := f13
      rw [r60, r80] at f13
      obtain ⟨f14, gf⟩ := hb_unc gf
      have f14 : 0 ≤ 0 + ((-1) * ρ1 64 + (1 * ρ1 81 + 0)) := f14
      rw [r64, r81] at f14
      obtain ⟨f15, gf⟩ := hb_unc gf
      have f15 : 0 ≤ 0 + (1 * ρ1 64 + ((-1) * ρ1 81 + 0)) := f15
      rw [r64, r81] at f15
      obtain ⟨f16, gf⟩ := hb_unc gf
      have f16 : 0 ≤ 0 + ((-1) * ρ1 4 + 0) := f16
      rw [r4] at f16
      obtain ⟨f17, gf⟩ := hb_unc gf
      have f17 : 0 ≤ 240 + ((-1) * ρ1 74 + 0) := f17
      rw [r74] at f17
      obtain ⟨f18, gf⟩ := hb_unc gf
      have f18 : 0 ≤ 0 + (1 * ρ1 74 + 0) := f18
      rw [r74] at f18
      obtain ⟨f19, gf⟩ := hb_unc gf
      have f19 : 0 ≤ 1920 + ((-1) * ρ1 75 + 0) := f19
      rw [r75] at f19
      obtain ⟨f20, gf⟩ := hb_unc gf
      have f20 : 0 ≤ 0 + (1 * ρ1 75 + 0) := f20
      rw [r75] at f20
      obtain ⟨f21, gf⟩ := hb_unc gf
      have f21 : 0 ≤ 1 + ((-1) * ρ1 76 + 0) := f21
      rw [r76] at f21
      obtain ⟨f22, gf⟩ := hb_unc gf
      have f22 : 0 ≤ 0 + (1 * ρ1 76 + 0) := f22
      rw [r76] at f22
      obtain ⟨f23, gf⟩ := hb_unc gf
      have f23 : 0 ≤ 200 + ((-1) * ρ1 77 + 0) := f23
      rw [r77] at f23
      obtain ⟨f24, gf⟩ := hb_unc gf
      have f24 : 0 ≤ 0 + (1 * ρ1 77 + 0) := f24
      rw [r77] at f24
      obtain ⟨f25, gf⟩ := hb_unc gf
      have f25 : 0 ≤ 6 + ((-1) * ρ1 78 + 0) := f25
      rw [r78] at f25
      obtain ⟨f26, gf⟩ := hb_unc gf
      have f26 : 0 ≤ 0 + (1 * ρ1 78 + 0) := f26
      rw [r78] at f26
      obtain ⟨f27, gf⟩ := hb_unc gf
      have f27 : 0 ≤ 3 + ((-1) * ρ1 72 + 0) := f27
      rw [r72] at f27
      obtain ⟨f28, gf⟩ := hb_unc gf
      have f28 : 0 ≤ 1 + (1 * ρ1 72 + 0) := f28
      rw [r72] at f28
      have hy1 : y1 = x1 := hb_inj f0 f1
      subst y1
      have hy2 : y2 = x2 := hb_inj f2 f3
      subst y2
      have hy3 : y3 = x3 := hb_inj f4 f5
      subst y3
      exact k0 M' y4 y5 gs gx gw g8 ge  (by have h1 := f6; have h2 := f7; omega) (by have h1 := f8; have h2 := f9; omega) (by have h1 := f10; have h2 := f11; omega) (by have h1 := f12; have h2 := f13; omega) (by have h1 := f14; have h2 := f15; omega) (by have h1 := f16; omega) (by have h1 := f17; omega) (by have h1 := f18; omega) (by have h1 := f19; omega) (by have h1 := f20; omega) (by have h1 := f21; omega) (by have h1 := f22; omega) (by have h1 := f23; omega) (by have h1 := f24; omega) (by have h1 := f25; omega) (by have h1 := f26; omega) (by have h1 := f27; omega) (by have h1 := f28; omega)
    rcases List.mem_cons.mp hs with rfl | hs
    · intro ρ1 L' st' M' g1 g2 gm gr gf gs gx gw g8 ge
      obtain ⟨e0, L1, rfl, n0, gg0⟩ := hb_l1 mz_GG g1
      obtain rfl : e0 = 234 := List.mem_singleton.mp n0
      obtain ⟨y1, L1, rfl, qr68, gg1⟩ := hb_l0 mz_GG gg0
      have r68 : ρ1 68 = y1.toInt := qr68
      obtain ⟨y2, L1, rfl, qr69, gg2⟩ := hb_l0 mz_GG gg1
      have r69 : ρ1 69 = y2.toInt := qr69
      obtain ⟨y3, L1, rfl, qr70, gg3⟩ := hb_l0 mz_GG gg2
      have r70 : ρ1 70 = y3.toInt := qr70
      obtain ⟨y4, L1, rfl, qr71, gg4⟩ := hb_l0 mz_GG gg3
      have r71 : ρ1 71 = y4.toInt := qr71
      obtain ⟨w5, L1, rfl, n5, gg5⟩ := hb_l3 mz_GG gg4
      obtain rfl := hb_ln mz_GG gg5
      obtain rfl := hb_pn mz_GG g2
      have r1 : ρ1 1 = x1.toInt := gr 1 (by decide +kernel)
      have r2 : ρ1 2 = x2.toInt := gr 2 (by decide +kernel)
      have r3 : ρ1 3 = x3.toInt := gr 3 (by decide +kernel)
      have r4 : ρ1 4 = x4.toInt := gr 4 (by decide +kernel)
      have r31 : ρ1 31 = hv M 234 38 := gr 31 (by decide +kernel)
      have r56 : ρ1 56 = hv M 238 1 := gr 56 (by decide +kernel)
      have r60 : ρ1 60 = hv M 238 2 := gr 60 (by decide +kernel)
      have r64 : ρ1 64 = hv M 238 3 := gr 64 (by decide +kernel)
      have r73 : ρ1 73 = hv M' 234 38 := gm 0 25 (234, 38) rfl rfl
      have r74 : ρ1 74 = hv M' 234 21 := gm 1 20 (234, 21) rfl rfl
      have r75 : ρ1 75 = hv M' 234 23 := gm 2 21 (234, 23) rfl rfl
      have r76 : ρ1 76 = hv M' 234 24 := gm 3 22 (234, 24) rfl rfl
      have r77 : ρ1 77 = hv M' 234 25 := gm 4 23 (234, 25) rfl rfl
      have r78 : ρ1 78 = hv M' 238 0 := gm 5 46 (238, 0) rfl rfl
      have r79 : ρ1 79 = hv M' 238 1 := gm 6 50 (238, 1) rfl rfl
      have r80 : ρ1 80 = hv M' 238 2 := gm 7 54 (238, 2) rfl rfl
      have r81 : ρ1 81 = hv M' 238 3 := gm 8 58 (238, 3) rfl rfl
      obtain ⟨f0, gf⟩ := hb_unc gf
      have f0 : 0 ≤ 0 + ((-1) * ρ1 1 + (1 * ρ1 68 + 0)) := f0
      rw [r1, r68] at f0
      obtain ⟨f1, gf⟩ := hb_unc gf
      have f1 : 0 ≤ 0 + (1 * ρ1 1 + ((-1) * ρ1 68 + 0)) := f1
      rw [r1, r68] at f1
      obtain ⟨f2, gf⟩ := hb_unc gf
      have f2 : 0 ≤ 0 + ((-1) * ρ1 2 + (1 * ρ1 69 + 0)) := f2
      rw [r2, r69] at f2
      obtain ⟨f3, gf⟩ := hb_unc gf
      have f3 : 0 ≤ 0 + (1 * ρ1 2 + ((-1) * ρ1 69 + 0)) := f3
      rw [r2, r69] at f3
      obtain ⟨f4, gf⟩ := hb_unc gf
      have f4 : 0 ≤ 0 + ((-1) * ρ1 3 + (1 * ρ1 70 + 0)) := f4
      rw [r3, r70] at f4
      obtain ⟨f5, gf⟩ := hb_unc gf
      have f5 : 0 ≤ 0 + (1 * ρ1 3 + ((-1) * ρ1 70 + 0)) := f5
      rw [r3, r70] at f5
      obtain ⟨f6, gf⟩ := hb_unc gf
      have f6 : 0 ≤ 0 + (1 * ρ1 71 + 0) := f6
      rw [r71] at f6
      obtain ⟨f7, gf⟩ := hb_unc gf
      have f7 : 0 ≤ 0 + ((-1) * ρ1 71 + 0) := f7
      rw [r71] at f7
      obtain ⟨f8, gf⟩ := hb_unc gf
      have f8 : 0 ≤ 0 + ((-1) * ρ1 31 + (1 * ρ1 73 + 0)) := f8
      rw [r31, r73] at f8
      obtain ⟨f9, gf⟩ := hb_unc gf
      have f9 : 0 ≤ 0 + (1 * ρ1 31 + ((-1) * ρ1 73 + 0)) := f9
      rw [r31, r73] at f9
      obtain ⟨f10, gf⟩ := hb_unc gf
      have f10 : 0 ≤ 0 + ((-1) * ρ1 56 + (1 * ρ1 79 + 0)) := f10
      rw [r56, r79] at f10
      obtain ⟨f11, gf⟩ := hb_unc gf
      have f11 : 0 ≤ 0 + (1 * ρ1 56 + ((-1) * ρ1 79 + 0)) := f11
      rw [r56, r79] at f11
      obtain ⟨f12, gf⟩ := hb_unc gf
      have f12 : 0 ≤ 0 + ((-1) * ρ1 60 + (1 * ρ1 80 + 0)) := f12
      rw [r60, r80] at f12
      obtain ⟨f13, gf⟩ := hb_unc gf
      have f13 : 0 ≤ 0 + (1 * ρ1 60 + ((-1) * ρ1 80 + 0)) := f13
      rw [r60, r80] at f13
      obtain ⟨f14, gf⟩ := hb_unc gf
      have f14 : 0 ≤ 0 + ((-1) * ρ1 64 + (1 * ρ1 81 + 0)) := f14
      rw [r64, r81] at f14
      obtain ⟨f15, gf⟩ := hb_unc gf
      have f15 : 0 ≤ 0 + (1 * ρ1 64 + ((-1) * ρ1 81 + 0)) := f15
      rw [r64, r81] at f15
      obtain ⟨f16, gf⟩ := hb_unc gf
      have f16 : 0 ≤ 0 + ((-1) * ρ1 4 + 0) := f16
      rw [r4] at f16
      obtain ⟨f17, gf⟩ := hb_unc gf
      have f17 : 0 ≤ 240 + ((-1) * ρ1 74 + 0) := f17
      rw [r74] at f17
      obtain ⟨f18, gf⟩ := hb_unc gf
      have f18 : 0 ≤ 0 + (1 * ρ1 74 + 0) := f18
      rw [r74] at f18
      obtain ⟨f19, gf⟩ := hb_unc gf
      have f19 : 0 ≤ 1920 + ((-1) * ρ1 75 + 0) := f19
      rw [r75] at f19
      obtain ⟨f20, gf⟩ := hb_unc gf
      have f20 : 0 ≤ 0 + (1 * ρ1 75 + 0) := f20
      rw [r75] at f20
      obtain ⟨f21, gf⟩ := hb_unc gf
      have f21 : 0 ≤ 1 + ((-1) * ρ1 76 + 0) := f21
      rw [r76] at f21
      obtain ⟨f22, gf⟩ := hb_unc gf
      have f22 : 0 ≤ 0 + (1 * ρ1 76 + 0) := f22
      rw [r76] at f22
      obtain ⟨f23, gf⟩ := hb_unc gf
      have f23 : 0 ≤ 200 + ((-1) * ρ1 77 + 0) := f23
      rw [r77] at f23
      obtain ⟨f24, gf⟩ := hb_unc gf
      have f24 : 0 ≤ 0 + (1 * ρ1 77 + 0) := f24
      rw [r77] at f24
      obtain ⟨f25, gf⟩ := hb_unc gf
      have f25 : 0 ≤ 6 + ((-1) * ρ1 78 + 0) := f25
      rw [r78] at f25
      obtain ⟨f26, gf⟩ := hb_unc gf
      have f26 : 0 ≤ 0 + (1 * ρ1 78 + 0) := f26
      rw [r78] at f26
      have hy1 : y1 = x1 := hb_inj f0 f1
      subst y1
      have hy2 : y2 = x2 := hb_inj f2 f3
      subst y2
      have hy3 : y3 = x3 := hb_inj f4 f5
      subst y3
      exact k1 M' y4 w5 gs gx gw g8 ge n5 (by have h1 := f6; have h2 := f7; omega) (by have h1 := f8; have h2 := f9; omega) (by have h1 := f10; have h2 := f11; omega) (by have h1 := f12; have h2 := f13; omega) (by have h1 := f14; have h2 := f15; omega) (by have h1 := f16; omega) (by have h1 := f17; omega) (by have h1 := f18; omega) (by have h1 := f19; omega) (by have h1 := f20; omega) (by have h1 := f21; omega) (by have h1 := f22; omega) (by have h1 := f23; omega) (by have h1 := f24; omega) (by have h1 := f25; omega) (by have h1 := f26; omega)
    rcases List.mem_cons.mp hs with rfl | hs
    · intro ρ1 L' st' M' g1 g2 gm gr gf gs gx gw g8 ge
      obtain ⟨e0, L1, rfl, n0, gg0⟩ := hb_l1 mz_GG g1
      obtain rfl : e0 = 234 := List.mem_singleton.mp n0
      obtain ⟨y1, L1, rfl, qr68, gg1⟩ := hb_l0 mz_GG gg0
      have r68 : ρ1 68 = y1.toInt := qr68
      obtain ⟨y2, L1, rfl, qr69, gg2⟩ := hb_l0 mz_GG gg1
      have r69 : ρ1 69 = y2.toInt := qr69
      obtain ⟨y3, L1, rfl, qr70, gg3⟩ := hb_l0 mz_GG gg2
      have r70 : ρ1 70 = y3.toInt := qr70
      obtain ⟨y4, L1, rfl, qr71, gg4⟩ := hb_l0 mz_GG gg3
      have r71 : ρ1 71 = y4.toInt := qr71
      obtain ⟨y5, L1, rfl, qr72, gg5⟩ := hb_l0 mz_GG gg4
      have r72 : ρ1 72 = y5.toInt := qr72
      obtain rfl := hb_ln mz_GG gg5
      obtain rfl := hb_pn mz_GG g2
      have r1 : ρ1 1 = x1.toInt := gr 1 (by decide +kernel)
      have r2 : ρ1 2 = x2.toInt := gr 2 (by decide +kernel)
      have r3 : ρ1 3 = x3.toInt := gr 3 (by decide +kernel)
      have r4 : ρ1 4 = x4.toInt := gr 4 (by decide +kernel)
      have r31 : ρ1 31 = hv M 234 38 := gr 31 (by decide +kernel)
      have r52 : ρ1 52 = hv M 238 0 := gr 52 (by decide +kernel)
      have r60 : ρ1 60 = hv M 238 2 := gr 60 (by decide +kernel)
      have r64 : ρ1 64 = hv M 238 3 := gr 64 (by decide +kernel)
      have r73 : ρ1 73 = hv M' 234 38 := gm 0 25 (234, 38) rfl rfl
      have r74 : ρ1 74 = hv M' 234 21 := gm 1 20 (234, 21) rfl rfl
      have r75 : ρ1 75 = hv M' 234 23 := gm 2 21 (234, 23) rfl rfl
      have r76 : ρ1 76 = hv M' 234 24 := gm 3 22 (234, 24) rfl rfl
      have r77 : ρ1 77 = hv M' 234 25 := gm 4 23 (234, 25) rfl rfl
      have r78 : ρ1 78 = hv M' 238 0 := gm 5 46 (238, 0) rfl rfl
      have r79 : ρ1 79 = hv M' 238 1 := gm 6 50 (238, 1) rfl rfl
      have r80 : ρ1 80 = hv M' 238 2 := gm 7 54 (238, 2) rfl rfl
      have r81 : ρ1 81 = hv M' 238 3 := gm 8 58 (238, 3) rfl rfl
      obtain ⟨f0, gf⟩ := hb_unc gf
      have f0 : 0 ≤ 0 + ((-1) * ρ1 1 + (1 * ρ1 68 + 0)) := f0
      rw [r1, r68] at f0
      obtain ⟨f1, gf⟩ := hb_unc gf
      have f1 : 0 ≤ 0 + (1 * ρ1 1 + ((-1) * ρ1 68 + 0)) := f1
      rw [r1, r68] at f1
      obtain ⟨f2, gf⟩ := hb_unc gf
      have f2 : 0 ≤ 0 + ((-1) * ρ1 2 + (1 * ρ1 69 + 0)) := f2
      rw [r2, r69] at f2
      obtain ⟨f3, gf⟩ := hb_unc gf
      have f3 : 0 ≤ 0 + (1 * ρ1 2 + ((-1) * ρ1 69 + 0)) := f3
      rw [r2, r69] at f3
      obtain ⟨f4, gf⟩ := hb_unc gf
      have f4 : 0 ≤ 0 + ((-1) * ρ1 3 + (1 * ρ1 70 + 0)) := f4
      rw [r3, r70] at f4
      obtain ⟨f5, gf⟩ := hb_unc gf
      have f5 : 0 ≤ 0 + (1 * ρ1 3 + ((-1) * ρ1 70 + 0)) := f5
      rw [r3, r70] at f5
      obtain ⟨f6, gf⟩ := hb_unc gf
      have f6 : 0 ≤ -1 + (1 * ρ1 71 + 0) := f6
      rw [r71] at f6
      obtain ⟨f7, gf⟩ := hb_unc gf
      have f7 : 0 ≤ 1 + ((-1) * ρ1 71 + 0) := f7
      rw [r71] at f7
      obtain ⟨f8, gf⟩ := hb_unc gf
      have f8 : 0 ≤ -1 + ((-1) * ρ1 31 + (1 * ρ1 73 + 0)) := f8
      rw [r31, r73] at f8
      obtain ⟨f9, gf⟩ := hb_unc gf
      have f9 : 0 ≤ 1 + (1 * ρ1 31 + ((-1) * ρ1 73 + 0)) := f9
      rw [r31, r73] at f9
      obtain ⟨f10, gf⟩ := hb_unc gf
      have f10 : 0 ≤ 0 + ((-1) * ρ1 52 + (1 * ρ1 78 + 0)) := f10
      rw [r52, r78] at f10
      obtain ⟨f11, gf⟩ := hb_unc gf
      have f11 : 0 ≤ 0 + (1 * ρ1 52 + ((-1) * ρ1 78 + 0)) := f11
      rw [r52, r78] at f11
      obtain ⟨f12, gf⟩ := hb_unc gf
      have f12 : 0 ≤ 0 + ((-1) * ρ1 60 + (1 * ρ1 80 + 0)) := f12
      rw [r60, r80] at f12
      obtain ⟨f13, gf⟩ := hb_unc gf
      have f13 : 0 ≤ 0 + (1 * ρ1 60 + ((-1) * ρ1 80 + 0)) := f13
      rw [r60, r80] at f13
      obtain ⟨f14, gf⟩ := hb_unc gf
      have f14 : 0 ≤ 0 + ((-1) * ρ1 64 + (1 * ρ1 81 + 0)) := f14
      rw [r64, r81] at f14
      obtain ⟨f15, gf⟩ := hb_unc gf
      have f15 : 0 ≤ 0 + (1 * ρ1 64 + ((-1) * ρ1 81 + 0)) := f15
      rw [r64, r81] at f15
      obtain ⟨f16, gf⟩ := hb_unc gf
      have f16 : 0 ≤ -1 + (1 * ρ1 4 + 0) := f16
      rw [r4] at f16
      obtain ⟨f17, gf⟩ := hb_unc gf
      have f17 : 0 ≤ 1 + ((-1) * ρ1 4 + 0) := f17
      rw [r4] at f17
      obtain ⟨f18, gf⟩ := hb_unc gf
      have f18 : 0 ≤ 240 + ((-1) * ρ1 74 + 0) := f18
      rw [r74] at f18
      obtain ⟨f19, gf⟩ := hb_unc gf
      have f19 : 0 ≤ 0 + (1 * ρ1 74 + 0) := f19
      rw [r74] at f19
      obtain ⟨f20, gf⟩ := hb_unc gf
      have f20 : 0 ≤ 1920 + ((-1) * ρ1 75 + 0) := f20
      rw [r75] at f20
      obtain ⟨f21, gf⟩ := hb_unc gf
      have f21 : 0 ≤ 0 + (1 * ρ1 75 + 0) := f21
      rw [r75] at f21
      obtain ⟨f22, gf⟩ := hb_unc gf
      have f22 : 0 ≤ 1 + ((-1) * ρ1 76 + 0) := f22
      rw [r76] at f22
      obtain ⟨f23, gf⟩ := hb_unc gf
      have f23 : 0 ≤ 0 + (1 * ρ1 76 + 0) := f23
      rw [r76] at f23
      obtain ⟨f24, gf⟩ := hb_unc gf
      have f24 : 0 ≤ 200 + ((-1) * ρ1 77 + 0) := f24
      rw [r77] at f24
      obtain ⟨f25, gf⟩ := hb_unc gf
      have f25 : 0 ≤ 0 + (1 * ρ1 77 + 0) := f25
      rw [r77] at f25
      obtain ⟨f26, gf⟩ := hb_unc gf
      have f26 : 0 ≤ 6 + ((-1) * ρ1 79 + 0) := f26
      rw [r79] at f26
      obtain ⟨f27, gf⟩ := hb_unc gf
      have f27 : 0 ≤ 0 + (1 * ρ1 79 + 0) := f27
      rw [r79] at f27
      obtain ⟨f28, gf⟩ := hb_unc gf
      have f28 : 0 ≤ 3 + ((-1) * ρ1 72 + 0) := f28
      rw [r72] at f28
      obtain ⟨f29, gf⟩ := hb_unc gf
      have f29 : 0 ≤ 1 + (1 * ρ1 72 + 0) := f29
      rw [r72] at f29
      have hy1 : y1 = x1 := hb_inj f0 f1
      subst y1
      have hy2 : y2 = x2 := hb_inj f2 f3
      subst y2
      have hy3 : y3 = x3 := hb_inj f4 f5
      subst y3
      exact k2 M' y4 y5 gs gx gw g8 ge  (by have h1 := f6; have h2 := f7; omega) (by have h1 := f8; have h2 := f9; omega) (by have h1 := f10; have h2 := f11; omega) (by have h1 := f12; have h2 := f13; omega) (by have h1 := f14; have h2 := f15; omega) (by have h1 := f16; omega) (by have h1 := f17; omega) (by have h1 := f18; omega) (by have h1 := f19; omega) (by have h1 := f20; omega) (by have h1 := f21; omega) (by have h1 := f22; omega) (by have h1 := f23; omega) (by have h1 := f24; omega) (by have h1 := f25; omega) (by have h1 := f26; omega) (by have h1 := f27; omega) (by have h1 := f28; omega) (by have h1 := f29; omega)
    rcases List.mem_cons.mp hs with rfl | hs
    · intro ρ1 L' st' M' g1 g2 gm gr gf gs gx gw g8 ge
      obtain ⟨e0, L1, rfl, n0, gg0⟩ := hb_l1 mz_GG g1
      obtain rfl : e0 = 234 := List.mem_singleton.mp n0
      obtain ⟨y1, L1, rfl, qr68, gg1⟩ := hb_l0 mz_GG gg0
      have r68 : ρ1 68 = y1.toInt := qr68
      obtain ⟨y2, L1, rfl, qr69, gg2⟩ := hb_l0 mz_GG gg1
      have r69 : ρ1 69 = y2.toInt := qr69
      obtain ⟨y3, L1, rfl, qr70, gg3⟩ := hb_l0 mz_GG gg2
      have r70 : ρ1 70 = y3.toInt := qr70
      obtain ⟨y4, L1, rfl, qr71, gg4⟩ := hb_l0 mz_GG gg3
      have r71 : ρ1 71 = y4.toInt := qr71
      obtain ⟨w5, L1, rfl, n5, gg5⟩ := hb_l3 mz_GG gg4
      obtain rfl := hb_ln mz_GG gg5
      obtain rfl := hb_pn mz_GG g2
      have r1 : ρ1 1 = x1.toInt := gr 1 (by decide +kernel)
      have r2 : ρ1 2 = x2.toInt := gr 2 (by decide +kernel)
      have r3 : ρ1 3 = x3.toInt := gr 3 (by decide +kernel)
      have r4 : ρ1 4 = x4.toInt := gr 4 (by decide +kernel)
      have r31 : ρ1 31 = hv M 234 38 := gr 31 (by decide +kernel)
      have r52 : ρ1 52 = hv M 238 0 := gr 52 (by decide +kernel)
      have r60 : ρ1 60 = hv M 238 2 := gr 60 (by decide +kernel)
      have r64 : ρ1 64 = hv M 238 3 := gr 64 (by decide +kernel)
      have r73 : ρ1 73 = hv M' 234 38 := gm 0 25 (234, 38) rfl rfl
      have r74 : ρ1 74 = hv M' 234 21 := gm 1 20 (234, 21) rfl rfl
      have r75 : ρ1 75 = hv M' 234 23 := gm 2 21 (234, 23) rfl rfl
      have r76 : ρ1 76 = hv M' 234 24 := gm 3 22 (234, 24) rfl rfl
      have r77 : ρ1 77 = hv M' 234 25 := gm 4 23 (234, 25) rfl rfl
      have r78 : ρ1 78 = hv M' 238 0 := gm 5 46 (238, 0) rfl rfl
      have r79 : ρ1 79 = hv M' 238 1 := gm 6 50 (238, 1) rfl rfl
      have r80 : ρ1 80 = hv M' 238 2 := gm 7 54 (238, 2) rfl rfl
      have r81 : ρ1 81 = hv M' 238 3 := gm 8 58 (238, 3) rfl rfl
      obtain ⟨f0, gf⟩ := hb_unc gf
      have f0 : 0 ≤ 0 + ((-1) * ρ1 1 + (1 * ρ1 68 + 0)) := f0
      rw [r1, r68] at f0
      obtain ⟨f1, gf⟩ := hb_unc gf
      have f1 : 0 ≤ 0 + (1 * ρ1 1 + ((-1) * ρ1 68 + 0)) := f1
      rw [r1, r68] at f1
      obtain ⟨f2, gf⟩ := hb_unc gf
      have f2 : 0 ≤ 0 + ((-1) * ρ1 2 + (1 * ρ1 69 + 0)) := f2
      rw [r2, r69] at f2
      obtain ⟨f3, gf⟩ := hb_unc gf
      have f3 : 0 ≤ 0 + (1 * ρ1 2 + ((-1) * ρ1 69 + 0)) := f3
      rw [r2, r69] at f3
      obtain ⟨f4, gf⟩ := hb_unc gf
      have f4 : 0 ≤ 0 + ((-1) * ρ1 3 + (1 * ρ1 70 + 0)) := f4
      rw [r3, r70] at f4
      obtain ⟨f5, gf⟩ := hb_unc gf
      have f5 : 0 ≤ 0 + (1 * ρ1 3 + ((-1) * ρ1 70 + 0)) := f5
      rw [r3, r70] at f5
      obtain ⟨f6, gf⟩ := hb_unc gf
      have f6 : 0 ≤ -1 + (1 * ρ1 71 + 0) := f6
      rw [r71] at f6
      obtain ⟨f7, gf⟩ := hb_unc gf
      have f7 : 0 ≤ 1 + ((-1) * ρ1 71 + 0) := f7
      rw [r71] at f7
      obtain ⟨f8, gf⟩ := hb_unc gf
      have f8 : 0 ≤ 0 + ((-1) * ρ1 31 + (1 * ρ1 73 + 0)) := f8
      rw [r31, r73] at f8
      obtain ⟨f9, gf⟩ := hb_unc gf
      have f9 : 0 ≤ 0 + (1 * ρ1 31 + ((-1) * ρ1 73 + 0)) := f9
      rw [r31, r73] at f9
      obtain ⟨f10, gf⟩ := hb_unc gf
      have f10 : 0 ≤ 0 + ((-1) * ρ1 52 + (1 * ρ1 78 + 0)) := f10
      rw [r52, r78] at f10
      obtain ⟨f11, gf⟩ := hb_unc gf
      have f11 : 0 ≤ 0 + (1 * ρ1 52 + ((-1) * ρ1 78 + 0)) := f11
      rw [r52, r78] at f11
      obtain ⟨f12, gf⟩ := hb_unc gf
      have f12 : 0 ≤ 0 + ((-1) * ρ1 60 + (1 * ρ1 80 + 0)) := f12
      rw [r60, r80] at f12
      obtain ⟨f13, gf⟩ := hb_unc gf
      have f13 : 0 ≤ 0 + (1 * ρ1 60 + ((-1) * ρ1 80 + 0)) := f13
      rw [r60, r80] at f13
      obtain ⟨f14, gf⟩ := hb_unc gf
      have f14 : 0 ≤ 0 + ((-1) * ρ1 64 + (1 * ρ1 81 + 0)) := f14
      rw [r64, r81] at f14
      obtain ⟨f15, gf⟩ := hb_unc gf
      have f15 : 0 ≤ 0 + (1 * ρ1 64 + ((-1) * ρ1 81 + 0)) := f15
      rw [r64, r81] at f15
      obtain ⟨f16, gf⟩ := hb_unc gf
      have f16 : 0 ≤ -1 + (1 * ρ1 4 + 0) := f16
      rw [r4] at f16
      obtain ⟨f17, gf⟩ := hb_unc gf
      have f17 : 0 ≤ 1 + ((-1) * ρ1 4 + 0) := f17
      rw [r4] at f17
      obtain ⟨f18, gf⟩ := hb_unc gf
      have f18 : 0 ≤ 240 + ((-1) * ρ1 74 + 0) := f18
      rw [r74] at f18
      obtain ⟨f19, gf⟩ := hb_unc gf
      have f19 : 0 ≤ 0 + (1 * ρ1 74 + 0) := f19
      rw [r74] at f19
      obtain ⟨f20, gf⟩ := hb_unc gf
      have f20 : 0 ≤ 1920 + ((-1) * ρ1 75 + 0) := f20
      rw [r75] at f20
      obtain ⟨f21, gf⟩ := hb_unc gf
      have f21 : 0 ≤ 0 + (1 * ρ1 75 + 0) := f21
      rw [r75] at f21
      obtain ⟨f22, gf⟩ := hb_unc gf
      have f22 : 0 ≤ 1 + ((-1) * ρ1 76 + 0) := f22
      rw [r76] at f22
      obtain ⟨f23, gf⟩ := hb_unc gf
      have f23 : 0 ≤ 0 + (1 * ρ1 76 + 0) := f23
      rw [r76] at f23
      obtain ⟨f24, gf⟩ := hb_unc gf
      have f24 : 0 ≤ 200 + ((-1) * ρ1 77 + 0) := f24
      rw [r77] at f24
      obtain ⟨f25, gf⟩ := hb_unc gf
      have f25 : 0 ≤ 0 + (1 * ρ1 77 + 0) := f25
      rw [r77] at f25
      obtain ⟨f26, gf⟩ := hb_unc gf
      have f26 : 0 ≤ 6 + ((-1) * ρ1 79 + 0) := f26
      rw [r79] at f26
      obtain ⟨f27, gf⟩ := hb_unc gf
      have f27 : 0 ≤ 0 + (1 * ρ1 79 + 0) := f27
      rw [r79] at f27
      have hy1 : y1 = x1 := hb_inj f0 f1
      subst y1
      have hy2 : y2 = x2 := hb_inj f2 f3
      subst y2
      have hy3 : y3 = x3 := hb_inj f4 f5
      subst y3
      exact k3 M' y4 w5 gs gx gw g8 ge n5 (by have h1 := f6; have h2 := f7; omega) (by have h1 := f8; have h2 := f9; omega) (by have h1 := f10; have h2 := f11; omega) (by have h1 := f12; have h2 := f13; omega) (by have h1 := f14; have h2 := f15; omega) (by have h1 := f16; omega) (by have h1 := f17; omega) (by have h1 := f18; omega) (by have h1 := f19; omega) (by have h1 := f20; omega) (by have h1 := f21; omega) (by have h1 := f22; omega) (by have h1 := f23; omega) (by have h1 := f24; omega) (by have h1 := f25; omega) (by have h1 := f26; omega) (by have h1 := f27; omega)
    rcases List.mem_cons.mp hs with rfl | hs
    · intro ρ1 L' st' M' g1 g2 gm gr gf gs gx gw g8 ge
      obtain ⟨e0, L1, rfl, n0, gg0⟩ := hb_l1 mz_GG g1
      obtain rfl : e0 = 234 := List.mem_singleton.mp n0
      obtain ⟨y1, L1, rfl, qr68, gg1⟩ := hb_l0 mz_GG gg0
      have r68 : ρ1 68 = y1.toInt := qr68
      obtain ⟨y2, L1, rfl, qr69, gg2⟩ := hb_l0 mz_GG gg1
      have r69 : ρ1 69 = y2.toInt := qr69
      obtain ⟨y3, L1, rfl, qr70, gg3⟩ := hb_l0 mz_GG gg2
      have r70 : ρ1 70 = y3.toInt := qr70
      obtain ⟨y4, L1, rfl, qr71, gg4⟩ := hb_l0 mz_GG gg3
      have r71 : ρ1 71 = y4.toInt := qr71
      obtain ⟨y5, L1, rfl, qr72, gg5⟩ := hb_l0 mz_GG gg4
      have r72 : ρ1 72 = y5.toInt := qr72
      obtain rfl := hb_ln mz_GG gg5
      obtain rfl := hb_pn mz_GG g2
      have r1 : ρ1 1 = x1.toInt := gr 1 (by decide +kernel)
      have r2 : ρ1 2 = x2.toInt := gr 2 (by decide +kernel)
      have r3 : ρ1 3 = x3.toInt := gr 3 (by decide +kernel)
      have r4 : ρ1 4 = x4.toInt := gr 4 (by decide +kernel)
      have r31 : ρ1 31 = hv M 234 38 := gr 31 (by decide +kernel)
      have r52 : ρ1 52 = hv M 238 0 := gr 52 (by decide +kernel)
      have r56 : ρ1 56 = hv M 238 1 := gr 56 (by decide +kernel)
      have r64 : ρ1 64 = hv M 238 3 := gr 64 (by decide +kernel)
      have r73 : ρ1 73 = hv M' 234 38 := gm 0 25 (234, 38) rfl rfl
      have r74 : ρ1 74 = hv M' 234 21 := gm 1 20 (234, 21) rfl rfl
      have r75 : ρ1 75 = hv M' 234 23 := gm 2 21 (234, 23) rfl rfl
      have r76 : ρ1 76 = hv M' 234 24 := gm 3 22 (234, 24) rfl rfl
      have r77 : ρ1 77 = hv M' 234 25 := gm 4 23 (234, 25) rfl rfl
      have r78 : ρ1 78 = hv M' 238 0 := gm 5 46 (238, 0) rfl rfl
      have r79 : ρ1 79 = hv M' 238 1 := gm 6 50 (238, 1) rfl rfl
      have r80 : ρ1 80 = hv M' 238 2 := gm 7 54 (238, 2) rfl rfl
      have r81 : ρ1 81 = hv M' 238 3 := gm 8 58 (238, 3) rfl rfl
      obtain ⟨f0, gf⟩ := hb_unc gf
      have f0 : 0 ≤ 0 + ((-1) * ρ1 1 + (1 * ρ1 68 + 0)) := f0
      rw [r1, r68] at f0
      obtain ⟨f1, gf⟩ := hb_unc gf
      have f1 : 0 ≤ 0 + (1 * ρ1 1 + ((-1) * ρ1 68 + 0)) := f1
      rw [r1, r68] at f1
      obtain ⟨f2, gf⟩ := hb_unc gf
      have f2 : 0 ≤ 0 + ((-1) * ρ1 2 + (1 * ρ1 69 + 0)) := f2
      rw [r2, r69] at f2
      obtain ⟨f3, gf⟩ := hb_unc gf
      have f3 : 0 ≤ 0 + (1 * ρ1 2 + ((-1) * ρ1 69 + 0)) := f3
      rw [r2, r69] at f3
      obtain ⟨f4, gf⟩ := hb_unc gf
      have f4 : 0 ≤ 0 + ((-1) * ρ1 3 + (1 * ρ1 70 + 0)) := f4
      rw [r3, r70] at f4
      obtain ⟨f5, gf⟩ := hb_unc gf
      have f5 : 0 ≤ 0 + (1 * ρ1 3 + ((-1) * ρ1 70 + 0)) := f5
      rw [r3, r70] at f5
      obtain ⟨f6, gf⟩ := hb_unc gf
      have f6 : 0 ≤ -2 + (1 * ρ1 71 + 0) := f6
      rw [r71] at f6
      obtain ⟨f7, gf⟩ := hb_unc gf
      have f7 : 0 ≤ 2 + ((-1) * ρ1 71 + 0) := f7
      rw [r71] at f7
      obtain ⟨f8, gf⟩ := hb_unc gf
      have f8 : 0 ≤ -1 + ((-1) * ρ1 31 + (1 * ρ1 73 + 0)) := f8
      rw [r31, r73] at f8
      obtain ⟨f9, gf⟩ := hb_unc gf
      have f9 : 0 ≤ 1 + (1 * ρ1 31 + ((-1) * ρ1 73 + 0)) := f9
      rw [r31, r73] at f9
      obtain ⟨f10, gf⟩ := hb_unc gf
      have f10 : 0 ≤ 0 + ((-1) * ρ1 52 + (1 * ρ1 78 + 0)) := f10
      rw [r52, r78] at f10
      obtain ⟨f11, gf⟩ := hb_unc gf
      have f11 : 0 ≤ 0 + (1 * ρ1 52 + ((-1) * ρ1 78 + 0)) := f11
      rw [r52, r78] at f11
      obtain ⟨f12, gf⟩ := hb_unc gf
      have f12 : 0 ≤ 0 + ((-1) * ρ1 56 + (1 * ρ1 79 + 0)) := f12
      rw [r56, r79] at f12
      obtain ⟨f13, gf⟩ := hb_unc gf
      have f13 : 0 ≤ 0 + (1 * ρ1 56 + ((-1) * ρ1 79 + 0)) := f13
      rw [r56, r79] at f13
      obtain ⟨f14, gf⟩ := hb_unc gf
      have f14 : 0 ≤ 0 + ((-1) * ρ1 64 + (1 * ρ1 81 + 0)) := f14
      rw [r64, r81] at f14
      obtain ⟨f15, gf⟩ := hb_unc gf
      have f15 : 0 ≤ 0 + (1 * ρ1 64 + ((-1) * ρ1 81 + 0)) := f15
      rw [r64, r81] at f15
      obtain ⟨f16, gf⟩ := hb_unc gf
      have f16 : 0 ≤ -2 + (1 * ρ1 4 + 0) := f16
      rw [r4] at f16
      obtain ⟨f17, gf⟩ := hb_unc gf
      have f17 : 0 ≤ 2 + ((-1) * ρ1 4 + 0) := f17
      rw [r4] at f17
      obtain ⟨f18, gf⟩ := hb_unc gf
      have f18 : 0 ≤ 240 + ((-1) * ρ1 74 + 0) := f18
      rw [r74] at f18
      obtain ⟨f19, gf⟩ := hb_unc gf
      have f19 : 0 ≤ 0 + (1 * ρ1 74 + 0) := f19
      rw [r74] at f19
      obtain ⟨f20, gf⟩ := hb_unc gf
      have f20 : 0 ≤ 1920 + ((-1) * ρ1 75 + 0) := f20
      rw [r75] at f20
      obtain ⟨f21, gf⟩ := hb_unc gf
      have f21 : 0 ≤ 0 + (1 * ρ1 75 + 0) := f21
      rw [r75] at f21
      obtain ⟨f22, gf⟩ := hb_unc gf
      have f22 : 0 ≤ 1 + ((-1) * ρ1 76 + 0) := f22
      rw [r76] at f22
      obtain ⟨f23, gf⟩ := hb_unc gf
      have f23 : 0 ≤ 0 + (1 * ρ1 76 + 0) := f23
      rw [r76] at f23
      obtain ⟨f24, gf⟩ := hb_unc gf
      have f24 : 0 ≤ 200 + ((-1) * ρ1 77 + 0) := f24
      rw [r77] at f24
      obtain ⟨f25, gf⟩ := hb_unc gf
      have f25 : 0 ≤ 0 + (1 * ρ1 77 + 0) := f25
      rw [r77] at f25
      obtain ⟨f26, gf⟩ := hb_unc gf
      have f26 : 0 ≤ 6 + ((-1) * ρ1 80 + 0) := f26
      rw [r80] at f26
      obtain ⟨f27, gf⟩ := hb_unc gf
      have f27 : 0 ≤ 0 + (1 * ρ1 80 + 0) := f27
      rw [r80] at f27
      obtain ⟨f28, gf⟩ := hb_unc gf
      have f28 : 0 ≤ 3 + ((-1) * ρ1 72 + 0) := f28
      rw [r72] at f28
      obtain ⟨f29, gf⟩ := hb_unc gf
      have f29 : 0 ≤ 1 + (1 * ρ1 72 + 0) := f29
      rw [r72] at f29
      have hy1 : y1 = x1 := hb_inj f0 f1
      subst y1
      have hy2 : y2 = x2 := hb_inj f2 f3
      subst y2
      have hy3 : y3 = x3 := hb_inj f4 f5
      subst y3
      exact k4 M' y4 y5 gs gx gw g8 ge  (by have h1 := f6; have h2 := f7; omega) (by have h1 := f8; have h2 := f9; omega) (by have h1 := f10; have h2 := f11; omega) (by have h1 := f12; have h2 := f13; omega) (by have h1 := f14; have h2 := f15; omega) (by have h1 := f16; omega) (by have h1 := f17; omega) (by have h1 := f18; omega) (by have h1 := f19; omega) (by have h1 := f20; omega) (by have h1 := f21; omega) (by have h1 := f22; omega) (by have h1 := f23; omega) (by have h1 := f24; omega) (by have h1 := f25; omega) (by have h1 := f26; omega) (by have h1 := f27; omega) (by have h1 := f28; omega) (by have h1 := f29; omega)
    rcases List.mem_cons.mp hs with rfl | hs
    · intro ρ1 L' st' M' g1 g2 gm gr gf gs gx gw g8 ge
      obtain ⟨e0, L1, rfl, n0, gg0⟩ := hb_l1 mz_GG g1
      obtain rfl : e0 = 234 := List.mem_singleton.mp n0
      obtain ⟨y1, L1, rfl, qr68, gg1⟩ := hb_l0 mz_GG gg0
      have r68 : ρ1 68 = y1.toInt := qr68
      obtain ⟨y2, L1, rfl, qr69, gg2⟩ := hb_l0 mz_GG gg1
      have r69 : ρ1 69 = y2.toInt := qr69
      obtain ⟨y3, L1, rfl, qr70, gg3⟩ := hb_l0 mz_GG gg2
      have r70 : ρ1 70 = y3.toInt := qr70
      obtain ⟨y4, L1, rfl, qr71, gg4⟩ := hb_l0 mz_GG gg3
      have r71 : ρ1 71 = y4.toInt := qr71
      obtain ⟨w5, L1, rfl, n5, gg5⟩ := hb_l3 mz_GG gg4
      obtain rfl := hb_ln mz_GG gg5
      obtain rfl := hb_pn mz_GG g2
      have r1 : ρ1 1 = x1.toInt := gr 1 (by decide +kernel)
      have r2 : ρ1 2 = x2.toInt := gr 2 (by decide +kernel)
      have r3 : ρ1 3 = x3.toInt := gr 3 (by decide +kernel)
      have r4 : ρ1 4 = x4.toInt := gr 4 (by decide +kernel)
      have r31 : ρ1 31 = hv M 234 38 := gr 31 (by decide +kernel)
      have r52 : ρ1 52 = hv M 238 0 := gr 52 (by decide +kernel)
      have r56 : ρ1 56 = hv M 238 1 := gr 56 (by decide +kernel)
      have r64 : ρ1 64 = hv M 238 3 := gr 64 (by decide +kernel)
      have r73 : ρ1 73 = hv M' 234 38 := gm 0 25 (234, 38) rfl rfl
      have r74 : ρ1 74 = hv M' 234 21 := gm 1 20 (234, 21) rfl rfl
      have r75 : ρ1 75 = hv M' 234 23 := gm 2 21 (234, 23) rfl rfl
      have r76 : ρ1 76 = hv M' 234 24 := gm 3 22 (234, 24) rfl rfl
      have r77 : ρ1 77 = hv M' 234 25 := gm 4 23 (234, 25) rfl rfl
      have r78 : ρ1 78 = hv M' 238 0 := gm 5 46 (238, 0) rfl rfl
      have r79 : ρ1 79 = hv M' 238 1 := gm 6 50 (238, 1) rfl rfl
      have r80 : ρ1 80 = hv M' 238 2 := gm 7 54 (238, 2) rfl rfl
      have r81 : ρ1 81 = hv M' 238 3 := gm 8 58 (238, 3) rfl rfl
      obtain ⟨f0, gf⟩ := hb_unc gf
      have f0 : 0 ≤ 0 + ((-1) * ρ1 1 + (1 * ρ1 68 + 0)) := f0
      rw [r1, r68] at f0
      obtain ⟨f1, gf⟩ := hb_unc gf
      have f1 : 0 ≤ 0 + (1 * ρ1 1 + ((-1) * ρ1 68 + 0)) := f1
      rw [r1, r68] at f1
      obtain ⟨f2, gf⟩ := hb_unc gf
      have f2 : 0 ≤ 0 + ((-1) * ρ1 2 + (1 * ρ1 69 + 0)) := f2
      rw [r2, r69] at f2
      obtain ⟨f3, gf⟩ := hb_unc gf
      have f3 : 0 ≤ 0 + (1 * ρ1 2 + ((-1) * ρ1 69 + 0)) := f3
      rw [r2, r69] at f3
      obtain ⟨f4, gf⟩ := hb_unc gf
      have f4 : 0 ≤ 0 + ((-1) * ρ1 3 + (1 * ρ1 70 + 0)) := f4
      rw [r3, r70] at f4
      obtain ⟨f5, gf⟩ := hb_unc gf
      have f5 : 0 ≤ 0 + (1 * ρ1 3 + ((-1) * ρ1 70 + 0)) := f5
      rw [r3, r70] at f5
      obtain ⟨f6, gf⟩ := hb_unc gf
      have f6 : 0 ≤ -2 + (1 * ρ1 71 + 0) := f6
      rw [r71] at f6
      obtain ⟨f7, gf⟩ := hb_unc gf
      have f7 : 0 ≤ 2 + ((-1) * ρ1 71 + 0) := f7
      rw [r71] at f7
      obtain ⟨f8, gf⟩ := hb_unc gf
      have f8 : 0 ≤ 0 + ((-1) * ρ1 31 + (1 * ρ1 73 + 0)) := f8
      rw [r31, r73] at f8
      obtain ⟨f9, gf⟩ := hb_unc gf
      have f9 : 0 ≤ 0 + (1 * ρ1 31 + ((-1) * ρ1 73 + 0)) := f9
      rw [r31, r73] at f9
      obtain ⟨f10, gf⟩ := hb_unc gf
      have f10 : 0 ≤ 0 + ((-1) * ρ1 52 + (1 * ρ1 78 + 0)) := f10
      rw [r52, r78] at f10
      obtain ⟨f11, gf⟩ := hb_unc gf
      have f11 : 0 ≤ 0 + (1 * ρ1 52 + ((-1) * ρ1 78 + 0)) := f11
      rw [r52, r78] at f11
      obtain ⟨f12, gf⟩ := hb_unc gf
      have f12 : 0 ≤ 0 + ((-1) * ρ1 56 + (1 * ρ1 79 + 0)) := f12
      rw [r56, r79] at f12
      obtain ⟨f13, gf⟩ := hb_unc gf
      have f13 : 0 ≤ 0 + (1 * ρ1 56 + ((-1) * ρ1 79 + 0)) := f13
      rw [r56, r79] at f13
      obtain ⟨f14, gf⟩ := hb_unc gf
      have f14 : 0 ≤ 0 + ((-1) * ρ1 64 + (1 * ρ1 81 + 0)) := f14
      rw [r64, r81] at f14
      obtain ⟨f15, gf⟩ := hb_unc gf
      have f15 : 0 ≤ 0 + (1 * ρ1 64 + ((-1) * ρ1 81 + 0)) := f15
      rw [r64, r81] at f15
      obtain ⟨f16, gf⟩ := hb_unc gf
      have f16 : 0 ≤ -2 + (1 * ρ1 4 + 0) := f16
      rw [r4] at f16
      obtain ⟨f17, gf⟩ := hb_unc gf
      have f17 : 0 ≤ 2 + ((-1) * ρ1 4 + 0) := f17
      rw [r4] at f17
      obtain ⟨f18, gf⟩ := hb_unc gf
      have f18 : 0 ≤ 240 + ((-1) * ρ1 74 + 0) := f18
      rw [r74] at f18
      obtain ⟨f19, gf⟩ := hb_unc gf
      have f19 : 0 ≤ 0 + (1 * ρ1 74 + 0) := f19
      rw [r74] at f19
      obtain ⟨f20, gf⟩ := hb_unc gf
      have f20 : 0 ≤ 1920 + ((-1) * ρ1 75 + 0) := f20
      rw [r75] at f20
      obtain ⟨f21, gf⟩ := hb_unc gf
      have f21 : 0 ≤ 0 + (1 * ρ1 75 + 0) := f21
      rw [r75] at f21
      obtain ⟨f22, gf⟩ := hb_unc gf
      have f22 : 0 ≤ 1 + ((-1) * ρ1 76 + 0) := f22
      rw [r76] at f22
      obtain ⟨f23, gf⟩ := hb_unc gf
      have f23 : 0 ≤ 0 + (1 * ρ1 76 + 0) := f23
      rw [r76] at f23
      obtain ⟨f24, gf⟩ := hb_unc gf
      have f24 : 0 ≤ 200 + ((-1) * ρ1 77 + 0) := f24
      rw [r77] at f24
      obtain ⟨f25, gf⟩ := hb_unc gf
      have f25 : 0 ≤ 0 + (1 * ρ1 77 + 0) := f25
      rw [r77] at f25
      obtain ⟨f26, gf⟩ := hb_unc gf
      have f26 : 0 ≤ 6 + ((-1) * ρ1 80 + 0) := f26
      rw [r80] at f26
      obtain ⟨f27, gf⟩ := hb_unc gf
      have f27 : 0 ≤ 0 + (1 * ρ1 80 + 0) := f27
      rw [r80] at f27
      have hy1 : y1 = x1 := hb_inj f0 f1
      subst y1
      have hy2 : y2 = x2 := hb_inj f2 f3
      subst y2
      have hy3 : y3 = x3 := hb_inj f4 f5
      subst y3
      exact k5 M' y4 w5 gs gx gw g8 ge n5 (by have h1 := f6; have h2 := f7; omega) (by have h1 := f8; have h2 := f9; omega) (by have h1 := f10; have h2 := f11; omega) (by have h1 := f12; have h2 := f13; omega) (by have h1 := f14; have h2 := f15; omega) (by have h1 := f16; omega) (by have h1 := f17; omega) (by have h1 := f18; omega) (by have h1 := f19; omega) (by have h1 := f20; omega) (by have h1 := f21; omega) (by have h1 := f22; omega) (by have h1 := f23; omega) (by have h1 := f24; omega) (by have h1 := f25; omega) (by have h1 := f26; omega) (by have h1 := f27; omega)
    rcases List.mem_cons.mp hs with rfl | hs
    · intro ρ1 L' st' M' g1 g2 gm gr gf gs gx gw g8 ge
      obtain ⟨e0, L1, rfl, n0, gg0⟩ := hb_l1 mz_GG g1
      obtain rfl : e0 = 234 := List.mem_singleton.mp n0
      obtain ⟨y1, L1, rfl, qr68, gg1⟩ := hb_l0 mz_GG gg0
      have r68 : ρ1 68 = y1.toInt := qr68
      obtain ⟨y2, L1, rfl, qr69, gg2⟩ := hb_l0 mz_GG gg1
      have r69 : ρ1 69 = y2.toInt := qr69
      obtain ⟨y3, L1, rfl, qr70, gg3⟩ := hb_l0 mz_GG gg2
      have r70 : ρ1 70 = y3.toInt := qr70
      obtain ⟨y4, L1, rfl, qr71, gg4⟩ := hb_l0 mz_GG gg3
      have r71 : ρ1 71 = y4.toInt := qr71
      obtain ⟨y5, L1, rfl, qr72, gg5⟩ := hb_l0 mz_GG gg4
      have r72 : ρ1 72 = y5.toInt := qr72
      obtain rfl := hb_ln mz_GG gg5
      obtain rfl := hb_pn mz_GG g2
      have r1 : ρ1 1 = x1.toInt := gr 1 (by decide +kernel)
      have r2 : ρ1 2 = x2.toInt := gr 2 (by decide +kernel)
      have r3 : ρ1 3 = x3.toInt := gr 3 (by decide +kernel)
      have r4 : ρ1 4 = x4.toInt := gr 4 (by decide +kernel)
      have r31 : ρ1 31 = hv M 234 38 := gr 31 (by decide +kernel)
      have r52 : ρ1 52 = hv M 238 0 := gr 52 (by decide +kernel)
      have r56 : ρ1 56 = hv M 238 1 := gr 56 (by decide +kernel)
      have r60 : ρ1 60 = hv M 238 2 := gr 60 (by decide +kernel)
      have r73 : ρ1 73 = hv M' 234 38 := gm 0 25 (234, 38) rfl rfl
      have r74 : ρ1 74 = hv M' 234 21 := gm 1 20 (234, 21) rfl rfl
      have r75 : ρ1 75 = hv M' 234 23 := gm 2 21 (234, 23) rfl rfl
      have r76 : ρ1 76 = hv M' 234 24 := gm 3 22 (234, 24) rfl rfl
      have r77 : ρ1 77 = hv M' 234 25 := gm 4 23 (234, 25) rfl rfl
      have r78 : ρ1 78 = hv M' 238 0 := gm 5 46 (238, 0) rfl rfl
      have r79 : ρ1 79 = hv M' 238 1 := gm 6 50 (238, 1) rfl rfl
      have r80 : ρ1 80 = hv M' 238 2 := gm 7 54 (238, 2) rfl rfl
      have r81 : ρ1 81 = hv M' 238 3 := gm 8 58 (238, 3) rfl rfl
      obtain ⟨f0, gf⟩ := hb_unc gf
      have f0 : 0 ≤ 0 + ((-1) * ρ1 1 + (1 * ρ1 68 + 0)) := f0
      rw [r1, r68] at f0
      obtain ⟨f1, gf⟩ := hb_unc gf
      have f1 : 0 ≤ 0 + (1 * ρ1 1 + ((-1) * ρ1 68 + 0)) := f1
      rw [r1, r68] at f1
      obtain ⟨f2, gf⟩ := hb_unc gf
      have f2 : 0 ≤ 0 + ((-1) * ρ1 2 + (1 * ρ1 69 + 0)) := f2
      rw [r2, r69] at f2
      obtain ⟨f3, gf⟩ := hb_unc gf
      have f3 : 0 ≤ 0 + (1 * ρ1 2 + ((-1) * ρ1 69 + 0)) := f3
      rw [r2, r69] at f3
      obtain ⟨f4, gf⟩ := hb_unc gf
      have f4 : 0 ≤ 0 + ((-1) * ρ1 3 + (1 * ρ1 70 + 0)) := f4
      rw [r3, r70] at f4
      obtain ⟨f5, gf⟩ := hb_unc gf
      have f5 : 0 ≤ 0 + (1 * ρ1 3 + ((-1) * ρ1 70 + 0)) := f5
      rw [r3, r70] at f5
      obtain ⟨f6, gf⟩ := hb_unc gf
      have f6 : 0 ≤ -3 + (1 * ρ1 71 + 0) := f6
      rw [r71] at f6
      obtain ⟨f7, gf⟩ := hb_unc gf
      have f7 : 0 ≤ 3 + ((-1) * ρ1 71 + 0) := f7
      rw [r71] at f7
      obtain ⟨f8, gf⟩ := hb_unc gf
      have f8 : 0 ≤ -1 + ((-1) * ρ1 31 + (1 * ρ1 73 + 0)) := f8
      rw [r31, r73] at f8
      obtain ⟨f9, gf⟩ := hb_unc gf
      have f9 : 0 ≤ 1 + (1 * ρ1 31 + ((-1) * ρ1 73 + 0)) := f9
      rw [r31, r73] at f9
      obtain ⟨f10, gf⟩ := hb_unc gf
      have f10 : 0 ≤ 0 + ((-1) * ρ1 52 + (1 * ρ1 78 + 0)) := f10
      rw [r52, r78] at f10
      obtain ⟨f11, gf⟩ := hb_unc gf
      have f11 : 0 ≤ 0 + (1 * ρ1 52 + ((-1) * ρ1 78 + 0)) := f11
      rw [r52, r78] at f11
      obtain ⟨f12, gf⟩ := hb_unc gf
      have f12 : 0 ≤ 0 + ((-1) * ρ1 56 + (1 * ρ1 79 + 0)) := f12
      rw [r56, r79] at f12
      obtain ⟨f13, gf⟩ := hb_unc gf
      have f13 : 0 ≤ 0 + (1 * ρ1 56 + ((-1) * ρ1 79 + 0)) := f13
      rw [r56, r79] at f13
      obtain ⟨f14, gf⟩ := hb_unc gf
      have f14 : 0 ≤ 0 + ((-1) * ρ1 60 + (1 * ρ1 80 + 0)) := f14
      rw [r60, r80] at f14
      obtain ⟨f15, gf⟩ := hb_unc gf
      have f15 : 0 ≤ 0 + (1 * ρ1 60 + ((-1) * ρ1 80 + 0)) := f15
      rw [r60, r80] at f15
      obtain ⟨f16, gf⟩ := hb_unc gf
      have f16 : 0 ≤ -3 + (1 * ρ1 4 + 0) := f16
      rw [r4] at f16
      obtain ⟨f17, gf⟩ := hb_unc gf
      have f17 : 0 ≤ 240 + ((-1) * ρ1 74 + 0) := f17
      rw [r74] at f17
      obtain ⟨f18, gf⟩ := hb_unc gf
      have f18 : 0 ≤ 0 + (1 * ρ1 74 + 0) := f18
      rw [r74] at f18
      obtain ⟨f19, gf⟩ := hb_unc gf
      have f19 : 0 ≤ 1920 + ((-1) * ρ1 75 + 0) := f19
      rw [r75] at f19
      obtain ⟨f20, gf⟩ := hb_unc gf
      have f20 : 0 ≤ 0 + (1 * ρ1 75 + 0) := f20
      rw [r75] at f20
      obtain ⟨f21, gf⟩ := hb_unc gf
      have f21 : 0 ≤ 1 + ((-1) * ρ1 76 + 0) := f21
      rw [r76] at f21
      obtain ⟨f22, gf⟩ := hb_unc gf
      have f22 : 0 ≤ 0 + (1 * ρ1 76 + 0) := f22
      rw [r76] at f22
      obtain ⟨f23, gf⟩ := hb_unc gf
      have f23 : 0 ≤ 200 + ((-1) * ρ1 77 + 0) := f23
      rw [r77] at f23
      obtain ⟨f24, gf⟩ := hb_unc gf
      have f24 : 0 ≤ 0 + (1 * ρ1 77 + 0) := f24
      rw [r77] at f24
      obtain ⟨f25, gf⟩ := hb_unc gf
      have f25 : 0 ≤ 6 + ((-1) * ρ1 81 + 0) := f25
      rw [r81] at f25
      obtain ⟨f26, gf⟩ := hb_unc gf
      have f26 : 0 ≤ 0 + (1 * ρ1 81 + 0) := f26
      rw [r81] at f26
      obtain ⟨f27, gf⟩ := hb_unc gf
      have f27 : 0 ≤ 3 + ((-1) * ρ1 72 + 0) := f27
      rw [r72] at f27
      obtain ⟨f28, gf⟩ := hb_unc gf
      have f28 : 0 ≤ 1 + (1 * ρ1 72 + 0) := f28
      rw [r72] at f28
      have hy1 : y1 = x1 := hb_inj f0 f1
      subst y1
      have hy2 : y2 = x2 := hb_inj f2 f3
      subst y2
      have hy3 : y3 = x3 := hb_inj f4 f5
      subst y3
      exact k6 M' y4 y5 gs gx gw g8 ge  (by have h1 := f6; have h2 := f7; omega) (by have h1 := f8; have h2 := f9; omega) (by have h1 := f10; have h2 := f11; omega) (by have h1 := f12; have h2 := f13; omega) (by have h1 := f14; have h2 := f15; omega) (by have h1 := f16; omega) (by have h1 := f17; omega) (by have h1 := f18; omega) (by have h1 := f19; omega) (by have h1 := f20; omega) (by have h1 := f21; omega) (by have h1 := f22; omega) (by have h1 := f23; omega) (by have h1 := f24; omega) (by have h1 := f25; omega) (by have h1 := f26; omega) (by have h1 := f27; omega) (by have h1 := f28; omega)
    rcases List.mem_cons.mp hs with rfl | hs
    · intro ρ1 L' st' M' g1 g2 gm gr gf gs gx gw g8 ge
      obtain ⟨e0, L1, rfl, n0, gg0⟩ := hb_l1 mz_GG g1
      obtain rfl : e0 = 234 := List.mem_singleton.mp n0
      obtain ⟨y1, L1, rfl, qr68, gg1⟩ := hb_l0 mz_GG gg0
      have r68 : ρ1 68 = y1.toInt := qr68
      obtain ⟨y2, L1, rfl, qr69, gg2⟩ := hb_l0 mz_GG gg1
      have r69 : ρ1 69 = y2.toInt := qr69
      obtain ⟨y3, L1, rfl, qr70, gg3⟩ := hb_l0 mz_GG gg2
      have r70 : ρ1 70 = y3.toInt := qr70
      obtain ⟨y4, L1, rfl, qr71, gg4⟩ := hb_l0 mz_GG gg3
      have r71 : ρ1 71 = y4.toInt := qr71
      obtain ⟨w5, L1, rfl, n5, gg5⟩ := hb_l3 mz_GG gg4
      obtain rfl := hb_ln mz_GG gg5
      obtain rfl := hb_pn mz_GG g2
      have r1 : ρ1 1 = x1.toInt := gr 1 (by decide +kernel)
      have r2 : ρ1 2 = x2.toInt := gr 2 (by decide +kernel)
      have r3 : ρ1 3 = x3.toInt := gr 3 (by decide +kernel)
      have r4 : ρ1 4 = x4.toInt := gr 4 (by decide +kernel)
      have r31 : ρ1 31 = hv M 234 38 := gr 31 (by decide +kernel)
      have r52 : ρ1 52 = hv M 238 0 := gr 52 (by decide +kernel)
      have r56 : ρ1 56 = hv M 238 1 := gr 56 (by decide +kernel)
      have r60 : ρ1 60 = hv M 238 2 := gr 60 (by decide +kernel)
      have r73 : ρ1 73 = hv M' 234 38 := gm 0 25 (234, 38) rfl rfl
      have r74 : ρ1 74 = hv M' 234 21 := gm 1 20 (234, 21) rfl rfl
      have r75 : ρ1 75 = hv M' 234 23 := gm 2 21 (234, 23) rfl rfl
      have r76 : ρ1 76 = hv M' 234 24 := gm 3 22 (234, 24) rfl rfl
      have r77 : ρ1 77 = hv M' 234 25 := gm 4 23 (234, 25) rfl rfl
      have r78 : ρ1 78 = hv M' 238 0 := gm 5 46 (238, 0) rfl rfl
      have r79 : ρ1 79 = hv M' 238 1 := gm 6 50 (238, 1) rfl rfl
      have r80 : ρ1 80 = hv M' 238 2 := gm 7 54 (238, 2) rfl rfl
      have r81 : ρ1 81 = hv M' 238 3 := gm 8 58 (238, 3) rfl rfl
      obtain ⟨f0, gf⟩ := hb_unc gf
      have f0 : 0 ≤ 0 + ((-1) * ρ1 1 + (1 * ρ1 68 + 0)) := f0
      rw [r1, r68] at f0
      obtain ⟨f1, gf⟩ := hb_unc gf
      have f1 : 0 ≤ 0 + (1 * ρ1 1 + ((-1) * ρ1 68 + 0)) := f1
      rw [r1, r68] at f1
      obtain ⟨f2, gf⟩ := hb_unc gf
      have f2 : 0 ≤ 0 + ((-1) * ρ1 2 + (1 * ρ1 69 + 0)) := f2
      rw [r2, r69] at f2
      obtain ⟨f3, gf⟩ := hb_unc gf
      have f3 : 0 ≤ 0 + (1 * ρ1 2 + ((-1) * ρ1 69 + 0)) := f3
      rw [r2, r69] at f3
      obtain ⟨f4, gf⟩ := hb_unc gf
      have f4 : 0 ≤ 0 + ((-1) * ρ1 3 + (1 * ρ1 70 + 0)) := f4
      rw [r3, r70] at f4
      obtain ⟨f5, gf⟩ := hb_unc gf
      have f5 : 0 ≤ 0 + (1 * ρ1 3 + ((-1) * ρ1 70 + 0)) := f5
      rw [r3, r70] at f5
      obtain ⟨f6, gf⟩ := hb_unc gf
      have f6 : 0 ≤ -3 + (1 * ρ1 71 + 0) := f6
      rw [r71] at f6
      obtain ⟨f7, gf⟩ := hb_unc gf
      have f7 : 0 ≤ 3 + ((-1) * ρ1 71 + 0) := f7
      rw [r71] at f7
      obtain ⟨f8, gf⟩ := hb_unc gf
      have f8 : 0 ≤ 0 + ((-1) * ρ1 31 + (1 * ρ1 73 + 0)) := f8
      rw [r31, r73] at f8
      obtain ⟨f9, gf⟩ := hb_unc gf
      have f9 : 0 ≤ 0 + (1 * ρ1 31 + ((-1) * ρ1 73 + 0)) := f9
      rw [r31, r73] at f9
      obtain ⟨f10, gf⟩ := hb_unc gf
      have f10 : 0 ≤ 0 + ((-1) * ρ1 52 + (1 * ρ1 78 + 0)) := f10
      rw [r52, r78] at f10
      obtain ⟨f11, gf⟩ := hb_unc gf
      have f11 : 0 ≤ 0 + (1 * ρ1 52 + ((-1) * ρ1 78 + 0)) := f11
      rw [r52, r78] at f11
      obtain ⟨f12, gf⟩ := hb_unc gf
      have f12 : 0 ≤ 0 + ((-1) * ρ1 56 + (1 * ρ1 79 + 0)) := f12
      rw [r56, r79] at f12
      obtain ⟨f13, gf⟩ := hb_unc gf
      have f13 : 0 ≤ 0 + (1 * ρ1 56 + ((-1) * ρ1 79 + 0)) := f13
      rw [r56, r79] at f13
      obtain ⟨f14, gf⟩ := hb_unc gf
      have f14 : 0 ≤ 0 + ((-1) * ρ1 60 + (1 * ρ1 80 + 0)) := f14
      rw [r60, r80] at f14
      obtain ⟨f15, gf⟩ := hb_unc gf
      have f15 : 0 ≤ 0 + (1 * ρ1 60 + ((-1) * ρ1 80 + 0)) := f15
      rw [r60, r80] at f15
      obtain ⟨f16, gf⟩ := hb_unc gf
      have f16 : 0 ≤ -3 + (1 * ρ1 4 + 0) := f16
      rw [r4] at f16
      obtain ⟨f17, gf⟩ := hb_unc gf
      have f17 : 0 ≤ 240 + ((-1) * ρ1 74 + 0) := f17
      rw [r74] at f17
      obtain ⟨f18, gf⟩ := hb_unc gf
      have f18 : 0 ≤ 0 + (1 * ρ1 74 + 0) := f18
      rw [r74] at f18
      obtain ⟨f19, gf⟩ := hb_unc gf
      have f19 : 0 ≤ 1920 + ((-1) * ρ1 75 + 0) := f19
      rw [r75] at f19
      obtain ⟨f20, gf⟩ := hb_unc gf
      have f20 : 0 ≤ 0 + (1 * ρ1 75 + 0) := f20
      rw [r75] at f20
      obtain ⟨f21, gf⟩ := hb_unc gf
      have f21 : 0 ≤ 1 + ((-1) * ρ1 76 + 0) := f21
      rw [r76] at f21
      obtain ⟨f22, gf⟩ := hb_unc gf
      have f22 : 0 ≤ 0 + (1 * ρ1 76 + 0) := f22
      rw [r76] at f22
      obtain ⟨f23, gf⟩ := hb_unc gf
      have f23 : 0 ≤ 200 + ((-1) * ρ1 77 + 0) := f23
      rw [r77] at f23
      obtain ⟨f24, gf⟩ := hb_unc gf
      have f24 : 0 ≤ 0 + (1 * ρ1 77 + 0) := f24
      rw [r77] at f24
      obtain ⟨f25, gf⟩ := hb_unc gf
      have f25 : 0 ≤ 6 + ((-1) * ρ1 81 + 0) := f25
      rw [r81] at f25
      obtain ⟨f26, gf⟩ := hb_unc gf
      have f26 : 0 ≤ 0 + (1 * ρ1 81 + 0) := f26
      rw [r81] at f26
      have hy1 : y1 = x1 := hb_inj f0 f1
      subst y1
      have hy2 : y2 = x2 := hb_inj f2 f3
      subst y2
      have hy3 : y3 = x3 := hb_inj f4 f5
      subst y3
      exact k7 M' y4 w5 gs gx gw g8 ge n5 (by have h1 := f6; have h2 := f7; omega) (by have h1 := f8; have h2 := f9; omega) (by have h1 := f10; have h2 := f11; omega) (by have h1 := f12; have h2 := f13; omega) (by have h1 := f14; have h2 := f15; omega) (by have h1 := f16; omega) (by have h1 := f17; omega) (by have h1 := f18; omega) (by have h1 := f19; omega) (by have h1 := f20; omega) (by have h1 := f21; omega) (by have h1 := f22; omega) (by have h1 := f23; omega) (by have h1 := f24; omega) (by have h1 := f25; omega) (by have h1 := f26; omega)
    cases hs
  · intro r S hpo
    obtain ⟨b1, b2, b3, b4, b5, p, hp, res, hf, hre⟩ := hpo
    cases hp

def hf_g0_q : mz_Q := (143, [(1, 234), (0, 0), (0, 0), (0, 0), (0, 0), (0, 0)], [(0, [(3, 1)]), (3, [(5, -1)]), (1, [(5, 1)]), (22, [(3, -1), (5, -1)]), (0, [(4, 1)]), (3, [(4, -1)])], [25, 20, 21, 22, 23, 46, 50, 54, 58], [], [265])
def hf_g0_s : List mz_Sp2 := [(59, [(1, 234), (0, 0), (0, 0), (0, 0), (0, 0), (0, 0)], [], [(0, [(1, -1), (68, 1)]), (0, [(1, 1), (68, -1)]), (0, [(2, -1), (69, 1)]), (0, [(2, 1), (69, -1)]), (0, [(3, -1), (70, 1)]), (0, [(3, 1), (70, -1)]), (0, [(4, -1), (71, 1)]), (0, [(4, 1), (71, -1)]), (0, [(5, -1), (72, 1)]), (0, [(5, 1), (72, -1)]), (0, [(31, -1), (73, 1)]), (0, [(31, 1), (73, -1)]), (0, [(26, -1), (74, 1)]), (0, [(26, 1), (74, -1)]), (0, [(27, -1), (75, 1)]), (0, [(27, 1), (75, -1)]), (0, [(28, -1), (76, 1)]), (0, [(28, 1), (76, -1)]), (0, [(29, -1), (77, 1)]), (0, [(29, 1), (77, -1)]), (0, [(52, -1), (78, 1)]), (0, [(52, 1), (78, -1)]), (0, [(56, -1), (79, 1)]), (0, [(56, 1), (79, -1)]), (0, [(60, -1), (80, 1)]), (0, [(60, 1), (80, -1)]), (0, [(64, -1), (81, 1)]), (0, [(64, 1), (81, -1)]), (-1, [(5, -1)])]), (138, [(1, 234), (0, 0), (0, 0), (0, 0), (0, 0), (0, 0)], [], [(0, [(1, -1), (68, 1)]), (0, [(1, 1), (68, -1)]), (0, [(2, -1), (69, 1)]), (0, [(2, 1), (69, -1)]), (-1, [(3, -1), (70, 1)]), (1, [(3, 1), (70, -1)]), (0, [(4, -1), (71, 1)]), (0, [(4, 1), (71, -1)]), (1, [(5, -1), (72, 1)]), (-1, [(5, 1), (72, -1)]), (0, [(31, -1), (73, 1)]), (0, [(31, 1), (73, -1)]), (0, [(26, -1), (74, 1)]), (0, [(26, 1), (74, -1)]), (0, [(27, -1), (75, 1)]), (0, [(27, 1), (75, -1)]), (0, [(28, -1), (76, 1)]), (0, [(28, 1), (76, -1)]), (0, [(29, -1), (77, 1)]), (0, [(29, 1), (77, -1)]), (0, [(52, -1), (78, 1)]), (0, [(52, 1), (78, -1)]), (0, [(56, -1), (79, 1)]), (0, [(56, 1), (79, -1)]), (0, [(60, -1), (80, 1)]), (0, [(60, 1), (80, -1)]), (0, [(64, -1), (81, 1)]), (0, [(64, 1), (81, -1)]), (0, [(5, 1)])])]
def hf_g0_h : List mz_H := [(0, 0, []), (0, 0, []), (0, 0, []), (0, 0, []), (0, 0, []), (0, 0, []), (0, 0, []), (0, 0, []), (0, 0, []), (0, 0, []), (0, 0, []), (0, 0, []), (0, 0, []), (0, 0, []), (0, 0, []), (0, 0, []), (0, 0, []), (0, 0, []), (0, 0, []), (0, 0, []), (0, 0, []), (0, 0, []), (0, 0, []), (0, 0, []), (0, 0, []), (0, 0, []), (0, 0, []), (0, 0, []), (0, 0, []), (0, 0, []), (0, 0, []), (0, 0, [(0, 1)]), (265, 0, []), (246, 0, []), (0, 0, []), (0, 0, [(5, 4)]), (0, 0, [(6, 4)]), (0, 0, []), (0, 0, [(0, 1), (5, 4)]), (0, 0, [(2, 1), (6, 4)]), (0, 0, [(0, 1), (5, 4)]), (0, 0, [(2, 1), (6, 4)]), (0, 0, [(3, 1)]), (0, 0, [(6, 1), (2, 1)]), (0, 0, [(0, 1)]), (0, 0, [(1, 1)]), (0, 0, []), (0, 0, [(3, 1)]), (0, 0, [(6, 1), (2, 1)]), (0, 0, []), (0, 0, [(2, 1)]), (0, 0, [(4, 1)]), (1, 0, []), (0, 0, []), (0, 0, []), (0, 0, []), (0, 0, []), (0, 0, []), (0, 0, []), (0, 0, []), (0, 0, []), (0, 0, []), (0, 0, []), (0, 0, []), (0, 0, []), (0, 0, []), (0, 0, []), (0, 0, []), (0, 0, []), (0, 0, []), (0, 0, []), (0, 0, []), (0, 0, []), (0, 0, []), (0, 0, []), (0, 0, []), (0, 0, []), (0, 0, []), (0, 0, []), (0, 0, []), (0, 0, []), (0, 0, [(2, 1)])]
set_option maxRecDepth 100000 in
theorem hf_g0_c : mz_blk mz_GG mq_PP mz_Cs hf_g0_q 6 1 138 hf_g0_s [] 25 hf_g0_h = true := by decide +kernel
theorem hf_g0 {X : (Nat → mq_C) → Prop} (hX : ∀ M M' : Nat → mq_C, mz_same mz_GG M M' → X M → X M') (hC : ∀ c ∈ mz_Cs, c.2 < 1 → mz_Ct mz_GG mq_PP X c.1 c.2) {d z u : Nat} {M : Nat → mq_C} {Q : (Option Value ⊕ Nat) → mq_S → Prop} {x1 : Int32} {x2 : Int32} {x3 : Int32} {x4 : Int32} {x5 : Int32} (hd : 1 ≤ d) (hz : 272 ≤ z) (hm : mz_sh mz_GG M) (hx : X M) (p0 : 0 ≤ x3.toInt) (p1 : 0 ≤ 3 - x5.toInt) (p2 : 0 ≤ 1 + x5.toInt) (p3 : 0 ≤ 22 - x3.toInt - x5.toInt) (p4 : 0 ≤ x4.toInt) (p5 : 0 ≤ 3 - x4.toInt)
    (k0 : ∀ (M' : Nat → mq_C) , mz_sh mz_GG M' → X M' → mz_fr hf_g0_q M M' → (∀ a, a < 8 → M' a = M a) → hb_same mz_GG hf_g0_q M M' → hv M' 234 38 = hv M 234 38 → hv M' 234 21 = hv M 234 21 → hv M' 234 23 = hv M 234 23 → hv M' 234 24 = hv M 234 24 → hv M' 234 25 = hv M 234 25 → hv M' 238 0 = hv M 238 0 → hv M' 238 1 = hv M 238 1 → hv M' 238 2 = hv M 238 2 → hv M' 238 3 = hv M 238 3 → 0 ≤ (-1) - x5.toInt → mq_R mq_PP d 143 59 [some (.ref 234), some (.int x1), some (.int x2), some (.int x3), some (.int x4), some (.int x5)] [] (M', z, u) Q)
    (k1 : ∀ (M' : Nat → mq_C) (y3 : Int32) (y5 : Int32), mz_sh mz_GG M' → X M' → mz_fr hf_g0_q M M' → (∀ a, a < 8 → M' a = M a) → hb_same mz_GG hf_g0_q M M' → y3.toInt = 1 + x3.toInt → y5.toInt = (-1) + x5.toInt → hv M' 234 38 = hv M 234 38 → hv M' 234 21 = hv M 234 21 → hv M' 234 23 = hv M 234 23 → hv M' 234 24 = hv M 234 24 → hv M' 234 25 = hv M 234 25 → hv M' 238 0 = hv M 238 0 → hv M' 238 1 = hv M 238 1 → hv M' 238 2 = hv M 238 2 → hv M' 238 3 = hv M 238 3 → 0 ≤ x5.toInt → mq_R mq_PP d 143 138 [some (.ref 234), some (.int x1), some (.int x2), some (.int y3), some (.int x4), some (.int y5)] [] (M', z, u) Q) : mq_R mq_PP d 143 138 [some (.ref 234), some (.int x1), some (.int x2), some (.int x3), some (.int x4), some (.int x5)] [] (M, z, u) Q := by
  refine hb_blk mz_GG mq_PP X (q := hf_g0_q) (nl := 6) (M := M) hb_okG hX hC hf_g0_c hz hd (L := [some (.ref 234), some (.int x1), some (.int x2), some (.int x3), some (.int x4), some (.int x5)]) (st := []) (show hb_lk mz_GG ([(1, 234), (0, 0), (0, 0), (0, 0), (0, 0), (0, 0)]) _ from ⟨⟨List.mem_singleton.mpr rfl, rfl⟩, trivial, trivial, trivial, trivial, trivial, trivial⟩) (show hb_pk mz_GG ([]) _ from trivial) hm hx ?_ ?_ ?_
  · exact hb_cons (show 0 ≤ mz_ev _ _ from (show 0 ≤ 0 + (1 * x3.toInt + 0) by omega)) (hb_cons (show 0 ≤ mz_ev _ _ from (show 0 ≤ 3 + ((-1) * x5.toInt + 0) by omega)) (hb_cons (show 0 ≤ mz_ev _ _ from (show 0 ≤ 1 + (1 * x5.toInt + 0) by omega)) (hb_cons (show 0 ≤ mz_ev _ _ from (show 0 ≤ 22 + ((-1) * x3.toInt + ((-1) * x5.toInt + 0)) by omega)) (hb_cons (show 0 ≤ mz_ev _ _ from (show 0 ≤ 0 + (1 * x4.toInt + 0) by omega)) (hb_cons (show 0 ≤ mz_ev _ _ from (show 0 ≤ 3 + ((-1) * x4.toInt + 0) by omega)) (hb_nil))))))
  · intro s hs
    rcases List.mem_cons.mp hs with rfl | hs
    · intro ρ1 L' st' M' g1 g2 gm gr gf gs gx gw g8 ge
      obtain ⟨e0, L1, rfl, n0, gg0⟩ := hb_l1 mz_GG g1
      obtain rfl : e0 = 234 := List.mem_singleton.mp n0
      obtain ⟨y1, L1, rfl, qr68, gg1⟩ := hb_l0 mz_GG gg0
      have r68 : ρ1 68 = y1.toInt := qr68
      obtain ⟨y2, L1, rfl, qr69, gg2⟩ := hb_l0 mz_GG gg1
      have r69 : ρ1 69 = y2.toInt := qr69
      obtain ⟨y3, L1, rfl, qr70, gg3⟩ := hb_l0 mz_GG gg2
      have r70 : ρ1 70 = y3.toInt := qr70
      obtain ⟨y4, L1, rfl, qr71, gg4⟩ := hb_l0 mz_GG gg3
      have r71 : ρ1 71 = y4.toInt := qr71
      obtain ⟨y5, L1, rfl, qr72, gg5⟩ := hb_l0 mz_GG gg4
      have r72 : ρ1 72 = y5.toInt := qr72
      obtain rfl := hb_ln mz_GG gg5
      obtain rfl := hb_pn mz_GG g2
      have r1 : ρ1 1 = x1.toInt := gr 1 (by decide +kernel)
      have r2 : ρ1 2 = x2.toInt := gr 2 (by decide +kernel)
      have r3 : ρ1 3 = x3.toInt := gr 3 (by decide +kernel)
      have r4 : ρ1 4 = x4.toInt := gr 4 (by decide +kernel)
      have r5 : ρ1 5 = x5.toInt := gr 5 (by decide +kernel)
      have r26 : ρ1 26 = hv M 234 21 := gr 26 (by decide +kernel)
      have r27 : ρ1 27 = hv M 234 23 := gr 27 (by decide +kernel)
      have r28 : ρ1 28 = hv M 234 24 := gr 28 (by decide +kernel)
      have r29 : ρ1 29 = hv M 234 25 := gr 29 (by decide +kernel)
      have r31 : ρ1 31 = hv M 234 38 := gr 31 (by decide +kernel)
      have r52 : ρ1 52 = hv M 238 0 := gr 52 (by decide +kernel)
      have r56 : ρ1 56 = hv M 238 1 := gr 56 (by decide +kernel)
      have r60 : ρ1 60 = hv M 238 2 := gr 60 (by decide +kernel)
      have r64 : ρ1 64 = hv M 238 3 := gr 64 (by decide +kernel)
      have r73 : ρ1 73 = hv M' 234 38 := gm 0 25 (234, 38) rfl rfl
      have r74 : ρ1 74 = hv M' 234 21 := gm 1 20 (234, 21) rfl rfl
      have r75 : ρ1 75 = hv M' 234 23 := gm 2 21 (234, 23) rfl rfl
      have r76 : ρ1 76 = hv M' 234 24 := gm 3 22 (234, 24) rfl rfl
      have r77 : ρ1 77 = hv M' 234 25 := gm 4 23 (234, 25) rfl rfl
      have r78 : ρ1 78 = hv M' 238 0 := gm 5 46 (238, 0) rfl rfl
      have r79 : ρ1 79 = hv M' 238 1 := gm 6 50 (238, 1) rfl rfl
      have r80 : ρ1 80 = hv M' 238 2 := gm 7 54 (238, 2) rfl rfl
      have r81 : ρ1 81 = hv M' 238 3 := gm 8 58 (238, 3) rfl rfl
      obtain ⟨f0, gf⟩ := hb_unc gf
      have f0 : 0 ≤ 0 + ((-1) * ρ1 1 + (1 * ρ1 68 + 0)) := f0
      rw [r1, r68] at f0
      obtain ⟨f1, gf⟩ := hb_unc gf
      have f1 : 0 ≤ 0 + (1 * ρ1 1 + ((-1) * ρ1 68 + 0)) := f1
      rw [r1, r68] at f1
      obtain ⟨f2, gf⟩ := hb_unc gf
      have f2 : 0 ≤ 0 + ((-1) * ρ1 2 + (1 * ρ1 69 + 0)) := f2
      rw [r2, r69] at f2
      obtain ⟨f3, gf⟩ := hb_unc gf
      have f3 : 0 ≤ 0 + (1 * ρ1 2 + ((-1) * ρ1 69 + 0)) := f3
      rw [r2, r69] at f3
      obtain ⟨f4, gf⟩ := hb_unc gf
      have f4 : 0 ≤ 0 + ((-1) * ρ1 3 + (1 * ρ1 70 + 0)) := f4
      rw [r3, r70] at f4
      obtain ⟨f5, gf⟩ := hb_unc gf
      have f5 : 0 ≤ 0 + (1 * ρ1 3 + ((-1) * ρ1 70 + 0)) := f5
      rw [r3, r70] at f5
      obtain ⟨f6, gf⟩ := hb_unc gf
      have f6 : 0 ≤ 0 + ((-1) * ρ1 4 + (1 * ρ1 71 + 0)) := f6
      rw [r4, r71] at f6
      obtain ⟨f7, gf⟩ := hb_unc gf
      have f7 : 0 ≤ 0 + (1 * ρ1 4 + ((-1) * ρ1 71 + 0)) := f7
      rw [r4, r71] at f7
      obtain ⟨f8, gf⟩ := hb_unc gf
      have f8 : 0 ≤ 0 + ((-1) * ρ1 5 + (1 * ρ1 72 + 0)) := f8
      rw [r5, r72] at f8
      obtain ⟨f9, gf⟩ := hb_unc gf
      have f9 : 0 ≤ 0 + (1 * ρ1 5 + ((-1) * ρ1 72 + 0)) := f9
      rw [r5, r72] at f9
      obtain ⟨f10, gf⟩ := hb_unc gf
      have f10 : 0 ≤ 0 + ((-1) * ρ1 31 + (1 * ρ1 73 + 0)) := f10
      rw [r31, r73] at f10
      obtain ⟨f11, gf⟩ := hb_unc gf
      have f11 : 0 ≤ 0 + (1 * ρ1 31 + ((-1) * ρ1 73 + 0)) := f11
      rw [r31, r73] at f11
      obtain ⟨f12, gf⟩ := hb_unc gf
      have f12 : 0 ≤ 0 + ((-1) * ρ1 26 + (1 * ρ1 74 + 0)) := f12
      rw [r26, r74] at f12
      obtain ⟨f13, gf⟩ := hb_unc gf
      have f13 : 0 ≤ 0 + (1 * ρ1 26 + ((-1) * ρ1 74 + 0)) := f13
      rw [r26, r74] at f13
      obtain ⟨f14, gf⟩ := hb_unc gf
      have f14 : 0 ≤ 0 + ((-1) * ρ1 27 + (1 * ρ1 75 + 0)) := f14
      rw [r27, r75] at f14
      obtain ⟨f15, gf⟩ := hb_unc gf
      have f15 : 0 ≤ 0 + (1 * ρ1 27 + ((-1) * ρ1 75 + 0)) := f15
      rw [r27, r75] at f15
      obtain ⟨f16, gf⟩ := hb_unc gf
      have f16 : 0 ≤ 0 + ((-1) * ρ1 28 + (1 * ρ1 76 + 0)) := f16
      rw [r28, r76] at f16
      obtain ⟨f17, gf⟩ := hb_unc gf
      have f17 : 0 ≤ 0 + (1 * ρ1 28 + ((-1) * ρ1 76 + 0)) := f17
      rw [r28, r76] at f17
      obtain ⟨f18, gf⟩ := hb_unc gf
      have f18 : 0 ≤ 0 + ((-1) * ρ1 29 + (1 * ρ1 77 + 0)) := f18
      rw [r29, r77] at f18
      obtain ⟨f19, gf⟩ := hb_unc gf
      have f19 : 0 ≤ 0 + (1 * ρ1 29 + ((-1) * ρ1 77 + 0)) := f19
      rw [r29, r77] at f19
      obtain ⟨f20, gf⟩ := hb_unc gf
      have f20 : 0 ≤ 0 + ((-1) * ρ1 52 + (1 * ρ1 78 + 0)) := f20
      rw [r52, r78] at f20
      obtain ⟨f21, gf⟩ := hb_unc gf
      have f21 : 0 ≤ 0 + (1 * ρ1 52 + ((-1) * ρ1 78 + 0)) := f21
      rw [r52, r78] at f21
      obtain ⟨f22, gf⟩ := hb_unc gf
      have f22 : 0 ≤ 0 + ((-1) * ρ1 56 + (1 * ρ1 79 + 0)) := f22
      rw [r56, r79] at f22
      obtain ⟨f23, gf⟩ := hb_unc gf
      have f23 : 0 ≤ 0 + (1 * ρ1 56 + ((-1) * ρ1 79 + 0)) := f23
      rw [r56, r79] at f23
      obtain ⟨f24, gf⟩ := hb_unc gf
      have f24 : 0 ≤ 0 + ((-1) * ρ1 60 + (1 * ρ1 80 + 0)) := f24
      rw [r60, r80] at f24
      obtain ⟨f25, gf⟩ := hb_unc gf
      have f25 : 0 ≤ 0 + (1 * ρ1 60 + ((-1) * ρ1 80 + 0)) := f25
      rw [r60, r80] at f25
      obtain ⟨f26, gf⟩ := hb_unc gf
      have f26 : 0 ≤ 0 + ((-1) * ρ1 64 + (1 * ρ1 81 + 0)) := f26
      rw [r64, r81] at f26
      obtain ⟨f27, gf⟩ := hb_unc gf
      have f27 : 0 ≤ 0 + (1 * ρ1 64 + ((-1) * ρ1 81 + 0)) := f27
      rw [r64, r81] at f27
      obtain ⟨f28, gf⟩ := hb_unc gf
      have f28 : 0 ≤ -1 + ((-1) * ρ1 5 + 0) := f28
      rw [r5] at f28
      have hy1 : y1 = x1 := hb_inj f0 f1
      subst y1
      have hy2 : y2 = x2 := hb_inj f2 f3
      subst y2
      have hy3 : y3 = x3 := hb_inj f4 f5
      subst y3
      have hy4 : y4 = x4 := hb_inj f6 f7
      subst y4
      have hy5 : y5 = x5 := hb_inj f8 f9
      subst y5
      exact k0 M'  gs gx gw g8 ge  (by have h1 := f10; have h2 := f11; omega) (by have h1 := f12; have h2 := f13; omega) (by have h1 := f14; have h2 := f15; omega) (by have h1 := f16; have h2 := f17; omega) (by have h1 := f18; have h2 := f19; omega) (by have h1 := f20; have h2 := f21; omega) (by have h1 := f22; have h2 := f23; omega) (by have h1 := f24; have h2 := f25; omega) (by have h1 := f26; have h2 := f27; omega) (by have h1 := f28; omega)
    rcases List.mem_cons.mp hs with rfl | hs
    · intro ρ1 L' st' M' g1 g2 gm gr gf gs gx gw g8 ge
      obtain ⟨e0, L1, rfl, n0, gg0⟩ := hb_l1 mz_GG g1
      obtain rfl : e0 = 234 := List.mem_singleton.mp n0
      obtain ⟨y1, L1, rfl, qr68, gg1⟩ := hb_l0 mz_GG gg0
      have r68 : ρ1 68 = y1.toInt := qr68
      obtain ⟨y2, L1, rfl, qr69, gg2⟩ := hb_l0 mz_GG gg1
      have r69 : ρ1 69 = y2.toInt := qr69
      obtain ⟨y3, L1, rfl, qr70, gg3⟩ := hb_l0 mz_GG gg2
      have r70 : ρ1 70 = y3.toInt := qr70
      obtain ⟨y4, L1, rfl, qr71, gg4⟩ := hb_l0 mz_GG gg3
      have r71 : ρ1 71 = y4.toInt := qr71
      obtain ⟨y5, L1, rfl, qr72, gg5⟩ := hb_l0 mz_GG gg4
      have r72 : ρ1 72 = y5.toInt := qr72
      obtain rfl := hb_ln mz_GG gg5
      obtain rfl := hb_pn mz_GG g2
      have r1 : ρ1 1 = x1.toInt := gr 1 (by decide +kernel)
      have r2 : ρ1 2 = x2.toInt := gr 2 (by decide +kernel)
      have r3 : ρ1 3 = x3.toInt := gr 3 (by decide +kernel)
      have r4 : ρ1 4 = x4.toInt := gr 4 (by decide +kernel)
      have r5 : ρ1 5 = x5.toInt := gr 5 (by decide +kernel)
      have r26 : ρ1 26 = hv M 234 21 := gr 26 (by decide +kernel)
      have r27 : ρ1 27 = hv M 234 23 := gr 27 (by decide +kernel)
      have r28 : ρ1 28 = hv M 234 24 := gr 28 (by decide +kernel)
      have r29 : ρ1 29 = hv M 234 25 := gr 29 (by decide +kernel)
      have r31 : ρ1 31 = hv M 234 38 := gr 31 (by decide +kernel)
      have r52 : ρ1 52 = hv M 238 0 := gr 52 (by decide +kernel)
      have r56 : ρ1 56 = hv M 238 1 := gr 56 (by decide +kernel)
      have r60 : ρ1 60 = hv M 238 2 := gr 60 (by decide +kernel)
      have r64 : ρ1 64 = hv M 238 3 := gr 64 (by decide +kernel)
      have r73 : ρ1 73 = hv M' 234 38 := gm 0 25 (234, 38) rfl rfl
      have r74 : ρ1 74 = hv M' 234 21 := gm 1 20 (234, 21) rfl rfl
      have r75 : ρ1 75 = hv M' 234 23 := gm 2 21 (234, 23) rfl rfl
      have r76 : ρ1 76 = hv M' 234 24 := gm 3 22 (234, 24) rfl rfl
      have r77 : ρ1 77 = hv M' 234 25 := gm 4 23 (234, 25) rfl rfl
      have r78 : ρ1 78 = hv M' 238 0 := gm 5 46 (238, 0) rfl rfl
      have r79 : ρ1 79 = hv M' 238 1 := gm 6 50 (238, 1) rfl rfl
      have r80 : ρ1 80 = hv M' 238 2 := gm 7 54 (238, 2) rfl rfl
      have r81 : ρ1 81 = hv M' 238 3 := gm 8 58 (238, 3) rfl rfl
      obtain ⟨f0, gf⟩ := hb_unc gf
      have f0 : 0 ≤ 0 + ((-1) * ρ1 1 + (1 * ρ1 68 + 0)) := f0
      rw [r1, r68] at f0
      obtain ⟨f1, gf⟩ := hb_unc gf
      have f1 : 0 ≤ 0 + (1 * ρ1 1 + ((-1) * ρ1 68 + 0)) := f1
      rw [r1, r68] at f1
      obtain ⟨f2, gf⟩ := hb_unc gf
      have f2 : 0 ≤ 0 + ((-1) * ρ1 2 + (1 * ρ1 69 + 0)) := f2
      rw [r2, r69] at f2
      obtain ⟨f3, gf⟩ := hb_unc gf
      have f3 : 0 ≤ 0 + (1 * ρ1 2 + ((-1) * ρ1 69 + 0)) := f3
      rw [r2, r69] at f3
      obtain ⟨f4, gf⟩ := hb_unc gf
      have f4 : 0 ≤ -1 + ((-1) * ρ1 3 + (1 * ρ1 70 + 0)) := f4
      rw [r3, r70] at f4
      obtain ⟨f5, gf⟩ := hb_unc gf
      have f5 : 0 ≤ 1 + (1 * ρ1 3 + ((-1) * ρ1 70 + 0)) := f5
      rw [r3, r70] at f5
      obtain ⟨f6, gf⟩ := hb_unc gf
      have f6 : 0 ≤ 0 + ((-1) * ρ1 4 + (1 * ρ1 71 + 0)) := f6
      rw [r4, r71] at f6
      obtain ⟨f7, gf⟩ := hb_unc gf
      have f7 : 0 ≤ 0 + (1 * ρ1 4 + ((-1) * ρ1 71 + 0)) := f7
      rw [r4, r71] at f7
      obtain ⟨f8, gf⟩ := hb_unc gf
      have f8 : 0 ≤ 1 + ((-1) * ρ1 5 + (1 * ρ1 72 + 0)) := f8
      rw [r5, r72] at f8
      obtain ⟨f9, gf⟩ := hb_unc gf
      have f9 : 0 ≤ -1 + (1 * ρ1 5 + ((-1) * ρ1 72 + 0)) := f9
      rw [r5, r72] at f9
      obtain ⟨f10, gf⟩ := hb_unc gf
      have f10 : 0 ≤ 0 + ((-1) * ρ1 31 + (1 * ρ1 73 + 0)) := f10
      rw [r31, r73] at f10
      obtain ⟨f11, gf⟩ := hb_unc gf
      have f11 : 0 ≤ 0 + (1 * ρ1 31 + ((-1) * ρ1 73 + 0)) := f11
      rw [r31, r73] at f11
      obtain ⟨f12, gf⟩ := hb_unc gf
      have f12 : 0 ≤ 0 + ((-1) * ρ1 26 + (1 * ρ1 74 + 0)) := f12
      rw [r26, r74] at f12
      obtain ⟨f13, gf⟩ := hb_unc gf
      have f13 : 0 ≤ 0 + (1 * ρ1 26 + ((-1) * ρ1 74 + 0)) := f13
      rw [r26, r74] at f13
      obtain ⟨f14, gf⟩ := hb_unc gf
      have f14 : 0 ≤ 0 + ((-1) * ρ1 27 + (1 * ρ1 75 + 0)) := f14
      rw [r27, r75] at f14
      obtain ⟨f15, gf⟩ := hb_unc gf
      have f15 : 0 ≤ 0 + (1 * ρ1 27 + ((-1) * ρ1 75 + 0)) := f15
      rw [r27, r75] at f15
      obtain ⟨f16, gf⟩ := hb_unc gf
      have f16 : 0 ≤ 0 + ((-1) * ρ1 28 + (1 * ρ1 76 + 0)) := f16
      rw [r28, r76] at f16
      obtain ⟨f17, gf⟩ := hb_unc gf
      have f17 : 0 ≤ 0 + (1 * ρ1 28 + ((-1) * ρ1 76 + 0)) := f17
      rw [r28, r76] at f17
      obtain ⟨f18, gf⟩ := hb_unc gf
      have f18 : 0 ≤ 0 + ((-1) * ρ1 29 + (1 * ρ1 77 + 0)) := f18
      rw [r29, r77] at f18
      obtain ⟨f19, gf⟩ := hb_unc gf
      have f19 : 0 ≤ 0 + (1 * ρ1 29 + ((-1) * ρ1 77 + 0)) := f19
      rw [r29, r77] at f19
      obtain ⟨f20, gf⟩ := hb_unc gf
      have f20 : 0 ≤ 0 + ((-1) * ρ1 52 + (1 * ρ1 78 + 0)) := f20
      rw [r52, r78] at f20
      obtain ⟨f21, gf⟩ := hb_unc gf
      have f21 : 0 ≤ 0 + (1 * ρ1 52 + ((-1) * ρ1 78 + 0)) := f21
      rw [r52, r78] at f21
      obtain ⟨f22, gf⟩ := hb_unc gf
      have f22 : 0 ≤ 0 + ((-1) * ρ1 56 + (1 * ρ1 79 + 0)) := f22
      rw [r56, r79] at f22
      obtain ⟨f23, gf⟩ := hb_unc gf
      have f23 : 0 ≤ 0 + (1 * ρ1 56 + ((-1) * ρ1 79 + 0)) := f23
      rw [r56, r79] at f23
      obtain ⟨f24, gf⟩ := hb_unc gf
      have f24 : 0 ≤ 0 + ((-1) * ρ1 60 + (1 * ρ1 80 + 0)) := f24
      rw [r60, r80] at f24
      obtain ⟨f25, gf⟩ := hb_unc gf
      have f25 : 0 ≤ 0 + (1 * ρ1 60 + ((-1) * ρ1 80 + 0)) := f25
      rw [r60, r80] at f25
      obtain ⟨f26, gf⟩ := hb_unc gf
      have f26 : 0 ≤ 0 + ((-1) * ρ1 64 + (1 * ρ1 81 + 0)) := f26
      rw [r64, r81] at f26
      obtain ⟨f27, gf⟩ := hb_unc gf
      have f27 : 0 ≤ 0 + (1 * ρ1 64 + ((-1) * ρ1 81 + 0)) := f27
      rw [r64, r81] at f27
      obtain ⟨f28, gf⟩ := hb_unc gf
      have f28 : 0 ≤ 0 + (1 * ρ1 5 + 0) := f28
      rw [r5] at f28
      have hy1 : y1 = x1 := hb_inj f0 f1
      subst y1
      have hy2 : y2 = x2 := hb_inj f2 f3
      subst y2
      have hy4 : y4 = x4 := hb_inj f6 f7
      subst y4
      exact k1 M' y3 y5 gs gx gw g8 ge  (by have h1 := f4; have h2 := f5; omega) (by have h1 := f8; have h2 := f9; omega) (by have h1 := f10; have h2 := f11; omega) (by have h1 := f12; have h2 := f13; omega) (by have h1 := f14; have h2 := f15; omega) (by have h1 := f16; have h2 := f17; omega) (by have h1 := f18; have h2 := f19; omega) (by have h1 := f20; have h2 := f21; omega) (by have h1 := f22; have h2 := f23; omega) (by have h1 := f24; have h2 := f25; omega) (by have h1 := f26; have h2 := f27; omega) (by have h1 := f28; omega)
    cases hs
  · intro r S hpo
    obtain ⟨b1, b2, b3, b4, b5, p, hp, res, hf, hre⟩ := hpo
    cases hp

theorem he_bi {d k pc n z u o : Nat} {L : mq_L} {st : List Value} {M : Nat → mq_C} {Q : (Option Value ⊕ Nat) → mq_S → Prop} {x y : Int32} {f : Int32 → Int32 → Int32} (hat : mq_at mq_PP k pc = some (o, [n], [])) (ho : mq_ops[o]? = some (mq_bi f)) (h : mq_R mq_PP d k n L (.int (f x y) :: st) (M, z, u) Q) : mq_R mq_PP d k pc L (.int y :: .int x :: st) (M, z, u) Q := by
  refine he_go hat ?_ h
  unfold mq_ex
  simp only [ho]
  rfl
def hf_pc (x : Int32) : Int := (x &&& 1).toInt + ((x >>> 1) &&& 1).toInt + ((x >>> 2) &&& 1).toInt + ((x >>> 3) &&& 1).toInt
theorem hf_f (i : Fin 16) : (Int32.ofNat i.val).toInt = (i.val : Int) ∧ 0 ≤ hf_pc (Int32.ofNat i.val) ∧ hf_pc (Int32.ofNat i.val) ≤ 4 := by revert i; decide
theorem hf_g : ∀ (i : Fin 16) (a : Fin 4), (((Int32.ofNat i.val) >>> ((Int32.ofNat a.val) &&& 31)) &&& 1) = 1 ∨ ¬ ((((Int32.ofNat i.val) >>> ((Int32.ofNat a.val) &&& 31)) &&& 1) = 1) ∧ 0 ≤ ((Int32.ofNat i.val) ||| (1 <<< ((Int32.ofNat a.val) &&& 31))).toInt ∧ ((Int32.ofNat i.val) ||| (1 <<< ((Int32.ofNat a.val) &&& 31))).toInt ≤ 15 ∧ hf_pc ((Int32.ofNat i.val) ||| (1 <<< ((Int32.ofNat a.val) &&& 31))) = hf_pc (Int32.ofNat i.val) + 1 := by decide +kernel
theorem hf_of {x : Int32} (h0 : 0 ≤ x.toInt) (h1 : x.toInt ≤ 15) : ∃ i : Fin 16, x = Int32.ofNat i.val := by
  refine ⟨⟨x.toInt.toNat, by omega⟩, ?_⟩
  rw [he_eqi, (hf_f ⟨x.toInt.toNat, by omega⟩).1]
  show x.toInt = ((x.toInt.toNat : Nat) : Int)
  omega
theorem hf_r {x : Int32} (h0 : 0 ≤ x.toInt) (h1 : x.toInt ≤ 15) : 0 ≤ hf_pc x ∧ hf_pc x ≤ 4 := by
  obtain ⟨i, rfl⟩ := hf_of h0 h1
  exact (hf_f i).2
theorem hf_bits {x a : Int32} (h0 : 0 ≤ x.toInt) (h1 : x.toInt ≤ 15) (h2 : 0 ≤ a.toInt) (h3 : a.toInt ≤ 3) : ((x >>> (a &&& 31)) &&& 1) = 1 ∨ ¬ (((x >>> (a &&& 31)) &&& 1) = 1) ∧ 0 ≤ (x ||| (1 <<< (a &&& 31))).toInt ∧ (x ||| (1 <<< (a &&& 31))).toInt ≤ 15 ∧ hf_pc (x ||| (1 <<< (a &&& 31))) = hf_pc x + 1 := by
  obtain ⟨i, rfl⟩ := hf_of h0 h1
  obtain ⟨j, rfl⟩ := hf_of h2 (by omega : a.toInt ≤ 15)
  have hj : j.val < 4 := by
    have := (hf_f j).1
    omega
  exact hf_g i ⟨j.val, hj⟩
def hf_R (M0 M : Nat → mq_C) : Prop := mz_fr mz_q174 M0 M ∧ (∀ a, a < 8 → M a = M0 a) ∧ hb_same mz_GG mz_q174 M0 M
theorem hf_Rt {M0 M M' : Nat → mq_C} (h : hf_R M0 M) (h' : hf_R M M') : hf_R M0 M' := ⟨hb_fr_t (q' := mz_q174) (fun a ha => ha) h.1 h'.1, fun a ha => (h'.2.1 a ha).trans (h.2.1 a ha), hb_same_t (q' := mz_q174) (fun j hj => hj) h.2.2 h'.2.2⟩
theorem hf_Rb {q' : mz_Q} {M M' : Nat → mq_C} (hW : ∀ a ∈ q'.2.2.2.2.2, a ∈ mz_q174.2.2.2.2.2) (hm : q'.2.2.2.1 = mz_q174.2.2.2.1) (h1 : mz_fr q' M M') (h2 : ∀ a, a < 8 → M' a = M a) (h3 : hb_same mz_GG q' M M') : hf_R M M' := ⟨hb_fr_t (hb_wsub hW) hb_fr_r h1, h2, hb_same_t (fun j hj => by rw [hm]; exact hj) hb_same_r h3⟩
theorem hf_p {d z u : Nat} {Q : (Option Value ⊕ Nat) → mq_S → Prop} {M0 : Nat → mq_C} {x1 : Int32} (hC : ∀ c ∈ mz_Cs, c.2 < 10 → mz_Ct mz_GG mq_PP HX c.1 c.2) (hd : 10 ≤ d) (hz : 272 ≤ z) {x2 x4 : Int32} {B : Int} (p4 : 0 ≤ x4.toInt) (p4' : x4.toInt ≤ 3) (pB : B ≤ 23) (K : ∀ (M : Nat → mq_C) (y3 : Int32) (o5 : Option Value), mz_sh mz_GG M → HX M → hf_R M0 M → 0 ≤ y3.toInt → y3.toInt ≤ B → hv M 234 38 = hv M0 234 38 → mq_nl o5 = true → mq_R mq_PP d 143 59 [some (.ref 234), some (.int x1), some (.int x2), some (.int y3), some (.int x4), o5] [] (M, z, u) Q) :
    ∀ (m : Nat) (M : Nat → mq_C) (x3 x5 : Int32), (m : Int) = x5.toInt + 1 → x5.toInt ≤ 3 → 0 ≤ x3.toInt → x3.toInt + x5.toInt + 1 ≤ B → mz_sh mz_GG M → HX M → hf_R M0 M → hv M 234 38 = hv M0 234 38 → mq_R mq_PP d 143 138 [some (.ref 234), some (.int x1), some (.int x2), some (.int x3), some (.int x4), some (.int x5)] [] (M, z, u) Q := by
  intro m
  induction m with
  | zero =>
    intro M x3 x5 e1 e2 e3 e4 hm hx hR hp
    refine hf_g0 HX_same (fun c hc h => hC c hc (by omega)) (by omega) hz hm hx (by omega) (by omega) (by omega) (by omega) (by omega) (by omega) ?_ ?_
    · intro M'  gs gx gw g8 ge 
      intros
      exact K M' x3 _ gs gx (hf_Rt hR (hf_Rb (q' := hf_g0_q) (by decide) rfl gw g8 ge)) (by omega) (by omega) (by omega) rfl
    · intro M' y3 y5 gs gx gw g8 ge 
      intros
      omega
  | succ m ih =>
    intro M x3 x5 e1 e2 e3 e4 hm hx hR hp
    refine hf_g0 HX_same (fun c hc h => hC c hc (by omega)) (by omega) hz hm hx (by omega) (by omega) (by omega) (by omega) (by omega) (by omega) ?_ ?_
    · intro M'  gs gx gw g8 ge 
      intros
      omega
    · intro M' y3 y5 gs gx gw g8 ge 
      intros
      exact ih M' y3 y5 (by omega) (by omega) (by omega) (by omega) gs gx (hf_Rt hR (hf_Rb (q' := hf_g0_q) (by decide) rfl gw g8 ge)) (by omega)
theorem hf_m {d z u : Nat} {Q : (Option Value ⊕ Nat) → mq_S → Prop} {M0 : Nat → mq_C} {x1 : Int32} (hC : ∀ c ∈ mz_Cs, c.2 < 10 → mz_Ct mz_GG mq_PP HX c.1 c.2) (hd : 10 ≤ d) (hz : 272 ≤ z) (K : ∀ (M : Nat → mq_C), mz_sh mz_GG M → HX M → hf_R M0 M → Q (.inl none) (M, z, u)) :
    ∀ (m : Nat) (M : Nat → mq_C) (x2 x3 : Int32) (o4 o5 : Option Value), x3.toInt + 5 * (4 - hf_pc x2) ≤ (m : Int) → 0 ≤ x2.toInt → x2.toInt ≤ 15 → 0 ≤ x3.toInt → x3.toInt ≤ 4 + 4 * hf_pc x2 → hv M 234 38 ≤ hf_pc x2 → mz_sh mz_GG M → HX M → hf_R M0 M → mq_nl o4 = true → mq_nl o5 = true → mq_R mq_PP d 143 59 [some (.ref 234), some (.int x1), some (.int x2), some (.int x3), o4, o5] [] (M, z, u) Q := by
  intro m
  induction m with
  | zero =>
    intro M x2 x3 o4 o5 e1 e2 e3 e4 e5 e6 hm hx hR n4 n5
    have hpc := hf_r e2 e3
    refine hf_d HX_same (fun c hc h => hC c hc (by omega)) (by omega) hz hm hx n4 n5 (by omega) (by omega) ?_ ?_
    · intro M' y3 y4 w5 gs gx gw g8 ge hw5
      intros
      omega
    · intro M' gs gx gw g8 ge
      exact K M' gs gx (hf_Rt hR (hf_Rb (q' := hf_d_q) (by decide) rfl gw g8 ge))
  | succ m ih =>
    intro M x2 x3 o4 o5 e1 e2 e3 e4 e5 e6 hm hx hR n4 n5
    have hpc := hf_r e2 e3
    refine hf_d HX_same (fun c hc h => hC c hc (by omega)) (by omega) hz hm hx n4 n5 (by omega) (by omega) ?_ ?_
    · intro M' y3 y4 w5 gs gx gw g8 ge hw5
      intros
      have R1 := hf_Rt hR (hf_Rb (q' := hf_d_q) (by decide) rfl gw g8 ge)
      refine he_iload (n := 75) (i := 2) (by decide +kernel) rfl ?_
      refine he_iload (n := 77) (i := 4) (by decide +kernel) rfl ?_
      refine he_bi (o := 16) (n := 78) (by decide +kernel) rfl ?_
      refine he_iconst (n := 79) (c := 1) (by decide +kernel) (by decide) ?_
      intro c78 hc78
      refine he_bi (o := 12) (n := 80) (by decide +kernel) rfl ?_
      refine he_iconst (n := 81) (c := 1) (by decide +kernel) (by decide) ?_
      intro c80 hc80
      obtain rfl : c78 = 1 := by rw [he_eqi]; exact hc78
      obtain rfl : c80 = 1 := by rw [he_eqi]; exact hc80
      rcases hf_bits (x := x2) (a := y4) e2 e3 (by omega) (by omega) with hb | ⟨hb, b1, b2, b3⟩
      · refine he_cmpne_f (n := 84) (t := 87) (by decide +kernel) (by rw [← he_eqi]; exact fun h => h hb) ?_
        refine he_goto (t := 59) (by decide +kernel) ?_
        exact ih M' x2 y3 _ _ (by omega) e2 e3 (by omega) (by omega) (by omega) gs gx R1 rfl hw5
      · refine he_cmpne_t (n := 84) (t := 87) (by decide +kernel) (by rw [← he_eqi]; exact hb) ?_
        refine he_iload (n := 88) (i := 2) (by decide +kernel) rfl ?_
        refine he_iconst (n := 89) (c := 1) (by decide +kernel) (by decide) ?_
        intro c88 hc88
        obtain rfl : c88 = 1 := by rw [he_eqi]; exact hc88
        refine he_iload (n := 91) (i := 4) (by decide +kernel) rfl ?_
        refine he_bi (o := 15) (n := 92) (by decide +kernel) rfl ?_
        refine he_bi (o := 13) (n := 93) (by decide +kernel) rfl ?_
        refine he_istore (n := 94) (i := 2) (by decide +kernel) rfl ?_
        generalize hx2 : (x2 ||| (1 <<< (y4 &&& 31))) = x2' at b1 b2 b3
        show mq_R mq_PP d 143 94 [some (.ref 234), some (.int x1), some (.int x2'), some (.int y3), some (.int y4), w5] [] (M', z, u) Q
        have hpc' := hf_r b1 b2
        refine hf_e HX_same hC hd hz gs gx hw5 (by omega) (by omega) (by omega) (by omega) (by omega) ?_ ?_ ?_ ?_ ?_ ?_ ?_ ?_
        · intro M2 jy4 jy5 k1 k2 k3 k4 k5 
          intros
          have R2 := hf_Rt R1 (hf_Rb (q' := hf_e_q) (by decide) rfl k3 k4 k5)
          refine hf_p (M0 := M2) hC hd hz (x2 := x2') (B := x3.toInt + 3) (by omega) (by omega) (by omega) ?_ (jy5.toInt + 1).toNat M2 y3 jy5 (by omega) (by omega) (by omega) (by omega) k1 k2 ⟨hb_fr_r, fun _ _ => rfl, hb_same_r⟩ rfl
          intro M3 z3 q5 a1 a2 a3 a4 a5 a6 a7
          exact ih M3 x2' z3 _ _ (by omega) b1 b2 (by omega) (by omega) (by omega) a1 a2 (hf_Rt R2 a3) rfl a7
        · intro M2 jy4 jw5 k1 k2 k3 k4 k5 kh5
          intros
          exact ih M2 x2' y3 _ _ (by omega) b1 b2 (by omega) (by omega) (by omega) k1 k2 (hf_Rt R1 (hf_Rb (q' := hf_e_q) (by decide) rfl k3 k4 k5)) rfl kh5
        · intro M2 jy4 jy5 k1 k2 k3 k4 k5 
          intros
          have R2 := hf_Rt R1 (hf_Rb (q' := hf_e_q) (by decide) rfl k3 k4 k5)
          refine hf_p (M0 := M2) hC hd hz (x2 := x2') (B := x3.toInt + 3) (by omega) (by omega) (by omega) ?_ (jy5.toInt + 1).toNat M2 y3 jy5 (by omega) (by omega) (by omega) (by omega) k1 k2 ⟨hb_fr_r, fun _ _ => rfl, hb_same_r⟩ rfl
          intro M3 z3 q5 a1 a2 a3 a4 a5 a6 a7
          exact ih M3 x2' z3 _ _ (by omega) b1 b2 (by omega) (by omega) (by omega) a1 a2 (hf_Rt R2 a3) rfl a7
        · intro M2 jy4 jw5 k1 k2 k3 k4 k5 kh5
          intros
          exact ih M2 x2' y3 _ _ (by omega) b1 b2 (by omega) (by omega) (by omega) k1 k2 (hf_Rt R1 (hf_Rb (q' := hf_e_q) (by decide) rfl k3 k4 k5)) rfl kh5
        · intro M2 jy4 jy5 k1 k2 k3 k4 k5 
          intros
          have R2 := hf_Rt R1 (hf_Rb (q' := hf_e_q) (by decide) rfl k3 k4 k5)
          refine hf_p (M0 := M2) hC hd hz (x2 := x2') (B := x3.toInt + 3) (by omega) (by omega) (by omega) ?_ (jy5.toInt + 1).toNat M2 y3 jy5 (by omega) (by omega) (by omega) (by omega) k1 k2 ⟨hb_fr_r, fun _ _ => rfl, hb_same_r⟩ rfl
          intro M3 z3 q5 a1 a2 a3 a4 a5 a6 a7
          exact ih M3 x2' z3 _ _ (by omega) b1 b2 (by omega) (by omega) (by omega) a1 a2 (hf_Rt R2 a3) rfl a7
        · intro M2 jy4 jw5 k1 k2 k3 k4 k5 kh5
          intros
          exact ih M2 x2' y3 _ _ (by omega) b1 b2 (by omega) (by omega) (by omega) k1 k2 (hf_Rt R1 (hf_Rb (q' := hf_e_q) (by decide) rfl k3 k4 k5)) rfl kh5
        · intro M2 jy4 jy5 k1 k2 k3 k4 k5 
          intros
          have R2 := hf_Rt R1 (hf_Rb (q' := hf_e_q) (by decide) rfl k3 k4 k5)
          refine hf_p (M0 := M2) hC hd hz (x2 := x2') (B := x3.toInt + 3) (by omega) (by omega) (by omega) ?_ (jy5.toInt + 1).toNat M2 y3 jy5 (by omega) (by omega) (by omega) (by omega) k1 k2 ⟨hb_fr_r, fun _ _ => rfl, hb_same_r⟩ rfl
          intro M3 z3 q5 a1 a2 a3 a4 a5 a6 a7
          exact ih M3 x2' z3 _ _ (by omega) b1 b2 (by omega) (by omega) (by omega) a1 a2 (hf_Rt R2 a3) rfl a7
        · intro M2 jy4 jw5 k1 k2 k3 k4 k5 kh5
          intros
          exact ih M2 x2' y3 _ _ (by omega) b1 b2 (by omega) (by omega) (by omega) k1 k2 (hf_Rt R1 (hf_Rb (q' := hf_e_q) (by decide) rfl k3 k4 k5)) rfl kh5
    · intro M' gs gx gw g8 ge
      exact K M' gs gx (hf_Rt hR (hf_Rb (q' := hf_d_q) (by decide) rfl gw g8 ge))
theorem hf_q {d z u : Nat} {Q : (Option Value ⊕ Nat) → mq_S → Prop} {M0 : Nat → mq_C} {x1 : Int32} (hC : ∀ c ∈ mz_Cs, c.2 < 10 → mz_Ct mz_GG mq_PP HX c.1 c.2) (hd : 10 ≤ d) (hz : 272 ≤ z) (p1 : 0 ≤ x1.toInt) (p1' : x1.toInt ≤ 3) {x2 : Int32} (K : ∀ (M : Nat → mq_C) (y3 y4 : Int32) (o5 : Option Value), mz_sh mz_GG M → HX M → hf_R M0 M → 0 ≤ y3.toInt → y3.toInt ≤ 4 → hv M 234 38 = hv M0 234 38 → mq_nl o5 = true → mq_R mq_PP d 143 59 [some (.ref 234), some (.int x1), some (.int x2), some (.int y3), some (.int y4), o5] [] (M, z, u) Q) :
    ∀ (m : Nat) (M : Nat → mq_C) (x3 x4 : Int32) (o5 : Option Value), (m : Int) = x4.toInt + 1 → 0 ≤ x3.toInt → x3.toInt + x4.toInt ≤ 3 → mz_sh mz_GG M → HX M → hf_R M0 M → hv M 234 38 = hv M0 234 38 → mq_nl o5 = true → mq_R mq_PP d 143 19 [some (.ref 234), some (.int x1), some (.int x2), some (.int x3), some (.int x4), o5] [] (M, z, u) Q := by
  intro m
  induction m with
  | zero =>
    intro M x3 x4 o5 e1 e2 e3 hm hx hR hp n5
    refine hf_b HX_same (fun c hc h => hC c hc (by omega)) (by omega) hz hm hx n5 (by omega) (by omega) (by omega) (by omega) (by omega) ?_ ?_ ?_
    · intro M' w5 gs gx gw g8 ge hw5
      intros
      exact K M' x3 x4 _ gs gx (hf_Rt hR (hf_Rb (q' := hf_b_q) (by decide) rfl gw g8 ge)) (by omega) (by omega) (by omega) hw5
    · intro M' w5 gs gx gw g8 ge hw5
      intros
      exact K M' x3 x4 _ gs gx (hf_Rt hR (hf_Rb (q' := hf_b_q) (by decide) rfl gw g8 ge)) (by omega) (by omega) (by omega) hw5
    · intro M' y3 y4 w5 gs gx gw g8 ge hw5
      intros
      omega
  | succ m ih =>
    intro M x3 x4 o5 e1 e2 e3 hm hx hR hp n5
    refine hf_b HX_same (fun c hc h => hC c hc (by omega)) (by omega) hz hm hx n5 (by omega) (by omega) (by omega) (by omega) (by omega) ?_ ?_ ?_
    · intro M' w5 gs gx gw g8 ge hw5
      intros
      exact K M' x3 x4 _ gs gx (hf_Rt hR (hf_Rb (q' := hf_b_q) (by decide) rfl gw g8 ge)) (by omega) (by omega) (by omega) hw5
    · intro M' w5 gs gx gw g8 ge hw5
      intros
      exact K M' x3 x4 _ gs gx (hf_Rt hR (hf_Rb (q' := hf_b_q) (by decide) rfl gw g8 ge)) (by omega) (by omega) (by omega) hw5
    · intro M' y3 y4 w5 gs gx gw g8 ge hw5
      intros
      exact ih M' y3 y4 _ (by omega) (by omega) (by omega) gs gx (hf_Rt hR (hf_Rb (q' := hf_b_q) (by decide) rfl gw g8 ge)) (by omega) hw5
theorem hs_mfindPath_P (hC : ∀ c ∈ mz_Cs, c.2 < 10 → mz_Ct mz_GG mq_PP HX c.1 c.2) : hc_mfindPath_P := by
  intro d z u M Q x1 hd hz hm hx p1 p2 K
  refine hf_a HX_same (fun c hc h => hC c hc (by omega)) (by omega) hz hm hx rfl rfl rfl rfl (by omega) (by omega) ?_
  intro M1 y2 y3 y4 w5 gs gx gw g8 ge hw5
  intros
  refine hf_q (M0 := M1) hC hd hz p1 (by omega) (x2 := y2) ?_ (y4.toInt + 1).toNat M1 y3 y4 _ (by omega) (by omega) (by omega) gs gx ⟨hb_fr_r, fun _ _ => rfl, hb_same_r⟩ rfl hw5
  intro M2 y3' y4' o5 a1 a2 a3 a4 a5 a6 a7
  have hz2 : y2 = 0 := by rw [he_eqi, he_0]; omega
  have hpc : hf_pc y2 = 0 := by rw [hz2]; decide
  refine hf_m (M0 := M) hC hd hz ?_ 24 M2 y2 y3' _ _ (by omega) (by omega) (by omega) (by omega) (by omega) (by omega) a1 a2 (hf_Rt (hf_Rb (q' := hf_a_q) (by decide) rfl gw g8 ge) a3) rfl a7
  intro M3 b1 b2 b3
  exact K M3 b1 b2 b3.1 b3.2.1 b3.2.2
theorem hs_mfindPath (hC : ∀ c ∈ mz_Cs, c.2 < 10 → mz_Ct mz_GG mq_PP HX c.1 c.2) : mz_Ct mz_GG mq_PP HX mz_q174 10 := hc_mfindPath (hs_mfindPath_P hC)
