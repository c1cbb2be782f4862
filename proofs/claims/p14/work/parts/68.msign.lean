/-! sign of the model's inflater. -/
def hm_o_q : mz_Q := (113, [(1, 234), (0, 0), (3, 0), (3, 0), (3, 0), (3, 0), (3, 0)], [], [21, 22], [], [])
def hm_o_s : List mz_Sp2 := [(10, [(1, 234), (0, 0), (0, 0), (0, 0), (0, 0), (0, 0), (3, 0)], [], [(0, [(1, -1), (69, 1)]), (0, [(1, 1), (69, -1)]), (0, [(70, 1)]), (0, [(70, -1)]), (0, [(71, 1)]), (0, [(71, -1)]), (0, [(72, 1)]), (0, [(72, -1)]), (-1, [(73, 1)]), (1, [(73, -1)]), (0, [(28, -1), (75, 1)]), (0, [(28, 1), (75, -1)]), (0, [(29, -1), (76, 1)]), (0, [(29, 1), (76, -1)])])]
def hm_o_h : List mz_H := [(0, 0, []), (0, 0, []), (0, 0, []), (0, 0, []), (0, 0, []), (0, 0, []), (0, 0, []), (0, 0, []), (0, 0, []), (0, 0, []), (0, 0, []), (0, 0, []), (0, 0, []), (0, 0, []), (0, 0, [])]
set_option maxRecDepth 100000 in
theorem hm_o_c : mz_blk mz_GG mq_PP mz_Cs hm_o_q 7 1 0 hm_o_s [] 14 hm_o_h = true := by decide +kernel
theorem hm_o {X : (Nat → mq_C) → Prop} (hX : ∀ M M' : Nat → mq_C, mz_same mz_GG M M' → X M → X M') (hC : ∀ c ∈ mz_Cs, c.2 < 1 → mz_Ct mz_GG mq_PP X c.1 c.2) {d z u : Nat} {M : Nat → mq_C} {Q : (Option Value ⊕ Nat) → mq_S → Prop} {x1 : Int32} {o2 : Option Value} {o3 : Option Value} {o4 : Option Value} {o5 : Option Value} {o6 : Option Value} (hd : 1 ≤ d) (hz : 272 ≤ z) (hm : mz_sh mz_GG M) (hx : X M) (h0 : mq_nl o2 = true) (h1 : mq_nl o3 = true) (h2 : mq_nl o4 = true) (h3 : mq_nl o5 = true) (h4 : mq_nl o6 = true)
    (k0 : ∀ (M' : Nat → mq_C) (y2 : Int32) (y3 : Int32) (y4 : Int32) (y5 : Int32) (w6 : Option Value), mz_sh mz_GG M' → X M' → mz_fr hm_o_q M M' → (∀ a, a < 8 → M' a = M a) → hb_same mz_GG hm_o_q M M' → mq_nl w6 = true → y2.toInt = 0 → y3.toInt = 0 → y4.toInt = 0 → y5.toInt = 1 → hv M' 234 23 = hv M 234 23 → hv M' 234 24 = hv M 234 24 → mq_R mq_PP d 113 10 [some (.ref 234), some (.int x1), some (.int y2), some (.int y3), some (.int y4), some (.int y5), w6] [] (M', z, u) Q) : mq_R mq_PP d 113 0 [some (.ref 234), some (.int x1), o2, o3, o4, o5, o6] [] (M, z, u) Q := by
  refine hb_blk mz_GG mq_PP X (q := hm_o_q) (nl := 7) (M := M) hb_okG hX hC hm_o_c hz hd (L := [some (.ref 234), some (.int x1), o2, o3, o4, o5, o6]) (st := []) (show hb_lk mz_GG ([(1, 234), (0, 0), (3, 0), (3, 0), (3, 0), (3, 0), (3, 0)]) _ from ⟨⟨List.mem_singleton.mpr rfl, rfl⟩, trivial, h0, h1, h2, h3, h4, trivial⟩) (show hb_pk mz_GG ([]) _ from trivial) hm hx ?_ ?_ ?_
  · exact hb_nil
  · intro s hs
    rcases List.mem_cons.mp hs with rfl | hs
    · intro ρ1 L' st' M' g1 g2 gm gr gf gs gx gw g8 ge
      obtain ⟨e0, L1, rfl, n0, gg0⟩ := hb_l1 mz_GG g1
      obtain rfl : e0 = 234 := List.mem_singleton.mp n0
      obtain ⟨y1, L1, rfl, qr69, gg1⟩ := hb_l0 mz_GG gg0
      have r69 : ρ1 69 = y1.toInt := qr69
      obtain ⟨y2, L1, rfl, qr70, gg2⟩ := hb_l0 mz_GG gg1
      have r70 : ρ1 70 = y2.toInt := qr70
      obtain ⟨y3, L1, rfl, qr71, gg3⟩ := hb_l0 mz_GG gg2
      have r71 : ρ1 71 = y3.toInt := qr71
      obtain ⟨y4, L1, rfl, qr72, gg4⟩ := hb_l0 mz_GG gg3
      have r72 : ρ1 72 = y4.toInt := qr72
      obtain ⟨y5, L1, rfl, qr73, gg5⟩ := hb_l0 mz_GG gg4
      have r73 : ρ1 73 = y5.toInt := qr73
      obtain ⟨w6, L1, rfl, n6, gg6⟩ := hb_l3 mz_GG gg5
      obtain rfl := hb_ln mz_GG gg6
      obtain rfl := hb_pn mz_GG g2
      have r1 : ρ1 1 = x1.toInt := gr 1 (by decide +kernel)
      have r28 : ρ1 28 = hv M 234 23 := gr 28 (by decide +kernel)
      have r29 : ρ1 29 = hv M 234 24 := gr 29 (by decide +kernel)
      have r75 : ρ1 75 = hv M' 234 23 := gm 0 21 (234, 23) rfl rfl
      have r76 : ρ1 76 = hv M' 234 24 := gm 1 22 (234, 24) rfl rfl
      obtain ⟨f0, gf⟩ := hb_unc gf
      have f0 : 0 ≤ 0 + ((-1) * ρ1 1 + (1 * ρ1 69 + 0)) := f0
      rw [r1, r69] at f0
      obtain ⟨f1, gf⟩ := hb_unc gf
      have f1 : 0 ≤ 0 + (1 * ρ1 1 + ((-1) * ρ1 69 + 0)) := f1
      rw [r1, r69] at f1
      obtain ⟨f2, gf⟩ := hb_unc gf
      have f2 : 0 ≤ 0 + (1 * ρ1 70 + 0) := f2
      rw [r70] at f2
      obtain ⟨f3, gf⟩ := hb_unc gf
      have f3 : 0 ≤ 0 + ((-1) * ρ1 70 + 0) := f3
      rw [r70] at f3
      obtain ⟨f4, gf⟩ := hb_unc gf
      have f4 : 0 ≤ 0 + (1 * ρ1 71 + 0) := f4
      rw [r71] at f4
      obtain ⟨f5, gf⟩ := hb_unc gf
      have f5 : 0 ≤ 0 + ((-1) * ρ1 71 + 0) := f5
      rw [r71] at f5
      obtain ⟨f6, gf⟩ := hb_unc gf
      have f6 : 0 ≤ 0 + (1 * ρ1 72 + 0) := f6
      rw [r72] at f6
      obtain ⟨f7, gf⟩ := hb_unc gf
      have f7 : 0 ≤ 0 + ((-1) * ρ1 72 + 0) := f7
      rw [r72] at f7
      obtain ⟨f8, gf⟩ := hb_unc gf
      have f8 : 0 ≤ -1 + (1 * ρ1 73 + 0) := f8
      rw [r73] at f8
      obtain ⟨f9, gf⟩ := hb_unc gf
      have f9 : 0 ≤ 1 + ((-1) * ρ1 73 + 0) := f9
      rw [r73] at f9
      obtain ⟨f10, gf⟩ := hb_unc gf
      have f10 : 0 ≤ 0 + ((-1) * ρ1 28 + (1 * ρ1 75 + 0)) := f10
      rw [r28, r75] at f10
      obtain ⟨f11, gf⟩ := hb_unc gf
      have f11 : 0 ≤ 0 + (1 * ρ1 28 + ((-1) * ρ1 75 + 0)) := f11
      rw [r28, r75] at f11
      obtain ⟨f12, gf⟩ := hb_unc gf
      have f12 : 0 ≤ 0 + ((-1) * ρ1 29 + (1 * ρ1 76 + 0)) := f12
      rw [r29, r76] at f12
      obtain ⟨f13, gf⟩ := hb_unc gf
      have f13 : 0 ≤ 0 + (1 * ρ1 29 + ((-1) * ρ1 76 + 0)) := f13
      rw [r29, r76] at f13
      have hy1 : y1 = x1 := hb_inj f0 f1
      subst y1
      exact k0 M' y2 y3 y4 y5 w6 gs gx gw g8 ge n6 (by have h1 := f2; have h2 := f3; omega) (by have h1 := f4; have h2 := f5; omega) (by have h1 := f6; have h2 := f7; omega) (by have h1 := f8; have h2 := f9; omega) (by have h1 := f10; have h2 := f11; omega) (by have h1 := f12; have h2 := f13; omega)
    cases hs
  · intro r S hpo
    obtain ⟨b1, b2, b3, b4, b5, p, hp, res, hf, hre⟩ := hpo
    cases hp

def hm_a_q : mz_Q := (113, [(1, 234), (0, 0), (0, 0), (0, 0), (0, 0), (0, 0), (3, 0)], [(0, [(1, 1)]), (1, [(1, -1)]), (0, [(2, 1)]), (40000, [(2, -1)]), (0, [(3, 1)]), (40000, [(3, -1)]), (-1, [(5, 1)]), (16, [(5, -1)])], [21, 22], [(0, 0, [(1, [(70, 1)]), (-1, [(70, -1)]), (-16, [(5, 1)]), (0, [(28, -1), (68, 1)]), (0, [(28, 1), (68, -1)]), (0, [(29, -1), (69, 1)]), (0, [(29, 1), (69, -1)])]), (0, 0, [(1, [(70, 1)]), (-1, [(70, -1)]), (-1, [(29, 1)]), (1, [(29, -1)]), (0, [(28, -1), (68, 1)]), (0, [(28, 1), (68, -1)]), (0, [(29, -1), (69, 1)]), (0, [(29, 1), (69, -1)])])], [234])
def hm_a_s : List mz_Sp2 := [(48, [(1, 234), (0, 0), (0, 0), (0, 0), (0, 0), (0, 0), (3, 0)], [(0, 0), (1, 255)], [(0, [(1, -1), (69, 1)]), (0, [(1, 1), (69, -1)]), (0, [(3, -2), (71, 1)]), (0, [(3, 2), (71, -1)]), (0, [(4, -1), (72, 1)]), (0, [(4, 1), (72, -1)]), (0, [(5, -1), (73, 1)]), (0, [(5, 1), (73, -1)]), (0, [(1, -16), (5, -1), (75, 1)]), (0, [(1, 16), (5, 1), (75, -1)]), (15, [(5, -1)]), (0, [(29, -1)]), (1920, [(77, -1)]), (0, [(77, 1)]), (1, [(78, -1)]), (0, [(78, 1)]), (0, [(2, -2), (70, 1)]), (1, [(2, 2), (70, -1)]), (0, [(28, -1), (77, 1)]), (0, [(29, -1), (78, 1)]), (-1, [(28, -1), (77, 1), (78, 1)])])]
def hm_a_h : List mz_H := [(0, 0, []), (0, 0, []), (0, 0, []), (0, 0, []), (0, 0, []), (0, 0, [(0, 1)]), (0, 0, []), (0, 0, []), (0, 0, []), (0, 0, []), (3, 0, []), (0, 0, [(63, 1)]), (0, 0, []), (1, 0, []), (0, 0, []), (0, 0, []), (0, 0, [(0, 1)]), (0, 0, [(65, 1)]), (0, 0, []), (0, 0, []), (0, 0, []), (0, 0, []), (0, 0, []), (0, 0, [(5, 2)]), (0, 0, [(6, 2)]), (39, 0, []), (0, 0, []), (0, 0, []), (0, 0, [(4, 1), (16, 2)]), (0, 0, [(3, 1), (17, 2)]), (0, 0, []), (0, 0, [(18, 2)]), (0, 0, [(19, 2)]), (255, 0, []), (0, 0, []), (0, 0, [(14, 16)]), (0, 0, [(15, 16)]), (0, 0, []), (0, 0, [(14, 16), (20, 1)]), (0, 0, [(13, 1), (15, 16)]), (0, 0, []), (0, 0, []), (0, 0, []), (0, 0, []), (0, 0, []), (0, 0, []), (0, 0, []), (0, 0, []), (0, 0, []), (0, 0, []), (0, 0, []), (0, 0, [(13, 1)]), (0, 0, [(11, 1)]), (0, 0, [(10, 1)]), (0, 0, [(9, 1)]), (0, 0, [(8, 1)]), (0, 0, [(7, 1)]), (0, 0, [(4, 1)]), (0, 0, [(3, 1)]), (0, 0, [(2, 1)]), (0, 0, [(1, 1)]), (0, 0, [(0, 1)])]
set_option maxRecDepth 100000 in
theorem hm_a_c : mz_blk mz_GG mq_PP mz_Cs hm_a_q 7 2 10 hm_a_s [] 34 hm_a_h = true := by decide +kernel
theorem hm_a {X : (Nat → mq_C) → Prop} (hX : ∀ M M' : Nat → mq_C, mz_same mz_GG M M' → X M → X M') (hC : ∀ c ∈ mz_Cs, c.2 < 2 → mz_Ct mz_GG mq_PP X c.1 c.2) {d z u : Nat} {M : Nat → mq_C} {Q : (Option Value ⊕ Nat) → mq_S → Prop} {x1 : Int32} {x2 : Int32} {x3 : Int32} {x4 : Int32} {x5 : Int32} {o6 : Option Value} (hd : 2 ≤ d) (hz : 272 ≤ z) (hm : mz_sh mz_GG M) (hx : X M) (h0 : mq_nl o6 = true) (p0 : 0 ≤ x1.toInt) (p1 : 0 ≤ 1 - x1.toInt) (p2 : 0 ≤ x2.toInt) (p3 : 0 ≤ 40000 - x2.toInt) (p4 : 0 ≤ x3.toInt) (p5 : 0 ≤ 40000 - x3.toInt) (p6 : 0 ≤ (-1) + x5.toInt) (p7 : 0 ≤ 16 - x5.toInt)
    (k0 : ∀ (M' : Nat → mq_C) (y2 : Int32) (y3 : Int32) (w6 : Option Value) (y7 : Int32), mz_sh mz_GG M' → X M' → mz_fr hm_a_q M M' → (∀ a, a < 8 → M' a = M a) → hb_same mz_GG hm_a_q M M' → mq_nl w6 = true → y3.toInt = 2 * x3.toInt → y7.toInt = 16 * x1.toInt + x5.toInt → 0 ≤ 15 - x5.toInt → 0 ≤ 0 - hv M 234 24 → 0 ≤ 1920 - hv M' 234 23 → 0 ≤ hv M' 234 23 → 0 ≤ 1 - hv M' 234 24 → 0 ≤ hv M' 234 24 → 0 ≤ 0 - 2 * x2.toInt + y2.toInt → 0 ≤ 1 + 2 * x2.toInt - y2.toInt → 0 ≤ 0 - hv M 234 23 + hv M' 234 23 → 0 ≤ 0 - hv M 234 24 + hv M' 234 24 → 0 ≤ (-1) - hv M 234 23 + hv M' 234 23 + hv M' 234 24 → mq_R mq_PP d 113 48 [some (.ref 234), some (.int x1), some (.int y2), some (.int y3), some (.int x4), some (.int x5), w6] [.int y7, .ref 255] (M', z, u) Q)
    (w0 : ∀ (M' : Nat → mq_C) (r : Int32), mz_sh mz_GG M' → X M' → mz_fr hm_a_q M M' → (∀ a, a < 8 → M' a = M a) → hb_same mz_GG hm_a_q M M' → 0 ≤ 1 + r.toInt → 0 ≤ (-1) - r.toInt → 0 ≤ (-16) + x5.toInt → 0 ≤ 0 - hv M 234 23 + hv M' 234 23 → 0 ≤ hv M 234 23 - hv M' 234 23 → 0 ≤ 0 - hv M 234 24 + hv M' 234 24 → 0 ≤ hv M 234 24 - hv M' 234 24 → Q (.inl (some (.int r))) (M', z, u))
    (w1 : ∀ (M' : Nat → mq_C) (r : Int32), mz_sh mz_GG M' → X M' → mz_fr hm_a_q M M' → (∀ a, a < 8 → M' a = M a) → hb_same mz_GG hm_a_q M M' → 0 ≤ 1 + r.toInt → 0 ≤ (-1) - r.toInt → 0 ≤ (-1) + hv M 234 24 → 0 ≤ 1 - hv M 234 24 → 0 ≤ 0 - hv M 234 23 + hv M' 234 23 → 0 ≤ hv M 234 23 - hv M' 234 23 → 0 ≤ 0 - hv M 234 24 + hv M' 234 24 → 0 ≤ hv M 234 24 - hv M' 234 24 → Q (.inl (some (.int r))) (M', z, u)) : mq_R mq_PP d 113 10 [some (.ref 234), some (.int x1), some (.int x2), some (.int x3), some (.int x4), some (.int x5), o6] [] (M, z, u) Q := by
  refine hb_blk mz_GG mq_PP X (q := hm_a_q) (nl := 7) (M := M) hb_okG hX hC hm_a_c hz hd (L := [some (.ref 234), some (.int x1), some (.int x2), some (.int x3), some (.int x4), some (.int x5), o6]) (st := []) (show hb_lk mz_GG ([(1, 234), (0, 0), (0, 0), (0, 0), (0, 0), (0, 0), (3, 0)]) _ from ⟨⟨List.mem_singleton.mpr rfl, rfl⟩, trivial, trivial, trivial, trivial, trivial, h0, trivial⟩) (show hb_pk mz_GG ([]) _ from trivial) hm hx ?_ ?_ ?_
  · exact hb_cons (show 0 ≤ mz_ev _ _ from (show 0 ≤ 0 + (1 * x1.toInt + 0) by omega)) (hb_cons (show 0 ≤ mz_ev _ _ from (show 0 ≤ 1 + ((-1) * x1.toInt + 0) by omega)) (hb_cons (show 0 ≤ mz_ev _ _ from (show 0 ≤ 0 + (1 * x2.toInt + 0) by omega)) (hb_cons (show 0 ≤ mz_ev _ _ from (show 0 ≤ 40000 + ((-1) * x2.toInt + 0) by omega)) (hb_cons (show 0 ≤ mz_ev _ _ from (show 0 ≤ 0 + (1 * x3.toInt + 0) by omega)) (hb_cons (show 0 ≤ mz_ev _ _ from (show 0 ≤ 40000 + ((-1) * x3.toInt + 0) by omega)) (hb_cons (show 0 ≤ mz_ev _ _ from (show 0 ≤ -1 + (1 * x5.toInt + 0) by omega)) (hb_cons (show 0 ≤ mz_ev _ _ from (show 0 ≤ 16 + ((-1) * x5.toInt + 0) by omega)) (hb_nil))))))))
  · intro s hs
    rcases List.mem_cons.mp hs with rfl | hs
    · intro ρ1 L' st' M' g1 g2 gm gr gf gs gx gw g8 ge
      obtain ⟨e0, L1, rfl, n0, gg0⟩ := hb_l1 mz_GG g1
      obtain rfl : e0 = 234 := List.mem_singleton.mp n0
      obtain ⟨y1, L1, rfl, qr69, gg1⟩ := hb_l0 mz_GG gg0
      have r69 : ρ1 69 = y1.toInt := qr69
      obtain ⟨y2, L1, rfl, qr70, gg2⟩ := hb_l0 mz_GG gg1
      have r70 : ρ1 70 = y2.toInt := qr70
      obtain ⟨y3, L1, rfl, qr71, gg3⟩ := hb_l0 mz_GG gg2
      have r71 : ρ1 71 = y3.toInt := qr71
      obtain ⟨y4, L1, rfl, qr72, gg4⟩ := hb_l0 mz_GG gg3
      have r72 : ρ1 72 = y4.toInt := qr72
      obtain ⟨y5, L1, rfl, qr73, gg5⟩ := hb_l0 mz_GG gg4
      have r73 : ρ1 73 = y5.toInt := qr73
      obtain ⟨w6, L1, rfl, n6, gg6⟩ := hb_l3 mz_GG gg5
      obtain ⟨y7, s1, rfl, qr75, gg7⟩ := hb_p0 mz_GG g2
      have r75 : ρ1 75 = y7.toInt := qr75
      obtain ⟨e8, s1, rfl, n8, gg8⟩ := hb_p1 mz_GG gg7
      obtain rfl : e8 = 255 := List.mem_singleton.mp n8
      obtain rfl := hb_ln mz_GG gg6
      obtain rfl := hb_pn mz_GG gg8
      have r1 : ρ1 1 = x1.toInt := gr 1 (by decide +kernel)
      have r2 : ρ1 2 = x2.toInt := gr 2 (by decide +kernel)
      have r3 : ρ1 3 = x3.toInt := gr 3 (by decide +kernel)
      have r4 : ρ1 4 = x4.toInt := gr 4 (by decide +kernel)
      have r5 : ρ1 5 = x5.toInt := gr 5 (by decide +kernel)
      have r28 : ρ1 28 = hv M 234 23 := gr 28 (by decide +kernel)
      have r29 : ρ1 29 = hv M 234 24 := gr 29 (by decide +kernel)
      have r77 : ρ1 77 = hv M' 234 23 := gm 0 21 (234, 23) rfl rfl
      have r78 : ρ1 78 = hv M' 234 24 := gm 1 22 (234, 24) rfl rfl
      obtain ⟨f0, gf⟩ := hb_unc gf
      have f0 : 0 ≤ 0 + ((-1) * ρ1 1 + (1 * ρ1 69 + 0)) := f0
      rw [r1, r69] at f0
      obtain ⟨f1, gf⟩ := hb_unc gf
      have f1 : 0 ≤ 0 + (1 * ρ1 1 + ((-1) * ρ1 69 + 0)) := f1
      rw [r1, r69] at f1
      obtain ⟨f2, gf⟩ := hb_unc gf
      have f2 : 0 ≤ 0 + ((-2) * ρ1 3 + (1 * ρ1 71 + 0)) := f2
      rw [r3, r71] at f2
      obtain ⟨f3, gf⟩ := hb_unc gf
      have f3 : 0 ≤ 0 + (2 * ρ1 3 + ((-1) * ρ1 71 + 0)) := f3
      rw [r3, r71] at f3
      obtain ⟨f4, gf⟩ := hb_unc gf
      have f4 : 0 ≤ 0 + ((-1) * ρ1 4 + (1 * ρ1 72 + 0)) := f4
      rw [r4, r72] at f4
      obtain ⟨f5, gf⟩ := hb_unc gf
      have f5 : 0 ≤ 0 + (1 * ρ1 4 + ((-1) * ρ1 72 + 0)) := f5
      rw [r4, r72] at f5
      obtain ⟨f6, gf⟩ := hb_unc gf
      have f6 : 0 ≤ 0 + ((-1) * ρ1 5 + (1 * ρ1 73 + 0)) := f6
      rw [r5, r73] at f6
      obtain ⟨f7, gf⟩ := hb_unc gf
      have f7 : 0 ≤ 0 + (1 * ρ1 5 + ((-1) * ρ1 73 + 0)) := f7
      rw [r5, r73] at f7
      obtain ⟨f8, gf⟩ := hb_unc gf
      have f8 : 0 ≤ 0 + ((-16) * ρ1 1 + ((-1) * ρ1 5 + (1 * ρ1 75 + 0))) := f8
      rw [r1, r5, r75] at f8
      obtain ⟨f9, gf⟩ := hb_unc gf
      have f9 : 0 ≤ 0 + (16 * ρ1 1 + (1 * ρ1 5 + ((-1) * ρ1 75 + 0))) := f9
      rw [r1, r5, r75] at f9
      obtain ⟨f10, gf⟩ := hb_unc gf
      have f10 : 0 ≤ 15 + ((-1) * ρ1 5 + 0) := f10
      rw [r5] at f10
      obtain ⟨f11, gf⟩ := hb_unc gf
      have f11 : 0 ≤ 0 + ((-1) * ρ1 29 + 0) := f11
      rw [r29] at f11
      obtain ⟨f12, gf⟩ := hb_unc gf
      have f12 : 0 ≤ 1920 + ((-1) * ρ1 77 + 0) := f12
      rw [r77] at f12
      obtain ⟨f13, gf⟩ := hb_unc gf
      have f13 : 0 ≤ 0 + (1 * ρ1 77 + 0) := f13
      rw [r77] at f13
      obtain ⟨f14, gf⟩ := hb_unc gf
      have f14 : 0 ≤ 1 + ((-1) * ρ1 78 + 0) := f14
      rw [r78] at f14
      obtain ⟨f15, gf⟩ := hb_unc gf
      have f15 : 0 ≤ 0 + (1 * ρ1 78 + 0) := f15
      rw [r78] at f15
      obtain ⟨f16, gf⟩ := hb_unc gf
      have f16 : 0 ≤ 0 + ((-2) * ρ1 2 + (1 * ρ1 70 + 0)) := f16
      rw [r2, r70] at f16
      obtain ⟨f17, gf⟩ := hb_unc gf
      have f17 : 0 ≤ 1 + (2 * ρ1 2 + ((-1) * ρ1 70 + 0)) := f17
      rw [r2, r70] at f17
      obtain ⟨f18, gf⟩ := hb_unc gf
      have f18 : 0 ≤ 0 + ((-1) * ρ1 28 + (1 * ρ1 77 + 0)) := f18
      rw [r28, r77] at f18
      obtain ⟨f19, gf⟩ := hb_unc gf
      have f19 : 0 ≤ 0 + ((-1) * ρ1 29 + (1 * ρ1 78 + 0)) := f19
      rw [r29, r78] at f19
      obtain ⟨f20, gf⟩ := hb_unc gf
      have f20 : 0 ≤ -1 + ((-1) * ρ1 28 + (1 * ρ1 77 + (1 * ρ1 78 + 0))) := f20
      rw [r28, r77, r78] at f20
      have hy1 : y1 = x1 := hb_inj f0 f1
      subst y1
      have hy4 : y4 = x4 := hb_inj f4 f5
      subst y4
      have hy5 : y5 = x5 := hb_inj f6 f7
      subst y5
      exact k0 M' y2 y3 w6 y7 gs gx gw g8 ge n6 (by have h1 := f2; have h2 := f3; omega) (by have h1 := f8; have h2 := f9; omega) (by have h1 := f10; omega) (by have h1 := f11; omega) (by have h1 := f12; omega) (by have h1 := f13; omega) (by have h1 := f14; omega) (by have h1 := f15; omega) (by have h1 := f16; omega) (by have h1 := f17; omega) (by have h1 := f18; omega) (by have h1 := f19; omega) (by have h1 := f20; omega)
    cases hs
  · intro r S hpo
    obtain ⟨b1, b2, b3, b4, b5, p, hp, res, hf, hre⟩ := hpo
    rcases List.mem_cons.mp hp with rfl | hp
    · obtain ⟨x, rfl, hr, hz1, hu1⟩ := mz_re_0 mz_GG hre rfl
      obtain ⟨M', z', u'⟩ := S
      cases hz1
      cases hu1
      have r5 : hb_r1 mz_GG hm_a_q (hb_rb mz_GG hm_a_q 7 [some (.ref 234), some (.int x1), some (.int x2), some (.int x3), some (.int x4), some (.int x5), o6] [] M) M' res 5 = x5.toInt := rfl
      have r28 : hb_r1 mz_GG hm_a_q (hb_rb mz_GG hm_a_q 7 [some (.ref 234), some (.int x1), some (.int x2), some (.int x3), some (.int x4), some (.int x5), o6] [] M) M' res 28 = hv M 234 23 := rfl
      have r29 : hb_r1 mz_GG hm_a_q (hb_rb mz_GG hm_a_q 7 [some (.ref 234), some (.int x1), some (.int x2), some (.int x3), some (.int x4), some (.int x5), o6] [] M) M' res 29 = hv M 234 24 := rfl
      have r68 : hb_r1 mz_GG hm_a_q (hb_rb mz_GG hm_a_q 7 [some (.ref 234), some (.int x1), some (.int x2), some (.int x3), some (.int x4), some (.int x5), o6] [] M) M' res 68 = hv M' 234 23 := rfl
      have r69 : hb_r1 mz_GG hm_a_q (hb_rb mz_GG hm_a_q 7 [some (.ref 234), some (.int x1), some (.int x2), some (.int x3), some (.int x4), some (.int x5), o6] [] M) M' res 69 = hv M' 234 24 := rfl
      have r70 : hb_r1 mz_GG hm_a_q (hb_rb mz_GG hm_a_q 7 [some (.ref 234), some (.int x1), some (.int x2), some (.int x3), some (.int x4), some (.int x5), o6] [] M) M' res 70 = res := rfl
      obtain ⟨f0, hf⟩ := hb_unc hf
      have f0 : 0 ≤ 1 + (1 * res + 0) := f0
      rw [← hr] at f0
      obtain ⟨f1, hf⟩ := hb_unc hf
      have f1 : 0 ≤ -1 + ((-1) * res + 0) := f1
      rw [← hr] at f1
      obtain ⟨f2, hf⟩ := hb_unc hf
      have f2 : 0 ≤ -16 + (1 * x5.toInt + 0) := f2
      obtain ⟨f3, hf⟩ := hb_unc hf
      have f3 : 0 ≤ 0 + ((-1) * hv M 234 23 + (1 * hv M' 234 23 + 0)) := f3
      obtain ⟨f4, hf⟩ := hb_unc hf
      have f4 : 0 ≤ 0 + (1 * hv M 234 23 + ((-1) * hv M' 234 23 + 0)) := f4
      obtain ⟨f5, hf⟩ := hb_unc hf
      have f5 : 0 ≤ 0 + ((-1) * hv M 234 24 + (1 * hv M' 234 24 + 0)) := f5
      obtain ⟨f6, hf⟩ := hb_unc hf
      have f6 : 0 ≤ 0 + (1 * hv M 234 24 + ((-1) * hv M' 234 24 + 0)) := f6
      exact w0 M' x b1 b2 b3 b4 b5 (by have h1 := f0; omega) (by have h1 := f1; omega) (by have h1 := f2; omega) (by have h1 := f3; omega) (by have h1 := f4; omega) (by have h1 := f5; omega) (by have h1 := f6; omega)
    rcases List.mem_cons.mp hp with rfl | hp
    · obtain ⟨x, rfl, hr, hz1, hu1⟩ := mz_re_0 mz_GG hre rfl
      obtain ⟨M', z', u'⟩ := S
      cases hz1
      cases hu1
      have r28 : hb_r1 mz_GG hm_a_q (hb_rb mz_GG hm_a_q 7 [some (.ref 234), some (.int x1), some (.int x2), some (.int x3), some (.int x4), some (.int x5), o6] [] M) M' res 28 = hv M 234 23 := rfl
      have r29 : hb_r1 mz_GG hm_a_q (hb_rb mz_GG hm_a_q 7 [some (.ref 234), some (.int x1), some (.int x2), some (.int x3), some (.int x4), some (.int x5), o6] [] M) M' res 29 = hv M 234 24 := rfl
      have r68 : hb_r1 mz_GG hm_a_q (hb_rb mz_GG hm_a_q 7 [some (.ref 234), some (.int x1), some (.int x2), some (.int x3), some (.int x4), some (.int x5), o6] [] M) M' res 68 = hv M' 234 23 := rfl
      have r69 : hb_r1 mz_GG hm_a_q (hb_rb mz_GG hm_a_q 7 [some (.ref 234), some (.int x1), some (.int x2), some (.int x3), some (.int x4), some (.int x5), o6] [] M) M' res 69 = hv M' 234 24 := rfl
      have r70 : hb_r1 mz_GG hm_a_q (hb_rb mz_GG hm_a_q 7 [some (.ref 234), some (.int x1), some (.int x2), some (.int x3), some (.int x4), some (.int x5), o6] [] M) M' res 70 = res := rfl
      obtain ⟨f0, hf⟩ := hb_unc hf
      have f0 : 0 ≤ 1 + (1 * res + 0) := f0
      rw [← hr] at f0
      obtain ⟨f1, hf⟩ := hb_unc hf
      have f1 : 0 ≤ -1 + ((-1) * res + 0) := f1
      rw [← hr] at f1
      obtain ⟨f2, hf⟩ := hb_unc hf
      have f2 : 0 ≤ -1 + (1 * hv M 234 24 + 0) := f2
      obtain ⟨f3, hf⟩ := hb_unc hf
      have f3 : 0 ≤ 1 + ((-1) * hv M 234 24 + 0) := f3
      obtain ⟨f4, hf⟩ := hb_unc hf
      have f4 : 0 ≤ 0 + ((-1) * hv M 234 23 + (1 * hv M' 234 23 + 0)) := f4
      obtain ⟨f5, hf⟩ := hb_unc hf
      have f5 : 0 ≤ 0 + (1 * hv M 234 23 + ((-1) * hv M' 234 23 + 0)) := f5
      obtain ⟨f6, hf⟩ := hb_unc hf
      have f6 : 0 ≤ 0 + ((-1) * hv M 234 24 + (1 * hv M' 234 24 + 0)) := f6
      obtain ⟨f7, hf⟩ := hb_unc hf
      have f7 : 0 ≤ 0 + (1 * hv M 234 24 + ((-1) * hv M' 234 24 + 0)) := f7
      exact w1 M' x b1 b2 b3 b4 b5 (by have h1 := f0; omega) (by have h1 := f1; omega) (by have h1 := f2; omega) (by have h1 := f3; omega) (by have h1 := f4; omega) (by have h1 := f5; omega) (by have h1 := f6; omega) (by have h1 := f7; omega)
    cases hp

def hm_b_q : mz_Q := (113, [(1, 234), (0, 0), (0, 0), (0, 0), (0, 0), (0, 0), (3, 0), (0, 0)], [(0, [(1, 1)]), (1, [(1, -1)]), (0, [(2, 1)]), (90000, [(2, -1)]), (0, [(3, 1)]), (0, [(2, 1), (3, -1)]), (0, [(4, 1)]), (0, [(7, 1)]), (320, [(4, -1), (7, -1)]), (-1, [(5, 1)]), (15, [(5, -1)])], [21, 22], [(0, 0, [(0, [(71, 1)]), (287, [(71, -1)]), (0, [(29, -1), (69, 1)]), (0, [(29, 1), (69, -1)]), (0, [(30, -1), (70, 1)]), (0, [(30, 1), (70, -1)])])], [])
def hm_b_s : List mz_Sp2 := [(10, [(1, 234), (0, 0), (0, 0), (0, 0), (0, 0), (0, 0), (0, 0)], [], [(0, [(1, -1), (70, 1)]), (0, [(1, 1), (70, -1)]), (0, [(2, -1), (71, 1)]), (0, [(2, 1), (71, -1)]), (0, [(3, -1), (7, -1), (72, 1)]), (0, [(3, 1), (7, 1), (72, -1)]), (0, [(4, -1), (7, -1), (73, 1)]), (0, [(4, 1), (7, 1), (73, -1)]), (-1, [(5, -1), (74, 1)]), (1, [(5, 1), (74, -1)]), (0, [(7, -1), (75, 1)]), (0, [(7, 1), (75, -1)]), (0, [(29, -1), (76, 1)]), (0, [(29, 1), (76, -1)]), (0, [(30, -1), (77, 1)]), (0, [(30, 1), (77, -1)]), (0, [(2, 1), (3, -1), (7, -1)])])]
def hm_b_h : List mz_H := [(0, 0, []), (0, 0, [(5, 1)]), (0, 0, [(3, 1), (4, 1)]), (0, 0, []), (0, 0, []), (0, 0, []), (0, 0, [(7, 1), (8, 1)]), (0, 0, [(9, 1)]), (0, 0, []), (0, 0, [(5, 1), (8, 1)]), (0, 0, [(0, 1), (4, 1)]), (0, 0, []), (0, 0, [(10, 1)]), (0, 0, [(11, 1)]), (0, 0, []), (0, 0, []), (0, 0, []), (0, 0, []), (0, 0, []), (0, 0, []), (0, 0, []), (0, 0, []), (0, 0, []), (0, 0, []), (0, 0, []), (0, 0, []), (0, 0, []), (0, 0, []), (0, 0, []), (0, 0, []), (0, 0, []), (0, 0, [(0, 1)]), (256, 0, []), (0, 0, []), (0, 0, [(1, 320)]), (0, 0, [(2, 320)]), (0, 0, []), (0, 0, [(1, 320), (7, 1)]), (0, 0, [(2, 320), (9, 1), (0, 1), (6, 1)]), (0, 0, []), (0, 0, [(1, 320), (3, 1), (7, 1)]), (0, 0, [(0, 1), (2, 320), (4, 1), (6, 1), (9, 1)]), (0, 0, []), (0, 0, [(1, 320), (6, 1), (7, 1)]), (0, 0, [(0, 1), (2, 320), (9, 1)]), (0, 0, [(1, 320), (6, 1), (7, 1)]), (0, 0, [(0, 1), (2, 320), (9, 1)]), (0, 0, []), (0, 0, [(0, 1)]), (0, 0, [(1, 1)]), (0, 0, []), (0, 0, []), (0, 0, []), (0, 0, [])]
set_option maxRecDepth 100000 in
theorem hm_b_c : mz_blk mz_GG mq_PP mz_Cs hm_b_q 7 1 49 hm_b_s [] 35 hm_b_h = true := by decide +kernel
theorem hm_b {X : (Nat → mq_C) → Prop} (hX : ∀ M M' : Nat → mq_C, mz_same mz_GG M M' → X M → X M') (hC : ∀ c ∈ mz_Cs, c.2 < 1 → mz_Ct mz_GG mq_PP X c.1 c.2) {d z u : Nat} {M : Nat → mq_C} {Q : (Option Value ⊕ Nat) → mq_S → Prop} {x1 : Int32} {x2 : Int32} {x3 : Int32} {x4 : Int32} {x5 : Int32} {o6 : Option Value} {x7 : Int32} (hd : 1 ≤ d) (hz : 272 ≤ z) (hm : mz_sh mz_GG M) (hx : X M) (h0 : mq_nl o6 = true) (p0 : 0 ≤ x1.toInt) (p1 : 0 ≤ 1 - x1.toInt) (p2 : 0 ≤ x2.toInt) (p3 : 0 ≤ 90000 - x2.toInt) (p4 : 0 ≤ x3.toInt) (p5 : 0 ≤ x2.toInt - x3.toInt) (p6 : 0 ≤ x4.toInt) (p7 : 0 ≤ x7.toInt) (p8 : 0 ≤ 320 - x4.toInt - x7.toInt) (p9 : 0 ≤ (-1) + x5.toInt) (p10 : 0 ≤ 15 - x5.toInt)
    (k0 : ∀ (M' : Nat → mq_C) (y3 : Int32) (y4 : Int32) (y5 : Int32), mz_sh mz_GG M' → X M' → mz_fr hm_b_q M M' → (∀ a, a < 8 → M' a = M a) → hb_same mz_GG hm_b_q M M' → y3.toInt = x3.toInt + x7.toInt → y4.toInt = x4.toInt + x7.toInt → y5.toInt = 1 + x5.toInt → hv M' 234 23 = hv M 234 23 → hv M' 234 24 = hv M 234 24 → 0 ≤ x2.toInt - x3.toInt - x7.toInt → mq_R mq_PP d 113 10 [some (.ref 234), some (.int x1), some (.int x2), some (.int y3), some (.int y4), some (.int y5), some (.int x7)] [] (M', z, u) Q)
    (w0 : ∀ (M' : Nat → mq_C) (r : Int32), mz_sh mz_GG M' → X M' → mz_fr hm_b_q M M' → (∀ a, a < 8 → M' a = M a) → hb_same mz_GG hm_b_q M M' → 0 ≤ r.toInt → 0 ≤ 287 - r.toInt → 0 ≤ 0 - hv M 234 23 + hv M' 234 23 → 0 ≤ hv M 234 23 - hv M' 234 23 → 0 ≤ 0 - hv M 234 24 + hv M' 234 24 → 0 ≤ hv M 234 24 - hv M' 234 24 → Q (.inl (some (.int r))) (M', z, u)) : mq_R mq_PP d 113 49 [some (.ref 234), some (.int x1), some (.int x2), some (.int x3), some (.int x4), some (.int x5), o6] [.int x7] (M, z, u) Q := by
  refine hb_blk mz_GG mq_PP X (q := hm_b_q) (nl := 7) (M := M) hb_okG hX hC hm_b_c hz hd (L := [some (.ref 234), some (.int x1), some (.int x2), some (.int x3), some (.int x4), some (.int x5), o6]) (st := [.int x7]) (show hb_lk mz_GG ([(1, 234), (0, 0), (0, 0), (0, 0), (0, 0), (0, 0), (3, 0)]) _ from ⟨⟨List.mem_singleton.mpr rfl, rfl⟩, trivial, trivial, trivial, trivial, trivial, h0, trivial⟩) (show hb_pk mz_GG ([(0, 0)]) _ from ⟨trivial, trivial⟩) hm hx ?_ ?_ ?_
  · exact hb_cons (show 0 ≤ mz_ev _ _ from (show 0 ≤ 0 + (1 * x1.toInt + 0) by omega)) (hb_cons (show 0 ≤ mz_ev _ _ from (show 0 ≤ 1 + ((-1) * x1.toInt + 0) by omega)) (hb_cons (show 0 ≤ mz_ev _ _ from (show 0 ≤ 0 + (1 * x2.toInt + 0) by omega)) (hb_cons (show 0 ≤ mz_ev _ _ from (show 0 ≤ 90000 + ((-1) * x2.toInt + 0) by omega)) (hb_cons (show 0 ≤ mz_ev _ _ from (show 0 ≤ 0 + (1 * x3.toInt + 0) by omega)) (hb_cons (show 0 ≤ mz_ev _ _ from (show 0 ≤ 0 + (1 * x2.toInt + ((-1) * x3.toInt + 0)) by omega)) (hb_cons (show 0 ≤ mz_ev _ _ from (show 0 ≤ 0 + (1 * x4.toInt + 0) by omega)) (hb_cons (show 0 ≤ mz_ev _ _ from (show 0 ≤ 0 + (1 * x7.toInt + 0) by omega)) (hb_cons (show 0 ≤ mz_ev _ _ from (show 0 ≤ 320 + ((-1) * x4.toInt + ((-1) * x7.toInt + 0)) by omega)) (hb_cons (show 0 ≤ mz_ev _ _ from (show 0 ≤ -1 + (1 * x5.toInt + 0) by omega)) (hb_cons (show 0 ≤ mz_ev _ _ from (show 0 ≤ 15 + ((-1) * x5.toInt + 0) by omega)) (hb_nil)))))))))))
  · intro s hs
    rcases List.mem_cons.mp hs with rfl | hs
    · intro ρ1 L' st' M' g1 g2 gm gr gf gs gx gw g8 ge
      obtain ⟨e0, L1, rfl, n0, gg0⟩ := hb_l1 mz_GG g1
      obtain rfl : e0 = 234 := List.mem_singleton.mp n0
      obtain ⟨y1, L1, rfl, qr70, gg1⟩ := hb_l0 mz_GG gg0
      have r70 : ρ1 70 = y1.toInt := qr70
      obtain ⟨y2, L1, rfl, qr71, gg2⟩ := hb_l0 mz_GG gg1
      have r71 : ρ1 71 = y2.toInt := qr71
      obtain ⟨y3, L1, rfl, qr72, gg3⟩ := hb_l0 mz_GG gg2
      have r72 : ρ1 72 = y3.toInt := qr72
      obtain ⟨y4, L1, rfl, qr73, gg4⟩ := hb_l0 mz_GG gg3
      have r73 : ρ1 73 = y4.toInt := qr73
      obtain ⟨y5, L1, rfl, qr74, gg5⟩ := hb_l0 mz_GG gg4
      have r74 : ρ1 74 = y5.toInt := qr74
      obtain ⟨y6, L1, rfl, qr75, gg6⟩ := hb_l0 mz_GG gg5
      have r75 : ρ1 75 = y6.toInt := qr75
      obtain rfl := hb_ln mz_GG gg6
      obtain rfl := hb_pn mz_GG g2
      have r1 : ρ1 1 = x1.toInt := gr 1 (by decide +kernel)
      have r2 : ρ1 2 = x2.toInt := gr 2 (by decide +kernel)
      have r3 : ρ1 3 = x3.toInt := gr 3 (by decide +kernel)
      have r4 : ρ1 4 = x4.toInt := gr 4 (by decide +kernel)
      have r5 : ρ1 5 = x5.toInt := gr 5 (by decide +kernel)
      have r7 : ρ1 7 = x7.toInt := gr 7 (by decide +kernel)
      have r29 : ρ1 29 = hv M 234 23 := gr 29 (by decide +kernel)
      have r30 : ρ1 30 = hv M 234 24 := gr 30 (by decide +kernel)
      have r76 : ρ1 76 = hv M' 234 23 := gm 0 21 (234, 23) rfl rfl
      have r77 : ρ1 77 = hv M' 234 24 := gm 1 22 (234, 24) rfl rfl
      obtain ⟨f0, gf⟩ := hb_unc gf
      have f0 : 0 ≤ 0 + ((-1) * ρ1 1 + (1 * ρ1 70 + 0)) := f0
      rw [r1, r70] at f0
      obtain ⟨f1, gf⟩ := hb_unc gf
      have f1 : 0 ≤ 0 + (1 * ρ1 1 + ((-1) * ρ1 70 + 0)) := f1
      rw [r1, r70] at f1
      obtain ⟨f2, gf⟩ := hb_unc gf
      have f2 : 0 ≤ 0 + ((-1) * ρ1 2 + (1 * ρ1 71 + 0)) := f2
      rw [r2, r71] at f2
      obtain ⟨f3, gf⟩ := hb_unc gf
      have f3 : 0 ≤ 0 + (1 * ρ1 2 + ((-1) * ρ1 71 + 0)) := f3
      rw [r2, r71] at f3
      obtain ⟨f4, gf⟩ := hb_unc gf
      have f4 : 0 ≤ 0 + ((-1) * ρ1 3 + ((-1) * ρ1 7 + (1 * ρ1 72 + 0))) := f4
      rw [r3, r7, r72] at f4
      obtain ⟨f5, gf⟩ := hb_unc gf
      have f5 : 0 ≤ 0 + (1 * ρ1 3 + (1 * ρ1 7 + ((-1) * ρ1 72 + 0))) := f5
      rw [r3, r7, r72] at f5
      obtain ⟨f6, gf⟩ := hb_unc gf
      have f6 : 0 ≤ 0 + ((-1) * ρ1 4 + ((-1) * ρ1 7 + (1 * ρ1 73 + 0))) := f6
      rw [r4, r7, r73] at f6
      obtain ⟨f7, gf⟩ := hb_unc gf
      have f7 : 0 ≤ 0 + (1 * ρ1 4 + (1 * ρ1 7 + ((-1) * ρ1 73 + 0))) := f7
      rw [r4, r7, r73] at f7
      obtain ⟨f8, gf⟩ := hb_unc gf
      have f8 : 0 ≤ -1 + ((-1) * ρ1 5 + (1 * ρ1 74 + 0)) := f8
      rw [r5, r74] at f8
      obtain ⟨f9, gf⟩ := hb_unc gf
      have f9 : 0 ≤ 1 + (1 * ρ1 5 + ((-1) * ρ1 74 + 0)) := f9
      rw [r5, r74] at f9
      obtain ⟨f10, gf⟩ := hb_unc gf
      have f10 : 0 ≤ 0 + ((-1) * ρ1 7 + (1 * ρ1 75 + 0)) := f10
      rw [r7, r75] at f10
      obtain ⟨f11, gf⟩ := hb_unc gf
      have f11 : 0 ≤ 0 + (1 * ρ1 7 + ((-1) * ρ1 75 + 0)) := f11
      rw [r7, r75] at f11
      obtain ⟨f12, gf⟩ := hb_unc gf
      have f12 : 0 ≤ 0 + ((-1) * ρ1 29 + (1 * ρ1 76 + 0)) := f12
      rw [r29, r76] at f12
      obtain ⟨f13, gf⟩ := hb_unc gf
      have f13 : 0 ≤ 0 + (1 * ρ1 29 + ((-1) * ρ1 76 + 0)) := f13
      rw [r29, r76] at f13
      obtain ⟨f14, gf⟩ := hb_unc gf
      have f14 : 0 ≤ 0 + ((-1) * ρ1 30 + (1 * ρ1 77 + 0)) := f14
      rw [r30, r77] at f14
      obtain ⟨f15, gf⟩ := hb_unc gf
      have f15 : 0 ≤ 0 + (1 * ρ1 30 + ((-1) * ρ1 77 + 0)) := f15
      rw [r30, r77] at f15
      obtain ⟨f16, gf⟩ := hb_unc gf
      have f16 : 0 ≤ 0 + (1 * ρ1 2 + ((-1) * ρ1 3 + ((-1) * ρ1 7 + 0))) := f16
      rw [r2, r3, r7] at f16
      have hy1 : y1 = x1 := hb_inj f0 f1
      subst y1
      have hy2 : y2 = x2 := hb_inj f2 f3
      subst y2
      have hy6 : y6 = x7 := hb_inj f10 f11
      subst y6
      exact k0 M' y3 y4 y5 gs gx gw g8 ge  (by have h1 := f4; have h2 := f5; omega) (by have h1 := f6; have h2 := f7; omega) (by have h1 := f8; have h2 := f9; omega) (by have h1 := f12; have h2 := f13; omega) (by have h1 := f14; have h2 := f15; omega) (by have h1 := f16; omega)
    cases hs
  · intro r S hpo
    obtain ⟨b1, b2, b3, b4, b5, p, hp, res, hf, hre⟩ := hpo
    rcases List.mem_cons.mp hp with rfl | hp
    · obtain ⟨x, rfl, hr, hz1, hu1⟩ := mz_re_0 mz_GG hre rfl
      obtain ⟨M', z', u'⟩ := S
      cases hz1
      cases hu1
      have r29 : hb_r1 mz_GG hm_b_q (hb_rb mz_GG hm_b_q 7 [some (.ref 234), some (.int x1), some (.int x2), some (.int x3), some (.int x4), some (.int x5), o6] [.int x7] M) M' res 29 = hv M 234 23 := rfl
      have r30 : hb_r1 mz_GG hm_b_q (hb_rb mz_GG hm_b_q 7 [some (.ref 234), some (.int x1), some (.int x2), some (.int x3), some (.int x4), some (.int x5), o6] [.int x7] M) M' res 30 = hv M 234 24 := rfl
      have r69 : hb_r1 mz_GG hm_b_q (hb_rb mz_GG hm_b_q 7 [some (.ref 234), some (.int x1), some (.int x2), some (.int x3), some (.int x4), some (.int x5), o6] [.int x7] M) M' res 69 = hv M' 234 23 := rfl
      have r70 : hb_r1 mz_GG hm_b_q (hb_rb mz_GG hm_b_q 7 [some (.ref 234), some (.int x1), some (.int x2), some (.int x3), some (.int x4), some (.int x5), o6] [.int x7] M) M' res 70 = hv M' 234 24 := rfl
      have r71 : hb_r1 mz_GG hm_b_q (hb_rb mz_GG hm_b_q 7 [some (.ref 234), some (.int x1), some (.int x2), some (.int x3), some (.int x4), some (.int x5), o6] [.int x7] M) M' res 71 = res := rfl
      obtain ⟨f0, hf⟩ := hb_unc hf
      have f0 : 0 ≤ 0 + (1 * res + 0) := f0
      rw [← hr] at f0
      obtain ⟨f1, hf⟩ := hb_unc hf
      have f1 : 0 ≤ 287 + ((-1) * res + 0) := f1
      rw [← hr] at f1
      obtain ⟨f2, hf⟩ := hb_unc hf
      have f2 : 0 ≤ 0 + ((-1) * hv M 234 23 + (1 * hv M' 234 23 + 0)) := f2
      obtain ⟨f3, hf⟩ := hb_unc hf
      have f3 : 0 ≤ 0 + (1 * hv M 234 23 + ((-1) * hv M' 234 23 + 0)) := f3
      obtain ⟨f4, hf⟩ := hb_unc hf
      have f4 : 0 ≤ 0 + ((-1) * hv M 234 24 + (1 * hv M' 234 24 + 0)) := f4
      obtain ⟨f5, hf⟩ := hb_unc hf
      have f5 : 0 ≤ 0 + (1 * hv M 234 24 + ((-1) * hv M' 234 24 + 0)) := f5
      exact w0 M' x b1 b2 b3 b4 b5 (by have h1 := f0; omega) (by have h1 := f1; omega) (by have h1 := f2; omega) (by have h1 := f3; omega) (by have h1 := f4; omega) (by have h1 := f5; omega)
    cases hp

theorem hm_l {d z u : Nat} {Q : (Option Value ⊕ Nat) → mq_S → Prop} {M0 : Nat → mq_C} {x1 : Int32} (hC : ∀ c ∈ mz_Cs, c.2 < 2 → mz_Ct mz_GG mq_PP HX c.1 c.2) (hd : 2 ≤ d) (hz : 272 ≤ z) (p1 : 0 ≤ x1.toInt) (p2 : x1.toInt ≤ 1)
    (hQ : ∀ (M' : Nat → mq_C) (r : Int32), mz_sh mz_GG M' → HX M' → mz_fr mz_q58 M0 M' → (∀ a, a < 8 → M' a = M0 a) → hb_same mz_GG mz_q58 M0 M' → 0 ≤ 1 + r.toInt → 0 ≤ 287 - r.toInt → 0 ≤ 0 - hv M0 234 23 + hv M' 234 23 → 0 ≤ 0 - hv M0 234 24 + hv M' 234 24 → 0 ≤ (-1) - hv M0 234 23 + hv M' 234 23 + hv M' 234 24 → Q (.inl (some (.int r))) (M', z, u)) :
    ∀ (m : Nat) (M : Nat → mq_C) (x2 x3 x4 x5 : Int32) (o6 : Option Value), (m : Int) + x5.toInt = 16 → 1 ≤ x5.toInt → mz_sh mz_GG M → HX M → mz_fr mz_q58 M0 M → (∀ a, a < 8 → M a = M0 a) → hb_same mz_GG mz_q58 M0 M → hv M0 234 23 ≤ hv M 234 23 → hv M0 234 24 ≤ hv M 234 24 → (x5.toInt = 1 ∨ hv M0 234 23 + 1 ≤ hv M 234 23 + hv M 234 24) → mq_nl o6 = true → 0 ≤ x3.toInt → x3.toInt ≤ x2.toInt → x2.toInt + 1 ≤ ((2 ^ (x5.toInt.toNat - 1) : Nat) : Int) → x4.toInt = hb_sum (fun b => hv M 255 (16 * x1.toInt.toNat + (b + 1))) (x5.toInt.toNat - 1) → mq_R mq_PP d 113 10 [some (.ref 234), some (.int x1), some (.int x2), some (.int x3), some (.int x4), some (.int x5), o6] [] (M, z, u) Q := by
  intro m
  induction m with
  | zero =>
    intro M x2 x3 x4 x5 o6 e1 e2 hm hx hf h8 he a1 a2 a3 ho b1 b2 b3 b4
    have hpw : 2 ^ (x5.toInt.toNat - 1) ≤ 2 ^ 15 := Nat.pow_le_pow_right (by omega) (by omega)
    refine hm_a HX_same hC hd hz hm hx ho (by omega) (by omega) (by omega) (by omega) (by omega) (by omega) (by omega) (by omega) ?_ ?_ ?_
    · intros
      omega
    · intro M' r gs gx gw g8 ge f1 f2 f3 f4 f5 f6 f7
      have q1 : 0 ≤ 0 - hv M 234 23 + hv M' 234 23 := f4
      have q2 : 0 ≤ 0 - hv M 234 24 + hv M' 234 24 := f6
      exact hQ M' r gs gx (hb_fr_t (q' := hm_a_q) (fun a ha => ha) hf gw) (fun a ha => (g8 a ha).trans (h8 a ha)) (hb_same_t (q' := hm_a_q) (fun j hj => hj) he ge) (by omega) (by omega) (by omega) (by omega) (by omega)
    · intro M' r gs gx gw g8 ge f1 f2 f3 f4 f5 f6 f7 f8
      have q0 : 0 ≤ (-1) + hv M 234 24 := f3
      have q1 : 0 ≤ 0 - hv M 234 23 + hv M' 234 23 := f5
      have q2 : 0 ≤ 0 - hv M 234 24 + hv M' 234 24 := f7
      exact hQ M' r gs gx (hb_fr_t (q' := hm_a_q) (fun a ha => ha) hf gw) (fun a ha => (g8 a ha).trans (h8 a ha)) (hb_same_t (q' := hm_a_q) (fun j hj => hj) he ge) (by omega) (by omega) (by omega) (by omega) (by omega)
  | succ m ih =>
    intro M x2 x3 x4 x5 o6 e1 e2 hm hx hf h8 he a1 a2 a3 ho b1 b2 b3 b4
    have hpw : 2 ^ (x5.toInt.toNat - 1) ≤ 2 ^ 14 := Nat.pow_le_pow_right (by omega) (by omega)
    refine hm_a HX_same hC hd hz hm hx ho (by omega) (by omega) (by omega) (by omega) (by omega) (by omega) (by omega) (by omega) ?_ ?_ ?_
    · intro M' y2 y3 w6 y7 gs gx gw g8 ge hw
      intros
      have hf' : mz_fr mz_q58 M0 M' := hb_fr_t (q' := hm_a_q) (fun a ha => ha) hf gw
      have he' : hb_same mz_GG mz_q58 M0 M' := hb_same_t (q' := hm_a_q) (fun j hj => hj) he ge
      have h8' : ∀ a, a < 8 → M' a = M0 a := fun a ha => (g8 a ha).trans (h8 a ha)
      have hcell : ∀ i, hv M' 255 i = hv M 255 i := hb_vc (gw _ (by decide) rfl)
      have hnn : ∀ i, i < 15 → 0 ≤ hv M' 255 (16 * x1.toInt.toNat + (i + 1)) := fun i hi => (hb_rg gs rfl (show 16 * x1.toInt.toNat + (i + 1) < 32 by omega) hb_at1).1
      have hX1 : hb_sum (fun b => hv M' 255 (16 * x1.toInt.toNat + (b + 1))) 15 ≤ 320 := by
        by_cases h0 : x1.toInt = 0
        · rw [show x1.toInt.toNat = 0 by omega]
          exact gx 14
        · rw [show x1.toInt.toNat = 1 by omega]
          exact gx 15
      have b4' : x4.toInt = hb_sum (fun b => hv M' 255 (16 * x1.toInt.toNat + (b + 1))) (x5.toInt.toNat - 1) := by
        rw [b4]
        exact hb_sum_c _ (fun i _ => (hcell _).symm)
      refine hb_ld (n := 49) (kind := 64) gs (by decide +kernel) rfl rfl (.inl rfl) (by omega) (show _ < (32 : Int) by omega) hb_at1 ?_
      intro v hv1 hv2 hv3
      have hidx : y7.toInt.toNat = 16 * x1.toInt.toNat + x5.toInt.toNat := by omega
      rw [hidx] at hv1
      have hsum : hb_sum (fun b => hv M' 255 (16 * x1.toInt.toNat + (b + 1))) x5.toInt.toNat = x4.toInt + v.toInt := by
        obtain ⟨t, ht⟩ : ∃ t, x5.toInt.toNat = t + 1 := ⟨x5.toInt.toNat - 1, by omega⟩
        rw [b4', ← hv1, ht]
        rfl
      have hle := hb_sum_m (f := (fun b => hv M' 255 (16 * x1.toInt.toNat + (b + 1)))) (m := x5.toInt.toNat) 15 (by omega) hnn
      have hx40 := hb_sum_0 (f := (fun b => hv M' 255 (16 * x1.toInt.toNat + (b + 1)))) (x5.toInt.toNat - 1) (fun i hi => hnn i (by omega))
      refine hm_b HX_same hb_C1 (by omega) hz gs gx hw (by omega) (by omega) (by omega) (by omega) (by omega) (by omega) (by omega) (by omega) (by omega) (by omega) (by omega) ?_ ?_
      · intro M2 y3' y4 y5 k1 k2 k3 k4 k5 l1 l2 l3 l4 l5 l6
        have q3 : hv M2 234 23 = hv M' 234 23 := l4
        have q5 : hv M2 234 24 = hv M' 234 24 := l5
        have hc2 : ∀ i, hv M2 255 i = hv M' 255 i := hb_vc (k3 _ (by decide) rfl)
        refine ih M2 y2 y3' y4 y5 (some (.int v)) (by omega) (by omega) k1 k2 (hb_fr_t (q' := hm_b_q) (fun a ha => rfl) hf' k3) (fun a ha => (k4 a ha).trans (h8' a ha)) (hb_same_t (q' := hm_b_q) (fun j hj => hj) he' k5) (by omega) (by omega) (by omega) rfl (by omega) (by omega) ?_ ?_
        · have e9 : y5.toInt.toNat - 1 = x5.toInt.toNat - 1 + 1 := by omega
          rw [e9, Nat.pow_succ]
          omega
        · have e9 : y5.toInt.toNat - 1 = x5.toInt.toNat := by omega
          rw [e9, hb_sum_c _ (fun i _ => hc2 _), hsum]
          exact l2
      · intro M2 r k1 k2 k3 k4 k5 l1 l2 l3 l4 l5 l6
        have q1 : 0 ≤ 0 - hv M' 234 23 + hv M2 234 23 := l3
        have q3 : 0 ≤ 0 - hv M' 234 24 + hv M2 234 24 := l5
        exact hQ M2 r k1 k2 (hb_fr_t (q' := hm_b_q) (fun a ha => rfl) hf' k3) (fun a ha => (k4 a ha).trans (h8' a ha)) (hb_same_t (q' := hm_b_q) (fun j hj => hj) he' k5) (by omega) (by omega) (by omega) (by omega) (by omega)
    · intro M' r gs gx gw g8 ge f1 f2 f3 f4 f5 f6 f7
      omega
    · intro M' r gs gx gw g8 ge f1 f2 f3 f4 f5 f6 f7 f8
      have q0 : 0 ≤ (-1) + hv M 234 24 := f3
      have q1 : 0 ≤ 0 - hv M 234 23 + hv M' 234 23 := f5
      have q2 : 0 ≤ 0 - hv M 234 24 + hv M' 234 24 := f7
      exact hQ M' r gs gx (hb_fr_t (q' := hm_a_q) (fun a ha => ha) hf gw) (fun a ha => (g8 a ha).trans (h8 a ha)) (hb_same_t (q' := hm_a_q) (fun j hj => hj) he ge) (by omega) (by omega) (by omega) (by omega) (by omega)
theorem hs_msign_P (hC : ∀ c ∈ mz_Cs, c.2 < 2 → mz_Ct mz_GG mq_PP HX c.1 c.2) : hc_msign_P := by
  intro d z u M Q x1 hd hz hm hx p1 p2 K
  refine hm_o HX_same hb_C1 (by omega) hz hm hx rfl rfl rfl rfl rfl ?_
  intro M' y2 y3 y4 y5 w6 gs gx gw g8 ge hw f2 f3 f4 f5 f6 f7
  have q1 : hv M' 234 23 = hv M 234 23 := f6
  have q2 : hv M' 234 24 = hv M 234 24 := f7
  refine hm_l (M0 := M) hC hd hz p1 (by omega) K 15 M' y2 y3 y4 y5 w6 (by omega) (by omega) gs gx (hb_fr_t (q' := hm_o_q) (fun a ha => rfl) hb_fr_r gw) g8 (hb_same_t (q' := hm_o_q) (fun j hj => hj) hb_same_r ge) (by omega) (by omega) (.inl (by omega)) hw (by omega) (by omega) ?_ ?_
  · rw [show y5.toInt.toNat - 1 = 0 by omega]
    omega
  · rw [show y5.toInt.toNat - 1 = 0 by omega]
    exact f4
theorem hs_msign (hC : ∀ c ∈ mz_Cs, c.2 < 2 → mz_Ct mz_GG mq_PP HX c.1 c.2) : mz_Ct mz_GG mq_PP HX mz_q58 2 := hc_msign (hs_msign_P hC)
