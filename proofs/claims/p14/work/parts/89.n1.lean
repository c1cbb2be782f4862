/-! enter of the model. -/
theorem hu_msum {X : (Nat → mq_C) → Prop} (hq : mz_Ct mz_GG mq_PP X mz_q66 1) {d z u : Nat} {M : Nat → mq_C} {Q : (Option Value ⊕ Nat) → mq_S → Prop}  (hd : 1 ≤ d) (hz : 272 ≤ z) (hm : mz_sh mz_GG M) (hx : X M)
    (w0 : ∀ (M' : Nat → mq_C) (r : Int32), mz_sh mz_GG M' → X M' → mz_fr mz_q66 M M' → (∀ a, a < 8 → M' a = M a) → hb_same mz_GG mz_q66 M M' → Q (.inl (some (.int r))) (M', z, u)) : mq_R mq_PP d 121 0 [some (.ref 234), none, none, none] [] (M, z, u) Q := by
  refine hb_use mz_GG mq_PP X (q := mz_q66) (vs := [.ref 234]) hq (by decide +kernel) hd (show hb_pk mz_GG [(1, 234)] _ from ⟨⟨List.mem_singleton.mpr rfl, rfl⟩, trivial⟩) hm hx hz ?_ ?_
  · exact hb_nil
  · intro r S hpo
    obtain ⟨b1, b2, b3, b4, b5, p, hp, res, hf, hre⟩ := hpo
    rcases List.mem_cons.mp hp with rfl | hp
    · obtain ⟨x, rfl, hr, hz1, hu1⟩ := mz_re_0 mz_GG hre rfl
      obtain ⟨M', z', u'⟩ := S
      cases hz1
      cases hu1
      exact w0 M' x b1 b2 b3 b4 b5 
    cases hp
def hn_b1_q : mz_Q := (124, [(1, 234), (0, 0), (0, 0), (0, 0), (0, 0), (3, 0), (3, 0)], [], [20, 21, 22, 23], [], [234])
def hn_b1_s : List mz_Sp2 := [(110, [(1, 234), (0, 0), (0, 0), (0, 0), (0, 0), (3, 0), (3, 0)], [], [(0, [(1, -1), (69, 1)]), (0, [(1, 1), (69, -1)]), (0, [(2, -1), (70, 1)]), (0, [(2, 1), (70, -1)]), (0, [(3, -1), (71, 1)]), (0, [(3, 1), (71, -1)]), (0, [(72, 1)]), (0, [(72, -1)]), (0, [(24, -1), (75, 1)]), (0, [(24, 1), (75, -1)]), (0, [(28, -1), (76, 1)]), (0, [(28, 1), (76, -1)]), (0, [(29, -1), (77, 1)]), (0, [(29, 1), (77, -1)]), (0, [(30, -1), (78, 1)]), (0, [(30, 1), (78, -1)])])]
def hn_b1_h : List mz_H := [(0, 0, [(42, 1)]), (0, 0, [(43, 1)]), (0, 0, []), (0, 0, []), (0, 0, []), (0, 0, []), (0, 0, []), (0, 0, []), (0, 0, []), (0, 0, []), (0, 0, []), (0, 0, []), (0, 0, []), (0, 0, []), (0, 0, []), (0, 0, []), (0, 0, []), (0, 0, []), (0, 0, [])]
set_option maxRecDepth 100000 in
theorem hn_b1_c : mz_blk mz_GG mq_PP mz_Cs hn_b1_q 7 1 99 hn_b1_s [] 12 hn_b1_h = true := by decide +kernel
theorem hn_b1 {X : (Nat → mq_C) → Prop} (hX : ∀ M M' : Nat → mq_C, mz_same mz_GG M M' → X M → X M') (hC : ∀ c ∈ mz_Cs, c.2 < 1 → mz_Ct mz_GG mq_PP X c.1 c.2) {d z u : Nat} {M : Nat → mq_C} {Q : (Option Value ⊕ Nat) → mq_S → Prop} {x1 : Int32} {x2 : Int32} {x3 : Int32} {x4 : Int32} {o5 : Option Value} {o6 : Option Value} (hd : 1 ≤ d) (hz : 272 ≤ z) (hm : mz_sh mz_GG M) (hx : X M) (h0 : mq_nl o5 = true) (h1 : mq_nl o6 = true)
    (k0 : ∀ (M' : Nat → mq_C) (y4 : Int32) (w5 : Option Value) (w6 : Option Value), mz_sh mz_GG M' → X M' → mz_fr hn_b1_q M M' → (∀ a, a < 8 → M' a = M a) → hb_same mz_GG hn_b1_q M M' → mq_nl w5 = true → mq_nl w6 = true → y4.toInt = 0 → hv M' 234 21 = hv M 234 15 → hv M' 234 23 = hv M 234 23 → hv M' 234 24 = hv M 234 24 → hv M' 234 25 = hv M 234 25 → mq_R mq_PP d 124 110 [some (.ref 234), some (.int x1), some (.int x2), some (.int x3), some (.int y4), w5, w6] [] (M', z, u) Q) : mq_R mq_PP d 124 99 [some (.ref 234), some (.int x1), some (.int x2), some (.int x3), some (.int x4), o5, o6] [] (M, z, u) Q := by
  refine hb_blk mz_GG mq_PP X (q := hn_b1_q) (nl := 7) (M := M) hb_okG hX hC hn_b1_c hz hd (L := [some (.ref 234), some (.int x1), some (.int x2), some (.int x3), some (.int x4), o5, o6]) (st := []) (show hb_lk mz_GG ([(1, 234), (0, 0), (0, 0), (0, 0), (0, 0), (3, 0), (3, 0)]) _ from ⟨⟨List.mem_singleton.mpr rfl, rfl⟩, trivial, trivial, trivial, trivial, h0, h1, trivial⟩) (show hb_pk mz_GG ([]) _ from trivial) hm hx ?_ ?_ ?_
  · exact hb_nil
  · intro s hs
    rcases List.mem_cons.mp hs with rfl | hs
    · intro ρ1 L' st' M' g1 g2 gm gr gf gs gx gw g8 ge
      obtain ⟨e0, L1, rfl, n0, gg0⟩ := hb_l1 mz_GG g1
      obtain rfl : e0 = 234 := List.mem_singleton.mp n0
      obtain ⟨y1, L1, rfl, qr69, gg1⟩ := hb_l0 mz_GG gg0
      have r69 : ρ1 69 = y1.toInt := qr69
      obtain ⟨y2, L1, rfl, qr70, gg2⟩ := hb_l0 mz_GG gg1
      have r70 : ρ1 70 = y2.toInt := qr70
      obtain ⟨y3, L1, rfl, qr71, gg3⟩ := hb_l0 mz_GG gg2
      have r71 : ρ1 71 = y3.toInt := qr71
      obtain ⟨y4, L1, rfl, qr72, gg4⟩ := hb_l0 mz_GG gg3
      have r72 : ρ1 72 = y4.toInt := qr72
      obtain ⟨w5, L1, rfl, n5, gg5⟩ := hb_l3 mz_GG gg4
      obtain ⟨w6, L1, rfl, n6, gg6⟩ := hb_l3 mz_GG gg5
      obtain rfl := hb_ln mz_GG gg6
      obtain rfl := hb_pn mz_GG g2
      have r1 : ρ1 1 = x1.toInt := gr 1 (by decide +kernel)
      have r2 : ρ1 2 = x2.toInt := gr 2 (by decide +kernel)
      have r3 : ρ1 3 = x3.toInt := gr 3 (by decide +kernel)
      have r24 : ρ1 24 = hv M 234 15 := gr 24 (by decide +kernel)
      have r28 : ρ1 28 = hv M 234 23 := gr 28 (by decide +kernel)
      have r29 : ρ1 29 = hv M 234 24 := gr 29 (by decide +kernel)
      have r30 : ρ1 30 = hv M 234 25 := gr 30 (by decide +kernel)
      have r75 : ρ1 75 = hv M' 234 21 := gm 0 20 (234, 21) rfl rfl
      have r76 : ρ1 76 = hv M' 234 23 := gm 1 21 (234, 23) rfl rfl
      have r77 : ρ1 77 = hv M' 234 24 := gm 2 22 (234, 24) rfl rfl
      have r78 : ρ1 78 = hv M' 234 25 := gm 3 23 (234, 25) rfl rfl
      obtain ⟨f0, gf⟩ := hb_unc gf
      have f0 : 0 ≤ 0 + ((-1) * ρ1 1 + (1 * ρ1 69 + 0)) := f0
      rw [r1, r69] at f0
      obtain ⟨f1, gf⟩ := hb_unc gf
      have f1 : 0 ≤ 0 + (1 * ρ1 1 + ((-1) * ρ1 69 + 0)) := f1
      rw [r1, r69] at f1
      obtain ⟨f2, gf⟩ := hb_unc gf
      have f2 : 0 ≤ 0 + ((-1) * ρ1 2 + (1 * ρ1 70 + 0)) := f2
      rw [r2, r70] at f2
      obtain ⟨f3, gf⟩ := hb_unc gf
      have f3 : 0 ≤ 0 + (1 * ρ1 2 + ((-1) * ρ1 70 + 0)) := f3
      rw [r2, r70] at f3
      obtain ⟨f4, gf⟩ := hb_unc gf
      have f4 : 0 ≤ 0 + ((-1) * ρ1 3 + (1 * ρ1 71 + 0)) := f4
      rw [r3, r71] at f4
      obtain ⟨f5, gf⟩ := hb_unc gf
      have f5 : 0 ≤ 0 + (1 * ρ1 3 + ((-1) * ρ1 71 + 0)) := f5
      rw [r3, r71] at f5
      obtain ⟨f6, gf⟩ := hb_unc gf
      have f6 : 0 ≤ 0 + (1 * ρ1 72 + 0) := f6
      rw [r72] at f6
      obtain ⟨f7, gf⟩ := hb_unc gf
      have f7 : 0 ≤ 0 + ((-1) * ρ1 72 + 0) := f7
      rw [r72] at f7
      obtain ⟨f8, gf⟩ := hb_unc gf
      have f8 : 0 ≤ 0 + ((-1) * ρ1 24 + (1 * ρ1 75 + 0)) := f8
      rw [r24, r75] at f8
      obtain ⟨f9, gf⟩ := hb_unc gf
      have f9 : 0 ≤ 0 + (1 * ρ1 24 + ((-1) * ρ1 75 + 0)) := f9
      rw [r24, r75] at f9
      obtain ⟨f10, gf⟩ := hb_unc gf
      have f10 : 0 ≤ 0 + ((-1) * ρ1 28 + (1 * ρ1 76 + 0)) := f10
      rw [r28, r76] at f10
      obtain ⟨f11, gf⟩ := hb_unc gf
      have f11 : 0 ≤ 0 + (1 * ρ1 28 + ((-1) * ρ1 76 + 0)) := f11
      rw [r28, r76] at f11
      obtain ⟨f12, gf⟩ := hb_unc gf
      have f12 : 0 ≤ 0 + ((-1) * ρ1 29 + (1 * ρ1 77 + 0)) := f12
      rw [r29, r77] at f12
      obtain ⟨f13, gf⟩ := hb_unc gf
      have f13 : 0 ≤ 0 + (1 * ρ1 29 + ((-1) * ρ1 77 + 0)) := f13
      rw [r29, r77] at f13
      obtain ⟨f14, gf⟩ := hb_unc gf
      have f14 : 0 ≤ 0 + ((-1) * ρ1 30 + (1 * ρ1 78 + 0)) := f14
      rw [r30, r78] at f14
      obtain ⟨f15, gf⟩ := hb_unc gf
      have f15 : 0 ≤ 0 + (1 * ρ1 30 + ((-1) * ρ1 78 + 0)) := f15
      rw [r30, r78] at f15
      have hy1 : y1 = x1 := hb_inj f0 f1
      subst y1
      have hy2 : y2 = x2 := hb_inj f2 f3
      subst y2
      have hy3 : y3 = x3 := hb_inj f4 f5
      subst y3
      exact k0 M' y4 w5 w6 gs gx gw g8 ge n5 n6 (by have h1 := f6; have h2 := f7; omega) (by have h1 := f8; have h2 := f9; omega) (by have h1 := f10; have h2 := f11; omega) (by have h1 := f12; have h2 := f13; omega) (by have h1 := f14; have h2 := f15; omega)
    cases hs
  · intro r S hpo
    obtain ⟨b1, b2, b3, b4, b5, p, hp, res, hf, hre⟩ := hpo
    cases hp

def hn_b2_q : mz_Q := (124, [(1, 234), (0, 0), (0, 0), (0, 0), (0, 0), (3, 0), (3, 0)], [(0, [(4, 1)]), (120, [(4, -1)])], [20, 21, 22, 23], [], [234, 252, 253, 254, 255, 256])
def hn_b2_s : List mz_Sp2 := [(155, [(1, 234), (0, 0), (0, 0), (0, 0), (0, 0), (0, 0), (3, 0)], [], [(0, [(1, -1), (69, 1)]), (0, [(1, 1), (69, -1)]), (0, [(2, -1), (70, 1)]), (0, [(2, 1), (70, -1)]), (0, [(3, -1), (71, 1)]), (0, [(3, 1), (71, -1)]), (0, [(26, -6), (73, 1)]), (0, [(26, 6), (73, -1)]), (0, [(27, -1), (75, 1)]), (0, [(27, 1), (75, -1)]), (0, [(4, 1), (24, -1)]), (1920, [(76, -1)]), (0, [(76, 1)]), (1, [(77, -1)]), (0, [(77, 1)]), (200, [(78, -1)]), (0, [(78, 1)]), (0, [(72, 1)]), (1, [(72, -1)])]), (110, [(1, 234), (0, 0), (0, 0), (0, 0), (0, 0), (3, 0), (3, 0)], [], [(0, [(1, -1), (69, 1)]), (0, [(1, 1), (69, -1)]), (0, [(2, -1), (70, 1)]), (0, [(2, 1), (70, -1)]), (0, [(3, -1), (71, 1)]), (0, [(3, 1), (71, -1)]), (-1, [(4, -1), (72, 1)]), (1, [(4, 1), (72, -1)]), (0, [(27, -1), (75, 1)]), (0, [(27, 1), (75, -1)]), (0, [(28, -1), (76, 1)]), (0, [(28, 1), (76, -1)]), (0, [(29, -1), (77, 1)]), (0, [(29, 1), (77, -1)]), (0, [(30, -1), (78, 1)]), (0, [(30, 1), (78, -1)]), (-1, [(4, -1), (24, 1)])])]
def hn_b2_h : List mz_H := [(0, 0, []), (0, 0, []), (65, 0, []), (0, 0, []), (0, 0, []), (0, 0, [(59, 6)]), (0, 0, [(60, 6)]), (0, 0, []), (0, 0, []), (0, 0, []), (0, 0, []), (0, 0, []), (0, 0, []), (0, 0, []), (0, 0, []), (0, 0, []), (0, 0, []), (0, 0, []), (0, 0, [(10, 1)]), (0, 0, [(9, 1)]), (0, 0, [(8, 1)]), (0, 0, [(7, 1)]), (0, 0, [(6, 1)]), (0, 0, [(5, 1)]), (0, 0, [(4, 1)]), (0, 0, [(1, 1)]), (0, 0, [(0, 1)]), (252, 0, []), (249, 0, []), (0, 0, [(1, 1)]), (0, 0, [(0, 1), (46, 1)]), (0, 0, [(3, 1)]), (0, 0, [(4, 1)]), (0, 0, [(0, 1)]), (0, 0, [(1, 1)]), (0, 0, []), (0, 0, [(3, 1)]), (0, 0, [(4, 1)]), (1, 0, []), (0, 0, []), (0, 0, []), (0, 0, []), (0, 0, []), (0, 0, []), (0, 0, []), (0, 0, []), (0, 0, []), (0, 0, []), (0, 0, []), (0, 0, []), (0, 0, []), (0, 0, []), (0, 0, []), (0, 0, []), (0, 0, []), (0, 0, [(2, 1)])]
set_option maxRecDepth 100000 in
theorem hn_b2_c : mz_blk mz_GG mq_PP mz_Cs hn_b2_q 7 7 110 hn_b2_s [] 30 hn_b2_h = true := by decide +kernel
theorem hn_b2 {X : (Nat → mq_C) → Prop} (hX : ∀ M M' : Nat → mq_C, mz_same mz_GG M M' → X M → X M') (hC : ∀ c ∈ mz_Cs, c.2 < 7 → mz_Ct mz_GG mq_PP X c.1 c.2) {d z u : Nat} {M : Nat → mq_C} {Q : (Option Value ⊕ Nat) → mq_S → Prop} {x1 : Int32} {x2 : Int32} {x3 : Int32} {x4 : Int32} {o5 : Option Value} {o6 : Option Value} (hd : 7 ≤ d) (hz : 272 ≤ z) (hm : mz_sh mz_GG M) (hx : X M) (h0 : mq_nl o5 = true) (h1 : mq_nl o6 = true) (p0 : 0 ≤ x4.toInt) (p1 : 0 ≤ 120 - x4.toInt)
    (k0 : ∀ (M' : Nat → mq_C) (y4 : Int32) (y5 : Int32) (w6 : Option Value), mz_sh mz_GG M' → X M' → mz_fr hn_b2_q M M' → (∀ a, a < 8 → M' a = M a) → hb_same mz_GG hn_b2_q M M' → mq_nl w6 = true → y5.toInt = 6 * hv M 234 19 → hv M' 234 21 = hv M 234 21 → 0 ≤ x4.toInt - hv M 234 15 → 0 ≤ 1920 - hv M' 234 23 → 0 ≤ hv M' 234 23 → 0 ≤ 1 - hv M' 234 24 → 0 ≤ hv M' 234 24 → 0 ≤ 200 - hv M' 234 25 → 0 ≤ hv M' 234 25 → 0 ≤ y4.toInt → 0 ≤ 1 - y4.toInt → mq_R mq_PP d 124 155 [some (.ref 234), some (.int x1), some (.int x2), some (.int x3), some (.int y4), some (.int y5), w6] [] (M', z, u) Q)
    (k1 : ∀ (M' : Nat → mq_C) (y4 : Int32) (w5 : Option Value) (w6 : Option Value), mz_sh mz_GG M' → X M' → mz_fr hn_b2_q M M' → (∀ a, a < 8 → M' a = M a) → hb_same mz_GG hn_b2_q M M' → mq_nl w5 = true → mq_nl w6 = true → y4.toInt = 1 + x4.toInt → hv M' 234 21 = hv M 234 21 → hv M' 234 23 = hv M 234 23 → hv M' 234 24 = hv M 234 24 → hv M' 234 25 = hv M 234 25 → 0 ≤ (-1) - x4.toInt + hv M 234 15 → mq_R mq_PP d 124 110 [some (.ref 234), some (.int x1), some (.int x2), some (.int x3), some (.int y4), w5, w6] [] (M', z, u) Q) : mq_R mq_PP d 124 110 [some (.ref 234), some (.int x1), some (.int x2), some (.int x3), some (.int x4), o5, o6] [] (M, z, u) Q := by
  refine hb_blk mz_GG mq_PP X (q := hn_b2_q) (nl := 7) (M := M) hb_okG hX hC hn_b2_c hz hd (L := [some (.ref 234), some (.int x1), some (.int x2), some (.int x3), some (.int x4), o5, o6]) (st := []) (show hb_lk mz_GG ([(1, 234), (0, 0), (0, 0), (0, 0), (0, 0), (3, 0), (3, 0)]) _ from ⟨⟨List.mem_singleton.mpr rfl, rfl⟩, trivial, trivial, trivial, trivial, h0, h1, trivial⟩) (show hb_pk mz_GG ([]) _ from trivial) hm hx ?_ ?_ ?_
  · exact hb_cons (show 0 ≤ mz_ev _ _ from (show 0 ≤ 0 + (1 * x4.toInt + 0) by omega)) (hb_cons (show 0 ≤ mz_ev _ _ from (show 0 ≤ 120 + ((-1) * x4.toInt + 0) by omega)) (hb_nil))
  · intro s hs
    rcases List.mem_cons.mp hs with rfl | hs
    · intro ρ1 L' st' M' g1 g2 gm gr gf gs gx gw g8 ge
      obtain ⟨e0, L1, rfl, n0, gg0⟩ := hb_l1 mz_GG g1
      obtain rfl : e0 = 234 := List.mem_singleton.mp n0
      obtain ⟨y1, L1, rfl, qr69, gg1⟩ := hb_l0 mz_GG gg0
      have r69 : ρ1 69 = y1.toInt := qr69
      obtain ⟨y2, L1, rfl, qr70, gg2⟩ := hb_l0 mz_GG gg1
      have r70 : ρ1 70 = y2.toInt := qr70
      obtain ⟨y3, L1, rfl, qr71, gg3⟩ := hb_l0 mz_GG gg2
      have r71 : ρ1 71 = y3.toInt := qr71
      obtain ⟨y4, L1, rfl, qr72, gg4⟩ := hb_l0 mz_GG gg3
      have r72 : ρ1 72 = y4.toInt := qr72
      obtain ⟨y5, L1, rfl, qr73, gg5⟩ := hb_l0 mz_GG gg4
      have r73 : ρ1 73 = y5.toInt := qr73
      obtain ⟨w6, L1, rfl, n6, gg6⟩ := hb_l3 mz_GG gg5
      obtain rfl := hb_ln mz_GG gg6
      obtain rfl := hb_pn mz_GG g2
      have r1 : ρ1 1 = x1.toInt := gr 1 (by decide +kernel)
      have r2 : ρ1 2 = x2.toInt := gr 2 (by decide +kernel)
      have r3 : ρ1 3 = x3.toInt := gr 3 (by decide +kernel)
      have r4 : ρ1 4 = x4.toInt := gr 4 (by decide +kernel)
      have r24 : ρ1 24 = hv M 234 15 := gr 24 (by decide +kernel)
      have r26 : ρ1 26 = hv M 234 19 := gr 26 (by decide +kernel)
      have r27 : ρ1 27 = hv M 234 21 := gr 27 (by decide +kernel)
      have r75 : ρ1 75 = hv M' 234 21 := gm 0 20 (234, 21) rfl rfl
      have r76 : ρ1 76 = hv M' 234 23 := gm 1 21 (234, 23) rfl rfl
      have r77 : ρ1 77 = hv M' 234 24 := gm 2 22 (234, 24) rfl rfl
      have r78 : ρ1 78 = hv M' 234 25 := gm 3 23 (234, 25) rfl rfl
      obtain ⟨f0, gf⟩ := hb_unc gf
      have f0 : 0 ≤ 0 + ((-1) * ρ1 1 + (1 * ρ1 69 + 0)) := f0
      rw [r1, r69] at f0
      obtain ⟨f1, gf⟩ := hb_unc gf
      have f1 : 0 ≤ 0 + (1 * ρ1 1 + ((-1) * ρ1 69 + 0)) := f1
      rw [r1, r69] at f1
      obtain ⟨f2, gf⟩ := hb_unc gf
      have f2 : 0 ≤ 0 + ((-1) * ρ1 2 + (1 * ρ1 70 + 0)) := f2
      rw [r2, r70] at f2
      obtain ⟨f3, gf⟩ := hb_unc gf
      have f3 : 0 ≤ 0 + (1 * ρ1 2 + ((-1) * ρ1 70 + 0)) := f3
      rw [r2, r70] at f3
      obtain ⟨f4, gf⟩ := hb_unc gf
      have f4 : 0 ≤ 0 + ((-1) * ρ1 3 + (1 * ρ1 71 + 0)) := f4
      rw [r3, r71] at f4
      obtain ⟨f5, gf⟩ := hb_unc gf
      have f5 : 0 ≤ 0 + (1 * ρ1 3 + ((-1) * ρ1 71 + 0)) := f5
      rw [r3, r71] at f5
      obtain ⟨f6, gf⟩ := hb_unc gf
      have f6 : 0 ≤ 0 + ((-6) * ρ1 26 + (1 * ρ1 73 + 0)) := f6
      rw [r26, r73] at f6
      obtain ⟨f7, gf⟩ := hb_unc gf
      have f7 : 0 ≤ 0 + (6 * ρ1 26 + ((-1) * ρ1 73 + 0)) := f7
      rw [r26, r73] at f7
      obtain ⟨f8, gf⟩ := hb_unc gf
      have f8 : 0 ≤ 0 + ((-1) * ρ1 27 + (1 * ρ1 75 + 0)) := f8
      rw [r27, r75] at f8
      obtain ⟨f9, gf⟩ := hb_unc gf
      have f9 : 0 ≤ 0 + (1 * ρ1 27 + ((-1) * ρ1 75 + 0)) := f9
      rw [r27, r75] at f9
      obtain ⟨f10, gf⟩ := hb_unc gf
      have f10 : 0 ≤ 0 + (1 * ρ1 4 + ((-1) * ρ1 24 + 0)) := f10
      rw [r4, r24] at f10
      obtain ⟨f11, gf⟩ := hb_unc gf
      have f11 : 0 ≤ 1920 + ((-1) * ρ1 76 + 0) := f11
      rw [r76] at f11
      obtain ⟨f12, gf⟩ := hb_unc gf
      have f12 : 0 ≤ 0 + (1 * ρ1 76 + 0) := f12
      rw [r76] at f12
      obtain ⟨f13, gf⟩ := hb_unc gf
      have f13 : 0 ≤ 1 + ((-1) * ρ1 77 + 0) := f13
      rw [r77] at f13
      obtain ⟨f14, gf⟩ := hb_unc gf
      have f14 : 0 ≤ 0 + (1 * ρ1 77 + 0) := f14
      rw [r77] at f14
      obtain ⟨f15, gf⟩ := hb_unc gf
      have f15 : 0 ≤ 200 + ((-1) * ρ1 78 + 0) := f15
      rw [r78] at f15
      obtain ⟨f16, gf⟩ := hb_unc gf
      have f16 : 0 ≤ 0 + (1 * ρ1 78 + 0) := f16
      rw [r78] at f16
      obtain ⟨f17, gf⟩ := hb_unc gf
      have f17 : 0 ≤ 0 + (1 * ρ1 72 + 0) := f17
      rw [r72] at f17
      obtain ⟨f18, gf⟩ := hb_unc gf
      have f18 : 0 ≤ 1 + ((-1) * ρ1 72 + 0) := f18
      rw [r72] at f18
      have hy1 : y1 = x1 := hb_inj f0 f1
      subst y1
      have hy2 : y2 = x2 := hb_inj f2 f3
      subst y2
      have hy3 : y3 = x3 := hb_inj f4 f5
      subst y3
      exact k0 M' y4 y5 w6 gs gx gw g8 ge n6 (by have h1 := f6; have h2 := f7; omega) (by have h1 := f8; have h2 := f9; omega) (by have h1 := f10; omega) (by have h1 := f11; omega) (by have h1 := f12; omega) (by have h1 := f13; omega) (by have h1 := f14; omega) (by have h1 := f15; omega) (by have h1 := f16; omega) (by have h1 := f17; omega) (by have h1 := f18; omega)
    rcases List.mem_cons.mp hs with rfl | hs
    · intro ρ1 L' st' M' g1 g2 gm gr gf gs gx gw g8 ge
      obtain ⟨e0, L1, rfl, n0, gg0⟩ := hb_l1 mz_GG g1
      obtain rfl : e0 = 234 := List.mem_singleton.mp n0
      obtain ⟨y1, L1, rfl, qr69, gg1⟩ := hb_l0 mz_GG gg0
      have r69 : ρ1 69 = y1.toInt := qr69
      obtain ⟨y2, L1, rfl, qr70, gg2⟩ := hb_l0 mz_GG gg1
      have r70 : ρ1 70 = y2.toInt := qr70
      obtain ⟨y3, L1, rfl, qr71, gg3⟩ := hb_l0 mz_GG gg2
      have r71 : ρ1 71 = y3.toInt := qr71
      obtain ⟨y4, L1, rfl, qr72, gg4⟩ := hb_l0 mz_GG gg3
      have r72 : ρ1 72 = y4.toInt := qr72
      obtain ⟨w5, L1, rfl, n5, gg5⟩ := hb_l3 mz_GG gg4
      obtain ⟨w6, L1, rfl, n6, gg6⟩ := hb_l3 mz_GG gg5
      obtain rfl := hb_ln mz_GG gg6
      obtain rfl := hb_pn mz_GG g2
      have r1 : ρ1 1 = x1.toInt := gr 1 (by decide +kernel)
      have r2 : ρ1 2 = x2.toInt := gr 2 (by decide +kernel)
      have r3 : ρ1 3 = x3.toInt := gr 3 (by decide +kernel)
      have r4 : ρ1 4 = x4.toInt := gr 4 (by decide +kernel)
      have r24 : ρ1 24 = hv M 234 15 := gr 24 (by decide +kernel)
      have r27 : ρ1 27 = hv M 234 21 := gr 27 (by decide +kernel)
      have r28 : ρ1 28 = hv M 234 23 := gr 28 (by decide +kernel)
      have r29 : ρ1 29 = hv M 234 24 := gr 29 (by decide +kernel)
      have r30 : ρ1 30 = hv M 234 25 := gr 30 (by decide +kernel)
      have r75 : ρ1 75 = hv M' 234 21 := gm 0 20 (234, 21) rfl rfl
      have r76 : ρ1 76 = hv M' 234 23 := gm 1 21 (234, 23) rfl rfl
      have r77 : ρ1 77 = hv M' 234 24 := gm 2 22 (234, 24) rfl rfl
      have r78 : ρ1 78 = hv M' 234 25 := gm 3 23 (234, 25) rfl rfl
      obtain ⟨f0, gf⟩ := hb_unc gf
      have f0 : 0 ≤ 0 + ((-1) * ρ1 1 + (1 * ρ1 69 + 0)) := f0
      rw [r1, r69] at f0
      obtain ⟨f1, gf⟩ := hb_unc gf
      have f1 : 0 ≤ 0 + (1 * ρ1 1 + ((-1) * ρ1 69 + 0)) := f1
      rw [r1, r69] at f1
      obtain ⟨f2, gf⟩ := hb_unc gf
      have f2 : 0 ≤ 0 + ((-1) * ρ1 2 + (1 * ρ1 70 + 0)) := f2
      rw [r2, r70] at f2
      obtain ⟨f3, gf⟩ := hb_unc gf
      have f3 : 0 ≤ 0 + (1 * ρ1 2 + ((-1) * ρ1 70 + 0)) := f3
      rw [r2, r70] at f3
      obtain ⟨f4, gf⟩ := hb_unc gf
      have f4 : 0 ≤ 0 + ((-1) * ρ1 3 + (1 * ρ1 71 + 0)) := f4
      rw [r3, r71] at f4
      obtain ⟨f5, gf⟩ := hb_unc gf
      have f5 : 0 ≤ 0 + (1 * ρ1 3 + ((-1) * ρ1 71 + 0)) := f5
      rw [r3, r71] at f5
      obtain ⟨f6, gf⟩ := hb_unc gf
      have f6 : 0 ≤ -1 + ((-1) * ρ1 4 + (1 * ρ1 72 + 0)) := f6
      rw [r4, r72] at f6
      obtain ⟨f7, gf⟩ := hb_unc gf
      have f7 : 0 ≤ 1 + (1 * ρ1 4 + ((-1) * ρ1 72 + 0)) := f7
      rw [r4, r72] at f7
      obtain ⟨f8, gf⟩ := hb_unc gf
      have f8 : 0 ≤ 0 + ((-1) * ρ1 27 + (1 * ρ1 75 + 0)) := f8
      rw [r27, r75] at f8
      obtain ⟨f9, gf⟩ := hb_unc gf
      have f9 : 0 ≤ 0 + (1 * ρ1 27 + ((-1) * ρ1 75 + 0)) := f9
      rw [r27, r75] at f9
      obtain ⟨f10, gf⟩ := hb_unc gf
      have f10 : 0 ≤ 0 + ((-1) * ρ1 28 + (1 * ρ1 76 + 0)) := f10
      rw [r28, r76] at f10
      obtain ⟨f11, gf⟩ := hb_unc gf
      have f11 : 0 ≤ 0 + (1 * ρ1 28 + ((-1) * ρ1 76 + 0)) := f11
      rw [r28, r76] at f11
      obtain ⟨f12, gf⟩ := hb_unc gf
      have f12 : 0 ≤ 0 + ((-1) * ρ1 29 + (1 * ρ1 77 + 0)) := f12
      rw [r29, r77] at f12
      obtain ⟨f13, gf⟩ := hb_unc gf
      have f13 : 0 ≤ 0 + (1 * ρ1 29 + ((-1) * ρ1 77 + 0)) := f13
      rw [r29, r77] at f13
      obtain ⟨f14, gf⟩ := hb_unc gf
      have f14 : 0 ≤ 0 + ((-1) * ρ1 30 + (1 * ρ1 78 + 0)) := f14
      rw [r30, r78] at f14
      obtain ⟨f15, gf⟩ := hb_unc gf
      have f15 : 0 ≤ 0 + (1 * ρ1 30 + ((-1) * ρ1 78 + 0)) := f15
      rw [r30, r78] at f15
      obtain ⟨f16, gf⟩ := hb_unc gf
      have f16 : 0 ≤ -1 + ((-1) * ρ1 4 + (1 * ρ1 24 + 0)) := f16
      rw [r4, r24] at f16
      have hy1 : y1 = x1 := hb_inj f0 f1
      subst y1
      have hy2 : y2 = x2 := hb_inj f2 f3
      subst y2
      have hy3 : y3 = x3 := hb_inj f4 f5
      subst y3
      exact k1 M' y4 w5 w6 gs gx gw g8 ge n5 n6 (by have h1 := f6; have h2 := f7; omega) (by have h1 := f8; have h2 := f9; omega) (by have h1 := f10; have h2 := f11; omega) (by have h1 := f12; have h2 := f13; omega) (by have h1 := f14; have h2 := f15; omega) (by have h1 := f16; omega)
    cases hs
  · intro r S hpo
    obtain ⟨b1, b2, b3, b4, b5, p, hp, res, hf, hre⟩ := hpo
    cases hp

def hn_b3_q : mz_Q := (124, [(1, 234), (0, 0), (0, 0), (0, 0), (0, 0), (0, 0), (3, 0)], [(222, [(24, -1), (25, -1)]), (0, [(2, 1)]), (8, [(2, -1)])], [20, 21, 22, 23], [], [250])
def hn_b3_s : List mz_Sp2 := [(269, [(1, 234), (0, 0), (0, 0), (0, 0), (0, 0), (0, 0), (0, 0)], [], [(0, [(1, -1), (69, 1)]), (0, [(1, 1), (69, -1)]), (0, [(2, -1), (70, 1)]), (0, [(2, 1), (70, -1)]), (0, [(3, -1), (71, 1)]), (0, [(3, 1), (71, -1)]), (0, [(4, -1), (72, 1)]), (0, [(4, 1), (72, -1)]), (0, [(5, -1), (73, 1)]), (0, [(5, 1), (73, -1)]), (0, [(74, 1)]), (0, [(74, -1)]), (0, [(27, -1), (75, 1)]), (0, [(27, 1), (75, -1)]), (0, [(28, -1), (76, 1)]), (0, [(28, 1), (76, -1)]), (0, [(29, -1), (77, 1)]), (0, [(29, 1), (77, -1)]), (0, [(30, -1), (78, 1)]), (0, [(30, 1), (78, -1)])])]
def hn_b3_h : List mz_H := [(250, 0, []), (0, 0, [(49, 1)]), (0, 0, [(0, 1), (47, 1)]), (0, 0, []), (0, 0, []), (250, 0, []), (0, 0, []), (0, 0, [(49, 1)]), (0, 0, [(50, 1)]), (0, 0, [(49, 1)]), (0, 0, [(0, 1), (47, 1)]), (0, 0, [(1, 1)]), (0, 0, [(2, 1)]), (0, 0, []), (0, 0, []), (0, 0, []), (0, 0, []), (0, 0, []), (0, 0, []), (0, 0, []), (0, 0, []), (0, 0, []), (0, 0, []), (0, 0, []), (0, 0, []), (0, 0, []), (0, 0, []), (0, 0, []), (0, 0, []), (0, 0, []), (0, 0, []), (0, 0, []), (0, 0, []), (0, 0, [])]
set_option maxRecDepth 100000 in
theorem hn_b3_c : mz_blk mz_GG mq_PP mz_Cs hn_b3_q 7 1 243 hn_b3_s [] 22 hn_b3_h = true := by decide +kernel
theorem hn_b3 {X : (Nat → mq_C) → Prop} (hX : ∀ M M' : Nat → mq_C, mz_same mz_GG M M' → X M → X M') (hC : ∀ c ∈ mz_Cs, c.2 < 1 → mz_Ct mz_GG mq_PP X c.1 c.2) {d z u : Nat} {M : Nat → mq_C} {Q : (Option Value ⊕ Nat) → mq_S → Prop} {x1 : Int32} {x2 : Int32} {x3 : Int32} {x4 : Int32} {x5 : Int32} {o6 : Option Value} (hd : 1 ≤ d) (hz : 272 ≤ z) (hm : mz_sh mz_GG M) (hx : X M) (h0 : mq_nl o6 = true) (p0 : 0 ≤ 222 - hv M 234 15 - hv M 234 17) (p1 : 0 ≤ x2.toInt) (p2 : 0 ≤ 8 - x2.toInt)
    (k0 : ∀ (M' : Nat → mq_C) (y6 : Int32), mz_sh mz_GG M' → X M' → mz_fr hn_b3_q M M' → (∀ a, a < 8 → M' a = M a) → hb_same mz_GG hn_b3_q M M' → y6.toInt = 0 → hv M' 234 21 = hv M 234 21 → hv M' 234 23 = hv M 234 23 → hv M' 234 24 = hv M 234 24 → hv M' 234 25 = hv M 234 25 → mq_R mq_PP d 124 269 [some (.ref 234), some (.int x1), some (.int x2), some (.int x3), some (.int x4), some (.int x5), some (.int y6)] [] (M', z, u) Q) : mq_R mq_PP d 124 243 [some (.ref 234), some (.int x1), some (.int x2), some (.int x3), some (.int x4), some (.int x5), o6] [] (M, z, u) Q := by
  refine hb_blk mz_GG mq_PP X (q := hn_b3_q) (nl := 7) (M := M) hb_okG hX hC hn_b3_c hz hd (L := [some (.ref 234), some (.int x1), some (.int x2), some (.int x3), some (.int x4), some (.int x5), o6]) (st := []) (show hb_lk mz_GG ([(1, 234), (0, 0), (0, 0), (0, 0), (0, 0), (0, 0), (3, 0)]) _ from ⟨⟨List.mem_singleton.mpr rfl, rfl⟩, trivial, trivial, trivial, trivial, trivial, h0, trivial⟩) (show hb_pk mz_GG ([]) _ from trivial) hm hx ?_ ?_ ?_
  · exact hb_cons (show 0 ≤ mz_ev _ _ from (show 0 ≤ 222 + ((-1) * hv M 234 15 + ((-1) * hv M 234 17 + 0)) by omega)) (hb_cons (show 0 ≤ mz_ev _ _ from (show 0 ≤ 0 + (1 * x2.toInt + 0) by omega)) (hb_cons (show 0 ≤ mz_ev _ _ from (show 0 ≤ 8 + ((-1) * x2.toInt + 0) by omega)) (hb_nil)))
  · intro s hs
    rcases List.mem_cons.mp hs with rfl | hs
    · intro ρ1 L' st' M' g1 g2 gm gr gf gs gx gw g8 ge
      obtain ⟨e0, L1, rfl, n0, gg0⟩ := hb_l1 mz_GG g1
      obtain rfl : e0 = 234 := List.mem_singleton.mp n0
      obtain ⟨y1, L1, rfl, qr69, gg1⟩ := hb_l0 mz_GG gg0
      have r69 : ρ1 69 = y1.toInt := qr69
      obtain ⟨y2, L1, rfl, qr70, gg2⟩ := hb_l0 mz_GG gg1
      have r70 : ρ1 70 = y2.toInt := qr70
      obtain ⟨y3, L1, rfl, qr71, gg3⟩ := hb_l0 mz_GG gg2
      have r71 : ρ1 71 = y3.toInt := qr71
      obtain ⟨y4, L1, rfl, qr72, gg4⟩ := hb_l0 mz_GG gg3
      have r72 : ρ1 72 = y4.toInt := qr72
      obtain ⟨y5, L1, rfl, qr73, gg5⟩ := hb_l0 mz_GG gg4
      have r73 : ρ1 73 = y5.toInt := qr73
      obtain ⟨y6, L1, rfl, qr74, gg6⟩ := hb_l0 mz_GG gg5
      have r74 : ρ1 74 = y6.toInt := qr74
      obtain rfl := hb_ln mz_GG gg6
      obtain rfl := hb_pn mz_GG g2
      have r1 : ρ1 1 = x1.toInt := gr 1 (by decide +kernel)
      have r2 : ρ1 2 = x2.toInt := gr 2 (by decide +kernel)
      have r3 : ρ1 3 = x3.toInt := gr 3 (by decide +kernel)
      have r4 : ρ1 4 = x4.toInt := gr 4 (by decide +kernel)
      have r5 : ρ1 5 = x5.toInt := gr 5 (by decide +kernel)
      have r27 : ρ1 27 = hv M 234 21 := gr 27 (by decide +kernel)
      have r28 : ρ1 28 = hv M 234 23 := gr 28 (by decide +kernel)
      have r29 : ρ1 29 = hv M 234 24 := gr 29 (by decide +kernel)
      have r30 : ρ1 30 = hv M 234 25 := gr 30 (by decide +kernel)
      have r75 : ρ1 75 = hv M' 234 21 := gm 0 20 (234, 21) rfl rfl
      have r76 : ρ1 76 = hv M' 234 23 := gm 1 21 (234, 23) rfl rfl
      have r77 : ρ1 77 = hv M' 234 24 := gm 2 22 (234, 24) rfl rfl
      have r78 : ρ1 78 = hv M' 234 25 := gm 3 23 (234, 25) rfl rfl
      obtain ⟨f0, gf⟩ := hb_unc gf
      have f0 : 0 ≤ 0 + ((-1) * ρ1 1 + (1 * ρ1 69 + 0)) := f0
      rw [r1, r69] at f0
      obtain ⟨f1, gf⟩ := hb_unc gf
      have f1 : 0 ≤ 0 + (1 * ρ1 1 + ((-1) * ρ1 69 + 0)) := f1
      rw [r1, r69] at f1
      obtain ⟨f2, gf⟩ := hb_unc gf
      have f2 : 0 ≤ 0 + ((-1) * ρ1 2 + (1 * ρ1 70 + 0)) := f2
      rw [r2, r70] at f2
      obtain ⟨f3, gf⟩ := hb_unc gf
      have f3 : 0 ≤ 0 + (1 * ρ1 2 + ((-1) * ρ1 70 + 0)) := f3
      rw [r2, r70] at f3
      obtain ⟨f4, gf⟩ := hb_unc gf
      have f4 : 0 ≤ 0 + ((-1) * ρ1 3 + (1 * ρ1 71 + 0)) := f4
      rw [r3, r71] at f4
      obtain ⟨f5, gf⟩ := hb_unc gf
      have f5 : 0 ≤ 0 + (1 * ρ1 3 + ((-1) * ρ1 71 + 0)) := f5
      rw [r3, r71] at f5
      obtain ⟨f6, gf⟩ := hb_unc gf
      have f6 : 0 ≤ 0 + ((-1) * ρ1 4 + (1 * ρ1 72 + 0)) := f6
      rw [r4, r72] at f6
      obtain ⟨f7, gf⟩ := hb_unc gf
      have f7 : 0 ≤ 0 + (1 * ρ1 4 + ((-1) * ρ1 72 + 0)) := f7
      rw [r4, r72] at f7
      obtain ⟨f8, gf⟩ := hb_unc gf
      have f8 : 0 ≤ 0 + ((-1) * ρ1 5 + (1 * ρ1 73 + 0)) := f8
      rw [r5, r73] at f8
      obtain ⟨f9, gf⟩ := hb_unc gf
      have f9 : 0 ≤ 0 + (1 * ρ1 5 + ((-1) * ρ1 73 + 0)) := f9
      rw [r5, r73] at f9
      obtain ⟨f10, gf⟩ := hb_unc gf
      have f10 : 0 ≤ 0 + (1 * ρ1 74 + 0) := f10
      rw [r74] at f10
      obtain ⟨f11, gf⟩ := hb_unc gf
      have f11 : 0 ≤ 0 + ((-1) * ρ1 74 + 0) := f11
      rw [r74] at f11
      obtain ⟨f12, gf⟩ := hb_unc gf
      have f12 : 0 ≤ 0 + ((-1) * ρ1 27 + (1 * ρ1 75 + 0)) := f12
      rw [r27, r75] at f12
      obtain ⟨f13, gf⟩ := hb_unc gf
      have f13 : 0 ≤ 0 + (1 * ρ1 27 + ((-1) * ρ1 75 + 0)) := f13
      rw [r27, r75] at f13
      obtain ⟨f14, gf⟩ := hb_unc gf
      have f14 : 0 ≤ 0 + ((-1) * ρ1 28 + (1 * ρ1 76 + 0)) := f14
      rw [r28, r76] at f14
      obtain ⟨f15, gf⟩ := hb_unc gf
      have f15 : 0 ≤ 0 + (1 * ρ1 28 + ((-1) * ρ1 76 + 0)) := f15
      rw [r28, r76] at f15
      obtain ⟨f16, gf⟩ := hb_unc gf
      have f16 : 0 ≤ 0 + ((-1) * ρ1 29 + (1 * ρ1 77 + 0)) := f16
      rw [r29, r77] at f16
      obtain ⟨f17, gf⟩ := hb_unc gf
      have f17 : 0 ≤ 0 + (1 * ρ1 29 + ((-1) * ρ1 77 + 0)) := f17
      rw [r29, r77] at f17
      obtain ⟨f18, gf⟩ := hb_unc gf
      have f18 : 0 ≤ 0 + ((-1) * ρ1 30 + (1 * ρ1 78 + 0)) := f18
      rw [r30, r78] at f18
      obtain ⟨f19, gf⟩ := hb_unc gf
      have f19 : 0 ≤ 0 + (1 * ρ1 30 + ((-1) * ρ1 78 + 0)) := f19
      rw [r30, r78] at f19
      have hy1 : y1 = x1 := hb_inj f0 f1
      subst y1
      have hy2 : y2 = x2 := hb_inj f2 f3
      subst y2
      have hy3 : y3 = x3 := hb_inj f4 f5
      subst y3
      have hy4 : y4 = x4 := hb_inj f6 f7
      subst y4
      have hy5 : y5 = x5 := hb_inj f8 f9
      subst y5
      exact k0 M' y6 gs gx gw g8 ge  (by have h1 := f10; have h2 := f11; omega) (by have h1 := f12; have h2 := f13; omega) (by have h1 := f14; have h2 := f15; omega) (by have h1 := f16; have h2 := f17; omega) (by have h1 := f18; have h2 := f19; omega)
    cases hs
  · intro r S hpo
    obtain ⟨b1, b2, b3, b4, b5, p, hp, res, hf, hre⟩ := hpo
    cases hp

def hn_b4_q : mz_Q := (124, [(1, 234), (0, 0), (0, 0), (0, 0), (0, 0), (0, 0), (0, 0)], [(0, [(6, 1)]), (120, [(6, -1)]), (222, [(24, -1), (25, -1)])], [20, 21, 22, 23], [], [250])
def hn_b4_s : List mz_Sp2 := [(305, [(1, 234), (0, 0), (0, 0), (0, 0), (0, 0), (0, 0), (0, 0)], [], [(0, [(1, -1), (69, 1)]), (0, [(1, 1), (69, -1)]), (0, [(2, -1), (70, 1)]), (0, [(2, 1), (70, -1)]), (0, [(3, -1), (71, 1)]), (0, [(3, 1), (71, -1)]), (0, [(4, -1), (72, 1)]), (0, [(4, 1), (72, -1)]), (0, [(5, -1), (73, 1)]), (0, [(5, 1), (73, -1)]), (0, [(6, -1), (74, 1)]), (0, [(6, 1), (74, -1)]), (0, [(27, -1), (75, 1)]), (0, [(27, 1), (75, -1)]), (0, [(28, -1), (76, 1)]), (0, [(28, 1), (76, -1)]), (0, [(29, -1), (77, 1)]), (0, [(29, 1), (77, -1)]), (0, [(30, -1), (78, 1)]), (0, [(30, 1), (78, -1)]), (0, [(6, 1), (24, -1)])]), (269, [(1, 234), (0, 0), (0, 0), (0, 0), (0, 0), (0, 0), (0, 0)], [], [(0, [(1, -1), (69, 1)]), (0, [(1, 1), (69, -1)]), (0, [(2, -1), (70, 1)]), (0, [(2, 1), (70, -1)]), (0, [(3, -1), (71, 1)]), (0, [(3, 1), (71, -1)]), (0, [(4, -1), (72, 1)]), (0, [(4, 1), (72, -1)]), (0, [(5, -1), (73, 1)]), (0, [(5, 1), (73, -1)]), (-1, [(6, -1), (74, 1)]), (1, [(6, 1), (74, -1)]), (0, [(27, -1), (75, 1)]), (0, [(27, 1), (75, -1)]), (0, [(28, -1), (76, 1)]), (0, [(28, 1), (76, -1)]), (0, [(29, -1), (77, 1)]), (0, [(29, 1), (77, -1)]), (0, [(30, -1), (78, 1)]), (0, [(30, 1), (78, -1)]), (-1, [(6, -1), (24, 1)])])]
def hn_b4_h : List mz_H := [(0, 0, []), (0, 0, []), (0, 0, []), (0, 0, []), (0, 0, []), (0, 0, []), (0, 0, []), (0, 0, []), (0, 0, []), (0, 0, []), (0, 0, []), (0, 0, []), (0, 0, []), (0, 0, []), (0, 0, []), (0, 0, []), (0, 0, []), (0, 0, []), (0, 0, []), (0, 0, []), (0, 0, []), (0, 0, []), (0, 0, []), (0, 0, [(0, 1)]), (250, 0, []), (0, 0, []), (0, 0, [(52, 1)]), (0, 0, [(53, 1)]), (0, 0, []), (0, 0, [(1, 1), (52, 1)]), (0, 0, [(0, 1), (3, 1)]), (249, 0, []), (0, 0, [(1, 1)]), (0, 0, [(0, 1), (51, 1)]), (0, 0, [(3, 1), (54, 1)]), (0, 0, [(2, 1), (5, 1)]), (0, 0, [(0, 1)]), (0, 0, [(1, 1)]), (0, 0, []), (0, 0, [(3, 1)]), (0, 0, [(4, 1)]), (1, 0, []), (0, 0, []), (0, 0, []), (0, 0, []), (0, 0, []), (0, 0, []), (0, 0, []), (0, 0, []), (0, 0, []), (0, 0, []), (0, 0, []), (0, 0, []), (0, 0, []), (0, 0, []), (0, 0, []), (0, 0, []), (0, 0, []), (0, 0, []), (0, 0, []), (0, 0, []), (0, 0, []), (0, 0, [(2, 1)])]
set_option maxRecDepth 100000 in
theorem hn_b4_c : mz_blk mz_GG mq_PP mz_Cs hn_b4_q 7 1 269 hn_b4_s [] 26 hn_b4_h = true := by decide +kernel
theorem hn_b4 {X : (Nat → mq_C) → Prop} (hX : ∀ M M' : Nat → mq_C, mz_same mz_GG M M' → X M → X M') (hC : ∀ c ∈ mz_Cs, c.2 < 1 → mz_Ct mz_GG mq_PP X c.1 c.2) {d z u : Nat} {M : Nat → mq_C} {Q : (Option Value ⊕ Nat) → mq_S → Prop} {x1 : Int32} {x2 : Int32} {x3 : Int32} {x4 : Int32} {x5 : Int32} {x6 : Int32} (hd : 1 ≤ d) (hz : 272 ≤ z) (hm : mz_sh mz_GG M) (hx : X M) (p0 : 0 ≤ x6.toInt) (p1 : 0 ≤ 120 - x6.toInt) (p2 : 0 ≤ 222 - hv M 234 15 - hv M 234 17)
    (k0 : ∀ (M' : Nat → mq_C) , mz_sh mz_GG M' → X M' → mz_fr hn_b4_q M M' → (∀ a, a < 8 → M' a = M a) → hb_same mz_GG hn_b4_q M M' → hv M' 234 21 = hv M 234 21 → hv M' 234 23 = hv M 234 23 → hv M' 234 24 = hv M 234 24 → hv M' 234 25 = hv M 234 25 → 0 ≤ x6.toInt - hv M 234 15 → mq_R mq_PP d 124 305 [some (.ref 234), some (.int x1), some (.int x2), some (.int x3), some (.int x4), some (.int x5), some (.int x6)] [] (M', z, u) Q)
    (k1 : ∀ (M' : Nat → mq_C) (y6 : Int32), mz_sh mz_GG M' → X M' → mz_fr hn_b4_q M M' → (∀ a, a < 8 → M' a = M a) → hb_same mz_GG hn_b4_q M M' → y6.toInt = 1 + x6.toInt → hv M' 234 21 = hv M 234 21 → hv M' 234 23 = hv M 234 23 → hv M' 234 24 = hv M 234 24 → hv M' 234 25 = hv M 234 25 → 0 ≤ (-1) - x6.toInt + hv M 234 15 → mq_R mq_PP d 124 269 [some (.ref 234), some (.int x1), some (.int x2), some (.int x3), some (.int x4), some (.int x5), some (.int y6)] [] (M', z, u) Q) : mq_R mq_PP d 124 269 [some (.ref 234), some (.int x1), some (.int x2), some (.int x3), some (.int x4), some (.int x5), some (.int x6)] [] (M, z, u) Q := by
  refine hb_blk mz_GG mq_PP X (q := hn_b4_q) (nl := 7) (M := M) hb_okG hX hC hn_b4_c hz hd (L := [some (.ref 234), some (.int x1), some (.int x2), some (.int x3), some (.int x4), some (.int x5), some (.int x6)]) (st := []) (show hb_lk mz_GG ([(1, 234), (0, 0), (0, 0), (0, 0), (0, 0), (0, 0), (0, 0)]) _ from ⟨⟨List.mem_singleton.mpr rfl, rfl⟩, trivial, trivial, trivial, trivial, trivial, trivial, trivial⟩) (show hb_pk mz_GG ([]) _ from trivial) hm hx ?_ ?_ ?_
  · exact hb_cons (show 0 ≤ mz_ev _ _ from (show 0 ≤ 0 + (1 * x6.toInt + 0) by omega)) (hb_cons (show 0 ≤ mz_ev _ _ from (show 0 ≤ 120 + ((-1) * x6.toInt + 0) by omega)) (hb_cons (show 0 ≤ mz_ev _ _ from (show 0 ≤ 222 + ((-1) * hv M 234 15 + ((-1) * hv M 234 17 + 0)) by omega)) (hb_nil)))
  · intro s hs
    rcases List.mem_cons.mp hs with rfl | hs
    · intro ρ1 L' st' M' g1 g2 gm gr gf gs gx gw g8 ge
      obtain ⟨e0, L1, rfl, n0, gg0⟩ := hb_l1 mz_GG g1
      obtain rfl : e0 = 234 := List.mem_singleton.mp n0
      obtain ⟨y1, L1, rfl, qr69, gg1⟩ := hb_l0 mz_GG gg0
      have r69 : ρ1 69 = y1.toInt := qr69
      obtain ⟨y2, L1, rfl, qr70, gg2⟩ := hb_l0 mz_GG gg1
      have r70 : ρ1 70 = y2.toInt := qr70
      obtain ⟨y3, L1, rfl, qr71, gg3⟩ := hb_l0 mz_GG gg2
      have r71 : ρ1 71 = y3.toInt := qr71
      obtain ⟨y4, L1, rfl, qr72, gg4⟩ := hb_l0 mz_GG gg3
      have r72 : ρ1 72 = y4.toInt := qr72
      obtain ⟨y5, L1, rfl, qr73, gg5⟩ := hb_l0 mz_GG gg4
      have r73 : ρ1 73 = y5.toInt := qr73
      obtain ⟨y6, L1, rfl, qr74, gg6⟩ := hb_l0 mz_GG gg5
      have r74 : ρ1 74 = y6.toInt := qr74
      obtain rfl := hb_ln mz_GG gg6
      obtain rfl := hb_pn mz_GG g2
      have r1 : ρ1 1 = x1.toInt := gr 1 (by decide +kernel)
      have r2 : ρ1 2 = x2.toInt := gr 2 (by decide +kernel)
      have r3 : ρ1 3 = x3.toInt := gr 3 (by decide +kernel)
      have r4 : ρ1 4 = x4.toInt := gr 4 (by decide +kernel)
      have r5 : ρ1 5 = x5.toInt := gr 5 (by decide +kernel)
      have r6 : ρ1 6 = x6.toInt := gr 6 (by decide +kernel)
      have r24 : ρ1 24 = hv M 234 15 := gr 24 (by decide +kernel)
      have r27 : ρ1 27 = hv M 234 21 := gr 27 (by decide +kernel)
      have r28 : ρ1 28 = hv M 234 23 := gr 28 (by decide +kernel)
      have r29 : ρ1 29 = hv M 234 24 := gr 29 (by decide +kernel)
      have r30 : ρ1 30 = hv M 234 25 := gr 30 (by decide +kernel)
      have r75 : ρ1 75 = hv M' 234 21 := gm 0 20 (234, 21) rfl rfl
      have r76 : ρ1 76 = hv M' 234 23 := gm 1 21 (234, 23) rfl rfl
      have r77 : ρ1 77 = hv M' 234 24 := gm 2 22 (234, 24) rfl rfl
      have r78 : ρ1 78 = hv M' 234 25 := gm 3 23 (234, 25) rfl rfl
      obtain ⟨f0, gf⟩ := hb_unc gf
      have f0 : 0 ≤ 0 + ((-1) * ρ1 1 + (1 * ρ1 69 + 0)) := f0
      rw [r1, r69] at f0
      obtain ⟨f1, gf⟩ := hb_unc gf
      have f1 : 0 ≤ 0 + (1 * ρ1 1 + ((-1) * ρ1 69 + 0)) := f1
      rw [r1, r69] at f1
      obtain ⟨f2, gf⟩ := hb_unc gf
      have f2 : 0 ≤ 0 + ((-1) * ρ1 2 + (1 * ρ1 70 + 0)) := f2
      rw [r2, r70] at f2
      obtain ⟨f3, gf⟩ := hb_unc gf
      have f3 : 0 ≤ 0 + (1 * ρ1 2 + ((-1) * ρ1 70 + 0)) := f3
      rw [r2, r70] at f3
      obtain ⟨f4, gf⟩ := hb_unc gf
      have f4 : 0 ≤ 0 + ((-1) * ρ1 3 + (1 * ρ1 71 + 0)) := f4
      rw [r3, r71] at f4
      obtain ⟨f5, gf⟩ := hb_unc gf
      have f5 : 0 ≤ 0 + (1 * ρ1 3 + ((-1) * ρ1 71 + 0)) := f5
      rw [r3, r71] at f5
      obtain ⟨f6, gf⟩ := hb_unc gf
      have f6 : 0 ≤ 0 + ((-1) * ρ1 4 + (1 * ρ1 72 + 0)) := f6
      rw [r4, r72] at f6
      obtain ⟨f7, gf⟩ := hb_unc gf
      have f7 : 0 ≤ 0 + (1 * ρ1 4 + ((-1) * ρ1 72 + 0)) := f7
      rw [r4, r72] at f7
      obtain ⟨f8, gf⟩ := hb_unc gf
      have f8 : 0 ≤ 0 + ((-1) * ρ1 5 + (1 * ρ1 73 + 0)) := f8
      rw [r5, r73] at f8
      obtain ⟨f9, gf⟩ := hb_unc gf
      have f9 : 0 ≤ 0 + (1 * ρ1 5 + ((-1) * ρ1 73 + 0)) := f9
      rw [r5, r73] at f9
      obtain ⟨f10, gf⟩ := hb_unc gf
      have f10 : 0 ≤ 0 + ((-1) * ρ1 6 + (1 * ρ1 74 + 0)) := f10
      rw [r6, r74] at f10
      obtain ⟨f11, gf⟩ := hb_unc gf
      have f11 : 0 ≤ 0 + (1 * ρ1 6 + ((-1) * ρ1 74 + 0)) := f11
      rw [r6, r74] at f11
      obtain ⟨f12, gf⟩ := hb_unc gf
      have f12 : 0 ≤ 0 + ((-1) * ρ1 27 + (1 * ρ1 75 + 0)) := f12
      rw [r27, r75] at f12
      obtain ⟨f13, gf⟩ := hb_unc gf
      have f13 : 0 ≤ 0 + (1 * ρ1 27 + ((-1) * ρ1 75 + 0)) := f13
      rw [r27, r75] at f13
      obtain ⟨f14, gf⟩ := hb_unc gf
      have f14 : 0 ≤ 0 + ((-1) * ρ1 28 + (1 * ρ1 76 + 0)) := f14
      rw [r28, r76] at f14
      obtain ⟨f15, gf⟩ := hb_unc gf
      have f15 : 0 ≤ 0 + (1 * ρ1 28 + ((-1) * ρ1 76 + 0)) := f15
      rw [r28, r76] at f15
      obtain ⟨f16, gf⟩ := hb_unc gf
      have f16 : 0 ≤ 0 + ((-1) * ρ1 29 + (1 * ρ1 77 + 0)) := f16
      rw [r29, r77] at f16
      obtain ⟨f17, gf⟩ := hb_unc gf
      have f17 : 0 ≤ 0 + (1 * ρ1 29 + ((-1) * ρ1 77 + 0)) := f17
      rw [r29, r77] at f17
      obtain ⟨f18, gf⟩ := hb_unc gf
      have f18 : 0 ≤ 0 + ((-1) * ρ1 30 + (1 * ρ1 78 + 0)) := f18
      rw [r30, r78] at f18
      obtain ⟨f19, gf⟩ := hb_unc gf
      have f19 : 0 ≤ 0 + (1 * ρ1 30 + ((-1) * ρ1 78 + 0)) := f19
      rw [r30, r78] at f19
      obtain ⟨f20, gf⟩ := hb_unc gf
      have f20 : 0 ≤ 0 + (1 * ρ1 6 + ((-1) * ρ1 24 + 0)) := f20
      rw [r6, r24] at f20
      have hy1 : y1 = x1 := hb_inj f0 f1
      subst y1
      have hy2 : y2 = x2 := hb_inj f2 f3
      subst y2
      have hy3 : y3 = x3 := hb_inj f4 f5
      subst y3
      have hy4 : y4 = x4 := hb_inj f6 f7
      subst y4
      have hy5 : y5 = x5 := hb_inj f8 f9
      subst y5
      have hy6 : y6 = x6 := hb_inj f10 f11
      subst y6
      exact k0 M'  gs gx gw g8 ge  (by have h1 := f12; have h2 := f13; omega) (by have h1 := f14; have h2 := f15; omega) (by have h1 := f16; have h2 := f17; omega) (by have h1 := f18; have h2 := f19; omega) (by have h1 := f20; omega)
    rcases List.mem_cons.mp hs with rfl | hs
    · intro ρ1 L' st' M' g1 g2 gm gr gf gs gx gw g8 ge
      obtain ⟨e0, L1, rfl, n0, gg0⟩ := hb_l1 mz_GG g1
      obtain rfl : e0 = 234 := List.mem_singleton.mp n0
      obtain ⟨y1, L1, rfl, qr69, gg1⟩ := hb_l0 mz_GG gg0
      have r69 : ρ1 69 = y1.toInt := qr69
      obtain ⟨y2, L1, rfl, qr70, gg2⟩ := hb_l0 mz_GG gg1
      have r70 : ρ1 70 = y2.toInt := qr70
      obtain ⟨y3, L1, rfl, qr71, gg3⟩ := hb_l0 mz_GG gg2
      have r71 : ρ1 71 = y3.toInt := qr71
      obtain ⟨y4, L1, rfl, qr72, gg4⟩ := hb_l0 mz_GG gg3
      have r72 : ρ1 72 = y4.toInt := qr72
      obtain ⟨y5, L1, rfl, qr73, gg5⟩ := hb_l0 mz_GG gg4
      have r73 : ρ1 73 = y5.toInt := qr73
      obtain ⟨y6, L1, rfl, qr74, gg6⟩ := hb_l0 mz_GG gg5
      have r74 : ρ1 74 = y6.toInt := qr74
      obtain rfl := hb_ln mz_GG gg6
      obtain rfl := hb_pn mz_GG g2
      have r1 : ρ1 1 = x1.toInt := gr 1 (by decide +kernel)
      have r2 : ρ1 2 = x2.toInt := gr 2 (by decide +kernel)
      have r3 : ρ1 3 = x3.toInt := gr 3 (by decide +kernel)
      have r4 : ρ1 4 = x4.toInt := gr 4 (by decide +kernel)
      have r5 : ρ1 5 = x5.toInt := gr 5 (by decide +kernel)
      have r6 : ρ1 6 = x6.toInt := gr 6 (by decide +kernel)
      have r24 : ρ1 24 = hv M 234 15 := gr 24 (by decide +kernel)
      have r27 : ρ1 27 = hv M 234 21 := gr 27 (by decide +kernel)
      have r28 : ρ1 28 = hv M 234 23 := gr 28 (by decide +kernel)
      have r29 : ρ1 29 = hv M 234 24 := gr 29 (by decide +kernel)
      have r30 : ρ1 30 = hv M 234 25 := gr 30 (by decide +kernel)
      have r75 : ρ1 75 = hv M' 234 21 := gm 0 20 (234, 21) rfl rfl
      have r76 : ρ1 76 = hv M' 234 23 := gm 1 21 (234, 23) rfl rfl
      have r77 : ρ1 77 = hv M' 234 24 := gm 2 22 (234, 24) rfl rfl
      have r78 : ρ1 78 = hv M' 234 25 := gm 3 23 (234, 25) rfl rfl
      obtain ⟨f0, gf⟩ := hb_unc gf
      have f0 : 0 ≤ 0 + ((-1) * ρ1 1 + (1 * ρ1 69 + 0)) := f0
      rw [r1, r69] at f0
      obtain ⟨f1, gf⟩ := hb_unc gf
      have f1 : 0 ≤ 0 + (1 * ρ1 1 + ((-1) * ρ1 69 + 0)) := f1
      rw [r1, r69] at f1
      obtain ⟨f2, gf⟩ := hb_unc gf
      have f2 : 0 ≤ 0 + ((-1) * ρ1 2 + (1 * ρ1 70 + 0)) := f2
      rw [r2, r70] at f2
      obtain ⟨f3, gf⟩ := hb_unc gf
      have f3 : 0 ≤ 0 + (1 * ρ1 2 + ((-1) * ρ1 70 + 0)) := f3
      rw [r2, r70] at f3
      obtain ⟨f4, gf⟩ := hb_unc gf
      have f4 : 0 ≤ 0 + ((-1) * ρ1 3 + (1 * ρ1 71 + 0)) := f4
      rw [r3, r71] at f4
      obtain ⟨f5, gf⟩ := hb_unc gf
      have f5 : 0 ≤ 0 + (1 * ρ1 3 + ((-1) * ρ1 71 + 0)) := f5
      rw [r3, r71] at f5
      obtain ⟨f6, gf⟩ := hb_unc gf
      have f6 : 0 ≤ 0 + ((-1) * ρ1 4 + (1 * ρ1 72 + 0)) := f6
      rw [r4, r72] at f6
      obtain ⟨f7, gf⟩ := hb_unc gf
      have f7 : 0 ≤ 0 + (1 * ρ1 4 + ((-1) * ρ1 72 + 0)) := f7
      rw [r4, r72] at f7
      obtain ⟨f8, gf⟩ := hb_unc gf
      have f8 : 0 ≤ 0 + ((-1) * ρ1 5 + (1 * ρ1 73 + 0)) := f8
      rw [r5, r73] at f8
      obtain ⟨f9, gf⟩ := hb_unc gf
      have f9 : 0 ≤ 0 + (1 * ρ1 5 + ((-1) * ρ1 73 + 0)) := f9
      rw [r5, r73] at f9
      obtain ⟨f10, gf⟩ := hb_unc gf
      have f10 : 0 ≤ -1 + ((-1) * ρ1 6 + (1 * ρ1 74 + 0)) := f10
      rw [r6, r74] at f10
      obtain ⟨f11, gf⟩ := hb_unc gf
      have f11 : 0 ≤ 1 + (1 * ρ1 6 + ((-1) * ρ1 74 + 0)) := f11
      rw [r6, r74] at f11
      obtain ⟨f12, gf⟩ := hb_unc gf
      have f12 : 0 ≤ 0 + ((-1) * ρ1 27 + (1 * ρ1 75 + 0)) := f12
      rw [r27, r75] at f12
      obtain ⟨f13, gf⟩ := hb_unc gf
      have f13 : 0 ≤ 0 + (1 * ρ1 27 + ((-1) * ρ1 75 + 0)) := f13
      rw [r27, r75] at f13
      obtain ⟨f14, gf⟩ := hb_unc gf
      have f14 : 0 ≤ 0 + ((-1) * ρ1 28 + (1 * ρ1 76 + 0)) := f14
      rw [r28, r76] at f14
      obtain ⟨f15, gf⟩ := hb_unc gf
      have f15 : 0 ≤ 0 + (1 * ρ1 28 + ((-1) * ρ1 76 + 0)) := f15
      rw [r28, r76] at f15
      obtain ⟨f16, gf⟩ := hb_unc gf
      have f16 : 0 ≤ 0 + ((-1) * ρ1 29 + (1 * ρ1 77 + 0)) := f16
      rw [r29, r77] at f16
      obtain ⟨f17, gf⟩ := hb_unc gf
      have f17 : 0 ≤ 0 + (1 * ρ1 29 + ((-1) * ρ1 77 + 0)) := f17
      rw [r29, r77] at f17
      obtain ⟨f18, gf⟩ := hb_unc gf
      have f18 : 0 ≤ 0 + ((-1) * ρ1 30 + (1 * ρ1 78 + 0)) := f18
      rw [r30, r78] at f18
      obtain ⟨f19, gf⟩ := hb_unc gf
      have f19 : 0 ≤ 0 + (1 * ρ1 30 + ((-1) * ρ1 78 + 0)) := f19
      rw [r30, r78] at f19
      obtain ⟨f20, gf⟩ := hb_unc gf
      have f20 : 0 ≤ -1 + ((-1) * ρ1 6 + (1 * ρ1 24 + 0)) := f20
      rw [r6, r24] at f20
      have hy1 : y1 = x1 := hb_inj f0 f1
      subst y1
      have hy2 : y2 = x2 := hb_inj f2 f3
      subst y2
      have hy3 : y3 = x3 := hb_inj f4 f5
      subst y3
      have hy4 : y4 = x4 := hb_inj f6 f7
      subst y4
      have hy5 : y5 = x5 := hb_inj f8 f9
      subst y5
      exact k1 M' y6 gs gx gw g8 ge  (by have h1 := f10; have h2 := f11; omega) (by have h1 := f12; have h2 := f13; omega) (by have h1 := f14; have h2 := f15; omega) (by have h1 := f16; have h2 := f17; omega) (by have h1 := f18; have h2 := f19; omega) (by have h1 := f20; omega)
    cases hs
  · intro r S hpo
    obtain ⟨b1, b2, b3, b4, b5, p, hp, res, hf, hre⟩ := hpo
    cases hp

def hn_S (M M' : Nat → mq_C) : Prop := mz_fr mz_q139 M M' ∧ (∀ a, a < 8 → M' a = M a) ∧ hb_same mz_GG mz_q139 M M'
theorem hn_Sr {M : Nat → mq_C} : hn_S M M := ⟨hb_fr_r, fun _ _ => rfl, hb_same_r⟩
theorem hn_St {M M' M'' : Nat → mq_C} (h : hn_S M M') (h' : hn_S M' M'') : hn_S M M'' := ⟨hb_fr_t (q' := mz_q139) (fun a ha => ha) h.1 h'.1, fun a ha => (h'.2.1 a ha).trans (h.2.1 a ha), hb_same_t (q' := mz_q139) (fun j hj => hj) h.2.2 h'.2.2⟩
theorem hn_Sset {M M' : Nat → mq_C} {a : Nat} (ha : a = 250 ∨ a = 251) (hw : ∀ b, b ≠ a → M' b = M b) : hn_S M M' := by
  refine ⟨fun b _ hb => hw b ?_, fun b hb => hw b (by omega), ?_⟩
  · rintro rfl
    rcases ha with rfl | rfl <;> cases hb
  · refine hb_same_of (fun t => decide (t.1 ≠ 250 ∧ t.1 ≠ 251)) ?_ (by decide +kernel)
    intro t ht
    have := of_decide_eq_true ht
    exact hb_vc (hw _ (by omega)) _
theorem hn_S4 {M M' : Nat → mq_C} {i : Nat} (hi : i = 0 ∨ i = 15 ∨ i = 17 ∨ i = 19) (hw : ∀ b, b ≠ 234 → M' b = M b) (he : ∀ b j, b ≠ 234 ∨ j ≠ i → hv M' b j = hv M b j) : hn_S M M' := by
  refine ⟨fun b _ hb => hw b ?_, fun b hb => hw b (by omega), ?_⟩
  · rintro rfl
    cases hb
  · refine hb_same_of (fun t => decide (t.1 ≠ 234 ∨ t.2 ≠ 0 ∧ t.2 ≠ 15 ∧ t.2 ≠ 17 ∧ t.2 ≠ 19)) ?_ (by decide +kernel)
    intro t ht
    have := of_decide_eq_true ht
    exact he _ _ (by omega)
def hn_g (M : Nat → mq_C) (e : Nat) : Int := if (e : Int) < hv M 234 19 then 12 + hb_nm (hv M 251 (6 * e)) else 0
def hn_C (M Mc : Nat → mq_C) : Prop := mz_sh mz_GG Mc ∧ HX Mc ∧ hn_S M Mc ∧ hv Mc 234 17 = hv M 234 17 ∧ hv Mc 234 19 = hv M 234 19 ∧ hv Mc 234 15 = hv M 234 15 ∧ ∀ i : Nat, (i : Int) < 6 * hv M 234 19 → hv Mc 251 i = hv M 251 i
theorem hn_Cf {q' : mz_Q} {M Mc M' : Nat → mq_C} (h : hn_C M Mc) (hm : mz_sh mz_GG M') (hx : HX M') (h1 : mz_fr q' Mc M') (h2 : ∀ a, a < 8 → M' a = Mc a) (h3 : hb_same mz_GG q' Mc M') (hW : ∀ a ∈ q'.2.2.2.2.2, a ∈ mz_q139.2.2.2.2.2) (hp : ∀ a ∈ q'.2.2.2.1, a ∈ mz_q139.2.2.2.1) (hw : q'.2.2.2.2.2.elem 251 = false) (p1 : mz_pos 17 q'.2.2.2.1 = none) (p2 : mz_pos 18 q'.2.2.2.1 = none) (p3 : mz_pos 19 q'.2.2.2.1 = none) : hn_C M M' ∧ M' 251 = Mc 251 := by
  obtain ⟨a1, a2, a3, a4, a5, a6, a7⟩ := h
  have e := h1 251 (by decide) hw
  exact ⟨⟨hm, hx, hn_St a3 ⟨hb_fr_t (hb_wsub hW) hb_fr_r h1, h2, hb_same_t (hm_pos hp) hb_same_r h3⟩, (h3 18 (234, 17) rfl p2).trans a4, (h3 19 (234, 19) rfl p3).trans a5, (h3 17 (234, 15) rfl p1).trans a6, fun i hi => (hb_vc e i).trans (a7 i hi)⟩, e⟩
theorem hn_sp (k i : Nat) (hk : k ≠ 25) : hsp k 251 i = false := by
  match k with
  | 0 | 1 | 2 | 3 | 4 | 5 | 6 | 7 | 8 | 9 | 10 | 11 | 12 | 13 | 14 | 15 | 16 | 17 | 18 | 19 | 20 | 21 | 22 | 23 | 24 | 25 | 26 | 27 | 28 | 29 => first | exact absurd rfl hk | (exact decide_eq_false (by omega))
  | n + 30 => rfl
theorem hn_sp2 (k i : Nat) (hk : k ≠ 25) (hi : i = 17 ∨ i = 19 ∨ i = 15 ∨ i = 0) : hsp k 234 i = false := by
  match k with
  | 0 | 1 | 2 | 3 | 4 | 5 | 6 | 7 | 8 | 9 | 10 | 11 | 12 | 13 | 14 | 15 | 16 | 17 | 18 | 19 | 20 | 21 | 22 | 23 | 24 | 25 | 26 | 27 | 28 | 29 => first | exact absurd rfl hk | (exact decide_eq_false (by omega))
  | n + 30 => rfl
/-- an entry behind the last -/
theorem hn_Cs {M Mc M' : Nat → mq_C} {i : Nat} {v : Int32} (h : hn_C M Mc) (hm : mz_sh mz_GG M') (hs : hb_set Mc 251 i v = M') (hi : 6 * hv M 234 19 ≤ (i : Int)) : hn_C M M' := by
  obtain ⟨a1, a2, a3, a4, a5, a6, a7⟩ := h
  have e1 : ∀ b j, b ≠ 251 ∨ j ≠ i → hv M' b j = hv Mc b j := by intro b j h; rw [← hs]; exact hb_set_n h
  have w1 : ∀ b, b ≠ 251 → M' b = Mc b := by intro b h; rw [← hs]; exact hb_set_c h
  refine ⟨hm, fun k => ?_, hn_St a3 (hn_Sset (.inr rfl) w1), (e1 _ _ (.inl (by decide))).trans a4, (e1 _ _ (.inl (by decide))).trans a5, (e1 _ _ (.inl (by decide))).trans a6, fun t ht => (e1 _ _ (.inr (by omega))).trans (a7 t ht)⟩
  by_cases e : k = 25
  · subst e
    have h12 : hx12 Mc := a2 25
    show hx12 M'
    unfold hx12 at h12 ⊢
    rw [e1 _ _ (.inl (by decide)), e1 _ _ (.inl (by decide)), hb_sum_c 6 (g := fun e => if (e : Int) < hv Mc 234 19 then 12 + hb_nm (hv Mc 251 (6 * e)) else 0)]
    · exact h12
    · intro t _
      by_cases ht : (t : Int) < hv Mc 234 19
      · rw [if_pos ht, if_pos ht, e1 _ _ (.inr (by omega))]
      · rw [if_neg ht, if_neg ht]
  · rw [← hs]
    exact hxk_s (hn_sp k i e) (a2 k)
theorem hn_tail {f : Nat → Int} {c : Nat} (h : ∀ e, c ≤ e → f e = 0) : ∀ m, hb_sum f (c + m) = hb_sum f c := by
  intro m
  induction m with
  | zero => rfl
  | succ m ih =>
    show hb_sum f (c + m) + f (c + m) = _
    rw [ih, h _ (by omega)]
    omega
theorem hn_e305 {d z u : Nat} {Q : (Option Value ⊕ Nat) → mq_S → Prop} {M Mc : Nat → mq_C} {x1 x2 x3 x4 x5 x6 : Int32} (hC : ∀ c ∈ mz_Cs, c.2 < 8 → mz_Ct mz_GG mq_PP HX c.1 c.2) (hd : 8 ≤ d) (hz : 272 ≤ z) (hc : hn_C M Mc) (h19 : hv M 234 19 ≤ 5) (h19' : 0 ≤ hv M 234 19) (hb0 : 0 ≤ hv M 234 17) (hd0 : 0 ≤ hv M 234 15) (tot : hv M 234 17 + 2 + hv M 234 15 + 12 + hb_nm x1.toInt + 4 + hb_sum (hn_g M) 6 ≤ 240) (hbd : hv M 234 17 + hv M 234 15 ≤ 222) (hx2 : 0 ≤ x2.toInt) (hx2' : x2.toInt ≤ 8) (hd15 : hv M 234 15 ≤ 120) (h51 : hv Mc 251 (6 * (hv M 234 19).toNat) = x1.toInt)
    (K : ∀ (M' : Nat → mq_C) (r : Int32), mz_sh mz_GG M' → HX M' → hn_S M M' → 0 ≤ r.toInt → r.toInt ≤ 1 → Q (.inl (some (.int r))) (M', z, u)) : mq_R mq_PP d 124 305 [some (.ref 234), some (.int x1), some (.int x2), some (.int x3), some (.int x4), some (.int x5), some (.int x6)] [] (Mc, z, u) Q := by
  obtain ⟨hm, hx, hS, e17, e19, e15, e51⟩ := id hc
  refine he_aload (n := 306) (i := 0) (by decide +kernel) rfl ?_
  refine he_dup_r (n := 307) (by decide +kernel) ?_
  refine hb_gfd (n := 310) (ci := 9) (j := 17) (ns := [4194, 191]) hm (by decide +kernel) rfl rfl (by decide) rfl ?_
  intro v307 hv307 lv307 uv307
  have q307 : v307.toInt = hv M 234 17 := by rw [← hv307]; exact e17
  refine he_iconst (n := 311) (c := 2) (by decide +kernel) (by decide) ?_
  intro c310 hc310
  refine he_aload (n := 312) (i := 0) (by decide +kernel) rfl ?_
  refine hb_gfd (n := 315) (ci := 9) (j := 15) (ns := [4192, 186]) hm (by decide +kernel) rfl rfl (by decide) rfl ?_
  intro v312 hv312 lv312 uv312
  have q312 : v312.toInt = hv M 234 15 := by rw [← hv312]; exact e15
  refine he_iadd (n := 316) (by decide +kernel) (by omega) (by omega) ?_
  intro v315 hv315
  refine he_iadd (n := 317) (by decide +kernel) (by omega) (by omega) ?_
  intro v316 hv316
  refine hb_pfd (n := 320) (ci := 9) (j := 17) (t := 0) (ns := [4194, 191]) hm (by decide +kernel) rfl rfl (by decide) (.inl rfl) ?_
  generalize hM1 : hb_set Mc 234 17 v316 = M1
  have hm1 : mz_sh mz_GG M1 := by rw [← hM1]; exact hb_set_sh hm rfl rfl (by omega) (by omega)
  have eM1 : ∀ b j, b ≠ 234 ∨ j ≠ 17 → hv M1 b j = hv Mc b j := by intro b j h; rw [← hM1]; exact hb_set_n h
  have sM1 : hv M1 234 17 = v316.toInt := by rw [← hM1]; exact hb_set_v hm rfl (by decide)
  have wM1 : ∀ b, b ≠ 234 → M1 b = Mc b := by intro b h; rw [← hM1]; exact hb_set_c h
  refine he_aload (n := 321) (i := 0) (by decide +kernel) rfl ?_
  refine he_dup_r (n := 322) (by decide +kernel) ?_
  refine hb_gfd (n := 325) (ci := 9) (j := 19) (ns := [4196, 197]) hm1 (by decide +kernel) rfl rfl (by decide) rfl ?_
  intro v322 hv322 lv322 uv322
  have q322 : v322.toInt = hv M 234 19 := by rw [← hv322, eM1 _ _ (.inr (by decide))]; exact e19
  refine he_iconst (n := 326) (c := 1) (by decide +kernel) (by decide) ?_
  intro c325 hc325
  refine he_iadd (n := 327) (by decide +kernel) (by omega) (by omega) ?_
  intro v326 hv326
  refine hb_pfd (n := 330) (ci := 9) (j := 19) (t := 0) (ns := [4196, 197]) hm1 (by decide +kernel) rfl rfl (by decide) (.inl rfl) ?_
  generalize hM2 : hb_set M1 234 19 v326 = M2
  have hm2 : mz_sh mz_GG M2 := by rw [← hM2]; exact hb_set_sh hm1 rfl rfl (by omega) (by omega)
  have eM2 : ∀ b j, b ≠ 234 ∨ j ≠ 19 → hv M2 b j = hv M1 b j := by intro b j h; rw [← hM2]; exact hb_set_n h
  have sM2 : hv M2 234 19 = v326.toInt := by rw [← hM2]; exact hb_set_v hm1 rfl (by decide)
  have wM2 : ∀ b, b ≠ 234 → M2 b = M1 b := by intro b h; rw [← hM2]; exact hb_set_c h
  refine he_aload (n := 331) (i := 0) (by decide +kernel) rfl ?_
  refine he_iconst (n := 332) (c := 0) (by decide +kernel) (by decide) ?_
  intro c331 hc331
  refine hb_pfd (n := 335) (ci := 9) (j := 15) (t := 0) (ns := [4192, 186]) hm2 (by decide +kernel) rfl rfl (by decide) (.inl rfl) ?_
  generalize hM3 : hb_set M2 234 15 c331 = M3
  have hm3 : mz_sh mz_GG M3 := by rw [← hM3]; exact hb_set_sh hm2 rfl rfl (by omega) (by omega)
  have eM3 : ∀ b j, b ≠ 234 ∨ j ≠ 15 → hv M3 b j = hv M2 b j := by intro b j h; rw [← hM3]; exact hb_set_n h
  have sM3 : hv M3 234 15 = c331.toInt := by rw [← hM3]; exact hb_set_v hm2 rfl (by decide)
  have wM3 : ∀ b, b ≠ 234 → M3 b = M2 b := by intro b h; rw [← hM3]; exact hb_set_c h
  refine he_iconst (n := 336) (c := 1) (by decide +kernel) (by decide) ?_
  intro c335 hc335
  refine he_retz (by decide +kernel) (by omega) ?_
  obtain ⟨c, hc19⟩ : ∃ c : Nat, hv M 234 19 = (c : Int) := ⟨(hv M 234 19).toNat, by omega⟩
  rw [show 6 * (hv M 234 19).toNat = 6 * c by omega] at h51
  refine K M3 _ hm3 (fun k => ?_) (hn_St hS (hn_St (hn_S4 (i := 17) (by omega) wM1 eM1) (hn_St (hn_S4 (i := 19) (by omega) wM2 eM2) (hn_S4 (i := 15) (by omega) wM3 eM3)))) (by omega) (by omega)
  by_cases e : k = 25
  · subst e
    show hx12 M3
    unfold hx12
    have s17 : hv M3 234 17 = hv M 234 17 + 2 + hv M 234 15 := by
      rw [eM3 _ _ (.inr (by decide)), eM2 _ _ (.inr (by decide)), sM1]
      omega
    have s19 : hv M3 234 19 = (c : Int) + 1 := by
      rw [eM3 _ _ (.inr (by decide)), sM2]
      omega
    have s51 : ∀ i, hv M3 251 i = hv Mc 251 i := fun i => by rw [hb_vc (wM3 251 (by decide)), hb_vc (wM2 251 (by decide)), hb_vc (wM1 251 (by decide))]
    have k1 : hb_sum (fun e => if (e : Int) < hv M3 234 19 then 12 + hb_nm (hv M3 251 (6 * e)) else 0) 6 = hb_sum (hn_g M) 6 + 12 + hb_nm x1.toInt := by
      have t1 := hn_tail (f := fun e => if (e : Int) < hv M3 234 19 then 12 + hb_nm (hv M3 251 (6 * e)) else 0) (c := c + 1) (fun e he => by
        show (if (e : Int) < hv M3 234 19 then _ else (0 : Int)) = 0
        rw [if_neg (by omega)]) (5 - c)
      have t2 := hn_tail (f := hn_g M) (c := c) (fun e he => by unfold hn_g; rw [if_neg (by omega)]) (6 - c)
      rw [show c + 1 + (5 - c) = 6 by omega] at t1
      rw [show c + (6 - c) = 6 by omega] at t2
      rw [t1, t2]
      show hb_sum (fun e => if (e : Int) < hv M3 234 19 then 12 + hb_nm (hv M3 251 (6 * e)) else 0) c + (if (c : Int) < hv M3 234 19 then 12 + hb_nm (hv M3 251 (6 * c)) else 0) = _
      rw [if_pos (by omega), s51, h51, hb_sum_c c (g := hn_g M)]
      · omega
      · intro i hi
        unfold hn_g
        rw [if_pos (by omega), if_pos (by omega), s51, e51 _ (by omega)]
    rw [k1, s17]
    omega
  · rw [← hM3]
    refine hxk_s (hn_sp2 k _ e (by omega)) ?_
    rw [← hM2]
    refine hxk_s (hn_sp2 k _ e (by omega)) ?_
    rw [← hM1]
    exact hxk_s (hn_sp2 k _ e (by omega)) (hx k)
theorem hn_e269 {d z u : Nat} {Q : (Option Value ⊕ Nat) → mq_S → Prop} {M : Nat → mq_C} {x1 x2 x3 x4 x5 : Int32} (hC : ∀ c ∈ mz_Cs, c.2 < 8 → mz_Ct mz_GG mq_PP HX c.1 c.2) (hd : 8 ≤ d) (hz : 272 ≤ z) (h19 : hv M 234 19 ≤ 5) (h19' : 0 ≤ hv M 234 19) (hb0 : 0 ≤ hv M 234 17) (hd0 : 0 ≤ hv M 234 15) (tot : hv M 234 17 + 2 + hv M 234 15 + 12 + hb_nm x1.toInt + 4 + hb_sum (hn_g M) 6 ≤ 240) (hbd : hv M 234 17 + hv M 234 15 ≤ 222) (hx2 : 0 ≤ x2.toInt) (hx2' : x2.toInt ≤ 8) (hd15 : hv M 234 15 ≤ 120)
    (K : ∀ (M' : Nat → mq_C) (r : Int32), mz_sh mz_GG M' → HX M' → hn_S M M' → 0 ≤ r.toInt → r.toInt ≤ 1 → Q (.inl (some (.int r))) (M', z, u)) : ∀ (m : Nat) (Mc : Nat → mq_C) (x6 : Int32), hn_C M Mc → hv Mc 251 (6 * (hv M 234 19).toNat) = x1.toInt → 0 ≤ x6.toInt → hv M 234 15 ≤ x6.toInt + (m : Int) ∧ x6.toInt ≤ 120 → mq_R mq_PP d 124 269 [some (.ref 234), some (.int x1), some (.int x2), some (.int x3), some (.int x4), some (.int x5), some (.int x6)] [] (Mc, z, u) Q := by
  intro m
  induction m with
  | zero =>
    intro Mc x6 hc h51 h6 h6m
    obtain ⟨hm, hx, hS, e17, e19, e15, e51⟩ := id hc
    refine hn_b4 HX_same (fun c hc h => hC c hc (by omega)) (by omega) hz hm hx (by omega) (by omega) (by omega) ?_ ?_
    · intro M2  gs gx gw g8 ge 
      intros
      obtain ⟨hc2, e2⟩ := hn_Cf (q' := hn_b4_q) hc gs gx gw g8 ge (by decide) (by decide) rfl rfl rfl rfl
      exact hn_e305 hC hd hz hc2 h19 h19' hb0 hd0 tot hbd hx2 hx2' hd15 (by rw [hb_vc e2]; exact h51) K
    · intro M2 y6 gs gx gw g8 ge 
      intros
      obtain ⟨hc2, e2⟩ := hn_Cf (q' := hn_b4_q) hc gs gx gw g8 ge (by decide) (by decide) rfl rfl rfl rfl
      omega
  | succ m ih =>
    intro Mc x6 hc h51 h6 h6m
    obtain ⟨hm, hx, hS, e17, e19, e15, e51⟩ := id hc
    refine hn_b4 HX_same (fun c hc h => hC c hc (by omega)) (by omega) hz hm hx (by omega) (by omega) (by omega) ?_ ?_
    · intro M2  gs gx gw g8 ge 
      intros
      obtain ⟨hc2, e2⟩ := hn_Cf (q' := hn_b4_q) hc gs gx gw g8 ge (by decide) (by decide) rfl rfl rfl rfl
      exact hn_e305 hC hd hz hc2 h19 h19' hb0 hd0 tot hbd hx2 hx2' hd15 (by rw [hb_vc e2]; exact h51) K
    · intro M2 y6 gs gx gw g8 ge 
      intros
      obtain ⟨hc2, e2⟩ := hn_Cf (q' := hn_b4_q) hc gs gx gw g8 ge (by decide) (by decide) rfl rfl rfl rfl
      exact ih M2 y6 hc2 (by rw [hb_vc e2]; exact h51) (by omega) (by omega)
theorem hn_e243 {o6 : Option Value} {d z u : Nat} {Q : (Option Value ⊕ Nat) → mq_S → Prop} {M Mc : Nat → mq_C} {x1 x2 x3 x4 x5 : Int32} (hC : ∀ c ∈ mz_Cs, c.2 < 8 → mz_Ct mz_GG mq_PP HX c.1 c.2) (hd : 8 ≤ d) (hz : 272 ≤ z) (hc : hn_C M Mc) (h19 : hv M 234 19 ≤ 5) (h19' : 0 ≤ hv M 234 19) (hb0 : 0 ≤ hv M 234 17) (hd0 : 0 ≤ hv M 234 15) (tot : hv M 234 17 + 2 + hv M 234 15 + 12 + hb_nm x1.toInt + 4 + hb_sum (hn_g M) 6 ≤ 240) (hbd : hv M 234 17 + hv M 234 15 ≤ 222) (hx2 : 0 ≤ x2.toInt) (hx2' : x2.toInt ≤ 8) (hd15 : hv M 234 15 ≤ 120) (h51 : hv Mc 251 (6 * (hv M 234 19).toNat) = x1.toInt) (h6 : mq_nl o6 = true)
    (K : ∀ (M' : Nat → mq_C) (r : Int32), mz_sh mz_GG M' → HX M' → hn_S M M' → 0 ≤ r.toInt → r.toInt ≤ 1 → Q (.inl (some (.int r))) (M', z, u)) : mq_R mq_PP d 124 243 [some (.ref 234), some (.int x1), some (.int x2), some (.int x3), some (.int x4), some (.int x5), o6] [] (Mc, z, u) Q := by
  obtain ⟨hm, hx, hS, e17, e19, e15, e51⟩ := id hc
  refine hn_b3 HX_same (fun c hc h => hC c hc (by omega)) (by omega) hz hm hx h6 (by omega) (by omega) (by omega) ?_
  · intro M2 y6 gs gx gw g8 ge 
    intros
    obtain ⟨hc2, e2⟩ := hn_Cf (q' := hn_b3_q) hc gs gx gw g8 ge (by decide) (by decide) rfl rfl rfl rfl
    exact hn_e269 hC hd hz h19 h19' hb0 hd0 tot hbd hx2 hx2' hd15 K 120 M2 y6 hc2 (by rw [hb_vc e2]; exact h51) (by omega) (by omega)
theorem hn_e194 {o6 : Option Value} {d z u : Nat} {Q : (Option Value ⊕ Nat) → mq_S → Prop} {M Mc : Nat → mq_C} {x1 x2 x3 x4 x5 v ix : Int32} (hC : ∀ c ∈ mz_Cs, c.2 < 8 → mz_Ct mz_GG mq_PP HX c.1 c.2) (hd : 8 ≤ d) (hz : 272 ≤ z) (hc : hn_C M Mc) (h19 : hv M 234 19 ≤ 5) (h19' : 0 ≤ hv M 234 19) (hb0 : 0 ≤ hv M 234 17) (hd0 : 0 ≤ hv M 234 15) (tot : hv M 234 17 + 2 + hv M 234 15 + 12 + hb_nm x1.toInt + 4 + hb_sum (hn_g M) 6 ≤ 240) (hbd : hv M 234 17 + hv M 234 15 ≤ 222) (hx2 : 0 ≤ x2.toInt) (hx2' : x2.toInt ≤ 8) (hd15 : hv M 234 15 ≤ 120) (h51 : hv Mc 251 (6 * (hv M 234 19).toNat) = x1.toInt) (h5 : x5.toInt = 6 * hv M 234 19) (hix : ix.toInt = x5.toInt + 2) (h6 : mq_nl o6 = true)
    (K : ∀ (M' : Nat → mq_C) (r : Int32), mz_sh mz_GG M' → HX M' → hn_S M M' → 0 ≤ r.toInt → r.toInt ≤ 1 → Q (.inl (some (.int r))) (M', z, u)) : mq_R mq_PP d 124 194 [some (.ref 234), some (.int x1), some (.int x2), some (.int x3), some (.int x4), some (.int x5), o6] [.int v, .int ix, .ref 251] (Mc, z, u) Q := by
  obtain ⟨hm, hx, hS, e17, e19, e15, e51⟩ := id hc
  have bv := mz_i32 v
  refine hb_sta (n := 195) (kind := 64) hm (by decide +kernel) rfl rfl (.inl rfl) (by omega) (show _ < (36 : Int) by omega) ?_
  generalize hM1 : hb_set Mc 251 (ix.toInt.toNat) v = M1
  have hm1 : mz_sh mz_GG M1 := by rw [← hM1]; exact hb_set_sh hm rfl hb_at1 (by omega) (by omega)
  have eM1 : ∀ b j, b ≠ 251 ∨ j ≠ ix.toInt.toNat → hv M1 b j = hv Mc b j := by intro b j h; rw [← hM1]; exact hb_set_n h
  have sM1 : hv M1 251 (ix.toInt.toNat) = v.toInt := by rw [← hM1]; exact hb_set_v hm rfl (show _ < 36 by omega)
  have wM1 : ∀ b, b ≠ 251 → M1 b = Mc b := by intro b h; rw [← hM1]; exact hb_set_c h
  refine he_aload (n := 196) (i := 0) (by decide +kernel) rfl ?_
  refine he_getr (n := 199) (ci := 9) (j := 20) (ns := [4197, 59]) (b := 251) hm1 (by decide +kernel) rfl rfl (by decide +kernel) ?_
  refine he_iload (n := 201) (i := 5) (by decide +kernel) rfl ?_
  refine he_iconst (n := 202) (c := 3) (by decide +kernel) (by decide) ?_
  intro c201 hc201
  refine he_iadd (n := 203) (by decide +kernel) (by omega) (by omega) ?_
  intro v202 hv202
  refine he_iload (n := 205) (i := 4) (by decide +kernel) rfl ?_
  by_cases h205 : x4.toInt = 0
  · skip
    refine he_ifeq_t (n := 208) (t := 215) (by decide +kernel) (by omega) ?_
    refine he_iconst (n := 216) (c := 0) (by decide +kernel) (by decide) ?_
    intro c215 hc215
    refine hb_sta (n := 217) (kind := 64) hm1 (by decide +kernel) rfl rfl (.inl rfl) (by omega) (show _ < (36 : Int) by omega) ?_
    generalize hM2 : hb_set M1 251 (v202.toInt.toNat) c215 = M2
    have hm2 : mz_sh mz_GG M2 := by rw [← hM2]; exact hb_set_sh hm1 rfl hb_at1 (by omega) (by omega)
    have eM2 : ∀ b j, b ≠ 251 ∨ j ≠ v202.toInt.toNat → hv M2 b j = hv M1 b j := by intro b j h; rw [← hM2]; exact hb_set_n h
    have sM2 : hv M2 251 (v202.toInt.toNat) = c215.toInt := by rw [← hM2]; exact hb_set_v hm1 rfl (show _ < 36 by omega)
    have wM2 : ∀ b, b ≠ 251 → M2 b = M1 b := by intro b h; rw [← hM2]; exact hb_set_c h
    refine he_aload (n := 218) (i := 0) (by decide +kernel) rfl ?_
    refine he_getr (n := 221) (ci := 9) (j := 20) (ns := [4197, 59]) (b := 251) hm2 (by decide +kernel) rfl rfl (by decide +kernel) ?_
    refine he_iload (n := 223) (i := 5) (by decide +kernel) rfl ?_
    refine he_iconst (n := 224) (c := 4) (by decide +kernel) (by decide) ?_
    intro c223 hc223
    refine he_iadd (n := 225) (by decide +kernel) (by omega) (by omega) ?_
    intro v224 hv224
    refine he_aload (n := 226) (i := 0) (by decide +kernel) rfl ?_
    refine hb_gfd (n := 229) (ci := 9) (j := 15) (ns := [4192, 186]) hm2 (by decide +kernel) rfl rfl (by decide) rfl ?_
    intro v226 hv226 lv226 uv226
    refine hb_sta (n := 230) (kind := 64) hm2 (by decide +kernel) rfl rfl (.inl rfl) (by omega) (show _ < (36 : Int) by omega) ?_
    generalize hM3 : hb_set M2 251 (v224.toInt.toNat) v226 = M3
    have hm3 : mz_sh mz_GG M3 := by rw [← hM3]; exact hb_set_sh hm2 rfl hb_at1 (by omega) (by omega)
    have eM3 : ∀ b j, b ≠ 251 ∨ j ≠ v224.toInt.toNat → hv M3 b j = hv M2 b j := by intro b j h; rw [← hM3]; exact hb_set_n h
    have sM3 : hv M3 251 (v224.toInt.toNat) = v226.toInt := by rw [← hM3]; exact hb_set_v hm2 rfl (show _ < 36 by omega)
    have wM3 : ∀ b, b ≠ 251 → M3 b = M2 b := by intro b h; rw [← hM3]; exact hb_set_c h
    refine he_aload (n := 231) (i := 0) (by decide +kernel) rfl ?_
    refine he_getr (n := 234) (ci := 9) (j := 20) (ns := [4197, 59]) (b := 251) hm3 (by decide +kernel) rfl rfl (by decide +kernel) ?_
    refine he_iload (n := 236) (i := 5) (by decide +kernel) rfl ?_
    refine he_iconst (n := 237) (c := 5) (by decide +kernel) (by decide) ?_
    intro c236 hc236
    refine he_iadd (n := 238) (by decide +kernel) (by omega) (by omega) ?_
    intro v237 hv237
    refine he_aload (n := 239) (i := 0) (by decide +kernel) rfl ?_
    refine hb_gfd (n := 242) (ci := 9) (j := 17) (ns := [4194, 191]) hm3 (by decide +kernel) rfl rfl (by decide) rfl ?_
    intro v239 hv239 lv239 uv239
    refine hb_sta (n := 243) (kind := 64) hm3 (by decide +kernel) rfl rfl (.inl rfl) (by omega) (show _ < (36 : Int) by omega) ?_
    generalize hM4 : hb_set M3 251 (v237.toInt.toNat) v239 = M4
    have hm4 : mz_sh mz_GG M4 := by rw [← hM4]; exact hb_set_sh hm3 rfl hb_at1 (by omega) (by omega)
    have eM4 : ∀ b j, b ≠ 251 ∨ j ≠ v237.toInt.toNat → hv M4 b j = hv M3 b j := by intro b j h; rw [← hM4]; exact hb_set_n h
    have sM4 : hv M4 251 (v237.toInt.toNat) = v239.toInt := by rw [← hM4]; exact hb_set_v hm3 rfl (show _ < 36 by omega)
    have wM4 : ∀ b, b ≠ 251 → M4 b = M3 b := by intro b h; rw [← hM4]; exact hb_set_c h
    have hc1 : hn_C M M1 := hn_Cs hc hm1 hM1 (by omega)
    have hc2 : hn_C M M2 := hn_Cs hc1 hm2 hM2 (by omega)
    have hc3 : hn_C M M3 := hn_Cs hc2 hm3 hM3 (by omega)
    have hc4 : hn_C M M4 := hn_Cs hc3 hm4 hM4 (by omega)
    exact hn_e243 hC hd hz hc4 h19 h19' hb0 hd0 tot hbd hx2 hx2' hd15 (by rw [eM4 _ _ (.inr (by omega)), eM3 _ _ (.inr (by omega)), eM2 _ _ (.inr (by omega)), eM1 _ _ (.inr (by omega))]; exact h51) h6 K
  · skip
    refine he_ifeq_f (n := 208) (t := 215) (by decide +kernel) (by omega) ?_
    refine he_aload (n := 209) (i := 0) (by decide +kernel) rfl ?_
    refine hb_gfd (n := 212) (ci := 9) (j := 25) (ns := [4202, 143]) hm1 (by decide +kernel) rfl rfl (by decide) rfl ?_
    intro v209 hv209 lv209 uv209
    refine he_goto (t := 216) (by decide +kernel) ?_
    refine hb_sta (n := 217) (kind := 64) hm1 (by decide +kernel) rfl rfl (.inl rfl) (by omega) (show _ < (36 : Int) by omega) ?_
    generalize hM2 : hb_set M1 251 (v202.toInt.toNat) v209 = M2
    have hm2 : mz_sh mz_GG M2 := by rw [← hM2]; exact hb_set_sh hm1 rfl hb_at1 (by omega) (by omega)
    have eM2 : ∀ b j, b ≠ 251 ∨ j ≠ v202.toInt.toNat → hv M2 b j = hv M1 b j := by intro b j h; rw [← hM2]; exact hb_set_n h
    have sM2 : hv M2 251 (v202.toInt.toNat) = v209.toInt := by rw [← hM2]; exact hb_set_v hm1 rfl (show _ < 36 by omega)
    have wM2 : ∀ b, b ≠ 251 → M2 b = M1 b := by intro b h; rw [← hM2]; exact hb_set_c h
    refine he_aload (n := 218) (i := 0) (by decide +kernel) rfl ?_
    refine he_getr (n := 221) (ci := 9) (j := 20) (ns := [4197, 59]) (b := 251) hm2 (by decide +kernel) rfl rfl (by decide +kernel) ?_
    refine he_iload (n := 223) (i := 5) (by decide +kernel) rfl ?_
    refine he_iconst (n := 224) (c := 4) (by decide +kernel) (by decide) ?_
    intro c223 hc223
    refine he_iadd (n := 225) (by decide +kernel) (by omega) (by omega) ?_
    intro v224 hv224
    refine he_aload (n := 226) (i := 0) (by decide +kernel) rfl ?_
    refine hb_gfd (n := 229) (ci := 9) (j := 15) (ns := [4192, 186]) hm2 (by decide +kernel) rfl rfl (by decide) rfl ?_
    intro v226 hv226 lv226 uv226
    refine hb_sta (n := 230) (kind := 64) hm2 (by decide +kernel) rfl rfl (.inl rfl) (by omega) (show _ < (36 : Int) by omega) ?_
    generalize hM3 : hb_set M2 251 (v224.toInt.toNat) v226 = M3
    have hm3 : mz_sh mz_GG M3 := by rw [← hM3]; exact hb_set_sh hm2 rfl hb_at1 (by omega) (by omega)
    have eM3 : ∀ b j, b ≠ 251 ∨ j ≠ v224.toInt.toNat → hv M3 b j = hv M2 b j := by intro b j h; rw [← hM3]; exact hb_set_n h
    have sM3 : hv M3 251 (v224.toInt.toNat) = v226.toInt := by rw [← hM3]; exact hb_set_v hm2 rfl (show _ < 36 by omega)
    have wM3 : ∀ b, b ≠ 251 → M3 b = M2 b := by intro b h; rw [← hM3]; exact hb_set_c h
    refine he_aload (n := 231) (i := 0) (by decide +kernel) rfl ?_
    refine he_getr (n := 234) (ci := 9) (j := 20) (ns := [4197, 59]) (b := 251) hm3 (by decide +kernel) rfl rfl (by decide +kernel) ?_
    refine he_iload (n := 236) (i := 5) (by decide +kernel) rfl ?_
    refine he_iconst (n := 237) (c := 5) (by decide +kernel) (by decide) ?_
    intro c236 hc236
    refine he_iadd (n := 238) (by decide +kernel) (by omega) (by omega) ?_
    intro v237 hv237
    refine he_aload (n := 239) (i := 0) (by decide +kernel) rfl ?_
    refine hb_gfd (n := 242) (ci := 9) (j := 17) (ns := [4194, 191]) hm3 (by decide +kernel) rfl rfl (by decide) rfl ?_
    intro v239 hv239 lv239 uv239
    refine hb_sta (n := 243) (kind := 64) hm3 (by decide +kernel) rfl rfl (.inl rfl) (by omega) (show _ < (36 : Int) by omega) ?_
    generalize hM4 : hb_set M3 251 (v237.toInt.toNat) v239 = M4
    have hm4 : mz_sh mz_GG M4 := by rw [← hM4]; exact hb_set_sh hm3 rfl hb_at1 (by omega) (by omega)
    have eM4 : ∀ b j, b ≠ 251 ∨ j ≠ v237.toInt.toNat → hv M4 b j = hv M3 b j := by intro b j h; rw [← hM4]; exact hb_set_n h
    have sM4 : hv M4 251 (v237.toInt.toNat) = v239.toInt := by rw [← hM4]; exact hb_set_v hm3 rfl (show _ < 36 by omega)
    have wM4 : ∀ b, b ≠ 251 → M4 b = M3 b := by intro b h; rw [← hM4]; exact hb_set_c h
    have hc1 : hn_C M M1 := hn_Cs hc hm1 hM1 (by omega)
    have hc2 : hn_C M M2 := hn_Cs hc1 hm2 hM2 (by omega)
    have hc3 : hn_C M M3 := hn_Cs hc2 hm3 hM3 (by omega)
    have hc4 : hn_C M M4 := hn_Cs hc3 hm4 hM4 (by omega)
    exact hn_e243 hC hd hz hc4 h19 h19' hb0 hd0 tot hbd hx2 hx2' hd15 (by rw [eM4 _ _ (.inr (by omega)), eM3 _ _ (.inr (by omega)), eM2 _ _ (.inr (by omega)), eM1 _ _ (.inr (by omega))]; exact h51) h6 K
theorem hn_e155 {o6 : Option Value} {d z u : Nat} {Q : (Option Value ⊕ Nat) → mq_S → Prop} {M Mc : Nat → mq_C} {x1 x2 x3 x4 x5 : Int32} (hC : ∀ c ∈ mz_Cs, c.2 < 8 → mz_Ct mz_GG mq_PP HX c.1 c.2) (hd : 8 ≤ d + 1) (hz : 272 ≤ z) (hc : hn_C M Mc) (h19 : hv M 234 19 ≤ 5) (h19' : 0 ≤ hv M 234 19) (hb0 : 0 ≤ hv M 234 17) (hd0 : 0 ≤ hv M 234 15) (tot : hv M 234 17 + 2 + hv M 234 15 + 12 + hb_nm x1.toInt + 4 + hb_sum (hn_g M) 6 ≤ 240) (hbd : hv M 234 17 + hv M 234 15 ≤ 222) (hx2 : 0 ≤ x2.toInt) (hx2' : x2.toInt ≤ 8) (hd15 : hv M 234 15 ≤ 120) (h5 : x5.toInt = 6 * hv M 234 19) (h6 : mq_nl o6 = true)
    (K : ∀ (M' : Nat → mq_C) (r : Int32), mz_sh mz_GG M' → HX M' → hn_S M M' → 0 ≤ r.toInt → r.toInt ≤ 1 → Q (.inl (some (.int r))) (M', z, u)) : mq_R mq_PP (d + 1) 124 155 [some (.ref 234), some (.int x1), some (.int x2), some (.int x3), some (.int x4), some (.int x5), o6] [] (Mc, z, u) Q := by
  obtain ⟨hm, hx, hS, e17, e19, e15, e51⟩ := id hc
  have bx1 := mz_i32 x1
  refine he_aload (n := 156) (i := 0) (by decide +kernel) rfl ?_
  refine he_getr (n := 159) (ci := 9) (j := 20) (ns := [4197, 59]) (b := 251) hm (by decide +kernel) rfl rfl (by decide +kernel) ?_
  refine he_iload (n := 161) (i := 5) (by decide +kernel) rfl ?_
  refine he_iload (n := 162) (i := 1) (by decide +kernel) rfl ?_
  refine hb_sta (n := 163) (kind := 64) hm (by decide +kernel) rfl rfl (.inl rfl) (by omega) (show _ < (36 : Int) by omega) ?_
  generalize hM1 : hb_set Mc 251 (x5.toInt.toNat) x1 = M1
  have hm1 : mz_sh mz_GG M1 := by rw [← hM1]; exact hb_set_sh hm rfl hb_at1 (by omega) (by omega)
  have eM1 : ∀ b j, b ≠ 251 ∨ j ≠ x5.toInt.toNat → hv M1 b j = hv Mc b j := by intro b j h; rw [← hM1]; exact hb_set_n h
  have sM1 : hv M1 251 (x5.toInt.toNat) = x1.toInt := by rw [← hM1]; exact hb_set_v hm rfl (show _ < 36 by omega)
  have wM1 : ∀ b, b ≠ 251 → M1 b = Mc b := by intro b h; rw [← hM1]; exact hb_set_c h
  refine he_aload (n := 164) (i := 0) (by decide +kernel) rfl ?_
  refine he_getr (n := 167) (ci := 9) (j := 20) (ns := [4197, 59]) (b := 251) hm1 (by decide +kernel) rfl rfl (by decide +kernel) ?_
  refine he_iload (n := 169) (i := 5) (by decide +kernel) rfl ?_
  refine he_iconst (n := 170) (c := 1) (by decide +kernel) (by decide) ?_
  intro c169 hc169
  refine he_iadd (n := 171) (by decide +kernel) (by omega) (by omega) ?_
  intro v170 hv170
  refine he_iload (n := 172) (i := 2) (by decide +kernel) rfl ?_
  refine hb_sta (n := 173) (kind := 64) hm1 (by decide +kernel) rfl rfl (.inl rfl) (by omega) (show _ < (36 : Int) by omega) ?_
  generalize hM2 : hb_set M1 251 (v170.toInt.toNat) x2 = M2
  have hm2 : mz_sh mz_GG M2 := by rw [← hM2]; exact hb_set_sh hm1 rfl hb_at1 (by omega) (by omega)
  have eM2 : ∀ b j, b ≠ 251 ∨ j ≠ v170.toInt.toNat → hv M2 b j = hv M1 b j := by intro b j h; rw [← hM2]; exact hb_set_n h
  have sM2 : hv M2 251 (v170.toInt.toNat) = x2.toInt := by rw [← hM2]; exact hb_set_v hm1 rfl (show _ < 36 by omega)
  have wM2 : ∀ b, b ≠ 251 → M2 b = M1 b := by intro b h; rw [← hM2]; exact hb_set_c h
  refine he_aload (n := 174) (i := 0) (by decide +kernel) rfl ?_
  refine he_getr (n := 177) (ci := 9) (j := 20) (ns := [4197, 59]) (b := 251) hm2 (by decide +kernel) rfl rfl (by decide +kernel) ?_
  refine he_iload (n := 179) (i := 5) (by decide +kernel) rfl ?_
  refine he_iconst (n := 180) (c := 2) (by decide +kernel) (by decide) ?_
  intro c179 hc179
  refine he_iadd (n := 181) (by decide +kernel) (by omega) (by omega) ?_
  intro v180 hv180
  refine he_iload (n := 183) (i := 4) (by decide +kernel) rfl ?_
  have hc1 : hn_C M M1 := hn_Cs hc hm1 hM1 (by omega)
  have hc2 : hn_C M M2 := hn_Cs hc1 hm2 hM2 (by omega)
  have h51 : hv M2 251 (6 * (hv M 234 19).toNat) = x1.toInt := by
    rw [eM2 _ _ (.inr (by omega)), show 6 * (hv M 234 19).toNat = x5.toInt.toNat by omega]
    exact sM1
  by_cases h183 : x4.toInt = 0
  · skip
    refine he_ifeq_t (n := 186) (t := 193) (by decide +kernel) (by omega) ?_
    refine he_iconst (n := 194) (c := 0) (by decide +kernel) (by decide) ?_
    intro c193 hc193
    exact hn_e194 hC hd hz hc2 h19 h19' hb0 hd0 tot hbd hx2 hx2' hd15 h51 h5 (by omega) h6 K
  · skip
    refine he_ifeq_f (n := 186) (t := 193) (by decide +kernel) (by omega) ?_
    refine he_aload (n := 187) (i := 0) (by decide +kernel) rfl ?_
    refine he_v0 (n := 190) (j := 121) (ci := 9) (mx := 4) (ns := [5198, 5200, 64, 203]) (by decide +kernel) ((hb_kd (a := 234) hm2 rfl).trans rfl) (by show 2 ≤ 8; omega) (by show 1 ≤ 4; omega) ?_
    rw [mq_e121]
    refine hu_msum (hC (mz_q66, 1) (List.mem_of_getElem? (show mz_Cs[66]? = _ from rfl)) (by decide)) (by omega) hz hm2 hc2.2.1 ?_
    intro Ms rs gs gx gw g8 ge
    obtain ⟨hcs, es⟩ := hn_Cf (q' := mz_q66) hc2 gs gx gw g8 ge (by decide) (by decide) rfl rfl rfl rfl
    show mq_R mq_PP (d + 1) 124 190 _ [.int rs, .int v180, .ref 251] (Ms, z, u) Q
    refine he_goto (t := 194) (by decide +kernel) ?_
    exact hn_e194 hC hd hz hcs h19 h19' hb0 hd0 tot hbd hx2 hx2' hd15 (by rw [hb_vc es]; exact h51) h5 (by omega) h6 K
theorem hn_e110 {d z u : Nat} {Q : (Option Value ⊕ Nat) → mq_S → Prop} {M : Nat → mq_C} {x1 x2 x3 : Int32} (hC : ∀ c ∈ mz_Cs, c.2 < 8 → mz_Ct mz_GG mq_PP HX c.1 c.2) (hd : 8 ≤ d + 1) (hz : 272 ≤ z) (h19 : hv M 234 19 ≤ 5) (h19' : 0 ≤ hv M 234 19) (hb0 : 0 ≤ hv M 234 17) (hd0 : 0 ≤ hv M 234 15) (tot : hv M 234 17 + 2 + hv M 234 15 + 12 + hb_nm x1.toInt + 4 + hb_sum (hn_g M) 6 ≤ 240) (hbd : hv M 234 17 + hv M 234 15 ≤ 222) (hx2 : 0 ≤ x2.toInt) (hx2' : x2.toInt ≤ 8) (hd15 : hv M 234 15 ≤ 120)
    (K : ∀ (M' : Nat → mq_C) (r : Int32), mz_sh mz_GG M' → HX M' → hn_S M M' → 0 ≤ r.toInt → r.toInt ≤ 1 → Q (.inl (some (.int r))) (M', z, u)) : ∀ (m : Nat) (Mc : Nat → mq_C) (x4 : Int32) (o5 o6 : Option Value), hn_C M Mc → 0 ≤ x4.toInt → hv M 234 15 ≤ x4.toInt + (m : Int) ∧ x4.toInt ≤ 120 → mq_nl o5 = true → mq_nl o6 = true → mq_R mq_PP (d + 1) 124 110 [some (.ref 234), some (.int x1), some (.int x2), some (.int x3), some (.int x4), o5, o6] [] (Mc, z, u) Q := by
  intro m
  induction m with
  | zero =>
    intro Mc x4 o5 o6 hc h6 h6m h5 h6'
    obtain ⟨hm, hx, hS, e17, e19, e15, e51⟩ := id hc
    refine hn_b2 HX_same (fun c hc h => hC c hc (by omega)) (by omega) hz hm hx h5 h6' (by omega) (by omega) ?_ ?_
    · intro M2 y4 y5 w6 gs gx gw g8 ge hw6
      intros
      obtain ⟨hc2, e2⟩ := hn_Cf (q' := hn_b2_q) hc gs gx gw g8 ge (by decide) (by decide) rfl rfl rfl rfl
      exact hn_e155 hC hd hz hc2 h19 h19' hb0 hd0 tot hbd hx2 hx2' hd15 (by omega) hw6 K
    · intro M2 y4 w5 w6 gs gx gw g8 ge hw5 hw6
      intros
      obtain ⟨hc2, e2⟩ := hn_Cf (q' := hn_b2_q) hc gs gx gw g8 ge (by decide) (by decide) rfl rfl rfl rfl
      omega
  | succ m ih =>
    intro Mc x4 o5 o6 hc h6 h6m h5 h6'
    obtain ⟨hm, hx, hS, e17, e19, e15, e51⟩ := id hc
    refine hn_b2 HX_same (fun c hc h => hC c hc (by omega)) (by omega) hz hm hx h5 h6' (by omega) (by omega) ?_ ?_
    · intro M2 y4 y5 w6 gs gx gw g8 ge hw6
      intros
      obtain ⟨hc2, e2⟩ := hn_Cf (q' := hn_b2_q) hc gs gx gw g8 ge (by decide) (by decide) rfl rfl rfl rfl
      exact hn_e155 hC hd hz hc2 h19 h19' hb0 hd0 tot hbd hx2 hx2' hd15 (by omega) hw6 K
    · intro M2 y4 w5 w6 gs gx gw g8 ge hw5 hw6
      intros
      obtain ⟨hc2, e2⟩ := hn_Cf (q' := hn_b2_q) hc gs gx gw g8 ge (by decide) (by decide) rfl rfl rfl rfl
      exact ih M2 y4 _ _ hc2 (by omega) (by omega) hw5 hw6
theorem hn_e99 {d z u : Nat} {Q : (Option Value ⊕ Nat) → mq_S → Prop} {M Mc : Nat → mq_C} {x1 x2 x3 x4 : Int32} (hC : ∀ c ∈ mz_Cs, c.2 < 8 → mz_Ct mz_GG mq_PP HX c.1 c.2) (hd : 8 ≤ d + 1) (hz : 272 ≤ z) (hc : hn_C M Mc) (h19 : hv M 234 19 ≤ 5) (h19' : 0 ≤ hv M 234 19) (hb0 : 0 ≤ hv M 234 17) (hd0 : 0 ≤ hv M 234 15) (tot : hv M 234 17 + 2 + hv M 234 15 + 12 + hb_nm x1.toInt + 4 + hb_sum (hn_g M) 6 ≤ 240) (hbd : hv M 234 17 + hv M 234 15 ≤ 222) (hx2 : 0 ≤ x2.toInt) (hx2' : x2.toInt ≤ 8) (hd15 : hv M 234 15 ≤ 120) 
    (K : ∀ (M' : Nat → mq_C) (r : Int32), mz_sh mz_GG M' → HX M' → hn_S M M' → 0 ≤ r.toInt → r.toInt ≤ 1 → Q (.inl (some (.int r))) (M', z, u)) : mq_R mq_PP (d + 1) 124 99 [some (.ref 234), some (.int x1), some (.int x2), some (.int x3), some (.int x4), none, none] [] (Mc, z, u) Q := by
  obtain ⟨hm, hx, hS, e17, e19, e15, e51⟩ := id hc
  refine hn_b1 HX_same (fun c hc h => hC c hc (by omega)) (by omega) hz hm hx rfl rfl ?_
  · intro M2 y4 w5 w6 gs gx gw g8 ge hw5 hw6
    intros
    obtain ⟨hc2, e2⟩ := hn_Cf (q' := hn_b1_q) hc gs gx gw g8 ge (by decide) (by decide) rfl rfl rfl rfl
    exact hn_e110 hC hd hz h19 h19' hb0 hd0 tot hbd hx2 hx2' hd15 K 120 M2 y4 _ _ hc2 (by omega) (by omega) hw5 hw6
