/-! sign of the class's inflater: its blocks, its loop. -/
def hs_so12_q : mz_Q := (100, [(1, 9), (1, 12), (3, 0), (3, 0), (3, 0), (3, 0), (3, 0)], [], [5, 7], [], [])
def hs_so12_s : List mz_Sp2 := [(10, [(1, 9), (1, 12), (0, 0), (0, 0), (0, 0), (0, 0), (3, 0)], [], [(0, [(70, 1)]), (0, [(70, -1)]), (0, [(71, 1)]), (0, [(71, -1)]), (0, [(72, 1)]), (0, [(72, -1)]), (-1, [(73, 1)]), (1, [(73, -1)]), (0, [(12, -1), (75, 1)]), (0, [(12, 1), (75, -1)]), (0, [(14, -1), (76, 1)]), (0, [(14, 1), (76, -1)])])]
def hs_so12_h : List mz_H := [(0, 0, []), (0, 0, []), (0, 0, []), (0, 0, []), (0, 0, []), (0, 0, []), (0, 0, []), (0, 0, []), (0, 0, []), (0, 0, []), (0, 0, []), (0, 0, []), (0, 0, [])]
set_option maxRecDepth 100000 in
theorem hs_so12_c : mz_blk mz_GG mq_PP mz_Cs hs_so12_q 7 1 0 hs_so12_s [] 14 hs_so12_h = true := by decide +kernel
theorem hs_so12 {X : (Nat → mq_C) → Prop} (hX : ∀ M M' : Nat → mq_C, mz_same mz_GG M M' → X M → X M') (hC : ∀ c ∈ mz_Cs, c.2 < 1 → mz_Ct mz_GG mq_PP X c.1 c.2) {d z u : Nat} {M : Nat → mq_C} {Q : (Option Value ⊕ Nat) → mq_S → Prop} {o2 : Option Value} {o3 : Option Value} {o4 : Option Value} {o5 : Option Value} {o6 : Option Value} (hd : 1 ≤ d) (hz : 272 ≤ z) (hm : mz_sh mz_GG M) (hx : X M) (h0 : mq_nl o2 = true) (h1 : mq_nl o3 = true) (h2 : mq_nl o4 = true) (h3 : mq_nl o5 = true) (h4 : mq_nl o6 = true)
    (k0 : ∀ (M' : Nat → mq_C) (y2 : Int32) (y3 : Int32) (y4 : Int32) (y5 : Int32) (w6 : Option Value), mz_sh mz_GG M' → X M' → mz_fr hs_so12_q M M' → (∀ a, a < 8 → M' a = M a) → hb_same mz_GG hs_so12_q M M' → mq_nl w6 = true → y2.toInt = 0 → y3.toInt = 0 → y4.toInt = 0 → y5.toInt = 1 → hv M' 9 3 = hv M 9 3 → hv M' 9 5 = hv M 9 5 → mq_R mq_PP d 100 10 [some (.ref 9), some (.ref 12), some (.int y2), some (.int y3), some (.int y4), some (.int y5), w6] [] (M', z, u) Q) : mq_R mq_PP d 100 0 [some (.ref 9), some (.ref 12), o2, o3, o4, o5, o6] [] (M, z, u) Q := by
  refine hb_blk mz_GG mq_PP X (q := hs_so12_q) (nl := 7) (M := M) hb_okG hX hC hs_so12_c hz hd (L := [some (.ref 9), some (.ref 12), o2, o3, o4, o5, o6]) (st := []) (show hb_lk mz_GG ([(1, 9), (1, 12), (3, 0), (3, 0), (3, 0), (3, 0), (3, 0)]) _ from ⟨⟨List.mem_singleton.mpr rfl, rfl⟩, ⟨List.mem_singleton.mpr rfl, rfl⟩, h0, h1, h2, h3, h4, trivial⟩) (show hb_pk mz_GG ([]) _ from trivial) hm hx ?_ ?_ ?_
  · exact hb_nil
  · intro s hs
    rcases List.mem_cons.mp hs with rfl | hs
    · intro ρ1 L' st' M' g1 g2 gm gr gf gs gx gw g8 ge
      obtain ⟨e0, L1, rfl, n0, gg0⟩ := hb_l1 mz_GG g1
      obtain rfl : e0 = 9 := List.mem_singleton.mp n0
      obtain ⟨e1, L1, rfl, n1, gg1⟩ := hb_l1 mz_GG gg0
      obtain rfl : e1 = 12 := List.mem_singleton.mp n1
      obtain ⟨y2, L1, rfl, qr70, gg2⟩ := hb_l0 mz_GG gg1
      have r70 : ρ1 70 = y2.toInt := qr70
      obtain ⟨y3, L1, rfl, qr71, gg3⟩ := hb_l0 mz_GG gg2
      have r71 : ρ1 71 = y3.toInt := qr71
      obtain ⟨y4, L1, rfl, qr72, gg4⟩ := hb_l0 mz_GG gg3
      have r72 : ρ1 72 = y4.toInt := qr72
      obtain ⟨y5, L1, rfl, qr73, gg5⟩ := hb_l0 mz_GG gg4
      have r73 : ρ1 73 = y5.toInt := qr73
      obtain ⟨w6, L1, rfl, n6, gg6⟩ := hb_l3 mz_GG gg5
      obtain rfl := hb_ln mz_GG gg6
      obtain rfl := hb_pn mz_GG g2
      have r12 : ρ1 12 = hv M 9 3 := gr 12 (by decide +kernel)
      have r14 : ρ1 14 = hv M 9 5 := gr 14 (by decide +kernel)
      have r75 : ρ1 75 = hv M' 9 3 := gm 0 5 (9, 3) rfl rfl
      have r76 : ρ1 76 = hv M' 9 5 := gm 1 7 (9, 5) rfl rfl
      obtain ⟨f0, gf⟩ := hb_unc gf
      have f0 : 0 ≤ 0 + (1 * ρ1 70 + 0) := f0
      rw [r70] at f0
      obtain ⟨f1, gf⟩ := hb_unc gf
      have f1 : 0 ≤ 0 + ((-1) * ρ1 70 + 0) := f1
      rw [r70] at f1
      obtain ⟨f2, gf⟩ := hb_unc gf
      have f2 : 0 ≤ 0 + (1 * ρ1 71 + 0) := f2
      rw [r71] at f2
      obtain ⟨f3, gf⟩ := hb_unc gf
      have f3 : 0 ≤ 0 + ((-1) * ρ1 71 + 0) := f3
      rw [r71] at f3
      obtain ⟨f4, gf⟩ := hb_unc gf
      have f4 : 0 ≤ 0 + (1 * ρ1 72 + 0) := f4
      rw [r72] at f4
      obtain ⟨f5, gf⟩ := hb_unc gf
      have f5 : 0 ≤ 0 + ((-1) * ρ1 72 + 0) := f5
      rw [r72] at f5
      obtain ⟨f6, gf⟩ := hb_unc gf
      have f6 : 0 ≤ -1 + (1 * ρ1 73 + 0) := f6
      rw [r73] at f6
      obtain ⟨f7, gf⟩ := hb_unc gf
      have f7 : 0 ≤ 1 + ((-1) * ρ1 73 + 0) := f7
      rw [r73] at f7
      obtain ⟨f8, gf⟩ := hb_unc gf
      have f8 : 0 ≤ 0 + ((-1) * ρ1 12 + (1 * ρ1 75 + 0)) := f8
      rw [r12, r75] at f8
      obtain ⟨f9, gf⟩ := hb_unc gf
      have f9 : 0 ≤ 0 + (1 * ρ1 12 + ((-1) * ρ1 75 + 0)) := f9
      rw [r12, r75] at f9
      obtain ⟨f10, gf⟩ := hb_unc gf
      have f10 : 0 ≤ 0 + ((-1) * ρ1 14 + (1 * ρ1 76 + 0)) := f10
      rw [r14, r76] at f10
      obtain ⟨f11, gf⟩ := hb_unc gf
      have f11 : 0 ≤ 0 + (1 * ρ1 14 + ((-1) * ρ1 76 + 0)) := f11
      rw [r14, r76] at f11
      exact k0 M' y2 y3 y4 y5 w6 gs gx gw g8 ge n6 (by have h1 := f0; have h2 := f1; omega) (by have h1 := f2; have h2 := f3; omega) (by have h1 := f4; have h2 := f5; omega) (by have h1 := f6; have h2 := f7; omega) (by have h1 := f8; have h2 := f9; omega) (by have h1 := f10; have h2 := f11; omega)
    cases hs
  · intro r S hpo
    obtain ⟨b1, b2, b3, b4, b5, p, hp, res, hf, hre⟩ := hpo
    cases hp

def hs_sa12_q : mz_Q := (100, [(1, 9), (1, 12), (0, 0), (0, 0), (0, 0), (0, 0), (3, 0)], [(0, [(11, 8), (13, -1)]), (0, [(2, 1)]), (40000, [(2, -1)]), (-1, [(5, 1)]), (16, [(5, -1)])], [5, 7], [(0, 0, [(0, [(70, 1)]), (0, [(70, -1)]), (0, [(12, -1), (68, 1)]), (-1, [(69, 1)]), (1, [(69, -1)])])], [9])
def hs_sa12_s : List mz_Sp2 := [(70, [(1, 9), (1, 12), (0, 0), (0, 0), (0, 0), (0, 0), (3, 0)], [(0, 0), (1, 13)], [(0, [(3, -1), (71, 1)]), (0, [(3, 1), (71, -1)]), (0, [(4, -1), (72, 1)]), (0, [(4, 1), (72, -1)]), (0, [(5, -1), (73, 1)]), (0, [(5, 1), (73, -1)]), (0, [(5, -1), (75, 1)]), (0, [(5, 1), (75, -1)]), (-1, [(12, -1), (77, 1)]), (1, [(12, 1), (77, -1)]), (0, [(14, -1), (78, 1)]), (0, [(14, 1), (78, -1)]), (15, [(5, -1)]), (-1, [(12, -1), (13, 1)]), (1, [(2, 2), (70, -1)]), (0, [(2, -2), (70, 1)])])]
def hs_sa12_h : List mz_H := [(0, 0, []), (0, 0, []), (0, 0, []), (0, 0, []), (0, 0, []), (0, 0, []), (0, 0, []), (0, 0, []), (0, 0, []), (0, 0, []), (0, 0, []), (0, 0, []), (0, 0, []), (0, 0, []), (0, 0, []), (0, 0, []), (0, 0, []), (0, 0, []), (0, 0, []), (0, 0, []), (0, 0, []), (0, 0, [(3, 2)]), (0, 0, [(4, 2)]), (1023, 0, []), (0, 7, [(0, 1), (29, 1)]), (0, 7, [(1, 1), (4, 1), (6, 1)]), (1, 1, []), (0, 0, [(0, 1)]), (0, 0, [(1, 1)]), (0, 0, [(15, 2)]), (0, 0, []), (0, 0, [(0, 1), (15, 2)]), (0, 0, [(1, 1), (16, 2)]), (0, 0, []), (0, 0, [(37, 1)]), (0, 0, [(38, 1)]), (0, 0, [(37, 1)]), (0, 0, [(12, 1), (40, 1)]), (13, 0, []), (0, 0, []), (0, 0, []), (0, 0, []), (0, 0, []), (0, 0, []), (0, 0, []), (0, 0, []), (0, 0, []), (0, 0, []), (0, 0, []), (0, 0, []), (0, 0, []), (0, 0, []), (0, 0, [(13, 1)]), (0, 0, [(12, 1)]), (0, 0, [(1, 1)]), (0, 0, [(0, 1)])]
set_option maxRecDepth 100000 in
theorem hs_sa12_c : mz_blk mz_GG mq_PP mz_Cs hs_sa12_q 7 1 10 hs_sa12_s [] 52 hs_sa12_h = true := by decide +kernel
theorem hs_sa12 {X : (Nat → mq_C) → Prop} (hX : ∀ M M' : Nat → mq_C, mz_same mz_GG M M' → X M → X M') (hC : ∀ c ∈ mz_Cs, c.2 < 1 → mz_Ct mz_GG mq_PP X c.1 c.2) {d z u : Nat} {M : Nat → mq_C} {Q : (Option Value ⊕ Nat) → mq_S → Prop} {x2 : Int32} {x3 : Int32} {x4 : Int32} {x5 : Int32} {o6 : Option Value} (hd : 1 ≤ d) (hz : 272 ≤ z) (hm : mz_sh mz_GG M) (hx : X M) (h0 : mq_nl o6 = true) (p0 : 0 ≤ 8 * hv M 9 2 - hv M 9 4) (p1 : 0 ≤ x2.toInt) (p2 : 0 ≤ 40000 - x2.toInt) (p3 : 0 ≤ (-1) + x5.toInt) (p4 : 0 ≤ 16 - x5.toInt)
    (k0 : ∀ (M' : Nat → mq_C) (y2 : Int32) (w6 : Option Value), mz_sh mz_GG M' → X M' → mz_fr hs_sa12_q M M' → (∀ a, a < 8 → M' a = M a) → hb_same mz_GG hs_sa12_q M M' → mq_nl w6 = true → hv M' 9 3 = 1 + hv M 9 3 → hv M' 9 5 = hv M 9 5 → 0 ≤ 15 - x5.toInt → 0 ≤ (-1) - hv M 9 3 + hv M 9 4 → 0 ≤ 1 + 2 * x2.toInt - y2.toInt → 0 ≤ 0 - 2 * x2.toInt + y2.toInt → mq_R mq_PP d 100 70 [some (.ref 9), some (.ref 12), some (.int y2), some (.int x3), some (.int x4), some (.int x5), w6] [.int x5, .ref 13] (M', z, u) Q)
    (w0 : ∀ (M' : Nat → mq_C) (r : Int32), mz_sh mz_GG M' → X M' → mz_fr hs_sa12_q M M' → (∀ a, a < 8 → M' a = M a) → hb_same mz_GG hs_sa12_q M M' → 0 ≤ r.toInt → 0 ≤ 0 - r.toInt → 0 ≤ 0 - hv M 9 3 + hv M' 9 3 → 0 ≤ (-1) + hv M' 9 5 → 0 ≤ 1 - hv M' 9 5 → Q (.inl (some (.int r))) (M', z, u)) : mq_R mq_PP d 100 10 [some (.ref 9), some (.ref 12), some (.int x2), some (.int x3), some (.int x4), some (.int x5), o6] [] (M, z, u) Q := by
  refine hb_blk mz_GG mq_PP X (q := hs_sa12_q) (nl := 7) (M := M) hb_okG hX hC hs_sa12_c hz hd (L := [some (.ref 9), some (.ref 12), some (.int x2), some (.int x3), some (.int x4), some (.int x5), o6]) (st := []) (show hb_lk mz_GG ([(1, 9), (1, 12), (0, 0), (0, 0), (0, 0), (0, 0), (3, 0)]) _ from ⟨⟨List.mem_singleton.mpr rfl, rfl⟩, ⟨List.mem_singleton.mpr rfl, rfl⟩, trivial, trivial, trivial, trivial, h0, trivial⟩) (show hb_pk mz_GG ([]) _ from trivial) hm hx ?_ ?_ ?_
  · exact hb_cons (show 0 ≤ mz_ev _ _ from (show 0 ≤ 0 + (8 * hv M 9 2 + ((-1) * hv M 9 4 + 0)) by omega)) (hb_cons (show 0 ≤ mz_ev _ _ from (show 0 ≤ 0 + (1 * x2.toInt + 0) by omega)) (hb_cons (show 0 ≤ mz_ev _ _ from (show 0 ≤ 40000 + ((-1) * x2.toInt + 0) by omega)) (hb_cons (show 0 ≤ mz_ev _ _ from (show 0 ≤ -1 + (1 * x5.toInt + 0) by omega)) (hb_cons (show 0 ≤ mz_ev _ _ from (show 0 ≤ 16 + ((-1) * x5.toInt + 0) by omega)) (hb_nil)))))
  · intro s hs
    rcases List.mem_cons.mp hs with rfl | hs
    · intro ρ1 L' st' M' g1 g2 gm gr gf gs gx gw g8 ge
      obtain ⟨e0, L1, rfl, n0, gg0⟩ := hb_l1 mz_GG g1
      obtain rfl : e0 = 9 := List.mem_singleton.mp n0
      obtain ⟨e1, L1, rfl, n1, gg1⟩ := hb_l1 mz_GG gg0
      obtain rfl : e1 = 12 := List.mem_singleton.mp n1
      obtain ⟨y2, L1, rfl, qr70, gg2⟩ := hb_l0 mz_GG gg1
      have r70 : ρ1 70 = y2.toInt := qr70
      obtain ⟨y3, L1, rfl, qr71, gg3⟩ := hb_l0 mz_GG gg2
      have r71 : ρ1 71 = y3.toInt := qr71
      obtain ⟨y4, L1, rfl, qr72, gg4⟩ := hb_l0 mz_GG gg3
      have r72 : ρ1 72 = y4.toInt := qr72
      obtain ⟨y5, L1, rfl, qr73, gg5⟩ := hb_l0 mz_GG gg4
      have r73 : ρ1 73 = y5.toInt := qr73
      obtain ⟨w6, L1, rfl, n6, gg6⟩ := hb_l3 mz_GG gg5
      obtain ⟨y7, s1, rfl, qr75, gg7⟩ := hb_p0 mz_GG g2
      have r75 : ρ1 75 = y7.toInt := qr75
      obtain ⟨e8, s1, rfl, n8, gg8⟩ := hb_p1 mz_GG gg7
      obtain rfl : e8 = 13 := List.mem_singleton.mp n8
      obtain rfl := hb_ln mz_GG gg6
      obtain rfl := hb_pn mz_GG gg8
      have r2 : ρ1 2 = x2.toInt := gr 2 (by decide +kernel)
      have r3 : ρ1 3 = x3.toInt := gr 3 (by decide +kernel)
      have r4 : ρ1 4 = x4.toInt := gr 4 (by decide +kernel)
      have r5 : ρ1 5 = x5.toInt := gr 5 (by decide +kernel)
      have r12 : ρ1 12 = hv M 9 3 := gr 12 (by decide +kernel)
      have r13 : ρ1 13 = hv M 9 4 := gr 13 (by decide +kernel)
      have r14 : ρ1 14 = hv M 9 5 := gr 14 (by decide +kernel)
      have r77 : ρ1 77 = hv M' 9 3 := gm 0 5 (9, 3) rfl rfl
      have r78 : ρ1 78 = hv M' 9 5 := gm 1 7 (9, 5) rfl rfl
      obtain ⟨f0, gf⟩ := hb_unc gf
      have f0 : 0 ≤ 0 + ((-1) * ρ1 3 + (1 * ρ1 71 + 0)) := f0
      rw [r3, r71] at f0
      obtain ⟨f1, gf⟩ := hb_unc gf
      have f1 : 0 ≤ 0 + (1 * ρ1 3 + ((-1) * ρ1 71 + 0)) := f1
      rw [r3, r71] at f1
      obtain ⟨f2, gf⟩ := hb_unc gf
      have f2 : 0 ≤ 0 + ((-1) * ρ1 4 + (1 * ρ1 72 + 0)) := f2
      rw [r4, r72] at f2
      obtain ⟨f3, gf⟩ := hb_unc gf
      have f3 : 0 ≤ 0 + (1 * ρ1 4 + ((-1) * ρ1 72 + 0)) := f3
      rw [r4, r72] at f3
      obtain ⟨f4, gf⟩ := hb_unc gf
      have f4 : 0 ≤ 0 + ((-1) * ρ1 5 + (1 * ρ1 73 + 0)) := f4
      rw [r5, r73] at f4
      obtain ⟨f5, gf⟩ := hb_unc gf
      have f5 : 0 ≤ 0 + (1 * ρ1 5 + ((-1) * ρ1 73 + 0)) := f5
      rw [r5, r73] at f5
      obtain ⟨f6, gf⟩ := hb_unc gf
      have f6 : 0 ≤ 0 + ((-1) * ρ1 5 + (1 * ρ1 75 + 0)) := f6
      rw [r5, r75] at f6
      obtain ⟨f7, gf⟩ := hb_unc gf
      have f7 : 0 ≤ 0 + (1 * ρ1 5 + ((-1) * ρ1 75 + 0)) := f7
      rw [r5, r75] at f7
      obtain ⟨f8, gf⟩ := hb_unc gf
      have f8 : 0 ≤ -1 + ((-1) * ρ1 12 + (1 * ρ1 77 + 0)) := f8
      rw [r12, r77] at f8
      obtain ⟨f9, gf⟩ := hb_unc gf
      have f9 : 0 ≤ 1 + (1 * ρ1 12 + ((-1) * ρ1 77 + 0)) := f9
      rw [r12, r77] at f9
      obtain ⟨f10, gf⟩ := hb_unc gf
      have f10 : 0 ≤ 0 + ((-1) * ρ1 14 + (1 * ρ1 78 + 0)) := f10
      rw [r14, r78] at f10
      obtain ⟨f11, gf⟩ := hb_unc gf
      have f11 : 0 ≤ 0 + (1 * ρ1 14 + ((-1) * ρ1 78 + 0)) := f11
      rw [r14, r78] at f11
      obtain ⟨f12, gf⟩ := hb_unc gf
      have f12 : 0 ≤ 15 + ((-1) * ρ1 5 + 0) := f12
      rw [r5] at f12
      obtain ⟨f13, gf⟩ := hb_unc gf
      have f13 : 0 ≤ -1 + ((-1) * ρ1 12 + (1 * ρ1 13 + 0)) := f13
      rw [r12, r13] at f13
      obtain ⟨f14, gf⟩ := hb_unc gf
      have f14 : 0 ≤ 1 + (2 * ρ1 2 + ((-1) * ρ1 70 + 0)) := f14
      rw [r2, r70] at f14
      obtain ⟨f15, gf⟩ := hb_unc gf
      have f15 : 0 ≤ 0 + ((-2) * ρ1 2 + (1 * ρ1 70 + 0)) := f15
      rw [r2, r70] at f15
      have hy3 : y3 = x3 := hb_inj f0 f1
      subst y3
      have hy4 : y4 = x4 := hb_inj f2 f3
      subst y4
      have hy5 : y5 = x5 := hb_inj f4 f5
      subst y5
      have hy7 : y7 = x5 := hb_inj f6 f7
      subst y7
      exact k0 M' y2 w6 gs gx gw g8 ge n6 (by have h1 := f8; have h2 := f9; omega) (by have h1 := f10; have h2 := f11; omega) (by have h1 := f12; omega) (by have h1 := f13; omega) (by have h1 := f14; omega) (by have h1 := f15; omega)
    cases hs
  · intro r S hpo
    obtain ⟨b1, b2, b3, b4, b5, p, hp, res, hf, hre⟩ := hpo
    rcases List.mem_cons.mp hp with rfl | hp
    · obtain ⟨x, rfl, hr, hz1, hu1⟩ := mz_re_0 mz_GG hre rfl
      obtain ⟨M', z', u'⟩ := S
      cases hz1
      cases hu1
      have r12 : hb_r1 mz_GG hs_sa12_q (hb_rb mz_GG hs_sa12_q 7 [some (.ref 9), some (.ref 12), some (.int x2), some (.int x3), some (.int x4), some (.int x5), o6] [] M) M' res 12 = hv M 9 3 := rfl
      have r68 : hb_r1 mz_GG hs_sa12_q (hb_rb mz_GG hs_sa12_q 7 [some (.ref 9), some (.ref 12), some (.int x2), some (.int x3), some (.int x4), some (.int x5), o6] [] M) M' res 68 = hv M' 9 3 := rfl
      have r69 : hb_r1 mz_GG hs_sa12_q (hb_rb mz_GG hs_sa12_q 7 [some (.ref 9), some (.ref 12), some (.int x2), some (.int x3), some (.int x4), some (.int x5), o6] [] M) M' res 69 = hv M' 9 5 := rfl
      have r70 : hb_r1 mz_GG hs_sa12_q (hb_rb mz_GG hs_sa12_q 7 [some (.ref 9), some (.ref 12), some (.int x2), some (.int x3), some (.int x4), some (.int x5), o6] [] M) M' res 70 = res := rfl
      obtain ⟨f0, hf⟩ := hb_unc hf
      have f0 : 0 ≤ 0 + (1 * res + 0) := f0
      rw [← hr] at f0
      obtain ⟨f1, hf⟩ := hb_unc hf
      have f1 : 0 ≤ 0 + ((-1) * res + 0) := f1
      rw [← hr] at f1
      obtain ⟨f2, hf⟩ := hb_unc hf
      have f2 : 0 ≤ 0 + ((-1) * hv M 9 3 + (1 * hv M' 9 3 + 0)) := f2
      obtain ⟨f3, hf⟩ := hb_unc hf
      have f3 : 0 ≤ -1 + (1 * hv M' 9 5 + 0) := f3
      obtain ⟨f4, hf⟩ := hb_unc hf
      have f4 : 0 ≤ 1 + ((-1) * hv M' 9 5 + 0) := f4
      exact w0 M' x b1 b2 b3 b4 b5 (by have h1 := f0; omega) (by have h1 := f1; omega) (by have h1 := f2; omega) (by have h1 := f3; omega) (by have h1 := f4; omega)
    cases hp

def hs_sb12_q : mz_Q := (100, [(1, 9), (1, 12), (0, 0), (0, 0), (0, 0), (0, 0), (3, 0), (0, 0)], [(0, [(2, 1)]), (90000, [(2, -1)]), (0, [(3, 1)]), (0, [(2, 1), (3, -1)]), (0, [(4, 1)]), (0, [(7, 1)]), (19, [(4, -1), (7, -1)]), (-1, [(5, 1)]), (15, [(5, -1)])], [5, 7], [(0, 0, [(0, [(71, 1)]), (287, [(71, -1)]), (0, [(13, -1), (69, 1)]), (0, [(13, 1), (69, -1)]), (0, [(15, -1), (70, 1)]), (0, [(15, 1), (70, -1)])])], [])
def hs_sb12_s : List mz_Sp2 := [(10, [(1, 9), (1, 12), (0, 0), (0, 0), (0, 0), (0, 0), (0, 0)], [], [(0, [(2, -1), (71, 1)]), (0, [(2, 1), (71, -1)]), (0, [(3, -2), (7, -2), (72, 1)]), (0, [(3, 2), (7, 2), (72, -1)]), (0, [(4, -1), (7, -1), (73, 1)]), (0, [(4, 1), (7, 1), (73, -1)]), (-1, [(5, -1), (74, 1)]), (1, [(5, 1), (74, -1)]), (0, [(7, -1), (75, 1)]), (0, [(7, 1), (75, -1)]), (0, [(13, -1), (76, 1)]), (0, [(13, 1), (76, -1)]), (0, [(15, -1), (77, 1)]), (0, [(15, 1), (77, -1)]), (0, [(2, 1), (3, -1), (7, -1)])])]
def hs_sb12_h : List mz_H := [(0, 0, []), (0, 0, [(3, 1)]), (0, 0, [(1, 1), (2, 1)]), (0, 0, []), (0, 0, []), (0, 0, []), (0, 0, [(5, 1), (6, 1)]), (0, 0, [(7, 1)]), (0, 0, []), (0, 0, [(3, 1), (6, 1)]), (0, 0, [(0, 1), (2, 1)]), (0, 0, []), (0, 0, [(3, 2), (6, 2)]), (0, 0, [(0, 2), (2, 2)]), (0, 0, []), (0, 0, [(8, 1)]), (0, 0, [(9, 1)]), (0, 0, []), (0, 0, []), (0, 0, []), (0, 0, []), (0, 0, []), (0, 0, []), (0, 0, []), (0, 0, []), (0, 0, []), (0, 0, []), (0, 0, []), (0, 0, []), (0, 0, []), (0, 0, []), (0, 0, []), (0, 0, [(0, 1)]), (15, 0, []), (0, 0, []), (0, 0, [(1, 1), (5, 1)]), (0, 0, [(0, 1), (2, 1), (4, 1), (7, 1)]), (0, 0, []), (0, 0, [(4, 1), (5, 1)]), (0, 0, [(0, 1), (7, 1)]), (0, 0, [(4, 1), (5, 1)]), (0, 0, [(0, 1), (7, 1)]), (0, 0, []), (0, 0, [(0, 1)]), (0, 0, [(1, 1)]), (0, 0, []), (0, 0, []), (0, 0, []), (0, 0, [])]
set_option maxRecDepth 100000 in
theorem hs_sb12_c : mz_blk mz_GG mq_PP mz_Cs hs_sb12_q 7 1 71 hs_sb12_s [] 33 hs_sb12_h = true := by decide +kernel
theorem hs_sb12 {X : (Nat → mq_C) → Prop} (hX : ∀ M M' : Nat → mq_C, mz_same mz_GG M M' → X M → X M') (hC : ∀ c ∈ mz_Cs, c.2 < 1 → mz_Ct mz_GG mq_PP X c.1 c.2) {d z u : Nat} {M : Nat → mq_C} {Q : (Option Value ⊕ Nat) → mq_S → Prop} {x2 : Int32} {x3 : Int32} {x4 : Int32} {x5 : Int32} {o6 : Option Value} {x7 : Int32} (hd : 1 ≤ d) (hz : 272 ≤ z) (hm : mz_sh mz_GG M) (hx : X M) (h0 : mq_nl o6 = true) (p0 : 0 ≤ x2.toInt) (p1 : 0 ≤ 90000 - x2.toInt) (p2 : 0 ≤ x3.toInt) (p3 : 0 ≤ x2.toInt - x3.toInt) (p4 : 0 ≤ x4.toInt) (p5 : 0 ≤ x7.toInt) (p6 : 0 ≤ 19 - x4.toInt - x7.toInt) (p7 : 0 ≤ (-1) + x5.toInt) (p8 : 0 ≤ 15 - x5.toInt)
    (k0 : ∀ (M' : Nat → mq_C) (y3 : Int32) (y4 : Int32) (y5 : Int32), mz_sh mz_GG M' → X M' → mz_fr hs_sb12_q M M' → (∀ a, a < 8 → M' a = M a) → hb_same mz_GG hs_sb12_q M M' → y3.toInt = 2 * x3.toInt + 2 * x7.toInt → y4.toInt = x4.toInt + x7.toInt → y5.toInt = 1 + x5.toInt → hv M' 9 3 = hv M 9 3 → hv M' 9 5 = hv M 9 5 → 0 ≤ x2.toInt - x3.toInt - x7.toInt → mq_R mq_PP d 100 10 [some (.ref 9), some (.ref 12), some (.int x2), some (.int y3), some (.int y4), some (.int y5), some (.int x7)] [] (M', z, u) Q)
    (w0 : ∀ (M' : Nat → mq_C) (r : Int32), mz_sh mz_GG M' → X M' → mz_fr hs_sb12_q M M' → (∀ a, a < 8 → M' a = M a) → hb_same mz_GG hs_sb12_q M M' → 0 ≤ r.toInt → 0 ≤ 287 - r.toInt → 0 ≤ 0 - hv M 9 3 + hv M' 9 3 → 0 ≤ hv M 9 3 - hv M' 9 3 → 0 ≤ 0 - hv M 9 5 + hv M' 9 5 → 0 ≤ hv M 9 5 - hv M' 9 5 → Q (.inl (some (.int r))) (M', z, u)) : mq_R mq_PP d 100 71 [some (.ref 9), some (.ref 12), some (.int x2), some (.int x3), some (.int x4), some (.int x5), o6] [.int x7] (M, z, u) Q := by
  refine hb_blk mz_GG mq_PP X (q := hs_sb12_q) (nl := 7) (M := M) hb_okG hX hC hs_sb12_c hz hd (L := [some (.ref 9), some (.ref 12), some (.int x2), some (.int x3), some (.int x4), some (.int x5), o6]) (st := [.int x7]) (show hb_lk mz_GG ([(1, 9), (1, 12), (0, 0), (0, 0), (0, 0), (0, 0), (3, 0)]) _ from ⟨⟨List.mem_singleton.mpr rfl, rfl⟩, ⟨List.mem_singleton.mpr rfl, rfl⟩, trivial, trivial, trivial, trivial, h0, trivial⟩) (show hb_pk mz_GG ([(0, 0)]) _ from ⟨trivial, trivial⟩) hm hx ?_ ?_ ?_
  · exact hb_cons (show 0 ≤ mz_ev _ _ from (show 0 ≤ 0 + (1 * x2.toInt + 0) by omega)) (hb_cons (show 0 ≤ mz_ev _ _ from (show 0 ≤ 90000 + ((-1) * x2.toInt + 0) by omega)) (hb_cons (show 0 ≤ mz_ev _ _ from (show 0 ≤ 0 + (1 * x3.toInt + 0) by omega)) (hb_cons (show 0 ≤ mz_ev _ _ from (show 0 ≤ 0 + (1 * x2.toInt + ((-1) * x3.toInt + 0)) by omega)) (hb_cons (show 0 ≤ mz_ev _ _ from (show 0 ≤ 0 + (1 * x4.toInt + 0) by omega)) (hb_cons (show 0 ≤ mz_ev _ _ from (show 0 ≤ 0 + (1 * x7.toInt + 0) by omega)) (hb_cons (show 0 ≤ mz_ev _ _ from (show 0 ≤ 19 + ((-1) * x4.toInt + ((-1) * x7.toInt + 0)) by omega)) (hb_cons (show 0 ≤ mz_ev _ _ from (show 0 ≤ -1 + (1 * x5.toInt + 0) by omega)) (hb_cons (show 0 ≤ mz_ev _ _ from (show 0 ≤ 15 + ((-1) * x5.toInt + 0) by omega)) (hb_nil)))))))))
  · intro s hs
    rcases List.mem_cons.mp hs with rfl | hs
    · intro ρ1 L' st' M' g1 g2 gm gr gf gs gx gw g8 ge
      obtain ⟨e0, L1, rfl, n0, gg0⟩ := hb_l1 mz_GG g1
      obtain rfl : e0 = 9 := List.mem_singleton.mp n0
      obtain ⟨e1, L1, rfl, n1, gg1⟩ := hb_l1 mz_GG gg0
      obtain rfl : e1 = 12 := List.mem_singleton.mp n1
      obtain ⟨y2, L1, rfl, qr71, gg2⟩ := hb_l0 mz_GG gg1
      have r71 : ρ1 71 = y2.toInt := qr71
      obtain ⟨y3, L1, rfl, qr72, gg3⟩ := hb_l0 mz_GG gg2
      have r72 : ρ1 72 = y3.toInt := qr72
      obtain ⟨y4, L1, rfl, qr73, gg4⟩ := hb_l0 mz_GG gg3
      have r73 : ρ1 73 = y4.toInt := qr73
      obtain ⟨y5, L1, rfl, qr74, gg5⟩ := hb_l0 mz_GG gg4
      have r74 : ρ1 74 = y5.toInt := qr74
      obtain ⟨y6, L1, rfl, qr75, gg6⟩ := hb_l0 mz_GG gg5
      have r75 : ρ1 75 = y6.toInt := qr75
      obtain rfl := hb_ln mz_GG gg6
      obtain rfl := hb_pn mz_GG g2
      have r2 : ρ1 2 = x2.toInt := gr 2 (by decide +kernel)
      have r3 : ρ1 3 = x3.toInt := gr 3 (by decide +kernel)
      have r4 : ρ1 4 = x4.toInt := gr 4 (by decide +kernel)
      have r5 : ρ1 5 = x5.toInt := gr 5 (by decide +kernel)
      have r7 : ρ1 7 = x7.toInt := gr 7 (by decide +kernel)
      have r13 : ρ1 13 = hv M 9 3 := gr 13 (by decide +kernel)
      have r15 : ρ1 15 = hv M 9 5 := gr 15 (by decide +kernel)
      have r76 : ρ1 76 = hv M' 9 3 := gm 0 5 (9, 3) rfl rfl
      have r77 : ρ1 77 = hv M' 9 5 := gm 1 7 (9, 5) rfl rfl
      obtain ⟨f0, gf⟩ := hb_unc gf
      have f0 : 0 ≤ 0 + ((-1) * ρ1 2 + (1 * ρ1 71 + 0)) := f0
      rw [r2, r71] at f0
      obtain ⟨f1, gf⟩ := hb_unc gf
      have f1 : 0 ≤ 0 + (1 * ρ1 2 + ((-1) * ρ1 71 + 0)) := f1
      rw [r2, r71] at f1
      obtain ⟨f2, gf⟩ := hb_unc gf
      have f2 : 0 ≤ 0 + ((-2) * ρ1 3 + ((-2) * ρ1 7 + (1 * ρ1 72 + 0))) := f2
      rw [r3, r7, r72] at f2
      obtain ⟨f3, gf⟩ := hb_unc gf
      have f3 : 0 ≤ 0 + (2 * ρ1 3 + (2 * ρ1 7 + ((-1) * ρ1 72 + 0))) := f3
      rw [r3, r7, r72] at f3
      obtain ⟨f4, gf⟩ := hb_unc gf
      have f4 : 0 ≤ 0 + ((-1) * ρ1 4 + ((-1) * ρ1 7 + (1 * ρ1 73 + 0))) := f4
      rw [r4, r7, r73] at f4
      obtain ⟨f5, gf⟩ := hb_unc gf
      have f5 : 0 ≤ 0 + (1 * ρ1 4 + (1 * ρ1 7 + ((-1) * ρ1 73 + 0))) := f5
      rw [r4, r7, r73] at f5
      obtain ⟨f6, gf⟩ := hb_unc gf
      have f6 : 0 ≤ -1 + ((-1) * ρ1 5 + (1 * ρ1 74 + 0)) := f6
      rw [r5, r74] at f6
      obtain ⟨f7, gf⟩ := hb_unc gf
      have f7 : 0 ≤ 1 + (1 * ρ1 5 + ((-1) * ρ1 74 + 0)) := f7
      rw [r5, r74] at f7
      obtain ⟨f8, gf⟩ := hb_unc gf
      have f8 : 0 ≤ 0 + ((-1) * ρ1 7 + (1 * ρ1 75 + 0)) := f8
      rw [r7, r75] at f8
      obtain ⟨f9, gf⟩ := hb_unc gf
      have f9 : 0 ≤ 0 + (1 * ρ1 7 + ((-1) * ρ1 75 + 0)) := f9
      rw [r7, r75] at f9
      obtain ⟨f10, gf⟩ := hb_unc gf
      have f10 : 0 ≤ 0 + ((-1) * ρ1 13 + (1 * ρ1 76 + 0)) := f10
      rw [r13, r76] at f10
      obtain ⟨f11, gf⟩ := hb_unc gf
      have f11 : 0 ≤ 0 + (1 * ρ1 13 + ((-1) * ρ1 76 + 0)) := f11
      rw [r13, r76] at f11
      obtain ⟨f12, gf⟩ := hb_unc gf
      have f12 : 0 ≤ 0 + ((-1) * ρ1 15 + (1 * ρ1 77 + 0)) := f12
      rw [r15, r77] at f12
      obtain ⟨f13, gf⟩ := hb_unc gf
      have f13 : 0 ≤ 0 + (1 * ρ1 15 + ((-1) * ρ1 77 + 0)) := f13
      rw [r15, r77] at f13
      obtain ⟨f14, gf⟩ := hb_unc gf
      have f14 : 0 ≤ 0 + (1 * ρ1 2 + ((-1) * ρ1 3 + ((-1) * ρ1 7 + 0))) := f14
      rw [r2, r3, r7] at f14
      have hy2 : y2 = x2 := hb_inj f0 f1
      subst y2
      have hy6 : y6 = x7 := hb_inj f8 f9
      subst y6
      exact k0 M' y3 y4 y5 gs gx gw g8 ge  (by have h1 := f2; have h2 := f3; omega) (by have h1 := f4; have h2 := f5; omega) (by have h1 := f6; have h2 := f7; omega) (by have h1 := f10; have h2 := f11; omega) (by have h1 := f12; have h2 := f13; omega) (by have h1 := f14; omega)
    cases hs
  · intro r S hpo
    obtain ⟨b1, b2, b3, b4, b5, p, hp, res, hf, hre⟩ := hpo
    rcases List.mem_cons.mp hp with rfl | hp
    · obtain ⟨x, rfl, hr, hz1, hu1⟩ := mz_re_0 mz_GG hre rfl
      obtain ⟨M', z', u'⟩ := S
      cases hz1
      cases hu1
      have r13 : hb_r1 mz_GG hs_sb12_q (hb_rb mz_GG hs_sb12_q 7 [some (.ref 9), some (.ref 12), some (.int x2), some (.int x3), some (.int x4), some (.int x5), o6] [.int x7] M) M' res 13 = hv M 9 3 := rfl
      have r15 : hb_r1 mz_GG hs_sb12_q (hb_rb mz_GG hs_sb12_q 7 [some (.ref 9), some (.ref 12), some (.int x2), some (.int x3), some (.int x4), some (.int x5), o6] [.int x7] M) M' res 15 = hv M 9 5 := rfl
      have r69 : hb_r1 mz_GG hs_sb12_q (hb_rb mz_GG hs_sb12_q 7 [some (.ref 9), some (.ref 12), some (.int x2), some (.int x3), some (.int x4), some (.int x5), o6] [.int x7] M) M' res 69 = hv M' 9 3 := rfl
      have r70 : hb_r1 mz_GG hs_sb12_q (hb_rb mz_GG hs_sb12_q 7 [some (.ref 9), some (.ref 12), some (.int x2), some (.int x3), some (.int x4), some (.int x5), o6] [.int x7] M) M' res 70 = hv M' 9 5 := rfl
      have r71 : hb_r1 mz_GG hs_sb12_q (hb_rb mz_GG hs_sb12_q 7 [some (.ref 9), some (.ref 12), some (.int x2), some (.int x3), some (.int x4), some (.int x5), o6] [.int x7] M) M' res 71 = res := rfl
      obtain ⟨f0, hf⟩ := hb_unc hf
      have f0 : 0 ≤ 0 + (1 * res + 0) := f0
      rw [← hr] at f0
      obtain ⟨f1, hf⟩ := hb_unc hf
      have f1 : 0 ≤ 287 + ((-1) * res + 0) := f1
      rw [← hr] at f1
      obtain ⟨f2, hf⟩ := hb_unc hf
      have f2 : 0 ≤ 0 + ((-1) * hv M 9 3 + (1 * hv M' 9 3 + 0)) := f2
      obtain ⟨f3, hf⟩ := hb_unc hf
      have f3 : 0 ≤ 0 + (1 * hv M 9 3 + ((-1) * hv M' 9 3 + 0)) := f3
      obtain ⟨f4, hf⟩ := hb_unc hf
      have f4 : 0 ≤ 0 + ((-1) * hv M 9 5 + (1 * hv M' 9 5 + 0)) := f4
      obtain ⟨f5, hf⟩ := hb_unc hf
      have f5 : 0 ≤ 0 + (1 * hv M 9 5 + ((-1) * hv M' 9 5 + 0)) := f5
      exact w0 M' x b1 b2 b3 b4 b5 (by have h1 := f0; omega) (by have h1 := f1; omega) (by have h1 := f2; omega) (by have h1 := f3; omega) (by have h1 := f4; omega) (by have h1 := f5; omega)
    cases hp

theorem hs_sl12 {d z u : Nat} {Q : (Option Value ⊕ Nat) → mq_S → Prop} {M0 : Nat → mq_C} (hd : 1 ≤ d) (hz : 272 ≤ z)
    (hQ1 : ∀ (M' : Nat → mq_C) (r : Int32), mz_sh mz_GG M' → HX M' → mz_fr mz_q23 M0 M' → (∀ a, a < 8 → M' a = M0 a) → hb_same mz_GG mz_q23 M0 M' → 0 ≤ r.toInt → 0 ≤ 287 - r.toInt → 0 ≤ (-1) - hv M0 9 3 + hv M' 9 3 → hv M' 9 5 = hv M0 9 5 → Q (.inl (some (.int r))) (M', z, u))
    (hQ2 : ∀ (M' : Nat → mq_C) (r : Int32), mz_sh mz_GG M' → HX M' → mz_fr mz_q23 M0 M' → (∀ a, a < 8 → M' a = M0 a) → hb_same mz_GG mz_q23 M0 M' → r.toInt = 0 → 0 ≤ 0 - hv M0 9 3 + hv M' 9 3 → hv M' 9 5 = 1 → Q (.inl (some (.int r))) (M', z, u)) :
    ∀ (m : Nat) (M : Nat → mq_C) (x2 x3 x4 x5 : Int32) (o6 : Option Value), (m : Int) + x5.toInt = 16 → 1 ≤ x5.toInt → mz_sh mz_GG M → HX M → mz_fr mz_q23 M0 M → (∀ a, a < 8 → M a = M0 a) → hb_same mz_GG mz_q23 M0 M → hv M0 9 3 ≤ hv M 9 3 → hv M 9 5 = hv M0 9 5 → mq_nl o6 = true → 0 ≤ 8 * hv M 9 2 - hv M 9 4 → 0 ≤ x3.toInt → x3.toInt ≤ 2 * x2.toInt → x2.toInt + 1 ≤ ((2 ^ (x5.toInt.toNat - 1) : Nat) : Int) → x4.toInt = hb_sum (fun b => hv M (12 + 1) (b + 1)) (x5.toInt.toNat - 1) → mq_R mq_PP d 100 10 [some (.ref 9), some (.ref 12), some (.int x2), some (.int x3), some (.int x4), some (.int x5), o6] [] (M, z, u) Q := by
  intro m
  induction m with
  | zero =>
    intro M x2 x3 x4 x5 o6 e1 e2 hm hx hf h8 he a1 a2 ho hp b1 b2 b3 b4
    have hpw : 2 ^ (x5.toInt.toNat - 1) ≤ 2 ^ 15 := Nat.pow_le_pow_right (by omega) (by omega)
    refine hs_sa12 HX_same hb_C1 hd hz hm hx ho hp (by omega) (by omega) (by omega) (by omega) ?_ ?_
    · intro M' y2 w6 gs gx gw g8 ge hw f1 f2 f3 f4 f5 f6
      omega
    · intro M' r gs gx gw g8 ge f1 f2 f3 f4 f5
      refine hQ2 M' r gs gx (hb_fr_t (q' := hs_sa12_q) (fun a ha => ha) hf gw) (fun a ha => (g8 a ha).trans (h8 a ha)) (hb_same_t (q' := hs_sa12_q) (fun j hj => hj) he ge) (by omega) ?_ ?_
      · have h1 : 0 ≤ 0 - hv M 9 3 + hv M' 9 3 := f3
        omega
      · have h1 : 0 ≤ (-1) + hv M' 9 5 := f4
        have h2 : 0 ≤ 1 - hv M' 9 5 := f5
        omega
  | succ m ih =>
    intro M x2 x3 x4 x5 o6 e1 e2 hm hx hf h8 he a1 a2 ho hp b1 b2 b3 b4
    have hpw : 2 ^ (x5.toInt.toNat - 1) ≤ 2 ^ 14 := Nat.pow_le_pow_right (by omega) (by omega)
    refine hs_sa12 HX_same hb_C1 hd hz hm hx ho hp (by omega) (by omega) (by omega) (by omega) ?_ ?_
    · intro M' y2 w6 gs gx gw g8 ge hw f1 f2 f3 f4 f5 f6
      have g1 : hv M' 9 3 = 1 + hv M 9 3 := f1
      have g2 : hv M' 9 5 = hv M 9 5 := f2
      have hf' : mz_fr mz_q23 M0 M' := hb_fr_t (q' := hs_sa12_q) (fun a ha => ha) hf gw
      have he' : hb_same mz_GG mz_q23 M0 M' := hb_same_t (q' := hs_sa12_q) (fun j hj => hj) he ge
      have h8' : ∀ a, a < 8 → M' a = M0 a := fun a ha => (g8 a ha).trans (h8 a ha)
      have hp' : 0 ≤ 8 * hv M' 9 2 - hv M' 9 4 := by
        rw [show hv M' 9 2 = hv M 9 2 from ge 4 (9, 2) rfl rfl, show hv M' 9 4 = hv M 9 4 from ge 6 (9, 4) rfl rfl]
        exact hp
      have hcell : ∀ i, hv M' (12 + 1) i = hv M (12 + 1) i := hb_vc (gw _ (by decide) rfl)
      have hnn : ∀ i, i < 15 → 0 ≤ hv M' (12 + 1) (i + 1) := fun i hi => (hb_rg gs rfl (show i + 1 < 16 by omega) hb_at1).1
      have hX1 : hb_sum (fun b => hv M' (12 + 1) (b + 1)) 15 ≤ 19 := gx 0
      have b4' : x4.toInt = hb_sum (fun b => hv M' (12 + 1) (b + 1)) (x5.toInt.toNat - 1) := by
        rw [b4]
        exact hb_sum_c _ (fun i _ => (hcell _).symm)
      refine hb_ld (n := 71) (kind := 64) gs (by decide +kernel) rfl rfl (.inl rfl) (by omega) (show x5.toInt < 16 by omega) hb_at1 ?_
      intro v hv1 hv2 hv3
      have hsum : hb_sum (fun b => hv M' (12 + 1) (b + 1)) x5.toInt.toNat = x4.toInt + v.toInt := by
        rw [b4', ← hv1]
        obtain ⟨t, ht⟩ : ∃ t, x5.toInt.toNat = t + 1 := ⟨x5.toInt.toNat - 1, by omega⟩
        rw [ht]
        rfl
      have hle := hb_sum_m (f := fun b => hv M' (12 + 1) (b + 1)) (m := x5.toInt.toNat) 15 (by omega) hnn
      have hx40 := hb_sum_0 (f := fun b => hv M' (12 + 1) (b + 1)) (x5.toInt.toNat - 1) (fun i hi => hnn i (by omega))
      refine hs_sb12 HX_same hb_C1 hd hz gs gx hw (by omega) (by omega) (by omega) (by omega) (by omega) (by omega) (by omega) (by omega) (by omega) ?_ ?_
      · intro M2 y3 y4 y5 k1 k2 k3 k4 k5 l1 l2 l3 l4 l5 l6
        have q3 : hv M2 9 3 = hv M' 9 3 := l4
        have q5 : hv M2 9 5 = hv M' 9 5 := l5
        have hc2 : ∀ i, hv M2 (12 + 1) i = hv M' (12 + 1) i := hb_vc (k3 _ (by decide) rfl)
        refine ih M2 y2 y3 y4 y5 (some (.int v)) (by omega) (by omega) k1 k2 (hb_fr_t (q' := hs_sb12_q) (fun a ha => rfl) hf' k3) (fun a ha => (k4 a ha).trans (h8' a ha)) (hb_same_t (q' := hs_sb12_q) (fun j hj => hj) he' k5) (by omega) (by omega) rfl ?_ (by omega) (by omega) ?_ ?_
        · rw [show hv M2 9 2 = hv M' 9 2 from k5 4 (9, 2) rfl rfl, show hv M2 9 4 = hv M' 9 4 from k5 6 (9, 4) rfl rfl]
          exact hp'
        · have e9 : y5.toInt.toNat - 1 = x5.toInt.toNat - 1 + 1 := by omega
          rw [e9, Nat.pow_succ]
          omega
        · have e9 : y5.toInt.toNat - 1 = x5.toInt.toNat := by omega
          rw [e9, hb_sum_c _ (fun i _ => hc2 (i + 1)), hsum]
          exact l2
      · intro M2 r k1 k2 k3 k4 k5 l1 l2 l3 l4 l5 l6
        have q1 : 0 ≤ 0 - hv M' 9 3 + hv M2 9 3 := l3
        have q2 : 0 ≤ hv M' 9 3 - hv M2 9 3 := l4
        have q3 : 0 ≤ 0 - hv M' 9 5 + hv M2 9 5 := l5
        have q4 : 0 ≤ hv M' 9 5 - hv M2 9 5 := l6
        exact hQ1 M2 r k1 k2 (hb_fr_t (q' := hs_sb12_q) (fun a ha => rfl) hf' k3) (fun a ha => (k4 a ha).trans (h8' a ha)) (hb_same_t (q' := hs_sb12_q) (fun j hj => hj) he' k5) l1 (by omega) (by omega) (by omega)
    · intro M' r gs gx gw g8 ge f1 f2 f3 f4 f5
      refine hQ2 M' r gs gx (hb_fr_t (q' := hs_sa12_q) (fun a ha => ha) hf gw) (fun a ha => (g8 a ha).trans (h8 a ha)) (hb_same_t (q' := hs_sa12_q) (fun j hj => hj) he ge) (by omega) ?_ ?_
      · have h1 : 0 ≤ 0 - hv M 9 3 + hv M' 9 3 := f3
        omega
      · have h1 : 0 ≤ (-1) + hv M' 9 5 := f4
        have h2 : 0 ≤ 1 - hv M' 9 5 := f5
        omega
def hs_so16_q : mz_Q := (100, [(1, 9), (1, 16), (3, 0), (3, 0), (3, 0), (3, 0), (3, 0)], [], [5, 7], [], [])
def hs_so16_s : List mz_Sp2 := [(10, [(1, 9), (1, 16), (0, 0), (0, 0), (0, 0), (0, 0), (3, 0)], [], [(0, [(70, 1)]), (0, [(70, -1)]), (0, [(71, 1)]), (0, [(71, -1)]), (0, [(72, 1)]), (0, [(72, -1)]), (-1, [(73, 1)]), (1, [(73, -1)]), (0, [(12, -1), (75, 1)]), (0, [(12, 1), (75, -1)]), (0, [(14, -1), (76, 1)]), (0, [(14, 1), (76, -1)])])]
def hs_so16_h : List mz_H := [(0, 0, []), (0, 0, []), (0, 0, []), (0, 0, []), (0, 0, []), (0, 0, []), (0, 0, []), (0, 0, []), (0, 0, []), (0, 0, []), (0, 0, []), (0, 0, []), (0, 0, [])]
set_option maxRecDepth 100000 in
theorem hs_so16_c : mz_blk mz_GG mq_PP mz_Cs hs_so16_q 7 1 0 hs_so16_s [] 14 hs_so16_h = true := by decide +kernel
theorem hs_so16 {X : (Nat → mq_C) → Prop} (hX : ∀ M M' : Nat → mq_C, mz_same mz_GG M M' → X M → X M') (hC : ∀ c ∈ mz_Cs, c.2 < 1 → mz_Ct mz_GG mq_PP X c.1 c.2) {d z u : Nat} {M : Nat → mq_C} {Q : (Option Value ⊕ Nat) → mq_S → Prop} {o2 : Option Value} {o3 : Option Value} {o4 : Option Value} {o5 : Option Value} {o6 : Option Value} (hd : 1 ≤ d) (hz : 272 ≤ z) (hm : mz_sh mz_GG M) (hx : X M) (h0 : mq_nl o2 = true) (h1 : mq_nl o3 = true) (h2 : mq_nl o4 = true) (h3 : mq_nl o5 = true) (h4 : mq_nl o6 = true)
    (k0 : ∀ (M' : Nat → mq_C) (y2 : Int32) (y3 : Int32) (y4 : Int32) (y5 : Int32) (w6 : Option Value), mz_sh mz_GG M' → X M' → mz_fr hs_so16_q M M' → (∀ a, a < 8 → M' a = M a) → hb_same mz_GG hs_so16_q M M' → mq_nl w6 = true → y2.toInt = 0 → y3.toInt = 0 → y4.toInt = 0 → y5.toInt = 1 → hv M' 9 3 = hv M 9 3 → hv M' 9 5 = hv M 9 5 → mq_R mq_PP d 100 10 [some (.ref 9), some (.ref 16), some (.int y2), some (.int y3), some (.int y4), some (.int y5), w6] [] (M', z, u) Q) : mq_R mq_PP d 100 0 [some (.ref 9), some (.ref 16), o2, o3, o4, o5, o6] [] (M, z, u) Q := by
  refine hb_blk mz_GG mq_PP X (q := hs_so16_q) (nl := 7) (M := M) hb_okG hX hC hs_so16_c hz hd (L := [some (.ref 9), some (.ref 16), o2, o3, o4, o5, o6]) (st := []) (show hb_lk mz_GG ([(1, 9), (1, 16), (3, 0), (3, 0), (3, 0), (3, 0), (3, 0)]) _ from ⟨⟨List.mem_singleton.mpr rfl, rfl⟩, ⟨List.mem_singleton.mpr rfl, rfl⟩, h0, h1, h2, h3, h4, trivial⟩) (show hb_pk mz_GG ([]) _ from trivial) hm hx ?_ ?_ ?_
  · exact hb_nil
  · intro s hs
    rcases List.mem_cons.mp hs with rfl | hs
    · intro ρ1 L' st' M' g1 g2 gm gr gf gs gx gw g8 ge
      obtain ⟨e0, L1, rfl, n0, gg0⟩ := hb_l1 mz_GG g1
      obtain rfl : e0 = 9 := List.mem_singleton.mp n0
      obtain ⟨e1, L1, rfl, n1, gg1⟩ := hb_l1 mz_GG gg0
      obtain rfl : e1 = 16 := List.mem_singleton.mp n1
      obtain ⟨y2, L1, rfl, qr70, gg2⟩ := hb_l0 mz_GG gg1
      have r70 : ρ1 70 = y2.toInt := qr70
      obtain ⟨y3, L1, rfl, qr71, gg3⟩ := hb_l0 mz_GG gg2
      have r71 : ρ1 71 = y3.toInt := qr71
      obtain ⟨y4, L1, rfl, qr72, gg4⟩ := hb_l0 mz_GG gg3
      have r72 : ρ1 72 = y4.toInt := qr72
      obtain ⟨y5, L1, rfl, qr73, gg5⟩ := hb_l0 mz_GG gg4
      have r73 : ρ1 73 = y5.toInt := qr73
      obtain ⟨w6, L1, rfl, n6, gg6⟩ := hb_l3 mz_GG gg5
      obtain rfl := hb_ln mz_GG gg6
      obtain rfl := hb_pn mz_GG g2
      have r12 : ρ1 12 = hv M 9 3 := gr 12 (by decide +kernel)
      have r14 : ρ1 14 = hv M 9 5 := gr 14 (by decide +kernel)
      have r75 : ρ1 75 = hv M' 9 3 := gm 0 5 (9, 3) rfl rfl
      have r76 : ρ1 76 = hv M' 9 5 := gm 1 7 (9, 5) rfl rfl
      obtain ⟨f0, gf⟩ := hb_unc gf
      have f0 : 0 ≤ 0 + (1 * ρ1 70 + 0) := f0
      rw [r70] at f0
      obtain ⟨f1, gf⟩ := hb_unc gf
      have f1 : 0 ≤ 0 + ((-1) * ρ1 70 + 0) := f1
      rw [r70] at f1
      obtain ⟨f2, gf⟩ := hb_unc gf
      have f2 : 0 ≤ 0 + (1 * ρ1 71 + 0) := f2
      rw [r71] at f2
      obtain ⟨f3, gf⟩ := hb_unc gf
      have f3 : 0 ≤ 0 + ((-1) * ρ1 71 + 0) := f3
      rw [r71] at f3
      obtain ⟨f4, gf⟩ := hb_unc gf
      have f4 : 0 ≤ 0 + (1 * ρ1 72 + 0) := f4
      rw [r72] at f4
      obtain ⟨f5, gf⟩ := hb_unc gf
      have f5 : 0 ≤ 0 + ((-1) * ρ1 72 + 0) := f5
      rw [r72] at f5
      obtain ⟨f6, gf⟩ := hb_unc gf
      have f6 : 0 ≤ -1 + (1 * ρ1 73 + 0) := f6
      rw [r73] at f6
      obtain ⟨f7, gf⟩ := hb_unc gf
      have f7 : 0 ≤ 1 + ((-1) * ρ1 73 + 0) := f7
      rw [r73] at f7
      obtain ⟨f8, gf⟩ := hb_unc gf
      have f8 : 0 ≤ 0 + ((-1) * ρ1 12 + (1 * ρ1 75 + 0)) := f8
      rw [r12, r75] at f8
      obtain ⟨f9, gf⟩ := hb_unc gf
      have f9 : 0 ≤ 0 + (1 * ρ1 12 + ((-1) * ρ1 75 + 0)) := f9
      rw [r12, r75] at f9
      obtain ⟨f10, gf⟩ := hb_unc gf
      have f10 : 0 ≤ 0 + ((-1) * ρ1 14 + (1 * ρ1 76 + 0)) := f10
      rw [r14, r76] at f10
      obtain ⟨f11, gf⟩ := hb_unc gf
      have f11 : 0 ≤ 0 + (1 * ρ1 14 + ((-1) * ρ1 76 + 0)) := f11
      rw [r14, r76] at f11
      exact k0 M' y2 y3 y4 y5 w6 gs gx gw g8 ge n6 (by have h1 := f0; have h2 := f1; omega) (by have h1 := f2; have h2 := f3; omega) (by have h1 := f4; have h2 := f5; omega) (by have h1 := f6; have h2 := f7; omega) (by have h1 := f8; have h2 := f9; omega) (by have h1 := f10; have h2 := f11; omega)
    cases hs
  · intro r S hpo
    obtain ⟨b1, b2, b3, b4, b5, p, hp, res, hf, hre⟩ := hpo
    cases hp

def hs_sa16_q : mz_Q := (100, [(1, 9), (1, 16), (0, 0), (0, 0), (0, 0), (0, 0), (3, 0)], [(0, [(11, 8), (13, -1)]), (0, [(2, 1)]), (40000, [(2, -1)]), (-1, [(5, 1)]), (16, [(5, -1)])], [5, 7], [(0, 0, [(0, [(70, 1)]), (0, [(70, -1)]), (0, [(12, -1), (68, 1)]), (-1, [(69, 1)]), (1, [(69, -1)])])], [9])
def hs_sa16_s : List mz_Sp2 := [(70, [(1, 9), (1, 16), (0, 0), (0, 0), (0, 0), (0, 0), (3, 0)], [(0, 0), (1, 17)], [(0, [(3, -1), (71, 1)]), (0, [(3, 1), (71, -1)]), (0, [(4, -1), (72, 1)]), (0, [(4, 1), (72, -1)]), (0, [(5, -1), (73, 1)]), (0, [(5, 1), (73, -1)]), (0, [(5, -1), (75, 1)]), (0, [(5, 1), (75, -1)]), (-1, [(12, -1), (77, 1)]), (1, [(12, 1), (77, -1)]), (0, [(14, -1), (78, 1)]), (0, [(14, 1), (78, -1)]), (15, [(5, -1)]), (-1, [(12, -1), (13, 1)]), (1, [(2, 2), (70, -1)]), (0, [(2, -2), (70, 1)])])]
def hs_sa16_h : List mz_H := [(0, 0, []), (0, 0, []), (0, 0, []), (0, 0, []), (0, 0, []), (0, 0, []), (0, 0, []), (0, 0, []), (0, 0, []), (0, 0, []), (0, 0, []), (0, 0, []), (0, 0, []), (0, 0, []), (0, 0, []), (0, 0, []), (0, 0, []), (0, 0, []), (0, 0, []), (0, 0, []), (0, 0, []), (0, 0, [(3, 2)]), (0, 0, [(4, 2)]), (1023, 0, []), (0, 7, [(0, 1), (29, 1)]), (0, 7, [(1, 1), (4, 1), (6, 1)]), (1, 1, []), (0, 0, [(0, 1)]), (0, 0, [(1, 1)]), (0, 0, [(15, 2)]), (0, 0, []), (0, 0, [(0, 1), (15, 2)]), (0, 0, [(1, 1), (16, 2)]), (0, 0, []), (0, 0, [(37, 1)]), (0, 0, [(38, 1)]), (0, 0, [(37, 1)]), (0, 0, [(12, 1), (40, 1)]), (17, 0, []), (0, 0, []), (0, 0, []), (0, 0, []), (0, 0, []), (0, 0, []), (0, 0, []), (0, 0, []), (0, 0, []), (0, 0, []), (0, 0, []), (0, 0, []), (0, 0, []), (0, 0, []), (0, 0, [(13, 1)]), (0, 0, [(12, 1)]), (0, 0, [(1, 1)]), (0, 0, [(0, 1)])]
set_option maxRecDepth 100000 in
theorem hs_sa16_c : mz_blk mz_GG mq_PP mz_Cs hs_sa16_q 7 1 10 hs_sa16_s [] 52 hs_sa16_h = true := by decide +kernel
theorem hs_sa16 {X : (Nat → mq_C) → Prop} (hX : ∀ M M' : Nat → mq_C, mz_same mz_GG M M' → X M → X M') (hC : ∀ c ∈ mz_Cs, c.2 < 1 → mz_Ct mz_GG mq_PP X c.1 c.2) {d z u : Nat} {M : Nat → mq_C} {Q : (Option Value ⊕ Nat) → mq_S → Prop} {x2 : Int32} {x3 : Int32} {x4 : Int32} {x5 : Int32} {o6 : Option Value} (hd : 1 ≤ d) (hz : 272 ≤ z) (hm : mz_sh mz_GG M) (hx : X M) (h0 : mq_nl o6 = true) (p0 : 0 ≤ 8 * hv M 9 2 - hv M 9 4) (p1 : 0 ≤ x2.toInt) (p2 : 0 ≤ 40000 - x2.toInt) (p3 : 0 ≤ (-1) + x5.toInt) (p4 : 0 ≤ 16 - x5.toInt)
    (k0 : ∀ (M' : Nat → mq_C) (y2 : Int32) (w6 : Option Value), mz_sh mz_GG M' → X M' → mz_fr hs_sa16_q M M' → (∀ a, a < 8 → M' a = M a) → hb_same mz_GG hs_sa16_q M M' → mq_nl w6 = true → hv M' 9 3 = 1 + hv M 9 3 → hv M' 9 5 = hv M 9 5 → 0 ≤ 15 - x5.toInt → 0 ≤ (-1) - hv M 9 3 + hv M 9 4 → 0 ≤ 1 + 2 * x2.toInt - y2.toInt → 0 ≤ 0 - 2 * x2.toInt + y2.toInt → mq_R mq_PP d 100 70 [some (.ref 9), some (.ref 16), some (.int y2), some (.int x3), some (.int x4), some (.int x5), w6] [.int x5, .ref 17] (M', z, u) Q)
    (w0 : ∀ (M' : Nat → mq_C) (r : Int32), mz_sh mz_GG M' → X M' → mz_fr hs_sa16_q M M' → (∀ a, a < 8 → M' a = M a) → hb_same mz_GG hs_sa16_q M M' → 0 ≤ r.toInt → 0 ≤ 0 - r.toInt → 0 ≤ 0 - hv M 9 3 + hv M' 9 3 → 0 ≤ (-1) + hv M' 9 5 → 0 ≤ 1 - hv M' 9 5 → Q (.inl (some (.int r))) (M', z, u)) : mq_R mq_PP d 100 10 [some (.ref 9), some (.ref 16), some (.int x2), some (.int x3), some (.int x4), some (.int x5), o6] [] (M, z, u) Q := by
  refine hb_blk mz_GG mq_PP X (q := hs_sa16_q) (nl := 7) (M := M) hb_okG hX hC hs_sa16_c hz hd (L := [some (.ref 9), some (.ref 16), some (.int x2), some (.int x3), some (.int x4), some (.int x5), o6]) (st := []) (show hb_lk mz_GG ([(1, 9), (1, 16), (0, 0), (0, 0), (0, 0), (0, 0), (3, 0)]) _ from ⟨⟨List.mem_singleton.mpr rfl, rfl⟩, ⟨List.mem_singleton.mpr rfl, rfl⟩, trivial, trivial, trivial, trivial, h0, trivial⟩) (show hb_pk mz_GG ([]) _ from trivial) hm hx ?_ ?_ ?_
  · exact hb_cons (show 0 ≤ mz_ev _ _ from (show 0 ≤ 0 + (8 * hv M 9 2 + ((-1) * hv M 9 4 + 0)) by omega)) (hb_cons (show 0 ≤ mz_ev _ _ from (show 0 ≤ 0 + (1 * x2.toInt + 0) by omega)) (hb_cons (show 0 ≤ mz_ev _ _ from (show 0 ≤ 40000 + ((-1) * x2.toInt + 0) by omega)) (hb_cons (show 0 ≤ mz_ev _ _ from (show 0 ≤ -1 + (1 * x5.toInt + 0) by omega)) (hb_cons (show 0 ≤ mz_ev _ _ from (show 0 ≤ 16 + ((-1) * x5.toInt + 0) by omega)) (hb_nil)))))
  · intro s hs
    rcases List.mem_cons.mp hs with rfl | hs
    · intro ρ1 L' st' M' g1 g2 gm gr gf gs gx gw g8 ge
      obtain ⟨e0, L1, rfl, n0, gg0⟩ := hb_l1 mz_GG g1
      obtain rfl : e0 = 9 := List.mem_singleton.mp n0
      obtain ⟨e1, L1, rfl, n1, gg1⟩ := hb_l1 mz_GG gg0
      obtain rfl : e1 = 16 := List.mem_singleton.mp n1
      obtain ⟨y2, L1, rfl, qr70, gg2⟩ := hb_l0 mz_GG gg1
      have r70 : ρ1 70 = y2.toInt := qr70
      obtain ⟨y3, L1, rfl, qr71, gg3⟩ := hb_l0 mz_GG gg2
      have r71 : ρ1 71 = y3.toInt := qr71
      obtain ⟨y4, L1, rfl, qr72, gg4⟩ := hb_l0 mz_GG gg3
      have r72 : ρ1 72 = y4.toInt := qr72
      obtain ⟨y5, L1, rfl, qr73, gg5⟩ := hb_l0 mz_GG gg4
      have r73 : ρ1 73 = y5.toInt := qr73
      obtain ⟨w6, L1, rfl, n6, gg6⟩ := hb_l3 mz_GG gg5
      obtain ⟨y7, s1, rfl, qr75, gg7⟩ := hb_p0 mz_GG g2
      have r75 : ρ1 75 = y7.toInt := qr75
      obtain ⟨e8, s1, rfl, n8, gg8⟩ := hb_p1 mz_GG gg7
      obtain rfl : e8 = 17 := List.mem_singleton.mp n8
      obtain rfl := hb_ln mz_GG gg6
      obtain rfl := hb_pn mz_GG gg8
      have r2 : ρ1 2 = x2.toInt := gr 2 (by decide +kernel)
      have r3 : ρ1 3 = x3.toInt := gr 3 (by decide +kernel)
      have r4 : ρ1 4 = x4.toInt := gr 4 (by decide +kernel)
      have r5 : ρ1 5 = x5.toInt := gr 5 (by decide +kernel)
      have r12 : ρ1 12 = hv M 9 3 := gr 12 (by decide +kernel)
      have r13 : ρ1 13 = hv M 9 4 := gr 13 (by decide +kernel)
      have r14 : ρ1 14 = hv M 9 5 := gr 14 (by decide +kernel)
      have r77 : ρ1 77 = hv M' 9 3 := gm 0 5 (9, 3) rfl rfl
      have r78 : ρ1 78 = hv M' 9 5 := gm 1 7 (9, 5) rfl rfl
      obtain ⟨f0, gf⟩ := hb_unc gf
      have f0 : 0 ≤ 0 + ((-1) * ρ1 3 + (1 * ρ1 71 + 0)) := f0
      rw [r3, r71] at f0
      obtain ⟨f1, gf⟩ := hb_unc gf
      have f1 : 0 ≤ 0 + (1 * ρ1 3 + ((-1) * ρ1 71 + 0)) := f1
      rw [r3, r71] at f1
      obtain ⟨f2, gf⟩ := hb_unc gf
      have f2 : 0 ≤ 0 + ((-1) * ρ1 4 + (1 * ρ1 72 + 0)) := f2
      rw [r4, r72] at f2
      obtain ⟨f3, gf⟩ := hb_unc gf
      have f3 : 0 ≤ 0 + (1 * ρ1 4 + ((-1) * ρ1 72 + 0)) := f3
      rw [r4, r72] at f3
      obtain ⟨f4, gf⟩ := hb_unc gf
      have f4 : 0 ≤ 0 + ((-1) * ρ1 5 + (1 * ρ1 73 + 0)) := f4
      rw [r5, r73] at f4
      obtain ⟨f5, gf⟩ := hb_unc gf
      have f5 : 0 ≤ 0 + (1 * ρ1 5 + ((-1) * ρ1 73 + 0)) := f5
      rw [r5, r73] at f5
      obtain ⟨f6, gf⟩ := hb_unc gf
      have f6 : 0 ≤ 0 + ((-1) * ρ1 5 + (1 * ρ1 75 + 0)) := f6
      rw [r5, r75] at f6
      obtain ⟨f7, gf⟩ := hb_unc gf
      have f7 : 0 ≤ 0 + (1 * ρ1 5 + ((-1) * ρ1 75 + 0)) := f7
      rw [r5, r75] at f7
      obtain ⟨f8, gf⟩ := hb_unc gf
      have f8 : 0 ≤ -1 + ((-1) * ρ1 12 + (1 * ρ1 77 + 0)) := f8
      rw [r12, r77] at f8
      obtain ⟨f9, gf⟩ := hb_unc gf
      have f9 : 0 ≤ 1 + (1 * ρ1 12 + ((-1) * ρ1 77 + 0)) := f9
      rw [r12, r77] at f9
      obtain ⟨f10, gf⟩ := hb_unc gf
      have f10 : 0 ≤ 0 + ((-1) * ρ1 14 + (1 * ρ1 78 + 0)) := f10
      rw [r14, r78] at f10
      obtain ⟨f11, gf⟩ := hb_unc gf
      have f11 : 0 ≤ 0 + (1 * ρ1 14 + ((-1) * ρ1 78 + 0)) := f11
      rw [r14, r78] at f11
      obtain ⟨f12, gf⟩ := hb_unc gf
      have f12 : 0 ≤ 15 + ((-1) * ρ1 5 + 0) := f12
      rw [r5] at f12
      obtain ⟨f13, gf⟩ := hb_unc gf
      have f13 : 0 ≤ -1 + ((-1) * ρ1 12 + (1 * ρ1 13 + 0)) := f13
      rw [r12, r13] at f13
      obtain ⟨f14, gf⟩ := hb_unc gf
      have f14 : 0 ≤ 1 + (2 * ρ1 2 + ((-1) * ρ1 70 + 0)) := f14
      rw [r2, r70] at f14
      obtain ⟨f15, gf⟩ := hb_unc gf
      have f15 : 0 ≤ 0 + ((-2) * ρ1 2 + (1 * ρ1 70 + 0)) := f15
      rw [r2, r70] at f15
      have hy3 : y3 = x3 := hb_inj f0 f1
      subst y3
      have hy4 : y4 = x4 := hb_inj f2 f3
      subst y4
      have hy5 : y5 = x5 := hb_inj f4 f5
      subst y5
      have hy7 : y7 = x5 := hb_inj f6 f7
      subst y7
      exact k0 M' y2 w6 gs gx gw g8 ge n6 (by have h1 := f8; have h2 := f9; omega) (by have h1 := f10; have h2 := f11; omega) (by have h1 := f12; omega) (by have h1 := f13; omega) (by have h1 := f14; omega) (by have h1 := f15; omega)
    cases hs
  · intro r S hpo
    obtain ⟨b1, b2, b3, b4, b5, p, hp, res, hf, hre⟩ := hpo
    rcases List.mem_cons.mp hp with rfl | hp
    · obtain ⟨x, rfl, hr, hz1, hu1⟩ := mz_re_0 mz_GG hre rfl
      obtain ⟨M', z', u'⟩ := S
      cases hz1
      cases hu1
      have r12 : hb_r1 mz_GG hs_sa16_q (hb_rb mz_GG hs_sa16_q 7 [some (.ref 9), some (.ref 16), some (.int x2), some (.int x3), some (.int x4), some (.int x5), o6] [] M) M' res 12 = hv M 9 3 := rfl
      have r68 : hb_r1 mz_GG hs_sa16_q (hb_rb mz_GG hs_sa16_q 7 [some (.ref 9), some (.ref 16), some (.int x2), some (.int x3), some (.int x4), some (.int x5), o6] [] M) M' res 68 = hv M' 9 3 := rfl
      have r69 : hb_r1 mz_GG hs_sa16_q (hb_rb mz_GG hs_sa16_q 7 [some (.ref 9), some (.ref 16), some (.int x2), some (.int x3), some (.int x4), some (.int x5), o6] [] M) M' res 69 = hv M' 9 5 := rfl
      have r70 : hb_r1 mz_GG hs_sa16_q (hb_rb mz_GG hs_sa16_q 7 [some (.ref 9), some (.ref 16), some (.int x2), some (.int x3), some (.int x4), some (.int x5), o6] [] M) M' res 70 = res := rfl
      obtain ⟨f0, hf⟩ := hb_unc hf
      have f0 : 0 ≤ 0 + (1 * res + 0) := f0
      rw [← hr] at f0
      obtain ⟨f1, hf⟩ := hb_unc hf
      have f1 : 0 ≤ 0 + ((-1) * res + 0) := f1
      rw [← hr] at f1
      obtain ⟨f2, hf⟩ := hb_unc hf
      have f2 : 0 ≤ 0 + ((-1) * hv M 9 3 + (1 * hv M' 9 3 + 0)) := f2
      obtain ⟨f3, hf⟩ := hb_unc hf
      have f3 : 0 ≤ -1 + (1 * hv M' 9 5 + 0) := f3
      obtain ⟨f4, hf⟩ := hb_unc hf
      have f4 : 0 ≤ 1 + ((-1) * hv M' 9 5 + 0) := f4
      exact w0 M' x b1 b2 b3 b4 b5 (by have h1 := f0; omega) (by have h1 := f1; omega) (by have h1 := f2; omega) (by have h1 := f3; omega) (by have h1 := f4; omega)
    cases hp

def hs_sb16_q : mz_Q := (100, [(1, 9), (1, 16), (0, 0), (0, 0), (0, 0), (0, 0), (3, 0), (0, 0)], [(0, [(2, 1)]), (90000, [(2, -1)]), (0, [(3, 1)]), (0, [(2, 1), (3, -1)]), (0, [(4, 1)]), (0, [(7, 1)]), (286, [(4, -1), (7, -1)]), (-1, [(5, 1)]), (15, [(5, -1)])], [5, 7], [(0, 0, [(0, [(71, 1)]), (287, [(71, -1)]), (0, [(13, -1), (69, 1)]), (0, [(13, 1), (69, -1)]), (0, [(15, -1), (70, 1)]), (0, [(15, 1), (70, -1)])])], [])
def hs_sb16_s : List mz_Sp2 := [(10, [(1, 9), (1, 16), (0, 0), (0, 0), (0, 0), (0, 0), (0, 0)], [], [(0, [(2, -1), (71, 1)]), (0, [(2, 1), (71, -1)]), (0, [(3, -2), (7, -2), (72, 1)]), (0, [(3, 2), (7, 2), (72, -1)]), (0, [(4, -1), (7, -1), (73, 1)]), (0, [(4, 1), (7, 1), (73, -1)]), (-1, [(5, -1), (74, 1)]), (1, [(5, 1), (74, -1)]), (0, [(7, -1), (75, 1)]), (0, [(7, 1), (75, -1)]), (0, [(13, -1), (76, 1)]), (0, [(13, 1), (76, -1)]), (0, [(15, -1), (77, 1)]), (0, [(15, 1), (77, -1)]), (0, [(2, 1), (3, -1), (7, -1)])])]
def hs_sb16_h : List mz_H := [(0, 0, []), (0, 0, [(3, 1)]), (0, 0, [(1, 1), (2, 1)]), (0, 0, []), (0, 0, []), (0, 0, []), (0, 0, [(5, 1), (6, 1)]), (0, 0, [(7, 1)]), (0, 0, []), (0, 0, [(3, 1), (6, 1)]), (0, 0, [(0, 1), (2, 1)]), (0, 0, []), (0, 0, [(3, 2), (6, 2)]), (0, 0, [(0, 2), (2, 2)]), (0, 0, []), (0, 0, [(8, 1)]), (0, 0, [(9, 1)]), (0, 0, []), (0, 0, []), (0, 0, []), (0, 0, []), (0, 0, []), (0, 0, []), (0, 0, []), (0, 0, []), (0, 0, []), (0, 0, []), (0, 0, []), (0, 0, []), (0, 0, []), (0, 0, []), (0, 0, []), (0, 0, [(0, 1)]), (19, 0, []), (0, 0, []), (0, 0, [(1, 1), (5, 1)]), (0, 0, [(0, 1), (2, 1), (4, 1), (7, 1)]), (0, 0, []), (0, 0, [(4, 1), (5, 1)]), (0, 0, [(0, 1), (7, 1)]), (0, 0, [(4, 1), (5, 1)]), (0, 0, [(0, 1), (7, 1)]), (0, 0, []), (0, 0, [(0, 1)]), (0, 0, [(1, 1)]), (0, 0, []), (0, 0, []), (0, 0, []), (0, 0, [])]
set_option maxRecDepth 100000 in
theorem hs_sb16_c : mz_blk mz_GG mq_PP mz_Cs hs_sb16_q 7 1 71 hs_sb16_s [] 33 hs_sb16_h = true := by decide +kernel
theorem hs_sb16 {X : (Nat → mq_C) → Prop} (hX : ∀ M M' : Nat → mq_C, mz_same mz_GG M M' → X M → X M') (hC : ∀ c ∈ mz_Cs, c.2 < 1 → mz_Ct mz_GG mq_PP X c.1 c.2) {d z u : Nat} {M : Nat → mq_C} {Q : (Option Value ⊕ Nat) → mq_S → Prop} {x2 : Int32} {x3 : Int32} {x4 : Int32} {x5 : Int32} {o6 : Option Value} {x7 : Int32} (hd : 1 ≤ d) (hz : 272 ≤ z) (hm : mz_sh mz_GG M) (hx : X M) (h0 : mq_nl o6 = true) (p0 : 0 ≤ x2.toInt) (p1 : 0 ≤ 90000 - x2.toInt) (p2 : 0 ≤ x3.toInt) (p3 : 0 ≤ x2.toInt - x3.toInt) (p4 : 0 ≤ x4.toInt) (p5 : 0 ≤ x7.toInt) (p6 : 0 ≤ 286 - x4.toInt - x7.toInt) (p7 : 0 ≤ (-1) + x5.toInt) (p8 : 0 ≤ 15 - x5.toInt)
    (k0 : ∀ (M' : Nat → mq_C) (y3 : Int32) (y4 : Int32) (y5 : Int32), mz_sh mz_GG M' → X M' → mz_fr hs_sb16_q M M' → (∀ a, a < 8 → M' a = M a) → hb_same mz_GG hs_sb16_q M M' → y3.toInt = 2 * x3.toInt + 2 * x7.toInt → y4.toInt = x4.toInt + x7.toInt → y5.toInt = 1 + x5.toInt → hv M' 9 3 = hv M 9 3 → hv M' 9 5 = hv M 9 5 → 0 ≤ x2.toInt - x3.toInt - x7.toInt → mq_R mq_PP d 100 10 [some (.ref 9), some (.ref 16), some (.int x2), some (.int y3), some (.int y4), some (.int y5), some (.int x7)] [] (M', z, u) Q)
    (w0 : ∀ (M' : Nat → mq_C) (r : Int32), mz_sh mz_GG M' → X M' → mz_fr hs_sb16_q M M' → (∀ a, a < 8 → M' a = M a) → hb_same mz_GG hs_sb16_q M M' → 0 ≤ r.toInt → 0 ≤ 287 - r.toInt → 0 ≤ 0 - hv M 9 3 + hv M' 9 3 → 0 ≤ hv M 9 3 - hv M' 9 3 → 0 ≤ 0 - hv M 9 5 + hv M' 9 5 → 0 ≤ hv M 9 5 - hv M' 9 5 → Q (.inl (some (.int r))) (M', z, u)) : mq_R mq_PP d 100 71 [some (.ref 9), some (.ref 16), some (.int x2), some (.int x3), some (.int x4), some (.int x5), o6] [.int x7] (M, z, u) Q := by
  refine hb_blk mz_GG mq_PP X (q := hs_sb16_q) (nl := 7) (M := M) hb_okG hX hC hs_sb16_c hz hd (L := [some (.ref 9), some (.ref 16), some (.int x2), some (.int x3), some (.int x4), some (.int x5), o6]) (st := [.int x7]) (show hb_lk mz_GG ([(1, 9), (1, 16), (0, 0), (0, 0), (0, 0), (0, 0), (3, 0)]) _ from ⟨⟨List.mem_singleton.mpr rfl, rfl⟩, ⟨List.mem_singleton.mpr rfl, rfl⟩, trivial, trivial, trivial, trivial, h0, trivial⟩) (show hb_pk mz_GG ([(0, 0)]) _ from ⟨trivial, trivial⟩) hm hx ?_ ?_ ?_
  · exact hb_cons (show 0 ≤ mz_ev _ _ from (show 0 ≤ 0 + (1 * x2.toInt + 0) by omega)) (hb_cons (show 0 ≤ mz_ev _ _ from (show 0 ≤ 90000 + ((-1) * x2.toInt + 0) by omega)) (hb_cons (show 0 ≤ mz_ev _ _ from (show 0 ≤ 0 + (1 * x3.toInt + 0) by omega)) (hb_cons (show 0 ≤ mz_ev _ _ from (show 0 ≤ 0 + (1 * x2.toInt + ((-1) * x3.toInt + 0)) by omega)) (hb_cons (show 0 ≤ mz_ev _ _ from (show 0 ≤ 0 + (1 * x4.toInt + 0) by omega)) (hb_cons (show 0 ≤ mz_ev _ _ from (show 0 ≤ 0 + (1 * x7.toInt + 0) by omega)) (hb_cons (show 0 ≤ mz_ev _ _ from (show 0 ≤ 286 + ((-1) * x4.toInt + ((-1) * x7.toInt + 0)) by omega)) (hb_cons (show 0 ≤ mz_ev _ _ from (show 0 ≤ -1 + (1 * x5.toInt + 0) by omega)) (hb_cons (show 0 ≤ mz_ev _ _ from (show 0 ≤ 15 + ((-1) * x5.toInt + 0) by omega)) (hb_nil)))))))))
  · intro s hs
    rcases List.mem_cons.mp hs with rfl | hs
    · intro ρ1 L' st' M' g1 g2 gm gr gf gs gx gw g8 ge
      obtain ⟨e0, L1, rfl, n0, gg0⟩ := hb_l1 mz_GG g1
      obtain rfl : e0 = 9 := List.mem_singleton.mp n0
      obtain ⟨e1, L1, rfl, n1, gg1⟩ := hb_l1 mz_GG gg0
      obtain rfl : e1 = 16 := List.mem_singleton.mp n1
      obtain ⟨y2, L1, rfl, qr71, gg2⟩ := hb_l0 mz_GG gg1
      have r71 : ρ1 71 = y2.toInt := qr71
      obtain ⟨y3, L1, rfl, qr72, gg3⟩ := hb_l0 mz_GG gg2
      have r72 : ρ1 72 = y3.toInt := qr72
      obtain ⟨y4, L1, rfl, qr73, gg4⟩ := hb_l0 mz_GG gg3
      have r73 : ρ1 73 = y4.toInt := qr73
      obtain ⟨y5, L1, rfl, qr74, gg5⟩ := hb_l0 mz_GG gg4
      have r74 : ρ1 74 = y5.toInt := qr74
      obtain ⟨y6, L1, rfl, qr75, gg6⟩ := hb_l0 mz_GG gg5
      have r75 : ρ1 75 = y6.toInt := qr75
      obtain rfl := hb_ln mz_GG gg6
      obtain rfl := hb_pn mz_GG g2
      have r2 : ρ1 2 = x2.toInt := gr 2 (by decide +kernel)
      have r3 : ρ1 3 = x3.toInt := gr 3 (by decide +kernel)
      have r4 : ρ1 4 = x4.toInt := gr 4 (by decide +kernel)
      have r5 : ρ1 5 = x5.toInt := gr 5 (by decide +kernel)
      have r7 : ρ1 7 = x7.toInt := gr 7 (by decide +kernel)
      have r13 : ρ1 13 = hv M 9 3 := gr 13 (by decide +kernel)
      have r15 : ρ1 15 = hv M 9 5 := gr 15 (by decide +kernel)
      have r76 : ρ1 76 = hv M' 9 3 := gm 0 5 (9, 3) rfl rfl
      have r77 : ρ1 77 = hv M' 9 5 := gm 1 7 (9, 5) rfl rfl
      obtain ⟨f0, gf⟩ := hb_unc gf
      have f0 : 0 ≤ 0 + ((-1) * ρ1 2 + (1 * ρ1 71 + 0)) := f0
      rw [r2, r71] at f0
      obtain ⟨f1, gf⟩ := hb_unc gf
      have f1 : 0 ≤ 0 + (1 * ρ1 2 + ((-1) * ρ1 71 + 0)) := f1
      rw [r2, r71] at f1
      obtain ⟨f2, gf⟩ := hb_unc gf
      have f2 : 0 ≤ 0 + ((-2) * ρ1 3 + ((-2) * ρ1 7 + (1 * ρ1 72 + 0))) := f2
      rw [r3, r7, r72] at f2
      obtain ⟨f3, gf⟩ := hb_unc gf
      have f3 : 0 ≤ 0 + (2 * ρ1 3 + (2 * ρ1 7 + ((-1) * ρ1 72 + 0))) := f3
      rw [r3, r7, r72] at f3
      obtain ⟨f4, gf⟩ := hb_unc gf
      have f4 : 0 ≤ 0 + ((-1) * ρ1 4 + ((-1) * ρ1 7 + (1 * ρ1 73 + 0))) := f4
      rw [r4, r7, r73] at f4
      obtain ⟨f5, gf⟩ := hb_unc gf
      have f5 : 0 ≤ 0 + (1 * ρ1 4 + (1 * ρ1 7 + ((-1) * ρ1 73 + 0))) := f5
      rw [r4, r7, r73] at f5
      obtain ⟨f6, gf⟩ := hb_unc gf
      have f6 : 0 ≤ -1 + ((-1) * ρ1 5 + (1 * ρ1 74 + 0)) := f6
      rw [r5, r74] at f6
      obtain ⟨f7, gf⟩ := hb_unc gf
      have f7 : 0 ≤ 1 + (1 * ρ1 5 + ((-1) * ρ1 74 + 0)) := f7
      rw [r5, r74] at f7
      obtain ⟨f8, gf⟩ := hb_unc gf
      have f8 : 0 ≤ 0 + ((-1) * ρ1 7 + (1 * ρ1 75 + 0)) := f8
      rw [r7, r75] at f8
      obtain ⟨f9, gf⟩ := hb_unc gf
      have f9 : 0 ≤ 0 + (1 * ρ1 7 + ((-1) * ρ1 75 + 0)) := f9
      rw [r7, r75] at f9
      obtain ⟨f10, gf⟩ := hb_unc gf
      have f10 : 0 ≤ 0 + ((-1) * ρ1 13 + (1 * ρ1 76 + 0)) := f10
      rw [r13, r76] at f10
      obtain ⟨f11, gf⟩ := hb_unc gf
      have f11 : 0 ≤ 0 + (1 * ρ1 13 + ((-1) * ρ1 76 + 0)) := f11
      rw [r13, r76] at f11
      obtain ⟨f12, gf⟩ := hb_unc gf
      have f12 : 0 ≤ 0 + ((-1) * ρ1 15 + (1 * ρ1 77 + 0)) := f12
      rw [r15, r77] at f12
      obtain ⟨f13, gf⟩ := hb_unc gf
      have f13 : 0 ≤ 0 + (1 * ρ1 15 + ((-1) * ρ1 77 + 0)) := f13
      rw [r15, r77] at f13
      obtain ⟨f14, gf⟩ := hb_unc gf
      have f14 : 0 ≤ 0 + (1 * ρ1 2 + ((-1) * ρ1 3 + ((-1) * ρ1 7 + 0))) := f14
      rw [r2, r3, r7] at f14
      have hy2 : y2 = x2 := hb_inj f0 f1
      subst y2
      have hy6 : y6 = x7 := hb_inj f8 f9
      subst y6
      exact k0 M' y3 y4 y5 gs gx gw g8 ge  (by have h1 := f2; have h2 := f3; omega) (by have h1 := f4; have h2 := f5; omega) (by have h1 := f6; have h2 := f7; omega) (by have h1 := f10; have h2 := f11; omega) (by have h1 := f12; have h2 := f13; omega) (by have h1 := f14; omega)
    cases hs
  · intro r S hpo
    obtain ⟨b1, b2, b3, b4, b5, p, hp, res, hf, hre⟩ := hpo
    rcases List.mem_cons.mp hp with rfl | hp
    · obtain ⟨x, rfl, hr, hz1, hu1⟩ := mz_re_0 mz_GG hre rfl
      obtain ⟨M', z', u'⟩ := S
      cases hz1
      cases hu1
      have r13 : hb_r1 mz_GG hs_sb16_q (hb_rb mz_GG hs_sb16_q 7 [some (.ref 9), some (.ref 16), some (.int x2), some (.int x3), some (.int x4), some (.int x5), o6] [.int x7] M) M' res 13 = hv M 9 3 := rfl
      have r15 : hb_r1 mz_GG hs_sb16_q (hb_rb mz_GG hs_sb16_q 7 [some (.ref 9), some (.ref 16), some (.int x2), some (.int x3), some (.int x4), some (.int x5), o6] [.int x7] M) M' res 15 = hv M 9 5 := rfl
      have r69 : hb_r1 mz_GG hs_sb16_q (hb_rb mz_GG hs_sb16_q 7 [some (.ref 9), some (.ref 16), some (.int x2), some (.int x3), some (.int x4), some (.int x5), o6] [.int x7] M) M' res 69 = hv M' 9 3 := rfl
      have r70 : hb_r1 mz_GG hs_sb16_q (hb_rb mz_GG hs_sb16_q 7 [some (.ref 9), some (.ref 16), some (.int x2), some (.int x3), some (.int x4), some (.int x5), o6] [.int x7] M) M' res 70 = hv M' 9 5 := rfl
      have r71 : hb_r1 mz_GG hs_sb16_q (hb_rb mz_GG hs_sb16_q 7 [some (.ref 9), some (.ref 16), some (.int x2), some (.int x3), some (.int x4), some (.int x5), o6] [.int x7] M) M' res 71 = res := rfl
      obtain ⟨f0, hf⟩ := hb_unc hf
      have f0 : 0 ≤ 0 + (1 * res + 0) := f0
      rw [← hr] at f0
      obtain ⟨f1, hf⟩ := hb_unc hf
      have f1 : 0 ≤ 287 + ((-1) * res + 0) := f1
      rw [← hr] at f1
      obtain ⟨f2, hf⟩ := hb_unc hf
      have f2 : 0 ≤ 0 + ((-1) * hv M 9 3 + (1 * hv M' 9 3 + 0)) := f2
      obtain ⟨f3, hf⟩ := hb_unc hf
      have f3 : 0 ≤ 0 + (1 * hv M 9 3 + ((-1) * hv M' 9 3 + 0)) := f3
      obtain ⟨f4, hf⟩ := hb_unc hf
      have f4 : 0 ≤ 0 + ((-1) * hv M 9 5 + (1 * hv M' 9 5 + 0)) := f4
      obtain ⟨f5, hf⟩ := hb_unc hf
      have f5 : 0 ≤ 0 + (1 * hv M 9 5 + ((-1) * hv M' 9 5 + 0)) := f5
      exact w0 M' x b1 b2 b3 b4 b5 (by have h1 := f0; omega) (by have h1 := f1; omega) (by have h1 := f2; omega) (by have h1 := f3; omega) (by have h1 := f4; omega) (by have h1 := f5; omega)
    cases hp

theorem hs_sl16 {d z u : Nat} {Q : (Option Value ⊕ Nat) → mq_S → Prop} {M0 : Nat → mq_C} (hd : 1 ≤ d) (hz : 272 ≤ z)
    (hQ1 : ∀ (M' : Nat → mq_C) (r : Int32), mz_sh mz_GG M' → HX M' → mz_fr mz_q23 M0 M' → (∀ a, a < 8 → M' a = M0 a) → hb_same mz_GG mz_q23 M0 M' → 0 ≤ r.toInt → 0 ≤ 287 - r.toInt → 0 ≤ (-1) - hv M0 9 3 + hv M' 9 3 → hv M' 9 5 = hv M0 9 5 → Q (.inl (some (.int r))) (M', z, u))
    (hQ2 : ∀ (M' : Nat → mq_C) (r : Int32), mz_sh mz_GG M' → HX M' → mz_fr mz_q23 M0 M' → (∀ a, a < 8 → M' a = M0 a) → hb_same mz_GG mz_q23 M0 M' → r.toInt = 0 → 0 ≤ 0 - hv M0 9 3 + hv M' 9 3 → hv M' 9 5 = 1 → Q (.inl (some (.int r))) (M', z, u)) :
    ∀ (m : Nat) (M : Nat → mq_C) (x2 x3 x4 x5 : Int32) (o6 : Option Value), (m : Int) + x5.toInt = 16 → 1 ≤ x5.toInt → mz_sh mz_GG M → HX M → mz_fr mz_q23 M0 M → (∀ a, a < 8 → M a = M0 a) → hb_same mz_GG mz_q23 M0 M → hv M0 9 3 ≤ hv M 9 3 → hv M 9 5 = hv M0 9 5 → mq_nl o6 = true → 0 ≤ 8 * hv M 9 2 - hv M 9 4 → 0 ≤ x3.toInt → x3.toInt ≤ 2 * x2.toInt → x2.toInt + 1 ≤ ((2 ^ (x5.toInt.toNat - 1) : Nat) : Int) → x4.toInt = hb_sum (fun b => hv M (16 + 1) (b + 1)) (x5.toInt.toNat - 1) → mq_R mq_PP d 100 10 [some (.ref 9), some (.ref 16), some (.int x2), some (.int x3), some (.int x4), some (.int x5), o6] [] (M, z, u) Q := by
  intro m
  induction m with
  | zero =>
    intro M x2 x3 x4 x5 o6 e1 e2 hm hx hf h8 he a1 a2 ho hp b1 b2 b3 b4
    have hpw : 2 ^ (x5.toInt.toNat - 1) ≤ 2 ^ 15 := Nat.pow_le_pow_right (by omega) (by omega)
    refine hs_sa16 HX_same hb_C1 hd hz hm hx ho hp (by omega) (by omega) (by omega) (by omega) ?_ ?_
    · intro M' y2 w6 gs gx gw g8 ge hw f1 f2 f3 f4 f5 f6
      omega
    · intro M' r gs gx gw g8 ge f1 f2 f3 f4 f5
      refine hQ2 M' r gs gx (hb_fr_t (q' := hs_sa16_q) (fun a ha => ha) hf gw) (fun a ha => (g8 a ha).trans (h8 a ha)) (hb_same_t (q' := hs_sa16_q) (fun j hj => hj) he ge) (by omega) ?_ ?_
      · have h1 : 0 ≤ 0 - hv M 9 3 + hv M' 9 3 := f3
        omega
      · have h1 : 0 ≤ (-1) + hv M' 9 5 := f4
        have h2 : 0 ≤ 1 - hv M' 9 5 := f5
        omega
  | succ m ih =>
    intro M x2 x3 x4 x5 o6 e1 e2 hm hx hf h8 he a1 a2 ho hp b1 b2 b3 b4
    have hpw : 2 ^ (x5.toInt.toNat - 1) ≤ 2 ^ 14 := Nat.pow_le_pow_right (by omega) (by omega)
    refine hs_sa16 HX_same hb_C1 hd hz hm hx ho hp (by omega) (by omega) (by omega) (by omega) ?_ ?_
    · intro M' y2 w6 gs gx gw g8 ge hw f1 f2 f3 f4 f5 f6
      have g1 : hv M' 9 3 = 1 + hv M 9 3 := f1
      have g2 : hv M' 9 5 = hv M 9 5 := f2
      have hf' : mz_fr mz_q23 M0 M' := hb_fr_t (q' := hs_sa16_q) (fun a ha => ha) hf gw
      have he' : hb_same mz_GG mz_q23 M0 M' := hb_same_t (q' := hs_sa16_q) (fun j hj => hj) he ge
      have h8' : ∀ a, a < 8 → M' a = M0 a := fun a ha => (g8 a ha).trans (h8 a ha)
      have hp' : 0 ≤ 8 * hv M' 9 2 - hv M' 9 4 := by
        rw [show hv M' 9 2 = hv M 9 2 from ge 4 (9, 2) rfl rfl, show hv M' 9 4 = hv M 9 4 from ge 6 (9, 4) rfl rfl]
        exact hp
      have hcell : ∀ i, hv M' (16 + 1) i = hv M (16 + 1) i := hb_vc (gw _ (by decide) rfl)
      have hnn : ∀ i, i < 15 → 0 ≤ hv M' (16 + 1) (i + 1) := fun i hi => (hb_rg gs rfl (show i + 1 < 16 by omega) hb_at1).1
      have hX1 : hb_sum (fun b => hv M' (16 + 1) (b + 1)) 15 ≤ 286 := gx 1
      have b4' : x4.toInt = hb_sum (fun b => hv M' (16 + 1) (b + 1)) (x5.toInt.toNat - 1) := by
        rw [b4]
        exact hb_sum_c _ (fun i _ => (hcell _).symm)
      refine hb_ld (n := 71) (kind := 64) gs (by decide +kernel) rfl rfl (.inl rfl) (by omega) (show x5.toInt < 16 by omega) hb_at1 ?_
      intro v hv1 hv2 hv3
      have hsum : hb_sum (fun b => hv M' (16 + 1) (b + 1)) x5.toInt.toNat = x4.toInt + v.toInt := by
        rw [b4', ← hv1]
        obtain ⟨t, ht⟩ : ∃ t, x5.toInt.toNat = t + 1 := ⟨x5.toInt.toNat - 1, by omega⟩
        rw [ht]
        rfl
      have hle := hb_sum_m (f := fun b => hv M' (16 + 1) (b + 1)) (m := x5.toInt.toNat) 15 (by omega) hnn
      have hx40 := hb_sum_0 (f := fun b => hv M' (16 + 1) (b + 1)) (x5.toInt.toNat - 1) (fun i hi => hnn i (by omega))
      refine hs_sb16 HX_same hb_C1 hd hz gs gx hw (by omega) (by omega) (by omega) (by omega) (by omega) (by omega) (by omega) (by omega) (by omega) ?_ ?_
      · intro M2 y3 y4 y5 k1 k2 k3 k4 k5 l1 l2 l3 l4 l5 l6
        have q3 : hv M2 9 3 = hv M' 9 3 := l4
        have q5 : hv M2 9 5 = hv M' 9 5 := l5
        have hc2 : ∀ i, hv M2 (16 + 1) i = hv M' (16 + 1) i := hb_vc (k3 _ (by decide) rfl)
        refine ih M2 y2 y3 y4 y5 (some (.int v)) (by omega) (by omega) k1 k2 (hb_fr_t (q' := hs_sb16_q) (fun a ha => rfl) hf' k3) (fun a ha => (k4 a ha).trans (h8' a ha)) (hb_same_t (q' := hs_sb16_q) (fun j hj => hj) he' k5) (by omega) (by omega) rfl ?_ (by omega) (by omega) ?_ ?_
        · rw [show hv M2 9 2 = hv M' 9 2 from k5 4 (9, 2) rfl rfl, show hv M2 9 4 = hv M' 9 4 from k5 6 (9, 4) rfl rfl]
          exact hp'
        · have e9 : y5.toInt.toNat - 1 = x5.toInt.toNat - 1 + 1 := by omega
          rw [e9, Nat.pow_succ]
          omega
        · have e9 : y5.toInt.toNat - 1 = x5.toInt.toNat := by omega
          rw [e9, hb_sum_c _ (fun i _ => hc2 (i + 1)), hsum]
          exact l2
      · intro M2 r k1 k2 k3 k4 k5 l1 l2 l3 l4 l5 l6
        have q1 : 0 ≤ 0 - hv M' 9 3 + hv M2 9 3 := l3
        have q2 : 0 ≤ hv M' 9 3 - hv M2 9 3 := l4
        have q3 : 0 ≤ 0 - hv M' 9 5 + hv M2 9 5 := l5
        have q4 : 0 ≤ hv M' 9 5 - hv M2 9 5 := l6
        exact hQ1 M2 r k1 k2 (hb_fr_t (q' := hs_sb16_q) (fun a ha => rfl) hf' k3) (fun a ha => (k4 a ha).trans (h8' a ha)) (hb_same_t (q' := hs_sb16_q) (fun j hj => hj) he' k5) l1 (by omega) (by omega) (by omega)
    · intro M' r gs gx gw g8 ge f1 f2 f3 f4 f5
      refine hQ2 M' r gs gx (hb_fr_t (q' := hs_sa16_q) (fun a ha => ha) hf gw) (fun a ha => (g8 a ha).trans (h8 a ha)) (hb_same_t (q' := hs_sa16_q) (fun j hj => hj) he ge) (by omega) ?_ ?_
      · have h1 : 0 ≤ 0 - hv M 9 3 + hv M' 9 3 := f3
        omega
      · have h1 : 0 ≤ (-1) + hv M' 9 5 := f4
        have h2 : 0 ≤ 1 - hv M' 9 5 := f5
        omega
def hs_so20_q : mz_Q := (100, [(1, 9), (1, 20), (3, 0), (3, 0), (3, 0), (3, 0), (3, 0)], [], [5, 7], [], [])
def hs_so20_s : List mz_Sp2 := [(10, [(1, 9), (1, 20), (0, 0), (0, 0), (0, 0), (0, 0), (3, 0)], [], [(0, [(70, 1)]), (0, [(70, -1)]), (0, [(71, 1)]), (0, [(71, -1)]), (0, [(72, 1)]), (0, [(72, -1)]), (-1, [(73, 1)]), (1, [(73, -1)]), (0, [(12, -1), (75, 1)]), (0, [(12, 1), (75, -1)]), (0, [(14, -1), (76, 1)]), (0, [(14, 1), (76, -1)])])]
def hs_so20_h : List mz_H := [(0, 0, []), (0, 0, []), (0, 0, []), (0, 0, []), (0, 0, []), (0, 0, []), (0, 0, []), (0, 0, []), (0, 0, []), (0, 0, []), (0, 0, []), (0, 0, []), (0, 0, [])]
set_option maxRecDepth 100000 in
theorem hs_so20_c : mz_blk mz_GG mq_PP mz_Cs hs_so20_q 7 1 0 hs_so20_s [] 14 hs_so20_h = true := by decide +kernel
theorem hs_so20 {X : (Nat → mq_C) → Prop} (hX : ∀ M M' : Nat → mq_C, mz_same mz_GG M M' → X M → X M') (hC : ∀ c ∈ mz_Cs, c.2 < 1 → mz_Ct mz_GG mq_PP X c.1 c.2) {d z u : Nat} {M : Nat → mq_C} {Q : (Option Value ⊕ Nat) → mq_S → Prop} {o2 : Option Value} {o3 : Option Value} {o4 : Option Value} {o5 : Option Value} {o6 : Option Value} (hd : 1 ≤ d) (hz : 272 ≤ z) (hm : mz_sh mz_GG M) (hx : X M) (h0 : mq_nl o2 = true) (h1 : mq_nl o3 = true) (h2 : mq_nl o4 = true) (h3 : mq_nl o5 = true) (h4 : mq_nl o6 = true)
    (k0 : ∀ (M' : Nat → mq_C) (y2 : Int32) (y3 : Int32) (y4 : Int32) (y5 : Int32) (w6 : Option Value), mz_sh mz_GG M' → X M' → mz_fr hs_so20_q M M' → (∀ a, a < 8 → M' a = M a) → hb_same mz_GG hs_so20_q M M' → mq_nl w6 = true → y2.toInt = 0 → y3.toInt = 0 → y4.toInt = 0 → y5.toInt = 1 → hv M' 9 3 = hv M 9 3 → hv M' 9 5 = hv M 9 5 → mq_R mq_PP d 100 10 [some (.ref 9), some (.ref 20), some (.int y2), some (.int y3), some (.int y4), some (.int y5), w6] [] (M', z, u) Q) : mq_R mq_PP d 100 0 [some (.ref 9), some (.ref 20), o2, o3, o4, o5, o6] [] (M, z, u) Q := by
  refine hb_blk mz_GG mq_PP X (q := hs_so20_q) (nl := 7) (M := M) hb_okG hX hC hs_so20_c hz hd (L := [some (.ref 9), some (.ref 20), o2, o3, o4, o5, o6]) (st := []) (show hb_lk mz_GG ([(1, 9), (1, 20), (3, 0), (3, 0), (3, 0), (3, 0), (3, 0)]) _ from ⟨⟨List.mem_singleton.mpr rfl, rfl⟩, ⟨List.mem_singleton.mpr rfl, rfl⟩, h0, h1, h2, h3, h4, trivial⟩) (show hb_pk mz_GG ([]) _ from trivial) hm hx ?_ ?_ ?_
  · exact hb_nil
  · intro s hs
    rcases List.mem_cons.mp hs with rfl | hs
    · intro ρ1 L' st' M' g1 g2 gm gr gf gs gx gw g8 ge
      obtain ⟨e0, L1, rfl, n0, gg0⟩ := hb_l1 mz_GG g1
      obtain rfl : e0 = 9 := List.mem_singleton.mp n0
      obtain ⟨e1, L1, rfl, n1, gg1⟩ := hb_l1 mz_GG gg0
      obtain rfl : e1 = 20 := List.mem_singleton.mp n1
      obtain ⟨y2, L1, rfl, qr70, gg2⟩ := hb_l0 mz_GG gg1
      have r70 : ρ1 70 = y2.toInt := qr70
      obtain ⟨y3, L1, rfl, qr71, gg3⟩ := hb_l0 mz_GG gg2
      have r71 : ρ1 71 = y3.toInt := qr71
      obtain ⟨y4, L1, rfl, qr72, gg4⟩ := hb_l0 mz_GG gg3
      have r72 : ρ1 72 = y4.toInt := qr72
      obtain ⟨y5, L1, rfl, qr73, gg5⟩ := hb_l0 mz_GG gg4
      have r73 : ρ1 73 = y5.toInt := qr73
      obtain ⟨w6, L1, rfl, n6, gg6⟩ := hb_l3 mz_GG gg5
      obtain rfl := hb_ln mz_GG gg6
      obtain rfl := hb_pn mz_GG g2
      have r12 : ρ1 12 = hv M 9 3 := gr 12 (by decide +kernel)
      have r14 : ρ1 14 = hv M 9 5 := gr 14 (by decide +kernel)
      have r75 : ρ1 75 = hv M' 9 3 := gm 0 5 (9, 3) rfl rfl
      have r76 : ρ1 76 = hv M' 9 5 := gm 1 7 (9, 5) rfl rfl
      obtain ⟨f0, gf⟩ := hb_unc gf
      have f0 : 0 ≤ 0 + (1 * ρ1 70 + 0) := f0
      rw [r70] at f0
      obtain ⟨f1, gf⟩ := hb_unc gf
      have f1 : 0 ≤ 0 + ((-1) * ρ1 70 + 0) := f1
      rw [r70] at f1
      obtain ⟨f2, gf⟩ := hb_unc gf
      have f2 : 0 ≤ 0 + (1 * ρ1 71 + 0) := f2
      rw [r71] at f2
      obtain ⟨f3, gf⟩ := hb_unc gf
      have f3 : 0 ≤ 0 + ((-1) * ρ1 71 + 0) := f3
      rw [r71] at f3
      obtain ⟨f4, gf⟩ := hb_unc gf
      have f4 : 0 ≤ 0 + (1 * ρ1 72 + 0) := f4
      rw [r72] at f4
      obtain ⟨f5, gf⟩ := hb_unc gf
      have f5 : 0 ≤ 0 + ((-1) * ρ1 72 + 0) := f5
      rw [r72] at f5
      obtain ⟨f6, gf⟩ := hb_unc gf
      have f6 : 0 ≤ -1 + (1 * ρ1 73 + 0) := f6
      rw [r73] at f6
      obtain ⟨f7, gf⟩ := hb_unc gf
      have f7 : 0 ≤ 1 + ((-1) * ρ1 73 + 0) := f7
      rw [r73] at f7
      obtain ⟨f8, gf⟩ := hb_unc gf
      have f8 : 0 ≤ 0 + ((-1) * ρ1 12 + (1 * ρ1 75 + 0)) := f8
      rw [r12, r75] at f8
      obtain ⟨f9, gf⟩ := hb_unc gf
      have f9 : 0 ≤ 0 + (1 * ρ1 12 + ((-1) * ρ1 75 + 0)) := f9
      rw [r12, r75] at f9
      obtain ⟨f10, gf⟩ := hb_unc gf
      have f10 : 0 ≤ 0 + ((-1) * ρ1 14 + (1 * ρ1 76 + 0)) := f10
      rw [r14, r76] at f10
      obtain ⟨f11, gf⟩ := hb_unc gf
      have f11 : 0 ≤ 0 + (1 * ρ1 14 + ((-1) * ρ1 76 + 0)) := f11
      rw [r14, r76] at f11
      exact k0 M' y2 y3 y4 y5 w6 gs gx gw g8 ge n6 (by have h1 := f0; have h2 := f1; omega) (by have h1 := f2; have h2 := f3; omega) (by have h1 := f4; have h2 := f5; omega) (by have h1 := f6; have h2 := f7; omega) (by have h1 := f8; have h2 := f9; omega) (by have h1 := f10; have h2 := f11; omega)
    cases hs
  · intro r S hpo
    obtain ⟨b1, b2, b3, b4, b5, p, hp, res, hf, hre⟩ := hpo
    cases hp

def hs_sa20_q : mz_Q := (100, [(1, 9), (1, 20), (0, 0), (0, 0), (0, 0), (0, 0), (3, 0)], [(0, [(11, 8), (13, -1)]), (0, [(2, 1)]), (40000, [(2, -1)]), (-1, [(5, 1)]), (16, [(5, -1)])], [5, 7], [(0, 0, [(0, [(70, 1)]), (0, [(70, -1)]), (0, [(12, -1), (68, 1)]), (-1, [(69, 1)]), (1, [(69, -1)])])], [9])
def hs_sa20_s : List mz_Sp2 := [(70, [(1, 9), (1, 20), (0, 0), (0, 0), (0, 0), (0, 0), (3, 0)], [(0, 0), (1, 21)], [(0, [(3, -1), (71, 1)]), (0, [(3, 1), (71, -1)]), (0, [(4, -1), (72, 1)]), (0, [(4, 1), (72, -1)]), (0, [(5, -1), (73, 1)]), (0, [(5, 1), (73, -1)]), (0, [(5, -1), (75, 1)]), (0, [(5, 1), (75, -1)]), (-1, [(12, -1), (77, 1)]), (1, [(12, 1), (77, -1)]), (0, [(14, -1), (78, 1)]), (0, [(14, 1), (78, -1)]), (15, [(5, -1)]), (-1, [(12, -1), (13, 1)]), (1, [(2, 2), (70, -1)]), (0, [(2, -2), (70, 1)])])]
def hs_sa20_h : List mz_H := [(0, 0, []), (0, 0, []), (0, 0, []), (0, 0, []), (0, 0, []), (0, 0, []), (0, 0, []), (0, 0, []), (0, 0, []), (0, 0, []), (0, 0, []), (0, 0, []), (0, 0, []), (0, 0, []), (0, 0, []), (0, 0, []), (0, 0, []), (0, 0, []), (0, 0, []), (0, 0, []), (0, 0, []), (0, 0, [(3, 2)]), (0, 0, [(4, 2)]), (1023, 0, []), (0, 7, [(0, 1), (29, 1)]), (0, 7, [(1, 1), (4, 1), (6, 1)]), (1, 1, []), (0, 0, [(0, 1)]), (0, 0, [(1, 1)]), (0, 0, [(15, 2)]), (0, 0, []), (0, 0, [(0, 1), (15, 2)]), (0, 0, [(1, 1), (16, 2)]), (0, 0, []), (0, 0, [(37, 1)]), (0, 0, [(38, 1)]), (0, 0, [(37, 1)]), (0, 0, [(12, 1), (40, 1)]), (21, 0, []), (0, 0, []), (0, 0, []), (0, 0, []), (0, 0, []), (0, 0, []), (0, 0, []), (0, 0, []), (0, 0, []), (0, 0, []), (0, 0, []), (0, 0, []), (0, 0, []), (0, 0, []), (0, 0, [(13, 1)]), (0, 0, [(12, 1)]), (0, 0, [(1, 1)]), (0, 0, [(0, 1)])]
set_option maxRecDepth 100000 in
theorem hs_sa20_c : mz_blk mz_GG mq_PP mz_Cs hs_sa20_q 7 1 10 hs_sa20_s [] 52 hs_sa20_h = true := by decide +kernel
theorem hs_sa20 {X : (Nat → mq_C) → Prop} (hX : ∀ M M' : Nat → mq_C, mz_same mz_GG M M' → X M → X M') (hC : ∀ c ∈ mz_Cs, c.2 < 1 → mz_Ct mz_GG mq_PP X c.1 c.2) {d z u : Nat} {M : Nat → mq_C} {Q : (Option Value ⊕ Nat) → mq_S → Prop} {x2 : Int32} {x3 : Int32} {x4 : Int32} {x5 : Int32} {o6 : Option Value} (hd : 1 ≤ d) (hz : 272 ≤ z) (hm : mz_sh mz_GG M) (hx : X M) (h0 : mq_nl o6 = true) (p0 : 0 ≤ 8 * hv M 9 2 - hv M 9 4) (p1 : 0 ≤ x2.toInt) (p2 : 0 ≤ 40000 - x2.toInt) (p3 : 0 ≤ (-1) + x5.toInt) (p4 : 0 ≤ 16 - x5.toInt)
    (k0 : ∀ (M' : Nat → mq_C) (y2 : Int32) (w6 : Option Value), mz_sh mz_GG M' → X M' → mz_fr hs_sa20_q M M' → (∀ a, a < 8 → M' a = M a) → hb_same mz_GG hs_sa20_q M M' → mq_nl w6 = true → hv M' 9 3 = 1 + hv M 9 3 → hv M' 9 5 = hv M 9 5 → 0 ≤ 15 - x5.toInt → 0 ≤ (-1) - hv M 9 3 + hv M 9 4 → 0 ≤ 1 + 2 * x2.toInt - y2.toInt → 0 ≤ 0 - 2 * x2.toInt + y2.toInt → mq_R mq_PP d 100 70 [some (.ref 9), some (.ref 20), some (.int y2), some (.int x3), some (.int x4), some (.int x5), w6] [.int x5, .ref 21] (M', z, u) Q)
    (w0 : ∀ (M' : Nat → mq_C) (r : Int32), mz_sh mz_GG M' → X M' → mz_fr hs_sa20_q M M' → (∀ a, a < 8 → M' a = M a) → hb_same mz_GG hs_sa20_q M M' → 0 ≤ r.toInt → 0 ≤ 0 - r.toInt → 0 ≤ 0 - hv M 9 3 + hv M' 9 3 → 0 ≤ (-1) + hv M' 9 5 → 0 ≤ 1 - hv M' 9 5 → Q (.inl (some (.int r))) (M', z, u)) : mq_R mq_PP d 100 10 [some (.ref 9), some (.ref 20), some (.int x2), some (.int x3), some (.int x4), some (.int x5), o6] [] (M, z, u) Q := by
  refine hb_blk mz_GG mq_PP X (q := hs_sa20_q) (nl := 7) (M := M) hb_okG hX hC hs_sa20_c hz hd (L := [some (.ref 9), some (.ref 20), some (.int x2), some (.int x3), some (.int x4), some (.int x5), o6]) (st := []) (show hb_lk mz_GG ([(1, 9), (1, 20), (0, 0), (0, 0), (0, 0), (0, 0), (3, 0)]) _ from ⟨⟨List.mem_singleton.mpr rfl, rfl⟩, ⟨List.mem_singleton.mpr rfl, rfl⟩, trivial, trivial, trivial, trivial, h0, trivial⟩) (show hb_pk mz_GG ([]) _ from trivial) hm hx ?_ ?_ ?_
  · exact hb_cons (show 0 ≤ mz_ev _ _ from (show 0 ≤ 0 + (8 * hv M 9 2 + ((-1) * hv M 9 4 + 0)) by omega)) (hb_cons (show 0 ≤ mz_ev _ _ from (show 0 ≤ 0 + (1 * x2.toInt + 0) by omega)) (hb_cons (show 0 ≤ mz_ev _ _ from (show 0 ≤ 40000 + ((-1) * x2.toInt + 0) by omega)) (hb_cons (show 0 ≤ mz_ev _ _ from (show 0 ≤ -1 + (1 * x5.toInt + 0) by omega)) (hb_cons (show 0 ≤ mz_ev _ _ from (show 0 ≤ 16 + ((-1) * x5.toInt + 0) by omega)) (hb_nil)))))
  · intro s hs
    rcases List.mem_cons.mp hs with rfl | hs
    · intro ρ1 L' st' M' g1 g2 gm gr gf gs gx gw g8 ge
      obtain ⟨e0, L1, rfl, n0, gg0⟩ := hb_l1 mz_GG g1
      obtain rfl : e0 = 9 := List.mem_singleton.mp n0
      obtain ⟨e1, L1, rfl, n1, gg1⟩ := hb_l1 mz_GG gg0
      obtain rfl : e1 = 20 := List.mem_singleton.mp n1
      obtain ⟨y2, L1, rfl, qr70, gg2⟩ := hb_l0 mz_GG gg1
      have r70 : ρ1 70 = y2.toInt := qr70
      obtain ⟨y3, L1, rfl, qr71, gg3⟩ := hb_l0 mz_GG gg2
      have r71 : ρ1 71 = y3.toInt := qr71
      obtain ⟨y4, L1, rfl, qr72, gg4⟩ := hb_l0 mz_GG gg3
      have r72 : ρ1 72 = y4.toInt := qr72
      obtain ⟨y5, L1, rfl, qr73, gg5⟩ := hb_l0 mz_GG gg4
      have r73 : ρ1 73 = y5.toInt := qr73
      obtain ⟨w6, L1, rfl, n6, gg6⟩ := hb_l3 mz_GG gg5
      obtain ⟨y7, s1, rfl, qr75, gg7⟩ := hb_p0 mz_GG g2
      have r75 : ρ1 75 = y7.toInt := qr75
      obtain ⟨e8, s1, rfl, n8, gg8⟩ := hb_p1 mz_GG gg7
      obtain rfl : e8 = 21 := List.mem_singleton.mp n8
      obtain rfl := hb_ln mz_GG gg6
      obtain rfl := hb_pn mz_GG gg8
      have r2 : ρ1 2 = x2.toInt := gr 2 (by decide +kernel)
      have r3 : ρ1 3 = x3.toInt := gr 3 (by decide +kernel)
      have r4 : ρ1 4 = x4.toInt := gr 4 (by decide +kernel)
      have r5 : ρ1 5 = x5.toInt := gr 5 (by decide +kernel)
      have r12 : ρ1 12 = hv M 9 3 := gr 12 (by decide +kernel)
      have r13 : ρ1 13 = hv M 9 4 := gr 13 (by decide +kernel)
      have r14 : ρ1 14 = hv M 9 5 := gr 14 (by decide +kernel)
      have r77 : ρ1 77 = hv M' 9 3 := gm 0 5 (9, 3) rfl rfl
      have r78 : ρ1 78 = hv M' 9 5 := gm 1 7 (9, 5) rfl rfl
      obtain ⟨f0, gf⟩ := hb_unc gf
      have f0 : 0 ≤ 0 + ((-1) * ρ1 3 + (1 * ρ1 71 + 0)) := f0
      rw [r3, r71] at f0
      obtain ⟨f1, gf⟩ := hb_unc gf
      have f1 : 0 ≤ 0 + (1 * ρ1 3 + ((-1) * ρ1 71 + 0)) := f1
      rw [r3, r71] at f1
      obtain ⟨f2, gf⟩ := hb_unc gf
      have f2 : 0 ≤ 0 + ((-1) * ρ1 4 + (1 * ρ1 72 + 0)) := f2
      rw [r4, r72] at f2
      obtain ⟨f3, gf⟩ := hb_unc gf
      have f3 : 0 ≤ 0 + (1 * ρ1 4 + ((-1) * ρ1 72 + 0)) := f3
      rw [r4, r72] at f3
      obtain ⟨f4, gf⟩ := hb_unc gf
      have f4 : 0 ≤ 0 + ((-1) * ρ1 5 + (1 * ρ1 73 + 0)) := f4
      rw [r5, r73] at f4
      obtain ⟨f5, gf⟩ := hb_unc gf
      have f5 : 0 ≤ 0 + (1 * ρ1 5 + ((-1) * ρ1 73 + 0)) := f5
      rw [r5, r73] at f5
      obtain ⟨f6, gf⟩ := hb_unc gf
      have f6 : 0 ≤ 0 + ((-1) * ρ1 5 + (1 * ρ1 75 + 0)) := f6
      rw [r5, r75] at f6
      obtain ⟨f7, gf⟩ := hb_unc gf
      have f7 : 0 ≤ 0 + (1 * ρ1 5 + ((-1) * ρ1 75 + 0)) := f7
      rw [r5, r75] at f7
      obtain ⟨f8, gf⟩ := hb_unc gf
      have f8 : 0 ≤ -1 + ((-1) * ρ1 12 + (1 * ρ1 77 + 0)) := f8
      rw [r12, r77] at f8
      obtain ⟨f9, gf⟩ := hb_unc gf
      have f9 : 0 ≤ 1 + (1 * ρ1 12 + ((-1) * ρ1 77 + 0)) := f9
      rw [r12, r77] at f9
      obtain ⟨f10, gf⟩ := hb_unc gf
      have f10 : 0 ≤ 0 + ((-1) * ρ1 14 + (1 * ρ1 78 + 0)) := f10
      rw [r14, r78] at f10
      obtain ⟨f11, gf⟩ := hb_unc gf
      have f11 : 0 ≤ 0 + (1 * ρ1 14 + ((-1) * ρ1 78 + 0)) := f11
      rw [r14, r78] at f11
      obtain ⟨f12, gf⟩ := hb_unc gf
      have f12 : 0 ≤ 15 + ((-1) * ρ1 5 + 0) := f12
      rw [r5] at f12
      obtain ⟨f13, gf⟩ := hb_unc gf
      have f13 : 0 ≤ -1 + ((-1) * ρ1 12 + (1 * ρ1 13 + 0)) := f13
      rw [r12, r13] at f13
      obtain ⟨f14, gf⟩ := hb_unc gf
      have f14 : 0 ≤ 1 + (2 * ρ1 2 + ((-1) * ρ1 70 + 0)) := f14
      rw [r2, r70] at f14
      obtain ⟨f15, gf⟩ := hb_unc gf
      have f15 : 0 ≤ 0 + ((-2) * ρ1 2 + (1 * ρ1 70 + 0)) := f15
      rw [r2, r70] at f15
      have hy3 : y3 = x3 := hb_inj f0 f1
      subst y3
      have hy4 : y4 = x4 := hb_inj f2 f3
      subst y4
      have hy5 : y5 = x5 := hb_inj f4 f5
      subst y5
      have hy7 : y7 = x5 := hb_inj f6 f7
      subst y7
      exact k0 M' y2 w6 gs gx gw g8 ge n6 (by have h1 := f8; have h2 := f9; omega) (by have h1 := f10; have h2 := f11; omega) (by have h1 := f12; omega) (by have h1 := f13; omega) (by have h1 := f14; omega) (by have h1 := f15; omega)
    cases hs
  · intro r S hpo
    obtain ⟨b1, b2, b3, b4, b5, p, hp, res, hf, hre⟩ := hpo
    rcases List.mem_cons.mp hp with rfl | hp
    · obtain ⟨x, rfl, hr, hz1, hu1⟩ := mz_re_0 mz_GG hre rfl
      obtain ⟨M', z', u'⟩ := S
      cases hz1
      cases hu1
      have r12 : hb_r1 mz_GG hs_sa20_q (hb_rb mz_GG hs_sa20_q 7 [some (.ref 9), some (.ref 20), some (.int x2), some (.int x3), some (.int x4), some (.int x5), o6] [] M) M' res 12 = hv M 9 3 := rfl
      have r68 : hb_r1 mz_GG hs_sa20_q (hb_rb mz_GG hs_sa20_q 7 [some (.ref 9), some (.ref 20), some (.int x2), some (.int x3), some (.int x4), some (.int x5), o6] [] M) M' res 68 = hv M' 9 3 := rfl
      have r69 : hb_r1 mz_GG hs_sa20_q (hb_rb mz_GG hs_sa20_q 7 [some (.ref 9), some (.ref 20), some (.int x2), some (.int x3), some (.int x4), some (.int x5), o6] [] M) M' res 69 = hv M' 9 5 := rfl
      have r70 : hb_r1 mz_GG hs_sa20_q (hb_rb mz_GG hs_sa20_q 7 [some (.ref 9), some (.ref 20), some (.int x2), some (.int x3), some (.int x4), some (.int x5), o6] [] M) M' res 70 = res := rfl
      obtain ⟨f0, hf⟩ := hb_unc hf
      have f0 : 0 ≤ 0 + (1 * res + 0) := f0
      rw [← hr] at f0
      obtain ⟨f1, hf⟩ := hb_unc hf
      have f1 : 0 ≤ 0 + ((-1) * res + 0) := f1
      rw [← hr] at f1
      obtain ⟨f2, hf⟩ := hb_unc hf
      have f2 : 0 ≤ 0 + ((-1) * hv M 9 3 + (1 * hv M' 9 3 + 0)) := f2
      obtain ⟨f3, hf⟩ := hb_unc hf
      have f3 : 0 ≤ -1 + (1 * hv M' 9 5 + 0) := f3
      obtain ⟨f4, hf⟩ := hb_unc hf
      have f4 : 0 ≤ 1 + ((-1) * hv M' 9 5 + 0) := f4
      exact w0 M' x b1 b2 b3 b4 b5 (by have h1 := f0; omega) (by have h1 := f1; omega) (by have h1 := f2; omega) (by have h1 := f3; omega) (by have h1 := f4; omega)
    cases hp

def hs_sb20_q : mz_Q := (100, [(1, 9), (1, 20), (0, 0), (0, 0), (0, 0), (0, 0), (3, 0), (0, 0)], [(0, [(2, 1)]), (90000, [(2, -1)]), (0, [(3, 1)]), (0, [(2, 1), (3, -1)]), (0, [(4, 1)]), (0, [(7, 1)]), (30, [(4, -1), (7, -1)]), (-1, [(5, 1)]), (15, [(5, -1)])], [5, 7], [(0, 0, [(0, [(71, 1)]), (287, [(71, -1)]), (0, [(13, -1), (69, 1)]), (0, [(13, 1), (69, -1)]), (0, [(15, -1), (70, 1)]), (0, [(15, 1), (70, -1)])])], [])
def hs_sb20_s : List mz_Sp2 := [(10, [(1, 9), (1, 20), (0, 0), (0, 0), (0, 0), (0, 0), (0, 0)], [], [(0, [(2, -1), (71, 1)]), (0, [(2, 1), (71, -1)]), (0, [(3, -2), (7, -2), (72, 1)]), (0, [(3, 2), (7, 2), (72, -1)]), (0, [(4, -1), (7, -1), (73, 1)]), (0, [(4, 1), (7, 1), (73, -1)]), (-1, [(5, -1), (74, 1)]), (1, [(5, 1), (74, -1)]), (0, [(7, -1), (75, 1)]), (0, [(7, 1), (75, -1)]), (0, [(13, -1), (76, 1)]), (0, [(13, 1), (76, -1)]), (0, [(15, -1), (77, 1)]), (0, [(15, 1), (77, -1)]), (0, [(2, 1), (3, -1), (7, -1)])])]
def hs_sb20_h : List mz_H := [(0, 0, []), (0, 0, [(3, 1)]), (0, 0, [(1, 1), (2, 1)]), (0, 0, []), (0, 0, []), (0, 0, []), (0, 0, [(5, 1), (6, 1)]), (0, 0, [(7, 1)]), (0, 0, []), (0, 0, [(3, 1), (6, 1)]), (0, 0, [(0, 1), (2, 1)]), (0, 0, []), (0, 0, [(3, 2), (6, 2)]), (0, 0, [(0, 2), (2, 2)]), (0, 0, []), (0, 0, [(8, 1)]), (0, 0, [(9, 1)]), (0, 0, []), (0, 0, []), (0, 0, []), (0, 0, []), (0, 0, []), (0, 0, []), (0, 0, []), (0, 0, []), (0, 0, []), (0, 0, []), (0, 0, []), (0, 0, []), (0, 0, []), (0, 0, []), (0, 0, []), (0, 0, [(0, 1)]), (23, 0, []), (0, 0, []), (0, 0, [(1, 1), (5, 1)]), (0, 0, [(0, 1), (2, 1), (4, 1), (7, 1)]), (0, 0, []), (0, 0, [(4, 1), (5, 1)]), (0, 0, [(0, 1), (7, 1)]), (0, 0, [(4, 1), (5, 1)]), (0, 0, [(0, 1), (7, 1)]), (0, 0, []), (0, 0, [(0, 1)]), (0, 0, [(1, 1)]), (0, 0, []), (0, 0, []), (0, 0, []), (0, 0, [])]
set_option maxRecDepth 100000 in
theorem hs_sb20_c : mz_blk mz_GG mq_PP mz_Cs hs_sb20_q 7 1 71 hs_sb20_s [] 33 hs_sb20_h = true := by decide +kernel
theorem hs_sb20 {X : (Nat → mq_C) → Prop} (hX : ∀ M M' : Nat → mq_C, mz_same mz_GG M M' → X M → X M') (hC : ∀ c ∈ mz_Cs, c.2 < 1 → mz_Ct mz_GG mq_PP X c.1 c.2) {d z u : Nat} {M : Nat → mq_C} {Q : (Option Value ⊕ Nat) → mq_S → Prop} {x2 : Int32} {x3 : Int32} {x4 : Int32} {x5 : Int32} {o6 : Option Value} {x7 : Int32} (hd : 1 ≤ d) (hz : 272 ≤ z) (hm : mz_sh mz_GG M) (hx : X M) (h0 : mq_nl o6 = true) (p0 : 0 ≤ x2.toInt) (p1 : 0 ≤ 90000 - x2.toInt) (p2 : 0 ≤ x3.toInt) (p3 : 0 ≤ x2.toInt - x3.toInt) (p4 : 0 ≤ x4.toInt) (p5 : 0 ≤ x7.toInt) (p6 : 0 ≤ 30 - x4.toInt - x7.toInt) (p7 : 0 ≤ (-1) + x5.toInt) (p8 : 0 ≤ 15 - x5.toInt)
    (k0 : ∀ (M' : Nat → mq_C) (y3 : Int32) (y4 : Int32) (y5 : Int32), mz_sh mz_GG M' → X M' → mz_fr hs_sb20_q M M' → (∀ a, a < 8 → M' a = M a) → hb_same mz_GG hs_sb20_q M M' → y3.toInt = 2 * x3.toInt + 2 * x7.toInt → y4.toInt = x4.toInt + x7.toInt → y5.toInt = 1 + x5.toInt → hv M' 9 3 = hv M 9 3 → hv M' 9 5 = hv M 9 5 → 0 ≤ x2.toInt - x3.toInt - x7.toInt → mq_R mq_PP d 100 10 [some (.ref 9), some (.ref 20), some (.int x2), some (.int y3), some (.int y4), some (.int y5), some (.int x7)] [] (M', z, u) Q)
    (w0 : ∀ (M' : Nat → mq_C) (r : Int32), mz_sh mz_GG M' → X M' → mz_fr hs_sb20_q M M' → (∀ a, a < 8 → M' a = M a) → hb_same mz_GG hs_sb20_q M M' → 0 ≤ r.toInt → 0 ≤ 287 - r.toInt → 0 ≤ 0 - hv M 9 3 + hv M' 9 3 → 0 ≤ hv M 9 3 - hv M' 9 3 → 0 ≤ 0 - hv M 9 5 + hv M' 9 5 → 0 ≤ hv M 9 5 - hv M' 9 5 → Q (.inl (some (.int r))) (M', z, u)) : mq_R mq_PP d 100 71 [some (.ref 9), some (.ref 20), some (.int x2), some (.int x3), some (.int x4), some (.int x5), o6] [.int x7] (M, z, u) Q := by
  refine hb_blk mz_GG mq_PP X (q := hs_sb20_q) (nl := 7) (M := M) hb_okG hX hC hs_sb20_c hz hd (L := [some (.ref 9), some (.ref 20), some (.int x2), some (.int x3), some (.int x4), some (.int x5), o6]) (st := [.int x7]) (show hb_lk mz_GG ([(1, 9), (1, 20), (0, 0), (0, 0), (0, 0), (0, 0), (3, 0)]) _ from ⟨⟨List.mem_singleton.mpr rfl, rfl⟩, ⟨List.mem_singleton.mpr rfl, rfl⟩, trivial, trivial, trivial, trivial, h0, trivial⟩) (show hb_pk mz_GG ([(0, 0)]) _ from ⟨trivial, trivial⟩) hm hx ?_ ?_ ?_
  · exact hb_cons (show 0 ≤ mz_ev _ _ from (show 0 ≤ 0 + (1 * x2.toInt + 0) by omega)) (hb_cons (show 0 ≤ mz_ev _ _ from (show 0 ≤ 90000 + ((-1) * x2.toInt + 0) by omega)) (hb_cons (show 0 ≤ mz_ev _ _ from (show 0 ≤ 0 + (1 * x3.toInt + 0) by omega)) (hb_cons (show 0 ≤ mz_ev _ _ from (show 0 ≤ 0 + (1 * x2.toInt + ((-1) * x3.toInt + 0)) by omega)) (hb_cons (show 0 ≤ mz_ev _ _ from (show 0 ≤ 0 + (1 * x4.toInt + 0) by omega)) (hb_cons (show 0 ≤ mz_ev _ _ from (show 0 ≤ 0 + (1 * x7.toInt + 0) by omega)) (hb_cons (show 0 ≤ mz_ev _ _ from (show 0 ≤ 30 + ((-1) * x4.toInt + ((-1) * x7.toInt + 0)) by omega)) (hb_cons (show 0 ≤ mz_ev _ _ from (show 0 ≤ -1 + (1 * x5.toInt + 0) by omega)) (hb_cons (show 0 ≤ mz_ev _ _ from (show 0 ≤ 15 + ((-1) * x5.toInt + 0) by omega)) (hb_nil)))))))))
  · intro s hs
    rcases List.mem_cons.mp hs with rfl | hs
    · intro ρ1 L' st' M' g1 g2 gm gr gf gs gx gw g8 ge
      obtain ⟨e0, L1, rfl, n0, gg0⟩ := hb_l1 mz_GG g1
      obtain rfl : e0 = 9 := List.mem_singleton.mp n0
      obtain ⟨e1, L1, rfl, n1, gg1⟩ := hb_l1 mz_GG gg0
      obtain rfl : e1 = 20 := List.mem_singleton.mp n1
      obtain ⟨y2, L1, rfl, qr71, gg2⟩ := hb_l0 mz_GG gg1
      have r71 : ρ1 71 = y2.toInt := qr71
      obtain ⟨y3, L1, rfl, qr72, gg3⟩ := hb_l0 mz_GG gg2
      have r72 : ρ1 72 = y3.toInt := qr72
      obtain ⟨y4, L1, rfl, qr73, gg4⟩ := hb_l0 mz_GG gg3
      have r73 : ρ1 73 = y4.toInt := qr73
      obtain ⟨y5, L1, rfl, qr74, gg5⟩ := hb_l0 mz_GG gg4
      have r74 : ρ1 74 = y5.toInt := qr74
      obtain ⟨y6, L1, rfl, qr75, gg6⟩ := hb_l0 mz_GG gg5
      have r75 : ρ1 75 = y6.toInt := qr75
      obtain rfl := hb_ln mz_GG gg6
      obtain rfl := hb_pn mz_GG g2
      have r2 : ρ1 2 = x2.toInt := gr 2 (by decide +kernel)
      have r3 : ρ1 3 = x3.toInt := gr 3 (by decide +kernel)
      have r4 : ρ1 4 = x4.toInt := gr 4 (by decide +kernel)
      have r5 : ρ1 5 = x5.toInt := gr 5 (by decide +kernel)
      have r7 : ρ1 7 = x7.toInt := gr 7 (by decide +kernel)
      have r13 : ρ1 13 = hv M 9 3 := gr 13 (by decide +kernel)
      have r15 : ρ1 15 = hv M 9 5 := gr 15 (by decide +kernel)
      have r76 : ρ1 76 = hv M' 9 3 := gm 0 5 (9, 3) rfl rfl
      have r77 : ρ1 77 = hv M' 9 5 := gm 1 7 (9, 5) rfl rfl
      obtain ⟨f0, gf⟩ := hb_unc gf
      have f0 : 0 ≤ 0 + ((-1) * ρ1 2 + (1 * ρ1 71 + 0)) := f0
      rw [r2, r71] at f0
      obtain ⟨f1, gf⟩ := hb_unc gf
      have f1 : 0 ≤ 0 + (1 * ρ1 2 + ((-1) * ρ1 71 + 0)) := f1
      rw [r2, r71] at f1
      obtain ⟨f2, gf⟩ := hb_unc gf
      have f2 : 0 ≤ 0 + ((-2) * ρ1 3 + ((-2) * ρ1 7 + (1 * ρ1 72 + 0))) := f2
      rw [r3, r7, r72] at f2
      obtain ⟨f3, gf⟩ := hb_unc gf
      have f3 : 0 ≤ 0 + (2 * ρ1 3 + (2 * ρ1 7 + ((-1) * ρ1 72 + 0))) := f3
      rw [r3, r7, r72] at f3
      obtain ⟨f4, gf⟩ := hb_unc gf
      have f4 : 0 ≤ 0 + ((-1) * ρ1 4 + ((-1) * ρ1 7 + (1 * ρ1 73 + 0))) := f4
      rw [r4, r7, r73] at f4
      obtain ⟨f5, gf⟩ := hb_unc gf
      have f5 : 0 ≤ 0 + (1 * ρ1 4 + (1 * ρ1 7 + ((-1) * ρ1 73 + 0))) := f5
      rw [r4, r7, r73] at f5
      obtain ⟨f6, gf⟩ := hb_unc gf
      have f6 : 0 ≤ -1 + ((-1) * ρ1 5 + (1 * ρ1 74 + 0)) := f6
      rw [r5, r74] at f6
      obtain ⟨f7, gf⟩ := hb_unc gf
      have f7 : 0 ≤ 1 + (1 * ρ1 5 + ((-1) * ρ1 74 + 0)) := f7
      rw [r5, r74] at f7
      obtain ⟨f8, gf⟩ := hb_unc gf
      have f8 : 0 ≤ 0 + ((-1) * ρ1 7 + (1 * ρ1 75 + 0)) := f8
      rw [r7, r75] at f8
      obtain ⟨f9, gf⟩ := hb_unc gf
      have f9 : 0 ≤ 0 + (1 * ρ1 7 + ((-1) * ρ1 75 + 0)) := f9
      rw [r7, r75] at f9
      obtain ⟨f10, gf⟩ := hb_unc gf
      have f10 : 0 ≤ 0 + ((-1) * ρ1 13 + (1 * ρ1 76 + 0)) := f10
      rw [r13, r76] at f10
      obtain ⟨f11, gf⟩ := hb_unc gf
      have f11 : 0 ≤ 0 + (1 * ρ1 13 + ((-1) * ρ1 76 + 0)) := f11
      rw [r13, r76] at f11
      obtain ⟨f12, gf⟩ := hb_unc gf
      have f12 : 0 ≤ 0 + ((-1) * ρ1 15 + (1 * ρ1 77 + 0)) := f12
      rw [r15, r77] at f12
      obtain ⟨f13, gf⟩ := hb_unc gf
      have f13 : 0 ≤ 0 + (1 * ρ1 15 + ((-1) * ρ1 77 + 0)) := f13
      rw [r15, r77] at f13
      obtain ⟨f14, gf⟩ := hb_unc gf
      have f14 : 0 ≤ 0 + (1 * ρ1 2 + ((-1) * ρ1 3 + ((-1) * ρ1 7 + 0))) := f14
      rw [r2, r3, r7] at f14
      have hy2 : y2 = x2 := hb_inj f0 f1
      subst y2
      have hy6 : y6 = x7 := hb_inj f8 f9
      subst y6
      exact k0 M' y3 y4 y5 gs gx gw g8 ge  (by have h1 := f2; have h2 := f3; omega) (by have h1 := f4; have h2 := f5; omega) (by have h1 := f6; have h2 := f7; omega) (by have h1 := f10; have h2 := f11; omega) (by have h1 := f12; have h2 := f13; omega) (by have h1 := f14; omega)
    cases hs
  · intro r S hpo
    obtain ⟨b1, b2, b3, b4, b5, p, hp, res, hf, hre⟩ := hpo
    rcases List.mem_cons.mp hp with rfl | hp
    · obtain ⟨x, rfl, hr, hz1, hu1⟩ := mz_re_0 mz_GG hre rfl
      obtain ⟨M', z', u'⟩ := S
      cases hz1
      cases hu1
      have r13 : hb_r1 mz_GG hs_sb20_q (hb_rb mz_GG hs_sb20_q 7 [some (.ref 9), some (.ref 20), some (.int x2), some (.int x3), some (.int x4), some (.int x5), o6] [.int x7] M) M' res 13 = hv M 9 3 := rfl
      have r15 : hb_r1 mz_GG hs_sb20_q (hb_rb mz_GG hs_sb20_q 7 [some (.ref 9), some (.ref 20), some (.int x2), some (.int x3), some (.int x4), some (.int x5), o6] [.int x7] M) M' res 15 = hv M 9 5 := rfl
      have r69 : hb_r1 mz_GG hs_sb20_q (hb_rb mz_GG hs_sb20_q 7 [some (.ref 9), some (.ref 20), some (.int x2), some (.int x3), some (.int x4), some (.int x5), o6] [.int x7] M) M' res 69 = hv M' 9 3 := rfl
      have r70 : hb_r1 mz_GG hs_sb20_q (hb_rb mz_GG hs_sb20_q 7 [some (.ref 9), some (.ref 20), some (.int x2), some (.int x3), some (.int x4), some (.int x5), o6] [.int x7] M) M' res 70 = hv M' 9 5 := rfl
      have r71 : hb_r1 mz_GG hs_sb20_q (hb_rb mz_GG hs_sb20_q 7 [some (.ref 9), some (.ref 20), some (.int x2), some (.int x3), some (.int x4), some (.int x5), o6] [.int x7] M) M' res 71 = res := rfl
      obtain ⟨f0, hf⟩ := hb_unc hf
      have f0 : 0 ≤ 0 + (1 * res + 0) := f0
      rw [← hr] at f0
      obtain ⟨f1, hf⟩ := hb_unc hf
      have f1 : 0 ≤ 287 + ((-1) * res + 0) := f1
      rw [← hr] at f1
      obtain ⟨f2, hf⟩ := hb_unc hf
      have f2 : 0 ≤ 0 + ((-1) * hv M 9 3 + (1 * hv M' 9 3 + 0)) := f2
      obtain ⟨f3, hf⟩ := hb_unc hf
      have f3 : 0 ≤ 0 + (1 * hv M 9 3 + ((-1) * hv M' 9 3 + 0)) := f3
      obtain ⟨f4, hf⟩ := hb_unc hf
      have f4 : 0 ≤ 0 + ((-1) * hv M 9 5 + (1 * hv M' 9 5 + 0)) := f4
      obtain ⟨f5, hf⟩ := hb_unc hf
      have f5 : 0 ≤ 0 + (1 * hv M 9 5 + ((-1) * hv M' 9 5 + 0)) := f5
      exact w0 M' x b1 b2 b3 b4 b5 (by have h1 := f0; omega) (by have h1 := f1; omega) (by have h1 := f2; omega) (by have h1 := f3; omega) (by have h1 := f4; omega) (by have h1 := f5; omega)
    cases hp

theorem hs_sl20 {d z u : Nat} {Q : (Option Value ⊕ Nat) → mq_S → Prop} {M0 : Nat → mq_C} (hd : 1 ≤ d) (hz : 272 ≤ z)
    (hQ1 : ∀ (M' : Nat → mq_C) (r : Int32), mz_sh mz_GG M' → HX M' → mz_fr mz_q23 M0 M' → (∀ a, a < 8 → M' a = M0 a) → hb_same mz_GG mz_q23 M0 M' → 0 ≤ r.toInt → 0 ≤ 287 - r.toInt → 0 ≤ (-1) - hv M0 9 3 + hv M' 9 3 → hv M' 9 5 = hv M0 9 5 → Q (.inl (some (.int r))) (M', z, u))
    (hQ2 : ∀ (M' : Nat → mq_C) (r : Int32), mz_sh mz_GG M' → HX M' → mz_fr mz_q23 M0 M' → (∀ a, a < 8 → M' a = M0 a) → hb_same mz_GG mz_q23 M0 M' → r.toInt = 0 → 0 ≤ 0 - hv M0 9 3 + hv M' 9 3 → hv M' 9 5 = 1 → Q (.inl (some (.int r))) (M', z, u)) :
    ∀ (m : Nat) (M : Nat → mq_C) (x2 x3 x4 x5 : Int32) (o6 : Option Value), (m : Int) + x5.toInt = 16 → 1 ≤ x5.toInt → mz_sh mz_GG M → HX M → mz_fr mz_q23 M0 M → (∀ a, a < 8 → M a = M0 a) → hb_same mz_GG mz_q23 M0 M → hv M0 9 3 ≤ hv M 9 3 → hv M 9 5 = hv M0 9 5 → mq_nl o6 = true → 0 ≤ 8 * hv M 9 2 - hv M 9 4 → 0 ≤ x3.toInt → x3.toInt ≤ 2 * x2.toInt → x2.toInt + 1 ≤ ((2 ^ (x5.toInt.toNat - 1) : Nat) : Int) → x4.toInt = hb_sum (fun b => hv M (20 + 1) (b + 1)) (x5.toInt.toNat - 1) → mq_R mq_PP d 100 10 [some (.ref 9), some (.ref 20), some (.int x2), some (.int x3), some (.int x4), some (.int x5), o6] [] (M, z, u) Q := by
  intro m
  induction m with
  | zero =>
    intro M x2 x3 x4 x5 o6 e1 e2 hm hx hf h8 he a1 a2 ho hp b1 b2 b3 b4
    have hpw : 2 ^ (x5.toInt.toNat - 1) ≤ 2 ^ 15 := Nat.pow_le_pow_right (by omega) (by omega)
    refine hs_sa20 HX_same hb_C1 hd hz hm hx ho hp (by omega) (by omega) (by omega) (by omega) ?_ ?_
    · intro M' y2 w6 gs gx gw g8 ge hw f1 f2 f3 f4 f5 f6
      omega
    · intro M' r gs gx gw g8 ge f1 f2 f3 f4 f5
      refine hQ2 M' r gs gx (hb_fr_t (q' := hs_sa20_q) (fun a ha => ha) hf gw) (fun a ha => (g8 a ha).trans (h8 a ha)) (hb_same_t (q' := hs_sa20_q) (fun j hj => hj) he ge) (by omega) ?_ ?_
      · have h1 : 0 ≤ 0 - hv M 9 3 + hv M' 9 3 := f3
        omega
      · have h1 : 0 ≤ (-1) + hv M' 9 5 := f4
        have h2 : 0 ≤ 1 - hv M' 9 5 := f5
        omega
  | succ m ih =>
    intro M x2 x3 x4 x5 o6 e1 e2 hm hx hf h8 he a1 a2 ho hp b1 b2 b3 b4
    have hpw : 2 ^ (x5.toInt.toNat - 1) ≤ 2 ^ 14 := Nat.pow_le_pow_right (by omega) (by omega)
    refine hs_sa20 HX_same hb_C1 hd hz hm hx ho hp (by omega) (by omega) (by omega) (by omega) ?_ ?_
    · intro M' y2 w6 gs gx gw g8 ge hw f1 f2 f3 f4 f5 f6
      have g1 : hv M' 9 3 = 1 + hv M 9 3 := f1
      have g2 : hv M' 9 5 = hv M 9 5 := f2
      have hf' : mz_fr mz_q23 M0 M' := hb_fr_t (q' := hs_sa20_q) (fun a ha => ha) hf gw
      have he' : hb_same mz_GG mz_q23 M0 M' := hb_same_t (q' := hs_sa20_q) (fun j hj => hj) he ge
      have h8' : ∀ a, a < 8 → M' a = M0 a := fun a ha => (g8 a ha).trans (h8 a ha)
      have hp' : 0 ≤ 8 * hv M' 9 2 - hv M' 9 4 := by
        rw [show hv M' 9 2 = hv M 9 2 from ge 4 (9, 2) rfl rfl, show hv M' 9 4 = hv M 9 4 from ge 6 (9, 4) rfl rfl]
        exact hp
      have hcell : ∀ i, hv M' (20 + 1) i = hv M (20 + 1) i := hb_vc (gw _ (by decide) rfl)
      have hnn : ∀ i, i < 15 → 0 ≤ hv M' (20 + 1) (i + 1) := fun i hi => (hb_rg gs rfl (show i + 1 < 16 by omega) hb_at1).1
      have hX1 : hb_sum (fun b => hv M' (20 + 1) (b + 1)) 15 ≤ 30 := gx 2
      have b4' : x4.toInt = hb_sum (fun b => hv M' (20 + 1) (b + 1)) (x5.toInt.toNat - 1) := by
        rw [b4]
        exact hb_sum_c _ (fun i _ => (hcell _).symm)
      refine hb_ld (n := 71) (kind := 64) gs (by decide +kernel) rfl rfl (.inl rfl) (by omega) (show x5.toInt < 16 by omega) hb_at1 ?_
      intro v hv1 hv2 hv3
      have hsum : hb_sum (fun b => hv M' (20 + 1) (b + 1)) x5.toInt.toNat = x4.toInt + v.toInt := by
        rw [b4', ← hv1]
        obtain ⟨t, ht⟩ : ∃ t, x5.toInt.toNat = t + 1 := ⟨x5.toInt.toNat - 1, by omega⟩
        rw [ht]
        rfl
      have hle := hb_sum_m (f := fun b => hv M' (20 + 1) (b + 1)) (m := x5.toInt.toNat) 15 (by omega) hnn
      have hx40 := hb_sum_0 (f := fun b => hv M' (20 + 1) (b + 1)) (x5.toInt.toNat - 1) (fun i hi => hnn i (by omega))
      refine hs_sb20 HX_same hb_C1 hd hz gs gx hw (by omega) (by omega) (by omega) (by omega) (by omega) (by omega) (by omega) (by omega) (by omega) ?_ ?_
      · intro M2 y3 y4 y5 k1 k2 k3 k4 k5 l1 l2 l3 l4 l5 l6
        have q3 : hv M2 9 3 = hv M' 9 3 := l4
        have q5 : hv M2 9 5 = hv M' 9 5 := l5
        have hc2 : ∀ i, hv M2 (20 + 1) i = hv M' (20 + 1) i := hb_vc (k3 _ (by decide) rfl)
        refine ih M2 y2 y3 y4 y5 (some (.int v)) (by omega) (by omega) k1 k2 (hb_fr_t (q' := hs_sb20_q) (fun a ha => rfl) hf' k3) (fun a ha => (k4 a ha).trans (h8' a ha)) (hb_same_t (q' := hs_sb20_q) (fun j hj => hj) he' k5) (by omega) (by omega) rfl ?_ (by omega) (by omega) ?_ ?_
        · rw [show hv M2 9 2 = hv M' 9 2 from k5 4 (9, 2) rfl rfl, show hv M2 9 4 = hv M' 9 4 from k5 6 (9, 4) rfl rfl]
          exact hp'
        · have e9 : y5.toInt.toNat - 1 = x5.toInt.toNat - 1 + 1 := by omega
          rw [e9, Nat.pow_succ]
          omega
        · have e9 : y5.toInt.toNat - 1 = x5.toInt.toNat := by omega
          rw [e9, hb_sum_c _ (fun i _ => hc2 (i + 1)), hsum]
          exact l2
      · intro M2 r k1 k2 k3 k4 k5 l1 l2 l3 l4 l5 l6
        have q1 : 0 ≤ 0 - hv M' 9 3 + hv M2 9 3 := l3
        have q2 : 0 ≤ hv M' 9 3 - hv M2 9 3 := l4
        have q3 : 0 ≤ 0 - hv M' 9 5 + hv M2 9 5 := l5
        have q4 : 0 ≤ hv M' 9 5 - hv M2 9 5 := l6
        exact hQ1 M2 r k1 k2 (hb_fr_t (q' := hs_sb20_q) (fun a ha => rfl) hf' k3) (fun a ha => (k4 a ha).trans (h8' a ha)) (hb_same_t (q' := hs_sb20_q) (fun j hj => hj) he' k5) l1 (by omega) (by omega) (by omega)
    · intro M' r gs gx gw g8 ge f1 f2 f3 f4 f5
      refine hQ2 M' r gs gx (hb_fr_t (q' := hs_sa20_q) (fun a ha => ha) hf gw) (fun a ha => (g8 a ha).trans (h8 a ha)) (hb_same_t (q' := hs_sa20_q) (fun j hj => hj) he ge) (by omega) ?_ ?_
      · have h1 : 0 ≤ 0 - hv M 9 3 + hv M' 9 3 := f3
        omega
      · have h1 : 0 ≤ (-1) + hv M' 9 5 := f4
        have h2 : 0 ≤ 1 - hv M' 9 5 := f5
        omega
def hs_so24_q : mz_Q := (100, [(1, 9), (1, 24), (3, 0), (3, 0), (3, 0), (3, 0), (3, 0)], [], [5, 7], [], [])
def hs_so24_s : List mz_Sp2 := [(10, [(1, 9), (1, 24), (0, 0), (0, 0), (0, 0), (0, 0), (3, 0)], [], [(0, [(70, 1)]), (0, [(70, -1)]), (0, [(71, 1)]), (0, [(71, -1)]), (0, [(72, 1)]), (0, [(72, -1)]), (-1, [(73, 1)]), (1, [(73, -1)]), (0, [(12, -1), (75, 1)]), (0, [(12, 1), (75, -1)]), (0, [(14, -1), (76, 1)]), (0, [(14, 1), (76, -1)])])]
def hs_so24_h : List mz_H := [(0, 0, []), (0, 0, []), (0, 0, []), (0, 0, []), (0, 0, []), (0, 0, []), (0, 0, []), (0, 0, []), (0, 0, []), (0, 0, []), (0, 0, []), (0, 0, []), (0, 0, [])]
set_option maxRecDepth 100000 in
theorem hs_so24_c : mz_blk mz_GG mq_PP mz_Cs hs_so24_q 7 1 0 hs_so24_s [] 14 hs_so24_h = true := by decide +kernel
theorem hs_so24 {X : (Nat → mq_C) → Prop} (hX : ∀ M M' : Nat → mq_C, mz_same mz_GG M M' → X M → X M') (hC : ∀ c ∈ mz_Cs, c.2 < 1 → mz_Ct mz_GG mq_PP X c.1 c.2) {d z u : Nat} {M : Nat → mq_C} {Q : (Option Value ⊕ Nat) → mq_S → Prop} {o2 : Option Value} {o3 : Option Value} {o4 : Option Value} {o5 : Option Value} {o6 : Option Value} (hd : 1 ≤ d) (hz : 272 ≤ z) (hm : mz_sh mz_GG M) (hx : X M) (h0 : mq_nl o2 = true) (h1 : mq_nl o3 = true) (h2 : mq_nl o4 = true) (h3 : mq_nl o5 = true) (h4 : mq_nl o6 = true)
    (k0 : ∀ (M' : Nat → mq_C) (y2 : Int32) (y3 : Int32) (y4 : Int32) (y5 : Int32) (w6 : Option Value), mz_sh mz_GG M' → X M' → mz_fr hs_so24_q M M' → (∀ a, a < 8 → M' a = M a) → hb_same mz_GG hs_so24_q M M' → mq_nl w6 = true → y2.toInt = 0 → y3.toInt = 0 → y4.toInt = 0 → y5.toInt = 1 → hv M' 9 3 = hv M 9 3 → hv M' 9 5 = hv M 9 5 → mq_R mq_PP d 100 10 [some (.ref 9), some (.ref 24), some (.int y2), some (.int y3), some (.int y4), some (.int y5), w6] [] (M', z, u) Q) : mq_R mq_PP d 100 0 [some (.ref 9), some (.ref 24), o2, o3, o4, o5, o6] [] (M, z, u) Q := by
  refine hb_blk mz_GG mq_PP X (q := hs_so24_q) (nl := 7) (M := M) hb_okG hX hC hs_so24_c hz hd (L := [some (.ref 9), some (.ref 24), o2, o3, o4, o5, o6]) (st := []) (show hb_lk mz_GG ([(1, 9), (1, 24), (3, 0), (3, 0), (3, 0), (3, 0), (3, 0)]) _ from ⟨⟨List.mem_singleton.mpr rfl, rfl⟩, ⟨List.mem_singleton.mpr rfl, rfl⟩, h0, h1, h2, h3, h4, trivial⟩) (show hb_pk mz_GG ([]) _ from trivial) hm hx ?_ ?_ ?_
  · exact hb_nil
  · intro s hs
    rcases List.mem_cons.mp hs with rfl | hs
    · intro ρ1 L' st' M' g1 g2 gm gr gf gs gx gw g8 ge
      obtain ⟨e0, L1, rfl, n0, gg0⟩ := hb_l1 mz_GG g1
      obtain rfl : e0 = 9 := List.mem_singleton.mp n0
      obtain ⟨e1, L1, rfl, n1, gg1⟩ := hb_l1 mz_GG gg0
      obtain rfl : e1 = 24 := List.mem_singleton.mp n1
      obtain ⟨y2, L1, rfl, qr70, gg2⟩ := hb_l0 mz_GG gg1
      have r70 : ρ1 70 = y2.toInt := qr70
      obtain ⟨y3, L1, rfl, qr71, gg3⟩ := hb_l0 mz_GG gg2
      have r71 : ρ1 71 = y3.toInt := qr71
      obtain ⟨y4, L1, rfl, qr72, gg4⟩ := hb_l0 mz_GG gg3
      have r72 : ρ1 72 = y4.toInt := qr72
      obtain ⟨y5, L1, rfl, qr73, gg5⟩ := hb_l0 mz_GG gg4
      have r73 : ρ1 73 = y5.toInt := qr73
      obtain ⟨w6, L1, rfl, n6, gg6⟩ := hb_l3 mz_GG gg5
      obtain rfl := hb_ln mz_GG gg6
      obtain rfl := hb_pn mz_GG g2
      have r12 : ρ1 12 = hv M 9 3 := gr 12 (by decide +kernel)
      have r14 : ρ1 14 = hv M 9 5 := gr 14 (by decide +kernel)
      have r75 : ρ1 75 = hv M' 9 3 := gm 0 5 (9, 3) rfl rfl
      have r76 : ρ1 76 = hv M' 9 5 := gm 1 7 (9, 5) rfl rfl
      obtain ⟨f0, gf⟩ := hb_unc gf
      have f0 : 0 ≤ 0 + (1 * ρ1 70 + 0) := f0
      rw [r70] at f0
      obtain ⟨f1, gf⟩ := hb_unc gf
      have f1 : 0 ≤ 0 + ((-1) * ρ1 70 + 0) := f1
      rw [r70] at f1
      obtain ⟨f2, gf⟩ := hb_unc gf
      have f2 : 0 ≤ 0 + (1 * ρ1 71 + 0) := f2
      rw [r71] at f2
      obtain ⟨f3, gf⟩ := hb_unc gf
      have f3 : 0 ≤ 0 + ((-1) * ρ1 71 + 0) := f3
      rw [r71] at f3
      obtain ⟨f4, gf⟩ := hb_unc gf
      have f4 : 0 ≤ 0 + (1 * ρ1 72 + 0) := f4
      rw [r72] at f4
      obtain ⟨f5, gf⟩ := hb_unc gf
      have f5 : 0 ≤ 0 + ((-1) * ρ1 72 + 0) := f5
      rw [r72] at f5
      obtain ⟨f6, gf⟩ := hb_unc gf
      have f6 : 0 ≤ -1 + (1 * ρ1 73 + 0) := f6
      rw [r73] at f6
      obtain ⟨f7, gf⟩ := hb_unc gf
      have f7 : 0 ≤ 1 + ((-1) * ρ1 73 + 0) := f7
      rw [r73] at f7
      obtain ⟨f8, gf⟩ := hb_unc gf
      have f8 : 0 ≤ 0 + ((-1) * ρ1 12 + (1 * ρ1 75 + 0)) := f8
      rw [r12, r75] at f8
      obtain ⟨f9, gf⟩ := hb_unc gf
      have f9 : 0 ≤ 0 + (1 * ρ1 12 + ((-1) * ρ1 75 + 0)) := f9
      rw [r12, r75] at f9
      obtain ⟨f10, gf⟩ := hb_unc gf
      have f10 : 0 ≤ 0 + ((-1) * ρ1 14 + (1 * ρ1 76 + 0)) := f10
      rw [r14, r76] at f10
      obtain ⟨f11, gf⟩ := hb_unc gf
      have f11 : 0 ≤ 0 + (1 * ρ1 14 + ((-1) * ρ1 76 + 0)) := f11
      rw [r14, r76] at f11
      exact k0 M' y2 y3 y4 y5 w6 gs gx gw g8 ge n6 (by have h1 := f0; have h2 := f1; omega) (by have h1 := f2; have h2 := f3; omega) (by have h1 := f4; have h2 := f5; omega) (by have h1 := f6; have h2 := f7; omega) (by have h1 := f8; have h2 := f9; omega) (by have h1 := f10; have h2 := f11; omega)
    cases hs
  · intro r S hpo
    obtain ⟨b1, b2, b3, b4, b5, p, hp, res, hf, hre⟩ := hpo
    cases hp

def hs_sa24_q : mz_Q := (100, [(1, 9), (1, 24), (0, 0), (0, 0), (0, 0), (0, 0), (3, 0)], [(0, [(11, 8), (13, -1)]), (0, [(2, 1)]), (40000, [(2, -1)]), (-1, [(5, 1)]), (16, [(5, -1)])], [5, 7], [(0, 0, [(0, [(70, 1)]), (0, [(70, -1)]), (0, [(12, -1), (68, 1)]), (-1, [(69, 1)]), (1, [(69, -1)])])], [9])
def hs_sa24_s : List mz_Sp2 := [(70, [(1, 9), (1, 24), (0, 0), (0, 0), (0, 0), (0, 0), (3, 0)], [(0, 0), (1, 25)], [(0, [(3, -1), (71, 1)]), (0, [(3, 1), (71, -1)]), (0, [(4, -1), (72, 1)]), (0, [(4, 1), (72, -1)]), (0, [(5, -1), (73, 1)]), (0, [(5, 1), (73, -1)]), (0, [(5, -1), (75, 1)]), (0, [(5, 1), (75, -1)]), (-1, [(12, -1), (77, 1)]), (1, [(12, 1), (77, -1)]), (0, [(14, -1), (78, 1)]), (0, [(14, 1), (78, -1)]), (15, [(5, -1)]), (-1, [(12, -1), (13, 1)]), (1, [(2, 2), (70, -1)]), (0, [(2, -2), (70, 1)])])]
def hs_sa24_h : List mz_H := [(0, 0, []), (0, 0, []), (0, 0, []), (0, 0, []), (0, 0, []), (0, 0, []), (0, 0, []), (0, 0, []), (0, 0, []), (0, 0, []), (0, 0, []), (0, 0, []), (0, 0, []), (0, 0, []), (0, 0, []), (0, 0, []), (0, 0, []), (0, 0, []), (0, 0, []), (0, 0, []), (0, 0, []), (0, 0, [(3, 2)]), (0, 0, [(4, 2)]), (1023, 0, []), (0, 7, [(0, 1), (29, 1)]), (0, 7, [(1, 1), (4, 1), (6, 1)]), (1, 1, []), (0, 0, [(0, 1)]), (0, 0, [(1, 1)]), (0, 0, [(15, 2)]), (0, 0, []), (0, 0, [(0, 1), (15, 2)]), (0, 0, [(1, 1), (16, 2)]), (0, 0, []), (0, 0, [(37, 1)]), (0, 0, [(38, 1)]), (0, 0, [(37, 1)]), (0, 0, [(12, 1), (40, 1)]), (25, 0, []), (0, 0, []), (0, 0, []), (0, 0, []), (0, 0, []), (0, 0, []), (0, 0, []), (0, 0, []), (0, 0, []), (0, 0, []), (0, 0, []), (0, 0, []), (0, 0, []), (0, 0, []), (0, 0, [(13, 1)]), (0, 0, [(12, 1)]), (0, 0, [(1, 1)]), (0, 0, [(0, 1)])]
set_option maxRecDepth 100000 in
theorem hs_sa24_c : mz_blk mz_GG mq_PP mz_Cs hs_sa24_q 7 1 10 hs_sa24_s [] 52 hs_sa24_h = true := by decide +kernel
theorem hs_sa24 {X : (Nat → mq_C) → Prop} (hX : ∀ M M' : Nat → mq_C, mz_same mz_GG M M' → X M → X M') (hC : ∀ c ∈ mz_Cs, c.2 < 1 → mz_Ct mz_GG mq_PP X c.1 c.2) {d z u : Nat} {M : Nat → mq_C} {Q : (Option Value ⊕ Nat) → mq_S → Prop} {x2 : Int32} {x3 : Int32} {x4 : Int32} {x5 : Int32} {o6 : Option Value} (hd : 1 ≤ d) (hz : 272 ≤ z) (hm : mz_sh mz_GG M) (hx : X M) (h0 : mq_nl o6 = true) (p0 : 0 ≤ 8 * hv M 9 2 - hv M 9 4) (p1 : 0 ≤ x2.toInt) (p2 : 0 ≤ 40000 - x2.toInt) (p3 : 0 ≤ (-1) + x5.toInt) (p4 : 0 ≤ 16 - x5.toInt)
    (k0 : ∀ (M' : Nat → mq_C) (y2 : Int32) (w6 : Option Value), mz_sh mz_GG M' → X M' → mz_fr hs_sa24_q M M' → (∀ a, a < 8 → M' a = M a) → hb_same mz_GG hs_sa24_q M M' → mq_nl w6 = true → hv M' 9 3 = 1 + hv M 9 3 → hv M' 9 5 = hv M 9 5 → 0 ≤ 15 - x5.toInt → 0 ≤ (-1) - hv M 9 3 + hv M 9 4 → 0 ≤ 1 + 2 * x2.toInt - y2.toInt → 0 ≤ 0 - 2 * x2.toInt + y2.toInt → mq_R mq_PP d 100 70 [some (.ref 9), some (.ref 24), some (.int y2), some (.int x3), some (.int x4), some (.int x5), w6] [.int x5, .ref 25] (M', z, u) Q)
    (w0 : ∀ (M' : Nat → mq_C) (r : Int32), mz_sh mz_GG M' → X M' → mz_fr hs_sa24_q M M' → (∀ a, a < 8 → M' a = M a) → hb_same mz_GG hs_sa24_q M M' → 0 ≤ r.toInt → 0 ≤ 0 - r.toInt → 0 ≤ 0 - hv M 9 3 + hv M' 9 3 → 0 ≤ (-1) + hv M' 9 5 → 0 ≤ 1 - hv M' 9 5 → Q (.inl (some (.int r))) (M', z, u)) : mq_R mq_PP d 100 10 [some (.ref 9), some (.ref 24), some (.int x2), some (.int x3), some (.int x4), some (.int x5), o6] [] (M, z, u) Q := by
  refine hb_blk mz_GG mq_PP X (q := hs_sa24_q) (nl := 7) (M := M) hb_okG hX hC hs_sa24_c hz hd (L := [some (.ref 9), some (.ref 24), some (.int x2), some (.int x3), some (.int x4), some (.int x5), o6]) (st := []) (show hb_lk mz_GG ([(1, 9), (1, 24), (0, 0), (0, 0), (0, 0), (0, 0), (3, 0)]) _ from ⟨⟨List.mem_singleton.mpr rfl, rfl⟩, ⟨List.mem_singleton.mpr rfl, rfl⟩, trivial, trivial, trivial, trivial, h0, trivial⟩) (show hb_pk mz_GG ([]) _ from trivial) hm hx ?_ ?_ ?_
  · exact hb_cons (show 0 ≤ mz_ev _ _ from (show 0 ≤ 0 + (8 * hv M 9 2 + ((-1) * hv M 9 4 + 0)) by omega)) (hb_cons (show 0 ≤ mz_ev _ _ from (show 0 ≤ 0 + (1 * x2.toInt + 0) by omega)) (hb_cons (show 0 ≤ mz_ev _ _ from (show 0 ≤ 40000 + ((-1) * x2.toInt + 0) by omega)) (hb_cons (show 0 ≤ mz_ev _ _ from (show 0 ≤ -1 + (1 * x5.toInt + 0) by omega)) (hb_cons (show 0 ≤ mz_ev _ _ from (show 0 ≤ 16 + ((-1) * x5.toInt + 0) by omega)) (hb_nil)))))
  · intro s hs
    rcases List.mem_cons.mp hs with rfl | hs
    · intro ρ1 L' st' M' g1 g2 gm gr gf gs gx gw g8 ge
      obtain ⟨e0, L1, rfl, n0, gg0⟩ := hb_l1 mz_GG g1
      obtain rfl : e0 = 9 := List.mem_singleton.mp n0
      obtain ⟨e1, L1, rfl, n1, gg1⟩ := hb_l1 mz_GG gg0
      obtain rfl : e1 = 24 := List.mem_singleton.mp n1
      obtain ⟨y2, L1, rfl, qr70, gg2⟩ := hb_l0 mz_GG gg1
      have r70 : ρ1 70 = y2.toInt := qr70
      obtain ⟨y3, L1, rfl, qr71, gg3⟩ := hb_l0 mz_GG gg2
      have r71 : ρ1 71 = y3.toInt := qr71
      obtain ⟨y4, L1, rfl, qr72, gg4⟩ := hb_l0 mz_GG gg3
      have r72 : ρ1 72 = y4.toInt := qr72
      obtain ⟨y5, L1, rfl, qr73, gg5⟩ := hb_l0 mz_GG gg4
      have r73 : ρ1 73 = y5.toInt := qr73
      obtain ⟨w6, L1, rfl, n6, gg6⟩ := hb_l3 mz_GG gg5
      obtain ⟨y7, s1, rfl, qr75, gg7⟩ := hb_p0 mz_GG g2
      have r75 : ρ1 75 = y7.toInt := qr75
      obtain ⟨e8, s1, rfl, n8, gg8⟩ := hb_p1 mz_GG gg7
      obtain rfl : e8 = 25 := List.mem_singleton.mp n8
      obtain rfl := hb_ln mz_GG gg6
      obtain rfl := hb_pn mz_GG gg8
      have r2 : ρ1 2 = x2.toInt := gr 2 (by decide +kernel)
      have r3 : ρ1 3 = x3.toInt := gr 3 (by decide +kernel)
      have r4 : ρ1 4 = x4.toInt := gr 4 (by decide +kernel)
      have r5 : ρ1 5 = x5.toInt := gr 5 (by decide +kernel)
      have r12 : ρ1 12 = hv M 9 3 := gr 12 (by decide +kernel)
      have r13 : ρ1 13 = hv M 9 4 := gr 13 (by decide +kernel)
      have r14 : ρ1 14 = hv M 9 5 := gr 14 (by decide +kernel)
      have r77 : ρ1 77 = hv M' 9 3 := gm 0 5 (9, 3) rfl rfl
      have r78 : ρ1 78 = hv M' 9 5 := gm 1 7 (9, 5) rfl rfl
      obtain ⟨f0, gf⟩ := hb_unc gf
      have f0 : 0 ≤ 0 + ((-1) * ρ1 3 + (1 * ρ1 71 + 0)) := f0
      rw [r3, r71] at f0
      obtain ⟨f1, gf⟩ := hb_unc gf
      have f1 : 0 ≤ 0 + (1 * ρ1 3 + ((-1) * ρ1 71 + 0)) := f1
      rw [r3, r71] at f1
      obtain ⟨f2, gf⟩ := hb_unc gf
      have f2 : 0 ≤ 0 + ((-1) * ρ1 4 + (1 * ρ1 72 + 0)) := f2
      rw [r4, r72] at f2
      obtain ⟨f3, gf⟩ := hb_unc gf
      have f3 : 0 ≤ 0 + (1 * ρ1 4 + ((-1) * ρ1 72 + 0)) := f3
      rw [r4, r72] at f3
      obtain ⟨f4, gf⟩ := hb_unc gf
      have f4 : 0 ≤ 0 + ((-1) * ρ1 5 + (1 * ρ1 73 + 0)) := f4
      rw [r5, r73] at f4
      obtain ⟨f5, gf⟩ := hb_unc gf
      have f5 : 0 ≤ 0 + (1 * ρ1 5 + ((-1) * ρ1 73 + 0)) := f5
      rw [r5, r73] at f5
      obtain ⟨f6, gf⟩ := hb_unc gf
      have f6 : 0 ≤ 0 + ((-1) * ρ1 5 + (1 * ρ1 75 + 0)) := f6
      rw [r5, r75] at f6
      obtain ⟨f7, gf⟩ := hb_unc gf
      have f7 : 0 ≤ 0 + (1 * ρ1 5 + ((-1) * ρ1 75 + 0)) := f7
      rw [r5, r75] at f7
      obtain ⟨f8, gf⟩ := hb_unc gf
      have f8 : 0 ≤ -1 + ((-1) * ρ1 12 + (1 * ρ1 77 + 0)) := f8
      rw [r12, r77] at f8
      obtain ⟨f9, gf⟩ := hb_unc gf
      have f9 : 0 ≤ 1 + (1 * ρ1 12 + ((-1) * ρ1 77 + 0)) := f9
      rw [r12, r77] at f9
      obtain ⟨f10, gf⟩ := hb_unc gf
      have f10 : 0 ≤ 0 + ((-1) * ρ1 14 + (1 * ρ1 78 + 0)) := f10
      rw [r14, r78] at f10
      obtain ⟨f11, gf⟩ := hb_unc gf
      have f11 : 0 ≤ 0 + (1 * ρ1 14 + ((-1) * ρ1 78 + 0)) := f11
      rw [r14, r78] at f11
      obtain ⟨f12, gf⟩ := hb_unc gf
      have f12 : 0 ≤ 15 + ((-1) * ρ1 5 + 0) := f12
      rw [r5] at f12
      obtain ⟨f13, gf⟩ := hb_unc gf
      have f13 : 0 ≤ -1 + ((-1) * ρ1 12 + (1 * ρ1 13 + 0)) := f13
      rw [r12, r13] at f13
      obtain ⟨f14, gf⟩ := hb_unc gf
      have f14 : 0 ≤ 1 + (2 * ρ1 2 + ((-1) * ρ1 70 + 0)) := f14
      rw [r2, r70] at f14
      obtain ⟨f15, gf⟩ := hb_unc gf
      have f15 : 0 ≤ 0 + ((-2) * ρ1 2 + (1 * ρ1 70 + 0)) := f15
      rw [r2, r70] at f15
      have hy3 : y3 = x3 := hb_inj f0 f1
      subst y3
      have hy4 : y4 = x4 := hb_inj f2 f3
      subst y4
      have hy5 : y5 = x5 := hb_inj f4 f5
      subst y5
      have hy7 : y7 = x5 := hb_inj f6 f7
      subst y7
      exact k0 M' y2 w6 gs gx gw g8 ge n6 (by have h1 := f8; have h2 := f9; omega) (by have h1 := f10; have h2 := f11; omega) (by have h1 := f12; omega) (by have h1 := f13; omega) (by have h1 := f14; omega) (by have h1 := f15; omega)
    cases hs
  · intro r S hpo
    obtain ⟨b1, b2, b3, b4, b5, p, hp, res, hf, hre⟩ := hpo
    rcases List.mem_cons.mp hp with rfl | hp
    · obtain ⟨x, rfl, hr, hz1, hu1⟩ := mz_re_0 mz_GG hre rfl
      obtain ⟨M', z', u'⟩ := S
      cases hz1
      cases hu1
      have r12 : hb_r1 mz_GG hs_sa24_q (hb_rb mz_GG hs_sa24_q 7 [some (.ref 9), some (.ref 24), some (.int x2), some (.int x3), some (.int x4), some (.int x5), o6] [] M) M' res 12 = hv M 9 3 := rfl
      have r68 : hb_r1 mz_GG hs_sa24_q (hb_rb mz_GG hs_sa24_q 7 [some (.ref 9), some (.ref 24), some (.int x2), some (.int x3), some (.int x4), some (.int x5), o6] [] M) M' res 68 = hv M' 9 3 := rfl
      have r69 : hb_r1 mz_GG hs_sa24_q (hb_rb mz_GG hs_sa24_q 7 [some (.ref 9), some (.ref 24), some (.int x2), some (.int x3), some (.int x4), some (.int x5), o6] [] M) M' res 69 = hv M' 9 5 := rfl
      have r70 : hb_r1 mz_GG hs_sa24_q (hb_rb mz_GG hs_sa24_q 7 [some (.ref 9), some (.ref 24), some (.int x2), some (.int x3), some (.int x4), some (.int x5), o6] [] M) M' res 70 = res := rfl
      obtain ⟨f0, hf⟩ := hb_unc hf
      have f0 : 0 ≤ 0 + (1 * res + 0) := f0
      rw [← hr] at f0
      obtain ⟨f1, hf⟩ := hb_unc hf
      have f1 : 0 ≤ 0 + ((-1) * res + 0) := f1
      rw [← hr] at f1
      obtain ⟨f2, hf⟩ := hb_unc hf
      have f2 : 0 ≤ 0 + ((-1) * hv M 9 3 + (1 * hv M' 9 3 + 0)) := f2
      obtain ⟨f3, hf⟩ := hb_unc hf
      have f3 : 0 ≤ -1 + (1 * hv M' 9 5 + 0) := f3
      obtain ⟨f4, hf⟩ := hb_unc hf
      have f4 : 0 ≤ 1 + ((-1) * hv M' 9 5 + 0) := f4
      exact w0 M' x b1 b2 b3 b4 b5 (by have h1 := f0; omega) (by have h1 := f1; omega) (by have h1 := f2; omega) (by have h1 := f3; omega) (by have h1 := f4; omega)
    cases hp

def hs_sb24_q : mz_Q := (100, [(1, 9), (1, 24), (0, 0), (0, 0), (0, 0), (0, 0), (3, 0), (0, 0)], [(0, [(2, 1)]), (90000, [(2, -1)]), (0, [(3, 1)]), (0, [(2, 1), (3, -1)]), (0, [(4, 1)]), (0, [(7, 1)]), (288, [(4, -1), (7, -1)]), (-1, [(5, 1)]), (15, [(5, -1)])], [5, 7], [(0, 0, [(0, [(71, 1)]), (287, [(71, -1)]), (0, [(13, -1), (69, 1)]), (0, [(13, 1), (69, -1)]), (0, [(15, -1), (70, 1)]), (0, [(15, 1), (70, -1)])])], [])
def hs_sb24_s : List mz_Sp2 := [(10, [(1, 9), (1, 24), (0, 0), (0, 0), (0, 0), (0, 0), (0, 0)], [], [(0, [(2, -1), (71, 1)]), (0, [(2, 1), (71, -1)]), (0, [(3, -2), (7, -2), (72, 1)]), (0, [(3, 2), (7, 2), (72, -1)]), (0, [(4, -1), (7, -1), (73, 1)]), (0, [(4, 1), (7, 1), (73, -1)]), (-1, [(5, -1), (74, 1)]), (1, [(5, 1), (74, -1)]), (0, [(7, -1), (75, 1)]), (0, [(7, 1), (75, -1)]), (0, [(13, -1), (76, 1)]), (0, [(13, 1), (76, -1)]), (0, [(15, -1), (77, 1)]), (0, [(15, 1), (77, -1)]), (0, [(2, 1), (3, -1), (7, -1)])])]
def hs_sb24_h : List mz_H := [(0, 0, []), (0, 0, [(3, 1)]), (0, 0, [(1, 1), (2, 1)]), (0, 0, []), (0, 0, []), (0, 0, []), (0, 0, [(5, 1), (6, 1)]), (0, 0, [(7, 1)]), (0, 0, []), (0, 0, [(3, 1), (6, 1)]), (0, 0, [(0, 1), (2, 1)]), (0, 0, []), (0, 0, [(3, 2), (6, 2)]), (0, 0, [(0, 2), (2, 2)]), (0, 0, []), (0, 0, [(8, 1)]), (0, 0, [(9, 1)]), (0, 0, []), (0, 0, []), (0, 0, []), (0, 0, []), (0, 0, []), (0, 0, []), (0, 0, []), (0, 0, []), (0, 0, []), (0, 0, []), (0, 0, []), (0, 0, []), (0, 0, []), (0, 0, []), (0, 0, []), (0, 0, [(0, 1)]), (27, 0, []), (0, 0, []), (0, 0, [(1, 1), (5, 1)]), (0, 0, [(0, 1), (2, 1), (4, 1), (7, 1)]), (0, 0, []), (0, 0, [(4, 1), (5, 1)]), (0, 0, [(0, 1), (7, 1)]), (0, 0, [(4, 1), (5, 1)]), (0, 0, [(0, 1), (7, 1)]), (0, 0, []), (0, 0, [(0, 1)]), (0, 0, [(1, 1)]), (0, 0, []), (0, 0, []), (0, 0, []), (0, 0, [])]
set_option maxRecDepth 100000 in
theorem hs_sb24_c : mz_blk mz_GG mq_PP mz_Cs hs_sb24_q 7 1 71 hs_sb24_s [] 33 hs_sb24_h = true := by decide +kernel
theorem hs_sb24 {X : (Nat → mq_C) → Prop} (hX : ∀ M M' : Nat → mq_C, mz_same mz_GG M M' → X M → X M') (hC : ∀ c ∈ mz_Cs, c.2 < 1 → mz_Ct mz_GG mq_PP X c.1 c.2) {d z u : Nat} {M : Nat → mq_C} {Q : (Option Value ⊕ Nat) → mq_S → Prop} {x2 : Int32} {x3 : Int32} {x4 : Int32} {x5 : Int32} {o6 : Option Value} {x7 : Int32} (hd : 1 ≤ d) (hz : 272 ≤ z) (hm : mz_sh mz_GG M) (hx : X M) (h0 : mq_nl o6 = true) (p0 : 0 ≤ x2.toInt) (p1 : 0 ≤ 90000 - x2.toInt) (p2 : 0 ≤ x3.toInt) (p3 : 0 ≤ x2.toInt - x3.toInt) (p4 : 0 ≤ x4.toInt) (p5 : 0 ≤ x7.toInt) (p6 : 0 ≤ 288 - x4.toInt - x7.toInt) (p7 : 0 ≤ (-1) + x5.toInt) (p8 : 0 ≤ 15 - x5.toInt)
    (k0 : ∀ (M' : Nat → mq_C) (y3 : Int32) (y4 : Int32) (y5 : Int32), mz_sh mz_GG M' → X M' → mz_fr hs_sb24_q M M' → (∀ a, a < 8 → M' a = M a) → hb_same mz_GG hs_sb24_q M M' → y3.toInt = 2 * x3.toInt + 2 * x7.toInt → y4.toInt = x4.toInt + x7.toInt → y5.toInt = 1 + x5.toInt → hv M' 9 3 = hv M 9 3 → hv M' 9 5 = hv M 9 5 → 0 ≤ x2.toInt - x3.toInt - x7.toInt → mq_R mq_PP d 100 10 [some (.ref 9), some (.ref 24), some (.int x2), some (.int y3), some (.int y4), some (.int y5), some (.int x7)] [] (M', z, u) Q)
    (w0 : ∀ (M' : Nat → mq_C) (r : Int32), mz_sh mz_GG M' → X M' → mz_fr hs_sb24_q M M' → (∀ a, a < 8 → M' a = M a) → hb_same mz_GG hs_sb24_q M M' → 0 ≤ r.toInt → 0 ≤ 287 - r.toInt → 0 ≤ 0 - hv M 9 3 + hv M' 9 3 → 0 ≤ hv M 9 3 - hv M' 9 3 → 0 ≤ 0 - hv M 9 5 + hv M' 9 5 → 0 ≤ hv M 9 5 - hv M' 9 5 → Q (.inl (some (.int r))) (M', z, u)) : mq_R mq_PP d 100 71 [some (.ref 9), some (.ref 24), some (.int x2), some (.int x3), some (.int x4), some (.int x5), o6] [.int x7] (M, z, u) Q := by
  refine hb_blk mz_GG mq_PP X (q := hs_sb24_q) (nl := 7) (M := M) hb_okG hX hC hs_sb24_c hz hd (L := [some (.ref 9), some (.ref 24), some (.int x2), some (.int x3), some (.int x4), some (.int x5), o6]) (st := [.int x7]) (show hb_lk mz_GG ([(1, 9), (1, 24), (0, 0), (0, 0), (0, 0), (0, 0), (3, 0)]) _ from ⟨⟨List.mem_singleton.mpr rfl, rfl⟩, ⟨List.mem_singleton.mpr rfl, rfl⟩, trivial, trivial, trivial, trivial, h0, trivial⟩) (show hb_pk mz_GG ([(0, 0)]) _ from ⟨trivial, trivial⟩) hm hx ?_ ?_ ?_
  · exact hb_cons (show 0 ≤ mz_ev _ _ from (show 0 ≤ 0 + (1 * x2.toInt + 0) by omega)) (hb_cons (show 0 ≤ mz_ev _ _ from (show 0 ≤ 90000 + ((-1) * x2.toInt + 0) by omega)) (hb_cons (show 0 ≤ mz_ev _ _ from (show 0 ≤ 0 + (1 * x3.toInt + 0) by omega)) (hb_cons (show 0 ≤ mz_ev _ _ from (show 0 ≤ 0 + (1 * x2.toInt + ((-1) * x3.toInt + 0)) by omega)) (hb_cons (show 0 ≤ mz_ev _ _ from (show 0 ≤ 0 + (1 * x4.toInt + 0) by omega)) (hb_cons (show 0 ≤ mz_ev _ _ from (show 0 ≤ 0 + (1 * x7.toInt + 0) by omega)) (hb_cons (show 0 ≤ mz_ev _ _ from (show 0 ≤ 288 + ((-1) * x4.toInt + ((-1) * x7.toInt + 0)) by omega)) (hb_cons (show 0 ≤ mz_ev _ _ from (show 0 ≤ -1 + (1 * x5.toInt + 0) by omega)) (hb_cons (show 0 ≤ mz_ev _ _ from (show 0 ≤ 15 + ((-1) * x5.toInt + 0) by omega)) (hb_nil)))))))))
  · intro s hs
    rcases List.mem_cons.mp hs with rfl | hs
    · intro ρ1 L' st' M' g1 g2 gm gr gf gs gx gw g8 ge
      obtain ⟨e0, L1, rfl, n0, gg0⟩ := hb_l1 mz_GG g1
      obtain rfl : e0 = 9 := List.mem_singleton.mp n0
      obtain ⟨e1, L1, rfl, n1, gg1⟩ := hb_l1 mz_GG gg0
      obtain rfl : e1 = 24 := List.mem_singleton.mp n1
      obtain ⟨y2, L1, rfl, qr71, gg2⟩ := hb_l0 mz_GG gg1
      have r71 : ρ1 71 = y2.toInt := qr71
      obtain ⟨y3, L1, rfl, qr72, gg3⟩ := hb_l0 mz_GG gg2
      have r72 : ρ1 72 = y3.toInt := qr72
      obtain ⟨y4, L1, rfl, qr73, gg4⟩ := hb_l0 mz_GG gg3
      have r73 : ρ1 73 = y4.toInt := qr73
      obtain ⟨y5, L1, rfl, qr74, gg5⟩ := hb_l0 mz_GG gg4
      have r74 : ρ1 74 = y5.toInt := qr74
      obtain ⟨y6, L1, rfl, qr75, gg6⟩ := hb_l0 mz_GG gg5
      have r75 : ρ1 75 = y6.toInt := qr75
      obtain rfl := hb_ln mz_GG gg6
      obtain rfl := hb_pn mz_GG g2
      have r2 : ρ1 2 = x2.toInt := gr 2 (by decide +kernel)
      have r3 : ρ1 3 = x3.toInt := gr 3 (by decide +kernel)
      have r4 : ρ1 4 = x4.toInt := gr 4 (by decide +kernel)
      have r5 : ρ1 5 = x5.toInt := gr 5 (by decide +kernel)
      have r7 : ρ1 7 = x7.toInt := gr 7 (by decide +kernel)
      have r13 : ρ1 13 = hv M 9 3 := gr 13 (by decide +kernel)
      have r15 : ρ1 15 = hv M 9 5 := gr 15 (by decide +kernel)
      have r76 : ρ1 76 = hv M' 9 3 := gm 0 5 (9, 3) rfl rfl
      have r77 : ρ1 77 = hv M' 9 5 := gm 1 7 (9, 5) rfl rfl
      obtain ⟨f0, gf⟩ := hb_unc gf
      have f0 : 0 ≤ 0 + ((-1) * ρ1 2 + (1 * ρ1 71 + 0)) := f0
      rw [r2, r71] at f0
      obtain ⟨f1, gf⟩ := hb_unc gf
      have f1 : 0 ≤ 0 + (1 * ρ1 2 + ((-1) * ρ1 71 + 0)) := f1
      rw [r2, r71] at f1
      obtain ⟨f2, gf⟩ := hb_unc gf
      have f2 : 0 ≤ 0 + ((-2) * ρ1 3 + ((-2) * ρ1 7 + (1 * ρ1 72 + 0))) := f2
      rw [r3, r7, r72] at f2
      obtain ⟨f3, gf⟩ := hb_unc gf
      have f3 : 0 ≤ 0 + (2 * ρ1 3 + (2 * ρ1 7 + ((-1) * ρ1 72 + 0))) := f3
      rw [r3, r7, r72] at f3
      obtain ⟨f4, gf⟩ := hb_unc gf
      have f4 : 0 ≤ 0 + ((-1) * ρ1 4 + ((-1) * ρ1 7 + (1 * ρ1 73 + 0))) := f4
      rw [r4, r7, r73] at f4
      obtain ⟨f5, gf⟩ := hb_unc gf
      have f5 : 0 ≤ 0 + (1 * ρ1 4 + (1 * ρ1 7 + ((-1) * ρ1 73 + 0))) := f5
      rw [r4, r7, r73] at f5
      obtain ⟨f6, gf⟩ := hb_unc gf
      have f6 : 0 ≤ -1 + ((-1) * ρ1 5 + (1 * ρ1 74 + 0)) := f6
      rw [r5, r74] at f6
      obtain ⟨f7, gf⟩ := hb_unc gf
      have f7 : 0 ≤ 1 + (1 * ρ1 5 + ((-1) * ρ1 74 + 0)) := f7
      rw [r5, r74] at f7
      obtain ⟨f8, gf⟩ := hb_unc gf
      have f8 : 0 ≤ 0 + ((-1) * ρ1 7 + (1 * ρ1 75 + 0)) := f8
      rw [r7, r75] at f8
      obtain ⟨f9, gf⟩ := hb_unc gf
      have f9 : 0 ≤ 0 + (1 * ρ1 7 + ((-1) * ρ1 75 + 0)) := f9
      rw [r7, r75] at f9
      obtain ⟨f10, gf⟩ := hb_unc gf
      have f10 : 0 ≤ 0 + ((-1) * ρ1 13 + (1 * ρ1 76 + 0)) := f10
      rw [r13, r76] at f10
      obtain ⟨f11, gf⟩ := hb_unc gf
      have f11 : 0 ≤ 0 + (1 * ρ1 13 + ((-1) * ρ1 76 + 0)) := f11
      rw [r13, r76] at f11
      obtain ⟨f12, gf⟩ := hb_unc gf
      have f12 : 0 ≤ 0 + ((-1) * ρ1 15 + (1 * ρ1 77 + 0)) := f12
      rw [r15, r77] at f12
      obtain ⟨f13, gf⟩ := hb_unc gf
      have f13 : 0 ≤ 0 + (1 * ρ1 15 + ((-1) * ρ1 77 + 0)) := f13
      rw [r15, r77] at f13
      obtain ⟨f14, gf⟩ := hb_unc gf
      have f14 : 0 ≤ 0 + (1 * ρ1 2 + ((-1) * ρ1 3 + ((-1) * ρ1 7 + 0))) := f14
      rw [r2, r3, r7] at f14
      have hy2 : y2 = x2 := hb_inj f0 f1
      subst y2
      have hy6 : y6 = x7 := hb_inj f8 f9
      subst y6
      exact k0 M' y3 y4 y5 gs gx gw g8 ge  (by have h1 := f2; have h2 := f3; omega) (by have h1 := f4; have h2 := f5; omega) (by have h1 := f6; have h2 := f7; omega) (by have h1 := f10; have h2 := f11; omega) (by have h1 := f12; have h2 := f13; omega) (by have h1 := f14; omega)
    cases hs
  · intro r S hpo
    obtain ⟨b1, b2, b3, b4, b5, p, hp, res, hf, hre⟩ := hpo
    rcases List.mem_cons.mp hp with rfl | hp
    · obtain ⟨x, rfl, hr, hz1, hu1⟩ := mz_re_0 mz_GG hre rfl
      obtain ⟨M', z', u'⟩ := S
      cases hz1
      cases hu1
      have r13 : hb_r1 mz_GG hs_sb24_q (hb_rb mz_GG hs_sb24_q 7 [some (.ref 9), some (.ref 24), some (.int x2), some (.int x3), some (.int x4), some (.int x5), o6] [.int x7] M) M' res 13 = hv M 9 3 := rfl
      have r15 : hb_r1 mz_GG hs_sb24_q (hb_rb mz_GG hs_sb24_q 7 [some (.ref 9), some (.ref 24), some (.int x2), some (.int x3), some (.int x4), some (.int x5), o6] [.int x7] M) M' res 15 = hv M 9 5 := rfl
      have r69 : hb_r1 mz_GG hs_sb24_q (hb_rb mz_GG hs_sb24_q 7 [some (.ref 9), some (.ref 24), some (.int x2), some (.int x3), some (.int x4), some (.int x5), o6] [.int x7] M) M' res 69 = hv M' 9 3 := rfl
      have r70 : hb_r1 mz_GG hs_sb24_q (hb_rb mz_GG hs_sb24_q 7 [some (.ref 9), some (.ref 24), some (.int x2), some (.int x3), some (.int x4), some (.int x5), o6] [.int x7] M) M' res 70 = hv M' 9 5 := rfl
      have r71 : hb_r1 mz_GG hs_sb24_q (hb_rb mz_GG hs_sb24_q 7 [some (.ref 9), some (.ref 24), some (.int x2), some (.int x3), some (.int x4), some (.int x5), o6] [.int x7] M) M' res 71 = res := rfl
      obtain ⟨f0, hf⟩ := hb_unc hf
      have f0 : 0 ≤ 0 + (1 * res + 0) := f0
      rw [← hr] at f0
      obtain ⟨f1, hf⟩ := hb_unc hf
      have f1 : 0 ≤ 287 + ((-1) * res + 0) := f1
      rw [← hr] at f1
      obtain ⟨f2, hf⟩ := hb_unc hf
      have f2 : 0 ≤ 0 + ((-1) * hv M 9 3 + (1 * hv M' 9 3 + 0)) := f2
      obtain ⟨f3, hf⟩ := hb_unc hf
      have f3 : 0 ≤ 0 + (1 * hv M 9 3 + ((-1) * hv M' 9 3 + 0)) := f3
      obtain ⟨f4, hf⟩ := hb_unc hf
      have f4 : 0 ≤ 0 + ((-1) * hv M 9 5 + (1 * hv M' 9 5 + 0)) := f4
      obtain ⟨f5, hf⟩ := hb_unc hf
      have f5 : 0 ≤ 0 + (1 * hv M 9 5 + ((-1) * hv M' 9 5 + 0)) := f5
      exact w0 M' x b1 b2 b3 b4 b5 (by have h1 := f0; omega) (by have h1 := f1; omega) (by have h1 := f2; omega) (by have h1 := f3; omega) (by have h1 := f4; omega) (by have h1 := f5; omega)
    cases hp

theorem hs_sl24 {d z u : Nat} {Q : (Option Value ⊕ Nat) → mq_S → Prop} {M0 : Nat → mq_C} (hd : 1 ≤ d) (hz : 272 ≤ z)
    (hQ1 : ∀ (M' : Nat → mq_C) (r : Int32), mz_sh mz_GG M' → HX M' → mz_fr mz_q23 M0 M' → (∀ a, a < 8 → M' a = M0 a) → hb_same mz_GG mz_q23 M0 M' → 0 ≤ r.toInt → 0 ≤ 287 - r.toInt → 0 ≤ (-1) - hv M0 9 3 + hv M' 9 3 → hv M' 9 5 = hv M0 9 5 → Q (.inl (some (.int r))) (M', z, u))
    (hQ2 : ∀ (M' : Nat → mq_C) (r : Int32), mz_sh mz_GG M' → HX M' → mz_fr mz_q23 M0 M' → (∀ a, a < 8 → M' a = M0 a) → hb_same mz_GG mz_q23 M0 M' → r.toInt = 0 → 0 ≤ 0 - hv M0 9 3 + hv M' 9 3 → hv M' 9 5 = 1 → Q (.inl (some (.int r))) (M', z, u)) :
    ∀ (m : Nat) (M : Nat → mq_C) (x2 x3 x4 x5 : Int32) (o6 : Option Value), (m : Int) + x5.toInt = 16 → 1 ≤ x5.toInt → mz_sh mz_GG M → HX M → mz_fr mz_q23 M0 M → (∀ a, a < 8 → M a = M0 a) → hb_same mz_GG mz_q23 M0 M → hv M0 9 3 ≤ hv M 9 3 → hv M 9 5 = hv M0 9 5 → mq_nl o6 = true → 0 ≤ 8 * hv M 9 2 - hv M 9 4 → 0 ≤ x3.toInt → x3.toInt ≤ 2 * x2.toInt → x2.toInt + 1 ≤ ((2 ^ (x5.toInt.toNat - 1) : Nat) : Int) → x4.toInt = hb_sum (fun b => hv M (24 + 1) (b + 1)) (x5.toInt.toNat - 1) → mq_R mq_PP d 100 10 [some (.ref 9), some (.ref 24), some (.int x2), some (.int x3), some (.int x4), some (.int x5), o6] [] (M, z, u) Q := by
  intro m
  induction m with
  | zero =>
    intro M x2 x3 x4 x5 o6 e1 e2 hm hx hf h8 he a1 a2 ho hp b1 b2 b3 b4
    have hpw : 2 ^ (x5.toInt.toNat - 1) ≤ 2 ^ 15 := Nat.pow_le_pow_right (by omega) (by omega)
    refine hs_sa24 HX_same hb_C1 hd hz hm hx ho hp (by omega) (by omega) (by omega) (by omega) ?_ ?_
    · intro M' y2 w6 gs gx gw g8 ge hw f1 f2 f3 f4 f5 f6
      omega
    · intro M' r gs gx gw g8 ge f1 f2 f3 f4 f5
      refine hQ2 M' r gs gx (hb_fr_t (q' := hs_sa24_q) (fun a ha => ha) hf gw) (fun a ha => (g8 a ha).trans (h8 a ha)) (hb_same_t (q' := hs_sa24_q) (fun j hj => hj) he ge) (by omega) ?_ ?_
      · have h1 : 0 ≤ 0 - hv M 9 3 + hv M' 9 3 := f3
        omega
      · have h1 : 0 ≤ (-1) + hv M' 9 5 := f4
        have h2 : 0 ≤ 1 - hv M' 9 5 := f5
        omega
  | succ m ih =>
    intro M x2 x3 x4 x5 o6 e1 e2 hm hx hf h8 he a1 a2 ho hp b1 b2 b3 b4
    have hpw : 2 ^ (x5.toInt.toNat - 1) ≤ 2 ^ 14 := Nat.pow_le_pow_right (by omega) (by omega)
    refine hs_sa24 HX_same hb_C1 hd hz hm hx ho hp (by omega) (by omega) (by omega) (by omega) ?_ ?_
    · intro M' y2 w6 gs gx gw g8 ge hw f1 f2 f3 f4 f5 f6
      have g1 : hv M' 9 3 = 1 + hv M 9 3 := f1
      have g2 : hv M' 9 5 = hv M 9 5 := f2
      have hf' : mz_fr mz_q23 M0 M' := hb_fr_t (q' := hs_sa24_q) (fun a ha => ha) hf gw
      have he' : hb_same mz_GG mz_q23 M0 M' := hb_same_t (q' := hs_sa24_q) (fun j hj => hj) he ge
      have h8' : ∀ a, a < 8 → M' a = M0 a := fun a ha => (g8 a ha).trans (h8 a ha)
      have hp' : 0 ≤ 8 * hv M' 9 2 - hv M' 9 4 := by
        rw [show hv M' 9 2 = hv M 9 2 from ge 4 (9, 2) rfl rfl, show hv M' 9 4 = hv M 9 4 from ge 6 (9, 4) rfl rfl]
        exact hp
      have hcell : ∀ i, hv M' (24 + 1) i = hv M (24 + 1) i := hb_vc (gw _ (by decide) rfl)
      have hnn : ∀ i, i < 15 → 0 ≤ hv M' (24 + 1) (i + 1) := fun i hi => (hb_rg gs rfl (show i + 1 < 16 by omega) hb_at1).1
      have hX1 : hb_sum (fun b => hv M' (24 + 1) (b + 1)) 15 ≤ 288 := gx 3
      have b4' : x4.toInt = hb_sum (fun b => hv M' (24 + 1) (b + 1)) (x5.toInt.toNat - 1) := by
        rw [b4]
        exact hb_sum_c _ (fun i _ => (hcell _).symm)
      refine hb_ld (n := 71) (kind := 64) gs (by decide +kernel) rfl rfl (.inl rfl) (by omega) (show x5.toInt < 16 by omega) hb_at1 ?_
      intro v hv1 hv2 hv3
      have hsum : hb_sum (fun b => hv M' (24 + 1) (b + 1)) x5.toInt.toNat = x4.toInt + v.toInt := by
        rw [b4', ← hv1]
        obtain ⟨t, ht⟩ : ∃ t, x5.toInt.toNat = t + 1 := ⟨x5.toInt.toNat - 1, by omega⟩
        rw [ht]
        rfl
      have hle := hb_sum_m (f := fun b => hv M' (24 + 1) (b + 1)) (m := x5.toInt.toNat) 15 (by omega) hnn
      have hx40 := hb_sum_0 (f := fun b => hv M' (24 + 1) (b + 1)) (x5.toInt.toNat - 1) (fun i hi => hnn i (by omega))
      refine hs_sb24 HX_same hb_C1 hd hz gs gx hw (by omega) (by omega) (by omega) (by omega) (by omega) (by omega) (by omega) (by omega) (by omega) ?_ ?_
      · intro M2 y3 y4 y5 k1 k2 k3 k4 k5 l1 l2 l3 l4 l5 l6
        have q3 : hv M2 9 3 = hv M' 9 3 := l4
        have q5 : hv M2 9 5 = hv M' 9 5 := l5
        have hc2 : ∀ i, hv M2 (24 + 1) i = hv M' (24 + 1) i := hb_vc (k3 _ (by decide) rfl)
        refine ih M2 y2 y3 y4 y5 (some (.int v)) (by omega) (by omega) k1 k2 (hb_fr_t (q' := hs_sb24_q) (fun a ha => rfl) hf' k3) (fun a ha => (k4 a ha).trans (h8' a ha)) (hb_same_t (q' := hs_sb24_q) (fun j hj => hj) he' k5) (by omega) (by omega) rfl ?_ (by omega) (by omega) ?_ ?_
        · rw [show hv M2 9 2 = hv M' 9 2 from k5 4 (9, 2) rfl rfl, show hv M2 9 4 = hv M' 9 4 from k5 6 (9, 4) rfl rfl]
          exact hp'
        · have e9 : y5.toInt.toNat - 1 = x5.toInt.toNat - 1 + 1 := by omega
          rw [e9, Nat.pow_succ]
          omega
        · have e9 : y5.toInt.toNat - 1 = x5.toInt.toNat := by omega
          rw [e9, hb_sum_c _ (fun i _ => hc2 (i + 1)), hsum]
          exact l2
      · intro M2 r k1 k2 k3 k4 k5 l1 l2 l3 l4 l5 l6
        have q1 : 0 ≤ 0 - hv M' 9 3 + hv M2 9 3 := l3
        have q2 : 0 ≤ hv M' 9 3 - hv M2 9 3 := l4
        have q3 : 0 ≤ 0 - hv M' 9 5 + hv M2 9 5 := l5
        have q4 : 0 ≤ hv M' 9 5 - hv M2 9 5 := l6
        exact hQ1 M2 r k1 k2 (hb_fr_t (q' := hs_sb24_q) (fun a ha => rfl) hf' k3) (fun a ha => (k4 a ha).trans (h8' a ha)) (hb_same_t (q' := hs_sb24_q) (fun j hj => hj) he' k5) l1 (by omega) (by omega) (by omega)
    · intro M' r gs gx gw g8 ge f1 f2 f3 f4 f5
      refine hQ2 M' r gs gx (hb_fr_t (q' := hs_sa24_q) (fun a ha => ha) hf gw) (fun a ha => (g8 a ha).trans (h8 a ha)) (hb_same_t (q' := hs_sa24_q) (fun j hj => hj) he ge) (by omega) ?_ ?_
      · have h1 : 0 ≤ 0 - hv M 9 3 + hv M' 9 3 := f3
        omega
      · have h1 : 0 ≤ (-1) + hv M' 9 5 := f4
        have h2 : 0 ≤ 1 - hv M' 9 5 := f5
        omega
def hs_so28_q : mz_Q := (100, [(1, 9), (1, 28), (3, 0), (3, 0), (3, 0), (3, 0), (3, 0)], [], [5, 7], [], [])
def hs_so28_s : List mz_Sp2 := [(10, [(1, 9), (1, 28), (0, 0), (0, 0), (0, 0), (0, 0), (3, 0)], [], [(0, [(70, 1)]), (0, [(70, -1)]), (0, [(71, 1)]), (0, [(71, -1)]), (0, [(72, 1)]), (0, [(72, -1)]), (-1, [(73, 1)]), (1, [(73, -1)]), (0, [(12, -1), (75, 1)]), (0, [(12, 1), (75, -1)]), (0, [(14, -1), (76, 1)]), (0, [(14, 1), (76, -1)])])]
def hs_so28_h : List mz_H := [(0, 0, []), (0, 0, []), (0, 0, []), (0, 0, []), (0, 0, []), (0, 0, []), (0, 0, []), (0, 0, []), (0, 0, []), (0, 0, []), (0, 0, []), (0, 0, []), (0, 0, [])]
set_option maxRecDepth 100000 in
theorem hs_so28_c : mz_blk mz_GG mq_PP mz_Cs hs_so28_q 7 1 0 hs_so28_s [] 14 hs_so28_h = true := by decide +kernel
theorem hs_so28 {X : (Nat → mq_C) → Prop} (hX : ∀ M M' : Nat → mq_C, mz_same mz_GG M M' → X M → X M') (hC : ∀ c ∈ mz_Cs, c.2 < 1 → mz_Ct mz_GG mq_PP X c.1 c.2) {d z u : Nat} {M : Nat → mq_C} {Q : (Option Value ⊕ Nat) → mq_S → Prop} {o2 : Option Value} {o3 : Option Value} {o4 : Option Value} {o5 : Option Value} {o6 : Option Value} (hd : 1 ≤ d) (hz : 272 ≤ z) (hm : mz_sh mz_GG M) (hx : X M) (h0 : mq_nl o2 = true) (h1 : mq_nl o3 = true) (h2 : mq_nl o4 = true) (h3 : mq_nl o5 = true) (h4 : mq_nl o6 = true)
    (k0 : ∀ (M' : Nat → mq_C) (y2 : Int32) (y3 : Int32) (y4 : Int32) (y5 : Int32) (w6 : Option Value), mz_sh mz_GG M' → X M' → mz_fr hs_so28_q M M' → (∀ a, a < 8 → M' a = M a) → hb_same mz_GG hs_so28_q M M' → mq_nl w6 = true → y2.toInt = 0 → y3.toInt = 0 → y4.toInt = 0 → y5.toInt = 1 → hv M' 9 3 = hv M 9 3 → hv M' 9 5 = hv M 9 5 → mq_R mq_PP d 100 10 [some (.ref 9), some (.ref 28), some (.int y2), some (.int y3), some (.int y4), some (.int y5), w6] [] (M', z, u) Q) : mq_R mq_PP d 100 0 [some (.ref 9), some (.ref 28), o2, o3, o4, o5, o6] [] (M, z, u) Q := by
  refine hb_blk mz_GG mq_PP X (q := hs_so28_q) (nl := 7) (M := M) hb_okG hX hC hs_so28_c hz hd (L := [some (.ref 9), some (.ref 28), o2, o3, o4, o5, o6]) (st := []) (show hb_lk mz_GG ([(1, 9), (1, 28), (3, 0), (3, 0), (3, 0), (3, 0), (3, 0)]) _ from ⟨⟨List.mem_singleton.mpr rfl, rfl⟩, ⟨List.mem_singleton.mpr rfl, rfl⟩, h0, h1, h2, h3, h4, trivial⟩) (show hb_pk mz_GG ([]) _ from trivial) hm hx ?_ ?_ ?_
  · exact hb_nil
  · intro s hs
    rcases List.mem_cons.mp hs with rfl | hs
    · intro ρ1 L' st' M' g1 g2 gm gr gf gs gx gw g8 ge
      obtain ⟨e0, L1, rfl, n0, gg0⟩ := hb_l1 mz_GG g1
      obtain rfl : e0 = 9 := List.mem_singleton.mp n0
      obtain ⟨e1, L1, rfl, n1, gg1⟩ := hb_l1 mz_GG gg0
      obtain rfl : e1 = 28 := List.mem_singleton.mp n1
      obtain ⟨y2, L1, rfl, qr70, gg2⟩ := hb_l0 mz_GG gg1
      have r70 : ρ1 70 = y2.toInt := qr70
      obtain ⟨y3, L1, rfl, qr71, gg3⟩ := hb_l0 mz_GG gg2
      have r71 : ρ1 71 = y3.toInt := qr71
      obtain ⟨y4, L1, rfl, qr72, gg4⟩ := hb_l0 mz_GG gg3
      have r72 : ρ1 72 = y4.toInt := qr72
      obtain ⟨y5, L1, rfl, qr73, gg5⟩ := hb_l0 mz_GG gg4
      have r73 : ρ1 73 = y5.toInt := qr73
      obtain ⟨w6, L1, rfl, n6, gg6⟩ := hb_l3 mz_GG gg5
      obtain rfl := hb_ln mz_GG gg6
      obtain rfl := hb_pn mz_GG g2
      have r12 : ρ1 12 = hv M 9 3 := gr 12 (by decide +kernel)
      have r14 : ρ1 14 = hv M 9 5 := gr 14 (by decide +kernel)
      have r75 : ρ1 75 = hv M' 9 3 := gm 0 5 (9, 3) rfl rfl
      have r76 : ρ1 76 = hv M' 9 5 := gm 1 7 (9, 5) rfl rfl
      obtain ⟨f0, gf⟩ := hb_unc gf
      have f0 : 0 ≤ 0 + (1 * ρ1 70 + 0) := f0
      rw [r70] at f0
      obtain ⟨f1, gf⟩ := hb_unc gf
      have f1 : 0 ≤ 0 + ((-1) * ρ1 70 + 0) := f1
      rw [r70] at f1
      obtain ⟨f2, gf⟩ := hb_unc gf
      have f2 : 0 ≤ 0 + (1 * ρ1 71 + 0) := f2
      rw [r71] at f2
      obtain ⟨f3, gf⟩ := hb_unc gf
      have f3 : 0 ≤ 0 + ((-1) * ρ1 71 + 0) := f3
      rw [r71] at f3
      obtain ⟨f4, gf⟩ := hb_unc gf
      have f4 : 0 ≤ 0 + (1 * ρ1 72 + 0) := f4
      rw [r72] at f4
      obtain ⟨f5, gf⟩ := hb_unc gf
      have f5 : 0 ≤ 0 + ((-1) * ρ1 72 + 0) := f5
      rw [r72] at f5
      obtain ⟨f6, gf⟩ := hb_unc gf
      have f6 : 0 ≤ -1 + (1 * ρ1 73 + 0) := f6
      rw [r73] at f6
      obtain ⟨f7, gf⟩ := hb_unc gf
      have f7 : 0 ≤ 1 + ((-1) * ρ1 73 + 0) := f7
      rw [r73] at f7
      obtain ⟨f8, gf⟩ := hb_unc gf
      have f8 : 0 ≤ 0 + ((-1) * ρ1 12 + (1 * ρ1 75 + 0)) := f8
      rw [r12, r75] at f8
      obtain ⟨f9, gf⟩ := hb_unc gf
      have f9 : 0 ≤ 0 + (1 * ρ1 12 + ((-1) * ρ1 75 + 0)) := f9
      rw [r12, r75] at f9
      obtain ⟨f10, gf⟩ := hb_unc gf
      have f10 : 0 ≤ 0 + ((-1) * ρ1 14 + (1 * ρ1 76 + 0)) := f10
      rw [r14, r76] at f10
      obtain ⟨f11, gf⟩ := hb_unc gf
      have f11 : 0 ≤ 0 + (1 * ρ1 14 + ((-1) * ρ1 76 + 0)) := f11
      rw [r14, r76] at f11
      exact k0 M' y2 y3 y4 y5 w6 gs gx gw g8 ge n6 (by have h1 := f0; have h2 := f1; omega) (by have h1 := f2; have h2 := f3; omega) (by have h1 := f4; have h2 := f5; omega) (by have h1 := f6; have h2 := f7; omega) (by have h1 := f8; have h2 := f9; omega) (by have h1 := f10; have h2 := f11; omega)
    cases hs
  · intro r S hpo
    obtain ⟨b1, b2, b3, b4, b5, p, hp, res, hf, hre⟩ := hpo
    cases hp

def hs_sa28_q : mz_Q := (100, [(1, 9), (1, 28), (0, 0), (0, 0), (0, 0), (0, 0), (3, 0)], [(0, [(11, 8), (13, -1)]), (0, [(2, 1)]), (40000, [(2, -1)]), (-1, [(5, 1)]), (16, [(5, -1)])], [5, 7], [(0, 0, [(0, [(70, 1)]), (0, [(70, -1)]), (0, [(12, -1), (68, 1)]), (-1, [(69, 1)]), (1, [(69, -1)])])], [9])
def hs_sa28_s : List mz_Sp2 := [(70, [(1, 9), (1, 28), (0, 0), (0, 0), (0, 0), (0, 0), (3, 0)], [(0, 0), (1, 29)], [(0, [(3, -1), (71, 1)]), (0, [(3, 1), (71, -1)]), (0, [(4, -1), (72, 1)]), (0, [(4, 1), (72, -1)]), (0, [(5, -1), (73, 1)]), (0, [(5, 1), (73, -1)]), (0, [(5, -1), (75, 1)]), (0, [(5, 1), (75, -1)]), (-1, [(12, -1), (77, 1)]), (1, [(12, 1), (77, -1)]), (0, [(14, -1), (78, 1)]), (0, [(14, 1), (78, -1)]), (15, [(5, -1)]), (-1, [(12, -1), (13, 1)]), (1, [(2, 2), (70, -1)]), (0, [(2, -2), (70, 1)])])]
def hs_sa28_h : List mz_H := [(0, 0, []), (0, 0, []), (0, 0, []), (0, 0, []), (0, 0, []), (0, 0, []), (0, 0, []), (0, 0, []), (0, 0, []), (0, 0, []), (0, 0, []), (0, 0, []), (0, 0, []), (0, 0, []), (0, 0, []), (0, 0, []), (0, 0, []), (0, 0, []), (0, 0, []), (0, 0, []), (0, 0, []), (0, 0, [(3, 2)]), (0, 0, [(4, 2)]), (1023, 0, []), (0, 7, [(0, 1), (29, 1)]), (0, 7, [(1, 1), (4, 1), (6, 1)]), (1, 1, []), (0, 0, [(0, 1)]), (0, 0, [(1, 1)]), (0, 0, [(15, 2)]), (0, 0, []), (0, 0, [(0, 1), (15, 2)]), (0, 0, [(1, 1), (16, 2)]), (0, 0, []), (0, 0, [(37, 1)]), (0, 0, [(38, 1)]), (0, 0, [(37, 1)]), (0, 0, [(12, 1), (40, 1)]), (29, 0, []), (0, 0, []), (0, 0, []), (0, 0, []), (0, 0, []), (0, 0, []), (0, 0, []), (0, 0, []), (0, 0, []), (0, 0, []), (0, 0, []), (0, 0, []), (0, 0, []), (0, 0, []), (0, 0, [(13, 1)]), (0, 0, [(12, 1)]), (0, 0, [(1, 1)]), (0, 0, [(0, 1)])]
set_option maxRecDepth 100000 in
theorem hs_sa28_c : mz_blk mz_GG mq_PP mz_Cs hs_sa28_q 7 1 10 hs_sa28_s [] 52 hs_sa28_h = true := by decide +kernel
theorem hs_sa28 {X : (Nat → mq_C) → Prop} (hX : ∀ M M' : Nat → mq_C, mz_same mz_GG M M' → X M → X M') (hC : ∀ c ∈ mz_Cs, c.2 < 1 → mz_Ct mz_GG mq_PP X c.1 c.2) {d z u : Nat} {M : Nat → mq_C} {Q : (Option Value ⊕ Nat) → mq_S → Prop} {x2 : Int32} {x3 : Int32} {x4 : Int32} {x5 : Int32} {o6 : Option Value} (hd : 1 ≤ d) (hz : 272 ≤ z) (hm : mz_sh mz_GG M) (hx : X M) (h0 : mq_nl o6 = true) (p0 : 0 ≤ 8 * hv M 9 2 - hv M 9 4) (p1 : 0 ≤ x2.toInt) (p2 : 0 ≤ 40000 - x2.toInt) (p3 : 0 ≤ (-1) + x5.toInt) (p4 : 0 ≤ 16 - x5.toInt)
    (k0 : ∀ (M' : Nat → mq_C) (y2 : Int32) (w6 : Option Value), mz_sh mz_GG M' → X M' → mz_fr hs_sa28_q M M' → (∀ a, a < 8 → M' a = M a) → hb_same mz_GG hs_sa28_q M M' → mq_nl w6 = true → hv M' 9 3 = 1 + hv M 9 3 → hv M' 9 5 = hv M 9 5 → 0 ≤ 15 - x5.toInt → 0 ≤ (-1) - hv M 9 3 + hv M 9 4 → 0 ≤ 1 + 2 * x2.toInt - y2.toInt → 0 ≤ 0 - 2 * x2.toInt + y2.toInt → mq_R mq_PP d 100 70 [some (.ref 9), some (.ref 28), some (.int y2), some (.int x3), some (.int x4), some (.int x5), w6] [.int x5, .ref 29] (M', z, u) Q)
    (w0 : ∀ (M' : Nat → mq_C) (r : Int32), mz_sh mz_GG M' → X M' → mz_fr hs_sa28_q M M' → (∀ a, a < 8 → M' a = M a) → hb_same mz_GG hs_sa28_q M M' → 0 ≤ r.toInt → 0 ≤ 0 - r.toInt → 0 ≤ 0 - hv M 9 3 + hv M' 9 3 → 0 ≤ (-1) + hv M' 9 5 → 0 ≤ 1 - hv M' 9 5 → Q (.inl (some (.int r))) (M', z, u)) : mq_R mq_PP d 100 10 [some (.ref 9), some (.ref 28), some (.int x2), some (.int x3), some (.int x4), some (.int x5), o6] [] (M, z, u) Q := by
  refine hb_blk mz_GG mq_PP X (q := hs_sa28_q) (nl := 7) (M := M) hb_okG hX hC hs_sa28_c hz hd (L := [some (.ref 9), some (.ref 28), some (.int x2), some (.int x3), some (.int x4), some (.int x5), o6]) (st := []) (show hb_lk mz_GG ([(1, 9), (1, 28), (0, 0), (0, 0), (0, 0), (0, 0), (3, 0)]) _ from ⟨⟨List.mem_singleton.mpr rfl, rfl⟩, ⟨List.mem_singleton.mpr rfl, rfl⟩, trivial, trivial, trivial, trivial, h0, trivial⟩) (show hb_pk mz_GG ([]) _ from trivial) hm hx ?_ ?_ ?_
  · exact hb_cons (show 0 ≤ mz_ev _ _ from (show 0 ≤ 0 + (8 * hv M 9 2 + ((-1) * hv M 9 4 + 0)) by omega)) (hb_cons (show 0 ≤ mz_ev _ _ from (show 0 ≤ 0 + (1 * x2.toInt + 0) by omega)) (hb_cons (show 0 ≤ mz_ev _ _ from (show 0 ≤ 40000 + ((-1) * x2.toInt + 0) by omega)) (hb_cons (show 0 ≤ mz_ev _ _ from (show 0 ≤ -1 + (1 * x5.toInt + 0) by omega)) (hb_cons (show 0 ≤ mz_ev _ _ from (show 0 ≤ 16 + ((-1) * x5.toInt + 0) by omega)) (hb_nil)))))
  · intro s hs
    rcases List.mem_cons.mp hs with rfl | hs
    · intro ρ1 L' st' M' g1 g2 gm gr gf gs gx gw g8 ge
      obtain ⟨e0, L1, rfl, n0, gg0⟩ := hb_l1 mz_GG g1
      obtain rfl : e0 = 9 := List.mem_singleton.mp n0
      obtain ⟨e1, L1, rfl, n1, gg1⟩ := hb_l1 mz_GG gg0
      obtain rfl : e1 = 28 := List.mem_singleton.mp n1
      obtain ⟨y2, L1, rfl, qr70, gg2⟩ := hb_l0 mz_GG gg1
      have r70 : ρ1 70 = y2.toInt := qr70
      obtain ⟨y3, L1, rfl, qr71, gg3⟩ := hb_l0 mz_GG gg2
      have r71 : ρ1 71 = y3.toInt := qr71
      obtain ⟨y4, L1, rfl, qr72, gg4⟩ := hb_l0 mz_GG gg3
      have r72 : ρ1 72 = y4.toInt := qr72
      obtain ⟨y5, L1, rfl, qr73, gg5⟩ := hb_l0 mz_GG gg4
      have r73 : ρ1 73 = y5.toInt := qr73
      obtain ⟨w6, L1, rfl, n6, gg6⟩ := hb_l3 mz_GG gg5
      obtain ⟨y7, s1, rfl, qr75, gg7⟩ := hb_p0 mz_GG g2
      have r75 : ρ1 75 = y7.toInt := qr75
      obtain ⟨e8, s1, rfl, n8, gg8⟩ := hb_p1 mz_GG gg7
      obtain rfl : e8 = 29 := List.mem_singleton.mp n8
      obtain rfl := hb_ln mz_GG gg6
      obtain rfl := hb_pn mz_GG gg8
      have r2 : ρ1 2 = x2.toInt := gr 2 (by decide +kernel)
      have r3 : ρ1 3 = x3.toInt := gr 3 (by decide +kernel)
      have r4 : ρ1 4 = x4.toInt := gr 4 (by decide +kernel)
      have r5 : ρ1 5 = x5.toInt := gr 5 (by decide +kernel)
      have r12 : ρ1 12 = hv M 9 3 := gr 12 (by decide +kernel)
      have r13 : ρ1 13 = hv M 9 4 := gr 13 (by decide +kernel)
      have r14 : ρ1 14 = hv M 9 5 := gr 14 (by decide +kernel)
      have r77 : ρ1 77 = hv M' 9 3 := gm 0 5 (9, 3) rfl rfl
      have r78 : ρ1 78 = hv M' 9 5 := gm 1 7 (9, 5) rfl rfl
      obtain ⟨f0, gf⟩ := hb_unc gf
      have f0 : 0 ≤ 0 + ((-1) * ρ1 3 + (1 * ρ1 71 + 0)) := f0
      rw [r3, r71] at f0
      obtain ⟨f1, gf⟩ := hb_unc gf
      have f1 : 0 ≤ 0 + (1 * ρ1 3 + ((-1) * ρ1 71 + 0)) := f1
      rw [r3, r71] at f1
      obtain ⟨f2, gf⟩ := hb_unc gf
      have f2 : 0 ≤ 0 + ((-1) * ρ1 4 + (1 * ρ1 72 + 0)) := f2
      rw [r4, r72] at f2
      obtain ⟨f3, gf⟩ := hb_unc gf
      have f3 : 0 ≤ 0 + (1 * ρ1 4 + ((-1) * ρ1 72 + 0)) := f3
      rw [r4, r72] at f3
      obtain ⟨f4, gf⟩ := hb_unc gf
      have f4 : 0 ≤ 0 + ((-1) * ρ1 5 + (1 * ρ1 73 + 0)) := f4
      rw [r5, r73] at f4
      obtain ⟨f5, gf⟩ := hb_unc gf
      have f5 : 0 ≤ 0 + (1 * ρ1 5 + ((-1) * ρ1 73 + 0)) := f5
      rw [r5, r73] at f5
      obtain ⟨f6, gf⟩ := hb_unc gf
      have f6 : 0 ≤ 0 + ((-1) * ρ1 5 + (1 * ρ1 75 + 0)) := f6
      rw [r5, r75] at f6
      obtain ⟨f7, gf⟩ := hb_unc gf
      have f7 : 0 ≤ 0 + (1 * ρ1 5 + ((-1) * ρ1 75 + 0)) := f7
      rw [r5, r75] at f7
      obtain ⟨f8, gf⟩ := hb_unc gf
      have f8 : 0 ≤ -1 + ((-1) * ρ1 12 + (1 * ρ1 77 + 0)) := f8
      rw [r12, r77] at f8
      obtain ⟨f9, gf⟩ := hb_unc gf
      have f9 : 0 ≤ 1 + (1 * ρ1 12 + ((-1) * ρ1 77 + 0)) := f9
      rw [r12, r77] at f9
      obtain ⟨f10, gf⟩ := hb_unc gf
      have f10 : 0 ≤ 0 + ((-1) * ρ1 14 + (1 * ρ1 78 + 0)) := f10
      rw [r14, r78] at f10
      obtain ⟨f11, gf⟩ := hb_unc gf
      have f11 : 0 ≤ 0 + (1 * ρ1 14 + ((-1) * ρ1 78 + 0)) := f11
      rw [r14, r78] at f11
      obtain ⟨f12, gf⟩ := hb_unc gf
      have f12 : 0 ≤ 15 + ((-1) * ρ1 5 + 0) := f12
      rw [r5] at f12
      obtain ⟨f13, gf⟩ := hb_unc gf
      have f13 : 0 ≤ -1 + ((-1) * ρ1 12 + (1 * ρ1 13 + 0)) := f13
      rw [r12, r13] at f13
      obtain ⟨f14, gf⟩ := hb_unc gf
      have f14 : 0 ≤ 1 + (2 * ρ1 2 + ((-1) * ρ1 70 + 0)) := f14
      rw [r2, r70] at f14
      obtain ⟨f15, gf⟩ := hb_unc gf
      have f15 : 0 ≤ 0 + ((-2) * ρ1 2 + (1 * ρ1 70 + 0)) := f15
      rw [r2, r70] at f15
      have hy3 : y3 = x3 := hb_inj f0 f1
      subst y3
      have hy4 : y4 = x4 := hb_inj f2 f3
      subst y4
      have hy5 : y5 = x5 := hb_inj f4 f5
      subst y5
      have hy7 : y7 = x5 := hb_inj f6 f7
      subst y7
      exact k0 M' y2 w6 gs gx gw g8 ge n6 (by have h1 := f8; have h2 := f9; omega) (by have h1 := f10; have h2 := f11; omega) (by have h1 := f12; omega) (by have h1 := f13; omega) (by have h1 := f14; omega) (by have h1 := f15; omega)
    cases hs
  · intro r S hpo
    obtain ⟨b1, b2, b3, b4, b5, p, hp, res, hf, hre⟩ := hpo
    rcases List.mem_cons.mp hp with rfl | hp
    · obtain ⟨x, rfl, hr, hz1, hu1⟩ := mz_re_0 mz_GG hre rfl
      obtain ⟨M', z', u'⟩ := S
      cases hz1
      cases hu1
      have r12 : hb_r1 mz_GG hs_sa28_q (hb_rb mz_GG hs_sa28_q 7 [some (.ref 9), some (.ref 28), some (.int x2), some (.int x3), some (.int x4), some (.int x5), o6] [] M) M' res 12 = hv M 9 3 := rfl
      have r68 : hb_r1 mz_GG hs_sa28_q (hb_rb mz_GG hs_sa28_q 7 [some (.ref 9), some (.ref 28), some (.int x2), some (.int x3), some (.int x4), some (.int x5), o6] [] M) M' res 68 = hv M' 9 3 := rfl
      have r69 : hb_r1 mz_GG hs_sa28_q (hb_rb mz_GG hs_sa28_q 7 [some (.ref 9), some (.ref 28), some (.int x2), some (.int x3), some (.int x4), some (.int x5), o6] [] M) M' res 69 = hv M' 9 5 := rfl
      have r70 : hb_r1 mz_GG hs_sa28_q (hb_rb mz_GG hs_sa28_q 7 [some (.ref 9), some (.ref 28), some (.int x2), some (.int x3), some (.int x4), some (.int x5), o6] [] M) M' res 70 = res := rfl
      obtain ⟨f0, hf⟩ := hb_unc hf
      have f0 : 0 ≤ 0 + (1 * res + 0) := f0
      rw [← hr] at f0
      obtain ⟨f1, hf⟩ := hb_unc hf
      have f1 : 0 ≤ 0 + ((-1) * res + 0) := f1
      rw [← hr] at f1
      obtain ⟨f2, hf⟩ := hb_unc hf
      have f2 : 0 ≤ 0 + ((-1) * hv M 9 3 + (1 * hv M' 9 3 + 0)) := f2
      obtain ⟨f3, hf⟩ := hb_unc hf
      have f3 : 0 ≤ -1 + (1 * hv M' 9 5 + 0) := f3
      obtain ⟨f4, hf⟩ := hb_unc hf
      have f4 : 0 ≤ 1 + ((-1) * hv M' 9 5 + 0) := f4
      exact w0 M' x b1 b2 b3 b4 b5 (by have h1 := f0; omega) (by have h1 := f1; omega) (by have h1 := f2; omega) (by have h1 := f3; omega) (by have h1 := f4; omega)
    cases hp

def hs_sb28_q : mz_Q := (100, [(1, 9), (1, 28), (0, 0), (0, 0), (0, 0), (0, 0), (3, 0), (0, 0)], [(0, [(2, 1)]), (90000, [(2, -1)]), (0, [(3, 1)]), (0, [(2, 1), (3, -1)]), (0, [(4, 1)]), (0, [(7, 1)]), (32, [(4, -1), (7, -1)]), (-1, [(5, 1)]), (15, [(5, -1)])], [5, 7], [(0, 0, [(0, [(71, 1)]), (287, [(71, -1)]), (0, [(13, -1), (69, 1)]), (0, [(13, 1), (69, -1)]), (0, [(15, -1), (70, 1)]), (0, [(15, 1), (70, -1)])])], [])
def hs_sb28_s : List mz_Sp2 := [(10, [(1, 9), (1, 28), (0, 0), (0, 0), (0, 0), (0, 0), (0, 0)], [], [(0, [(2, -1), (71, 1)]), (0, [(2, 1), (71, -1)]), (0, [(3, -2), (7, -2), (72, 1)]), (0, [(3, 2), (7, 2), (72, -1)]), (0, [(4, -1), (7, -1), (73, 1)]), (0, [(4, 1), (7, 1), (73, -1)]), (-1, [(5, -1), (74, 1)]), (1, [(5, 1), (74, -1)]), (0, [(7, -1), (75, 1)]), (0, [(7, 1), (75, -1)]), (0, [(13, -1), (76, 1)]), (0, [(13, 1), (76, -1)]), (0, [(15, -1), (77, 1)]), (0, [(15, 1), (77, -1)]), (0, [(2, 1), (3, -1), (7, -1)])])]
def hs_sb28_h : List mz_H := [(0, 0, []), (0, 0, [(3, 1)]), (0, 0, [(1, 1), (2, 1)]), (0, 0, []), (0, 0, []), (0, 0, []), (0, 0, [(5, 1), (6, 1)]), (0, 0, [(7, 1)]), (0, 0, []), (0, 0, [(3, 1), (6, 1)]), (0, 0, [(0, 1), (2, 1)]), (0, 0, []), (0, 0, [(3, 2), (6, 2)]), (0, 0, [(0, 2), (2, 2)]), (0, 0, []), (0, 0, [(8, 1)]), (0, 0, [(9, 1)]), (0, 0, []), (0, 0, []), (0, 0, []), (0, 0, []), (0, 0, []), (0, 0, []), (0, 0, []), (0, 0, []), (0, 0, []), (0, 0, []), (0, 0, []), (0, 0, []), (0, 0, []), (0, 0, []), (0, 0, []), (0, 0, [(0, 1)]), (31, 0, []), (0, 0, []), (0, 0, [(1, 1), (5, 1)]), (0, 0, [(0, 1), (2, 1), (4, 1), (7, 1)]), (0, 0, []), (0, 0, [(4, 1), (5, 1)]), (0, 0, [(0, 1), (7, 1)]), (0, 0, [(4, 1), (5, 1)]), (0, 0, [(0, 1), (7, 1)]), (0, 0, []), (0, 0, [(0, 1)]), (0, 0, [(1, 1)]), (0, 0, []), (0, 0, []), (0, 0, []), (0, 0, [])]
set_option maxRecDepth 100000 in
theorem hs_sb28_c : mz_blk mz_GG mq_PP mz_Cs hs_sb28_q 7 1 71 hs_sb28_s [] 33 hs_sb28_h = true := by decide +kernel
theorem hs_sb28 {X : (Nat → mq_C) → Prop} (hX : ∀ M M' : Nat → mq_C, mz_same mz_GG M M' → X M → X M') (hC : ∀ c ∈ mz_Cs, c.2 < 1 → mz_Ct mz_GG mq_PP X c.1 c.2) {d z u : Nat} {M : Nat → mq_C} {Q : (Option Value ⊕ Nat) → mq_S → Prop} {x2 : Int32} {x3 : Int32} {x4 : Int32} {x5 : Int32} {o6 : Option Value} {x7 : Int32} (hd : 1 ≤ d) (hz : 272 ≤ z) (hm : mz_sh mz_GG M) (hx : X M) (h0 : mq_nl o6 = true) (p0 : 0 ≤ x2.toInt) (p1 : 0 ≤ 90000 - x2.toInt) (p2 : 0 ≤ x3.toInt) (p3 : 0 ≤ x2.toInt - x3.toInt) (p4 : 0 ≤ x4.toInt) (p5 : 0 ≤ x7.toInt) (p6 : 0 ≤ 32 - x4.toInt - x7.toInt) (p7 : 0 ≤ (-1) + x5.toInt) (p8 : 0 ≤ 15 - x5.toInt)
    (k0 : ∀ (M' : Nat → mq_C) (y3 : Int32) (y4 : Int32) (y5 : Int32), mz_sh mz_GG M' → X M' → mz_fr hs_sb28_q M M' → (∀ a, a < 8 → M' a = M a) → hb_same mz_GG hs_sb28_q M M' → y3.toInt = 2 * x3.toInt + 2 * x7.toInt → y4.toInt = x4.toInt + x7.toInt → y5.toInt = 1 + x5.toInt → hv M' 9 3 = hv M 9 3 → hv M' 9 5 = hv M 9 5 → 0 ≤ x2.toInt - x3.toInt - x7.toInt → mq_R mq_PP d 100 10 [some (.ref 9), some (.ref 28), some (.int x2), some (.int y3), some (.int y4), some (.int y5), some (.int x7)] [] (M', z, u) Q)
    (w0 : ∀ (M' : Nat → mq_C) (r : Int32), mz_sh mz_GG M' → X M' → mz_fr hs_sb28_q M M' → (∀ a, a < 8 → M' a = M a) → hb_same mz_GG hs_sb28_q M M' → 0 ≤ r.toInt → 0 ≤ 287 - r.toInt → 0 ≤ 0 - hv M 9 3 + hv M' 9 3 → 0 ≤ hv M 9 3 - hv M' 9 3 → 0 ≤ 0 - hv M 9 5 + hv M' 9 5 → 0 ≤ hv M 9 5 - hv M' 9 5 → Q (.inl (some (.int r))) (M', z, u)) : mq_R mq_PP d 100 71 [some (.ref 9), some (.ref 28), some (.int x2), some (.int x3), some (.int x4), some (.int x5), o6] [.int x7] (M, z, u) Q := by
  refine hb_blk mz_GG mq_PP X (q := hs_sb28_q) (nl := 7) (M := M) hb_okG hX hC hs_sb28_c hz hd (L := [some (.ref 9), some (.ref 28), some (.int x2), some (.int x3), some (.int x4), some (.int x5), o6]) (st := [.int x7]) (show hb_lk mz_GG ([(1, 9), (1, 28), (0, 0), (0, 0), (0, 0), (0, 0), (3, 0)]) _ from ⟨⟨List.mem_singleton.mpr rfl, rfl⟩, ⟨List.mem_singleton.mpr rfl, rfl⟩, trivial, trivial, trivial, trivial, h0, trivial⟩) (show hb_pk mz_GG ([(0, 0)]) _ from ⟨trivial, trivial⟩) hm hx ?_ ?_ ?_
  · exact hb_cons (show 0 ≤ mz_ev _ _ from (show 0 ≤ 0 + (1 * x2.toInt + 0) by omega)) (hb_cons (show 0 ≤ mz_ev _ _ from (show 0 ≤ 90000 + ((-1) * x2.toInt + 0) by omega)) (hb_cons (show 0 ≤ mz_ev _ _ from (show 0 ≤ 0 + (1 * x3.toInt + 0) by omega)) (hb_cons (show 0 ≤ mz_ev _ _ from (show 0 ≤ 0 + (1 * x2.toInt + ((-1) * x3.toInt + 0)) by omega)) (hb_cons (show 0 ≤ mz_ev _ _ from (show 0 ≤ 0 + (1 * x4.toInt + 0) by omega)) (hb_cons (show 0 ≤ mz_ev _ _ from (show 0 ≤ 0 + (1 * x7.toInt + 0) by omega)) (hb_cons (show 0 ≤ mz_ev _ _ from (show 0 ≤ 32 + ((-1) * x4.toInt + ((-1) * x7.toInt + 0)) by omega)) (hb_cons (show 0 ≤ mz_ev _ _ from (show 0 ≤ -1 + (1 * x5.toInt + 0) by omega)) (hb_cons (show 0 ≤ mz_ev _ _ from (show 0 ≤ 15 + ((-1) * x5.toInt + 0) by omega)) (hb_nil)))))))))
  · intro s hs
    rcases List.mem_cons.mp hs with rfl | hs
    · intro ρ1 L' st' M' g1 g2 gm gr gf gs gx gw g8 ge
      obtain ⟨e0, L1, rfl, n0, gg0⟩ := hb_l1 mz_GG g1
      obtain rfl : e0 = 9 := List.mem_singleton.mp n0
      obtain ⟨e1, L1, rfl, n1, gg1⟩ := hb_l1 mz_GG gg0
      obtain rfl : e1 = 28 := List.mem_singleton.mp n1
      obtain ⟨y2, L1, rfl, qr71, gg2⟩ := hb_l0 mz_GG gg1
      have r71 : ρ1 71 = y2.toInt := qr71
      obtain ⟨y3, L1, rfl, qr72, gg3⟩ := hb_l0 mz_GG gg2
      have r72 : ρ1 72 = y3.toInt := qr72
      obtain ⟨y4, L1, rfl, qr73, gg4⟩ := hb_l0 mz_GG gg3
      have r73 : ρ1 73 = y4.toInt := qr73
      obtain ⟨y5, L1, rfl, qr74, gg5⟩ := hb_l0 mz_GG gg4
      have r74 : ρ1 74 = y5.toInt := qr74
      obtain ⟨y6, L1, rfl, qr75, gg6⟩ := hb_l0 mz_GG gg5
      have r75 : ρ1 75 = y6.toInt := qr75
      obtain rfl := hb_ln mz_GG gg6
      obtain rfl := hb_pn mz_GG g2
      have r2 : ρ1 2 = x2.toInt := gr 2 (by decide +kernel)
      have r3 : ρ1 3 = x3.toInt := gr 3 (by decide +kernel)
      have r4 : ρ1 4 = x4.toInt := gr 4 (by decide +kernel)
      have r5 : ρ1 5 = x5.toInt := gr 5 (by decide +kernel)
      have r7 : ρ1 7 = x7.toInt := gr 7 (by decide +kernel)
      have r13 : ρ1 13 = hv M 9 3 := gr 13 (by decide +kernel)
      have r15 : ρ1 15 = hv M 9 5 := gr 15 (by decide +kernel)
      have r76 : ρ1 76 = hv M' 9 3 := gm 0 5 (9, 3) rfl rfl
      have r77 : ρ1 77 = hv M' 9 5 := gm 1 7 (9, 5) rfl rfl
      obtain ⟨f0, gf⟩ := hb_unc gf
      have f0 : 0 ≤ 0 + ((-1) * ρ1 2 + (1 * ρ1 71 + 0)) := f0
      rw [r2, r71] at f0
      obtain ⟨f1, gf⟩ := hb_unc gf
      have f1 : 0 ≤ 0 + (1 * ρ1 2 + ((-1) * ρ1 71 + 0)) := f1
      rw [r2, r71] at f1
      obtain ⟨f2, gf⟩ := hb_unc gf
      have f2 : 0 ≤ 0 + ((-2) * ρ1 3 + ((-2) * ρ1 7 + (1 * ρ1 72 + 0))) := f2
      rw [r3, r7, r72] at f2
      obtain ⟨f3, gf⟩ := hb_unc gf
      have f3 : 0 ≤ 0 + (2 * ρ1 3 + (2 * ρ1 7 + ((-1) * ρ1 72 + 0))) := f3
      rw [r3, r7, r72] at f3
      obtain ⟨f4, gf⟩ := hb_unc gf
      have f4 : 0 ≤ 0 + ((-1) * ρ1 4 + ((-1) * ρ1 7 + (1 * ρ1 73 + 0))) := f4
      rw [r4, r7, r73] at f4
      obtain ⟨f5, gf⟩ := hb_unc gf
      have f5 : 0 ≤ 0 + (1 * ρ1 4 + (1 * ρ1 7 + ((-1) * ρ1 73 + 0))) := f5
      rw [r4, r7, r73] at f5
      obtain ⟨f6, gf⟩ := hb_unc gf
      have f6 : 0 ≤ -1 + ((-1) * ρ1 5 + (1 * ρ1 74 + 0)) := f6
      rw [r5, r74] at f6
      obtain ⟨f7, gf⟩ := hb_unc gf
      have f7 : 0 ≤ 1 + (1 * ρ1 5 + ((-1) * ρ1 74 + 0)) := f7
      rw [r5, r74] at f7
      obtain ⟨f8, gf⟩ := hb_unc gf
      have f8 : 0 ≤ 0 + ((-1) * ρ1 7 + (1 * ρ1 75 + 0)) := f8
      rw [r7, r75] at f8
      obtain ⟨f9, gf⟩ := hb_unc gf
      have f9 : 0 ≤ 0 + (1 * ρ1 7 + ((-1) * ρ1 75 + 0)) := f9
      rw [r7, r75] at f9
      obtain ⟨f10, gf⟩ := hb_unc gf
      have f10 : 0 ≤ 0 + ((-1) * ρ1 13 + (1 * ρ1 76 + 0)) := f10
      rw [r13, r76] at f10
      obtain ⟨f11, gf⟩ := hb_unc gf
      have f11 : 0 ≤ 0 + (1 * ρ1 13 + ((-1) * ρ1 76 + 0)) := f11
      rw [r13, r76] at f11
      obtain ⟨f12, gf⟩ := hb_unc gf
      have f12 : 0 ≤ 0 + ((-1) * ρ1 15 + (1 * ρ1 77 + 0)) := f12
      rw [r15, r77] at f12
      obtain ⟨f13, gf⟩ := hb_unc gf
      have f13 : 0 ≤ 0 + (1 * ρ1 15 + ((-1) * ρ1 77 + 0)) := f13
      rw [r15, r77] at f13
      obtain ⟨f14, gf⟩ := hb_unc gf
      have f14 : 0 ≤ 0 + (1 * ρ1 2 + ((-1) * ρ1 3 + ((-1) * ρ1 7 + 0))) := f14
      rw [r2, r3, r7] at f14
      have hy2 : y2 = x2 := hb_inj f0 f1
      subst y2
      have hy6 : y6 = x7 := hb_inj f8 f9
      subst y6
      exact k0 M' y3 y4 y5 gs gx gw g8 ge  (by have h1 := f2; have h2 := f3; omega) (by have h1 := f4; have h2 := f5; omega) (by have h1 := f6; have h2 := f7; omega) (by have h1 := f10; have h2 := f11; omega) (by have h1 := f12; have h2 := f13; omega) (by have h1 := f14; omega)
    cases hs
  · intro r S hpo
    obtain ⟨b1, b2, b3, b4, b5, p, hp, res, hf, hre⟩ := hpo
    rcases List.mem_cons.mp hp with rfl | hp
    · obtain ⟨x, rfl, hr, hz1, hu1⟩ := mz_re_0 mz_GG hre rfl
      obtain ⟨M', z', u'⟩ := S
      cases hz1
      cases hu1
      have r13 : hb_r1 mz_GG hs_sb28_q (hb_rb mz_GG hs_sb28_q 7 [some (.ref 9), some (.ref 28), some (.int x2), some (.int x3), some (.int x4), some (.int x5), o6] [.int x7] M) M' res 13 = hv M 9 3 := rfl
      have r15 : hb_r1 mz_GG hs_sb28_q (hb_rb mz_GG hs_sb28_q 7 [some (.ref 9), some (.ref 28), some (.int x2), some (.int x3), some (.int x4), some (.int x5), o6] [.int x7] M) M' res 15 = hv M 9 5 := rfl
      have r69 : hb_r1 mz_GG hs_sb28_q (hb_rb mz_GG hs_sb28_q 7 [some (.ref 9), some (.ref 28), some (.int x2), some (.int x3), some (.int x4), some (.int x5), o6] [.int x7] M) M' res 69 = hv M' 9 3 := rfl
      have r70 : hb_r1 mz_GG hs_sb28_q (hb_rb mz_GG hs_sb28_q 7 [some (.ref 9), some (.ref 28), some (.int x2), some (.int x3), some (.int x4), some (.int x5), o6] [.int x7] M) M' res 70 = hv M' 9 5 := rfl
      have r71 : hb_r1 mz_GG hs_sb28_q (hb_rb mz_GG hs_sb28_q 7 [some (.ref 9), some (.ref 28), some (.int x2), some (.int x3), some (.int x4), some (.int x5), o6] [.int x7] M) M' res 71 = res := rfl
      obtain ⟨f0, hf⟩ := hb_unc hf
      have f0 : 0 ≤ 0 + (1 * res + 0) := f0
      rw [← hr] at f0
      obtain ⟨f1, hf⟩ := hb_unc hf
      have f1 : 0 ≤ 287 + ((-1) * res + 0) := f1
      rw [← hr] at f1
      obtain ⟨f2, hf⟩ := hb_unc hf
      have f2 : 0 ≤ 0 + ((-1) * hv M 9 3 + (1 * hv M' 9 3 + 0)) := f2
      obtain ⟨f3, hf⟩ := hb_unc hf
      have f3 : 0 ≤ 0 + (1 * hv M 9 3 + ((-1) * hv M' 9 3 + 0)) := f3
      obtain ⟨f4, hf⟩ := hb_unc hf
      have f4 : 0 ≤ 0 + ((-1) * hv M 9 5 + (1 * hv M' 9 5 + 0)) := f4
      obtain ⟨f5, hf⟩ := hb_unc hf
      have f5 : 0 ≤ 0 + (1 * hv M 9 5 + ((-1) * hv M' 9 5 + 0)) := f5
      exact w0 M' x b1 b2 b3 b4 b5 (by have h1 := f0; omega) (by have h1 := f1; omega) (by have h1 := f2; omega) (by have h1 := f3; omega) (by have h1 := f4; omega) (by have h1 := f5; omega)
    cases hp

theorem hs_sl28 {d z u : Nat} {Q : (Option Value ⊕ Nat) → mq_S → Prop} {M0 : Nat → mq_C} (hd : 1 ≤ d) (hz : 272 ≤ z)
    (hQ1 : ∀ (M' : Nat → mq_C) (r : Int32), mz_sh mz_GG M' → HX M' → mz_fr mz_q23 M0 M' → (∀ a, a < 8 → M' a = M0 a) → hb_same mz_GG mz_q23 M0 M' → 0 ≤ r.toInt → 0 ≤ 287 - r.toInt → 0 ≤ (-1) - hv M0 9 3 + hv M' 9 3 → hv M' 9 5 = hv M0 9 5 → Q (.inl (some (.int r))) (M', z, u))
    (hQ2 : ∀ (M' : Nat → mq_C) (r : Int32), mz_sh mz_GG M' → HX M' → mz_fr mz_q23 M0 M' → (∀ a, a < 8 → M' a = M0 a) → hb_same mz_GG mz_q23 M0 M' → r.toInt = 0 → 0 ≤ 0 - hv M0 9 3 + hv M' 9 3 → hv M' 9 5 = 1 → Q (.inl (some (.int r))) (M', z, u)) :
    ∀ (m : Nat) (M : Nat → mq_C) (x2 x3 x4 x5 : Int32) (o6 : Option Value), (m : Int) + x5.toInt = 16 → 1 ≤ x5.toInt → mz_sh mz_GG M → HX M → mz_fr mz_q23 M0 M → (∀ a, a < 8 → M a = M0 a) → hb_same mz_GG mz_q23 M0 M → hv M0 9 3 ≤ hv M 9 3 → hv M 9 5 = hv M0 9 5 → mq_nl o6 = true → 0 ≤ 8 * hv M 9 2 - hv M 9 4 → 0 ≤ x3.toInt → x3.toInt ≤ 2 * x2.toInt → x2.toInt + 1 ≤ ((2 ^ (x5.toInt.toNat - 1) : Nat) : Int) → x4.toInt = hb_sum (fun b => hv M (28 + 1) (b + 1)) (x5.toInt.toNat - 1) → mq_R mq_PP d 100 10 [some (.ref 9), some (.ref 28), some (.int x2), some (.int x3), some (.int x4), some (.int x5), o6] [] (M, z, u) Q := by
  intro m
  induction m with
  | zero =>
    intro M x2 x3 x4 x5 o6 e1 e2 hm hx hf h8 he a1 a2 ho hp b1 b2 b3 b4
    have hpw : 2 ^ (x5.toInt.toNat - 1) ≤ 2 ^ 15 := Nat.pow_le_pow_right (by omega) (by omega)
    refine hs_sa28 HX_same hb_C1 hd hz hm hx ho hp (by omega) (by omega) (by omega) (by omega) ?_ ?_
    · intro M' y2 w6 gs gx gw g8 ge hw f1 f2 f3 f4 f5 f6
      omega
    · intro M' r gs gx gw g8 ge f1 f2 f3 f4 f5
      refine hQ2 M' r gs gx (hb_fr_t (q' := hs_sa28_q) (fun a ha => ha) hf gw) (fun a ha => (g8 a ha).trans (h8 a ha)) (hb_same_t (q' := hs_sa28_q) (fun j hj => hj) he ge) (by omega) ?_ ?_
      · have h1 : 0 ≤ 0 - hv M 9 3 + hv M' 9 3 := f3
        omega
      · have h1 : 0 ≤ (-1) + hv M' 9 5 := f4
        have h2 : 0 ≤ 1 - hv M' 9 5 := f5
        omega
  | succ m ih =>
    intro M x2 x3 x4 x5 o6 e1 e2 hm hx hf h8 he a1 a2 ho hp b1 b2 b3 b4
    have hpw : 2 ^ (x5.toInt.toNat - 1) ≤ 2 ^ 14 := Nat.pow_le_pow_right (by omega) (by omega)
    refine hs_sa28 HX_same hb_C1 hd hz hm hx ho hp (by omega) (by omega) (by omega) (by omega) ?_ ?_
    · intro M' y2 w6 gs gx gw g8 ge hw f1 f2 f3 f4 f5 f6
      have g1 : hv M' 9 3 = 1 + hv M 9 3 := f1
      have g2 : hv M' 9 5 = hv M 9 5 := f2
      have hf' : mz_fr mz_q23 M0 M' := hb_fr_t (q' := hs_sa28_q) (fun a ha => ha) hf gw
      have he' : hb_same mz_GG mz_q23 M0 M' := hb_same_t (q' := hs_sa28_q) (fun j hj => hj) he ge
      have h8' : ∀ a, a < 8 → M' a = M0 a := fun a ha => (g8 a ha).trans (h8 a ha)
      have hp' : 0 ≤ 8 * hv M' 9 2 - hv M' 9 4 := by
        rw [show hv M' 9 2 = hv M 9 2 from ge 4 (9, 2) rfl rfl, show hv M' 9 4 = hv M 9 4 from ge 6 (9, 4) rfl rfl]
        exact hp
      have hcell : ∀ i, hv M' (28 + 1) i = hv M (28 + 1) i := hb_vc (gw _ (by decide) rfl)
      have hnn : ∀ i, i < 15 → 0 ≤ hv M' (28 + 1) (i + 1) := fun i hi => (hb_rg gs rfl (show i + 1 < 16 by omega) hb_at1).1
      have hX1 : hb_sum (fun b => hv M' (28 + 1) (b + 1)) 15 ≤ 32 := gx 4
      have b4' : x4.toInt = hb_sum (fun b => hv M' (28 + 1) (b + 1)) (x5.toInt.toNat - 1) := by
        rw [b4]
        exact hb_sum_c _ (fun i _ => (hcell _).symm)
      refine hb_ld (n := 71) (kind := 64) gs (by decide +kernel) rfl rfl (.inl rfl) (by omega) (show x5.toInt < 16 by omega) hb_at1 ?_
      intro v hv1 hv2 hv3
      have hsum : hb_sum (fun b => hv M' (28 + 1) (b + 1)) x5.toInt.toNat = x4.toInt + v.toInt := by
        rw [b4', ← hv1]
        obtain ⟨t, ht⟩ : ∃ t, x5.toInt.toNat = t + 1 := ⟨x5.toInt.toNat - 1, by omega⟩
        rw [ht]
        rfl
      have hle := hb_sum_m (f := fun b => hv M' (28 + 1) (b + 1)) (m := x5.toInt.toNat) 15 (by omega) hnn
      have hx40 := hb_sum_0 (f := fun b => hv M' (28 + 1) (b + 1)) (x5.toInt.toNat - 1) (fun i hi => hnn i (by omega))
      refine hs_sb28 HX_same hb_C1 hd hz gs gx hw (by omega) (by omega) (by omega) (by omega) (by omega) (by omega) (by omega) (by omega) (by omega) ?_ ?_
      · intro M2 y3 y4 y5 k1 k2 k3 k4 k5 l1 l2 l3 l4 l5 l6
        have q3 : hv M2 9 3 = hv M' 9 3 := l4
        have q5 : hv M2 9 5 = hv M' 9 5 := l5
        have hc2 : ∀ i, hv M2 (28 + 1) i = hv M' (28 + 1) i := hb_vc (k3 _ (by decide) rfl)
        refine ih M2 y2 y3 y4 y5 (some (.int v)) (by omega) (by omega) k1 k2 (hb_fr_t (q' := hs_sb28_q) (fun a ha => rfl) hf' k3) (fun a ha => (k4 a ha).trans (h8' a ha)) (hb_same_t (q' := hs_sb28_q) (fun j hj => hj) he' k5) (by omega) (by omega) rfl ?_ (by omega) (by omega) ?_ ?_
        · rw [show hv M2 9 2 = hv M' 9 2 from k5 4 (9, 2) rfl rfl, show hv M2 9 4 = hv M' 9 4 from k5 6 (9, 4) rfl rfl]
          exact hp'
        · have e9 : y5.toInt.toNat - 1 = x5.toInt.toNat - 1 + 1 := by omega
          rw [e9, Nat.pow_succ]
          omega
        · have e9 : y5.toInt.toNat - 1 = x5.toInt.toNat := by omega
          rw [e9, hb_sum_c _ (fun i _ => hc2 (i + 1)), hsum]
          exact l2
      · intro M2 r k1 k2 k3 k4 k5 l1 l2 l3 l4 l5 l6
        have q1 : 0 ≤ 0 - hv M' 9 3 + hv M2 9 3 := l3
        have q2 : 0 ≤ hv M' 9 3 - hv M2 9 3 := l4
        have q3 : 0 ≤ 0 - hv M' 9 5 + hv M2 9 5 := l5
        have q4 : 0 ≤ hv M' 9 5 - hv M2 9 5 := l6
        exact hQ1 M2 r k1 k2 (hb_fr_t (q' := hs_sb28_q) (fun a ha => rfl) hf' k3) (fun a ha => (k4 a ha).trans (h8' a ha)) (hb_same_t (q' := hs_sb28_q) (fun j hj => hj) he' k5) l1 (by omega) (by omega) (by omega)
    · intro M' r gs gx gw g8 ge f1 f2 f3 f4 f5
      refine hQ2 M' r gs gx (hb_fr_t (q' := hs_sa28_q) (fun a ha => ha) hf gw) (fun a ha => (g8 a ha).trans (h8 a ha)) (hb_same_t (q' := hs_sa28_q) (fun j hj => hj) he ge) (by omega) ?_ ?_
      · have h1 : 0 ≤ 0 - hv M 9 3 + hv M' 9 3 := f3
        omega
      · have h1 : 0 ≤ (-1) + hv M' 9 5 := f4
        have h2 : 0 ≤ 1 - hv M' 9 5 := f5
        omega
theorem hs_sign_P : hc_sign_P := by
  intro d z u M Q b1 hd hz hm hx hb hp k1 k2
  simp only [List.mem_cons, List.not_mem_nil, or_false] at hb
  rcases hb with rfl | rfl | rfl | rfl | rfl
  · refine hs_so12 HX_same hb_C1 hd hz hm hx rfl rfl rfl rfl rfl ?_
    intro M' y2 y3 y4 y5 w6 gs gx gw g8 ge hw f2 f3 f4 f5 f6 f7
    have q1 : hv M' 9 3 = hv M 9 3 := f6
    have q2 : hv M' 9 5 = hv M 9 5 := f7
    refine hs_sl12 (M0 := M) hd hz k1 k2 15 M' y2 y3 y4 y5 w6 (by omega) (by omega) gs gx (hb_fr_t (q' := hs_so12_q) (fun a ha => rfl) hb_fr_r gw) g8 (hb_same_t (q' := hs_so12_q) (fun j hj => hj) hb_same_r ge) (by omega) q2 hw ?_ (by omega) (by omega) ?_ ?_
    · rw [show hv M' 9 2 = hv M 9 2 from ge 4 (9, 2) rfl rfl, show hv M' 9 4 = hv M 9 4 from ge 6 (9, 4) rfl rfl]
      exact hp
    · rw [show y5.toInt.toNat - 1 = 0 by omega]
      omega
    · rw [show y5.toInt.toNat - 1 = 0 by omega]
      exact f4
  · refine hs_so16 HX_same hb_C1 hd hz hm hx rfl rfl rfl rfl rfl ?_
    intro M' y2 y3 y4 y5 w6 gs gx gw g8 ge hw f2 f3 f4 f5 f6 f7
    have q1 : hv M' 9 3 = hv M 9 3 := f6
    have q2 : hv M' 9 5 = hv M 9 5 := f7
    refine hs_sl16 (M0 := M) hd hz k1 k2 15 M' y2 y3 y4 y5 w6 (by omega) (by omega) gs gx (hb_fr_t (q' := hs_so16_q) (fun a ha => rfl) hb_fr_r gw) g8 (hb_same_t (q' := hs_so16_q) (fun j hj => hj) hb_same_r ge) (by omega) q2 hw ?_ (by omega) (by omega) ?_ ?_
    · rw [show hv M' 9 2 = hv M 9 2 from ge 4 (9, 2) rfl rfl, show hv M' 9 4 = hv M 9 4 from ge 6 (9, 4) rfl rfl]
      exact hp
    · rw [show y5.toInt.toNat - 1 = 0 by omega]
      omega
    · rw [show y5.toInt.toNat - 1 = 0 by omega]
      exact f4
  · refine hs_so20 HX_same hb_C1 hd hz hm hx rfl rfl rfl rfl rfl ?_
    intro M' y2 y3 y4 y5 w6 gs gx gw g8 ge hw f2 f3 f4 f5 f6 f7
    have q1 : hv M' 9 3 = hv M 9 3 := f6
    have q2 : hv M' 9 5 = hv M 9 5 := f7
    refine hs_sl20 (M0 := M) hd hz k1 k2 15 M' y2 y3 y4 y5 w6 (by omega) (by omega) gs gx (hb_fr_t (q' := hs_so20_q) (fun a ha => rfl) hb_fr_r gw) g8 (hb_same_t (q' := hs_so20_q) (fun j hj => hj) hb_same_r ge) (by omega) q2 hw ?_ (by omega) (by omega) ?_ ?_
    · rw [show hv M' 9 2 = hv M 9 2 from ge 4 (9, 2) rfl rfl, show hv M' 9 4 = hv M 9 4 from ge 6 (9, 4) rfl rfl]
      exact hp
    · rw [show y5.toInt.toNat - 1 = 0 by omega]
      omega
    · rw [show y5.toInt.toNat - 1 = 0 by omega]
      exact f4
  · refine hs_so24 HX_same hb_C1 hd hz hm hx rfl rfl rfl rfl rfl ?_
    intro M' y2 y3 y4 y5 w6 gs gx gw g8 ge hw f2 f3 f4 f5 f6 f7
    have q1 : hv M' 9 3 = hv M 9 3 := f6
    have q2 : hv M' 9 5 = hv M 9 5 := f7
    refine hs_sl24 (M0 := M) hd hz k1 k2 15 M' y2 y3 y4 y5 w6 (by omega) (by omega) gs gx (hb_fr_t (q' := hs_so24_q) (fun a ha => rfl) hb_fr_r gw) g8 (hb_same_t (q' := hs_so24_q) (fun j hj => hj) hb_same_r ge) (by omega) q2 hw ?_ (by omega) (by omega) ?_ ?_
    · rw [show hv M' 9 2 = hv M 9 2 from ge 4 (9, 2) rfl rfl, show hv M' 9 4 = hv M 9 4 from ge 6 (9, 4) rfl rfl]
      exact hp
    · rw [show y5.toInt.toNat - 1 = 0 by omega]
      omega
    · rw [show y5.toInt.toNat - 1 = 0 by omega]
      exact f4
  · refine hs_so28 HX_same hb_C1 hd hz hm hx rfl rfl rfl rfl rfl ?_
    intro M' y2 y3 y4 y5 w6 gs gx gw g8 ge hw f2 f3 f4 f5 f6 f7
    have q1 : hv M' 9 3 = hv M 9 3 := f6
    have q2 : hv M' 9 5 = hv M 9 5 := f7
    refine hs_sl28 (M0 := M) hd hz k1 k2 15 M' y2 y3 y4 y5 w6 (by omega) (by omega) gs gx (hb_fr_t (q' := hs_so28_q) (fun a ha => rfl) hb_fr_r gw) g8 (hb_same_t (q' := hs_so28_q) (fun j hj => hj) hb_same_r ge) (by omega) q2 hw ?_ (by omega) (by omega) ?_ ?_
    · rw [show hv M' 9 2 = hv M 9 2 from ge 4 (9, 2) rfl rfl, show hv M' 9 4 = hv M 9 4 from ge 6 (9, 4) rfl rfl]
      exact hp
    · rw [show y5.toInt.toNat - 1 = 0 by omega]
      omega
    · rw [show y5.toInt.toNat - 1 = 0 by omega]
      exact f4
theorem hs_sign : mz_Ct mz_GG mq_PP HX mz_q23 1 := hc_sign hs_sign_P
