/-! detail of the model. -/
theorem hb_wsub {W W' : List Nat} (h : ∀ a ∈ W', a ∈ W) : ∀ a, W.elem a = false → W'.elem a = false := by
  intro a ha
  cases hx : W'.elem a with
  | false => rfl
  | true =>
    rw [List.elem_iff.mpr (h a (List.elem_iff.mp hx))] at ha
    cases ha
def hd_o_q : mz_Q := (136, [(1, 234), (0, 0), (0, 0), (0, 0), (3, 0), (3, 0)], [(0, [(1, 1)]), (3, [(1, -1)])], [], [(0, 0, [(0, [(67, 1)]), (1, [(67, -1)])])], [247, 248])
def hd_o_s : List mz_Sp2 := [(28, [(1, 234), (0, 0), (0, 0), (0, 0), (0, 0), (0, 0)], [], [(0, [(1, -1), (68, 1)]), (0, [(1, 1), (68, -1)]), (0, [(2, -1), (69, 1)]), (0, [(2, 1), (69, -1)]), (0, [(3, -1), (70, 1)]), (0, [(3, 1), (70, -1)]), (0, [(71, 1)]), (0, [(71, -1)]), (0, [(72, 1)]), (0, [(72, -1)]), (-80, [(2, 1)]), (80, [(2, -1)]), (47, [(3, -1)])]), (28, [(1, 234), (0, 0), (0, 0), (0, 0), (0, 0), (0, 0)], [], [(0, [(1, -1), (68, 1)]), (0, [(1, 1), (68, -1)]), (0, [(2, -1), (69, 1)]), (0, [(2, 1), (69, -1)]), (0, [(3, -1), (70, 1)]), (0, [(3, 1), (70, -1)]), (0, [(71, 1)]), (0, [(71, -1)]), (0, [(72, 1)]), (0, [(72, -1)]), (-80, [(2, 1)]), (80, [(2, -1)]), (-48, [(3, 1)]), (-52, [(3, 1)])]), (28, [(1, 234), (0, 0), (0, 0), (0, 0), (0, 0), (0, 0)], [], [(0, [(1, -1), (68, 1)]), (0, [(1, 1), (68, -1)]), (0, [(2, -1), (69, 1)]), (0, [(2, 1), (69, -1)]), (0, [(3, -1), (70, 1)]), (0, [(3, 1), (70, -1)]), (-1, [(71, 1)]), (1, [(71, -1)]), (0, [(72, 1)]), (0, [(72, -1)]), (-80, [(2, 1)]), (80, [(2, -1)]), (-48, [(3, 1)]), (51, [(3, -1)])])]
def hd_o_h : List mz_H := [(0, 0, []), (0, 0, []), (0, 0, []), (0, 0, []), (248, 0, []), (0, 0, [(0, 1)]), (0, 0, [(1, 1)]), (3, 0, []), (0, 0, [(0, 1)]), (0, 0, []), (248, 0, []), (248, 0, []), (0, 0, [(3, 1)]), (0, 0, [(4, 1)]), (3, 0, []), (0, 0, [(0, 1)]), (0, 0, []), (0, 0, [(6, 1)]), (0, 0, [(7, 1)]), (0, 0, []), (0, 0, []), (0, 0, []), (0, 0, []), (0, 0, []), (0, 0, []), (0, 0, []), (0, 0, []), (0, 0, []), (0, 0, []), (0, 0, []), (0, 0, []), (0, 0, []), (0, 0, []), (0, 0, []), (0, 0, []), (0, 0, []), (1, 0, []), (0, 0, []), (0, 0, []), (0, 0, []), (0, 0, []), (0, 0, []), (0, 0, []), (0, 0, []), (0, 0, []), (0, 0, []), (0, 0, [(7, 1)]), (0, 0, [(8, 1)]), (0, 0, []), (0, 0, []), (0, 0, []), (0, 0, []), (0, 0, []), (0, 0, []), (0, 0, []), (0, 0, []), (0, 0, []), (0, 0, []), (0, 0, []), (0, 0, []), (0, 0, []), (0, 0, []), (0, 0, []), (0, 0, []), (0, 0, []), (1, 0, []), (0, 0, []), (0, 0, []), (0, 0, []), (0, 0, []), (0, 0, []), (0, 0, []), (0, 0, []), (0, 0, [(9, 1)]), (0, 0, [(10, 1)]), (0, 0, []), (0, 0, []), (1, 0, []), (0, 0, [(1, 1)]), (0, 0, [(0, 1)]), (0, 0, []), (0, 0, []), (0, 0, []), (0, 0, []), (0, 0, []), (0, 0, []), (0, 0, []), (0, 0, []), (0, 0, []), (1, 0, []), (0, 0, []), (0, 0, []), (0, 0, []), (0, 0, []), (0, 0, []), (0, 0, []), (0, 0, []), (248, 0, []), (248, 0, []), (0, 0, [(4, 1)]), (0, 0, [(5, 1)]), (3, 0, []), (0, 0, [(0, 1)]), (0, 0, []), (0, 0, [(7, 1)]), (0, 0, [(8, 1)]), (0, 0, []), (0, 0, []), (0, 0, []), (0, 0, []), (0, 0, []), (0, 0, []), (0, 0, []), (0, 0, []), (0, 0, []), (0, 0, []), (0, 0, []), (0, 0, []), (0, 0, []), (0, 0, []), (0, 0, []), (0, 0, []), (1, 1, []), (0, 0, []), (3, 0, []), (0, 0, []), (0, 0, []), (0, 0, []), (0, 0, []), (0, 0, []), (0, 0, []), (0, 0, []), (0, 0, []), (0, 0, [(8, 1)]), (0, 0, [(9, 1)]), (0, 0, []), (0, 0, []), (0, 0, []), (0, 0, []), (0, 0, []), (0, 0, []), (0, 0, []), (0, 0, []), (0, 0, []), (0, 0, []), (0, 0, []), (0, 0, []), (0, 0, []), (0, 0, []), (0, 0, []), (0, 0, []), (1, 1, []), (0, 0, []), (3, 0, []), (0, 0, []), (0, 0, []), (0, 0, []), (0, 0, []), (0, 0, []), (0, 0, []), (0, 0, [(10, 1)]), (0, 0, [(11, 1)]), (0, 0, []), (0, 0, []), (1, 0, []), (0, 0, [(1, 1)]), (0, 0, [(0, 1)]), (0, 0, []), (0, 0, []), (0, 0, []), (0, 0, []), (0, 0, []), (0, 0, []), (0, 0, []), (0, 0, []), (1, 1, []), (0, 0, []), (3, 0, []), (0, 0, []), (0, 0, []), (0, 0, []), (0, 0, []), (0, 0, []), (0, 0, []), (247, 0, []), (0, 0, []), (0, 0, []), (247, 0, []), (0, 0, [(3, 1)]), (0, 0, [(4, 1)]), (0, 0, [(5, 1)]), (0, 0, [(6, 1)]), (0, 0, [(0, 1)]), (0, 0, [(1, 1)]), (0, 0, []), (1, 0, []), (0, 0, [(2, 1)]), (0, 0, []), (0, 0, []), (0, 0, []), (0, 0, []), (0, 0, []), (0, 0, []), (0, 0, []), (247, 0, []), (0, 0, [(4, 1)]), (0, 0, [(5, 1)]), (0, 0, [(6, 1)]), (0, 0, [(7, 1)]), (0, 0, [(0, 1)]), (0, 0, [(1, 1)]), (1, 0, []), (0, 0, [(2, 1)]), (0, 0, []), (0, 0, []), (1, 0, []), (0, 0, [(3, 1)]), (0, 0, []), (0, 0, []), (0, 0, []), (0, 0, []), (0, 0, []), (247, 0, []), (0, 0, [(4, 1)]), (0, 0, [(5, 1)]), (0, 0, []), (0, 0, [(3, 1)]), (0, 0, [(2, 1)]), (0, 0, []), (0, 0, [(10, 1)]), (0, 0, [(11, 1)]), (0, 0, [(0, 1)]), (0, 0, [(1, 1)]), (1, 0, []), (0, 0, [(7, 1)]), (0, 0, []), (1, 0, []), (0, 0, [(7, 1)]), (0, 0, []), (0, 0, []), (0, 0, []), (0, 0, []), (0, 0, []), (0, 0, []), (0, 0, []), (0, 0, []), (0, 0, []), (0, 0, []), (0, 0, []), (0, 0, []), (0, 0, []), (0, 0, []), (0, 0, []), (0, 0, []), (0, 0, []), (0, 0, []), (0, 0, []), (0, 0, [(2, 1)]), (0, 0, [(1, 1)]), (0, 0, [(0, 1)]), (0, 0, []), (0, 0, []), (1, 0, []), (0, 0, []), (0, 0, []), (0, 0, []), (0, 0, []), (0, 0, []), (0, 0, []), (0, 0, []), (0, 0, []), (0, 0, []), (0, 0, []), (0, 0, [(3, 1)]), (0, 0, [(2, 1)]), (0, 0, [(0, 1)]), (0, 0, [(0, 1)]), (2, 0, []), (0, 0, []), (0, 0, []), (0, 0, []), (0, 0, []), (0, 0, []), (0, 0, []), (0, 0, []), (0, 0, []), (0, 0, []), (0, 0, []), (0, 0, [(3, 1)]), (0, 0, [(2, 1)]), (0, 0, [(1, 1)]), (0, 0, [(0, 1)])]
set_option maxRecDepth 100000 in
theorem hd_o_c : mz_blk mz_GG mq_PP mz_Cs hd_o_q 6 1 0 hd_o_s [] 221 hd_o_h = true := by decide +kernel
theorem hd_o {X : (Nat → mq_C) → Prop} (hX : ∀ M M' : Nat → mq_C, mz_same mz_GG M M' → X M → X M') (hC : ∀ c ∈ mz_Cs, c.2 < 1 → mz_Ct mz_GG mq_PP X c.1 c.2) {d z u : Nat} {M : Nat → mq_C} {Q : (Option Value ⊕ Nat) → mq_S → Prop} {x1 : Int32} {x2 : Int32} {x3 : Int32} {o4 : Option Value} {o5 : Option Value} (hd : 1 ≤ d) (hz : 272 ≤ z) (hm : mz_sh mz_GG M) (hx : X M) (h0 : mq_nl o4 = true) (h1 : mq_nl o5 = true) (p0 : 0 ≤ x1.toInt) (p1 : 0 ≤ 3 - x1.toInt)
    (k0 : ∀ (M' : Nat → mq_C) (y4 : Int32) (y5 : Int32), mz_sh mz_GG M' → X M' → mz_fr hd_o_q M M' → (∀ a, a < 8 → M' a = M a) → hb_same mz_GG hd_o_q M M' → y4.toInt = 0 → y5.toInt = 0 → 0 ≤ (-80) + x2.toInt → 0 ≤ 80 - x2.toInt → 0 ≤ 47 - x3.toInt → mq_R mq_PP d 136 28 [some (.ref 234), some (.int x1), some (.int x2), some (.int x3), some (.int y4), some (.int y5)] [] (M', z, u) Q)
    (k1 : ∀ (M' : Nat → mq_C) (y4 : Int32) (y5 : Int32), mz_sh mz_GG M' → X M' → mz_fr hd_o_q M M' → (∀ a, a < 8 → M' a = M a) → hb_same mz_GG hd_o_q M M' → y4.toInt = 0 → y5.toInt = 0 → 0 ≤ (-80) + x2.toInt → 0 ≤ 80 - x2.toInt → 0 ≤ (-48) + x3.toInt → 0 ≤ (-52) + x3.toInt → mq_R mq_PP d 136 28 [some (.ref 234), some (.int x1), some (.int x2), some (.int x3), some (.int y4), some (.int y5)] [] (M', z, u) Q)
    (k2 : ∀ (M' : Nat → mq_C) (y4 : Int32) (y5 : Int32), mz_sh mz_GG M' → X M' → mz_fr hd_o_q M M' → (∀ a, a < 8 → M' a = M a) → hb_same mz_GG hd_o_q M M' → y4.toInt = 1 → y5.toInt = 0 → 0 ≤ (-80) + x2.toInt → 0 ≤ 80 - x2.toInt → 0 ≤ (-48) + x3.toInt → 0 ≤ 51 - x3.toInt → mq_R mq_PP d 136 28 [some (.ref 234), some (.int x1), some (.int x2), some (.int x3), some (.int y4), some (.int y5)] [] (M', z, u) Q)
    (w0 : ∀ (M' : Nat → mq_C) (r : Int32), mz_sh mz_GG M' → X M' → mz_fr hd_o_q M M' → (∀ a, a < 8 → M' a = M a) → hb_same mz_GG hd_o_q M M' → 0 ≤ r.toInt → 0 ≤ 1 - r.toInt → Q (.inl (some (.int r))) (M', z, u)) : mq_R mq_PP d 136 0 [some (.ref 234), some (.int x1), some (.int x2), some (.int x3), o4, o5] [] (M, z, u) Q := by
  refine hb_blk mz_GG mq_PP X (q := hd_o_q) (nl := 6) (M := M) hb_okG hX hC hd_o_c hz hd (L := [some (.ref 234), some (.int x1), some (.int x2), some (.int x3), o4, o5]) (st := []) (show hb_lk mz_GG ([(1, 234), (0, 0), (0, 0), (0, 0), (3, 0), (3, 0)]) _ from ⟨⟨List.mem_singleton.mpr rfl, rfl⟩, trivial, trivial, trivial, h0, h1, trivial⟩) (show hb_pk mz_GG ([]) _ from trivial) hm hx ?_ ?_ ?_
  · exact hb_cons (show 0 ≤ mz_ev _ _ from (show 0 ≤ 0 + (1 * x1.toInt + 0) by omega)) (hb_cons (show 0 ≤ mz_ev _ _ from (show 0 ≤ 3 + ((-1) * x1.toInt + 0) by omega)) (hb_nil))
  · intro s hs
    rcases List.mem_cons.mp hs with rfl | hs
    · intro ρ1 L' st' M' g1 g2 gm gr gf gs gx gw g8 ge
      obtain ⟨e0, L1, rfl, n0, gg0⟩ := hb_l1 mz_GG g1
      obtain rfl : e0 = 234 := List.mem_singleton.mp n0
      obtain ⟨y1, L1, rfl, qr68, gg1⟩ := hb_l0 mz_GG gg0
      have r68 : ρ1 68 = y1.toInt := qr68
      obtain ⟨y2, L1, rfl, qr69, gg2⟩ := hb_l0 mz_GG gg1
      have r69 : ρ1 69 = y2.toInt := qr69
      obtain ⟨y3, L1, rfl, qr70, gg3⟩ := hb_l0 mz_GG gg2
      have r70 : ρ1 70 = y3.toInt := qr70
      obtain ⟨y4, L1, rfl, qr71, gg4⟩ := hb_l0 mz_GG gg3
      have r71 : ρ1 71 = y4.toInt := qr71
      obtain ⟨y5, L1, rfl, qr72, gg5⟩ := hb_l0 mz_GG gg4
      have r72 : ρ1 72 = y5.toInt := qr72
      obtain rfl := hb_ln mz_GG gg5
      obtain rfl := hb_pn mz_GG g2
      have r1 : ρ1 1 = x1.toInt := gr 1 (by decide +kernel)
      have r2 : ρ1 2 = x2.toInt := gr 2 (by decide +kernel)
      have r3 : ρ1 3 = x3.toInt := gr 3 (by decide +kernel)
      obtain ⟨f0, gf⟩ := hb_unc gf
      have f0 : 0 ≤ 0 + ((-1) * ρ1 1 + (1 * ρ1 68 + 0)) := f0
      rw [r1, r68] at f0
      obtain ⟨f1, gf⟩ := hb_unc gf
      have f1 : 0 ≤ 0 + (1 * ρ1 1 + ((-1) * ρ1 68 + 0)) := f1
      rw [r1, r68] at f1
      obtain ⟨f2, gf⟩ := hb_unc gf
      have f2 : 0 ≤ 0 + ((-1) * ρ1 2 + (1 * ρ1 69 + 0)) := f2
      rw [r2, r69] at f2
      obtain ⟨f3, gf⟩ := hb_unc gf
      have f3 : 0 ≤ 0 + (1 * ρ1 2 + ((-1) * ρ1 69 + 0)) := f3
      rw [r2, r69] at f3
      obtain ⟨f4, gf⟩ := hb_unc gf
      have f4 : 0 ≤ 0 + ((-1) * ρ1 3 + (1 * ρ1 70 + 0)) := f4
      rw [r3, r70] at f4
      obtain ⟨f5, gf⟩ := hb_unc gf
      have f5 : 0 ≤ 0 + (1 * ρ1 3 + ((-1) * ρ1 70 + 0)) := f5
      rw [r3, r70] at f5
      obtain ⟨f6, gf⟩ := hb_unc gf
      have f6 : 0 ≤ 0 + (1 * ρ1 71 + 0) := f6
      rw [r71] at f6
      obtain ⟨f7, gf⟩ := hb_unc gf
      have f7 : 0 ≤ 0 + ((-1) * ρ1 71 + 0) := f7
      rw [r71] at f7
      obtain ⟨f8, gf⟩ := hb_unc gf
      have f8 : 0 ≤ 0 + (1 * ρ1 72 + 0) := f8
      rw [r72] at f8
      obtain ⟨f9, gf⟩ := hb_unc gf
      have f9 : 0 ≤ 0 + ((-1) * ρ1 72 + 0) := f9
      rw [r72] at f9
      obtain ⟨f10, gf⟩ := hb_unc gf
      have f10 : 0 ≤ -80 + (1 * ρ1 2 + 0) := f10
      rw [r2] at f10
      obtain ⟨f11, gf⟩ := hb_unc gf
      have f11 : 0 ≤ 80 + ((-1) * ρ1 2 + 0) := f11
      rw [r2] at f11
      obtain ⟨f12, gf⟩ := hb_unc gf
      have f12 : 0 ≤ 47 + ((-1) * ρ1 3 + 0) := f12
      rw [r3] at f12
      have hy1 : y1 = x1 := hb_inj f0 f1
      subst y1
      have hy2 : y2 = x2 := hb_inj f2 f3
      subst y2
      have hy3 : y3 = x3 := hb_inj f4 f5
      subst y3
      exact k0 M' y4 y5 gs gx gw g8 ge  (by have h1 := f6; have h2 := f7; omega) (by have h1 := f8; have h2 := f9; omega) (by have h1 := f10; omega) (by have h1 := f11; omega) (by have h1 := f12; omega)
    rcases List.mem_cons.mp hs with rfl | hs
    · intro ρ1 L' st' M' g1 g2 gm gr gf gs gx gw g8 ge
      obtain ⟨e0, L1, rfl, n0, gg0⟩ := hb_l1 mz_GG g1
      obtain rfl : e0 = 234 := List.mem_singleton.mp n0
      obtain ⟨y1, L1, rfl, qr68, gg1⟩ := hb_l0 mz_GG gg0
      have r68 : ρ1 68 = y1.toInt := qr68
      obtain ⟨y2, L1, rfl, qr69, gg2⟩ := hb_l0 mz_GG gg1
      have r69 : ρ1 69 = y2.toInt := qr69
      obtain ⟨y3, L1, rfl, qr70, gg3⟩ := hb_l0 mz_GG gg2
      have r70 : ρ1 70 = y3.toInt := qr70
      obtain ⟨y4, L1, rfl, qr71, gg4⟩ := hb_l0 mz_GG gg3
      have r71 : ρ1 71 = y4.toInt := qr71
      obtain ⟨y5, L1, rfl, qr72, gg5⟩ := hb_l0 mz_GG gg4
      have r72 : ρ1 72 = y5.toInt := qr72
      obtain rfl := hb_ln mz_GG gg5
      obtain rfl := hb_pn mz_GG g2
      have r1 : ρ1 1 = x1.toInt := gr 1 (by decide +kernel)
      have r2 : ρ1 2 = x2.toInt := gr 2 (by decide +kernel)
      have r3 : ρ1 3 = x3.toInt := gr 3 (by decide +kernel)
      obtain ⟨f0, gf⟩ := hb_unc gf
      have f0 : 0 ≤ 0 + ((-1) * ρ1 1 + (1 * ρ1 68 + 0)) := f0
      rw [r1, r68] at f0
      obtain ⟨f1, gf⟩ := hb_unc gf
      have f1 : 0 ≤ 0 + (1 * ρ1 1 + ((-1) * ρ1 68 + 0)) := f1
      rw [r1, r68] at f1
      obtain ⟨f2, gf⟩ := hb_unc gf
      have f2 : 0 ≤ 0 + ((-1) * ρ1 2 + (1 * ρ1 69 + 0)) := f2
      rw [r2, r69] at f2
      obtain ⟨f3, gf⟩ := hb_unc gf
      have f3 : 0 ≤ 0 + (1 * ρ1 2 + ((-1) * ρ1 69 + 0)) := f3
      rw [r2, r69] at f3
      obtain ⟨f4, gf⟩ := hb_unc gf
      have f4 : 0 ≤ 0 + ((-1) * ρ1 3 + (1 * ρ1 70 + 0)) := f4
      rw [r3, r70] at f4
      obtain ⟨f5, gf⟩ := hb_unc gf
      have f5 : 0 ≤ 0 + (1 * ρ1 3 + ((-1) * ρ1 70 + 0)) := f5
      rw [r3, r70] at f5
      obtain ⟨f6, gf⟩ := hb_unc gf
      have f6 : 0 ≤ 0 + (1 * ρ1 71 + 0) := f6
      rw [r71] at f6
      obtain ⟨f7, gf⟩ := hb_unc gf
      have f7 : 0 ≤ 0 + ((-1) * ρ1 71 + 0) := f7
      rw [r71] at f7
      obtain ⟨f8, gf⟩ := hb_unc gf
      have f8 : 0 ≤ 0 + (1 * ρ1 72 + 0) := f8
      rw [r72] at f8
      obtain ⟨f9, gf⟩ := hb_unc gf
      have f9 : 0 ≤ 0 + ((-1) * ρ1 72 + 0) := f9
      rw [r72] at f9
      obtain ⟨f10, gf⟩ := hb_unc gf
      have f10 : 0 ≤ -80 + (1 * ρ1 2 + 0) := f10
      rw [r2] at f10
      obtain ⟨f11, gf⟩ := hb_unc gf
      have f11 : 0 ≤ 80 + ((-1) * ρ1 2 + 0) := f11
      rw [r2] at f11
      obtain ⟨f12, gf⟩ := hb_unc gf
      have f12 : 0 ≤ -48 + (1 * ρ1 3 + 0) := f12
      rw [r3] at f12
      obtain ⟨f13, gf⟩ := hb_unc gf
      have f13 : 0 ≤ -52 + (1 * ρ1 3 + 0) := f13
      rw [r3] at f13
      have hy1 : y1 = x1 := hb_inj f0 f1
      subst y1
      have hy2 : y2 = x2 := hb_inj f2 f3
      subst y2
      have hy3 : y3 = x3 := hb_inj f4 f5
      subst y3
      exact k1 M' y4 y5 gs gx gw g8 ge  (by have h1 := f6; have h2 := f7; omega) (by have h1 := f8; have h2 := f9; omega) (by have h1 := f10; omega) (by have h1 := f11; omega) (by have h1 := f12; omega) (by have h1 := f13; omega)
    rcases List.mem_cons.mp hs with rfl | hs
    · intro ρ1 L' st' M' g1 g2 gm gr gf gs gx gw g8 ge
      obtain ⟨e0, L1, rfl, n0, gg0⟩ := hb_l1 mz_GG g1
      obtain rfl : e0 = 234 := List.mem_singleton.mp n0
      obtain ⟨y1, L1, rfl, qr68, gg1⟩ := hb_l0 mz_GG gg0
      have r68 : ρ1 68 = y1.toInt := qr68
      obtain ⟨y2, L1, rfl, qr69, gg2⟩ := hb_l0 mz_GG gg1
      have r69 : ρ1 69 = y2.toInt := qr69
      obtain ⟨y3, L1, rfl, qr70, gg3⟩ := hb_l0 mz_GG gg2
      have r70 : ρ1 70 = y3.toInt := qr70
      obtain ⟨y4, L1, rfl, qr71, gg4⟩ := hb_l0 mz_GG gg3
      have r71 : ρ1 71 = y4.toInt := qr71
      obtain ⟨y5, L1, rfl, qr72, gg5⟩ := hb_l0 mz_GG gg4
      have r72 : ρ1 72 = y5.toInt := qr72
      obtain rfl := hb_ln mz_GG gg5
      obtain rfl := hb_pn mz_GG g2
      have r1 : ρ1 1 = x1.toInt := gr 1 (by decide +kernel)
      have r2 : ρ1 2 = x2.toInt := gr 2 (by decide +kernel)
      have r3 : ρ1 3 = x3.toInt := gr 3 (by decide +kernel)
      obtain ⟨f0, gf⟩ := hb_unc gf
      have f0 : 0 ≤ 0 + ((-1) * ρ1 1 + (1 * ρ1 68 + 0)) := f0
      rw [r1, r68] at f0
      obtain ⟨f1, gf⟩ := hb_unc gf
      have f1 : 0 ≤ 0 + (1 * ρ1 1 + ((-1) * ρ1 68 + 0)) := f1
      rw [r1, r68] at f1
      obtain ⟨f2, gf⟩ := hb_unc gf
      have f2 : 0 ≤ 0 + ((-1) * ρ1 2 + (1 * ρ1 69 + 0)) := f2
      rw [r2, r69] at f2
      obtain ⟨f3, gf⟩ := hb_unc gf
      have f3 : 0 ≤ 0 + (1 * ρ1 2 + ((-1) * ρ1 69 + 0)) := f3
      rw [r2, r69] at f3
      obtain ⟨f4, gf⟩ := hb_unc gf
      have f4 : 0 ≤ 0 + ((-1) * ρ1 3 + (1 * ρ1 70 + 0)) := f4
      rw [r3, r70] at f4
      obtain ⟨f5, gf⟩ := hb_unc gf
      have f5 : 0 ≤ 0 + (1 * ρ1 3 + ((-1) * ρ1 70 + 0)) := f5
      rw [r3, r70] at f5
      obtain ⟨f6, gf⟩ := hb_unc gf
      have f6 : 0 ≤ -1 + (1 * ρ1 71 + 0) := f6
      rw [r71] at f6
      obtain ⟨f7, gf⟩ := hb_unc gf
      have f7 : 0 ≤ 1 + ((-1) * ρ1 71 + 0) := f7
      rw [r71] at f7
      obtain ⟨f8, gf⟩ := hb_unc gf
      have f8 : 0 ≤ 0 + (1 * ρ1 72 + 0) := f8
      rw [r72] at f8
      obtain ⟨f9, gf⟩ := hb_unc gf
      have f9 : 0 ≤ 0 + ((-1) * ρ1 72 + 0) := f9
      rw [r72] at f9
      obtain ⟨f10, gf⟩ := hb_unc gf
      have f10 : 0 ≤ -80 + (1 * ρ1 2 + 0) := f10
      rw [r2] at f10
      obtain ⟨f11, gf⟩ := hb_unc gf
      have f11 : 0 ≤ 80 + ((-1) * ρ1 2 + 0) := f11
      rw [r2] at f11
      obtain ⟨f12, gf⟩ := hb_unc gf
      have f12 : 0 ≤ -48 + (1 * ρ1 3 + 0) := f12
      rw [r3] at f12
      obtain ⟨f13, gf⟩ := hb_unc gf
      have f13 : 0 ≤ 51 + ((-1) * ρ1 3 + 0) := f13
      rw [r3] at f13
      have hy1 : y1 = x1 := hb_inj f0 f1
      subst y1
      have hy2 : y2 = x2 := hb_inj f2 f3
      subst y2
      have hy3 : y3 = x3 := hb_inj f4 f5
      subst y3
      exact k2 M' y4 y5 gs gx gw g8 ge  (by have h1 := f6; have h2 := f7; omega) (by have h1 := f8; have h2 := f9; omega) (by have h1 := f10; omega) (by have h1 := f11; omega) (by have h1 := f12; omega) (by have h1 := f13; omega)
    cases hs
  · intro r S hpo
    obtain ⟨b1, b2, b3, b4, b5, p, hp, res, hf, hre⟩ := hpo
    rcases List.mem_cons.mp hp with rfl | hp
    · obtain ⟨x, rfl, hr, hz1, hu1⟩ := mz_re_0 mz_GG hre rfl
      obtain ⟨M', z', u'⟩ := S
      cases hz1
      cases hu1
      have r67 : hb_r1 mz_GG hd_o_q (hb_rb mz_GG hd_o_q 6 [some (.ref 234), some (.int x1), some (.int x2), some (.int x3), o4, o5] [] M) M' res 67 = res := rfl
      obtain ⟨f0, hf⟩ := hb_unc hf
      have f0 : 0 ≤ 0 + (1 * res + 0) := f0
      rw [← hr] at f0
      obtain ⟨f1, hf⟩ := hb_unc hf
      have f1 : 0 ≤ 1 + ((-1) * res + 0) := f1
      rw [← hr] at f1
      exact w0 M' x b1 b2 b3 b4 b5 (by have h1 := f0; omega) (by have h1 := f1; omega)
    cases hp

def hd_e_q : mz_Q := (136, [(1, 234), (0, 0), (0, 0), (0, 0), (3, 0), (3, 0)], [], [], [(0, 0, [(0, [(67, 1)]), (1, [(67, -1)])])], [])
def hd_e_s : List mz_Sp2 := []
def hd_e_h : List mz_H := [(0, 0, []), (0, 0, []), (0, 0, []), (0, 0, []), (0, 0, []), (0, 0, []), (0, 0, []), (0, 0, []), (0, 0, []), (0, 0, []), (0, 0, []), (0, 0, []), (0, 0, []), (0, 0, []), (0, 0, []), (0, 0, []), (0, 0, []), (0, 0, []), (0, 0, [])]
set_option maxRecDepth 100000 in
theorem hd_e_c : mz_blk mz_GG mq_PP mz_Cs hd_e_q 6 1 109 hd_e_s [] 18 hd_e_h = true := by decide +kernel
theorem hd_e {X : (Nat → mq_C) → Prop} (hX : ∀ M M' : Nat → mq_C, mz_same mz_GG M M' → X M → X M') (hC : ∀ c ∈ mz_Cs, c.2 < 1 → mz_Ct mz_GG mq_PP X c.1 c.2) {d z u : Nat} {M : Nat → mq_C} {Q : (Option Value ⊕ Nat) → mq_S → Prop} {x1 : Int32} {x2 : Int32} {x3 : Int32} {o4 : Option Value} {o5 : Option Value} (hd : 1 ≤ d) (hz : 272 ≤ z) (hm : mz_sh mz_GG M) (hx : X M) (h0 : mq_nl o4 = true) (h1 : mq_nl o5 = true)
    (w0 : ∀ (M' : Nat → mq_C) (r : Int32), mz_sh mz_GG M' → X M' → mz_fr hd_e_q M M' → (∀ a, a < 8 → M' a = M a) → hb_same mz_GG hd_e_q M M' → 0 ≤ r.toInt → 0 ≤ 1 - r.toInt → Q (.inl (some (.int r))) (M', z, u)) : mq_R mq_PP d 136 109 [some (.ref 234), some (.int x1), some (.int x2), some (.int x3), o4, o5] [] (M, z, u) Q := by
  refine hb_blk mz_GG mq_PP X (q := hd_e_q) (nl := 6) (M := M) hb_okG hX hC hd_e_c hz hd (L := [some (.ref 234), some (.int x1), some (.int x2), some (.int x3), o4, o5]) (st := []) (show hb_lk mz_GG ([(1, 234), (0, 0), (0, 0), (0, 0), (3, 0), (3, 0)]) _ from ⟨⟨List.mem_singleton.mpr rfl, rfl⟩, trivial, trivial, trivial, h0, h1, trivial⟩) (show hb_pk mz_GG ([]) _ from trivial) hm hx ?_ ?_ ?_
  · exact hb_nil
  · intro s hs
    cases hs
  · intro r S hpo
    obtain ⟨b1, b2, b3, b4, b5, p, hp, res, hf, hre⟩ := hpo
    rcases List.mem_cons.mp hp with rfl | hp
    · obtain ⟨x, rfl, hr, hz1, hu1⟩ := mz_re_0 mz_GG hre rfl
      obtain ⟨M', z', u'⟩ := S
      cases hz1
      cases hu1
      have r67 : hb_r1 mz_GG hd_e_q (hb_rb mz_GG hd_e_q 6 [some (.ref 234), some (.int x1), some (.int x2), some (.int x3), o4, o5] [] M) M' res 67 = res := rfl
      obtain ⟨f0, hf⟩ := hb_unc hf
      have f0 : 0 ≤ 0 + (1 * res + 0) := f0
      rw [← hr] at f0
      obtain ⟨f1, hf⟩ := hb_unc hf
      have f1 : 0 ≤ 1 + ((-1) * res + 0) := f1
      rw [← hr] at f1
      exact w0 M' x b1 b2 b3 b4 b5 (by have h1 := f0; omega) (by have h1 := f1; omega)
    cases hp

theorem hd_sp0 (k : Nat) (hk : k ≠ 20) (i : Nat) : (4 * 0 ≤ i → i < 4 * 0 + 4 → hsp k 246 i = false) ∧ hsp k 245 0 = false ∧ hsp k 247 i = false ∧ hsp k 248 i = false := by
  match k with
  | 0 | 1 | 2 | 3 | 4 | 5 | 6 | 7 | 8 | 9 | 10 | 11 | 12 | 13 | 14 | 15 | 16 | 17 | 18 | 19 | 20 | 21 | 22 | 23 | 24 | 25 | 26 | 27 | 28 | 29 => first | exact absurd rfl hk | exact ⟨fun h1 h2 => by simp [hsp] <;> omega, by simp [hsp], by simp [hsp], by simp [hsp]⟩
  | n + 30 => exact ⟨fun _ _ => rfl, rfl, rfl, rfl⟩
theorem hd_l0 {d z u : Nat} {Q : (Option Value ⊕ Nat) → mq_S → Prop} {M : Nat → mq_C} {x1 x2 x3 : Int32} (hd : 1 ≤ d) (hz : 272 ≤ z) (hm : mz_sh mz_GG M) (hx : HX M) (p1 : x1.toInt = 0)
    (K : ∀ (M' : Nat → mq_C) (r : Int32), mz_sh mz_GG M' → HX M' → mz_fr mz_q146 M M' → (∀ a, a < 8 → M' a = M a) → hb_same mz_GG mz_q146 M M' → 0 ≤ r.toInt → 0 ≤ 1 - r.toInt → Q (.inl (some (.int r))) (M', z, u)) : ∀ (m : Nat) (x4 x5 : Int32), (m : Int) + x5.toInt = 5 → 0 ≤ x5.toInt → x5.toInt ≤ hv M 245 0 → (x4.toInt = 0 ∨ x4.toInt = 1 ∧ 48 ≤ x3.toInt ∧ x3.toInt ≤ 51 ∧ ∀ j : Nat, (j : Int) < x5.toInt → hv M 246 (4 * 0 + j) ≠ x3.toInt - 48) → mq_R mq_PP d 136 28 [some (.ref 234), some (.int x1), some (.int x2), some (.int x3), some (.int x4), some (.int x5)] [] (M, z, u) Q := by
  intro m
  induction m with
  | zero =>
    intro x4 x5 e1 e2 e3 hn
    have := hb_rg hm (a := 245) (i := 0) rfl (by decide) hb_at1
    omega
  | succ m ih =>
    intro x4 x5 e1 e2 e3 hn
    refine he_iload (n := 30) (i := 5) (by decide +kernel) rfl ?_
    refine he_aload (n := 31) (i := 0) (by decide +kernel) rfl ?_
    refine he_getr (n := 34) (ci := 9) (j := 11) (ns := [4188, 41]) (b := 245) hm (by decide +kernel) rfl rfl (by decide +kernel) ?_
    refine he_iload (n := 35) (i := 1) (by decide +kernel) rfl ?_
    refine hb_ld (n := 36) (kind := 64) hm (by decide +kernel) rfl rfl (.inl rfl) (by omega) (show _ < (4 : Int) by omega) hb_at1 ?_
    intro v35 hv35 lv35 uv35
    have hon : hv M 245 0 = v35.toInt := by
      rw [← hv35, show x1.toInt.toNat = 0 by omega]
    by_cases h36 : v35.toInt ≤ x5.toInt
    · skip
      refine he_cmpge_t (n := 39) (t := 75) (by decide +kernel) (by omega) ?_
      refine he_iload (n := 77) (i := 4) (by decide +kernel) rfl ?_
      by_cases h77 : x4.toInt = 0
      · skip
        refine he_ifeq_t (n := 80) (t := 109) (by decide +kernel) (by omega) ?_
        refine hd_e HX_same hb_C1 hd hz hm hx rfl rfl ?_
        intro M9 r k1 k2 k3 k4 k5 l1 l2
        exact K M9 r k1 k2 (hb_fr_t (q' := hd_e_q) (fun a ha => rfl) hb_fr_r k3) k4 (hb_same_t (q' := hd_e_q) (fun j hj => rfl) hb_same_r k5) l1 l2
      · rcases hn with hn | ⟨hn0, hn1, hn2, hn3⟩
        · exact absurd hn h77
        refine he_ifeq_f (n := 80) (t := 109) (by decide +kernel) (by omega) ?_
        refine he_aload (n := 81) (i := 0) (by decide +kernel) rfl ?_
        refine he_getr (n := 84) (ci := 9) (j := 12) (ns := [4189, 44]) (b := 246) hm (by decide +kernel) rfl rfl (by decide +kernel) ?_
        refine he_iconst (n := 85) (c := 4) (by decide +kernel) (by decide) ?_
        intro c84 hc84
        refine he_iload (n := 86) (i := 1) (by decide +kernel) rfl ?_
        refine he_imul (n := 87) (p := 4 * x1.toInt) (by decide +kernel) (by rw [hc84]) (by omega) (by omega) ?_
        intro v86 hv86
        refine he_aload (n := 88) (i := 0) (by decide +kernel) rfl ?_
        refine he_getr (n := 91) (ci := 9) (j := 11) (ns := [4188, 41]) (b := 245) hm (by decide +kernel) rfl rfl (by decide +kernel) ?_
        refine he_iload (n := 92) (i := 1) (by decide +kernel) rfl ?_
        refine hb_ld (n := 93) (kind := 64) hm (by decide +kernel) rfl rfl (.inl rfl) (by omega) (show _ < (4 : Int) by omega) hb_at1 ?_
        intro v92 hv92 lv92 uv92
        refine he_iadd (n := 94) (by decide +kernel) (by omega) (by omega) ?_
        intro v93 hv93
        refine he_iload (n := 95) (i := 3) (by decide +kernel) rfl ?_
        refine he_iconst (n := 97) (c := 48) (by decide +kernel) (by decide) ?_
        intro c95 hc95
        refine he_isub (n := 98) (by decide +kernel) (by omega) (by omega) ?_
        intro v97 hv97
        have hroom : hv M 245 0 < 4 := hp_room (f := fun j => hv M 246 (4 * 0 + j)) (x := x3.toInt - 48) (by omega) (fun j hj => hb_rg hm rfl (show 4 * 0 + j < 16 by omega) hb_at1) ⟨by omega, by omega⟩ (hx 20) (fun j hj => hn3 j (by omega))
        have h92 : v92.toInt = v35.toInt := by omega
        refine hb_sta (n := 99) (kind := 64) hm (by decide +kernel) rfl rfl (.inl rfl) (by omega) (show _ < (16 : Int) by omega) ?_
        generalize hM1 : hb_set M 246 (v93.toInt.toNat) v97 = M1
        have hm1 : mz_sh mz_GG M1 := by rw [← hM1]; exact hb_set_sh hm rfl hb_at1 (by omega) (by omega)
        have eM1 : ∀ b j, b ≠ 246 ∨ j ≠ v93.toInt.toNat → hv M1 b j = hv M b j := by intro b j h; rw [← hM1]; exact hb_set_n h
        have sM1 : hv M1 246 (v93.toInt.toNat) = v97.toInt := by rw [← hM1]; exact hb_set_v hm rfl (show _ < 16 by omega)
        have wM1 : ∀ b, b ≠ 246 → M1 b = M b := by intro b h; rw [← hM1]; exact hb_set_c h
        refine he_aload (n := 100) (i := 0) (by decide +kernel) rfl ?_
        refine he_getr (n := 103) (ci := 9) (j := 11) (ns := [4188, 41]) (b := 245) hm1 (by decide +kernel) rfl rfl (by decide +kernel) ?_
        refine he_iload (n := 104) (i := 1) (by decide +kernel) rfl ?_
        refine he_dup2 (n := 105) (by decide +kernel) ?_
        refine hb_ld (n := 106) (kind := 64) hm1 (by decide +kernel) rfl rfl (.inl rfl) (by omega) (show _ < (4 : Int) by omega) hb_at1 ?_
        intro v105 hv105 lv105 uv105
        refine he_iconst (n := 107) (c := 1) (by decide +kernel) (by decide) ?_
        intro c106 hc106
        refine he_iadd (n := 108) (by decide +kernel) (by omega) (by omega) ?_
        intro v107 hv107
        have h105 : v105.toInt = v35.toInt := by
          rw [← hv105, eM1 _ _ (.inl (by decide)), show x1.toInt.toNat = 0 by omega]
          exact hon
        refine hb_sta (n := 109) (kind := 64) hm1 (by decide +kernel) rfl rfl (.inl rfl) (by omega) (show _ < (4 : Int) by omega) ?_
        generalize hM2 : hb_set M1 245 (x1.toInt.toNat) v107 = M2
        have hm2 : mz_sh mz_GG M2 := by rw [← hM2]; exact hb_set_sh hm1 rfl hb_at1 (by omega) (by omega)
        have eM2 : ∀ b j, b ≠ 245 ∨ j ≠ x1.toInt.toNat → hv M2 b j = hv M1 b j := by intro b j h; rw [← hM2]; exact hb_set_n h
        have sM2 : hv M2 245 (x1.toInt.toNat) = v107.toInt := by rw [← hM2]; exact hb_set_v hm1 rfl (show _ < 4 by omega)
        have wM2 : ∀ b, b ≠ 245 → M2 b = M1 b := by intro b h; rw [← hM2]; exact hb_set_c h
        have hx2 : HX M2 := by
          intro k
          by_cases e : k = 20
          · subst e
            show hxd (hv M2 245 0) (fun i => hv M2 246 (4 * 0 + i))
            have g1 : hv M2 245 0 = hv M 245 0 + 1 := by
              have := sM2
              rw [show x1.toInt.toNat = 0 by omega] at this
              rw [this]
              omega
            rw [g1]
            refine hp_add (f := fun j => hv M 246 (4 * 0 + j)) (x := x3.toInt - 48) (by omega) (hx 20) (fun j hj => hn3 j (by omega)) ?_ ?_
            · show hv M2 246 (4 * 0 + (hv M 245 0).toNat) = _
              rw [eM2 _ _ (.inl (by decide)), show 4 * 0 + (hv M 245 0).toNat = v93.toInt.toNat by omega, sM1]
              omega
            · intro j hj
              show hv M2 246 (4 * 0 + j) = hv M 246 (4 * 0 + j)
              rw [eM2 _ _ (.inl (by decide)), eM1 _ _ (.inr (by omega))]
          · rw [← hM2]
            refine hxk_s ?_ ?_
            · rw [show x1.toInt.toNat = 0 by omega]
              exact (hd_sp0 k e 0).2.1
            · rw [← hM1]
              exact hxk_s ((hd_sp0 k e _).1 (by omega) (by omega)) (hx k)
        have ho2 : hb_only [245, 246] M M2 := hb_only_s (hb_only_s hb_only_r (by decide) wM1) (by decide) wM2
        refine hd_e HX_same hb_C1 hd hz hm2 hx2 rfl rfl ?_
        intro M9 r k1 k2 k3 k4 k5 l1 l2
        exact K M9 r k1 k2 (hb_fr_t (q' := hd_e_q) (fun a ha => rfl) (hb_only_fr ho2 (by decide)) k3) (fun a ha => (k4 a ha).trans (hb_low ho2 (by decide) a ha)) (hb_same_t (q' := hd_e_q) (fun j hj => rfl) (hb_only_same ho2 (by decide +kernel)) k5) l1 l2
    · skip
      refine he_cmpge_f (n := 39) (t := 75) (by decide +kernel) (by omega) ?_
      refine he_iload (n := 41) (i := 4) (by decide +kernel) rfl ?_
      by_cases h41 : x4.toInt = 0
      · skip
        refine he_ifeq_t (n := 44) (t := 66) (by decide +kernel) (by omega) ?_
        refine he_iconst (n := 67) (c := 0) (by decide +kernel) (by decide) ?_
        intro c66 hc66
        refine he_istore (n := 69) (i := 4) (by decide +kernel) rfl ?_
        refine he_iinc (n := 72) (i := 5) (c := 1) (L' := fun v => [some (.ref 234), some (.int x1), some (.int x2), some (.int x3), some (.int c66), some (.int v)]) (by decide +kernel) (by decide) rfl (fun _ => rfl) (by omega) (by omega) ?_
        intro i69 hi69
        refine he_goto (t := 28) (by decide +kernel) ?_
        exact ih c66 i69 (by omega) (by omega) (by omega) (.inl (by omega))
      · rcases hn with hn | ⟨hn0, hn1, hn2, hn3⟩
        · exact absurd hn h41
        refine he_ifeq_f (n := 44) (t := 66) (by decide +kernel) (by omega) ?_
        refine he_aload (n := 45) (i := 0) (by decide +kernel) rfl ?_
        refine he_getr (n := 48) (ci := 9) (j := 12) (ns := [4189, 44]) (b := 246) hm (by decide +kernel) rfl rfl (by decide +kernel) ?_
        refine he_iconst (n := 49) (c := 4) (by decide +kernel) (by decide) ?_
        intro c48 hc48
        refine he_iload (n := 50) (i := 1) (by decide +kernel) rfl ?_
        refine he_imul (n := 51) (p := 4 * x1.toInt) (by decide +kernel) (by rw [hc48]) (by omega) (by omega) ?_
        intro v50 hv50
        refine he_iload (n := 53) (i := 5) (by decide +kernel) rfl ?_
        refine he_iadd (n := 54) (by decide +kernel) (by omega) (by omega) ?_
        intro v53 hv53
        refine hb_ld (n := 55) (kind := 64) hm (by decide +kernel) rfl rfl (.inl rfl) (by omega) (show _ < (16 : Int) by omega) hb_at1 ?_
        intro v54 hv54 lv54 uv54
        refine he_iload (n := 56) (i := 3) (by decide +kernel) rfl ?_
        refine he_iconst (n := 58) (c := 48) (by decide +kernel) (by decide) ?_
        intro c56 hc56
        refine he_isub (n := 59) (by decide +kernel) (by omega) (by omega) ?_
        intro v58 hv58
        by_cases h59 : v54.toInt = v58.toInt
        · skip
          refine he_cmpeq_t (n := 62) (t := 66) (by decide +kernel) (by omega) ?_
          refine he_iconst (n := 67) (c := 0) (by decide +kernel) (by decide) ?_
          intro c66 hc66
          refine he_istore (n := 69) (i := 4) (by decide +kernel) rfl ?_
          refine he_iinc (n := 72) (i := 5) (c := 1) (L' := fun v => [some (.ref 234), some (.int x1), some (.int x2), some (.int x3), some (.int c66), some (.int v)]) (by decide +kernel) (by decide) rfl (fun _ => rfl) (by omega) (by omega) ?_
          intro i69 hi69
          refine he_goto (t := 28) (by decide +kernel) ?_
          exact ih c66 i69 (by omega) (by omega) (by omega) (.inl (by omega))
        · skip
          refine he_cmpeq_f (n := 62) (t := 66) (by decide +kernel) (by omega) ?_
          refine he_iconst (n := 63) (c := 1) (by decide +kernel) (by decide) ?_
          intro c62 hc62
          refine he_goto (t := 67) (by decide +kernel) ?_
          refine he_istore (n := 69) (i := 4) (by decide +kernel) rfl ?_
          refine he_iinc (n := 72) (i := 5) (c := 1) (L' := fun v => [some (.ref 234), some (.int x1), some (.int x2), some (.int x3), some (.int c62), some (.int v)]) (by decide +kernel) (by decide) rfl (fun _ => rfl) (by omega) (by omega) ?_
          intro i69 hi69
          refine he_goto (t := 28) (by decide +kernel) ?_
          refine ih c62 i69 (by omega) (by omega) (by omega) (.inr ⟨by omega, hn1, hn2, fun j hj => ?_⟩)
          by_cases e : (j : Int) = x5.toInt
          · rw [show 4 * 0 + j = v53.toInt.toNat by omega, hv54]
            omega
          · exact hn3 j (by omega)
theorem hs_detail0_P : hc_detail0_P := by
  intro d z u M Q x1 x2 x3 hd hz hm hx p1 p2 K
  refine hd_o HX_same hb_C1 hd hz hm hx rfl rfl (by omega) (by omega) ?_ ?_ ?_ ?_
  · intro M' y4 y5 gs gx gw g8 ge
    intros
    have h0 := hb_rg gs (a := 245) (i := 0) rfl (by decide) hb_at1
    refine hd_l0 hd hz gs gx (by omega) ?_ 5 y4 y5 (by omega) (by omega) (by omega) ?_
    · intro M9 r k1 k2 k3 k4 k5 l1 l2
      exact K M9 r k1 k2 (hb_fr_t (q' := mz_q146) (fun a ha => ha) (hb_fr_t (q' := hd_o_q) (hb_wsub (by decide)) hb_fr_r gw) k3) (fun a ha => (k4 a ha).trans (g8 a ha)) (hb_same_t (q' := mz_q146) (fun j hj => hj) (hb_same_t (q' := hd_o_q) (fun j hj => rfl) hb_same_r ge) k5) l1 l2
    · first
      | exact .inl (by omega)
      | exact .inr ⟨by omega, by omega, by omega, fun j hj => by omega⟩
  · intro M' y4 y5 gs gx gw g8 ge
    intros
    have h0 := hb_rg gs (a := 245) (i := 0) rfl (by decide) hb_at1
    refine hd_l0 hd hz gs gx (by omega) ?_ 5 y4 y5 (by omega) (by omega) (by omega) ?_
    · intro M9 r k1 k2 k3 k4 k5 l1 l2
      exact K M9 r k1 k2 (hb_fr_t (q' := mz_q146) (fun a ha => ha) (hb_fr_t (q' := hd_o_q) (hb_wsub (by decide)) hb_fr_r gw) k3) (fun a ha => (k4 a ha).trans (g8 a ha)) (hb_same_t (q' := mz_q146) (fun j hj => hj) (hb_same_t (q' := hd_o_q) (fun j hj => rfl) hb_same_r ge) k5) l1 l2
    · first
      | exact .inl (by omega)
      | exact .inr ⟨by omega, by omega, by omega, fun j hj => by omega⟩
  · intro M' y4 y5 gs gx gw g8 ge
    intros
    have h0 := hb_rg gs (a := 245) (i := 0) rfl (by decide) hb_at1
    refine hd_l0 hd hz gs gx (by omega) ?_ 5 y4 y5 (by omega) (by omega) (by omega) ?_
    · intro M9 r k1 k2 k3 k4 k5 l1 l2
      exact K M9 r k1 k2 (hb_fr_t (q' := mz_q146) (fun a ha => ha) (hb_fr_t (q' := hd_o_q) (hb_wsub (by decide)) hb_fr_r gw) k3) (fun a ha => (k4 a ha).trans (g8 a ha)) (hb_same_t (q' := mz_q146) (fun j hj => hj) (hb_same_t (q' := hd_o_q) (fun j hj => rfl) hb_same_r ge) k5) l1 l2
    · first
      | exact .inl (by omega)
      | exact .inr ⟨by omega, by omega, by omega, fun j hj => by omega⟩
  · intro M' r gs gx gw g8 ge l1 l2
    exact K M' r gs gx (hb_fr_t (q' := hd_o_q) (hb_wsub (by decide)) hb_fr_r gw) g8 (hb_same_t (q' := hd_o_q) (fun j hj => rfl) hb_same_r ge) l1 l2
theorem hs_detail0 : mz_Ct mz_GG mq_PP HX mz_q146 1 := hc_detail0 hs_detail0_P
theorem hd_sp1 (k : Nat) (hk : k ≠ 21) (i : Nat) : (4 * 1 ≤ i → i < 4 * 1 + 4 → hsp k 246 i = false) ∧ hsp k 245 1 = false ∧ hsp k 247 i = false ∧ hsp k 248 i = false := by
  match k with
  | 0 | 1 | 2 | 3 | 4 | 5 | 6 | 7 | 8 | 9 | 10 | 11 | 12 | 13 | 14 | 15 | 16 | 17 | 18 | 19 | 20 | 21 | 22 | 23 | 24 | 25 | 26 | 27 | 28 | 29 => first | exact absurd rfl hk | exact ⟨fun h1 h2 => by simp [hsp] <;> omega, by simp [hsp], by simp [hsp], by simp [hsp]⟩
  | n + 30 => exact ⟨fun _ _ => rfl, rfl, rfl, rfl⟩
theorem hd_l1 {d z u : Nat} {Q : (Option Value ⊕ Nat) → mq_S → Prop} {M : Nat → mq_C} {x1 x2 x3 : Int32} (hd : 1 ≤ d) (hz : 272 ≤ z) (hm : mz_sh mz_GG M) (hx : HX M) (p1 : x1.toInt = 1)
    (K : ∀ (M' : Nat → mq_C) (r : Int32), mz_sh mz_GG M' → HX M' → mz_fr mz_q153 M M' → (∀ a, a < 8 → M' a = M a) → hb_same mz_GG mz_q153 M M' → 0 ≤ r.toInt → 0 ≤ 1 - r.toInt → Q (.inl (some (.int r))) (M', z, u)) : ∀ (m : Nat) (x4 x5 : Int32), (m : Int) + x5.toInt = 5 → 0 ≤ x5.toInt → x5.toInt ≤ hv M 245 1 → (x4.toInt = 0 ∨ x4.toInt = 1 ∧ 48 ≤ x3.toInt ∧ x3.toInt ≤ 51 ∧ ∀ j : Nat, (j : Int) < x5.toInt → hv M 246 (4 * 1 + j) ≠ x3.toInt - 48) → mq_R mq_PP d 136 28 [some (.ref 234), some (.int x1), some (.int x2), some (.int x3), some (.int x4), some (.int x5)] [] (M, z, u) Q := by
  intro m
  induction m with
  | zero =>
    intro x4 x5 e1 e2 e3 hn
    have := hb_rg hm (a := 245) (i := 1) rfl (by decide) hb_at1
    omega
  | succ m ih =>
    intro x4 x5 e1 e2 e3 hn
    refine he_iload (n := 30) (i := 5) (by decide +kernel) rfl ?_
    refine he_aload (n := 31) (i := 0) (by decide +kernel) rfl ?_
    refine he_getr (n := 34) (ci := 9) (j := 11) (ns := [4188, 41]) (b := 245) hm (by decide +kernel) rfl rfl (by decide +kernel) ?_
    refine he_iload (n := 35) (i := 1) (by decide +kernel) rfl ?_
    refine hb_ld (n := 36) (kind := 64) hm (by decide +kernel) rfl rfl (.inl rfl) (by omega) (show _ < (4 : Int) by omega) hb_at1 ?_
    intro v35 hv35 lv35 uv35
    have hon : hv M 245 1 = v35.toInt := by
      rw [← hv35, show x1.toInt.toNat = 1 by omega]
    by_cases h36 : v35.toInt ≤ x5.toInt
    · skip
      refine he_cmpge_t (n := 39) (t := 75) (by decide +kernel) (by omega) ?_
      refine he_iload (n := 77) (i := 4) (by decide +kernel) rfl ?_
      by_cases h77 : x4.toInt = 0
      · skip
        refine he_ifeq_t (n := 80) (t := 109) (by decide +kernel) (by omega) ?_
        refine hd_e HX_same hb_C1 hd hz hm hx rfl rfl ?_
        intro M9 r k1 k2 k3 k4 k5 l1 l2
        exact K M9 r k1 k2 (hb_fr_t (q' := hd_e_q) (fun a ha => rfl) hb_fr_r k3) k4 (hb_same_t (q' := hd_e_q) (fun j hj => rfl) hb_same_r k5) l1 l2
      · rcases hn with hn | ⟨hn0, hn1, hn2, hn3⟩
        · exact absurd hn h77
        refine he_ifeq_f (n := 80) (t := 109) (by decide +kernel) (by omega) ?_
        refine he_aload (n := 81) (i := 0) (by decide +kernel) rfl ?_
        refine he_getr (n := 84) (ci := 9) (j := 12) (ns := [4189, 44]) (b := 246) hm (by decide +kernel) rfl rfl (by decide +kernel) ?_
        refine he_iconst (n := 85) (c := 4) (by decide +kernel) (by decide) ?_
        intro c84 hc84
        refine he_iload (n := 86) (i := 1) (by decide +kernel) rfl ?_
        refine he_imul (n := 87) (p := 4 * x1.toInt) (by decide +kernel) (by rw [hc84]) (by omega) (by omega) ?_
        intro v86 hv86
        refine he_aload (n := 88) (i := 0) (by decide +kernel) rfl ?_
        refine he_getr (n := 91) (ci := 9) (j := 11) (ns := [4188, 41]) (b := 245) hm (by decide +kernel) rfl rfl (by decide +kernel) ?_
        refine he_iload (n := 92) (i := 1) (by decide +kernel) rfl ?_
        refine hb_ld (n := 93) (kind := 64) hm (by decide +kernel) rfl rfl (.inl rfl) (by omega) (show _ < (4 : Int) by omega) hb_at1 ?_
        intro v92 hv92 lv92 uv92
        refine he_iadd (n := 94) (by decide +kernel) (by omega) (by omega) ?_
        intro v93 hv93
        refine he_iload (n := 95) (i := 3) (by decide +kernel) rfl ?_
        refine he_iconst (n := 97) (c := 48) (by decide +kernel) (by decide) ?_
        intro c95 hc95
        refine he_isub (n := 98) (by decide +kernel) (by omega) (by omega) ?_
        intro v97 hv97
        have hroom : hv M 245 1 < 4 := hp_room (f := fun j => hv M 246 (4 * 1 + j)) (x := x3.toInt - 48) (by omega) (fun j hj => hb_rg hm rfl (show 4 * 1 + j < 16 by omega) hb_at1) ⟨by omega, by omega⟩ (hx 21) (fun j hj => hn3 j (by omega))
        have h92 : v92.toInt = v35.toInt := by omega
        refine hb_sta (n := 99) (kind := 64) hm (by decide +kernel) rfl rfl (.inl rfl) (by omega) (show _ < (16 : Int) by omega) ?_
        generalize hM1 : hb_set M 246 (v93.toInt.toNat) v97 = M1
        have hm1 : mz_sh mz_GG M1 := by rw [← hM1]; exact hb_set_sh hm rfl hb_at1 (by omega) (by omega)
        have eM1 : ∀ b j, b ≠ 246 ∨ j ≠ v93.toInt.toNat → hv M1 b j = hv M b j := by intro b j h; rw [← hM1]; exact hb_set_n h
        have sM1 : hv M1 246 (v93.toInt.toNat) = v97.toInt := by rw [← hM1]; exact hb_set_v hm rfl (show _ < 16 by omega)
        have wM1 : ∀ b, b ≠ 246 → M1 b = M b := by intro b h; rw [← hM1]; exact hb_set_c h
        refine he_aload (n := 100) (i := 0) (by decide +kernel) rfl ?_
        refine he_getr (n := 103) (ci := 9) (j := 11) (ns := [4188, 41]) (b := 245) hm1 (by decide +kernel) rfl rfl (by decide +kernel) ?_
        refine he_iload (n := 104) (i := 1) (by decide +kernel) rfl ?_
        refine he_dup2 (n := 105) (by decide +kernel) ?_
        refine hb_ld (n := 106) (kind := 64) hm1 (by decide +kernel) rfl rfl (.inl rfl) (by omega) (show _ < (4 : Int) by omega) hb_at1 ?_
        intro v105 hv105 lv105 uv105
        refine he_iconst (n := 107) (c := 1) (by decide +kernel) (by decide) ?_
        intro c106 hc106
        refine he_iadd (n := 108) (by decide +kernel) (by omega) (by omega) ?_
        intro v107 hv107
        have h105 : v105.toInt = v35.toInt := by
          rw [← hv105, eM1 _ _ (.inl (by decide)), show x1.toInt.toNat = 1 by omega]
          exact hon
        refine hb_sta (n := 109) (kind := 64) hm1 (by decide +kernel) rfl rfl (.inl rfl) (by omega) (show _ < (4 : Int) by omega) ?_
        generalize hM2 : hb_set M1 245 (x1.toInt.toNat) v107 = M2
        have hm2 : mz_sh mz_GG M2 := by rw [← hM2]; exact hb_set_sh hm1 rfl hb_at1 (by omega) (by omega)
        have eM2 : ∀ b j, b ≠ 245 ∨ j ≠ x1.toInt.toNat → hv M2 b j = hv M1 b j := by intro b j h; rw [← hM2]; exact hb_set_n h
        have sM2 : hv M2 245 (x1.toInt.toNat) = v107.toInt := by rw [← hM2]; exact hb_set_v hm1 rfl (show _ < 4 by omega)
        have wM2 : ∀ b, b ≠ 245 → M2 b = M1 b := by intro b h; rw [← hM2]; exact hb_set_c h
        have hx2 : HX M2 := by
          intro k
          by_cases e : k = 21
          · subst e
            show hxd (hv M2 245 1) (fun i => hv M2 246 (4 * 1 + i))
            have g1 : hv M2 245 1 = hv M 245 1 + 1 := by
              have := sM2
              rw [show x1.toInt.toNat = 1 by omega] at this
              rw [this]
              omega
            rw [g1]
            refine hp_add (f := fun j => hv M 246 (4 * 1 + j)) (x := x3.toInt - 48) (by omega) (hx 21) (fun j hj => hn3 j (by omega)) ?_ ?_
            · show hv M2 246 (4 * 1 + (hv M 245 1).toNat) = _
              rw [eM2 _ _ (.inl (by decide)), show 4 * 1 + (hv M 245 1).toNat = v93.toInt.toNat by omega, sM1]
              omega
            · intro j hj
              show hv M2 246 (4 * 1 + j) = hv M 246 (4 * 1 + j)
              rw [eM2 _ _ (.inl (by decide)), eM1 _ _ (.inr (by omega))]
          · rw [← hM2]
            refine hxk_s ?_ ?_
            · rw [show x1.toInt.toNat = 1 by omega]
              exact (hd_sp1 k e 0).2.1
            · rw [← hM1]
              exact hxk_s ((hd_sp1 k e _).1 (by omega) (by omega)) (hx k)
        have ho2 : hb_only [245, 246] M M2 := hb_only_s (hb_only_s hb_only_r (by decide) wM1) (by decide) wM2
        refine hd_e HX_same hb_C1 hd hz hm2 hx2 rfl rfl ?_
        intro M9 r k1 k2 k3 k4 k5 l1 l2
        exact K M9 r k1 k2 (hb_fr_t (q' := hd_e_q) (fun a ha => rfl) (hb_only_fr ho2 (by decide)) k3) (fun a ha => (k4 a ha).trans (hb_low ho2 (by decide) a ha)) (hb_same_t (q' := hd_e_q) (fun j hj => rfl) (hb_only_same ho2 (by decide +kernel)) k5) l1 l2
    · skip
      refine he_cmpge_f (n := 39) (t := 75) (by decide +kernel) (by omega) ?_
      refine he_iload (n := 41) (i := 4) (by decide +kernel) rfl ?_
      by_cases h41 : x4.toInt = 0
      · skip
        refine he_ifeq_t (n := 44) (t := 66) (by decide +kernel) (by omega) ?_
        refine he_iconst (n := 67) (c := 0) (by decide +kernel) (by decide) ?_
        intro c66 hc66
        refine he_istore (n := 69) (i := 4) (by decide +kernel) rfl ?_
        refine he_iinc (n := 72) (i := 5) (c := 1) (L' := fun v => [some (.ref 234), some (.int x1), some (.int x2), some (.int x3), some (.int c66), some (.int v)]) (by decide +kernel) (by decide) rfl (fun _ => rfl) (by omega) (by omega) ?_
        intro i69 hi69
        refine he_goto (t := 28) (by decide +kernel) ?_
        exact ih c66 i69 (by omega) (by omega) (by omega) (.inl (by omega))
      · rcases hn with hn | ⟨hn0, hn1, hn2, hn3⟩
        · exact absurd hn h41
        refine he_ifeq_f (n := 44) (t := 66) (by decide +kernel) (by omega) ?_
        refine he_aload (n := 45) (i := 0) (by decide +kernel) rfl ?_
        refine he_getr (n := 48) (ci := 9) (j := 12) (ns := [4189, 44]) (b := 246) hm (by decide +kernel) rfl rfl (by decide +kernel) ?_
        refine he_iconst (n := 49) (c := 4) (by decide +kernel) (by decide) ?_
        intro c48 hc48
        refine he_iload (n := 50) (i := 1) (by decide +kernel) rfl ?_
        refine he_imul (n := 51) (p := 4 * x1.toInt) (by decide +kernel) (by rw [hc48]) (by omega) (by omega) ?_
        intro v50 hv50
        refine he_iload (n := 53) (i := 5) (by decide +kernel) rfl ?_
        refine he_iadd (n := 54) (by decide +kernel) (by omega) (by omega) ?_
        intro v53 hv53
        refine hb_ld (n := 55) (kind := 64) hm (by decide +kernel) rfl rfl (.inl rfl) (by omega) (show _ < (16 : Int) by omega) hb_at1 ?_
        intro v54 hv54 lv54 uv54
        refine he_iload (n := 56) (i := 3) (by decide +kernel) rfl ?_
        refine he_iconst (n := 58) (c := 48) (by decide +kernel) (by decide) ?_
        intro c56 hc56
        refine he_isub (n := 59) (by decide +kernel) (by omega) (by omega) ?_
        intro v58 hv58
        by_cases h59 : v54.toInt = v58.toInt
        · skip
          refine he_cmpeq_t (n := 62) (t := 66) (by decide +kernel) (by omega) ?_
          refine he_iconst (n := 67) (c := 0) (by decide +kernel) (by decide) ?_
          intro c66 hc66
          refine he_istore (n := 69) (i := 4) (by decide +kernel) rfl ?_
          refine he_iinc (n := 72) (i := 5) (c := 1) (L' := fun v => [some (.ref 234), some (.int x1), some (.int x2), some (.int x3), some (.int c66), some (.int v)]) (by decide +kernel) (by decide) rfl (fun _ => rfl) (by omega) (by omega) ?_
          intro i69 hi69
          refine he_goto (t := 28) (by decide +kernel) ?_
          exact ih c66 i69 (by omega) (by omega) (by omega) (.inl (by omega))
        · skip
          refine he_cmpeq_f (n := 62) (t := 66) (by decide +kernel) (by omega) ?_
          refine he_iconst (n := 63) (c := 1) (by decide +kernel) (by decide) ?_
          intro c62 hc62
          refine he_goto (t := 67) (by decide +kernel) ?_
          refine he_istore (n := 69) (i := 4) (by decide +kernel) rfl ?_
          refine he_iinc (n := 72) (i := 5) (c := 1) (L' := fun v => [some (.ref 234), some (.int x1), some (.int x2), some (.int x3), some (.int c62), some (.int v)]) (by decide +kernel) (by decide) rfl (fun _ => rfl) (by omega) (by omega) ?_
          intro i69 hi69
          refine he_goto (t := 28) (by decide +kernel) ?_
          refine ih c62 i69 (by omega) (by omega) (by omega) (.inr ⟨by omega, hn1, hn2, fun j hj => ?_⟩)
          by_cases e : (j : Int) = x5.toInt
          · rw [show 4 * 1 + j = v53.toInt.toNat by omega, hv54]
            omega
          · exact hn3 j (by omega)
theorem hs_detail1_P : hc_detail1_P := by
  intro d z u M Q x1 x2 x3 hd hz hm hx p1 p2 K
  refine hd_o HX_same hb_C1 hd hz hm hx rfl rfl (by omega) (by omega) ?_ ?_ ?_ ?_
  · intro M' y4 y5 gs gx gw g8 ge
    intros
    have h0 := hb_rg gs (a := 245) (i := 1) rfl (by decide) hb_at1
    refine hd_l1 hd hz gs gx (by omega) ?_ 5 y4 y5 (by omega) (by omega) (by omega) ?_
    · intro M9 r k1 k2 k3 k4 k5 l1 l2
      exact K M9 r k1 k2 (hb_fr_t (q' := mz_q153) (fun a ha => ha) (hb_fr_t (q' := hd_o_q) (hb_wsub (by decide)) hb_fr_r gw) k3) (fun a ha => (k4 a ha).trans (g8 a ha)) (hb_same_t (q' := mz_q153) (fun j hj => hj) (hb_same_t (q' := hd_o_q) (fun j hj => rfl) hb_same_r ge) k5) l1 l2
    · first
      | exact .inl (by omega)
      | exact .inr ⟨by omega, by omega, by omega, fun j hj => by omega⟩
  · intro M' y4 y5 gs gx gw g8 ge
    intros
    have h0 := hb_rg gs (a := 245) (i := 1) rfl (by decide) hb_at1
    refine hd_l1 hd hz gs gx (by omega) ?_ 5 y4 y5 (by omega) (by omega) (by omega) ?_
    · intro M9 r k1 k2 k3 k4 k5 l1 l2
      exact K M9 r k1 k2 (hb_fr_t (q' := mz_q153) (fun a ha => ha) (hb_fr_t (q' := hd_o_q) (hb_wsub (by decide)) hb_fr_r gw) k3) (fun a ha => (k4 a ha).trans (g8 a ha)) (hb_same_t (q' := mz_q153) (fun j hj => hj) (hb_same_t (q' := hd_o_q) (fun j hj => rfl) hb_same_r ge) k5) l1 l2
    · first
      | exact .inl (by omega)
      | exact .inr ⟨by omega, by omega, by omega, fun j hj => by omega⟩
  · intro M' y4 y5 gs gx gw g8 ge
    intros
    have h0 := hb_rg gs (a := 245) (i := 1) rfl (by decide) hb_at1
    refine hd_l1 hd hz gs gx (by omega) ?_ 5 y4 y5 (by omega) (by omega) (by omega) ?_
    · intro M9 r k1 k2 k3 k4 k5 l1 l2
      exact K M9 r k1 k2 (hb_fr_t (q' := mz_q153) (fun a ha => ha) (hb_fr_t (q' := hd_o_q) (hb_wsub (by decide)) hb_fr_r gw) k3) (fun a ha => (k4 a ha).trans (g8 a ha)) (hb_same_t (q' := mz_q153) (fun j hj => hj) (hb_same_t (q' := hd_o_q) (fun j hj => rfl) hb_same_r ge) k5) l1 l2
    · first
      | exact .inl (by omega)
      | exact .inr ⟨by omega, by omega, by omega, fun j hj => by omega⟩
  · intro M' r gs gx gw g8 ge l1 l2
    exact K M' r gs gx (hb_fr_t (q' := hd_o_q) (hb_wsub (by decide)) hb_fr_r gw) g8 (hb_same_t (q' := hd_o_q) (fun j hj => rfl) hb_same_r ge) l1 l2
theorem hs_detail1 : mz_Ct mz_GG mq_PP HX mz_q153 1 := hc_detail1 hs_detail1_P
theorem hd_sp2 (k : Nat) (hk : k ≠ 22) (i : Nat) : (4 * 2 ≤ i → i < 4 * 2 + 4 → hsp k 246 i = false) ∧ hsp k 245 2 = false ∧ hsp k 247 i = false ∧ hsp k 248 i = false := by
  match k with
  | 0 | 1 | 2 | 3 | 4 | 5 | 6 | 7 | 8 | 9 | 10 | 11 | 12 | 13 | 14 | 15 | 16 | 17 | 18 | 19 | 20 | 21 | 22 | 23 | 24 | 25 | 26 | 27 | 28 | 29 => first | exact absurd rfl hk | exact ⟨fun h1 h2 => by simp [hsp] <;> omega, by simp [hsp], by simp [hsp], by simp [hsp]⟩
  | n + 30 => exact ⟨fun _ _ => rfl, rfl, rfl, rfl⟩
theorem hd_l2 {d z u : Nat} {Q : (Option Value ⊕ Nat) → mq_S → Prop} {M : Nat → mq_C} {x1 x2 x3 : Int32} (hd : 1 ≤ d) (hz : 272 ≤ z) (hm : mz_sh mz_GG M) (hx : HX M) (p1 : x1.toInt = 2)
    (K : ∀ (M' : Nat → mq_C) (r : Int32), mz_sh mz_GG M' → HX M' → mz_fr mz_q160 M M' → (∀ a, a < 8 → M' a = M a) → hb_same mz_GG mz_q160 M M' → 0 ≤ r.toInt → 0 ≤ 1 - r.toInt → Q (.inl (some (.int r))) (M', z, u)) : ∀ (m : Nat) (x4 x5 : Int32), (m : Int) + x5.toInt = 5 → 0 ≤ x5.toInt → x5.toInt ≤ hv M 245 2 → (x4.toInt = 0 ∨ x4.toInt = 1 ∧ 48 ≤ x3.toInt ∧ x3.toInt ≤ 51 ∧ ∀ j : Nat, (j : Int) < x5.toInt → hv M 246 (4 * 2 + j) ≠ x3.toInt - 48) → mq_R mq_PP d 136 28 [some (.ref 234), some (.int x1), some (.int x2), some (.int x3), some (.int x4), some (.int x5)] [] (M, z, u) Q := by
  intro m
  induction m with
  | zero =>
    intro x4 x5 e1 e2 e3 hn
    have := hb_rg hm (a := 245) (i := 2) rfl (by decide) hb_at1
    omega
  | succ m ih =>
    intro x4 x5 e1 e2 e3 hn
    refine he_iload (n := 30) (i := 5) (by decide +kernel) rfl ?_
    refine he_aload (n := 31) (i := 0) (by decide +kernel) rfl ?_
    refine he_getr (n := 34) (ci := 9) (j := 11) (ns := [4188, 41]) (b := 245) hm (by decide +kernel) rfl rfl (by decide +kernel) ?_
    refine he_iload (n := 35) (i := 1) (by decide +kernel) rfl ?_
    refine hb_ld (n := 36) (kind := 64) hm (by decide +kernel) rfl rfl (.inl rfl) (by omega) (show _ < (4 : Int) by omega) hb_at1 ?_
    intro v35 hv35 lv35 uv35
    have hon : hv M 245 2 = v35.toInt := by
      rw [← hv35, show x1.toInt.toNat = 2 by omega]
    by_cases h36 : v35.toInt ≤ x5.toInt
    · skip
      refine he_cmpge_t (n := 39) (t := 75) (by decide +kernel) (by omega) ?_
      refine he_iload (n := 77) (i := 4) (by decide +kernel) rfl ?_
      by_cases h77 : x4.toInt = 0
      · skip
        refine he_ifeq_t (n := 80) (t := 109) (by decide +kernel) (by omega) ?_
        refine hd_e HX_same hb_C1 hd hz hm hx rfl rfl ?_
        intro M9 r k1 k2 k3 k4 k5 l1 l2
        exact K M9 r k1 k2 (hb_fr_t (q' := hd_e_q) (fun a ha => rfl) hb_fr_r k3) k4 (hb_same_t (q' := hd_e_q) (fun j hj => rfl) hb_same_r k5) l1 l2
      · rcases hn with hn | ⟨hn0, hn1, hn2, hn3⟩
        · exact absurd hn h77
        refine he_ifeq_f (n := 80) (t := 109) (by decide +kernel) (by omega) ?_
        refine he_aload (n := 81) (i := 0) (by decide +kernel) rfl ?_
        refine he_getr (n := 84) (ci := 9) (j := 12) (ns := [4189, 44]) (b := 246) hm (by decide +kernel) rfl rfl (by decide +kernel) ?_
        refine he_iconst (n := 85) (c := 4) (by decide +kernel) (by decide) ?_
        intro c84 hc84
        refine he_iload (n := 86) (i := 1) (by decide +kernel) rfl ?_
        refine he_imul (n := 87) (p := 4 * x1.toInt) (by decide +kernel) (by rw [hc84]) (by omega) (by omega) ?_
        intro v86 hv86
        refine he_aload (n := 88) (i := 0) (by decide +kernel) rfl ?_
        refine he_getr (n := 91) (ci := 9) (j := 11) (ns := [4188, 41]) (b := 245) hm (by decide +kernel) rfl rfl (by decide +kernel) ?_
        refine he_iload (n := 92) (i := 1) (by decide +kernel) rfl ?_
        refine hb_ld (n := 93) (kind := 64) hm (by decide +kernel) rfl rfl (.inl rfl) (by omega) (show _ < (4 : Int) by omega) hb_at1 ?_
        intro v92 hv92 lv92 uv92
        refine he_iadd (n := 94) (by decide +kernel) (by omega) (by omega) ?_
        intro v93 hv93
        refine he_iload (n := 95) (i := 3) (by decide +kernel) rfl ?_
        refine he_iconst (n := 97) (c := 48) (by decide +kernel) (by decide) ?_
        intro c95 hc95
        refine he_isub (n := 98) (by decide +kernel) (by omega) (by omega) ?_
        intro v97 hv97
        have hroom : hv M 245 2 < 4 := hp_room (f := fun j => hv M 246 (4 * 2 + j)) (x := x3.toInt - 48) (by omega) (fun j hj => hb_rg hm rfl (show 4 * 2 + j < 16 by omega) hb_at1) ⟨by omega, by omega⟩ (hx 22) (fun j hj => hn3 j (by omega))
        have h92 : v92.toInt = v35.toInt := by omega
        refine hb_sta (n := 99) (kind := 64) hm (by decide +kernel) rfl rfl (.inl rfl) (by omega) (show _ < (16 : Int) by omega) ?_
        generalize hM1 : hb_set M 246 (v93.toInt.toNat) v97 = M1
        have hm1 : mz_sh mz_GG M1 := by rw [← hM1]; exact hb_set_sh hm rfl hb_at1 (by omega) (by omega)
        have eM1 : ∀ b j, b ≠ 246 ∨ j ≠ v93.toInt.toNat → hv M1 b j = hv M b j := by intro b j h; rw [← hM1]; exact hb_set_n h
        have sM1 : hv M1 246 (v93.toInt.toNat) = v97.toInt := by rw [← hM1]; exact hb_set_v hm rfl (show _ < 16 by omega)
        have wM1 : ∀ b, b ≠ 246 → M1 b = M b := by intro b h; rw [← hM1]; exact hb_set_c h
        refine he_aload (n := 100) (i := 0) (by decide +kernel) rfl ?_
        refine he_getr (n := 103) (ci := 9) (j := 11) (ns := [4188, 41]) (b := 245) hm1 (by decide +kernel) rfl rfl (by decide +kernel) ?_
        refine he_iload (n := 104) (i := 1) (by decide +kernel) rfl ?_
        refine he_dup2 (n := 105) (by decide +kernel) ?_
        refine hb_ld (n := 106) (kind := 64) hm1 (by decide +kernel) rfl rfl (.inl rfl) (by omega) (show _ < (4 : Int) by omega) hb_at1 ?_
        intro v105 hv105 lv105 uv105
        refine he_iconst (n := 107) (c := 1) (by decide +kernel) (by decide) ?_
        intro c106 hc106
        refine he_iadd (n := 108) (by decide +kernel) (by omega) (by omega) ?_
        intro v107 hv107
        have h105 : v105.toInt = v35.toInt := by
          rw [← hv105, eM1 _ _ (.inl (by decide)), show x1.toInt.toNat = 2 by omega]
          exact hon
        refine hb_sta (n := 109) (kind := 64) hm1 (by decide +kernel) rfl rfl (.inl rfl) (by omega) (show _ < (4 : Int) by omega) ?_
        generalize hM2 : hb_set M1 245 (x1.toInt.toNat) v107 = M2
        have hm2 : mz_sh mz_GG M2 := by rw [← hM2]; exact hb_set_sh hm1 rfl hb_at1 (by omega) (by omega)
        have eM2 : ∀ b j, b ≠ 245 ∨ j ≠ x1.toInt.toNat → hv M2 b j = hv M1 b j := by intro b j h; rw [← hM2]; exact hb_set_n h
        have sM2 : hv M2 245 (x1.toInt.toNat) = v107.toInt := by rw [← hM2]; exact hb_set_v hm1 rfl (show _ < 4 by omega)
        have wM2 : ∀ b, b ≠ 245 → M2 b = M1 b := by intro b h; rw [← hM2]; exact hb_set_c h
        have hx2 : HX M2 := by
          intro k
          by_cases e : k = 22
          · subst e
            show hxd (hv M2 245 2) (fun i => hv M2 246 (4 * 2 + i))
            have g1 : hv M2 245 2 = hv M 245 2 + 1 := by
              have := sM2
              rw [show x1.toInt.toNat = 2 by omega] at this
              rw [this]
              omega
            rw [g1]
            refine hp_add (f := fun j => hv M 246 (4 * 2 + j)) (x := x3.toInt - 48) (by omega) (hx 22) (fun j hj => hn3 j (by omega)) ?_ ?_
            · show hv M2 246 (4 * 2 + (hv M 245 2).toNat) = _
              rw [eM2 _ _ (.inl (by decide)), show 4 * 2 + (hv M 245 2).toNat = v93.toInt.toNat by omega, sM1]
              omega
            · intro j hj
              show hv M2 246 (4 * 2 + j) = hv M 246 (4 * 2 + j)
              rw [eM2 _ _ (.inl (by decide)), eM1 _ _ (.inr (by omega))]
          · rw [← hM2]
            refine hxk_s ?_ ?_
            · rw [show x1.toInt.toNat = 2 by omega]
              exact (hd_sp2 k e 0).2.1
            · rw [← hM1]
              exact hxk_s ((hd_sp2 k e _).1 (by omega) (by omega)) (hx k)
        have ho2 : hb_only [245, 246] M M2 := hb_only_s (hb_only_s hb_only_r (by decide) wM1) (by decide) wM2
        refine hd_e HX_same hb_C1 hd hz hm2 hx2 rfl rfl ?_
        intro M9 r k1 k2 k3 k4 k5 l1 l2
        exact K M9 r k1 k2 (hb_fr_t (q' := hd_e_q) (fun a ha => rfl) (hb_only_fr ho2 (by decide)) k3) (fun a ha => (k4 a ha).trans (hb_low ho2 (by decide) a ha)) (hb_same_t (q' := hd_e_q) (fun j hj => rfl) (hb_only_same ho2 (by decide +kernel)) k5) l1 l2
    · skip
      refine he_cmpge_f (n := 39) (t := 75) (by decide +kernel) (by omega) ?_
      refine he_iload (n := 41) (i := 4) (by decide +kernel) rfl ?_
      by_cases h41 : x4.toInt = 0
      · skip
        refine he_ifeq_t (n := 44) (t := 66) (by decide +kernel) (by omega) ?_
        refine he_iconst (n := 67) (c := 0) (by decide +kernel) (by decide) ?_
        intro c66 hc66
        refine he_istore (n := 69) (i := 4) (by decide +kernel) rfl ?_
        refine he_iinc (n := 72) (i := 5) (c := 1) (L' := fun v => [some (.ref 234), some (.int x1), some (.int x2), some (.int x3), some (.int c66), some (.int v)]) (by decide +kernel) (by decide) rfl (fun _ => rfl) (by omega) (by omega) ?_
        intro i69 hi69
        refine he_goto (t := 28) (by decide +kernel) ?_
        exact ih c66 i69 (by omega) (by omega) (by omega) (.inl (by omega))
      · rcases hn with hn | ⟨hn0, hn1, hn2, hn3⟩
        · exact absurd hn h41
        refine he_ifeq_f (n := 44) (t := 66) (by decide +kernel) (by omega) ?_
        refine he_aload (n := 45) (i := 0) (by decide +kernel) rfl ?_
        refine he_getr (n := 48) (ci := 9) (j := 12) (ns := [4189, 44]) (b := 246) hm (by decide +kernel) rfl rfl (by decide +kernel) ?_
        refine he_iconst (n := 49) (c := 4) (by decide +kernel) (by decide) ?_
        intro c48 hc48
        refine he_iload (n := 50) (i := 1) (by decide +kernel) rfl ?_
        refine he_imul (n := 51) (p := 4 * x1.toInt) (by decide +kernel) (by rw [hc48]) (by omega) (by omega) ?_
        intro v50 hv50
        refine he_iload (n := 53) (i := 5) (by decide +kernel) rfl ?_
        refine he_iadd (n := 54) (by decide +kernel) (by omega) (by omega) ?_
        intro v53 hv53
        refine hb_ld (n := 55) (kind := 64) hm (by decide +kernel) rfl rfl (.inl rfl) (by omega) (show _ < (16 : Int) by omega) hb_at1 ?_
        intro v54 hv54 lv54 uv54
        refine he_iload (n := 56) (i := 3) (by decide +kernel) rfl ?_
        refine he_iconst (n := 58) (c := 48) (by decide +kernel) (by decide) ?_
        intro c56 hc56
        refine he_isub (n := 59) (by decide +kernel) (by omega) (by omega) ?_
        intro v58 hv58
        by_cases h59 : v54.toInt = v58.toInt
        · skip
          refine he_cmpeq_t (n := 62) (t := 66) (by decide +kernel) (by omega) ?_
          refine he_iconst (n := 67) (c := 0) (by decide +kernel) (by decide) ?_
          intro c66 hc66
          refine he_istore (n := 69) (i := 4) (by decide +kernel) rfl ?_
          refine he_iinc (n := 72) (i := 5) (c := 1) (L' := fun v => [some (.ref 234), some (.int x1), some (.int x2), some (.int x3), some (.int c66), some (.int v)]) (by decide +kernel) (by decide) rfl (fun _ => rfl) (by omega) (by omega) ?_
          intro i69 hi69
          refine he_goto (t := 28) (by decide +kernel) ?_
          exact ih c66 i69 (by omega) (by omega) (by omega) (.inl (by omega))
        · skip
          refine he_cmpeq_f (n := 62) (t := 66) (by decide +kernel) (by omega) ?_
          refine he_iconst (n := 63) (c := 1) (by decide +kernel) (by decide) ?_
          intro c62 hc62
          refine he_goto (t := 67) (by decide +kernel) ?_
          refine he_istore (n := 69) (i := 4) (by decide +kernel) rfl ?_
          refine he_iinc (n := 72) (i := 5) (c := 1) (L' := fun v => [some (.ref 234), some (.int x1), some (.int x2), some (.int x3), some (.int c62), some (.int v)]) (by decide +kernel) (by decide) rfl (fun _ => rfl) (by omega) (by omega) ?_
          intro i69 hi69
          refine he_goto (t := 28) (by decide +kernel) ?_
          refine ih c62 i69 (by omega) (by omega) (by omega) (.inr ⟨by omega, hn1, hn2, fun j hj => ?_⟩)
          by_cases e : (j : Int) = x5.toInt
          · rw [show 4 * 2 + j = v53.toInt.toNat by omega, hv54]
            omega
          · exact hn3 j (by omega)
theorem hs_detail2_P : hc_detail2_P := by
  intro d z u M Q x1 x2 x3 hd hz hm hx p1 p2 K
  refine hd_o HX_same hb_C1 hd hz hm hx rfl rfl (by omega) (by omega) ?_ ?_ ?_ ?_
  · intro M' y4 y5 gs gx gw g8 ge
    intros
    have h0 := hb_rg gs (a := 245) (i := 2) rfl (by decide) hb_at1
    refine hd_l2 hd hz gs gx (by omega) ?_ 5 y4 y5 (by omega) (by omega) (by omega) ?_
    · intro M9 r k1 k2 k3 k4 k5 l1 l2
      exact K M9 r k1 k2 (hb_fr_t (q' := mz_q160) (fun a ha => ha) (hb_fr_t (q' := hd_o_q) (hb_wsub (by decide)) hb_fr_r gw) k3) (fun a ha => (k4 a ha).trans (g8 a ha)) (hb_same_t (q' := mz_q160) (fun j hj => hj) (hb_same_t (q' := hd_o_q) (fun j hj => rfl) hb_same_r ge) k5) l1 l2
    · first
      | exact .inl (by omega)
      | exact .inr ⟨by omega, by omega, by omega, fun j hj => by omega⟩
  · intro M' y4 y5 gs gx gw g8 ge
    intros
    have h0 := hb_rg gs (a := 245) (i := 2) rfl (by decide) hb_at1
    refine hd_l2 hd hz gs gx (by omega) ?_ 5 y4 y5 (by omega) (by omega) (by omega) ?_
    · intro M9 r k1 k2 k3 k4 k5 l1 l2
      exact K M9 r k1 k2 (hb_fr_t (q' := mz_q160) (fun a ha => ha) (hb_fr_t (q' := hd_o_q) (hb_wsub (by decide)) hb_fr_r gw) k3) (fun a ha => (k4 a ha).trans (g8 a ha)) (hb_same_t (q' := mz_q160) (fun j hj => hj) (hb_same_t (q' := hd_o_q) (fun j hj => rfl) hb_same_r ge) k5) l1 l2
    · first
      | exact .inl (by omega)
      | exact .inr ⟨by omega, by omega, by omega, fun j hj => by omega⟩
  · intro M' y4 y5 gs gx gw g8 ge
    intros
    have h0 := hb_rg gs (a := 245) (i := 2) rfl (by decide) hb_at1
    refine hd_l2 hd hz gs gx (by omega) ?_ 5 y4 y5 (by omega) (by omega) (by omega) ?_
    · intro M9 r k1 k2 k3 k4 k5 l1 l2
      exact K M9 r k1 k2 (hb_fr_t (q' := mz_q160) (fun a ha => ha) (hb_fr_t (q' := hd_o_q) (hb_wsub (by decide)) hb_fr_r gw) k3) (fun a ha => (k4 a ha).trans (g8 a ha)) (hb_same_t (q' := mz_q160) (fun j hj => hj) (hb_same_t (q' := hd_o_q) (fun j hj => rfl) hb_same_r ge) k5) l1 l2
    · first
      | exact .inl (by omega)
      | exact .inr ⟨by omega, by omega, by omega, fun j hj => by omega⟩
  · intro M' r gs gx gw g8 ge l1 l2
    exact K M' r gs gx (hb_fr_t (q' := hd_o_q) (hb_wsub (by decide)) hb_fr_r gw) g8 (hb_same_t (q' := hd_o_q) (fun j hj => rfl) hb_same_r ge) l1 l2
theorem hs_detail2 : mz_Ct mz_GG mq_PP HX mz_q160 1 := hc_detail2 hs_detail2_P
theorem hd_sp3 (k : Nat) (hk : k ≠ 23) (i : Nat) : (4 * 3 ≤ i → i < 4 * 3 + 4 → hsp k 246 i = false) ∧ hsp k 245 3 = false ∧ hsp k 247 i = false ∧ hsp k 248 i = false := by
  match k with
  | 0 | 1 | 2 | 3 | 4 | 5 | 6 | 7 | 8 | 9 | 10 | 11 | 12 | 13 | 14 | 15 | 16 | 17 | 18 | 19 | 20 | 21 | 22 | 23 | 24 | 25 | 26 | 27 | 28 | 29 => first | exact absurd rfl hk | exact ⟨fun h1 h2 => by simp [hsp] <;> omega, by simp [hsp], by simp [hsp], by simp [hsp]⟩
  | n + 30 => exact ⟨fun _ _ => rfl, rfl, rfl, rfl⟩
theorem hd_l3 {d z u : Nat} {Q : (Option Value ⊕ Nat) → mq_S → Prop} {M : Nat → mq_C} {x1 x2 x3 : Int32} (hd : 1 ≤ d) (hz : 272 ≤ z) (hm : mz_sh mz_GG M) (hx : HX M) (p1 : x1.toInt = 3)
    (K : ∀ (M' : Nat → mq_C) (r : Int32), mz_sh mz_GG M' → HX M' → mz_fr mz_q167 M M' → (∀ a, a < 8 → M' a = M a) → hb_same mz_GG mz_q167 M M' → 0 ≤ r.toInt → 0 ≤ 1 - r.toInt → Q (.inl (some (.int r))) (M', z, u)) : ∀ (m : Nat) (x4 x5 : Int32), (m : Int) + x5.toInt = 5 → 0 ≤ x5.toInt → x5.toInt ≤ hv M 245 3 → (x4.toInt = 0 ∨ x4.toInt = 1 ∧ 48 ≤ x3.toInt ∧ x3.toInt ≤ 51 ∧ ∀ j : Nat, (j : Int) < x5.toInt → hv M 246 (4 * 3 + j) ≠ x3.toInt - 48) → mq_R mq_PP d 136 28 [some (.ref 234), some (.int x1), some (.int x2), some (.int x3), some (.int x4), some (.int x5)] [] (M, z, u) Q := by
  intro m
  induction m with
  | zero =>
    intro x4 x5 e1 e2 e3 hn
    have := hb_rg hm (a := 245) (i := 3) rfl (by decide) hb_at1
    omega
  | succ m ih =>
    intro x4 x5 e1 e2 e3 hn
    refine he_iload (n := 30) (i := 5) (by decide +kernel) rfl ?_
    refine he_aload (n := 31) (i := 0) (by decide +kernel) rfl ?_
    refine he_getr (n := 34) (ci := 9) (j := 11) (ns := [4188, 41]) (b := 245) hm (by decide +kernel) rfl rfl (by decide +kernel) ?_
    refine he_iload (n := 35) (i := 1) (by decide +kernel) rfl ?_
    refine hb_ld (n := 36) (kind := 64) hm (by decide +kernel) rfl rfl (.inl rfl) (by omega) (show _ < (4 : Int) by omega) hb_at1 ?_
    intro v35 hv35 lv35 uv35
    have hon : hv M 245 3 = v35.toInt := by
      rw [← hv35, show x1.toInt.toNat = 3 by omega]
    by_cases h36 : v35.toInt ≤ x5.toInt
    · skip
      refine he_cmpge_t (n := 39) (t := 75) (by decide +kernel) (by omega) ?_
      refine he_iload (n := 77) (i := 4) (by decide +kernel) rfl ?_
      by_cases h77 : x4.toInt = 0
      · skip
        refine he_ifeq_t (n := 80) (t := 109) (by decide +kernel) (by omega) ?_
        refine hd_e HX_same hb_C1 hd hz hm hx rfl rfl ?_
        intro M9 r k1 k2 k3 k4 k5 l1 l2
        exact K M9 r k1 k2 (hb_fr_t (q' := hd_e_q) (fun a ha => rfl) hb_fr_r k3) k4 (hb_same_t (q' := hd_e_q) (fun j hj => rfl) hb_same_r k5) l1 l2
      · rcases hn with hn | ⟨hn0, hn1, hn2, hn3⟩
        · exact absurd hn h77
        refine he_ifeq_f (n := 80) (t := 109) (by decide +kernel) (by omega) ?_
        refine he_aload (n := 81) (i := 0) (by decide +kernel) rfl ?_
        refine he_getr (n := 84) (ci := 9) (j := 12) (ns := [4189, 44]) (b := 246) hm (by decide +kernel) rfl rfl (by decide +kernel) ?_
        refine he_iconst (n := 85) (c := 4) (by decide +kernel) (by decide) ?_
        intro c84 hc84
        refine he_iload (n := 86) (i := 1) (by decide +kernel) rfl ?_
        refine he_imul (n := 87) (p := 4 * x1.toInt) (by decide +kernel) (by rw [hc84]) (by omega) (by omega) ?_
        intro v86 hv86
        refine he_aload (n := 88) (i := 0) (by decide +kernel) rfl ?_
        refine he_getr (n := 91) (ci := 9) (j := 11) (ns := [4188, 41]) (b := 245) hm (by decide +kernel) rfl rfl (by decide +kernel) ?_
        refine he_iload (n := 92) (i := 1) (by decide +kernel) rfl ?_
        refine hb_ld (n := 93) (kind := 64) hm (by decide +kernel) rfl rfl (.inl rfl) (by omega) (show _ < (4 : Int) by omega) hb_at1 ?_
        intro v92 hv92 lv92 uv92
        refine he_iadd (n := 94) (by decide +kernel) (by omega) (by omega) ?_
        intro v93 hv93
        refine he_iload (n := 95) (i := 3) (by decide +kernel) rfl ?_
        refine he_iconst (n := 97) (c := 48) (by decide +kernel) (by decide) ?_
        intro c95 hc95
        refine he_isub (n := 98) (by decide +kernel) (by omega) (by omega) ?_
        intro v97 hv97
        have hroom : hv M 245 3 < 4 := hp_room (f := fun j => hv M 246 (4 * 3 + j)) (x := x3.toInt - 48) (by omega) (fun j hj => hb_rg hm rfl (show 4 * 3 + j < 16 by omega) hb_at1) ⟨by omega, by omega⟩ (hx 23) (fun j hj => hn3 j (by omega))
        have h92 : v92.toInt = v35.toInt := by omega
        refine hb_sta (n := 99) (kind := 64) hm (by decide +kernel) rfl rfl (.inl rfl) (by omega) (show _ < (16 : Int) by omega) ?_
        generalize hM1 : hb_set M 246 (v93.toInt.toNat) v97 = M1
        have hm1 : mz_sh mz_GG M1 := by rw [← hM1]; exact hb_set_sh hm rfl hb_at1 (by omega) (by omega)
        have eM1 : ∀ b j, b ≠ 246 ∨ j ≠ v93.toInt.toNat → hv M1 b j = hv M b j := by intro b j h; rw [← hM1]; exact hb_set_n h
        have sM1 : hv M1 246 (v93.toInt.toNat) = v97.toInt := by rw [← hM1]; exact hb_set_v hm rfl (show _ < 16 by omega)
        have wM1 : ∀ b, b ≠ 246 → M1 b = M b := by intro b h; rw [← hM1]; exact hb_set_c h
        refine he_aload (n := 100) (i := 0) (by decide +kernel) rfl ?_
        refine he_getr (n := 103) (ci := 9) (j := 11) (ns := [4188, 41]) (b := 245) hm1 (by decide +kernel) rfl rfl (by decide +kernel) ?_
        refine he_iload (n := 104) (i := 1) (by decide +kernel) rfl ?_
        refine he_dup2 (n := 105) (by decide +kernel) ?_
        refine hb_ld (n := 106) (kind := 64) hm1 (by decide +kernel) rfl rfl (.inl rfl) (by omega) (show _ < (4 : Int) by omega) hb_at1 ?_
        intro v105 hv105 lv105 uv105
        refine he_iconst (n := 107) (c := 1) (by decide +kernel) (by decide) ?_
        intro c106 hc106
        refine he_iadd (n := 108) (by decide +kernel) (by omega) (by omega) ?_
        intro v107 hv107
        have h105 : v105.toInt = v35.toInt := by
          rw [← hv105, eM1 _ _ (.inl (by decide)), show x1.toInt.toNat = 3 by omega]
          exact hon
        refine hb_sta (n := 109) (kind := 64) hm1 (by decide +kernel) rfl rfl (.inl rfl) (by omega) (show _ < (4 : Int) by omega) ?_
        generalize hM2 : hb_set M1 245 (x1.toInt.toNat) v107 = M2
        have hm2 : mz_sh mz_GG M2 := by rw [← hM2]; exact hb_set_sh hm1 rfl hb_at1 (by omega) (by omega)
        have eM2 : ∀ b j, b ≠ 245 ∨ j ≠ x1.toInt.toNat → hv M2 b j = hv M1 b j := by intro b j h; rw [← hM2]; exact hb_set_n h
        have sM2 : hv M2 245 (x1.toInt.toNat) = v107.toInt := by rw [← hM2]; exact hb_set_v hm1 rfl (show _ < 4 by omega)
        have wM2 : ∀ b, b ≠ 245 → M2 b = M1 b := by intro b h; rw [← hM2]; exact hb_set_c h
        have hx2 : HX M2 := by
          intro k
          by_cases e : k = 23
          · subst e
            show hxd (hv M2 245 3) (fun i => hv M2 246 (4 * 3 + i))
            have g1 : hv M2 245 3 = hv M 245 3 + 1 := by
              have := sM2
              rw [show x1.toInt.toNat = 3 by omega] at this
              rw [this]
              omega
            rw [g1]
            refine hp_add (f := fun j => hv M 246 (4 * 3 + j)) (x := x3.toInt - 48) (by omega) (hx 23) (fun j hj => hn3 j (by omega)) ?_ ?_
            · show hv M2 246 (4 * 3 + (hv M 245 3).toNat) = _
              rw [eM2 _ _ (.inl (by decide)), show 4 * 3 + (hv M 245 3).toNat = v93.toInt.toNat by omega, sM1]
              omega
            · intro j hj
              show hv M2 246 (4 * 3 + j) = hv M 246 (4 * 3 + j)
              rw [eM2 _ _ (.inl (by decide)), eM1 _ _ (.inr (by omega))]
          · rw [← hM2]
            refine hxk_s ?_ ?_
            · rw [show x1.toInt.toNat = 3 by omega]
              exact (hd_sp3 k e 0).2.1
            · rw [← hM1]
              exact hxk_s ((hd_sp3 k e _).1 (by omega) (by omega)) (hx k)
        have ho2 : hb_only [245, 246] M M2 := hb_only_s (hb_only_s hb_only_r (by decide) wM1) (by decide) wM2
        refine hd_e HX_same hb_C1 hd hz hm2 hx2 rfl rfl ?_
        intro M9 r k1 k2 k3 k4 k5 l1 l2
        exact K M9 r k1 k2 (hb_fr_t (q' := hd_e_q) (fun a ha => rfl) (hb_only_fr ho2 (by decide)) k3) (fun a ha => (k4 a ha).trans (hb_low ho2 (by decide) a ha)) (hb_same_t (q' := hd_e_q) (fun j hj => rfl) (hb_only_same ho2 (by decide +kernel)) k5) l1 l2
    · skip
      refine he_cmpge_f (n := 39) (t := 75) (by decide +kernel) (by omega) ?_
      refine he_iload (n := 41) (i := 4) (by decide +kernel) rfl ?_
      by_cases h41 : x4.toInt = 0
      · skip
        refine he_ifeq_t (n := 44) (t := 66) (by decide +kernel) (by omega) ?_
        refine he_iconst (n := 67) (c := 0) (by decide +kernel) (by decide) ?_
        intro c66 hc66
        refine he_istore (n := 69) (i := 4) (by decide +kernel) rfl ?_
        refine he_iinc (n := 72) (i := 5) (c := 1) (L' := fun v => [some (.ref 234), some (.int x1), some (.int x2), some (.int x3), some (.int c66), some (.int v)]) (by decide +kernel) (by decide) rfl (fun _ => rfl) (by omega) (by omega) ?_
        intro i69 hi69
        refine he_goto (t := 28) (by decide +kernel) ?_
        exact ih c66 i69 (by omega) (by omega) (by omega) (.inl (by omega))
      · rcases hn with hn | ⟨hn0, hn1, hn2, hn3⟩
        · exact absurd hn h41
        refine he_ifeq_f (n := 44) (t := 66) (by decide +kernel) (by omega) ?_
        refine he_aload (n := 45) (i := 0) (by decide +kernel) rfl ?_
        refine he_getr (n := 48) (ci := 9) (j := 12) (ns := [4189, 44]) (b := 246) hm (by decide +kernel) rfl rfl (by decide +kernel) ?_
        refine he_iconst (n := 49) (c := 4) (by decide +kernel) (by decide) ?_
        intro c48 hc48
        refine he_iload (n := 50) (i := 1) (by decide +kernel) rfl ?_
        refine he_imul (n := 51) (p := 4 * x1.toInt) (by decide +kernel) (by rw [hc48]) (by omega) (by omega) ?_
        intro v50 hv50
        refine he_iload (n := 53) (i := 5) (by decide +kernel) rfl ?_
        refine he_iadd (n := 54) (by decide +kernel) (by omega) (by omega) ?_
        intro v53 hv53
        refine hb_ld (n := 55) (kind := 64) hm (by decide +kernel) rfl rfl (.inl rfl) (by omega) (show _ < (16 : Int) by omega) hb_at1 ?_
        intro v54 hv54 lv54 uv54
        refine he_iload (n := 56) (i := 3) (by decide +kernel) rfl ?_
        refine he_iconst (n := 58) (c := 48) (by decide +kernel) (by decide) ?_
        intro c56 hc56
        refine he_isub (n := 59) (by decide +kernel) (by omega) (by omega) ?_
        intro v58 hv58
        by_cases h59 : v54.toInt = v58.toInt
        · skip
          refine he_cmpeq_t (n := 62) (t := 66) (by decide +kernel) (by omega) ?_
          refine he_iconst (n := 67) (c := 0) (by decide +kernel) (by decide) ?_
          intro c66 hc66
          refine he_istore (n := 69) (i := 4) (by decide +kernel) rfl ?_
          refine he_iinc (n := 72) (i := 5) (c := 1) (L' := fun v => [some (.ref 234), some (.int x1), some (.int x2), some (.int x3), some (.int c66), some (.int v)]) (by decide +kernel) (by decide) rfl (fun _ => rfl) (by omega) (by omega) ?_
          intro i69 hi69
          refine he_goto (t := 28) (by decide +kernel) ?_
          exact ih c66 i69 (by omega) (by omega) (by omega) (.inl (by omega))
        · skip
          refine he_cmpeq_f (n := 62) (t := 66) (by decide +kernel) (by omega) ?_
          refine he_iconst (n := 63) (c := 1) (by decide +kernel) (by decide) ?_
          intro c62 hc62
          refine he_goto (t := 67) (by decide +kernel) ?_
          refine he_istore (n := 69) (i := 4) (by decide +kernel) rfl ?_
          refine he_iinc (n := 72) (i := 5) (c := 1) (L' := fun v => [some (.ref 234), some (.int x1), some (.int x2), some (.int x3), some (.int c62), some (.int v)]) (by decide +kernel) (by decide) rfl (fun _ => rfl) (by omega) (by omega) ?_
          intro i69 hi69
          refine he_goto (t := 28) (by decide +kernel) ?_
          refine ih c62 i69 (by omega) (by omega) (by omega) (.inr ⟨by omega, hn1, hn2, fun j hj => ?_⟩)
          by_cases e : (j : Int) = x5.toInt
          · rw [show 4 * 3 + j = v53.toInt.toNat by omega, hv54]
            omega
          · exact hn3 j (by omega)
theorem hs_detail3_P : hc_detail3_P := by
  intro d z u M Q x1 x2 x3 hd hz hm hx p1 p2 K
  refine hd_o HX_same hb_C1 hd hz hm hx rfl rfl (by omega) (by omega) ?_ ?_ ?_ ?_
  · intro M' y4 y5 gs gx gw g8 ge
    intros
    have h0 := hb_rg gs (a := 245) (i := 3) rfl (by decide) hb_at1
    refine hd_l3 hd hz gs gx (by omega) ?_ 5 y4 y5 (by omega) (by omega) (by omega) ?_
    · intro M9 r k1 k2 k3 k4 k5 l1 l2
      exact K M9 r k1 k2 (hb_fr_t (q' := mz_q167) (fun a ha => ha) (hb_fr_t (q' := hd_o_q) (hb_wsub (by decide)) hb_fr_r gw) k3) (fun a ha => (k4 a ha).trans (g8 a ha)) (hb_same_t (q' := mz_q167) (fun j hj => hj) (hb_same_t (q' := hd_o_q) (fun j hj => rfl) hb_same_r ge) k5) l1 l2
    · first
      | exact .inl (by omega)
      | exact .inr ⟨by omega, by omega, by omega, fun j hj => by omega⟩
  · intro M' y4 y5 gs gx gw g8 ge
    intros
    have h0 := hb_rg gs (a := 245) (i := 3) rfl (by decide) hb_at1
    refine hd_l3 hd hz gs gx (by omega) ?_ 5 y4 y5 (by omega) (by omega) (by omega) ?_
    · intro M9 r k1 k2 k3 k4 k5 l1 l2
      exact K M9 r k1 k2 (hb_fr_t (q' := mz_q167) (fun a ha => ha) (hb_fr_t (q' := hd_o_q) (hb_wsub (by decide)) hb_fr_r gw) k3) (fun a ha => (k4 a ha).trans (g8 a ha)) (hb_same_t (q' := mz_q167) (fun j hj => hj) (hb_same_t (q' := hd_o_q) (fun j hj => rfl) hb_same_r ge) k5) l1 l2
    · first
      | exact .inl (by omega)
      | exact .inr ⟨by omega, by omega, by omega, fun j hj => by omega⟩
  · intro M' y4 y5 gs gx gw g8 ge
    intros
    have h0 := hb_rg gs (a := 245) (i := 3) rfl (by decide) hb_at1
    refine hd_l3 hd hz gs gx (by omega) ?_ 5 y4 y5 (by omega) (by omega) (by omega) ?_
    · intro M9 r k1 k2 k3 k4 k5 l1 l2
      exact K M9 r k1 k2 (hb_fr_t (q' := mz_q167) (fun a ha => ha) (hb_fr_t (q' := hd_o_q) (hb_wsub (by decide)) hb_fr_r gw) k3) (fun a ha => (k4 a ha).trans (g8 a ha)) (hb_same_t (q' := mz_q167) (fun j hj => hj) (hb_same_t (q' := hd_o_q) (fun j hj => rfl) hb_same_r ge) k5) l1 l2
    · first
      | exact .inl (by omega)
      | exact .inr ⟨by omega, by omega, by omega, fun j hj => by omega⟩
  · intro M' r gs gx gw g8 ge l1 l2
    exact K M' r gs gx (hb_fr_t (q' := hd_o_q) (hb_wsub (by decide)) hb_fr_r gw) g8 (hb_same_t (q' := hd_o_q) (fun j hj => rfl) hb_same_r ge) l1 l2
theorem hs_detail3 : mz_Ct mz_GG mq_PP HX mz_q167 1 := hc_detail3 hs_detail3_P
