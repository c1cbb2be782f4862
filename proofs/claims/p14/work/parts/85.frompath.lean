/-! Loading a class: from the path, and all. -/
theorem hl_relread {k i : Nat} {M M' : Nat → mq_C} (hi : i < 41) (h1 : hl_R M M') (h2 : ∀ a, a ≠ 10 → a ≠ 111 + 3 * i → a ≠ 112 + 3 * i → a ≠ 113 + 3 * i → M' a = M a) : hl_rel k i M M' := by
  refine ⟨⟨fun a ha hw => h1 a ha ?_, fun a ha => h1 a (by omega) (by omega), fun j t ht _ => hb_vc (h1 _ (hb_okG.1 t (List.mem_of_getElem? ht)) ?_) _⟩, fun c hc n => hb_vc (h1 _ (by omega) (by omega)) n, fun c hc n _ => hb_vc (h1 _ (by omega) (by omega)) n, fun j hj => hb_vc (h2 _ (by omega) (by omega) (by omega) (by omega)) 0⟩
  · rcases Nat.lt_or_ge a 111 with h | h
    · exact .inl h
    · rcases Nat.lt_or_ge a 234 with h' | h'
      · rw [List.elem_iff.mpr (hl_Wm a h (by omega))] at hw
        cases hw
      · exact .inr h'
  · have := hl_trk t (List.mem_of_getElem? ht)
    omega
theorem hl_asp (k a j : Nat) (ha : a = 94 ∨ a = 99 ∨ a = 104 ∨ a = 109) : hsp k a j = false := by
  match k with
  | 0 | 1 | 2 | 3 | 4 | 5 | 6 | 7 | 8 | 9 | 10 | 11 | 12 | 13 | 14 | 15 | 16 | 17 | 18 | 19 | 20 | 21 | 22 | 23 | 24 | 25 | 26 | 27 | 28 | 29 => exact decide_eq_false (by omega)
  | n + 30 => rfl
def hg_a0_q : mz_Q := (38, [(1, 8), (0, 0), (0, 0), (0, 0), (3, 0), (3, 0), (3, 0), (3, 0), (3, 0), (3, 0)], [(0, [(1, 1)]), (0, [(1, -1)]), (0, [(2, 1)]), (31, [(2, -1)]), (0, [(3, 1)]), (40, [(3, -1)])], [2, 1, 4, 3, 5, 6, 7], [(0, 0, [(1, [(78, 1)]), (-1, [(78, -1)])])], [8, 9, 10, 11, 12, 13, 14, 15, 16, 17, 18, 19, 20, 21, 22, 23, 24, 25, 26, 27, 28, 29, 30, 31, 42, 95, 100, 105, 110])
def hg_a0_s : List mz_Sp2 := [(116, [(1, 8), (0, 0), (0, 0), (0, 0), (1, 91), (0, 0), (0, 0), (3, 0), (3, 0), (3, 0)], [(0, 0), (1, 39)], [(0, [(1, -1), (72, 1)]), (0, [(1, 1), (72, -1)]), (0, [(2, -1), (73, 1)]), (0, [(2, 1), (73, -1)]), (0, [(3, -1), (74, 1)]), (0, [(3, 1), (74, -1)]), (0, [(3, -1), (81, 1)]), (0, [(3, 1), (81, -1)]), (0, [(11, -1), (84, 1)]), (0, [(11, 1), (84, -1)]), (4, [(83, -1)]), (0, [(83, 1)]), (1, [(76, 1)]), (31, [(76, -1)]), (0, [(76, 1)]), (0, [(76, 1), (77, -8)]), (7, [(76, -1), (77, 8)]), (240, [(85, -1)]), (0, [(85, 1)]), (200, [(86, -1)]), (0, [(86, 1)]), (1928, [(87, -1)]), (0, [(87, 1)]), (1920, [(88, -1)]), (0, [(88, 1)]), (1, [(89, -1)]), (0, [(89, 1)])]), (116, [(1, 8), (0, 0), (0, 0), (0, 0), (1, 91), (0, 0), (0, 0), (3, 0), (3, 0), (3, 0)], [(0, 0), (1, 39)], [(0, [(1, -1), (72, 1)]), (0, [(1, 1), (72, -1)]), (0, [(2, -1), (73, 1)]), (0, [(2, 1), (73, -1)]), (0, [(3, -1), (74, 1)]), (0, [(3, 1), (74, -1)]), (0, [(3, -1), (81, 1)]), (0, [(3, 1), (81, -1)]), (0, [(11, -1), (84, 1)]), (0, [(11, 1), (84, -1)]), (4, [(83, -1)]), (0, [(83, 1)]), (1, [(76, 1)]), (31, [(76, -1)]), (0, [(76, 1)]), (0, [(76, 1), (77, -8)]), (7, [(76, -1), (77, 8)]), (240, [(85, -1)]), (0, [(85, 1)]), (200, [(86, -1)]), (0, [(86, 1)]), (1928, [(87, -1)]), (0, [(87, 1)]), (1920, [(88, -1)]), (0, [(88, 1)]), (1, [(89, -1)]), (0, [(89, 1)])])]
def hg_a0_h : List mz_H := [(38, 0, []), (0, 0, []), (0, 0, [(0, 1)]), (0, 0, [(1, 1)]), (0, 0, []), (0, 0, []), (0, 0, []), (91, 0, []), (70, 0, []), (0, 0, [(4, 1)]), (0, 0, [(5, 1)]), (0, 0, []), (118, 0, []), (0, 0, []), (3, 0, []), (0, 0, [(1, 1)]), (0, 0, []), (1, 0, []), (0, 0, [(0, 1)]), (69, 0, []), (0, 0, [(19, 1)]), (0, 0, [(20, 1)]), (0, 0, []), (120, 0, []), (0, 0, [(3, 1)]), (0, 0, [(2, 1)]), (0, 7, [(6, 1), (10, 1)]), (0, 7, [(7, 1), (11, 1)]), (0, 0, []), (3, 0, []), (0, 0, [(1, 1)]), (0, 0, []), (37, 0, []), (0, 7, [(11, 1), (15, 1)]), (0, 7, [(12, 1), (16, 1)]), (1000, 0, []), (1, 0, []), (0, 0, [(15, 1)]), (9, 0, []), (84, 0, []), (0, 0, []), (3, 0, []), (0, 0, [(1, 1)]), (0, 0, []), (69, 0, []), (0, 0, [(49, 1)]), (0, 0, [(50, 1)]), (0, 0, []), (3, 0, []), (0, 0, [(3, 1)]), (0, 0, []), (39, 0, []), (0, 0, []), (0, 0, []), (0, 0, []), (0, 0, []), (0, 0, []), (0, 0, []), (0, 0, []), (0, 0, []), (0, 0, []), (0, 0, []), (0, 0, []), (0, 0, [(47, 1)]), (0, 0, [(46, 1)]), (0, 0, [(41, 1)]), (0, 0, [(42, 1)]), (0, 0, [(41, 1)]), (0, 0, [(38, 1)]), (0, 0, [(37, 1)]), (0, 0, [(21, 1)]), (0, 0, [(20, 1)]), (0, 0, [(19, 1)]), (0, 0, [(18, 1)]), (0, 0, [(17, 1)]), (0, 0, [(16, 1)]), (0, 0, [(15, 1)]), (0, 0, [(14, 1)]), (0, 0, [(13, 1)]), (0, 0, [(12, 1)]), (0, 0, []), (1, 0, []), (0, 0, [(54, 1)]), (0, 0, [(53, 1)]), (39, 0, []), (1, 0, []), (0, 0, []), (0, 0, []), (0, 0, []), (0, 0, []), (0, 0, []), (0, 0, []), (0, 0, []), (0, 0, []), (0, 0, []), (0, 0, []), (0, 0, [(50, 1)]), (0, 0, [(49, 1)]), (0, 0, [(44, 1)]), (0, 0, [(45, 1)]), (0, 0, [(44, 1)]), (0, 0, [(41, 1)]), (0, 0, [(40, 1)]), (0, 0, [(24, 1)]), (0, 0, [(23, 1)]), (0, 0, [(22, 1)]), (0, 0, [(21, 1)]), (0, 0, [(20, 1)]), (0, 0, [(19, 1)]), (0, 0, [(18, 1)]), (0, 0, [(17, 1)]), (0, 0, [(16, 1)]), (0, 0, [(15, 1)]), (72, 0, []), (0, 0, []), (0, 0, []), (0, 0, [(50, 1)]), (0, 0, [(51, 1)]), (0, 0, []), (0, 0, []), (0, 0, [(1, 1)]), (0, 0, [(0, 1)]), (72, 0, []), (0, 0, []), (0, 0, []), (0, 0, [(31, 1)]), (0, 0, [(32, 1)]), (0, 0, []), (0, 0, []), (0, 0, [(1, 1)]), (0, 0, [(0, 1)]), (72, 0, []), (0, 0, []), (0, 0, []), (0, 0, [(16, 1)]), (0, 0, [(17, 1)]), (0, 0, []), (0, 0, []), (0, 0, [(1, 1)]), (0, 0, [(0, 1)])]
set_option maxRecDepth 100000 in
theorem hg_a0_c : mz_blk mz_GG mq_PP mz_Cs hg_a0_q 10 10 0 hg_a0_s [(5, 1, 0, 0, 1, [])] 69 hg_a0_h = true := by decide +kernel
theorem hg_a0 {X : (Nat → mq_C) → Prop} (hX : ∀ M M' : Nat → mq_C, mz_same mz_GG M M' → X M → X M') (hC : ∀ c ∈ mz_Cs, c.2 < 10 → mz_Ct mz_GG mq_PP X c.1 c.2) {d z u : Nat} {M : Nat → mq_C} {Q : (Option Value ⊕ Nat) → mq_S → Prop} {x1 : Int32} {x2 : Int32} {x3 : Int32} {o4 : Option Value} {o5 : Option Value} {o6 : Option Value} {o7 : Option Value} {o8 : Option Value} {o9 : Option Value} (hd : 10 ≤ d) (hz : 272 ≤ z) (hm : mz_sh mz_GG M) (hx : X M) (h0 : mq_nl o4 = true) (h1 : mq_nl o5 = true) (h2 : mq_nl o6 = true) (h3 : mq_nl o7 = true) (h4 : mq_nl o8 = true) (h5 : mq_nl o9 = true) (p0 : 0 ≤ x1.toInt) (p1 : 0 ≤ 0 - x1.toInt) (p2 : 0 ≤ x2.toInt) (p3 : 0 ≤ 31 - x2.toInt) (p4 : 0 ≤ x3.toInt) (p5 : 0 ≤ 40 - x3.toInt)
    (k0 : ∀ (M' : Nat → mq_C) (y5 : Int32) (y6 : Int32) (w7 : Option Value) (w8 : Option Value) (w9 : Option Value), mz_sh mz_GG M' → X M' → mz_fr hg_a0_q M M' → (∀ a, a < 8 → M' a = M a) → hb_same mz_GG hg_a0_q M M' → mq_nl w7 = true → mq_nl w8 = true → mq_nl w9 = true → hv M' 8 7 = hv M 8 7 → 0 ≤ 4 - hv M' 8 10 → 0 ≤ hv M' 8 10 → 0 ≤ 1 + y5.toInt → 0 ≤ 31 - y5.toInt → 0 ≤ y5.toInt → 0 ≤ y5.toInt - 8 * y6.toInt → 0 ≤ 7 - y5.toInt + 8 * y6.toInt → 0 ≤ 240 - hv M' 9 2 → 0 ≤ hv M' 9 2 → 0 ≤ 200 - hv M' 9 1 → 0 ≤ hv M' 9 1 → 0 ≤ 1928 - hv M' 9 3 → 0 ≤ hv M' 9 3 → 0 ≤ 1920 - hv M' 9 4 → 0 ≤ hv M' 9 4 → 0 ≤ 1 - hv M' 9 5 → 0 ≤ hv M' 9 5 → mq_R mq_PP d 38 116 [some (.ref 8), some (.int x1), some (.int x2), some (.int x3), some (.ref 91), some (.int y5), some (.int y6), w7, w8, w9] [.int x3, .ref 39] (M', z, u) Q)
    (k1 : ∀ (M' : Nat → mq_C) (y5 : Int32) (y6 : Int32) (w7 : Option Value) (w8 : Option Value) (w9 : Option Value), mz_sh mz_GG M' → X M' → mz_fr hg_a0_q M M' → (∀ a, a < 8 → M' a = M a) → hb_same mz_GG hg_a0_q M M' → mq_nl w7 = true → mq_nl w8 = true → mq_nl w9 = true → hv M' 8 7 = hv M 8 7 → 0 ≤ 4 - hv M' 8 10 → 0 ≤ hv M' 8 10 → 0 ≤ 1 + y5.toInt → 0 ≤ 31 - y5.toInt → 0 ≤ y5.toInt → 0 ≤ y5.toInt - 8 * y6.toInt → 0 ≤ 7 - y5.toInt + 8 * y6.toInt → 0 ≤ 240 - hv M' 9 2 → 0 ≤ hv M' 9 2 → 0 ≤ 200 - hv M' 9 1 → 0 ≤ hv M' 9 1 → 0 ≤ 1928 - hv M' 9 3 → 0 ≤ hv M' 9 3 → 0 ≤ 1920 - hv M' 9 4 → 0 ≤ hv M' 9 4 → 0 ≤ 1 - hv M' 9 5 → 0 ≤ hv M' 9 5 → mq_R mq_PP d 38 116 [some (.ref 8), some (.int x1), some (.int x2), some (.int x3), some (.ref 91), some (.int y5), some (.int y6), w7, w8, w9] [.int x3, .ref 39] (M', z, u) Q)
    (w0 : ∀ (M' : Nat → mq_C) (r : Int32), mz_sh mz_GG M' → X M' → mz_fr hg_a0_q M M' → (∀ a, a < 8 → M' a = M a) → hb_same mz_GG hg_a0_q M M' → 0 ≤ 1 + r.toInt → 0 ≤ (-1) - r.toInt → Q (.inl (some (.int r))) (M', z, u)) : mq_R mq_PP d 38 0 [some (.ref 8), some (.int x1), some (.int x2), some (.int x3), o4, o5, o6, o7, o8, o9] [] (M, z, u) Q := by
  refine hb_blk mz_GG mq_PP X (q := hg_a0_q) (nl := 10) (M := M) hb_okG hX hC hg_a0_c hz hd (L := [some (.ref 8), some (.int x1), some (.int x2), some (.int x3), o4, o5, o6, o7, o8, o9]) (st := []) (show hb_lk mz_GG ([(1, 8), (0, 0), (0, 0), (0, 0), (3, 0), (3, 0), (3, 0), (3, 0), (3, 0), (3, 0)]) _ from ⟨⟨List.mem_singleton.mpr rfl, rfl⟩, trivial, trivial, trivial, h0, h1, h2, h3, h4, h5, trivial⟩) (show hb_pk mz_GG ([]) _ from trivial) hm hx ?_ ?_ ?_
  · exact hb_cons (show 0 ≤ mz_ev _ _ from (show 0 ≤ 0 + (1 * x1.toInt + 0) by omega)) (hb_cons (show 0 ≤ mz_ev _ _ from (show 0 ≤ 0 + ((-1) * x1.toInt + 0) by omega)) (hb_cons (show 0 ≤ mz_ev _ _ from (show 0 ≤ 0 + (1 * x2.toInt + 0) by omega)) (hb_cons (show 0 ≤ mz_ev _ _ from (show 0 ≤ 31 + ((-1) * x2.toInt + 0) by omega)) (hb_cons (show 0 ≤ mz_ev _ _ from (show 0 ≤ 0 + (1 * x3.toInt + 0) by omega)) (hb_cons (show 0 ≤ mz_ev _ _ from (show 0 ≤ 40 + ((-1) * x3.toInt + 0) by omega)) (hb_nil))))))
  · intro s hs
    rcases List.mem_cons.mp hs with rfl | hs
    · intro ρ1 L' st' M' g1 g2 gm gr gf gs gx gw g8 ge
      obtain ⟨e0, L1, rfl, n0, gg0⟩ := hb_l1 mz_GG g1
      obtain rfl : e0 = 8 := List.mem_singleton.mp n0
      obtain ⟨y1, L1, rfl, qr72, gg1⟩ := hb_l0 mz_GG gg0
      have r72 : ρ1 72 = y1.toInt := qr72
      obtain ⟨y2, L1, rfl, qr73, gg2⟩ := hb_l0 mz_GG gg1
      have r73 : ρ1 73 = y2.toInt := qr73
      obtain ⟨y3, L1, rfl, qr74, gg3⟩ := hb_l0 mz_GG gg2
      have r74 : ρ1 74 = y3.toInt := qr74
      obtain ⟨e4, L1, rfl, n4, gg4⟩ := hb_l1 mz_GG gg3
      obtain rfl : e4 = 91 := List.mem_singleton.mp n4
      obtain ⟨y5, L1, rfl, qr76, gg5⟩ := hb_l0 mz_GG gg4
      have r76 : ρ1 76 = y5.toInt := qr76
      obtain ⟨y6, L1, rfl, qr77, gg6⟩ := hb_l0 mz_GG gg5
      have r77 : ρ1 77 = y6.toInt := qr77
      obtain ⟨w7, L1, rfl, n7, gg7⟩ := hb_l3 mz_GG gg6
      obtain ⟨w8, L1, rfl, n8, gg8⟩ := hb_l3 mz_GG gg7
      obtain ⟨w9, L1, rfl, n9, gg9⟩ := hb_l3 mz_GG gg8
      obtain ⟨y10, s1, rfl, qr81, gg10⟩ := hb_p0 mz_GG g2
      have r81 : ρ1 81 = y10.toInt := qr81
      obtain ⟨e11, s1, rfl, n11, gg11⟩ := hb_p1 mz_GG gg10
      obtain rfl : e11 = 39 := List.mem_singleton.mp n11
      obtain rfl := hb_ln mz_GG gg9
      obtain rfl := hb_pn mz_GG gg11
      have r1 : ρ1 1 = x1.toInt := gr 1 (by decide +kernel)
      have r2 : ρ1 2 = x2.toInt := gr 2 (by decide +kernel)
      have r3 : ρ1 3 = x3.toInt := gr 3 (by decide +kernel)
      have r11 : ρ1 11 = hv M 8 7 := gr 11 (by decide +kernel)
      have r83 : ρ1 83 = hv M' 8 10 := gm 0 2 (8, 10) rfl rfl
      have r84 : ρ1 84 = hv M' 8 7 := gm 1 1 (8, 7) rfl rfl
      have r85 : ρ1 85 = hv M' 9 2 := gm 2 4 (9, 2) rfl rfl
      have r86 : ρ1 86 = hv M' 9 1 := gm 3 3 (9, 1) rfl rfl
      have r87 : ρ1 87 = hv M' 9 3 := gm 4 5 (9, 3) rfl rfl
      have r88 : ρ1 88 = hv M' 9 4 := gm 5 6 (9, 4) rfl rfl
      have r89 : ρ1 89 = hv M' 9 5 := gm 6 7 (9, 5) rfl rfl
      obtain ⟨f0, gf⟩ := hb_unc gf
      have f0 : 0 ≤ 0 + ((-1) * ρ1 1 + (1 * ρ1 72 + 0)) := f0
      rw [r1, r72] at f0
      obtain ⟨f1, gf⟩ := hb_unc gf
      have f1 : 0 ≤ 0 + (1 * ρ1 1 + ((-1) * ρ1 72 + 0)) := f1
      rw [r1, r72] at f1
      obtain ⟨f2, gf⟩ := hb_unc gf
      have f2 : 0 ≤ 0 + ((-1) * ρ1 2 + (1 * ρ1 73 + 0)) := f2
      rw [r2, r73] at f2
      obtain ⟨f3, gf⟩ := hb_unc gf
      have f3 : 0 ≤ 0 + (1 * ρ1 2 + ((-1) * ρ1 73 + 0)) := f3
      rw [r2, r73] at f3
      obtain ⟨f4, gf⟩ := hb_unc gf
      have f4 : 0 ≤ 0 + ((-1) * ρ1 3 + (1 * ρ1 74 + 0)) := f4
      rw [r3, r74] at f4
      obtain ⟨f5, gf⟩ := hb_unc gf
      have f5 : 0 ≤ 0 + (1 * ρ1 3 + ((-1) * ρ1 74 + 0)) := f5
      rw [r3, r74] at f5
      obtain ⟨f6, gf⟩ := hb_unc gf
      have f6 : 0 ≤ 0 + ((-1) * ρ1 3 + (1 * ρ1 81 + 0)) := f6
      rw [r3, r81] at f6
      obtain ⟨f7, gf⟩ := hb_unc gf
      have f7 : 0 ≤ 0 + (1 * ρ1 3 + ((-1) * ρ1 81 + 0)) := f7
      rw [r3, r81] at f7
      obtain ⟨f8, gf⟩ := hb_unc gf
      have f8 : 0 ≤ 0 + ((-1) * ρ1 11 + (1 * ρ1 84 + 0)) := f8
      rw [r11, r84] at f8
      obtain ⟨f9, gf⟩ := hb_unc gf
      have f9 : 0 ≤ 0 + (1 * ρ1 11 + ((-1) * ρ1 84 + 0)) := f9
      rw [r11, r84] at f9
      obtain ⟨f10, gf⟩ := hb_unc gf
      have f10 : 0 ≤ 4 + ((-1) * ρ1 83 + 0) := f10
      rw [r83] at f10
      obtain ⟨f11, gf⟩ := hb_unc gf
      have f11 : 0 ≤ 0 + (1 * ρ1 83 + 0) := f11
      rw [r83] at f11
      obtain ⟨f12, gf⟩ := hb_unc gf
      have f12 : 0 ≤ 1 + (1 * ρ1 76 + 0) := f12
      rw [r76] at f12
      obtain ⟨f13, gf⟩ := hb_unc gf
      have f13 : 0 ≤ 31 + ((-1) * ρ1 76 + 0) := f13
      rw [r76] at f13
      obtain ⟨f14, gf⟩ := hb_unc gf
      have f14 : 0 ≤ 0 + (1 * ρ1 76 + 0) := f14
      rw [r76] at f14
      obtain ⟨f15, gf⟩ := hb_unc gf
      have f15 : 0 ≤ 0 + (1 * ρ1 76 + ((-8) * ρ1 77 + 0)) := f15
      rw [r76, r77] at f15
      obtain ⟨f16, gf⟩ := hb_unc gf
      have f16 : 0 ≤ 7 + ((-1) * ρ1 76 + (8 * ρ1 77 + 0)) := f16
      rw [r76, r77] at f16
      obtain ⟨f17, gf⟩ := hb_unc gf
      have f17 : 0 ≤ 240 + ((-1) * ρ1 85 + 0) := f17
      rw [r85] at f17
      obtain ⟨f18, gf⟩ := hb_unc gf
      have f18 : 0 ≤ 0 + (1 * ρ1 85 + 0) := f18
      rw [r85] at f18
      obtain ⟨f19, gf⟩ := hb_unc gf
      have f19 : 0 ≤ 200 + ((-1) * ρ1 86 + 0) := f19
      rw [r86] at f19
      obtain ⟨f20, gf⟩ := hb_unc gf
      have f20 : 0 ≤ 0 + (1 * ρ1 86 + 0) := f20
      rw [r86] at f20
      obtain ⟨f21, gf⟩ := hb_unc gf
      have f21 : 0 ≤ 1928 + ((-1) * ρ1 87 + 0) := f21
      rw [r87] at f21
      obtain ⟨f22, gf⟩ := hb_unc gf
      have f22 : 0 ≤ 0 + (1 * ρ1 87 + 0) := f22
      rw [r87] at f22
      obtain ⟨f23, gf⟩ := hb_unc gf
      have f23 : 0 ≤ 1920 + ((-1) * ρ1 88 + 0) := f23
      rw [r88] at f23
      obtain ⟨f24, gf⟩ := hb_unc gf
      have f24 : 0 ≤ 0 + (1 * ρ1 88 + 0) := f24
      rw [r88] at f24
      obtain ⟨f25, gf⟩ := hb_unc gf
      have f25 : 0 ≤ 1 + ((-1) * ρ1 89 + 0) := f25
      rw [r89] at f25
      obtain ⟨f26, gf⟩ := hb_unc gf
      have f26 : 0 ≤ 0 + (1 * ρ1 89 + 0) := f26
      rw [r89] at f26
      have hy1 : y1 = x1 := hb_inj f0 f1
      subst y1
      have hy2 : y2 = x2 := hb_inj f2 f3
      subst y2
      have hy3 : y3 = x3 := hb_inj f4 f5
      subst y3
      have hy10 : y10 = x3 := hb_inj f6 f7
      subst y10
      exact k0 M' y5 y6 w7 w8 w9 gs gx gw g8 ge n7 n8 n9 (by have h1 := f8; have h2 := f9; omega) (by have h1 := f10; omega) (by have h1 := f11; omega) (by have h1 := f12; omega) (by have h1 := f13; omega) (by have h1 := f14; omega) (by have h1 := f15; omega) (by have h1 := f16; omega) (by have h1 := f17; omega) (by have h1 := f18; omega) (by have h1 := f19; omega) (by have h1 := f20; omega) (by have h1 := f21; omega) (by have h1 := f22; omega) (by have h1 := f23; omega) (by have h1 := f24; omega) (by have h1 := f25; omega) (by have h1 := f26; omega)
    rcases List.mem_cons.mp hs with rfl | hs
    · intro ρ1 L' st' M' g1 g2 gm gr gf gs gx gw g8 ge
      obtain ⟨e0, L1, rfl, n0, gg0⟩ := hb_l1 mz_GG g1
      obtain rfl : e0 = 8 := List.mem_singleton.mp n0
      obtain ⟨y1, L1, rfl, qr72, gg1⟩ := hb_l0 mz_GG gg0
      have r72 : ρ1 72 = y1.toInt := qr72
      obtain ⟨y2, L1, rfl, qr73, gg2⟩ := hb_l0 mz_GG gg1
      have r73 : ρ1 73 = y2.toInt := qr73
      obtain ⟨y3, L1, rfl, qr74, gg3⟩ := hb_l0 mz_GG gg2
      have r74 : ρ1 74 = y3.toInt := qr74
      obtain ⟨e4, L1, rfl, n4, gg4⟩ := hb_l1 mz_GG gg3
      obtain rfl : e4 = 91 := List.mem_singleton.mp n4
      obtain ⟨y5, L1, rfl, qr76, gg5⟩ := hb_l0 mz_GG gg4
      have r76 : ρ1 76 = y5.toInt := qr76
      obtain ⟨y6, L1, rfl, qr77, gg6⟩ := hb_l0 mz_GG gg5
      have r77 : ρ1 77 = y6.toInt := qr77
      obtain ⟨w7, L1, rfl, n7, gg7⟩ := hb_l3 mz_GG gg6
      obtain ⟨w8, L1, rfl, n8, gg8⟩ := hb_l3 mz_GG gg7
      obtain ⟨w9, L1, rfl, n9, gg9⟩ := hb_l3 mz_GG gg8
      obtain ⟨y10, s1, rfl, qr81, gg10⟩ := hb_p0 mz_GG g2
      have r81 : ρ1 81 = y10.toInt := qr81
      obtain ⟨e11, s1, rfl, n11, gg11⟩ := hb_p1 mz_GG gg10
      obtain rfl : e11 = 39 := List.mem_singleton.mp n11
      obtain rfl := hb_ln mz_GG gg9
      obtain rfl := hb_pn mz_GG gg11
      have r1 : ρ1 1 = x1.toInt := gr 1 (by decide +kernel)
      have r2 : ρ1 2 = x2.toInt := gr 2 (by decide +kernel)
      have r3 : ρ1 3 = x3.toInt := gr 3 (by decide +kernel)
      have r11 : ρ1 11 = hv M 8 7 := gr 11 (by decide +kernel)
      have r83 : ρ1 83 = hv M' 8 10 := gm 0 2 (8, 10) rfl rfl
      have r84 : ρ1 84 = hv M' 8 7 := gm 1 1 (8, 7) rfl rfl
      have r85 : ρ1 85 = hv M' 9 2 := gm 2 4 (9, 2) rfl rfl
      have r86 : ρ1 86 = hv M' 9 1 := gm 3 3 (9, 1) rfl rfl
      have r87 : ρ1 87 = hv M' 9 3 := gm 4 5 (9, 3) rfl rfl
      have r88 : ρ1 88 = hv M' 9 4 := gm 5 6 (9, 4) rfl rfl
      have r89 : ρ1 89 = hv M' 9 5 := gm 6 7 (9, 5) rfl rfl
      obtain ⟨f0, gf⟩ := hb_unc gf
      have f0 : 0 ≤ 0 + ((-1) * ρ1 1 + (1 * ρ1 72 + 0)) := f0
      rw [r1, r72] at f0
      obtain ⟨f1, gf⟩ := hb_unc gf
      have f1 : 0 ≤ 0 + (1 * ρ1 1 + ((-1) * ρ1 72 + 0)) := f1
      rw [r1, r72] at f1
      obtain ⟨f2, gf⟩ := hb_unc gf
      have f2 : 0 ≤ 0 + ((-1) * ρ1 2 + (1 * ρ1 73 + 0)) := f2
      rw [r2, r73] at f2
      obtain ⟨f3, gf⟩ := hb_unc gf
      have f3 : 0 ≤ 0 + (1 * ρ1 2 + ((-1) * ρ1 73 + 0)) := f3
      rw [r2, r73] at f3
      obtain ⟨f4, gf⟩ := hb_unc gf
      have f4 : 0 ≤ 0 + ((-1) * ρ1 3 + (1 * ρ1 74 + 0)) := f4
      rw [r3, r74] at f4
      obtain ⟨f5, gf⟩ := hb_unc gf
      have f5 : 0 ≤ 0 + (1 * ρ1 3 + ((-1) * ρ1 74 + 0)) := f5
      rw [r3, r74] at f5
      obtain ⟨f6, gf⟩ := hb_unc gf
      have f6 : 0 ≤ 0 + ((-1) * ρ1 3 + (1 * ρ1 81 + 0)) := f6
      rw [r3, r81] at f6
      obtain ⟨f7, gf⟩ := hb_unc gf
      have f7 : 0 ≤ 0 + (1 * ρ1 3 + ((-1) * ρ1 81 + 0)) := f7
      rw [r3, r81] at f7
      obtain ⟨f8, gf⟩ := hb_unc gf
      have f8 : 0 ≤ 0 + ((-1) * ρ1 11 + (1 * ρ1 84 + 0)) := f8
      rw [r11, r84] at f8
      obtain ⟨f9, gf⟩ := hb_unc gf
      have f9 : 0 ≤ 0 + (1 * ρ1 11 + ((-1) * ρ1 84 + 0)) := f9
      rw [r11, r84] at f9
      obtain ⟨f10, gf⟩ := hb_unc gf
      have f10 : 0 ≤ 4 + ((-1) * ρ1 83 + 0) := f10
      rw [r83] at f10
      obtain ⟨f11, gf⟩ := hb_unc gf
      have f11 : 0 ≤ 0 + (1 * ρ1 83 + 0) := f11
      rw [r83] at f11
      obtain ⟨f12, gf⟩ := hb_unc gf
      have f12 : 0 ≤ 1 + (1 * ρ1 76 + 0) := f12
      rw [r76] at f12
      obtain ⟨f13, gf⟩ := hb_unc gf
      have f13 : 0 ≤ 31 + ((-1) * ρ1 76 + 0) := f13
      rw [r76] at f13
      obtain ⟨f14, gf⟩ := hb_unc gf
      have f14 : 0 ≤ 0 + (1 * ρ1 76 + 0) := f14
      rw [r76] at f14
      obtain ⟨f15, gf⟩ := hb_unc gf
      have f15 : 0 ≤ 0 + (1 * ρ1 76 + ((-8) * ρ1 77 + 0)) := f15
      rw [r76, r77] at f15
      obtain ⟨f16, gf⟩ := hb_unc gf
      have f16 : 0 ≤ 7 + ((-1) * ρ1 76 + (8 * ρ1 77 + 0)) := f16
      rw [r76, r77] at f16
      obtain ⟨f17, gf⟩ := hb_unc gf
      have f17 : 0 ≤ 240 + ((-1) * ρ1 85 + 0) := f17
      rw [r85] at f17
      obtain ⟨f18, gf⟩ := hb_unc gf
      have f18 : 0 ≤ 0 + (1 * ρ1 85 + 0) := f18
      rw [r85] at f18
      obtain ⟨f19, gf⟩ := hb_unc gf
      have f19 : 0 ≤ 200 + ((-1) * ρ1 86 + 0) := f19
      rw [r86] at f19
      obtain ⟨f20, gf⟩ := hb_unc gf
      have f20 : 0 ≤ 0 + (1 * ρ1 86 + 0) := f20
      rw [r86] at f20
      obtain ⟨f21, gf⟩ := hb_unc gf
      have f21 : 0 ≤ 1928 + ((-1) * ρ1 87 + 0) := f21
      rw [r87] at f21
      obtain ⟨f22, gf⟩ := hb_unc gf
      have f22 : 0 ≤ 0 + (1 * ρ1 87 + 0) := f22
      rw [r87] at f22
      obtain ⟨f23, gf⟩ := hb_unc gf
      have f23 : 0 ≤ 1920 + ((-1) * ρ1 88 + 0) := f23
      rw [r88] at f23
      obtain ⟨f24, gf⟩ := hb_unc gf
      have f24 : 0 ≤ 0 + (1 * ρ1 88 + 0) := f24
      rw [r88] at f24
      obtain ⟨f25, gf⟩ := hb_unc gf
      have f25 : 0 ≤ 1 + ((-1) * ρ1 89 + 0) := f25
      rw [r89] at f25
      obtain ⟨f26, gf⟩ := hb_unc gf
      have f26 : 0 ≤ 0 + (1 * ρ1 89 + 0) := f26
      rw [r89] at f26
      have hy1 : y1 = x1 := hb_inj f0 f1
      subst y1
      have hy2 : y2 = x2 := hb_inj f2 f3
      subst y2
      have hy3 : y3 = x3 := hb_inj f4 f5
      subst y3
      have hy10 : y10 = x3 := hb_inj f6 f7
      subst y10
      exact k1 M' y5 y6 w7 w8 w9 gs gx gw g8 ge n7 n8 n9 (by have h1 := f8; have h2 := f9; omega) (by have h1 := f10; omega) (by have h1 := f11; omega) (by have h1 := f12; omega) (by have h1 := f13; omega) (by have h1 := f14; omega) (by have h1 := f15; omega) (by have h1 := f16; omega) (by have h1 := f17; omega) (by have h1 := f18; omega) (by have h1 := f19; omega) (by have h1 := f20; omega) (by have h1 := f21; omega) (by have h1 := f22; omega) (by have h1 := f23; omega) (by have h1 := f24; omega) (by have h1 := f25; omega) (by have h1 := f26; omega)
    cases hs
  · intro r S hpo
    obtain ⟨b1, b2, b3, b4, b5, p, hp, res, hf, hre⟩ := hpo
    rcases List.mem_cons.mp hp with rfl | hp
    · obtain ⟨x, rfl, hr, hz1, hu1⟩ := mz_re_0 mz_GG hre rfl
      obtain ⟨M', z', u'⟩ := S
      cases hz1
      cases hu1
      have r78 : hb_r1 mz_GG hg_a0_q (hb_rb mz_GG hg_a0_q 10 [some (.ref 8), some (.int x1), some (.int x2), some (.int x3), o4, o5, o6, o7, o8, o9] [] M) M' res 78 = res := rfl
      obtain ⟨f0, hf⟩ := hb_unc hf
      have f0 : 0 ≤ 1 + (1 * res + 0) := f0
      rw [← hr] at f0
      obtain ⟨f1, hf⟩ := hb_unc hf
      have f1 : 0 ≤ -1 + ((-1) * res + 0) := f1
      rw [← hr] at f1
      exact w0 M' x b1 b2 b3 b4 b5 (by have h1 := f0; omega) (by have h1 := f1; omega)
    cases hp

theorem hg_l0 {t : Nat} (hC : ∀ c ∈ mz_Cs, c.2 < 11 → mz_Ct mz_GG mq_PP HX c.1 c.2) (IH : hl_IH t) {d z u : Nat} {Q : (Option Value ⊕ Nat) → mq_S → Prop} {M : Nat → mq_C} {x1 x2 x3 : Int32} (hd : 14 + 3 * t ≤ d) (hz : 272 ≤ z) (hm : mz_sh mz_GG M) (hx : HX M) (p1 : x1.toInt = 0) (p3 : 0 ≤ x2.toInt) (p4 : x2.toInt ≤ 31) (p5 : 0 ≤ x3.toInt) (p6 : x3.toInt + 1 + (t : Int) = 41) (hdf : hv M 93 x2.toInt.toNat = -1) (hab : hv M 94 x2.toInt.toNat = 0)
    (K : ∀ (M' : Nat → mq_C) (r : Int32), mz_sh mz_GG M' → HX M' → hl_rel 0 x3.toInt.toNat M M' → -1 ≤ r.toInt → r.toInt ≤ 127 → Q (.inl (some (.int r))) (M', z, u)) : mq_R mq_PP d 38 0 [some (.ref 8), some (.int x1), some (.int x2), some (.int x3), none, none, none, none, none, none] [] (M, z, u) Q := by
  obtain ⟨i, hie⟩ : ∃ i, x3.toInt.toNat = i := ⟨_, rfl⟩
  have hi : i < 41 := by omega
  rw [hie] at K
  have hx1e : x1.toInt.toNat = 0 := by omega
  obtain ⟨d, rfl⟩ : ∃ d', d = d' + 1 := ⟨d - 1, by omega⟩
  refine hg_a0 HX_same (fun c hc h => hC c hc (by omega)) (by omega) hz hm hx rfl rfl rfl rfl rfl rfl (by omega) (by omega) (by omega) (by omega) (by omega) (by omega) ?_ ?_ ?_
  · intro M1 y5 y6 w7 w8 w9 hm1 gx gw g8 ge hw7 hw8 hw9
    intros
    have hR1 : hl_rel 0 i M M1 := hl_relf (q' := hg_a0_q) (by omega) (by decide +kernel) (fun j hj => hj) (by decide +kernel) gw g8 ge
    have a1 : hv M1 94 x2.toInt.toNat = 0 := by rw [hb_vc (gw 94 (by decide) (by decide))]; exact hab
    have d1 : hv M1 93 x2.toInt.toNat = -1 := by rw [hb_vc (gw 93 (by decide) (by decide))]; exact hdf
    refine he_aald (n := 117) (kind := 72) (b := 111 + 3 * i) hm1 (by decide +kernel) rfl rfl (by decide) (by omega) (by rw [hie]; exact hl_f hi) ?_
    refine he_astore (n := 119) (i := 7) (by decide +kernel) rfl ?_
    refine he_aload (n := 121) (i := 7) (by decide +kernel) rfl ?_
    refine he_aload (n := 122) (i := 0) (by decide +kernel) rfl ?_
    refine he_getr (n := 125) (ci := 0) (j := 0) (ns := [2077, 12]) (b := 9) hm1 (by decide +kernel) rfl rfl (by decide +kernel) ?_
    refine he_getr (n := 128) (ci := 8) (j := 0) (ns := [1067, 177]) (b := 10) hm1 (by decide +kernel) rfl rfl (by decide +kernel) ?_
    refine he_aload (n := 129) (i := 0) (by decide +kernel) rfl ?_
    refine he_getr (n := 132) (ci := 0) (j := 0) (ns := [2077, 12]) (b := 9) hm1 (by decide +kernel) rfl rfl (by decide +kernel) ?_
    refine hb_gfd (n := 135) (ci := 8) (j := 1) (ns := [1070, 114]) hm1 (by decide +kernel) rfl rfl (by decide) rfl ?_
    intro va132 hva132 lva132 uva132
    refine he_iload (n := 136) (i := 2) (by decide +kernel) rfl ?_
    refine he_v3 (n := 139) (j := 58) (ci := 2) (mx := 4) (ns := [4031, 4032, 4033, 284]) (by decide +kernel) ((hb_kd hm1 (hl_cell hi)).trans rfl) (by decide) (by show 4 ≤ 4; omega) ?_
    rw [mq_e58]
    refine hl_read (fun c hc h => hC c hc (by omega)) (by omega) hz hi hm1 gx (by omega) (by omega) ?_
    intro M2 r2 hm2 hRR hfr l1 l2 hnm
    have hx2 := hl_x hRR gx
    have hR2 : hl_rel 0 i M1 M2 := hl_relread hi hRR hfr
    have hR02 := hl_relt (Nat.le_refl _) (Nat.le_refl _) hR1 hR2
    have a2 : hv M2 94 x2.toInt.toNat = 0 := by rw [hb_vc (hRR 94 (by decide) (by decide))]; exact a1
    have d2 : hv M2 93 x2.toInt.toNat = -1 := by rw [hb_vc (hRR 93 (by decide) (by decide))]; exact d1
    show mq_R mq_PP (d + 1) 38 139 _ [.int r2] (M2, z, u) Q
    refine he_istore (n := 141) (i := 8) (by decide +kernel) rfl ?_
    refine he_iload (n := 143) (i := 8) (by decide +kernel) rfl ?_
    by_cases h143 : r2.toInt = 0
    · skip
      refine he_ifeq_t (n := 146) (t := 154) (by decide +kernel) (by omega) ?_
      refine he_aload (n := 156) (i := 4) (by decide +kernel) rfl ?_
      refine he_getr (n := 159) (ci := 5) (j := 5) (ns := [2033, 266]) (b := 94) hm2 (by decide +kernel) rfl rfl (by decide +kernel) ?_
      refine he_iload (n := 160) (i := 2) (by decide +kernel) rfl ?_
      refine he_iconst (n := 161) (c := 1) (by decide +kernel) (by decide) ?_
      intro cd160 hcd160
      refine hb_sta (n := 162) (kind := 65) hm2 (by decide +kernel) rfl rfl (.inr ⟨rfl, he_01 (by omega)⟩) (by omega) (show _ < (32 : Int) by omega) ?_
      generalize hMd1 : hb_set M2 94 (x2.toInt.toNat) cd160 = Md1
      have hmd1 : mz_sh mz_GG Md1 := by rw [← hMd1]; exact hb_set_sh hm2 rfl hb_at1 (by omega) (by omega)
      have eMd1 : ∀ b j, b ≠ 94 ∨ j ≠ x2.toInt.toNat → hv Md1 b j = hv M2 b j := by intro b j h; rw [← hMd1]; exact hb_set_n h
      have sMd1 : hv Md1 94 (x2.toInt.toNat) = cd160.toInt := by rw [← hMd1]; exact hb_set_v hm2 rfl (show _ < 32 by omega)
      have wMd1 : ∀ b, b ≠ 94 → Md1 b = M2 b := by intro b h; rw [← hMd1]; exact hb_set_c h
      refine he_aload (n := 163) (i := 0) (by decide +kernel) rfl ?_
      refine he_iload (n := 164) (i := 1) (by decide +kernel) rfl ?_
      refine he_aload (n := 166) (i := 7) (by decide +kernel) rfl ?_
      refine he_iload (n := 167) (i := 3) (by decide +kernel) rfl ?_
      refine he_iconst (n := 168) (c := 1) (by decide +kernel) (by decide) ?_
      intro cd167 hcd167
      refine he_iadd (n := 169) (by decide +kernel) (by omega) (by omega) ?_
      intro vd168 hvd168
      have hxd1 : HX Md1 := fun k => by rw [← hMd1]; exact hxk_s (hl_asp k _ _ (by omega)) (hx2 k)
      have hSd : hl_S M2 Md1 := hl_Sset (a := 94) (by decide +kernel) (by omega) wMd1 (fun t ht e => by have := hl_trk t ht; omega)
      refine he_v3 (n := 172) (j := 41) (ci := 0) (mx := 7) (ns := [4050, 4052, 46, 288]) (by decide +kernel) ((hb_kd (a := 8) hmd1 rfl).trans rfl) (by decide) (by show 4 ≤ 7; omega) ?_
      rw [mq_e41]
      have hy' : vd168.toInt = x3.toInt + 1 := by omega
      generalize vd168 = y at hy' ⊢
      refine he_iconst (n := 1) (c := 0) (by decide +kernel) (by decide) ?_
      intro cp0 hcp0
      refine he_istore (n := 3) (i := 4) (by decide +kernel) rfl ?_
      refine hl_parts hC IH (M0 := Md1) (nm := x2.toInt) (by omega) hz hi (by omega) (by omega) (by omega) (by omega) (by omega) (by omega) ?_ 3 Md1 cp0 none none (by omega) (by omega) hmd1 hxd1 hl_relr ?_ rfl rfl
      rotate_left
      · rw [hb_vc (wMd1 _ (by omega))]
        exact hnm h143
      intro M4 r4 hm4 hx4 hR4 l3 l4
      show mq_R mq_PP (d + 1) 38 172 _ [.int r4] (M4, z, u) Q
      refine he_istore (n := 174) (i := 9) (by decide +kernel) rfl ?_
      refine he_aload (n := 176) (i := 4) (by decide +kernel) rfl ?_
      refine he_getr (n := 179) (ci := 5) (j := 5) (ns := [2033, 266]) (b := 94) hm4 (by decide +kernel) rfl rfl (by decide +kernel) ?_
      refine he_iload (n := 180) (i := 2) (by decide +kernel) rfl ?_
      refine he_iconst (n := 181) (c := 0) (by decide +kernel) (by decide) ?_
      intro ce180 hce180
      refine hb_sta (n := 182) (kind := 65) hm4 (by decide +kernel) rfl rfl (.inr ⟨rfl, he_01 (by omega)⟩) (by omega) (show _ < (32 : Int) by omega) ?_
      generalize hMe1 : hb_set M4 94 (x2.toInt.toNat) ce180 = Me1
      have hme1 : mz_sh mz_GG Me1 := by rw [← hMe1]; exact hb_set_sh hm4 rfl hb_at1 (by omega) (by omega)
      have eMe1 : ∀ b j, b ≠ 94 ∨ j ≠ x2.toInt.toNat → hv Me1 b j = hv M4 b j := by intro b j h; rw [← hMe1]; exact hb_set_n h
      have sMe1 : hv Me1 94 (x2.toInt.toNat) = ce180.toInt := by rw [← hMe1]; exact hb_set_v hm4 rfl (show _ < 32 by omega)
      have wMe1 : ∀ b, b ≠ 94 → Me1 b = M4 b := by intro b h; rw [← hMe1]; exact hb_set_c h
      refine he_iload (n := 184) (i := 9) (by decide +kernel) rfl ?_
      have hxe1 : HX Me1 := fun k => by rw [← hMe1]; exact hxk_s (hl_asp k _ _ (by omega)) (hx4 k)
      have hSe : hl_S M4 Me1 := hl_Sset (a := 94) (by decide +kernel) (by omega) wMe1 (fun t ht e => by have := hl_trk t ht; omega)
      have hR5 : hl_rel 0 i M2 Me1 := by
        refine ⟨hl_St (hl_St hSd hR4.1) hSe, fun c hc n => ?_, fun c hc n hn => ?_, fun j hj => ?_⟩
        · by_cases e : c = 0 ∧ n = x2.toInt.toNat
          · obtain ⟨rfl, rfl⟩ := e
            have s1 : hv Me1 94 x2.toInt.toNat = ce180.toInt := sMe1
            show hv Me1 94 x2.toInt.toNat = hv M2 94 x2.toInt.toNat
            omega
          · rw [eMe1 _ _ (by omega), hR4.2.1 c hc n, eMd1 _ _ (by omega)]
        · have h9 : hv Md1 (94 + 5 * c) n = hv M2 (94 + 5 * c) n ∨ hv Md1 (94 + 5 * c) n ≠ 0 := by
            by_cases e : c = 0 ∧ n = x2.toInt.toNat
            · obtain ⟨rfl, rfl⟩ := e
              have s1 : hv Md1 94 x2.toInt.toNat = cd160.toInt := sMd1
              refine .inr ?_
              show hv Md1 94 x2.toInt.toNat ≠ 0
              omega
            · exact .inl (eMd1 _ _ (by omega))
          rw [eMe1 _ _ (.inl (by omega)), hR4.2.2.1 c hc n ?_, eMd1 _ _ (.inl (by omega))]
          rcases hn with hn | hn
          · exact .inl (by omega)
          · rcases h9 with h9 | h9
            · exact .inr (by rw [h9]; exact hn)
            · exact .inr h9
        · rw [hb_vc (wMe1 _ (by omega)), hR4.2.2.2 j (by omega), hb_vc (wMd1 _ (by omega))]
      have hR05 := hl_relt (Nat.le_refl _) (Nat.le_refl _) hR02 hR5
      have d5 : hv Me1 93 x2.toInt.toNat = -1 := by
        have s1 : hv Md1 94 x2.toInt.toNat = cd160.toInt := sMd1
        have h1 : hv M4 (93 + 5 * 0) x2.toInt.toNat = hv Md1 (93 + 5 * 0) x2.toInt.toNat := hR4.2.2.1 0 (by omega) _ (.inr (by show hv Md1 94 x2.toInt.toNat ≠ 0; omega))
        have h1 : hv M4 93 x2.toInt.toNat = hv Md1 93 x2.toInt.toNat := h1
        rw [eMe1 _ _ (.inl (by decide)), h1, eMd1 _ _ (.inl (by decide))]
        exact d2
      have n5 : hv Me1 (111 + 3 * i) 0 = x2.toInt := by
        rw [hb_vc (wMe1 _ (by omega)), hR4.2.2.2 i (by omega), hb_vc (wMd1 _ (by omega))]
        exact hnm h143
      by_cases h184 : r4.toInt = 0
      · skip
        refine he_ifeq_t (n := 187) (t := 199) (by decide +kernel) (by omega) ?_
        refine he_iconst (n := 200) (c := -1) (by decide +kernel) (by decide) ?_
        intro ce199 hce199
        refine he_reti (by decide +kernel) ?_
        exact K Me1 _ hme1 hxe1 hR05 (by omega) (by omega)
      · skip
        refine he_ifeq_f (n := 187) (t := 199) (by decide +kernel) (by omega) ?_
        refine he_aload (n := 188) (i := 0) (by decide +kernel) rfl ?_
        refine he_iload (n := 189) (i := 1) (by decide +kernel) rfl ?_
        refine he_aload (n := 191) (i := 7) (by decide +kernel) rfl ?_
        refine he_iload (n := 193) (i := 6) (by decide +kernel) rfl ?_
        refine he_v3 (n := 196) (j := 43) (ci := 0) (mx := 6) (ns := [4058, 4060, 48, 292]) (by decide +kernel) ((hb_kd (a := 8) hme1 rfl).trans rfl) (by decide) (by show 4 ≤ 6; omega) ?_
        rw [mq_e43]
        refine hl_def0 (nm := x2.toInt) hi hme1 hxe1 (by omega) (by omega) (by omega) n5 (by omega) (by omega) d5 ?_
        intro M6 r6 hm6 hx6' hD l5 l6
        have hR6 : hl_rel 0 i Me1 M6 := by
          refine ⟨⟨fun a ha hw => ?_, fun a ha => hD.1 a (by omega) (by omega) (by omega), ?_⟩, fun c hc n => hb_vc (hD.1 _ (by omega) (by omega) (by omega)) n, fun c hc n hn => ?_, fun j hj => hb_vc (hD.1 _ (by omega) (by omega) (by omega)) 0⟩
          · have h1 : ∀ b ∈ [8, 40, 93], mz_q194.2.2.2.2.2.elem b = true := by decide +kernel
            have h2 : ∀ b ∈ [8, 40, 93], a ≠ b := by
              rintro b hb rfl
              rw [h1 _ hb] at hw
              cases hw
            exact hD.1 a (h2 8 (by decide)) (h2 40 (by decide)) (h2 93 (by decide))
          · refine hb_same_of (fun t => decide (t.1 = 8 ∧ t.2 ≠ 7 ∨ t.1 ≠ 8 ∧ t.1 ≠ 40 ∧ t.1 ≠ 93)) ?_ (by decide +kernel)
            intro t ht
            rcases of_decide_eq_true ht with ⟨h1, h2⟩ | ⟨h1, h2, h3⟩
            · rw [h1]
              exact hD.2.1 _ h2
            · exact hb_vc (hD.1 _ h1 h2 h3) _
          · by_cases e : c = 0 ∧ n = x2.toInt.toNat
            · obtain ⟨rfl, rfl⟩ := e
              exfalso
              have s1 : hv Me1 94 x2.toInt.toNat = ce180.toInt := sMe1
              have hn : 0 < 0 ∨ hv Me1 94 x2.toInt.toNat ≠ 0 := hn
              omega
            · by_cases e2 : c = 0
              · subst e2
                exact hD.2.2 n (by omega)
              · exact hb_vc (hD.1 _ (by omega) (by omega) (by omega)) n
        show mq_R mq_PP (d + 1) 38 196 _ [.int r6] (M6, z, u) Q
        refine he_goto (t := 200) (by decide +kernel) ?_
        refine he_reti (by decide +kernel) ?_
        exact K M6 _ hm6 hx6' (hl_relt (Nat.le_refl _) (Nat.le_refl _) hR05 hR6) (by omega) (by omega)
    · skip
      refine he_ifeq_f (n := 146) (t := 154) (by decide +kernel) (by omega) ?_
      refine he_aload (n := 147) (i := 0) (by decide +kernel) rfl ?_
      refine he_iload (n := 149) (i := 8) (by decide +kernel) rfl ?_
      refine he_iload (n := 150) (i := 2) (by decide +kernel) rfl ?_
      refine he_v2 (n := 153) (j := 25) (ci := 0) (mx := 3) (ns := [4001, 4003, 37, 166]) (by decide +kernel) ((hb_kd (a := 8) hm2 rfl).trans rfl) (by decide) (by show 3 ≤ 3; omega) ?_
      rw [mq_e25]
      refine hu_blame (hC (mz_q72, 1) (List.mem_of_getElem? (show mz_Cs[72]? = _ from rfl)) (by decide)) (by omega) hz hm2 hx2 (by omega) (by omega) (by omega) (by omega) ?_
      intro Mx rx hmx hxx kd1 kd2 kd3 ld1
      have hR0x := hl_relt (Nat.le_refl _) (Nat.le_refl _) hR02 (hl_relf (k := 0) (dep := i) (by omega) (by decide +kernel) (fun j _ => rfl) (by decide +kernel) kd1 kd2 kd3)
      show mq_R mq_PP (d + 1) 38 153 _ [.int rx] (Mx, z, u) Q
      refine he_reti (by decide +kernel) ?_
      exact K Mx _ hmx hxx hR0x (by omega) (by omega)
  · intro M1 y5 y6 w7 w8 w9 hm1 gx gw g8 ge hw7 hw8 hw9
    intros
    have hR1 : hl_rel 0 i M M1 := hl_relf (q' := hg_a0_q) (by omega) (by decide +kernel) (fun j hj => hj) (by decide +kernel) gw g8 ge
    have a1 : hv M1 94 x2.toInt.toNat = 0 := by rw [hb_vc (gw 94 (by decide) (by decide))]; exact hab
    have d1 : hv M1 93 x2.toInt.toNat = -1 := by rw [hb_vc (gw 93 (by decide) (by decide))]; exact hdf
    refine he_aald (n := 117) (kind := 72) (b := 111 + 3 * i) hm1 (by decide +kernel) rfl rfl (by decide) (by omega) (by rw [hie]; exact hl_f hi) ?_
    refine he_astore (n := 119) (i := 7) (by decide +kernel) rfl ?_
    refine he_aload (n := 121) (i := 7) (by decide +kernel) rfl ?_
    refine he_aload (n := 122) (i := 0) (by decide +kernel) rfl ?_
    refine he_getr (n := 125) (ci := 0) (j := 0) (ns := [2077, 12]) (b := 9) hm1 (by decide +kernel) rfl rfl (by decide +kernel) ?_
    refine he_getr (n := 128) (ci := 8) (j := 0) (ns := [1067, 177]) (b := 10) hm1 (by decide +kernel) rfl rfl (by decide +kernel) ?_
    refine he_aload (n := 129) (i := 0) (by decide +kernel) rfl ?_
    refine he_getr (n := 132) (ci := 0) (j := 0) (ns := [2077, 12]) (b := 9) hm1 (by decide +kernel) rfl rfl (by decide +kernel) ?_
    refine hb_gfd (n := 135) (ci := 8) (j := 1) (ns := [1070, 114]) hm1 (by decide +kernel) rfl rfl (by decide) rfl ?_
    intro va132 hva132 lva132 uva132
    refine he_iload (n := 136) (i := 2) (by decide +kernel) rfl ?_
    refine he_v3 (n := 139) (j := 58) (ci := 2) (mx := 4) (ns := [4031, 4032, 4033, 284]) (by decide +kernel) ((hb_kd hm1 (hl_cell hi)).trans rfl) (by decide) (by show 4 ≤ 4; omega) ?_
    rw [mq_e58]
    refine hl_read (fun c hc h => hC c hc (by omega)) (by omega) hz hi hm1 gx (by omega) (by omega) ?_
    intro M2 r2 hm2 hRR hfr l1 l2 hnm
    have hx2 := hl_x hRR gx
    have hR2 : hl_rel 0 i M1 M2 := hl_relread hi hRR hfr
    have hR02 := hl_relt (Nat.le_refl _) (Nat.le_refl _) hR1 hR2
    have a2 : hv M2 94 x2.toInt.toNat = 0 := by rw [hb_vc (hRR 94 (by decide) (by decide))]; exact a1
    have d2 : hv M2 93 x2.toInt.toNat = -1 := by rw [hb_vc (hRR 93 (by decide) (by decide))]; exact d1
    show mq_R mq_PP (d + 1) 38 139 _ [.int r2] (M2, z, u) Q
    refine he_istore (n := 141) (i := 8) (by decide +kernel) rfl ?_
    refine he_iload (n := 143) (i := 8) (by decide +kernel) rfl ?_
    by_cases h143 : r2.toInt = 0
    · skip
      refine he_ifeq_t (n := 146) (t := 154) (by decide +kernel) (by omega) ?_
      refine he_aload (n := 156) (i := 4) (by decide +kernel) rfl ?_
      refine he_getr (n := 159) (ci := 5) (j := 5) (ns := [2033, 266]) (b := 94) hm2 (by decide +kernel) rfl rfl (by decide +kernel) ?_
      refine he_iload (n := 160) (i := 2) (by decide +kernel) rfl ?_
      refine he_iconst (n := 161) (c := 1) (by decide +kernel) (by decide) ?_
      intro cd160 hcd160
      refine hb_sta (n := 162) (kind := 65) hm2 (by decide +kernel) rfl rfl (.inr ⟨rfl, he_01 (by omega)⟩) (by omega) (show _ < (32 : Int) by omega) ?_
      generalize hMd1 : hb_set M2 94 (x2.toInt.toNat) cd160 = Md1
      have hmd1 : mz_sh mz_GG Md1 := by rw [← hMd1]; exact hb_set_sh hm2 rfl hb_at1 (by omega) (by omega)
      have eMd1 : ∀ b j, b ≠ 94 ∨ j ≠ x2.toInt.toNat → hv Md1 b j = hv M2 b j := by intro b j h; rw [← hMd1]; exact hb_set_n h
      have sMd1 : hv Md1 94 (x2.toInt.toNat) = cd160.toInt := by rw [← hMd1]; exact hb_set_v hm2 rfl (show _ < 32 by omega)
      have wMd1 : ∀ b, b ≠ 94 → Md1 b = M2 b := by intro b h; rw [← hMd1]; exact hb_set_c h
      refine he_aload (n := 163) (i := 0) (by decide +kernel) rfl ?_
      refine he_iload (n := 164) (i := 1) (by decide +kernel) rfl ?_
      refine he_aload (n := 166) (i := 7) (by decide +kernel) rfl ?_
      refine he_iload (n := 167) (i := 3) (by decide +kernel) rfl ?_
      refine he_iconst (n := 168) (c := 1) (by decide +kernel) (by decide) ?_
      intro cd167 hcd167
      refine he_iadd (n := 169) (by decide +kernel) (by omega) (by omega) ?_
      intro vd168 hvd168
      have hxd1 : HX Md1 := fun k => by rw [← hMd1]; exact hxk_s (hl_asp k _ _ (by omega)) (hx2 k)
      have hSd : hl_S M2 Md1 := hl_Sset (a := 94) (by decide +kernel) (by omega) wMd1 (fun t ht e => by have := hl_trk t ht; omega)
      refine he_v3 (n := 172) (j := 41) (ci := 0) (mx := 7) (ns := [4050, 4052, 46, 288]) (by decide +kernel) ((hb_kd (a := 8) hmd1 rfl).trans rfl) (by decide) (by show 4 ≤ 7; omega) ?_
      rw [mq_e41]
      have hy' : vd168.toInt = x3.toInt + 1 := by omega
      generalize vd168 = y at hy' ⊢
      refine he_iconst (n := 1) (c := 0) (by decide +kernel) (by decide) ?_
      intro cp0 hcp0
      refine he_istore (n := 3) (i := 4) (by decide +kernel) rfl ?_
      refine hl_parts hC IH (M0 := Md1) (nm := x2.toInt) (by omega) hz hi (by omega) (by omega) (by omega) (by omega) (by omega) (by omega) ?_ 3 Md1 cp0 none none (by omega) (by omega) hmd1 hxd1 hl_relr ?_ rfl rfl
      rotate_left
      · rw [hb_vc (wMd1 _ (by omega))]
        exact hnm h143
      intro M4 r4 hm4 hx4 hR4 l3 l4
      show mq_R mq_PP (d + 1) 38 172 _ [.int r4] (M4, z, u) Q
      refine he_istore (n := 174) (i := 9) (by decide +kernel) rfl ?_
      refine he_aload (n := 176) (i := 4) (by decide +kernel) rfl ?_
      refine he_getr (n := 179) (ci := 5) (j := 5) (ns := [2033, 266]) (b := 94) hm4 (by decide +kernel) rfl rfl (by decide +kernel) ?_
      refine he_iload (n := 180) (i := 2) (by decide +kernel) rfl ?_
      refine he_iconst (n := 181) (c := 0) (by decide +kernel) (by decide) ?_
      intro ce180 hce180
      refine hb_sta (n := 182) (kind := 65) hm4 (by decide +kernel) rfl rfl (.inr ⟨rfl, he_01 (by omega)⟩) (by omega) (show _ < (32 : Int) by omega) ?_
      generalize hMe1 : hb_set M4 94 (x2.toInt.toNat) ce180 = Me1
      have hme1 : mz_sh mz_GG Me1 := by rw [← hMe1]; exact hb_set_sh hm4 rfl hb_at1 (by omega) (by omega)
      have eMe1 : ∀ b j, b ≠ 94 ∨ j ≠ x2.toInt.toNat → hv Me1 b j = hv M4 b j := by intro b j h; rw [← hMe1]; exact hb_set_n h
      have sMe1 : hv Me1 94 (x2.toInt.toNat) = ce180.toInt := by rw [← hMe1]; exact hb_set_v hm4 rfl (show _ < 32 by omega)
      have wMe1 : ∀ b, b ≠ 94 → Me1 b = M4 b := by intro b h; rw [← hMe1]; exact hb_set_c h
      refine he_iload (n := 184) (i := 9) (by decide +kernel) rfl ?_
      have hxe1 : HX Me1 := fun k => by rw [← hMe1]; exact hxk_s (hl_asp k _ _ (by omega)) (hx4 k)
      have hSe : hl_S M4 Me1 := hl_Sset (a := 94) (by decide +kernel) (by omega) wMe1 (fun t ht e => by have := hl_trk t ht; omega)
      have hR5 : hl_rel 0 i M2 Me1 := by
        refine ⟨hl_St (hl_St hSd hR4.1) hSe, fun c hc n => ?_, fun c hc n hn => ?_, fun j hj => ?_⟩
        · by_cases e : c = 0 ∧ n = x2.toInt.toNat
          · obtain ⟨rfl, rfl⟩ := e
            have s1 : hv Me1 94 x2.toInt.toNat = ce180.toInt := sMe1
            show hv Me1 94 x2.toInt.toNat = hv M2 94 x2.toInt.toNat
            omega
          · rw [eMe1 _ _ (by omega), hR4.2.1 c hc n, eMd1 _ _ (by omega)]
        · have h9 : hv Md1 (94 + 5 * c) n = hv M2 (94 + 5 * c) n ∨ hv Md1 (94 + 5 * c) n ≠ 0 := by
            by_cases e : c = 0 ∧ n = x2.toInt.toNat
            · obtain ⟨rfl, rfl⟩ := e
              have s1 : hv Md1 94 x2.toInt.toNat = cd160.toInt := sMd1
              refine .inr ?_
              show hv Md1 94 x2.toInt.toNat ≠ 0
              omega
            · exact .inl (eMd1 _ _ (by omega))
          rw [eMe1 _ _ (.inl (by omega)), hR4.2.2.1 c hc n ?_, eMd1 _ _ (.inl (by omega))]
          rcases hn with hn | hn
          · exact .inl (by omega)
          · rcases h9 with h9 | h9
            · exact .inr (by rw [h9]; exact hn)
            · exact .inr h9
        · rw [hb_vc (wMe1 _ (by omega)), hR4.2.2.2 j (by omega), hb_vc (wMd1 _ (by omega))]
      have hR05 := hl_relt (Nat.le_refl _) (Nat.le_refl _) hR02 hR5
      have d5 : hv Me1 93 x2.toInt.toNat = -1 := by
        have s1 : hv Md1 94 x2.toInt.toNat = cd160.toInt := sMd1
        have h1 : hv M4 (93 + 5 * 0) x2.toInt.toNat = hv Md1 (93 + 5 * 0) x2.toInt.toNat := hR4.2.2.1 0 (by omega) _ (.inr (by show hv Md1 94 x2.toInt.toNat ≠ 0; omega))
        have h1 : hv M4 93 x2.toInt.toNat = hv Md1 93 x2.toInt.toNat := h1
        rw [eMe1 _ _ (.inl (by decide)), h1, eMd1 _ _ (.inl (by decide))]
        exact d2
      have n5 : hv Me1 (111 + 3 * i) 0 = x2.toInt := by
        rw [hb_vc (wMe1 _ (by omega)), hR4.2.2.2 i (by omega), hb_vc (wMd1 _ (by omega))]
        exact hnm h143
      by_cases h184 : r4.toInt = 0
      · skip
        refine he_ifeq_t (n := 187) (t := 199) (by decide +kernel) (by omega) ?_
        refine he_iconst (n := 200) (c := -1) (by decide +kernel) (by decide) ?_
        intro ce199 hce199
        refine he_reti (by decide +kernel) ?_
        exact K Me1 _ hme1 hxe1 hR05 (by omega) (by omega)
      · skip
        refine he_ifeq_f (n := 187) (t := 199) (by decide +kernel) (by omega) ?_
        refine he_aload (n := 188) (i := 0) (by decide +kernel) rfl ?_
        refine he_iload (n := 189) (i := 1) (by decide +kernel) rfl ?_
        refine he_aload (n := 191) (i := 7) (by decide +kernel) rfl ?_
        refine he_iload (n := 193) (i := 6) (by decide +kernel) rfl ?_
        refine he_v3 (n := 196) (j := 43) (ci := 0) (mx := 6) (ns := [4058, 4060, 48, 292]) (by decide +kernel) ((hb_kd (a := 8) hme1 rfl).trans rfl) (by decide) (by show 4 ≤ 6; omega) ?_
        rw [mq_e43]
        refine hl_def0 (nm := x2.toInt) hi hme1 hxe1 (by omega) (by omega) (by omega) n5 (by omega) (by omega) d5 ?_
        intro M6 r6 hm6 hx6' hD l5 l6
        have hR6 : hl_rel 0 i Me1 M6 := by
          refine ⟨⟨fun a ha hw => ?_, fun a ha => hD.1 a (by omega) (by omega) (by omega), ?_⟩, fun c hc n => hb_vc (hD.1 _ (by omega) (by omega) (by omega)) n, fun c hc n hn => ?_, fun j hj => hb_vc (hD.1 _ (by omega) (by omega) (by omega)) 0⟩
          · have h1 : ∀ b ∈ [8, 40, 93], mz_q194.2.2.2.2.2.elem b = true := by decide +kernel
            have h2 : ∀ b ∈ [8, 40, 93], a ≠ b := by
              rintro b hb rfl
              rw [h1 _ hb] at hw
              cases hw
            exact hD.1 a (h2 8 (by decide)) (h2 40 (by decide)) (h2 93 (by decide))
          · refine hb_same_of (fun t => decide (t.1 = 8 ∧ t.2 ≠ 7 ∨ t.1 ≠ 8 ∧ t.1 ≠ 40 ∧ t.1 ≠ 93)) ?_ (by decide +kernel)
            intro t ht
            rcases of_decide_eq_true ht with ⟨h1, h2⟩ | ⟨h1, h2, h3⟩
            · rw [h1]
              exact hD.2.1 _ h2
            · exact hb_vc (hD.1 _ h1 h2 h3) _
          · by_cases e : c = 0 ∧ n = x2.toInt.toNat
            · obtain ⟨rfl, rfl⟩ := e
              exfalso
              have s1 : hv Me1 94 x2.toInt.toNat = ce180.toInt := sMe1
              have hn : 0 < 0 ∨ hv Me1 94 x2.toInt.toNat ≠ 0 := hn
              omega
            · by_cases e2 : c = 0
              · subst e2
                exact hD.2.2 n (by omega)
              · exact hb_vc (hD.1 _ (by omega) (by omega) (by omega)) n
        show mq_R mq_PP (d + 1) 38 196 _ [.int r6] (M6, z, u) Q
        refine he_goto (t := 200) (by decide +kernel) ?_
        refine he_reti (by decide +kernel) ?_
        exact K M6 _ hm6 hx6' (hl_relt (Nat.le_refl _) (Nat.le_refl _) hR05 hR6) (by omega) (by omega)
    · skip
      refine he_ifeq_f (n := 146) (t := 154) (by decide +kernel) (by omega) ?_
      refine he_aload (n := 147) (i := 0) (by decide +kernel) rfl ?_
      refine he_iload (n := 149) (i := 8) (by decide +kernel) rfl ?_
      refine he_iload (n := 150) (i := 2) (by decide +kernel) rfl ?_
      refine he_v2 (n := 153) (j := 25) (ci := 0) (mx := 3) (ns := [4001, 4003, 37, 166]) (by decide +kernel) ((hb_kd (a := 8) hm2 rfl).trans rfl) (by decide) (by show 3 ≤ 3; omega) ?_
      rw [mq_e25]
      refine hu_blame (hC (mz_q72, 1) (List.mem_of_getElem? (show mz_Cs[72]? = _ from rfl)) (by decide)) (by omega) hz hm2 hx2 (by omega) (by omega) (by omega) (by omega) ?_
      intro Mx rx hmx hxx kd1 kd2 kd3 ld1
      have hR0x := hl_relt (Nat.le_refl _) (Nat.le_refl _) hR02 (hl_relf (k := 0) (dep := i) (by omega) (by decide +kernel) (fun j _ => rfl) (by decide +kernel) kd1 kd2 kd3)
      show mq_R mq_PP (d + 1) 38 153 _ [.int rx] (Mx, z, u) Q
      refine he_reti (by decide +kernel) ?_
      exact K Mx _ hmx hxx hR0x (by omega) (by omega)
  · intro M1 r hm1 gx gw g8 ge
    intros
    exact K M1 r hm1 gx (hl_relf (q' := hg_a0_q) (by omega) (by decide +kernel) (fun j hj => hj) (by decide +kernel) gw g8 ge) (by omega) (by omega)
def hg_a1_q : mz_Q := (38, [(1, 8), (0, 0), (0, 0), (0, 0), (3, 0), (3, 0), (3, 0), (3, 0), (3, 0), (3, 0)], [(-1, [(1, 1)]), (1, [(1, -1)]), (0, [(2, 1)]), (31, [(2, -1)]), (0, [(3, 1)]), (40, [(3, -1)])], [2, 1, 4, 3, 5, 6, 7], [(0, 0, [(1, [(78, 1)]), (-1, [(78, -1)])])], [8, 9, 10, 11, 12, 13, 14, 15, 16, 17, 18, 19, 20, 21, 22, 23, 24, 25, 26, 27, 28, 29, 30, 31, 42, 95, 100, 105, 110])
def hg_a1_s : List mz_Sp2 := [(116, [(1, 8), (0, 0), (0, 0), (0, 0), (1, 96), (0, 0), (0, 0), (3, 0), (3, 0), (3, 0)], [(0, 0), (1, 39)], [(0, [(1, -1), (72, 1)]), (0, [(1, 1), (72, -1)]), (0, [(2, -1), (73, 1)]), (0, [(2, 1), (73, -1)]), (0, [(3, -1), (74, 1)]), (0, [(3, 1), (74, -1)]), (0, [(3, -1), (81, 1)]), (0, [(3, 1), (81, -1)]), (0, [(11, -1), (84, 1)]), (0, [(11, 1), (84, -1)]), (4, [(83, -1)]), (0, [(83, 1)]), (1, [(76, 1)]), (31, [(76, -1)]), (0, [(76, 1)]), (0, [(76, 1), (77, -8)]), (7, [(76, -1), (77, 8)]), (240, [(85, -1)]), (0, [(85, 1)]), (200, [(86, -1)]), (0, [(86, 1)]), (1928, [(87, -1)]), (0, [(87, 1)]), (1920, [(88, -1)]), (0, [(88, 1)]), (1, [(89, -1)]), (0, [(89, 1)])])]
def hg_a1_h : List mz_H := [(38, 0, []), (0, 0, []), (0, 0, [(0, 1)]), (0, 0, [(1, 1)]), (0, 0, []), (0, 0, []), (0, 0, []), (96, 0, []), (70, 0, []), (0, 0, [(4, 1)]), (0, 0, [(5, 1)]), (0, 0, []), (118, 0, []), (0, 0, []), (3, 0, []), (0, 0, [(1, 1)]), (0, 0, []), (1, 0, []), (0, 0, [(0, 1)]), (69, 0, []), (0, 0, [(19, 1)]), (0, 0, [(20, 1)]), (0, 0, []), (120, 0, []), (0, 0, [(3, 1)]), (0, 0, [(2, 1)]), (0, 7, [(6, 1), (10, 1)]), (0, 7, [(7, 1), (11, 1)]), (0, 0, []), (3, 0, []), (0, 0, [(1, 1)]), (0, 0, []), (37, 0, []), (0, 7, [(11, 1), (15, 1)]), (0, 7, [(12, 1), (16, 1)]), (1000, 0, []), (1, 0, []), (0, 0, [(15, 1)]), (9, 0, []), (84, 0, []), (0, 0, []), (3, 0, []), (0, 0, [(1, 1)]), (0, 0, []), (69, 0, []), (0, 0, [(49, 1)]), (0, 0, [(50, 1)]), (0, 0, []), (3, 0, []), (0, 0, [(3, 1)]), (0, 0, []), (39, 0, []), (0, 0, []), (0, 0, []), (0, 0, []), (0, 0, []), (0, 0, []), (0, 0, []), (0, 0, []), (0, 0, []), (0, 0, []), (0, 0, []), (0, 0, []), (0, 0, [(47, 1)]), (0, 0, [(46, 1)]), (0, 0, [(41, 1)]), (0, 0, [(42, 1)]), (0, 0, [(41, 1)]), (0, 0, [(38, 1)]), (0, 0, [(37, 1)]), (0, 0, [(21, 1)]), (0, 0, [(20, 1)]), (0, 0, [(19, 1)]), (0, 0, [(18, 1)]), (0, 0, [(17, 1)]), (0, 0, [(16, 1)]), (0, 0, [(15, 1)]), (0, 0, [(14, 1)]), (0, 0, [(13, 1)]), (0, 0, [(12, 1)]), (1, 1, []), (0, 0, [(54, 1)]), (3, 0, []), (0, 0, [(54, 1)]), (72, 0, []), (0, 0, []), (0, 0, []), (0, 0, [(58, 1)]), (0, 0, [(59, 1)]), (0, 0, []), (0, 0, []), (0, 0, [(1, 1)]), (0, 0, [(0, 1)]), (72, 0, []), (0, 0, []), (0, 0, []), (0, 0, [(50, 1)]), (0, 0, [(51, 1)]), (0, 0, []), (0, 0, []), (0, 0, [(1, 1)]), (0, 0, [(0, 1)]), (72, 0, []), (0, 0, []), (0, 0, []), (0, 0, [(31, 1)]), (0, 0, [(32, 1)]), (0, 0, []), (0, 0, []), (0, 0, [(1, 1)]), (0, 0, [(0, 1)]), (72, 0, []), (0, 0, []), (0, 0, []), (0, 0, [(16, 1)]), (0, 0, [(17, 1)]), (0, 0, []), (0, 0, []), (0, 0, [(1, 1)]), (0, 0, [(0, 1)])]
set_option maxRecDepth 100000 in
theorem hg_a1_c : mz_blk mz_GG mq_PP mz_Cs hg_a1_q 10 10 0 hg_a1_s [(5, 1, 0, 1, 1, [])] 70 hg_a1_h = true := by decide +kernel
theorem hg_a1 {X : (Nat → mq_C) → Prop} (hX : ∀ M M' : Nat → mq_C, mz_same mz_GG M M' → X M → X M') (hC : ∀ c ∈ mz_Cs, c.2 < 10 → mz_Ct mz_GG mq_PP X c.1 c.2) {d z u : Nat} {M : Nat → mq_C} {Q : (Option Value ⊕ Nat) → mq_S → Prop} {x1 : Int32} {x2 : Int32} {x3 : Int32} {o4 : Option Value} {o5 : Option Value} {o6 : Option Value} {o7 : Option Value} {o8 : Option Value} {o9 : Option Value} (hd : 10 ≤ d) (hz : 272 ≤ z) (hm : mz_sh mz_GG M) (hx : X M) (h0 : mq_nl o4 = true) (h1 : mq_nl o5 = true) (h2 : mq_nl o6 = true) (h3 : mq_nl o7 = true) (h4 : mq_nl o8 = true) (h5 : mq_nl o9 = true) (p0 : 0 ≤ (-1) + x1.toInt) (p1 : 0 ≤ 1 - x1.toInt) (p2 : 0 ≤ x2.toInt) (p3 : 0 ≤ 31 - x2.toInt) (p4 : 0 ≤ x3.toInt) (p5 : 0 ≤ 40 - x3.toInt)
    (k0 : ∀ (M' : Nat → mq_C) (y5 : Int32) (y6 : Int32) (w7 : Option Value) (w8 : Option Value) (w9 : Option Value), mz_sh mz_GG M' → X M' → mz_fr hg_a1_q M M' → (∀ a, a < 8 → M' a = M a) → hb_same mz_GG hg_a1_q M M' → mq_nl w7 = true → mq_nl w8 = true → mq_nl w9 = true → hv M' 8 7 = hv M 8 7 → 0 ≤ 4 - hv M' 8 10 → 0 ≤ hv M' 8 10 → 0 ≤ 1 + y5.toInt → 0 ≤ 31 - y5.toInt → 0 ≤ y5.toInt → 0 ≤ y5.toInt - 8 * y6.toInt → 0 ≤ 7 - y5.toInt + 8 * y6.toInt → 0 ≤ 240 - hv M' 9 2 → 0 ≤ hv M' 9 2 → 0 ≤ 200 - hv M' 9 1 → 0 ≤ hv M' 9 1 → 0 ≤ 1928 - hv M' 9 3 → 0 ≤ hv M' 9 3 → 0 ≤ 1920 - hv M' 9 4 → 0 ≤ hv M' 9 4 → 0 ≤ 1 - hv M' 9 5 → 0 ≤ hv M' 9 5 → mq_R mq_PP d 38 116 [some (.ref 8), some (.int x1), some (.int x2), some (.int x3), some (.ref 96), some (.int y5), some (.int y6), w7, w8, w9] [.int x3, .ref 39] (M', z, u) Q)
    (w0 : ∀ (M' : Nat → mq_C) (r : Int32), mz_sh mz_GG M' → X M' → mz_fr hg_a1_q M M' → (∀ a, a < 8 → M' a = M a) → hb_same mz_GG hg_a1_q M M' → 0 ≤ 1 + r.toInt → 0 ≤ (-1) - r.toInt → Q (.inl (some (.int r))) (M', z, u)) : mq_R mq_PP d 38 0 [some (.ref 8), some (.int x1), some (.int x2), some (.int x3), o4, o5, o6, o7, o8, o9] [] (M, z, u) Q := by
  refine hb_blk mz_GG mq_PP X (q := hg_a1_q) (nl := 10) (M := M) hb_okG hX hC hg_a1_c hz hd (L := [some (.ref 8), some (.int x1), some (.int x2), some (.int x3), o4, o5, o6, o7, o8, o9]) (st := []) (show hb_lk mz_GG ([(1, 8), (0, 0), (0, 0), (0, 0), (3, 0), (3, 0), (3, 0), (3, 0), (3, 0), (3, 0)]) _ from ⟨⟨List.mem_singleton.mpr rfl, rfl⟩, trivial, trivial, trivial, h0, h1, h2, h3, h4, h5, trivial⟩) (show hb_pk mz_GG ([]) _ from trivial) hm hx ?_ ?_ ?_
  · exact hb_cons (show 0 ≤ mz_ev _ _ from (show 0 ≤ -1 + (1 * x1.toInt + 0) by omega)) (hb_cons (show 0 ≤ mz_ev _ _ from (show 0 ≤ 1 + ((-1) * x1.toInt + 0) by omega)) (hb_cons (show 0 ≤ mz_ev _ _ from (show 0 ≤ 0 + (1 * x2.toInt + 0) by omega)) (hb_cons (show 0 ≤ mz_ev _ _ from (show 0 ≤ 31 + ((-1) * x2.toInt + 0) by omega)) (hb_cons (show 0 ≤ mz_ev _ _ from (show 0 ≤ 0 + (1 * x3.toInt + 0) by omega)) (hb_cons (show 0 ≤ mz_ev _ _ from (show 0 ≤ 40 + ((-1) * x3.toInt + 0) by omega)) (hb_nil))))))
  · intro s hs
    rcases List.mem_cons.mp hs with rfl | hs
    · intro ρ1 L' st' M' g1 g2 gm gr gf gs gx gw g8 ge
      obtain ⟨e0, L1, rfl, n0, gg0⟩ := hb_l1 mz_GG g1
      obtain rfl : e0 = 8 := List.mem_singleton.mp n0
      obtain ⟨y1, L1, rfl, qr72, gg1⟩ := hb_l0 mz_GG gg0
      have r72 : ρ1 72 = y1.toInt := qr72
      obtain ⟨y2, L1, rfl, qr73, gg2⟩ := hb_l0 mz_GG gg1
      have r73 : ρ1 73 = y2.toInt := qr73
      obtain ⟨y3, L1, rfl, qr74, gg3⟩ := hb_l0 mz_GG gg2
      have r74 : ρ1 74 = y3.toInt := qr74
      obtain ⟨e4, L1, rfl, n4, gg4⟩ := hb_l1 mz_GG gg3
      obtain rfl : e4 = 96 := List.mem_singleton.mp n4
      obtain ⟨y5, L1, rfl, qr76, gg5⟩ := hb_l0 mz_GG gg4
      have r76 : ρ1 76 = y5.toInt := qr76
      obtain ⟨y6, L1, rfl, qr77, gg6⟩ := hb_l0 mz_GG gg5
      have r77 : ρ1 77 = y6.toInt := qr77
      obtain ⟨w7, L1, rfl, n7, gg7⟩ := hb_l3 mz_GG gg6
      obtain ⟨w8, L1, rfl, n8, gg8⟩ := hb_l3 mz_GG gg7
      obtain ⟨w9, L1, rfl, n9, gg9⟩ := hb_l3 mz_GG gg8
      obtain ⟨y10, s1, rfl, qr81, gg10⟩ := hb_p0 mz_GG g2
      have r81 : ρ1 81 = y10.toInt := qr81
      obtain ⟨e11, s1, rfl, n11, gg11⟩ := hb_p1 mz_GG gg10
      obtain rfl : e11 = 39 := List.mem_singleton.mp n11
      obtain rfl := hb_ln mz_GG gg9
      obtain rfl := hb_pn mz_GG gg11
      have r1 : ρ1 1 = x1.toInt := gr 1 (by decide +kernel)
      have r2 : ρ1 2 = x2.toInt := gr 2 (by decide +kernel)
      have r3 : ρ1 3 = x3.toInt := gr 3 (by decide +kernel)
      have r11 : ρ1 11 = hv M 8 7 := gr 11 (by decide +kernel)
      have r83 : ρ1 83 = hv M' 8 10 := gm 0 2 (8, 10) rfl rfl
      have r84 : ρ1 84 = hv M' 8 7 := gm 1 1 (8, 7) rfl rfl
      have r85 : ρ1 85 = hv M' 9 2 := gm 2 4 (9, 2) rfl rfl
      have r86 : ρ1 86 = hv M' 9 1 := gm 3 3 (9, 1) rfl rfl
      have r87 : ρ1 87 = hv M' 9 3 := gm 4 5 (9, 3) rfl rfl
      have r88 : ρ1 88 = hv M' 9 4 := gm 5 6 (9, 4) rfl rfl
      have r89 : ρ1 89 = hv M' 9 5 := gm 6 7 (9, 5) rfl rfl
      obtain ⟨f0, gf⟩ := hb_unc gf
      have f0 : 0 ≤ 0 + ((-1) * ρ1 1 + (1 * ρ1 72 + 0)) := f0
      rw [r1, r72] at f0
      obtain ⟨f1, gf⟩ := hb_unc gf
      have f1 : 0 ≤ 0 + (1 * ρ1 1 + ((-1) * ρ1 72 + 0)) := f1
      rw [r1, r72] at f1
      obtain ⟨f2, gf⟩ := hb_unc gf
      have f2 : 0 ≤ 0 + ((-1) * ρ1 2 + (1 * ρ1 73 + 0)) := f2
      rw [r2, r73] at f2
      obtain ⟨f3, gf⟩ := hb_unc gf
      have f3 : 0 ≤ 0 + (1 * ρ1 2 + ((-1) * ρ1 73 + 0)) := f3
      rw [r2, r73] at f3
      obtain ⟨f4, gf⟩ := hb_unc gf
      have f4 : 0 ≤ 0 + ((-1) * ρ1 3 + (1 * ρ1 74 + 0)) := f4
      rw [r3, r74] at f4
      obtain ⟨f5, gf⟩ := hb_unc gf
      have f5 : 0 ≤ 0 + (1 * ρ1 3 + ((-1) * ρ1 74 + 0)) := f5
      rw [r3, r74] at f5
      obtain ⟨f6, gf⟩ := hb_unc gf
      have f6 : 0 ≤ 0 + ((-1) * ρ1 3 + (1 * ρ1 81 + 0)) := f6
      rw [r3, r81] at f6
      obtain ⟨f7, gf⟩ := hb_unc gf
      have f7 : 0 ≤ 0 + (1 * ρ1 3 + ((-1) * ρ1 81 + 0)) := f7
      rw [r3, r81] at f7
      obtain ⟨f8, gf⟩ := hb_unc gf
      have f8 : 0 ≤ 0 + ((-1) * ρ1 11 + (1 * ρ1 84 + 0)) := f8
      rw [r11, r84] at f8
      obtain ⟨f9, gf⟩ := hb_unc gf
      have f9 : 0 ≤ 0 + (1 * ρ1 11 + ((-1) * ρ1 84 + 0)) := f9
      rw [r11, r84] at f9
      obtain ⟨f10, gf⟩ := hb_unc gf
      have f10 : 0 ≤ 4 + ((-1) * ρ1 83 + 0) := f10
      rw [r83] at f10
      obtain ⟨f11, gf⟩ := hb_unc gf
      have f11 : 0 ≤ 0 + (1 * ρ1 83 + 0) := f11
      rw [r83] at f11
      obtain ⟨f12, gf⟩ := hb_unc gf
      have f12 : 0 ≤ 1 + (1 * ρ1 76 + 0) := f12
      rw [r76] at f12
      obtain ⟨f13, gf⟩ := hb_unc gf
      have f13 : 0 ≤ 31 + ((-1) * ρ1 76 + 0) := f13
      rw [r76] at f13
      obtain ⟨f14, gf⟩ := hb_unc gf
      have f14 : 0 ≤ 0 + (1 * ρ1 76 + 0) := f14
      rw [r76] at f14
      obtain ⟨f15, gf⟩ := hb_unc gf
      have f15 : 0 ≤ 0 + (1 * ρ1 76 + ((-8) * ρ1 77 + 0)) := f15
      rw [r76, r77] at f15
      obtain ⟨f16, gf⟩ := hb_unc gf
      have f16 : 0 ≤ 7 + ((-1) * ρ1 76 + (8 * ρ1 77 + 0)) := f16
      rw [r76, r77] at f16
      obtain ⟨f17, gf⟩ := hb_unc gf
      have f17 : 0 ≤ 240 + ((-1) * ρ1 85 + 0) := f17
      rw [r85] at f17
      obtain ⟨f18, gf⟩ := hb_unc gf
      have f18 : 0 ≤ 0 + (1 * ρ1 85 + 0) := f18
      rw [r85] at f18
      obtain ⟨f19, gf⟩ := hb_unc gf
      have f19 : 0 ≤ 200 + ((-1) * ρ1 86 + 0) := f19
      rw [r86] at f19
      obtain ⟨f20, gf⟩ := hb_unc gf
      have f20 : 0 ≤ 0 + (1 * ρ1 86 + 0) := f20
      rw [r86] at f20
      obtain ⟨f21, gf⟩ := hb_unc gf
      have f21 : 0 ≤ 1928 + ((-1) * ρ1 87 + 0) := f21
      rw [r87] at f21
      obtain ⟨f22, gf⟩ := hb_unc gf
      have f22 : 0 ≤ 0 + (1 * ρ1 87 + 0) := f22
      rw [r87] at f22
      obtain ⟨f23, gf⟩ := hb_unc gf
      have f23 : 0 ≤ 1920 + ((-1) * ρ1 88 + 0) := f23
      rw [r88] at f23
      obtain ⟨f24, gf⟩ := hb_unc gf
      have f24 : 0 ≤ 0 + (1 * ρ1 88 + 0) := f24
      rw [r88] at f24
      obtain ⟨f25, gf⟩ := hb_unc gf
      have f25 : 0 ≤ 1 + ((-1) * ρ1 89 + 0) := f25
      rw [r89] at f25
      obtain ⟨f26, gf⟩ := hb_unc gf
      have f26 : 0 ≤ 0 + (1 * ρ1 89 + 0) := f26
      rw [r89] at f26
      have hy1 : y1 = x1 := hb_inj f0 f1
      subst y1
      have hy2 : y2 = x2 := hb_inj f2 f3
      subst y2
      have hy3 : y3 = x3 := hb_inj f4 f5
      subst y3
      have hy10 : y10 = x3 := hb_inj f6 f7
      subst y10
      exact k0 M' y5 y6 w7 w8 w9 gs gx gw g8 ge n7 n8 n9 (by have h1 := f8; have h2 := f9; omega) (by have h1 := f10; omega) (by have h1 := f11; omega) (by have h1 := f12; omega) (by have h1 := f13; omega) (by have h1 := f14; omega) (by have h1 := f15; omega) (by have h1 := f16; omega) (by have h1 := f17; omega) (by have h1 := f18; omega) (by have h1 := f19; omega) (by have h1 := f20; omega) (by have h1 := f21; omega) (by have h1 := f22; omega) (by have h1 := f23; omega) (by have h1 := f24; omega) (by have h1 := f25; omega) (by have h1 := f26; omega)
    cases hs
  · intro r S hpo
    obtain ⟨b1, b2, b3, b4, b5, p, hp, res, hf, hre⟩ := hpo
    rcases List.mem_cons.mp hp with rfl | hp
    · obtain ⟨x, rfl, hr, hz1, hu1⟩ := mz_re_0 mz_GG hre rfl
      obtain ⟨M', z', u'⟩ := S
      cases hz1
      cases hu1
      have r78 : hb_r1 mz_GG hg_a1_q (hb_rb mz_GG hg_a1_q 10 [some (.ref 8), some (.int x1), some (.int x2), some (.int x3), o4, o5, o6, o7, o8, o9] [] M) M' res 78 = res := rfl
      obtain ⟨f0, hf⟩ := hb_unc hf
      have f0 : 0 ≤ 1 + (1 * res + 0) := f0
      rw [← hr] at f0
      obtain ⟨f1, hf⟩ := hb_unc hf
      have f1 : 0 ≤ -1 + ((-1) * res + 0) := f1
      rw [← hr] at f1
      exact w0 M' x b1 b2 b3 b4 b5 (by have h1 := f0; omega) (by have h1 := f1; omega)
    cases hp

theorem hg_l1 {t : Nat} (hC : ∀ c ∈ mz_Cs, c.2 < 11 → mz_Ct mz_GG mq_PP HX c.1 c.2) (IH : hl_IH t) {d z u : Nat} {Q : (Option Value ⊕ Nat) → mq_S → Prop} {M : Nat → mq_C} {x1 x2 x3 : Int32} (hd : 14 + 3 * t ≤ d) (hz : 272 ≤ z) (hm : mz_sh mz_GG M) (hx : HX M) (p1 : x1.toInt = 1) (p3 : 0 ≤ x2.toInt) (p4 : x2.toInt ≤ 31) (p5 : 0 ≤ x3.toInt) (p6 : x3.toInt + 1 + (t : Int) = 41) (hdf : hv M 98 x2.toInt.toNat = -1) (hab : hv M 99 x2.toInt.toNat = 0)
    (K : ∀ (M' : Nat → mq_C) (r : Int32), mz_sh mz_GG M' → HX M' → hl_rel 1 x3.toInt.toNat M M' → -1 ≤ r.toInt → r.toInt ≤ 127 → Q (.inl (some (.int r))) (M', z, u)) : mq_R mq_PP d 38 0 [some (.ref 8), some (.int x1), some (.int x2), some (.int x3), none, none, none, none, none, none] [] (M, z, u) Q := by
  obtain ⟨i, hie⟩ : ∃ i, x3.toInt.toNat = i := ⟨_, rfl⟩
  have hi : i < 41 := by omega
  rw [hie] at K
  have hx1e : x1.toInt.toNat = 1 := by omega
  obtain ⟨d, rfl⟩ : ∃ d', d = d' + 1 := ⟨d - 1, by omega⟩
  refine hg_a1 HX_same (fun c hc h => hC c hc (by omega)) (by omega) hz hm hx rfl rfl rfl rfl rfl rfl (by omega) (by omega) (by omega) (by omega) (by omega) (by omega) ?_ ?_
  · intro M1 y5 y6 w7 w8 w9 hm1 gx gw g8 ge hw7 hw8 hw9
    intros
    have hR1 : hl_rel 1 i M M1 := hl_relf (q' := hg_a1_q) (by omega) (by decide +kernel) (fun j hj => hj) (by decide +kernel) gw g8 ge
    have a1 : hv M1 99 x2.toInt.toNat = 0 := by rw [hb_vc (gw 99 (by decide) (by decide))]; exact hab
    have d1 : hv M1 98 x2.toInt.toNat = -1 := by rw [hb_vc (gw 98 (by decide) (by decide))]; exact hdf
    refine he_aald (n := 117) (kind := 72) (b := 111 + 3 * i) hm1 (by decide +kernel) rfl rfl (by decide) (by omega) (by rw [hie]; exact hl_f hi) ?_
    refine he_astore (n := 119) (i := 7) (by decide +kernel) rfl ?_
    refine he_aload (n := 121) (i := 7) (by decide +kernel) rfl ?_
    refine he_aload (n := 122) (i := 0) (by decide +kernel) rfl ?_
    refine he_getr (n := 125) (ci := 0) (j := 0) (ns := [2077, 12]) (b := 9) hm1 (by decide +kernel) rfl rfl (by decide +kernel) ?_
    refine he_getr (n := 128) (ci := 8) (j := 0) (ns := [1067, 177]) (b := 10) hm1 (by decide +kernel) rfl rfl (by decide +kernel) ?_
    refine he_aload (n := 129) (i := 0) (by decide +kernel) rfl ?_
    refine he_getr (n := 132) (ci := 0) (j := 0) (ns := [2077, 12]) (b := 9) hm1 (by decide +kernel) rfl rfl (by decide +kernel) ?_
    refine hb_gfd (n := 135) (ci := 8) (j := 1) (ns := [1070, 114]) hm1 (by decide +kernel) rfl rfl (by decide) rfl ?_
    intro va132 hva132 lva132 uva132
    refine he_iload (n := 136) (i := 2) (by decide +kernel) rfl ?_
    refine he_v3 (n := 139) (j := 58) (ci := 2) (mx := 4) (ns := [4031, 4032, 4033, 284]) (by decide +kernel) ((hb_kd hm1 (hl_cell hi)).trans rfl) (by decide) (by show 4 ≤ 4; omega) ?_
    rw [mq_e58]
    refine hl_read (fun c hc h => hC c hc (by omega)) (by omega) hz hi hm1 gx (by omega) (by omega) ?_
    intro M2 r2 hm2 hRR hfr l1 l2 hnm
    have hx2 := hl_x hRR gx
    have hR2 : hl_rel 1 i M1 M2 := hl_relread hi hRR hfr
    have hR02 := hl_relt (Nat.le_refl _) (Nat.le_refl _) hR1 hR2
    have a2 : hv M2 99 x2.toInt.toNat = 0 := by rw [hb_vc (hRR 99 (by decide) (by decide))]; exact a1
    have d2 : hv M2 98 x2.toInt.toNat = -1 := by rw [hb_vc (hRR 98 (by decide) (by decide))]; exact d1
    show mq_R mq_PP (d + 1) 38 139 _ [.int r2] (M2, z, u) Q
    refine he_istore (n := 141) (i := 8) (by decide +kernel) rfl ?_
    refine he_iload (n := 143) (i := 8) (by decide +kernel) rfl ?_
    by_cases h143 : r2.toInt = 0
    · skip
      refine he_ifeq_t (n := 146) (t := 154) (by decide +kernel) (by omega) ?_
      refine he_aload (n := 156) (i := 4) (by decide +kernel) rfl ?_
      refine he_getr (n := 159) (ci := 5) (j := 5) (ns := [2033, 266]) (b := 99) hm2 (by decide +kernel) rfl rfl (by decide +kernel) ?_
      refine he_iload (n := 160) (i := 2) (by decide +kernel) rfl ?_
      refine he_iconst (n := 161) (c := 1) (by decide +kernel) (by decide) ?_
      intro cd160 hcd160
      refine hb_sta (n := 162) (kind := 65) hm2 (by decide +kernel) rfl rfl (.inr ⟨rfl, he_01 (by omega)⟩) (by omega) (show _ < (32 : Int) by omega) ?_
      generalize hMd1 : hb_set M2 99 (x2.toInt.toNat) cd160 = Md1
      have hmd1 : mz_sh mz_GG Md1 := by rw [← hMd1]; exact hb_set_sh hm2 rfl hb_at1 (by omega) (by omega)
      have eMd1 : ∀ b j, b ≠ 99 ∨ j ≠ x2.toInt.toNat → hv Md1 b j = hv M2 b j := by intro b j h; rw [← hMd1]; exact hb_set_n h
      have sMd1 : hv Md1 99 (x2.toInt.toNat) = cd160.toInt := by rw [← hMd1]; exact hb_set_v hm2 rfl (show _ < 32 by omega)
      have wMd1 : ∀ b, b ≠ 99 → Md1 b = M2 b := by intro b h; rw [← hMd1]; exact hb_set_c h
      refine he_aload (n := 163) (i := 0) (by decide +kernel) rfl ?_
      refine he_iload (n := 164) (i := 1) (by decide +kernel) rfl ?_
      refine he_aload (n := 166) (i := 7) (by decide +kernel) rfl ?_
      refine he_iload (n := 167) (i := 3) (by decide +kernel) rfl ?_
      refine he_iconst (n := 168) (c := 1) (by decide +kernel) (by decide) ?_
      intro cd167 hcd167
      refine he_iadd (n := 169) (by decide +kernel) (by omega) (by omega) ?_
      intro vd168 hvd168
      have hxd1 : HX Md1 := fun k => by rw [← hMd1]; exact hxk_s (hl_asp k _ _ (by omega)) (hx2 k)
      have hSd : hl_S M2 Md1 := hl_Sset (a := 99) (by decide +kernel) (by omega) wMd1 (fun t ht e => by have := hl_trk t ht; omega)
      refine he_v3 (n := 172) (j := 41) (ci := 0) (mx := 7) (ns := [4050, 4052, 46, 288]) (by decide +kernel) ((hb_kd (a := 8) hmd1 rfl).trans rfl) (by decide) (by show 4 ≤ 7; omega) ?_
      rw [mq_e41]
      have hy' : vd168.toInt = x3.toInt + 1 := by omega
      generalize vd168 = y at hy' ⊢
      refine he_iconst (n := 1) (c := 0) (by decide +kernel) (by decide) ?_
      intro cp0 hcp0
      refine he_istore (n := 3) (i := 4) (by decide +kernel) rfl ?_
      refine hl_parts hC IH (M0 := Md1) (nm := x2.toInt) (by omega) hz hi (by omega) (by omega) (by omega) (by omega) (by omega) (by omega) ?_ 3 Md1 cp0 none none (by omega) (by omega) hmd1 hxd1 hl_relr ?_ rfl rfl
      rotate_left
      · rw [hb_vc (wMd1 _ (by omega))]
        exact hnm h143
      intro M4 r4 hm4 hx4 hR4 l3 l4
      show mq_R mq_PP (d + 1) 38 172 _ [.int r4] (M4, z, u) Q
      refine he_istore (n := 174) (i := 9) (by decide +kernel) rfl ?_
      refine he_aload (n := 176) (i := 4) (by decide +kernel) rfl ?_
      refine he_getr (n := 179) (ci := 5) (j := 5) (ns := [2033, 266]) (b := 99) hm4 (by decide +kernel) rfl rfl (by decide +kernel) ?_
      refine he_iload (n := 180) (i := 2) (by decide +kernel) rfl ?_
      refine he_iconst (n := 181) (c := 0) (by decide +kernel) (by decide) ?_
      intro ce180 hce180
      refine hb_sta (n := 182) (kind := 65) hm4 (by decide +kernel) rfl rfl (.inr ⟨rfl, he_01 (by omega)⟩) (by omega) (show _ < (32 : Int) by omega) ?_
      generalize hMe1 : hb_set M4 99 (x2.toInt.toNat) ce180 = Me1
      have hme1 : mz_sh mz_GG Me1 := by rw [← hMe1]; exact hb_set_sh hm4 rfl hb_at1 (by omega) (by omega)
      have eMe1 : ∀ b j, b ≠ 99 ∨ j ≠ x2.toInt.toNat → hv Me1 b j = hv M4 b j := by intro b j h; rw [← hMe1]; exact hb_set_n h
      have sMe1 : hv Me1 99 (x2.toInt.toNat) = ce180.toInt := by rw [← hMe1]; exact hb_set_v hm4 rfl (show _ < 32 by omega)
      have wMe1 : ∀ b, b ≠ 99 → Me1 b = M4 b := by intro b h; rw [← hMe1]; exact hb_set_c h
      refine he_iload (n := 184) (i := 9) (by decide +kernel) rfl ?_
      have hxe1 : HX Me1 := fun k => by rw [← hMe1]; exact hxk_s (hl_asp k _ _ (by omega)) (hx4 k)
      have hSe : hl_S M4 Me1 := hl_Sset (a := 99) (by decide +kernel) (by omega) wMe1 (fun t ht e => by have := hl_trk t ht; omega)
      have hR5 : hl_rel 1 i M2 Me1 := by
        refine ⟨hl_St (hl_St hSd hR4.1) hSe, fun c hc n => ?_, fun c hc n hn => ?_, fun j hj => ?_⟩
        · by_cases e : c = 1 ∧ n = x2.toInt.toNat
          · obtain ⟨rfl, rfl⟩ := e
            have s1 : hv Me1 99 x2.toInt.toNat = ce180.toInt := sMe1
            show hv Me1 99 x2.toInt.toNat = hv M2 99 x2.toInt.toNat
            omega
          · rw [eMe1 _ _ (by omega), hR4.2.1 c hc n, eMd1 _ _ (by omega)]
        · have h9 : hv Md1 (94 + 5 * c) n = hv M2 (94 + 5 * c) n ∨ hv Md1 (94 + 5 * c) n ≠ 0 := by
            by_cases e : c = 1 ∧ n = x2.toInt.toNat
            · obtain ⟨rfl, rfl⟩ := e
              have s1 : hv Md1 99 x2.toInt.toNat = cd160.toInt := sMd1
              refine .inr ?_
              show hv Md1 99 x2.toInt.toNat ≠ 0
              omega
            · exact .inl (eMd1 _ _ (by omega))
          rw [eMe1 _ _ (.inl (by omega)), hR4.2.2.1 c hc n ?_, eMd1 _ _ (.inl (by omega))]
          rcases hn with hn | hn
          · exact .inl (by omega)
          · rcases h9 with h9 | h9
            · exact .inr (by rw [h9]; exact hn)
            · exact .inr h9
        · rw [hb_vc (wMe1 _ (by omega)), hR4.2.2.2 j (by omega), hb_vc (wMd1 _ (by omega))]
      have hR05 := hl_relt (Nat.le_refl _) (Nat.le_refl _) hR02 hR5
      have d5 : hv Me1 98 x2.toInt.toNat = -1 := by
        have s1 : hv Md1 99 x2.toInt.toNat = cd160.toInt := sMd1
        have h1 : hv M4 (93 + 5 * 1) x2.toInt.toNat = hv Md1 (93 + 5 * 1) x2.toInt.toNat := hR4.2.2.1 1 (by omega) _ (.inr (by show hv Md1 99 x2.toInt.toNat ≠ 0; omega))
        have h1 : hv M4 98 x2.toInt.toNat = hv Md1 98 x2.toInt.toNat := h1
        rw [eMe1 _ _ (.inl (by decide)), h1, eMd1 _ _ (.inl (by decide))]
        exact d2
      have n5 : hv Me1 (111 + 3 * i) 0 = x2.toInt := by
        rw [hb_vc (wMe1 _ (by omega)), hR4.2.2.2 i (by omega), hb_vc (wMd1 _ (by omega))]
        exact hnm h143
      by_cases h184 : r4.toInt = 0
      · skip
        refine he_ifeq_t (n := 187) (t := 199) (by decide +kernel) (by omega) ?_
        refine he_iconst (n := 200) (c := -1) (by decide +kernel) (by decide) ?_
        intro ce199 hce199
        refine he_reti (by decide +kernel) ?_
        exact K Me1 _ hme1 hxe1 hR05 (by omega) (by omega)
      · skip
        refine he_ifeq_f (n := 187) (t := 199) (by decide +kernel) (by omega) ?_
        refine he_aload (n := 188) (i := 0) (by decide +kernel) rfl ?_
        refine he_iload (n := 189) (i := 1) (by decide +kernel) rfl ?_
        refine he_aload (n := 191) (i := 7) (by decide +kernel) rfl ?_
        refine he_iload (n := 193) (i := 6) (by decide +kernel) rfl ?_
        refine he_v3 (n := 196) (j := 43) (ci := 0) (mx := 6) (ns := [4058, 4060, 48, 292]) (by decide +kernel) ((hb_kd (a := 8) hme1 rfl).trans rfl) (by decide) (by show 4 ≤ 6; omega) ?_
        rw [mq_e43]
        refine hl_def1 (nm := x2.toInt) hi hme1 hxe1 (by omega) (by omega) (by omega) n5 (by omega) (by omega) d5 ?_
        intro M6 r6 hm6 hx6' hD l5 l6
        have hR6 : hl_rel 1 i Me1 M6 := by
          refine ⟨⟨fun a ha hw => ?_, fun a ha => hD.1 a (by omega) (by omega) (by omega), ?_⟩, fun c hc n => hb_vc (hD.1 _ (by omega) (by omega) (by omega)) n, fun c hc n hn => ?_, fun j hj => hb_vc (hD.1 _ (by omega) (by omega) (by omega)) 0⟩
          · have h1 : ∀ b ∈ [8, 40, 98], mz_q194.2.2.2.2.2.elem b = true := by decide +kernel
            have h2 : ∀ b ∈ [8, 40, 98], a ≠ b := by
              rintro b hb rfl
              rw [h1 _ hb] at hw
              cases hw
            exact hD.1 a (h2 8 (by decide)) (h2 40 (by decide)) (h2 98 (by decide))
          · refine hb_same_of (fun t => decide (t.1 = 8 ∧ t.2 ≠ 7 ∨ t.1 ≠ 8 ∧ t.1 ≠ 40 ∧ t.1 ≠ 98)) ?_ (by decide +kernel)
            intro t ht
            rcases of_decide_eq_true ht with ⟨h1, h2⟩ | ⟨h1, h2, h3⟩
            · rw [h1]
              exact hD.2.1 _ h2
            · exact hb_vc (hD.1 _ h1 h2 h3) _
          · by_cases e : c = 1 ∧ n = x2.toInt.toNat
            · obtain ⟨rfl, rfl⟩ := e
              exfalso
              have s1 : hv Me1 99 x2.toInt.toNat = ce180.toInt := sMe1
              have hn : 1 < 1 ∨ hv Me1 99 x2.toInt.toNat ≠ 0 := hn
              omega
            · by_cases e2 : c = 1
              · subst e2
                exact hD.2.2 n (by omega)
              · exact hb_vc (hD.1 _ (by omega) (by omega) (by omega)) n
        show mq_R mq_PP (d + 1) 38 196 _ [.int r6] (M6, z, u) Q
        refine he_goto (t := 200) (by decide +kernel) ?_
        refine he_reti (by decide +kernel) ?_
        exact K M6 _ hm6 hx6' (hl_relt (Nat.le_refl _) (Nat.le_refl _) hR05 hR6) (by omega) (by omega)
    · skip
      refine he_ifeq_f (n := 146) (t := 154) (by decide +kernel) (by omega) ?_
      refine he_aload (n := 147) (i := 0) (by decide +kernel) rfl ?_
      refine he_iload (n := 149) (i := 8) (by decide +kernel) rfl ?_
      refine he_iload (n := 150) (i := 2) (by decide +kernel) rfl ?_
      refine he_v2 (n := 153) (j := 25) (ci := 0) (mx := 3) (ns := [4001, 4003, 37, 166]) (by decide +kernel) ((hb_kd (a := 8) hm2 rfl).trans rfl) (by decide) (by show 3 ≤ 3; omega) ?_
      rw [mq_e25]
      refine hu_blame (hC (mz_q72, 1) (List.mem_of_getElem? (show mz_Cs[72]? = _ from rfl)) (by decide)) (by omega) hz hm2 hx2 (by omega) (by omega) (by omega) (by omega) ?_
      intro Mx rx hmx hxx kd1 kd2 kd3 ld1
      have hR0x := hl_relt (Nat.le_refl _) (Nat.le_refl _) hR02 (hl_relf (k := 1) (dep := i) (by omega) (by decide +kernel) (fun j _ => rfl) (by decide +kernel) kd1 kd2 kd3)
      show mq_R mq_PP (d + 1) 38 153 _ [.int rx] (Mx, z, u) Q
      refine he_reti (by decide +kernel) ?_
      exact K Mx _ hmx hxx hR0x (by omega) (by omega)
  · intro M1 r hm1 gx gw g8 ge
    intros
    exact K M1 r hm1 gx (hl_relf (q' := hg_a1_q) (by omega) (by decide +kernel) (fun j hj => hj) (by decide +kernel) gw g8 ge) (by omega) (by omega)
def hg_a2_q : mz_Q := (38, [(1, 8), (0, 0), (0, 0), (0, 0), (3, 0), (3, 0), (3, 0), (3, 0), (3, 0), (3, 0)], [(-2, [(1, 1)]), (2, [(1, -1)]), (0, [(2, 1)]), (31, [(2, -1)]), (0, [(3, 1)]), (40, [(3, -1)])], [2, 1, 4, 3, 5, 6, 7], [(0, 0, [(1, [(78, 1)]), (-1, [(78, -1)])])], [8, 9, 10, 11, 12, 13, 14, 15, 16, 17, 18, 19, 20, 21, 22, 23, 24, 25, 26, 27, 28, 29, 30, 31, 42, 95, 100, 105, 110])
def hg_a2_s : List mz_Sp2 := [(116, [(1, 8), (0, 0), (0, 0), (0, 0), (1, 101), (0, 0), (0, 0), (3, 0), (3, 0), (3, 0)], [(0, 0), (1, 39)], [(0, [(1, -1), (72, 1)]), (0, [(1, 1), (72, -1)]), (0, [(2, -1), (73, 1)]), (0, [(2, 1), (73, -1)]), (0, [(3, -1), (74, 1)]), (0, [(3, 1), (74, -1)]), (0, [(3, -1), (81, 1)]), (0, [(3, 1), (81, -1)]), (0, [(11, -1), (84, 1)]), (0, [(11, 1), (84, -1)]), (4, [(83, -1)]), (0, [(83, 1)]), (1, [(76, 1)]), (31, [(76, -1)]), (0, [(76, 1)]), (0, [(76, 1), (77, -8)]), (7, [(76, -1), (77, 8)]), (240, [(85, -1)]), (0, [(85, 1)]), (200, [(86, -1)]), (0, [(86, 1)]), (1928, [(87, -1)]), (0, [(87, 1)]), (1920, [(88, -1)]), (0, [(88, 1)]), (1, [(89, -1)]), (0, [(89, 1)])])]
def hg_a2_h : List mz_H := [(38, 0, []), (0, 0, []), (0, 0, [(0, 1)]), (0, 0, [(1, 1)]), (0, 0, []), (0, 0, []), (0, 0, []), (101, 0, []), (70, 0, []), (0, 0, [(4, 1)]), (0, 0, [(5, 1)]), (0, 0, []), (118, 0, []), (0, 0, []), (3, 0, []), (0, 0, [(1, 1)]), (0, 0, []), (1, 0, []), (0, 0, [(0, 1)]), (69, 0, []), (0, 0, [(19, 1)]), (0, 0, [(20, 1)]), (0, 0, []), (120, 0, []), (0, 0, [(3, 1)]), (0, 0, [(2, 1)]), (0, 7, [(6, 1), (10, 1)]), (0, 7, [(7, 1), (11, 1)]), (0, 0, []), (3, 0, []), (0, 0, [(1, 1)]), (0, 0, []), (37, 0, []), (0, 7, [(11, 1), (15, 1)]), (0, 7, [(12, 1), (16, 1)]), (1000, 0, []), (1, 0, []), (0, 0, [(15, 1)]), (9, 0, []), (84, 0, []), (0, 0, []), (3, 0, []), (0, 0, [(1, 1)]), (0, 0, []), (69, 0, []), (0, 0, [(49, 1)]), (0, 0, [(50, 1)]), (0, 0, []), (3, 0, []), (0, 0, [(3, 1)]), (0, 0, []), (39, 0, []), (0, 0, []), (0, 0, []), (0, 0, []), (0, 0, []), (0, 0, []), (0, 0, []), (0, 0, []), (0, 0, []), (0, 0, []), (0, 0, []), (0, 0, []), (0, 0, [(47, 1)]), (0, 0, [(46, 1)]), (0, 0, [(41, 1)]), (0, 0, [(42, 1)]), (0, 0, [(41, 1)]), (0, 0, [(38, 1)]), (0, 0, [(37, 1)]), (0, 0, [(21, 1)]), (0, 0, [(20, 1)]), (0, 0, [(19, 1)]), (0, 0, [(18, 1)]), (0, 0, [(17, 1)]), (0, 0, [(16, 1)]), (0, 0, [(15, 1)]), (0, 0, [(14, 1)]), (0, 0, [(13, 1)]), (0, 0, [(12, 1)]), (1, 1, []), (0, 0, [(54, 1)]), (3, 0, []), (0, 0, [(54, 1)]), (72, 0, []), (0, 0, []), (0, 0, []), (0, 0, [(58, 1)]), (0, 0, [(59, 1)]), (0, 0, []), (0, 0, []), (0, 0, [(1, 1)]), (0, 0, [(0, 1)]), (72, 0, []), (0, 0, []), (0, 0, []), (0, 0, [(50, 1)]), (0, 0, [(51, 1)]), (0, 0, []), (0, 0, []), (0, 0, [(1, 1)]), (0, 0, [(0, 1)]), (72, 0, []), (0, 0, []), (0, 0, []), (0, 0, [(31, 1)]), (0, 0, [(32, 1)]), (0, 0, []), (0, 0, []), (0, 0, [(1, 1)]), (0, 0, [(0, 1)]), (72, 0, []), (0, 0, []), (0, 0, []), (0, 0, [(16, 1)]), (0, 0, [(17, 1)]), (0, 0, []), (0, 0, []), (0, 0, [(1, 1)]), (0, 0, [(0, 1)])]
set_option maxRecDepth 100000 in
theorem hg_a2_c : mz_blk mz_GG mq_PP mz_Cs hg_a2_q 10 10 0 hg_a2_s [(5, 1, 0, 2, 1, [])] 70 hg_a2_h = true := by decide +kernel
theorem hg_a2 {X : (Nat → mq_C) → Prop} (hX : ∀ M M' : Nat → mq_C, mz_same mz_GG M M' → X M → X M') (hC : ∀ c ∈ mz_Cs, c.2 < 10 → mz_Ct mz_GG mq_PP X c.1 c.2) {d z u : Nat} {M : Nat → mq_C} {Q : (Option Value ⊕ Nat) → mq_S → Prop} {x1 : Int32} {x2 : Int32} {x3 : Int32} {o4 : Option Value} {o5 : Option Value} {o6 : Option Value} {o7 : Option Value} {o8 : Option Value} {o9 : Option Value} (hd : 10 ≤ d) (hz : 272 ≤ z) (hm : mz_sh mz_GG M) (hx : X M) (h0 : mq_nl o4 = true) (h1 : mq_nl o5 = true) (h2 : mq_nl o6 = true) (h3 : mq_nl o7 = true) (h4 : mq_nl o8 = true) (h5 : mq_nl o9 = true) (p0 : 0 ≤ (-2) + x1.toInt) (p1 : 0 ≤ 2 - x1.toInt) (p2 : 0 ≤ x2.toInt) (p3 : 0 ≤ 31 - x2.toInt) (p4 : 0 ≤ x3.toInt) (p5 : 0 ≤ 40 - x3.toInt)
    (k0 : ∀ (M' : Nat → mq_C) (y5 : Int32) (y6 : Int32) (w7 : Option Value) (w8 : Option Value) (w9 : Option Value), mz_sh mz_GG M' → X M' → mz_fr hg_a2_q M M' → (∀ a, a < 8 → M' a = M a) → hb_same mz_GG hg_a2_q M M' → mq_nl w7 = true → mq_nl w8 = true → mq_nl w9 = true → hv M' 8 7 = hv M 8 7 → 0 ≤ 4 - hv M' 8 10 → 0 ≤ hv M' 8 10 → 0 ≤ 1 + y5.toInt → 0 ≤ 31 - y5.toInt → 0 ≤ y5.toInt → 0 ≤ y5.toInt - 8 * y6.toInt → 0 ≤ 7 - y5.toInt + 8 * y6.toInt → 0 ≤ 240 - hv M' 9 2 → 0 ≤ hv M' 9 2 → 0 ≤ 200 - hv M' 9 1 → 0 ≤ hv M' 9 1 → 0 ≤ 1928 - hv M' 9 3 → 0 ≤ hv M' 9 3 → 0 ≤ 1920 - hv M' 9 4 → 0 ≤ hv M' 9 4 → 0 ≤ 1 - hv M' 9 5 → 0 ≤ hv M' 9 5 → mq_R mq_PP d 38 116 [some (.ref 8), some (.int x1), some (.int x2), some (.int x3), some (.ref 101), some (.int y5), some (.int y6), w7, w8, w9] [.int x3, .ref 39] (M', z, u) Q)
    (w0 : ∀ (M' : Nat → mq_C) (r : Int32), mz_sh mz_GG M' → X M' → mz_fr hg_a2_q M M' → (∀ a, a < 8 → M' a = M a) → hb_same mz_GG hg_a2_q M M' → 0 ≤ 1 + r.toInt → 0 ≤ (-1) - r.toInt → Q (.inl (some (.int r))) (M', z, u)) : mq_R mq_PP d 38 0 [some (.ref 8), some (.int x1), some (.int x2), some (.int x3), o4, o5, o6, o7, o8, o9] [] (M, z, u) Q := by
  refine hb_blk mz_GG mq_PP X (q := hg_a2_q) (nl := 10) (M := M) hb_okG hX hC hg_a2_c hz hd (L := [some (.ref 8), some (.int x1), some (.int x2), some (.int x3), o4, o5, o6, o7, o8, o9]) (st := []) (show hb_lk mz_GG ([(1, 8), (0, 0), (0, 0), (0, 0), (3, 0), (3, 0), (3, 0), (3, 0), (3, 0), (3, 0)]) _ from ⟨⟨List.mem_singleton.mpr rfl, rfl⟩, trivial, trivial, trivial, h0, h1, h2, h3, h4, h5, trivial⟩) (show hb_pk mz_GG ([]) _ from trivial) hm hx ?_ ?_ ?_
  · exact hb_cons (show 0 ≤ mz_ev _ _ from (show 0 ≤ -2 + (1 * x1.toInt + 0) by omega)) (hb_cons (show 0 ≤ mz_ev _ _ from (show 0 ≤ 2 + ((-1) * x1.toInt + 0) by omega)) (hb_cons (show 0 ≤ mz_ev _ _ from (show 0 ≤ 0 + (1 * x2.toInt + 0) by omega)) (hb_cons (show 0 ≤ mz_ev _ _ from (show 0 ≤ 31 + ((-1) * x2.toInt + 0) by omega)) (hb_cons (show 0 ≤ mz_ev _ _ from (show 0 ≤ 0 + (1 * x3.toInt + 0) by omega)) (hb_cons (show 0 ≤ mz_ev _ _ from (show 0 ≤ 40 + ((-1) * x3.toInt + 0) by omega)) (hb_nil))))))
  · intro s hs
    rcases List.mem_cons.mp hs with rfl | hs
    · intro ρ1 L' st' M' g1 g2 gm gr gf gs gx gw g8 ge
      obtain ⟨e0, L1, rfl, n0, gg0⟩ := hb_l1 mz_GG g1
      obtain rfl : e0 = 8 := List.mem_singleton.mp n0
      obtain ⟨y1, L1, rfl, qr72, gg1⟩ := hb_l0 mz_GG gg0
      have r72 : ρ1 72 = y1.toInt := qr72
      obtain ⟨y2, L1, rfl, qr73, gg2⟩ := hb_l0 mz_GG gg1
      have r73 : ρ1 73 = y2.toInt := qr73
      obtain ⟨y3, L1, rfl, qr74, gg3⟩ := hb_l0 mz_GG gg2
      have r74 : ρ1 74 = y3.toInt := qr74
      obtain ⟨e4, L1, rfl, n4, gg4⟩ := hb_l1 mz_GG gg3
      obtain rfl : e4 = 101 := List.mem_singleton.mp n4
      obtain ⟨y5, L1, rfl, qr76, gg5⟩ := hb_l0 mz_GG gg4
      have r76 : ρ1 76 = y5.toInt := qr76
      obtain ⟨y6, L1, rfl, qr77, gg6⟩ := hb_l0 mz_GG gg5
      have r77 : ρ1 77 = y6.toInt := qr77
      obtain ⟨w7, L1, rfl, n7, gg7⟩ := hb_l3 mz_GG gg6
      obtain ⟨w8, L1, rfl, n8, gg8⟩ := hb_l3 mz_GG gg7
      obtain ⟨w9, L1, rfl, n9, gg9⟩ := hb_l3 mz_GG gg8
      obtain ⟨y10, s1, rfl, qr81, gg10⟩ := hb_p0 mz_GG g2
      have r81 : ρ1 81 = y10.toInt := qr81
      obtain ⟨e11, s1, rfl, n11, gg11⟩ := hb_p1 mz_GG gg10
      obtain rfl : e11 = 39 := List.mem_singleton.mp n11
      obtain rfl := hb_ln mz_GG gg9
      obtain rfl := hb_pn mz_GG gg11
      have r1 : ρ1 1 = x1.toInt := gr 1 (by decide +kernel)
      have r2 : ρ1 2 = x2.toInt := gr 2 (by decide +kernel)
      have r3 : ρ1 3 = x3.toInt := gr 3 (by decide +kernel)
      have r11 : ρ1 11 = hv M 8 7 := gr 11 (by decide +kernel)
      have r83 : ρ1 83 = hv M' 8 10 := gm 0 2 (8, 10) rfl rfl
      have r84 : ρ1 84 = hv M' 8 7 := gm 1 1 (8, 7) rfl rfl
      have r85 : ρ1 85 = hv M' 9 2 := gm 2 4 (9, 2) rfl rfl
      have r86 : ρ1 86 = hv M' 9 1 := gm 3 3 (9, 1) rfl rfl
      have r87 : ρ1 87 = hv M' 9 3 := gm 4 5 (9, 3) rfl rfl
      have r88 : ρ1 88 = hv M' 9 4 := gm 5 6 (9, 4) rfl rfl
      have r89 : ρ1 89 = hv M' 9 5 := gm 6 7 (9, 5) rfl rfl
      obtain ⟨f0, gf⟩ := hb_unc gf
      have f0 : 0 ≤ 0 + ((-1) * ρ1 1 + (1 * ρ1 72 + 0)) := f0
      rw [r1, r72] at f0
      obtain ⟨f1, gf⟩ := hb_unc gf
      have f1 : 0 ≤ 0 + (1 * ρ1 1 + ((-1) * ρ1 72 + 0)) := f1
      rw [r1, r72] at f1
      obtain ⟨f2, gf⟩ := hb_unc gf
      have f2 : 0 ≤ 0 + ((-1) * ρ1 2 + (1 * ρ1 73 + 0)) := f2
      rw [r2, r73] at f2
      obtain ⟨f3, gf⟩ := hb_unc gf
      have f3 : 0 ≤ 0 + (1 * ρ1 2 + ((-1) * ρ1 73 + 0)) := f3
      rw [r2, r73] at f3
      obtain ⟨f4, gf⟩ := hb_unc gf
      have f4 : 0 ≤ 0 + ((-1) * ρ1 3 + (1 * ρ1 74 + 0)) := f4
      rw [r3, r74] at f4
      obtain ⟨f5, gf⟩ := hb_unc gf
      have f5 : 0 ≤ 0 + (1 * ρ1 3 + ((-1) * ρ1 74 + 0)) := f5
      rw [r3, r74] at f5
      obtain ⟨f6, gf⟩ := hb_unc gf
      have f6 : 0 ≤ 0 + ((-1) * ρ1 3 + (1 * ρ1 81 + 0)) := f6
      rw [r3, r81] at f6
      obtain ⟨f7, gf⟩ := hb_unc gf
      have f7 : 0 ≤ 0 + (1 * ρ1 3 + ((-1) * ρ1 81 + 0)) := f7
      rw [r3, r81] at f7
      obtain ⟨f8, gf⟩ := hb_unc gf
      have f8 : 0 ≤ 0 + ((-1) * ρ1 11 + (1 * ρ1 84 + 0)) := f8
      rw [r11, r84] at f8
      obtain ⟨f9, gf⟩ := hb_unc gf
      have f9 : 0 ≤ 0 + (1 * ρ1 11 + ((-1) * ρ1 84 + 0)) := f9
      rw [r11, r84] at f9
      obtain ⟨f10, gf⟩ := hb_unc gf
      have f10 : 0 ≤ 4 + ((-1) * ρ1 83 + 0) := f10
      rw [r83] at f10
      obtain ⟨f11, gf⟩ := hb_unc gf
      have f11 : 0 ≤ 0 + (1 * ρ1 83 + 0) := f11
      rw [r83] at f11
      obtain ⟨f12, gf⟩ := hb_unc gf
      have f12 : 0 ≤ 1 + (1 * ρ1 76 + 0) := f12
      rw [r76] at f12
      obtain ⟨f13, gf⟩ := hb_unc gf
      have f13 : 0 ≤ 31 + ((-1) * ρ1 76 + 0) := f13
      rw [r76] at f13
      obtain ⟨f14, gf⟩ := hb_unc gf
      have f14 : 0 ≤ 0 + (1 * ρ1 76 + 0) := f14
      rw [r76] at f14
      obtain ⟨f15, gf⟩ := hb_unc gf
      have f15 : 0 ≤ 0 + (1 * ρ1 76 + ((-8) * ρ1 77 + 0)) := f15
      rw [r76, r77] at f15
      obtain ⟨f16, gf⟩ := hb_unc gf
      have f16 : 0 ≤ 7 + ((-1) * ρ1 76 + (8 * ρ1 77 + 0)) := f16
      rw [r76, r77] at f16
      obtain ⟨f17, gf⟩ := hb_unc gf
      have f17 : 0 ≤ 240 + ((-1) * ρ1 85 + 0) := f17
      rw [r85] at f17
      obtain ⟨f18, gf⟩ := hb_unc gf
      have f18 : 0 ≤ 0 + (1 * ρ1 85 + 0) := f18
      rw [r85] at f18
      obtain ⟨f19, gf⟩ := hb_unc gf
      have f19 : 0 ≤ 200 + ((-1) * ρ1 86 + 0) := f19
      rw [r86] at f19
      obtain ⟨f20, gf⟩ := hb_unc gf
      have f20 : 0 ≤ 0 + (1 * ρ1 86 + 0) := f20
      rw [r86] at f20
      obtain ⟨f21, gf⟩ := hb_unc gf
      have f21 : 0 ≤ 1928 + ((-1) * ρ1 87 + 0) := f21
      rw [r87] at f21
      obtain ⟨f22, gf⟩ := hb_unc gf
      have f22 : 0 ≤ 0 + (1 * ρ1 87 + 0) := f22
      rw [r87] at f22
      obtain ⟨f23, gf⟩ := hb_unc gf
      have f23 : 0 ≤ 1920 + ((-1) * ρ1 88 + 0) := f23
      rw [r88] at f23
      obtain ⟨f24, gf⟩ := hb_unc gf
      have f24 : 0 ≤ 0 + (1 * ρ1 88 + 0) := f24
      rw [r88] at f24
      obtain ⟨f25, gf⟩ := hb_unc gf
      have f25 : 0 ≤ 1 + ((-1) * ρ1 89 + 0) := f25
      rw [r89] at f25
      obtain ⟨f26, gf⟩ := hb_unc gf
      have f26 : 0 ≤ 0 + (1 * ρ1 89 + 0) := f26
      rw [r89] at f26
      have hy1 : y1 = x1 := hb_inj f0 f1
      subst y1
      have hy2 : y2 = x2 := hb_inj f2 f3
      subst y2
      have hy3 : y3 = x3 := hb_inj f4 f5
      subst y3
      have hy10 : y10 = x3 := hb_inj f6 f7
      subst y10
      exact k0 M' y5 y6 w7 w8 w9 gs gx gw g8 ge n7 n8 n9 (by have h1 := f8; have h2 := f9; omega) (by have h1 := f10; omega) (by have h1 := f11; omega) (by have h1 := f12; omega) (by have h1 := f13; omega) (by have h1 := f14; omega) (by have h1 := f15; omega) (by have h1 := f16; omega) (by have h1 := f17; omega) (by have h1 := f18; omega) (by have h1 := f19; omega) (by have h1 := f20; omega) (by have h1 := f21; omega) (by have h1 := f22; omega) (by have h1 := f23; omega) (by have h1 := f24; omega) (by have h1 := f25; omega) (by have h1 := f26; omega)
    cases hs
  · intro r S hpo
    obtain ⟨b1, b2, b3, b4, b5, p, hp, res, hf, hre⟩ := hpo
    rcases List.mem_cons.mp hp with rfl | hp
    · obtain ⟨x, rfl, hr, hz1, hu1⟩ := mz_re_0 mz_GG hre rfl
      obtain ⟨M', z', u'⟩ := S
      cases hz1
      cases hu1
      have r78 : hb_r1 mz_GG hg_a2_q (hb_rb mz_GG hg_a2_q 10 [some (.ref 8), some (.int x1), some (.int x2), some (.int x3), o4, o5, o6, o7, o8, o9] [] M) M' res 78 = res := rfl
      obtain ⟨f0, hf⟩ := hb_unc hf
      have f0 : 0 ≤ 1 + (1 * res + 0) := f0
      rw [← hr] at f0
      obtain ⟨f1, hf⟩ := hb_unc hf
      have f1 : 0 ≤ -1 + ((-1) * res + 0) := f1
      rw [← hr] at f1
      exact w0 M' x b1 b2 b3 b4 b5 (by have h1 := f0; omega) (by have h1 := f1; omega)
    cases hp

theorem hg_l2 {t : Nat} (hC : ∀ c ∈ mz_Cs, c.2 < 11 → mz_Ct mz_GG mq_PP HX c.1 c.2) (IH : hl_IH t) {d z u : Nat} {Q : (Option Value ⊕ Nat) → mq_S → Prop} {M : Nat → mq_C} {x1 x2 x3 : Int32} (hd : 14 + 3 * t ≤ d) (hz : 272 ≤ z) (hm : mz_sh mz_GG M) (hx : HX M) (p1 : x1.toInt = 2) (p3 : 0 ≤ x2.toInt) (p4 : x2.toInt ≤ 31) (p5 : 0 ≤ x3.toInt) (p6 : x3.toInt + 1 + (t : Int) = 41) (hdf : hv M 103 x2.toInt.toNat = -1) (hab : hv M 104 x2.toInt.toNat = 0)
    (K : ∀ (M' : Nat → mq_C) (r : Int32), mz_sh mz_GG M' → HX M' → hl_rel 2 x3.toInt.toNat M M' → -1 ≤ r.toInt → r.toInt ≤ 127 → Q (.inl (some (.int r))) (M', z, u)) : mq_R mq_PP d 38 0 [some (.ref 8), some (.int x1), some (.int x2), some (.int x3), none, none, none, none, none, none] [] (M, z, u) Q := by
  obtain ⟨i, hie⟩ : ∃ i, x3.toInt.toNat = i := ⟨_, rfl⟩
  have hi : i < 41 := by omega
  rw [hie] at K
  have hx1e : x1.toInt.toNat = 2 := by omega
  obtain ⟨d, rfl⟩ : ∃ d', d = d' + 1 := ⟨d - 1, by omega⟩
  refine hg_a2 HX_same (fun c hc h => hC c hc (by omega)) (by omega) hz hm hx rfl rfl rfl rfl rfl rfl (by omega) (by omega) (by omega) (by omega) (by omega) (by omega) ?_ ?_
  · intro M1 y5 y6 w7 w8 w9 hm1 gx gw g8 ge hw7 hw8 hw9
    intros
    have hR1 : hl_rel 2 i M M1 := hl_relf (q' := hg_a2_q) (by omega) (by decide +kernel) (fun j hj => hj) (by decide +kernel) gw g8 ge
    have a1 : hv M1 104 x2.toInt.toNat = 0 := by rw [hb_vc (gw 104 (by decide) (by decide))]; exact hab
    have d1 : hv M1 103 x2.toInt.toNat = -1 := by rw [hb_vc (gw 103 (by decide) (by decide))]; exact hdf
    refine he_aald (n := 117) (kind := 72) (b := 111 + 3 * i) hm1 (by decide +kernel) rfl rfl (by decide) (by omega) (by rw [hie]; exact hl_f hi) ?_
    refine he_astore (n := 119) (i := 7) (by decide +kernel) rfl ?_
    refine he_aload (n := 121) (i := 7) (by decide +kernel) rfl ?_
    refine he_aload (n := 122) (i := 0) (by decide +kernel) rfl ?_
    refine he_getr (n := 125) (ci := 0) (j := 0) (ns := [2077, 12]) (b := 9) hm1 (by decide +kernel) rfl rfl (by decide +kernel) ?_
    refine he_getr (n := 128) (ci := 8) (j := 0) (ns := [1067, 177]) (b := 10) hm1 (by decide +kernel) rfl rfl (by decide +kernel) ?_
    refine he_aload (n := 129) (i := 0) (by decide +kernel) rfl ?_
    refine he_getr (n := 132) (ci := 0) (j := 0) (ns := [2077, 12]) (b := 9) hm1 (by decide +kernel) rfl rfl (by decide +kernel) ?_
    refine hb_gfd (n := 135) (ci := 8) (j := 1) (ns := [1070, 114]) hm1 (by decide +kernel) rfl rfl (by decide) rfl ?_
    intro va132 hva132 lva132 uva132
    refine he_iload (n := 136) (i := 2) (by decide +kernel) rfl ?_
    refine he_v3 (n := 139) (j := 58) (ci := 2) (mx := 4) (ns := [4031, 4032, 4033, 284]) (by decide +kernel) ((hb_kd hm1 (hl_cell hi)).trans rfl) (by decide) (by show 4 ≤ 4; omega) ?_
    rw [mq_e58]
    refine hl_read (fun c hc h => hC c hc (by omega)) (by omega) hz hi hm1 gx (by omega) (by omega) ?_
    intro M2 r2 hm2 hRR hfr l1 l2 hnm
    have hx2 := hl_x hRR gx
    have hR2 : hl_rel 2 i M1 M2 := hl_relread hi hRR hfr
    have hR02 := hl_relt (Nat.le_refl _) (Nat.le_refl _) hR1 hR2
    have a2 : hv M2 104 x2.toInt.toNat = 0 := by rw [hb_vc (hRR 104 (by decide) (by decide))]; exact a1
    have d2 : hv M2 103 x2.toInt.toNat = -1 := by rw [hb_vc (hRR 103 (by decide) (by decide))]; exact d1
    show mq_R mq_PP (d + 1) 38 139 _ [.int r2] (M2, z, u) Q
    refine he_istore (n := 141) (i := 8) (by decide +kernel) rfl ?_
    refine he_iload (n := 143) (i := 8) (by decide +kernel) rfl ?_
    by_cases h143 : r2.toInt = 0
    · skip
      refine he_ifeq_t (n := 146) (t := 154) (by decide +kernel) (by omega) ?_
      refine he_aload (n := 156) (i := 4) (by decide +kernel) rfl ?_
      refine he_getr (n := 159) (ci := 5) (j := 5) (ns := [2033, 266]) (b := 104) hm2 (by decide +kernel) rfl rfl (by decide +kernel) ?_
      refine he_iload (n := 160) (i := 2) (by decide +kernel) rfl ?_
      refine he_iconst (n := 161) (c := 1) (by decide +kernel) (by decide) ?_
      intro cd160 hcd160
      refine hb_sta (n := 162) (kind := 65) hm2 (by decide +kernel) rfl rfl (.inr ⟨rfl, he_01 (by omega)⟩) (by omega) (show _ < (32 : Int) by omega) ?_
      generalize hMd1 : hb_set M2 104 (x2.toInt.toNat) cd160 = Md1
      have hmd1 : mz_sh mz_GG Md1 := by rw [← hMd1]; exact hb_set_sh hm2 rfl hb_at1 (by omega) (by omega)
      have eMd1 : ∀ b j, b ≠ 104 ∨ j ≠ x2.toInt.toNat → hv Md1 b j = hv M2 b j := by intro b j h; rw [← hMd1]; exact hb_set_n h
      have sMd1 : hv Md1 104 (x2.toInt.toNat) = cd160.toInt := by rw [← hMd1]; exact hb_set_v hm2 rfl (show _ < 32 by omega)
      have wMd1 : ∀ b, b ≠ 104 → Md1 b = M2 b := by intro b h; rw [← hMd1]; exact hb_set_c h
      refine he_aload (n := 163) (i := 0) (by decide +kernel) rfl ?_
      refine he_iload (n := 164) (i := 1) (by decide +kernel) rfl ?_
      refine he_aload (n := 166) (i := 7) (by decide +kernel) rfl ?_
      refine he_iload (n := 167) (i := 3) (by decide +kernel) rfl ?_
      refine he_iconst (n := 168) (c := 1) (by decide +kernel) (by decide) ?_
      intro cd167 hcd167
      refine he_iadd (n := 169) (by decide +kernel) (by omega) (by omega) ?_
      intro vd168 hvd168
      have hxd1 : HX Md1 := fun k => by rw [← hMd1]; exact hxk_s (hl_asp k _ _ (by omega)) (hx2 k)
      have hSd : hl_S M2 Md1 := hl_Sset (a := 104) (by decide +kernel) (by omega) wMd1 (fun t ht e => by have := hl_trk t ht; omega)
      refine he_v3 (n := 172) (j := 41) (ci := 0) (mx := 7) (ns := [4050, 4052, 46, 288]) (by decide +kernel) ((hb_kd (a := 8) hmd1 rfl).trans rfl) (by decide) (by show 4 ≤ 7; omega) ?_
      rw [mq_e41]
      have hy' : vd168.toInt = x3.toInt + 1 := by omega
      generalize vd168 = y at hy' ⊢
      refine he_iconst (n := 1) (c := 0) (by decide +kernel) (by decide) ?_
      intro cp0 hcp0
      refine he_istore (n := 3) (i := 4) (by decide +kernel) rfl ?_
      refine hl_parts hC IH (M0 := Md1) (nm := x2.toInt) (by omega) hz hi (by omega) (by omega) (by omega) (by omega) (by omega) (by omega) ?_ 3 Md1 cp0 none none (by omega) (by omega) hmd1 hxd1 hl_relr ?_ rfl rfl
      rotate_left
      · rw [hb_vc (wMd1 _ (by omega))]
        exact hnm h143
      intro M4 r4 hm4 hx4 hR4 l3 l4
      show mq_R mq_PP (d + 1) 38 172 _ [.int r4] (M4, z, u) Q
      refine he_istore (n := 174) (i := 9) (by decide +kernel) rfl ?_
      refine he_aload (n := 176) (i := 4) (by decide +kernel) rfl ?_
      refine he_getr (n := 179) (ci := 5) (j := 5) (ns := [2033, 266]) (b := 104) hm4 (by decide +kernel) rfl rfl (by decide +kernel) ?_
      refine he_iload (n := 180) (i := 2) (by decide +kernel) rfl ?_
      refine he_iconst (n := 181) (c := 0) (by decide +kernel) (by decide) ?_
      intro ce180 hce180
      refine hb_sta (n := 182) (kind := 65) hm4 (by decide +kernel) rfl rfl (.inr ⟨rfl, he_01 (by omega)⟩) (by omega) (show _ < (32 : Int) by omega) ?_
      generalize hMe1 : hb_set M4 104 (x2.toInt.toNat) ce180 = Me1
      have hme1 : mz_sh mz_GG Me1 := by rw [← hMe1]; exact hb_set_sh hm4 rfl hb_at1 (by omega) (by omega)
      have eMe1 : ∀ b j, b ≠ 104 ∨ j ≠ x2.toInt.toNat → hv Me1 b j = hv M4 b j := by intro b j h; rw [← hMe1]; exact hb_set_n h
      have sMe1 : hv Me1 104 (x2.toInt.toNat) = ce180.toInt := by rw [← hMe1]; exact hb_set_v hm4 rfl (show _ < 32 by omega)
      have wMe1 : ∀ b, b ≠ 104 → Me1 b = M4 b := by intro b h; rw [← hMe1]; exact hb_set_c h
      refine he_iload (n := 184) (i := 9) (by decide +kernel) rfl ?_
      have hxe1 : HX Me1 := fun k => by rw [← hMe1]; exact hxk_s (hl_asp k _ _ (by omega)) (hx4 k)
      have hSe : hl_S M4 Me1 := hl_Sset (a := 104) (by decide +kernel) (by omega) wMe1 (fun t ht e => by have := hl_trk t ht; omega)
      have hR5 : hl_rel 2 i M2 Me1 := by
        refine ⟨hl_St (hl_St hSd hR4.1) hSe, fun c hc n => ?_, fun c hc n hn => ?_, fun j hj => ?_⟩
        · by_cases e : c = 2 ∧ n = x2.toInt.toNat
          · obtain ⟨rfl, rfl⟩ := e
            have s1 : hv Me1 104 x2.toInt.toNat = ce180.toInt := sMe1
            show hv Me1 104 x2.toInt.toNat = hv M2 104 x2.toInt.toNat
            omega
          · rw [eMe1 _ _ (by omega), hR4.2.1 c hc n, eMd1 _ _ (by omega)]
        · have h9 : hv Md1 (94 + 5 * c) n = hv M2 (94 + 5 * c) n ∨ hv Md1 (94 + 5 * c) n ≠ 0 := by
            by_cases e : c = 2 ∧ n = x2.toInt.toNat
            · obtain ⟨rfl, rfl⟩ := e
              have s1 : hv Md1 104 x2.toInt.toNat = cd160.toInt := sMd1
              refine .inr ?_
              show hv Md1 104 x2.toInt.toNat ≠ 0
              omega
            · exact .inl (eMd1 _ _ (by omega))
          rw [eMe1 _ _ (.inl (by omega)), hR4.2.2.1 c hc n ?_, eMd1 _ _ (.inl (by omega))]
          rcases hn with hn | hn
          · exact .inl (by omega)
          · rcases h9 with h9 | h9
            · exact .inr (by rw [h9]; exact hn)
            · exact .inr h9
        · rw [hb_vc (wMe1 _ (by omega)), hR4.2.2.2 j (by omega), hb_vc (wMd1 _ (by omega))]
      have hR05 := hl_relt (Nat.le_refl _) (Nat.le_refl _) hR02 hR5
      have d5 : hv Me1 103 x2.toInt.toNat = -1 := by
        have s1 : hv Md1 104 x2.toInt.toNat = cd160.toInt := sMd1
        have h1 : hv M4 (93 + 5 * 2) x2.toInt.toNat = hv Md1 (93 + 5 * 2) x2.toInt.toNat := hR4.2.2.1 2 (by omega) _ (.inr (by show hv Md1 104 x2.toInt.toNat ≠ 0; omega))
        have h1 : hv M4 103 x2.toInt.toNat = hv Md1 103 x2.toInt.toNat := h1
        rw [eMe1 _ _ (.inl (by decide)), h1, eMd1 _ _ (.inl (by decide))]
        exact d2
      have n5 : hv Me1 (111 + 3 * i) 0 = x2.toInt := by
        rw [hb_vc (wMe1 _ (by omega)), hR4.2.2.2 i (by omega), hb_vc (wMd1 _ (by omega))]
        exact hnm h143
      by_cases h184 : r4.toInt = 0
      · skip
        refine he_ifeq_t (n := 187) (t := 199) (by decide +kernel) (by omega) ?_
        refine he_iconst (n := 200) (c := -1) (by decide +kernel) (by decide) ?_
        intro ce199 hce199
        refine he_reti (by decide +kernel) ?_
        exact K Me1 _ hme1 hxe1 hR05 (by omega) (by omega)
      · skip
        refine he_ifeq_f (n := 187) (t := 199) (by decide +kernel) (by omega) ?_
        refine he_aload (n := 188) (i := 0) (by decide +kernel) rfl ?_
        refine he_iload (n := 189) (i := 1) (by decide +kernel) rfl ?_
        refine he_aload (n := 191) (i := 7) (by decide +kernel) rfl ?_
        refine he_iload (n := 193) (i := 6) (by decide +kernel) rfl ?_
        refine he_v3 (n := 196) (j := 43) (ci := 0) (mx := 6) (ns := [4058, 4060, 48, 292]) (by decide +kernel) ((hb_kd (a := 8) hme1 rfl).trans rfl) (by decide) (by show 4 ≤ 6; omega) ?_
        rw [mq_e43]
        refine hl_def2 (nm := x2.toInt) hi hme1 hxe1 (by omega) (by omega) (by omega) n5 (by omega) (by omega) d5 ?_
        intro M6 r6 hm6 hx6' hD l5 l6
        have hR6 : hl_rel 2 i Me1 M6 := by
          refine ⟨⟨fun a ha hw => ?_, fun a ha => hD.1 a (by omega) (by omega) (by omega), ?_⟩, fun c hc n => hb_vc (hD.1 _ (by omega) (by omega) (by omega)) n, fun c hc n hn => ?_, fun j hj => hb_vc (hD.1 _ (by omega) (by omega) (by omega)) 0⟩
          · have h1 : ∀ b ∈ [8, 40, 103], mz_q194.2.2.2.2.2.elem b = true := by decide +kernel
            have h2 : ∀ b ∈ [8, 40, 103], a ≠ b := by
              rintro b hb rfl
              rw [h1 _ hb] at hw
              cases hw
            exact hD.1 a (h2 8 (by decide)) (h2 40 (by decide)) (h2 103 (by decide))
          · refine hb_same_of (fun t => decide (t.1 = 8 ∧ t.2 ≠ 7 ∨ t.1 ≠ 8 ∧ t.1 ≠ 40 ∧ t.1 ≠ 103)) ?_ (by decide +kernel)
            intro t ht
            rcases of_decide_eq_true ht with ⟨h1, h2⟩ | ⟨h1, h2, h3⟩
            · rw [h1]
              exact hD.2.1 _ h2
            · exact hb_vc (hD.1 _ h1 h2 h3) _
          · by_cases e : c = 2 ∧ n = x2.toInt.toNat
            · obtain ⟨rfl, rfl⟩ := e
              exfalso
              have s1 : hv Me1 104 x2.toInt.toNat = ce180.toInt := sMe1
              have hn : 2 < 2 ∨ hv Me1 104 x2.toInt.toNat ≠ 0 := hn
              omega
            · by_cases e2 : c = 2
              · subst e2
                exact hD.2.2 n (by omega)
              · exact hb_vc (hD.1 _ (by omega) (by omega) (by omega)) n
        show mq_R mq_PP (d + 1) 38 196 _ [.int r6] (M6, z, u) Q
        refine he_goto (t := 200) (by decide +kernel) ?_
        refine he_reti (by decide +kernel) ?_
        exact K M6 _ hm6 hx6' (hl_relt (Nat.le_refl _) (Nat.le_refl _) hR05 hR6) (by omega) (by omega)
    · skip
      refine he_ifeq_f (n := 146) (t := 154) (by decide +kernel) (by omega) ?_
      refine he_aload (n := 147) (i := 0) (by decide +kernel) rfl ?_
      refine he_iload (n := 149) (i := 8) (by decide +kernel) rfl ?_
      refine he_iload (n := 150) (i := 2) (by decide +kernel) rfl ?_
      refine he_v2 (n := 153) (j := 25) (ci := 0) (mx := 3) (ns := [4001, 4003, 37, 166]) (by decide +kernel) ((hb_kd (a := 8) hm2 rfl).trans rfl) (by decide) (by show 3 ≤ 3; omega) ?_
      rw [mq_e25]
      refine hu_blame (hC (mz_q72, 1) (List.mem_of_getElem? (show mz_Cs[72]? = _ from rfl)) (by decide)) (by omega) hz hm2 hx2 (by omega) (by omega) (by omega) (by omega) ?_
      intro Mx rx hmx hxx kd1 kd2 kd3 ld1
      have hR0x := hl_relt (Nat.le_refl _) (Nat.le_refl _) hR02 (hl_relf (k := 2) (dep := i) (by omega) (by decide +kernel) (fun j _ => rfl) (by decide +kernel) kd1 kd2 kd3)
      show mq_R mq_PP (d + 1) 38 153 _ [.int rx] (Mx, z, u) Q
      refine he_reti (by decide +kernel) ?_
      exact K Mx _ hmx hxx hR0x (by omega) (by omega)
  · intro M1 r hm1 gx gw g8 ge
    intros
    exact K M1 r hm1 gx (hl_relf (q' := hg_a2_q) (by omega) (by decide +kernel) (fun j hj => hj) (by decide +kernel) gw g8 ge) (by omega) (by omega)
def hg_a3_q : mz_Q := (38, [(1, 8), (0, 0), (0, 0), (0, 0), (3, 0), (3, 0), (3, 0), (3, 0), (3, 0), (3, 0)], [(-3, [(1, 1)]), (3, [(1, -1)]), (0, [(2, 1)]), (31, [(2, -1)]), (0, [(3, 1)]), (40, [(3, -1)])], [2, 1, 4, 3, 5, 6, 7], [(0, 0, [(1, [(78, 1)]), (-1, [(78, -1)])])], [8, 9, 10, 11, 12, 13, 14, 15, 16, 17, 18, 19, 20, 21, 22, 23, 24, 25, 26, 27, 28, 29, 30, 31, 42, 95, 100, 105, 110])
def hg_a3_s : List mz_Sp2 := [(116, [(1, 8), (0, 0), (0, 0), (0, 0), (1, 106), (0, 0), (0, 0), (3, 0), (3, 0), (3, 0)], [(0, 0), (1, 39)], [(0, [(1, -1), (72, 1)]), (0, [(1, 1), (72, -1)]), (0, [(2, -1), (73, 1)]), (0, [(2, 1), (73, -1)]), (0, [(3, -1), (74, 1)]), (0, [(3, 1), (74, -1)]), (0, [(3, -1), (81, 1)]), (0, [(3, 1), (81, -1)]), (0, [(11, -1), (84, 1)]), (0, [(11, 1), (84, -1)]), (4, [(83, -1)]), (0, [(83, 1)]), (1, [(76, 1)]), (31, [(76, -1)]), (0, [(76, 1)]), (0, [(76, 1), (77, -8)]), (7, [(76, -1), (77, 8)]), (240, [(85, -1)]), (0, [(85, 1)]), (200, [(86, -1)]), (0, [(86, 1)]), (1928, [(87, -1)]), (0, [(87, 1)]), (1920, [(88, -1)]), (0, [(88, 1)]), (1, [(89, -1)]), (0, [(89, 1)])])]
def hg_a3_h : List mz_H := [(38, 0, []), (0, 0, []), (0, 0, [(0, 1)]), (0, 0, [(1, 1)]), (0, 0, []), (0, 0, []), (0, 0, []), (106, 0, []), (70, 0, []), (0, 0, [(4, 1)]), (0, 0, [(5, 1)]), (0, 0, []), (118, 0, []), (0, 0, []), (3, 0, []), (0, 0, [(1, 1)]), (0, 0, []), (1, 0, []), (0, 0, [(0, 1)]), (69, 0, []), (0, 0, [(19, 1)]), (0, 0, [(20, 1)]), (0, 0, []), (120, 0, []), (0, 0, [(3, 1)]), (0, 0, [(2, 1)]), (0, 7, [(6, 1), (10, 1)]), (0, 7, [(7, 1), (11, 1)]), (0, 0, []), (3, 0, []), (0, 0, [(1, 1)]), (0, 0, []), (37, 0, []), (0, 7, [(11, 1), (15, 1)]), (0, 7, [(12, 1), (16, 1)]), (1000, 0, []), (1, 0, []), (0, 0, [(15, 1)]), (9, 0, []), (84, 0, []), (0, 0, []), (3, 0, []), (0, 0, [(1, 1)]), (0, 0, []), (69, 0, []), (0, 0, [(49, 1)]), (0, 0, [(50, 1)]), (0, 0, []), (3, 0, []), (0, 0, [(3, 1)]), (0, 0, []), (39, 0, []), (0, 0, []), (0, 0, []), (0, 0, []), (0, 0, []), (0, 0, []), (0, 0, []), (0, 0, []), (0, 0, []), (0, 0, []), (0, 0, []), (0, 0, []), (0, 0, [(47, 1)]), (0, 0, [(46, 1)]), (0, 0, [(41, 1)]), (0, 0, [(42, 1)]), (0, 0, [(41, 1)]), (0, 0, [(38, 1)]), (0, 0, [(37, 1)]), (0, 0, [(21, 1)]), (0, 0, [(20, 1)]), (0, 0, [(19, 1)]), (0, 0, [(18, 1)]), (0, 0, [(17, 1)]), (0, 0, [(16, 1)]), (0, 0, [(15, 1)]), (0, 0, [(14, 1)]), (0, 0, [(13, 1)]), (0, 0, [(12, 1)]), (1, 1, []), (0, 0, [(54, 1)]), (3, 0, []), (0, 0, [(54, 1)]), (72, 0, []), (0, 0, []), (0, 0, []), (0, 0, [(58, 1)]), (0, 0, [(59, 1)]), (0, 0, []), (0, 0, []), (0, 0, [(1, 1)]), (0, 0, [(0, 1)]), (72, 0, []), (0, 0, []), (0, 0, []), (0, 0, [(50, 1)]), (0, 0, [(51, 1)]), (0, 0, []), (0, 0, []), (0, 0, [(1, 1)]), (0, 0, [(0, 1)]), (72, 0, []), (0, 0, []), (0, 0, []), (0, 0, [(31, 1)]), (0, 0, [(32, 1)]), (0, 0, []), (0, 0, []), (0, 0, [(1, 1)]), (0, 0, [(0, 1)]), (72, 0, []), (0, 0, []), (0, 0, []), (0, 0, [(16, 1)]), (0, 0, [(17, 1)]), (0, 0, []), (0, 0, []), (0, 0, [(1, 1)]), (0, 0, [(0, 1)])]
set_option maxRecDepth 100000 in
theorem hg_a3_c : mz_blk mz_GG mq_PP mz_Cs hg_a3_q 10 10 0 hg_a3_s [(5, 1, 0, 3, 1, [])] 70 hg_a3_h = true := by decide +kernel
theorem hg_a3 {X : (Nat → mq_C) → Prop} (hX : ∀ M M' : Nat → mq_C, mz_same mz_GG M M' → X M → X M') (hC : ∀ c ∈ mz_Cs, c.2 < 10 → mz_Ct mz_GG mq_PP X c.1 c.2) {d z u : Nat} {M : Nat → mq_C} {Q : (Option Value ⊕ Nat) → mq_S → Prop} {x1 : Int32} {x2 : Int32} {x3 : Int32} {o4 : Option Value} {o5 : Option Value} {o6 : Option Value} {o7 : Option Value} {o8 : Option Value} {o9 : Option Value} (hd : 10 ≤ d) (hz : 272 ≤ z) (hm : mz_sh mz_GG M) (hx : X M) (h0 : mq_nl o4 = true) (h1 : mq_nl o5 = true) (h2 : mq_nl o6 = true) (h3 : mq_nl o7 = true) (h4 : mq_nl o8 = true) (h5 : mq_nl o9 = true) (p0 : 0 ≤ (-3) + x1.toInt) (p1 : 0 ≤ 3 - x1.toInt) (p2 : 0 ≤ x2.toInt) (p3 : 0 ≤ 31 - x2.toInt) (p4 : 0 ≤ x3.toInt) (p5 : 0 ≤ 40 - x3.toInt)
    (k0 : ∀ (M' : Nat → mq_C) (y5 : Int32) (y6 : Int32) (w7 : Option Value) (w8 : Option Value) (w9 : Option Value), mz_sh mz_GG M' → X M' → mz_fr hg_a3_q M M' → (∀ a, a < 8 → M' a = M a) → hb_same mz_GG hg_a3_q M M' → mq_nl w7 = true → mq_nl w8 = true → mq_nl w9 = true → hv M' 8 7 = hv M 8 7 → 0 ≤ 4 - hv M' 8 10 → 0 ≤ hv M' 8 10 → 0 ≤ 1 + y5.toInt → 0 ≤ 31 - y5.toInt → 0 ≤ y5.toInt → 0 ≤ y5.toInt - 8 * y6.toInt → 0 ≤ 7 - y5.toInt + 8 * y6.toInt → 0 ≤ 240 - hv M' 9 2 → 0 ≤ hv M' 9 2 → 0 ≤ 200 - hv M' 9 1 → 0 ≤ hv M' 9 1 → 0 ≤ 1928 - hv M' 9 3 → 0 ≤ hv M' 9 3 → 0 ≤ 1920 - hv M' 9 4 → 0 ≤ hv M' 9 4 → 0 ≤ 1 - hv M' 9 5 → 0 ≤ hv M' 9 5 → mq_R mq_PP d 38 116 [some (.ref 8), some (.int x1), some (.int x2), some (.int x3), some (.ref 106), some (.int y5), some (.int y6), w7, w8, w9] [.int x3, .ref 39] (M', z, u) Q)
    (w0 : ∀ (M' : Nat → mq_C) (r : Int32), mz_sh mz_GG M' → X M' → mz_fr hg_a3_q M M' → (∀ a, a < 8 → M' a = M a) → hb_same mz_GG hg_a3_q M M' → 0 ≤ 1 + r.toInt → 0 ≤ (-1) - r.toInt → Q (.inl (some (.int r))) (M', z, u)) : mq_R mq_PP d 38 0 [some (.ref 8), some (.int x1), some (.int x2), some (.int x3), o4, o5, o6, o7, o8, o9] [] (M, z, u) Q := by
  refine hb_blk mz_GG mq_PP X (q := hg_a3_q) (nl := 10) (M := M) hb_okG hX hC hg_a3_c hz hd (L := [some (.ref 8), some (.int x1), some (.int x2), some (.int x3), o4, o5, o6, o7, o8, o9]) (st := []) (show hb_lk mz_GG ([(1, 8), (0, 0), (0, 0), (0, 0), (3, 0), (3, 0), (3, 0), (3, 0), (3, 0), (3, 0)]) _ from ⟨⟨List.mem_singleton.mpr rfl, rfl⟩, trivial, trivial, trivial, h0, h1, h2, h3, h4, h5, trivial⟩) (show hb_pk mz_GG ([]) _ from trivial) hm hx ?_ ?_ ?_
  · exact hb_cons (show 0 ≤ mz_ev _ _ from (show 0 ≤ -3 + (1 * x1.toInt + 0) by omega)) (hb_cons (show 0 ≤ mz_ev _ _ from (show 0 ≤ 3 + ((-1) * x1.toInt + 0) by omega)) (hb_cons (show 0 ≤ mz_ev _ _ from (show 0 ≤ 0 + (1 * x2.toInt + 0) by omega)) (hb_cons (show 0 ≤ mz_ev _ _ from (show 0 ≤ 31 + ((-1) * x2.toInt + 0) by omega)) (hb_cons (show 0 ≤ mz_ev _ _ from (show 0 ≤ 0 + (1 * x3.toInt + 0) by omega)) (hb_cons (show 0 ≤ mz_ev _ _ from (show 0 ≤ 40 + ((-1) * x3.toInt + 0) by omega)) (hb_nil))))))
  · intro s hs
    rcases List.mem_cons.mp hs with rfl | hs
    · intro ρ1 L' st' M' g1 g2 gm gr gf gs gx gw g8 ge
      obtain ⟨e0, L1, rfl, n0, gg0⟩ := hb_l1 mz_GG g1
      obtain rfl : e0 = 8 := List.mem_singleton.mp n0
      obtain ⟨y1, L1, rfl, qr72, gg1⟩ := hb_l0 mz_GG gg0
      have r72 : ρ1 72 = y1.toInt := qr72
      obtain ⟨y2, L1, rfl, qr73, gg2⟩ := hb_l0 mz_GG gg1
      have r73 : ρ1 73 = y2.toInt := qr73
      obtain ⟨y3, L1, rfl, qr74, gg3⟩ := hb_l0 mz_GG gg2
      have r74 : ρ1 74 = y3.toInt := qr74
      obtain ⟨e4, L1, rfl, n4, gg4⟩ := hb_l1 mz_GG gg3
      obtain rfl : e4 = 106 := List.mem_singleton.mp n4
      obtain ⟨y5, L1, rfl, qr76, gg5⟩ := hb_l0 mz_GG gg4
      have r76 : ρ1 76 = y5.toInt := qr76
      obtain ⟨y6, L1, rfl, qr77, gg6⟩ := hb_l0 mz_GG gg5
      have r77 : ρ1 77 = y6.toInt := qr77
      obtain ⟨w7, L1, rfl, n7, gg7⟩ := hb_l3 mz_GG gg6
      obtain ⟨w8, L1, rfl, n8, gg8⟩ := hb_l3 mz_GG gg7
      obtain ⟨w9, L1, rfl, n9, gg9⟩ := hb_l3 mz_GG gg8
      obtain ⟨y10, s1, rfl, qr81, gg10⟩ := hb_p0 mz_GG g2
      have r81 : ρ1 81 = y10.toInt := qr81
      obtain ⟨e11, s1, rfl, n11, gg11⟩ := hb_p1 mz_GG gg10
      obtain rfl : e11 = 39 := List.mem_singleton.mp n11
      obtain rfl := hb_ln mz_GG gg9
      obtain rfl := hb_pn mz_GG gg11
      have r1 : ρ1 1 = x1.toInt := gr 1 (by decide +kernel)
      have r2 : ρ1 2 = x2.toInt := gr 2 (by decide +kernel)
      have r3 : ρ1 3 = x3.toInt := gr 3 (by decide +kernel)
      have r11 : ρ1 11 = hv M 8 7 := gr 11 (by decide +kernel)
      have r83 : ρ1 83 = hv M' 8 10 := gm 0 2 (8, 10) rfl rfl
      have r84 : ρ1 84 = hv M' 8 7 := gm 1 1 (8, 7) rfl rfl
      have r85 : ρ1 85 = hv M' 9 2 := gm 2 4 (9, 2) rfl rfl
      have r86 : ρ1 86 = hv M' 9 1 := gm 3 3 (9, 1) rfl rfl
      have r87 : ρ1 87 = hv M' 9 3 := gm 4 5 (9, 3) rfl rfl
      have r88 : ρ1 88 = hv M' 9 4 := gm 5 6 (9, 4) rfl rfl
      have r89 : ρ1 89 = hv M' 9 5 := gm 6 7 (9, 5) rfl rfl
      obtain ⟨f0, gf⟩ := hb_unc gf
      have f0 : 0 ≤ 0 + ((-1) * ρ1 1 + (1 * ρ1 72 + 0)) := f0
      rw [r1, r72] at f0
      obtain ⟨f1, gf⟩ := hb_unc gf
      have f1 : 0 ≤ 0 + (1 * ρ1 1 + ((-1) * ρ1 72 + 0)) := f1
      rw [r1, r72] at f1
      obtain ⟨f2, gf⟩ := hb_unc gf
      have f2 : 0 ≤ 0 + ((-1) * ρ1 2 + (1 * ρ1 73 + 0)) := f2
      rw [r2, r73] at f2
      obtain ⟨f3, gf⟩ := hb_unc gf
      have f3 : 0 ≤ 0 + (1 * ρ1 2 + ((-1) * ρ1 73 + 0)) := f3
      rw [r2, r73] at f3
      obtain ⟨f4, gf⟩ := hb_unc gf
      have f4 : 0 ≤ 0 + ((-1) * ρ1 3 + (1 * ρ1 74 + 0)) := f4
      rw [r3, r74] at f4
      obtain ⟨f5, gf⟩ := hb_unc gf
      have f5 : 0 ≤ 0 + (1 * ρ1 3 + ((-1) * ρ1 74 + 0)) := f5
      rw [r3, r74] at f5
      obtain ⟨f6, gf⟩ := hb_unc gf
      have f6 : 0 ≤ 0 + ((-1) * ρ1 3 + (1 * ρ1 81 + 0)) := f6
      rw [r3, r81] at f6
      obtain ⟨f7, gf⟩ := hb_unc gf
      have f7 : 0 ≤ 0 + (1 * ρ1 3 + ((-1) * ρ1 81 + 0)) := f7
      rw [r3, r81] at f7
      obtain ⟨f8, gf⟩ := hb_unc gf
      have f8 : 0 ≤ 0 + ((-1) * ρ1 11 + (1 * ρ1 84 + 0)) := f8
      rw [r11, r84] at f8
      obtain ⟨f9, gf⟩ := hb_unc gf
      have f9 : 0 ≤ 0 + (1 * ρ1 11 + ((-1) * ρ1 84 + 0)) := f9
      rw [r11, r84] at f9
      obtain ⟨f10, gf⟩ := hb_unc gf
      have f10 : 0 ≤ 4 + ((-1) * ρ1 83 + 0) := f10
      rw [r83] at f10
      obtain ⟨f11, gf⟩ := hb_unc gf
      have f11 : 0 ≤ 0 + (1 * ρ1 83 + 0) := f11
      rw [r83] at f11
      obtain ⟨f12, gf⟩ := hb_unc gf
      have f12 : 0 ≤ 1 + (1 * ρ1 76 + 0) := f12
      rw [r76] at f12
      obtain ⟨f13, gf⟩ := hb_unc gf
      have f13 : 0 ≤ 31 + ((-1) * ρ1 76 + 0) := f13
      rw [r76] at f13
      obtain ⟨f14, gf⟩ := hb_unc gf
      have f14 : 0 ≤ 0 + (1 * ρ1 76 + 0) := f14
      rw [r76] at f14
      obtain ⟨f15, gf⟩ := hb_unc gf
      have f15 : 0 ≤ 0 + (1 * ρ1 76 + ((-8) * ρ1 77 + 0)) := f15
      rw [r76, r77] at f15
      obtain ⟨f16, gf⟩ := hb_unc gf
      have f16 : 0 ≤ 7 + ((-1) * ρ1 76 + (8 * ρ1 77 + 0)) := f16
      rw [r76, r77] at f16
      obtain ⟨f17, gf⟩ := hb_unc gf
      have f17 : 0 ≤ 240 + ((-1) * ρ1 85 + 0) := f17
      rw [r85] at f17
      obtain ⟨f18, gf⟩ := hb_unc gf
      have f18 : 0 ≤ 0 + (1 * ρ1 85 + 0) := f18
      rw [r85] at f18
      obtain ⟨f19, gf⟩ := hb_unc gf
      have f19 : 0 ≤ 200 + ((-1) * ρ1 86 + 0) := f19
      rw [r86] at f19
      obtain ⟨f20, gf⟩ := hb_unc gf
      have f20 : 0 ≤ 0 + (1 * ρ1 86 + 0) := f20
      rw [r86] at f20
      obtain ⟨f21, gf⟩ := hb_unc gf
      have f21 : 0 ≤ 1928 + ((-1) * ρ1 87 + 0) := f21
      rw [r87] at f21
      obtain ⟨f22, gf⟩ := hb_unc gf
      have f22 : 0 ≤ 0 + (1 * ρ1 87 + 0) := f22
      rw [r87] at f22
      obtain ⟨f23, gf⟩ := hb_unc gf
      have f23 : 0 ≤ 1920 + ((-1) * ρ1 88 + 0) := f23
      rw [r88] at f23
      obtain ⟨f24, gf⟩ := hb_unc gf
      have f24 : 0 ≤ 0 + (1 * ρ1 88 + 0) := f24
      rw [r88] at f24
      obtain ⟨f25, gf⟩ := hb_unc gf
      have f25 : 0 ≤ 1 + ((-1) * ρ1 89 + 0) := f25
      rw [r89] at f25
      obtain ⟨f26, gf⟩ := hb_unc gf
      have f26 : 0 ≤ 0 + (1 * ρ1 89 + 0) := f26
      rw [r89] at f26
      have hy1 : y1 = x1 := hb_inj f0 f1
      subst y1
      have hy2 : y2 = x2 := hb_inj f2 f3
      subst y2
      have hy3 : y3 = x3 := hb_inj f4 f5
      subst y3
      have hy10 : y10 = x3 := hb_inj f6 f7
      subst y10
      exact k0 M' y5 y6 w7 w8 w9 gs gx gw g8 ge n7 n8 n9 (by have h1 := f8; have h2 := f9; omega) (by have h1 := f10; omega) (by have h1 := f11; omega) (by have h1 := f12; omega) (by have h1 := f13; omega) (by have h1 := f14; omega) (by have h1 := f15; omega) (by have h1 := f16; omega) (by have h1 := f17; omega) (by have h1 := f18; omega) (by have h1 := f19; omega) (by have h1 := f20; omega) (by have h1 := f21; omega) (by have h1 := f22; omega) (by have h1 := f23; omega) (by have h1 := f24; omega) (by have h1 := f25; omega) (by have h1 := f26; omega)
    cases hs
  · intro r S hpo
    obtain ⟨b1, b2, b3, b4, b5, p, hp, res, hf, hre⟩ := hpo
    rcases List.mem_cons.mp hp with rfl | hp
    · obtain ⟨x, rfl, hr, hz1, hu1⟩ := mz_re_0 mz_GG hre rfl
      obtain ⟨M', z', u'⟩ := S
      cases hz1
      cases hu1
      have r78 : hb_r1 mz_GG hg_a3_q (hb_rb mz_GG hg_a3_q 10 [some (.ref 8), some (.int x1), some (.int x2), some (.int x3), o4, o5, o6, o7, o8, o9] [] M) M' res 78 = res := rfl
      obtain ⟨f0, hf⟩ := hb_unc hf
      have f0 : 0 ≤ 1 + (1 * res + 0) := f0
      rw [← hr] at f0
      obtain ⟨f1, hf⟩ := hb_unc hf
      have f1 : 0 ≤ -1 + ((-1) * res + 0) := f1
      rw [← hr] at f1
      exact w0 M' x b1 b2 b3 b4 b5 (by have h1 := f0; omega) (by have h1 := f1; omega)
    cases hp

theorem hg_l3 {t : Nat} (hC : ∀ c ∈ mz_Cs, c.2 < 11 → mz_Ct mz_GG mq_PP HX c.1 c.2) (IH : hl_IH t) {d z u : Nat} {Q : (Option Value ⊕ Nat) → mq_S → Prop} {M : Nat → mq_C} {x1 x2 x3 : Int32} (hd : 14 + 3 * t ≤ d) (hz : 272 ≤ z) (hm : mz_sh mz_GG M) (hx : HX M) (p1 : x1.toInt = 3) (p3 : 0 ≤ x2.toInt) (p4 : x2.toInt ≤ 31) (p5 : 0 ≤ x3.toInt) (p6 : x3.toInt + 1 + (t : Int) = 41) (hdf : hv M 108 x2.toInt.toNat = -1) (hab : hv M 109 x2.toInt.toNat = 0)
    (K : ∀ (M' : Nat → mq_C) (r : Int32), mz_sh mz_GG M' → HX M' → hl_rel 3 x3.toInt.toNat M M' → -1 ≤ r.toInt → r.toInt ≤ 127 → Q (.inl (some (.int r))) (M', z, u)) : mq_R mq_PP d 38 0 [some (.ref 8), some (.int x1), some (.int x2), some (.int x3), none, none, none, none, none, none] [] (M, z, u) Q := by
  obtain ⟨i, hie⟩ : ∃ i, x3.toInt.toNat = i := ⟨_, rfl⟩
  have hi : i < 41 := by omega
  rw [hie] at K
  have hx1e : x1.toInt.toNat = 3 := by omega
  obtain ⟨d, rfl⟩ : ∃ d', d = d' + 1 := ⟨d - 1, by omega⟩
  refine hg_a3 HX_same (fun c hc h => hC c hc (by omega)) (by omega) hz hm hx rfl rfl rfl rfl rfl rfl (by omega) (by omega) (by omega) (by omega) (by omega) (by omega) ?_ ?_
  · intro M1 y5 y6 w7 w8 w9 hm1 gx gw g8 ge hw7 hw8 hw9
    intros
    have hR1 : hl_rel 3 i M M1 := hl_relf (q' := hg_a3_q) (by omega) (by decide +kernel) (fun j hj => hj) (by decide +kernel) gw g8 ge
    have a1 : hv M1 109 x2.toInt.toNat = 0 := by rw [hb_vc (gw 109 (by decide) (by decide))]; exact hab
    have d1 : hv M1 108 x2.toInt.toNat = -1 := by rw [hb_vc (gw 108 (by decide) (by decide))]; exact hdf
    refine he_aald (n := 117) (kind := 72) (b := 111 + 3 * i) hm1 (by decide +kernel) rfl rfl (by decide) (by omega) (by rw [hie]; exact hl_f hi) ?_
    refine he_astore (n := 119) (i := 7) (by decide +kernel) rfl ?_
    refine he_aload (n := 121) (i := 7) (by decide +kernel) rfl ?_
    refine he_aload (n := 122) (i := 0) (by decide +kernel) rfl ?_
    refine he_getr (n := 125) (ci := 0) (j := 0) (ns := [2077, 12]) (b := 9) hm1 (by decide +kernel) rfl rfl (by decide +kernel) ?_
    refine he_getr (n := 128) (ci := 8) (j := 0) (ns := [1067, 177]) (b := 10) hm1 (by decide +kernel) rfl rfl (by decide +kernel) ?_
    refine he_aload (n := 129) (i := 0) (by decide +kernel) rfl ?_
    refine he_getr (n := 132) (ci := 0) (j := 0) (ns := [2077, 12]) (b := 9) hm1 (by decide +kernel) rfl rfl (by decide +kernel) ?_
    refine hb_gfd (n := 135) (ci := 8) (j := 1) (ns := [1070, 114]) hm1 (by decide +kernel) rfl rfl (by decide) rfl ?_
    intro va132 hva132 lva132 uva132
    refine he_iload (n := 136) (i := 2) (by decide +kernel) rfl ?_
    refine he_v3 (n := 139) (j := 58) (ci := 2) (mx := 4) (ns := [4031, 4032, 4033, 284]) (by decide +kernel) ((hb_kd hm1 (hl_cell hi)).trans rfl) (by decide) (by show 4 ≤ 4; omega) ?_
    rw [mq_e58]
    refine hl_read (fun c hc h => hC c hc (by omega)) (by omega) hz hi hm1 gx (by omega) (by omega) ?_
    intro M2 r2 hm2 hRR hfr l1 l2 hnm
    have hx2 := hl_x hRR gx
    have hR2 : hl_rel 3 i M1 M2 := hl_relread hi hRR hfr
    have hR02 := hl_relt (Nat.le_refl _) (Nat.le_refl _) hR1 hR2
    have a2 : hv M2 109 x2.toInt.toNat = 0 := by rw [hb_vc (hRR 109 (by decide) (by decide))]; exact a1
    have d2 : hv M2 108 x2.toInt.toNat = -1 := by rw [hb_vc (hRR 108 (by decide) (by decide))]; exact d1
    show mq_R mq_PP (d + 1) 38 139 _ [.int r2] (M2, z, u) Q
    refine he_istore (n := 141) (i := 8) (by decide +kernel) rfl ?_
    refine he_iload (n := 143) (i := 8) (by decide +kernel) rfl ?_
    by_cases h143 : r2.toInt = 0
    · skip
      refine he_ifeq_t (n := 146) (t := 154) (by decide +kernel) (by omega) ?_
      refine he_aload (n := 156) (i := 4) (by decide +kernel) rfl ?_
      refine he_getr (n := 159) (ci := 5) (j := 5) (ns := [2033, 266]) (b := 109) hm2 (by decide +kernel) rfl rfl (by decide +kernel) ?_
      refine he_iload (n := 160) (i := 2) (by decide +kernel) rfl ?_
      refine he_iconst (n := 161) (c := 1) (by decide +kernel) (by decide) ?_
      intro cd160 hcd160
      refine hb_sta (n := 162) (kind := 65) hm2 (by decide +kernel) rfl rfl (.inr ⟨rfl, he_01 (by omega)⟩) (by omega) (show _ < (32 : Int) by omega) ?_
      generalize hMd1 : hb_set M2 109 (x2.toInt.toNat) cd160 = Md1
      have hmd1 : mz_sh mz_GG Md1 := by rw [← hMd1]; exact hb_set_sh hm2 rfl hb_at1 (by omega) (by omega)
      have eMd1 : ∀ b j, b ≠ 109 ∨ j ≠ x2.toInt.toNat → hv Md1 b j = hv M2 b j := by intro b j h; rw [← hMd1]; exact hb_set_n h
      have sMd1 : hv Md1 109 (x2.toInt.toNat) = cd160.toInt := by rw [← hMd1]; exact hb_set_v hm2 rfl (show _ < 32 by omega)
      have wMd1 : ∀ b, b ≠ 109 → Md1 b = M2 b := by intro b h; rw [← hMd1]; exact hb_set_c h
      refine he_aload (n := 163) (i := 0) (by decide +kernel) rfl ?_
      refine he_iload (n := 164) (i := 1) (by decide +kernel) rfl ?_
      refine he_aload (n := 166) (i := 7) (by decide +kernel) rfl ?_
      refine he_iload (n := 167) (i := 3) (by decide +kernel) rfl ?_
      refine he_iconst (n := 168) (c := 1) (by decide +kernel) (by decide) ?_
      intro cd167 hcd167
      refine he_iadd (n := 169) (by decide +kernel) (by omega) (by omega) ?_
      intro vd168 hvd168
      have hxd1 : HX Md1 := fun k => by rw [← hMd1]; exact hxk_s (hl_asp k _ _ (by omega)) (hx2 k)
      have hSd : hl_S M2 Md1 := hl_Sset (a := 109) (by decide +kernel) (by omega) wMd1 (fun t ht e => by have := hl_trk t ht; omega)
      refine he_v3 (n := 172) (j := 41) (ci := 0) (mx := 7) (ns := [4050, 4052, 46, 288]) (by decide +kernel) ((hb_kd (a := 8) hmd1 rfl).trans rfl) (by decide) (by show 4 ≤ 7; omega) ?_
      rw [mq_e41]
      have hy' : vd168.toInt = x3.toInt + 1 := by omega
      generalize vd168 = y at hy' ⊢
      refine he_iconst (n := 1) (c := 0) (by decide +kernel) (by decide) ?_
      intro cp0 hcp0
      refine he_istore (n := 3) (i := 4) (by decide +kernel) rfl ?_
      refine hl_parts hC IH (M0 := Md1) (nm := x2.toInt) (by omega) hz hi (by omega) (by omega) (by omega) (by omega) (by omega) (by omega) ?_ 3 Md1 cp0 none none (by omega) (by omega) hmd1 hxd1 hl_relr ?_ rfl rfl
      rotate_left
      · rw [hb_vc (wMd1 _ (by omega))]
        exact hnm h143
      intro M4 r4 hm4 hx4 hR4 l3 l4
      show mq_R mq_PP (d + 1) 38 172 _ [.int r4] (M4, z, u) Q
      refine he_istore (n := 174) (i := 9) (by decide +kernel) rfl ?_
      refine he_aload (n := 176) (i := 4) (by decide +kernel) rfl ?_
      refine he_getr (n := 179) (ci := 5) (j := 5) (ns := [2033, 266]) (b := 109) hm4 (by decide +kernel) rfl rfl (by decide +kernel) ?_
      refine he_iload (n := 180) (i := 2) (by decide +kernel) rfl ?_
      refine he_iconst (n := 181) (c := 0) (by decide +kernel) (by decide) ?_
      intro ce180 hce180
      refine hb_sta (n := 182) (kind := 65) hm4 (by decide +kernel) rfl rfl (.inr ⟨rfl, he_01 (by omega)⟩) (by omega) (show _ < (32 : Int) by omega) ?_
      generalize hMe1 : hb_set M4 109 (x2.toInt.toNat) ce180 = Me1
      have hme1 : mz_sh mz_GG Me1 := by rw [← hMe1]; exact hb_set_sh hm4 rfl hb_at1 (by omega) (by omega)
      have eMe1 : ∀ b j, b ≠ 109 ∨ j ≠ x2.toInt.toNat → hv Me1 b j = hv M4 b j := by intro b j h; rw [← hMe1]; exact hb_set_n h
      have sMe1 : hv Me1 109 (x2.toInt.toNat) = ce180.toInt := by rw [← hMe1]; exact hb_set_v hm4 rfl (show _ < 32 by omega)
      have wMe1 : ∀ b, b ≠ 109 → Me1 b = M4 b := by intro b h; rw [← hMe1]; exact hb_set_c h
      refine he_iload (n := 184) (i := 9) (by decide +kernel) rfl ?_
      have hxe1 : HX Me1 := fun k => by rw [← hMe1]; exact hxk_s (hl_asp k _ _ (by omega)) (hx4 k)
      have hSe : hl_S M4 Me1 := hl_Sset (a := 109) (by decide +kernel) (by omega) wMe1 (fun t ht e => by have := hl_trk t ht; omega)
      have hR5 : hl_rel 3 i M2 Me1 := by
        refine ⟨hl_St (hl_St hSd hR4.1) hSe, fun c hc n => ?_, fun c hc n hn => ?_, fun j hj => ?_⟩
        · by_cases e : c = 3 ∧ n = x2.toInt.toNat
          · obtain ⟨rfl, rfl⟩ := e
            have s1 : hv Me1 109 x2.toInt.toNat = ce180.toInt := sMe1
            show hv Me1 109 x2.toInt.toNat = hv M2 109 x2.toInt.toNat
            omega
          · rw [eMe1 _ _ (by omega), hR4.2.1 c hc n, eMd1 _ _ (by omega)]
        · have h9 : hv Md1 (94 + 5 * c) n = hv M2 (94 + 5 * c) n ∨ hv Md1 (94 + 5 * c) n ≠ 0 := by
            by_cases e : c = 3 ∧ n = x2.toInt.toNat
            · obtain ⟨rfl, rfl⟩ := e
              have s1 : hv Md1 109 x2.toInt.toNat = cd160.toInt := sMd1
              refine .inr ?_
              show hv Md1 109 x2.toInt.toNat ≠ 0
              omega
            · exact .inl (eMd1 _ _ (by omega))
          rw [eMe1 _ _ (.inl (by omega)), hR4.2.2.1 c hc n ?_, eMd1 _ _ (.inl (by omega))]
          rcases hn with hn | hn
          · exact .inl (by omega)
          · rcases h9 with h9 | h9
            · exact .inr (by rw [h9]; exact hn)
            · exact .inr h9
        · rw [hb_vc (wMe1 _ (by omega)), hR4.2.2.2 j (by omega), hb_vc (wMd1 _ (by omega))]
      have hR05 := hl_relt (Nat.le_refl _) (Nat.le_refl _) hR02 hR5
      have d5 : hv Me1 108 x2.toInt.toNat = -1 := by
        have s1 : hv Md1 109 x2.toInt.toNat = cd160.toInt := sMd1
        have h1 : hv M4 (93 + 5 * 3) x2.toInt.toNat = hv Md1 (93 + 5 * 3) x2.toInt.toNat := hR4.2.2.1 3 (by omega) _ (.inr (by show hv Md1 109 x2.toInt.toNat ≠ 0; omega))
        have h1 : hv M4 108 x2.toInt.toNat = hv Md1 108 x2.toInt.toNat := h1
        rw [eMe1 _ _ (.inl (by decide)), h1, eMd1 _ _ (.inl (by decide))]
        exact d2
      have n5 : hv Me1 (111 + 3 * i) 0 = x2.toInt := by
        rw [hb_vc (wMe1 _ (by omega)), hR4.2.2.2 i (by omega), hb_vc (wMd1 _ (by omega))]
        exact hnm h143
      by_cases h184 : r4.toInt = 0
      · skip
        refine he_ifeq_t (n := 187) (t := 199) (by decide +kernel) (by omega) ?_
        refine he_iconst (n := 200) (c := -1) (by decide +kernel) (by decide) ?_
        intro ce199 hce199
        refine he_reti (by decide +kernel) ?_
        exact K Me1 _ hme1 hxe1 hR05 (by omega) (by omega)
      · skip
        refine he_ifeq_f (n := 187) (t := 199) (by decide +kernel) (by omega) ?_
        refine he_aload (n := 188) (i := 0) (by decide +kernel) rfl ?_
        refine he_iload (n := 189) (i := 1) (by decide +kernel) rfl ?_
        refine he_aload (n := 191) (i := 7) (by decide +kernel) rfl ?_
        refine he_iload (n := 193) (i := 6) (by decide +kernel) rfl ?_
        refine he_v3 (n := 196) (j := 43) (ci := 0) (mx := 6) (ns := [4058, 4060, 48, 292]) (by decide +kernel) ((hb_kd (a := 8) hme1 rfl).trans rfl) (by decide) (by show 4 ≤ 6; omega) ?_
        rw [mq_e43]
        refine hl_def3 (nm := x2.toInt) hi hme1 hxe1 (by omega) (by omega) (by omega) n5 (by omega) (by omega) d5 ?_
        intro M6 r6 hm6 hx6' hD l5 l6
        have hR6 : hl_rel 3 i Me1 M6 := by
          refine ⟨⟨fun a ha hw => ?_, fun a ha => hD.1 a (by omega) (by omega) (by omega), ?_⟩, fun c hc n => hb_vc (hD.1 _ (by omega) (by omega) (by omega)) n, fun c hc n hn => ?_, fun j hj => hb_vc (hD.1 _ (by omega) (by omega) (by omega)) 0⟩
          · have h1 : ∀ b ∈ [8, 40, 108], mz_q194.2.2.2.2.2.elem b = true := by decide +kernel
            have h2 : ∀ b ∈ [8, 40, 108], a ≠ b := by
              rintro b hb rfl
              rw [h1 _ hb] at hw
              cases hw
            exact hD.1 a (h2 8 (by decide)) (h2 40 (by decide)) (h2 108 (by decide))
          · refine hb_same_of (fun t => decide (t.1 = 8 ∧ t.2 ≠ 7 ∨ t.1 ≠ 8 ∧ t.1 ≠ 40 ∧ t.1 ≠ 108)) ?_ (by decide +kernel)
            intro t ht
            rcases of_decide_eq_true ht with ⟨h1, h2⟩ | ⟨h1, h2, h3⟩
            · rw [h1]
              exact hD.2.1 _ h2
            · exact hb_vc (hD.1 _ h1 h2 h3) _
          · by_cases e : c = 3 ∧ n = x2.toInt.toNat
            · obtain ⟨rfl, rfl⟩ := e
              exfalso
              have s1 : hv Me1 109 x2.toInt.toNat = ce180.toInt := sMe1
              have hn : 3 < 3 ∨ hv Me1 109 x2.toInt.toNat ≠ 0 := hn
              omega
            · by_cases e2 : c = 3
              · subst e2
                exact hD.2.2 n (by omega)
              · exact hb_vc (hD.1 _ (by omega) (by omega) (by omega)) n
        show mq_R mq_PP (d + 1) 38 196 _ [.int r6] (M6, z, u) Q
        refine he_goto (t := 200) (by decide +kernel) ?_
        refine he_reti (by decide +kernel) ?_
        exact K M6 _ hm6 hx6' (hl_relt (Nat.le_refl _) (Nat.le_refl _) hR05 hR6) (by omega) (by omega)
    · skip
      refine he_ifeq_f (n := 146) (t := 154) (by decide +kernel) (by omega) ?_
      refine he_aload (n := 147) (i := 0) (by decide +kernel) rfl ?_
      refine he_iload (n := 149) (i := 8) (by decide +kernel) rfl ?_
      refine he_iload (n := 150) (i := 2) (by decide +kernel) rfl ?_
      refine he_v2 (n := 153) (j := 25) (ci := 0) (mx := 3) (ns := [4001, 4003, 37, 166]) (by decide +kernel) ((hb_kd (a := 8) hm2 rfl).trans rfl) (by decide) (by show 3 ≤ 3; omega) ?_
      rw [mq_e25]
      refine hu_blame (hC (mz_q72, 1) (List.mem_of_getElem? (show mz_Cs[72]? = _ from rfl)) (by decide)) (by omega) hz hm2 hx2 (by omega) (by omega) (by omega) (by omega) ?_
      intro Mx rx hmx hxx kd1 kd2 kd3 ld1
      have hR0x := hl_relt (Nat.le_refl _) (Nat.le_refl _) hR02 (hl_relf (k := 3) (dep := i) (by omega) (by decide +kernel) (fun j _ => rfl) (by decide +kernel) kd1 kd2 kd3)
      show mq_R mq_PP (d + 1) 38 153 _ [.int rx] (Mx, z, u) Q
      refine he_reti (by decide +kernel) ?_
      exact K Mx _ hmx hxx hR0x (by omega) (by omega)
  · intro M1 r hm1 gx gw g8 ge
    intros
    exact K M1 r hm1 gx (hl_relf (q' := hg_a3_q) (by omega) (by decide +kernel) (fun j hj => hj) (by decide +kernel) gw g8 ge) (by omega) (by omega)
