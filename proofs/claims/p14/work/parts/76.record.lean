/-! record and isSound of the model. -/
theorem hj_by {d z u : Nat} {Q : (Option Value ⊕ Nat) → mq_S → Prop} {M : Nat → mq_C} {x1 x2 : Int32} (hm : mz_sh mz_GG M) (p1 : 0 ≤ x1.toInt) (p2 : x1.toInt ≤ 3) (p3 : 0 ≤ x2.toInt) (p4 : x2.toInt ≤ 239)
    (K : ∀ r : Int32, r.toInt = hv M 235 (240 * x1.toInt.toNat + x2.toInt.toNat) → 0 ≤ r.toInt → r.toInt ≤ 255 → Q (.inl (some (.int r))) (M, z, u)) : mq_R mq_PP d 130 0 [some (.ref 234), some (.int x1), some (.int x2)] [] (M, z, u) Q := by
  refine he_aload (n := 1) (i := 0) (by decide +kernel) rfl ?_
  refine he_getr (n := 4) (ci := 9) (j := 1) (ns := [4178, 7]) (b := 235) hm (by decide +kernel) rfl rfl (by decide +kernel) ?_
  refine he_iconst (n := 7) (c := 240) (by decide +kernel) (by decide) ?_
  intro c4 hc4
  refine he_iload (n := 8) (i := 1) (by decide +kernel) rfl ?_
  refine he_imul (n := 9) (p := 240 * x1.toInt) (by decide +kernel) (by rw [hc4]) (by omega) (by omega) ?_
  intro v8 hv8
  refine he_iload (n := 10) (i := 2) (by decide +kernel) rfl ?_
  refine he_iadd (n := 11) (by decide +kernel) (by omega) (by omega) ?_
  intro v10 hv10
  refine hb_ld (n := 12) (kind := 64) hm (by decide +kernel) rfl rfl (.inl rfl) (by omega) (show _ < (960 : Int) by omega) hb_at1 ?_
  intro v11 hv11 lv11 uv11
  refine he_reti (by decide +kernel) ?_
  refine K _ ?_ (by omega) (by omega)
  rw [← hv11]
  congr 1
  omega
def hj_R (M0 M : Nat → mq_C) : Prop := mz_fr mz_q143 M0 M ∧ ∀ a, a < 8 → M a = M0 a
theorem hj_Rt {M0 M M' : Nat → mq_C} (h : hj_R M0 M) (h' : hj_R M M') : hj_R M0 M' := ⟨hb_fr_t (q' := mz_q143) (fun a ha => ha) h.1 h'.1, fun a ha => (h'.2 a ha).trans (h.2 a ha)⟩
theorem hj_Ro {W : List Nat} {M M' : Nat → mq_C} (h : hb_only W M M') (hW : ∀ a ∈ W, a ∈ mz_q143.2.2.2.2.2) : hj_R M M' := by
  have h1 : ∀ a ∈ mz_q143.2.2.2.2.2, 8 ≤ a := by decide
  exact ⟨hb_only_fr h hW, hb_low h (fun a ha => h1 a (hW a ha))⟩
theorem hj_Rb {q' : mz_Q} {M M' : Nat → mq_C} (hW : ∀ a ∈ q'.2.2.2.2.2, a ∈ mz_q143.2.2.2.2.2) (h1 : mz_fr q' M M') (h2 : ∀ a, a < 8 → M' a = M a) : hj_R M M' := ⟨hb_fr_t (hb_wsub hW) hb_fr_r h1, h2⟩
theorem hj_sp (s k : Nat) (hs : s ≤ 3) (hk : k ≠ 16 + s) (b i : Nat) (hb : (b = 243 ∨ b = 244) ∧ 6 * s ≤ i ∧ i < 6 * s + 6 ∨ b = 238 ∧ i = s) : hsp k b i = false := by
  match k with
  | 0 | 1 | 2 | 3 | 4 | 5 | 6 | 7 | 8 | 9 | 10 | 11 | 12 | 13 | 14 | 15 | 16 | 17 | 18 | 19 | 20 | 21 | 22 | 23 | 24 | 25 | 26 | 27 | 28 | 29 => exact decide_eq_false (by omega)
  | n + 30 => rfl
theorem hj_k7 {s : Nat} {M : Nat → mq_C} (hs : s ≤ 3) : hxk (16 + s) M = hx7 s M := by
  have : s = 0 ∨ s = 1 ∨ s = 2 ∨ s = 3 := by omega
  rcases this with rfl | rfl | rfl | rfl <;> rfl
/-- while no records are told -/
theorem hj_xs {M : Nat → mq_C} {s b i : Nat} {v : Int32} (hs : s ≤ 3) (hx : HX M) (h0 : hv M 238 s = 0) (hb : b = 243 ∨ b = 244) (h1 : 6 * s ≤ i) (h2 : i < 6 * s + 6) : HX (hb_set M b i v) := by
  intro k
  by_cases e : k = 16 + s
  · rw [e, hj_k7 hs]
    intro j h3 h4
    rw [show hv (hb_set M b i v) 238 s = hv M 238 s from hb_set_n (.inl (by omega)), h0] at h4
    omega
  · exact hxk_s (hj_sp s k hs e b i (.inl ⟨hb, h1, h2⟩)) (hx k)
def hj_a_q : mz_Q := (132, [(1, 234), (0, 0), (0, 0), (0, 0), (0, 0), (0, 0), (3, 0), (3, 0), (3, 0), (3, 0), (3, 0), (3, 0), (3, 0), (3, 0)], [(0, [(1, 1)]), (3, [(1, -1)]), (0, [(2, 1)]), (5, [(2, -1)]), (0, [(3, 1)]), (236, [(5, -1)])], [], [(0, 0, [(1, [(75, 1)]), (-1, [(75, -1)])])], [])
def hj_a_s : List mz_Sp2 := [(49, [(1, 234), (0, 0), (0, 0), (0, 0), (0, 0), (0, 0), (0, 0), (0, 0), (0, 0), (3, 0), (3, 0), (3, 0), (3, 0), (3, 0)], [], [(0, [(1, -1), (76, 1)]), (0, [(1, 1), (76, -1)]), (0, [(2, -1), (77, 1)]), (0, [(2, 1), (77, -1)]), (0, [(3, -1), (78, 1)]), (0, [(3, 1), (78, -1)]), (0, [(4, -1), (79, 1)]), (0, [(4, 1), (79, -1)]), (0, [(5, -1), (80, 1)]), (0, [(5, 1), (80, -1)]), (0, [(82, 1)]), (0, [(82, -1)]), (0, [(81, -1), (83, 1)]), (0, [(81, 1), (83, -1)]), (-1, [(3, -1), (5, 1)]), (0, [(81, 1)]), (255, [(81, -1)]), (-1, [(81, 1)]), (4, [(81, -1)]), (-12, [(3, -1), (5, 1), (81, -1)])])]
def hj_a_h : List mz_H := [(0, 0, []), (0, 0, []), (137, 0, []), (0, 0, [(1, 1)]), (0, 0, [(2, 1)]), (0, 0, [(5, 1)]), (0, 0, [(0, 1), (6, 1)]), (0, 0, []), (0, 0, []), (0, 0, []), (0, 0, []), (0, 0, []), (0, 0, []), (0, 0, []), (0, 0, []), (0, 0, []), (0, 0, []), (0, 0, []), (0, 0, []), (0, 0, [(11, 1)]), (0, 0, [(6, 1), (12, 1)]), (0, 0, []), (0, 0, [(1, 1), (11, 1)]), (0, 0, [(0, 1), (6, 1), (12, 1)]), (0, 0, []), (0, 0, []), (0, 0, []), (0, 0, []), (0, 0, []), (0, 0, []), (0, 0, []), (0, 0, []), (0, 0, []), (0, 0, []), (0, 0, []), (0, 0, []), (0, 0, []), (0, 0, []), (0, 0, []), (0, 0, []), (0, 0, []), (0, 0, [(7, 1)]), (0, 0, [(2, 1)]), (0, 0, [(1, 1)]), (0, 0, [(2, 1)]), (0, 0, [(1, 1)]), (0, 0, [(0, 1)]), (0, 0, []), (0, 0, []), (0, 0, []), (0, 0, []), (0, 0, []), (0, 0, [])]
set_option maxRecDepth 100000 in
theorem hj_a_c : mz_blk mz_GG mq_PP mz_Cs hj_a_q 14 2 0 hj_a_s [] 39 hj_a_h = true := by decide +kernel
theorem hj_a {X : (Nat → mq_C) → Prop} (hX : ∀ M M' : Nat → mq_C, mz_same mz_GG M M' → X M → X M') (hC : ∀ c ∈ mz_Cs, c.2 < 2 → mz_Ct mz_GG mq_PP X c.1 c.2) {d z u : Nat} {M : Nat → mq_C} {Q : (Option Value ⊕ Nat) → mq_S → Prop} {x1 : Int32} {x2 : Int32} {x3 : Int32} {x4 : Int32} {x5 : Int32} {o6 : Option Value} {o7 : Option Value} {o8 : Option Value} {o9 : Option Value} {o10 : Option Value} {o11 : Option Value} {o12 : Option Value} {o13 : Option Value} (hd : 2 ≤ d) (hz : 272 ≤ z) (hm : mz_sh mz_GG M) (hx : X M) (h0 : mq_nl o6 = true) (h1 : mq_nl o7 = true) (h2 : mq_nl o8 = true) (h3 : mq_nl o9 = true) (h4 : mq_nl o10 = true) (h5 : mq_nl o11 = true) (h6 : mq_nl o12 = true) (h7 : mq_nl o13 = true) (p0 : 0 ≤ x1.toInt) (p1 : 0 ≤ 3 - x1.toInt) (p2 : 0 ≤ x2.toInt) (p3 : 0 ≤ 5 - x2.toInt) (p4 : 0 ≤ x3.toInt) (p5 : 0 ≤ 236 - x5.toInt)
    (k0 : ∀ (M' : Nat → mq_C) (y6 : Int32) (y7 : Int32) (w9 : Option Value) (w10 : Option Value) (w11 : Option Value) (w12 : Option Value) (w13 : Option Value), mz_sh mz_GG M' → X M' → mz_fr hj_a_q M M' → (∀ a, a < 8 → M' a = M a) → hb_same mz_GG hj_a_q M M' → mq_nl w9 = true → mq_nl w10 = true → mq_nl w11 = true → mq_nl w12 = true → mq_nl w13 = true → y7.toInt = 0 → 0 ≤ (-1) - x3.toInt + x5.toInt → 0 ≤ y6.toInt → 0 ≤ 255 - y6.toInt → 0 ≤ (-1) + y6.toInt → 0 ≤ 4 - y6.toInt → 0 ≤ (-12) - x3.toInt + x5.toInt - y6.toInt → mq_R mq_PP d 132 49 [some (.ref 234), some (.int x1), some (.int x2), some (.int x3), some (.int x4), some (.int x5), some (.int y6), some (.int y7), some (.int y6), w9, w10, w11, w12, w13] [] (M', z, u) Q)
    (w0 : ∀ (M' : Nat → mq_C) (r : Int32), mz_sh mz_GG M' → X M' → mz_fr hj_a_q M M' → (∀ a, a < 8 → M' a = M a) → hb_same mz_GG hj_a_q M M' → 0 ≤ 1 + r.toInt → 0 ≤ (-1) - r.toInt → Q (.inl (some (.int r))) (M', z, u)) : mq_R mq_PP d 132 0 [some (.ref 234), some (.int x1), some (.int x2), some (.int x3), some (.int x4), some (.int x5), o6, o7, o8, o9, o10, o11, o12, o13] [] (M, z, u) Q := by
  refine hb_blk mz_GG mq_PP X (q := hj_a_q) (nl := 14) (M := M) hb_okG hX hC hj_a_c hz hd (L := [some (.ref 234), some (.int x1), some (.int x2), some (.int x3), some (.int x4), some (.int x5), o6, o7, o8, o9, o10, o11, o12, o13]) (st := []) (show hb_lk mz_GG ([(1, 234), (0, 0), (0, 0), (0, 0), (0, 0), (0, 0), (3, 0), (3, 0), (3, 0), (3, 0), (3, 0), (3, 0), (3, 0), (3, 0)]) _ from ⟨⟨List.mem_singleton.mpr rfl, rfl⟩, trivial, trivial, trivial, trivial, trivial, h0, h1, h2, h3, h4, h5, h6, h7, trivial⟩) (show hb_pk mz_GG ([]) _ from trivial) hm hx ?_ ?_ ?_
  · exact hb_cons (show 0 ≤ mz_ev _ _ from (show 0 ≤ 0 + (1 * x1.toInt + 0) by omega)) (hb_cons (show 0 ≤ mz_ev _ _ from (show 0 ≤ 3 + ((-1) * x1.toInt + 0) by omega)) (hb_cons (show 0 ≤ mz_ev _ _ from (show 0 ≤ 0 + (1 * x2.toInt + 0) by omega)) (hb_cons (show 0 ≤ mz_ev _ _ from (show 0 ≤ 5 + ((-1) * x2.toInt + 0) by omega)) (hb_cons (show 0 ≤ mz_ev _ _ from (show 0 ≤ 0 + (1 * x3.toInt + 0) by omega)) (hb_cons (show 0 ≤ mz_ev _ _ from (show 0 ≤ 236 + ((-1) * x5.toInt + 0) by omega)) (hb_nil))))))
  · intro s hs
    rcases List.mem_cons.mp hs with rfl | hs
    · intro ρ1 L' st' M' g1 g2 gm gr gf gs gx gw g8 ge
      obtain ⟨e0, L1, rfl, n0, gg0⟩ := hb_l1 mz_GG g1
      obtain rfl : e0 = 234 := List.mem_singleton.mp n0
      obtain ⟨y1, L1, rfl, qr76, gg1⟩ := hb_l0 mz_GG gg0
      have r76 : ρ1 76 = y1.toInt := qr76
      obtain ⟨y2, L1, rfl, qr77, gg2⟩ := hb_l0 mz_GG gg1
      have r77 : ρ1 77 = y2.toInt := qr77
      obtain ⟨y3, L1, rfl, qr78, gg3⟩ := hb_l0 mz_GG gg2
      have r78 : ρ1 78 = y3.toInt := qr78
      obtain ⟨y4, L1, rfl, qr79, gg4⟩ := hb_l0 mz_GG gg3
      have r79 : ρ1 79 = y4.toInt := qr79
      obtain ⟨y5, L1, rfl, qr80, gg5⟩ := hb_l0 mz_GG gg4
      have r80 : ρ1 80 = y5.toInt := qr80
      obtain ⟨y6, L1, rfl, qr81, gg6⟩ := hb_l0 mz_GG gg5
      have r81 : ρ1 81 = y6.toInt := qr81
      obtain ⟨y7, L1, rfl, qr82, gg7⟩ := hb_l0 mz_GG gg6
      have r82 : ρ1 82 = y7.toInt := qr82
      obtain ⟨y8, L1, rfl, qr83, gg8⟩ := hb_l0 mz_GG gg7
      have r83 : ρ1 83 = y8.toInt := qr83
      obtain ⟨w9, L1, rfl, n9, gg9⟩ := hb_l3 mz_GG gg8
      obtain ⟨w10, L1, rfl, n10, gg10⟩ := hb_l3 mz_GG gg9
      obtain ⟨w11, L1, rfl, n11, gg11⟩ := hb_l3 mz_GG gg10
      obtain ⟨w12, L1, rfl, n12, gg12⟩ := hb_l3 mz_GG gg11
      obtain ⟨w13, L1, rfl, n13, gg13⟩ := hb_l3 mz_GG gg12
      obtain rfl := hb_ln mz_GG gg13
      obtain rfl := hb_pn mz_GG g2
      have r1 : ρ1 1 = x1.toInt := gr 1 (by decide +kernel)
      have r2 : ρ1 2 = x2.toInt := gr 2 (by decide +kernel)
      have r3 : ρ1 3 = x3.toInt := gr 3 (by decide +kernel)
      have r4 : ρ1 4 = x4.toInt := gr 4 (by decide +kernel)
      have r5 : ρ1 5 = x5.toInt := gr 5 (by decide +kernel)
      obtain ⟨f0, gf⟩ := hb_unc gf
      have f0 : 0 ≤ 0 + ((-1) * ρ1 1 + (1 * ρ1 76 + 0)) := f0
      rw [r1, r76] at f0
      obtain ⟨f1, gf⟩ := hb_unc gf
      have f1 : 0 ≤ 0 + (1 * ρ1 1 + ((-1) * ρ1 76 + 0)) := f1
      rw [r1, r76] at f1
      obtain ⟨f2, gf⟩ := hb_unc gf
      have f2 : 0 ≤ 0 + ((-1) * ρ1 2 + (1 * ρ1 77 + 0)) := f2
      rw [r2, r77] at f2
      obtain ⟨f3, gf⟩ := hb_unc gf
      have f3 : 0 ≤ 0 + (1 * ρ1 2 + ((-1) * ρ1 77 + 0)) := f3
      rw [r2, r77] at f3
      obtain ⟨f4, gf⟩ := hb_unc gf
      have f4 : 0 ≤ 0 + ((-1) * ρ1 3 + (1 * ρ1 78 + 0)) := f4
      rw [r3, r78] at f4
      obtain ⟨f5, gf⟩ := hb_unc gf
      have f5 : 0 ≤ 0 + (1 * ρ1 3 + ((-1) * ρ1 78 + 0)) := f5
      rw [r3, r78] at f5
      obtain ⟨f6, gf⟩ := hb_unc gf
      have f6 : 0 ≤ 0 + ((-1) * ρ1 4 + (1 * ρ1 79 + 0)) := f6
      rw [r4, r79] at f6
      obtain ⟨f7, gf⟩ := hb_unc gf
      have f7 : 0 ≤ 0 + (1 * ρ1 4 + ((-1) * ρ1 79 + 0)) := f7
      rw [r4, r79] at f7
      obtain ⟨f8, gf⟩ := hb_unc gf
      have f8 : 0 ≤ 0 + ((-1) * ρ1 5 + (1 * ρ1 80 + 0)) := f8
      rw [r5, r80] at f8
      obtain ⟨f9, gf⟩ := hb_unc gf
      have f9 : 0 ≤ 0 + (1 * ρ1 5 + ((-1) * ρ1 80 + 0)) := f9
      rw [r5, r80] at f9
      obtain ⟨f10, gf⟩ := hb_unc gf
      have f10 : 0 ≤ 0 + (1 * ρ1 82 + 0) := f10
      rw [r82] at f10
      obtain ⟨f11, gf⟩ := hb_unc gf
      have f11 : 0 ≤ 0 + ((-1) * ρ1 82 + 0) := f11
      rw [r82] at f11
      obtain ⟨f12, gf⟩ := hb_unc gf
      have f12 : 0 ≤ 0 + ((-1) * ρ1 81 + (1 * ρ1 83 + 0)) := f12
      rw [r81, r83] at f12
      obtain ⟨f13, gf⟩ := hb_unc gf
      have f13 : 0 ≤ 0 + (1 * ρ1 81 + ((-1) * ρ1 83 + 0)) := f13
      rw [r81, r83] at f13
      obtain ⟨f14, gf⟩ := hb_unc gf
      have f14 : 0 ≤ -1 + ((-1) * ρ1 3 + (1 * ρ1 5 + 0)) := f14
      rw [r3, r5] at f14
      obtain ⟨f15, gf⟩ := hb_unc gf
      have f15 : 0 ≤ 0 + (1 * ρ1 81 + 0) := f15
      rw [r81] at f15
      obtain ⟨f16, gf⟩ := hb_unc gf
      have f16 : 0 ≤ 255 + ((-1) * ρ1 81 + 0) := f16
      rw [r81] at f16
      obtain ⟨f17, gf⟩ := hb_unc gf
      have f17 : 0 ≤ -1 + (1 * ρ1 81 + 0) := f17
      rw [r81] at f17
      obtain ⟨f18, gf⟩ := hb_unc gf
      have f18 : 0 ≤ 4 + ((-1) * ρ1 81 + 0) := f18
      rw [r81] at f18
      obtain ⟨f19, gf⟩ := hb_unc gf
      have f19 : 0 ≤ -12 + ((-1) * ρ1 3 + (1 * ρ1 5 + ((-1) * ρ1 81 + 0))) := f19
      rw [r3, r5, r81] at f19
      have hy1 : y1 = x1 := hb_inj f0 f1
      subst y1
      have hy2 : y2 = x2 := hb_inj f2 f3
      subst y2
      have hy3 : y3 = x3 := hb_inj f4 f5
      subst y3
      have hy4 : y4 = x4 := hb_inj f6 f7
      subst y4
      have hy5 : y5 = x5 := hb_inj f8 f9
      subst y5
      have hy8 : y8 = y6 := hb_inj f12 f13
      subst y8
      exact k0 M' y6 y7 w9 w10 w11 w12 w13 gs gx gw g8 ge n9 n10 n11 n12 n13 (by have h1 := f10; have h2 := f11; omega) (by have h1 := f14; omega) (by have h1 := f15; omega) (by have h1 := f16; omega) (by have h1 := f17; omega) (by have h1 := f18; omega) (by have h1 := f19; omega)
    cases hs
  · intro r S hpo
    obtain ⟨b1, b2, b3, b4, b5, p, hp, res, hf, hre⟩ := hpo
    rcases List.mem_cons.mp hp with rfl | hp
    · obtain ⟨x, rfl, hr, hz1, hu1⟩ := mz_re_0 mz_GG hre rfl
      obtain ⟨M', z', u'⟩ := S
      cases hz1
      cases hu1
      have r75 : hb_r1 mz_GG hj_a_q (hb_rb mz_GG hj_a_q 14 [some (.ref 234), some (.int x1), some (.int x2), some (.int x3), some (.int x4), some (.int x5), o6, o7, o8, o9, o10, o11, o12, o13] [] M) M' res 75 = res := rfl
      obtain ⟨f0, hf⟩ := hb_unc hf
      have f0 : 0 ≤ 1 + (1 * res + 0) := f0
      rw [← hr] at f0
      obtain ⟨f1, hf⟩ := hb_unc hf
      have f1 : 0 ≤ -1 + ((-1) * res + 0) := f1
      rw [← hr] at f1
      exact w0 M' x b1 b2 b3 b4 b5 (by have h1 := f0; omega) (by have h1 := f1; omega)
    cases hp

def hj_b_q : mz_Q := (132, [(1, 234), (0, 0), (0, 0), (0, 0), (0, 0), (0, 0), (0, 0), (0, 0), (0, 0), (3, 0), (3, 0), (3, 0), (3, 0), (3, 0)], [(0, [(1, 1)]), (3, [(1, -1)]), (0, [(2, 1)]), (5, [(2, -1)]), (0, [(3, 1)]), (236, [(5, -1)]), (-1, [(6, 1)]), (4, [(6, -1)]), (-12, [(3, -1), (5, 1), (6, -1)]), (0, [(8, 1)]), (4, [(8, -1)]), (0, [(6, 1), (8, -1)])], [], [(0, 0, [(1, [(75, 1)]), (-1, [(75, -1)])])], [239, 240, 241, 242])
def hj_b_s : List mz_Sp2 := [(197, [(1, 234), (0, 0), (0, 0), (0, 0), (0, 0), (0, 0), (0, 0), (0, 0), (0, 0), (0, 0), (3, 0), (3, 0), (3, 0), (3, 0)], [(0, 0), (0, 0), (1, 243)], [(0, [(1, -1), (76, 1)]), (0, [(1, 1), (76, -1)]), (0, [(2, -1), (77, 1)]), (0, [(2, 1), (77, -1)]), (0, [(3, -1), (78, 1)]), (0, [(3, 1), (78, -1)]), (0, [(4, -1), (79, 1)]), (0, [(4, 1), (79, -1)]), (0, [(5, -1), (80, 1)]), (0, [(5, 1), (80, -1)]), (0, [(6, -1), (81, 1)]), (0, [(6, 1), (81, -1)]), (0, [(7, -1), (82, 1)]), (0, [(7, 1), (82, -1)]), (-1, [(3, -1), (6, -1), (83, 1)]), (1, [(3, 1), (6, 1), (83, -1)]), (0, [(1, -6), (2, -1), (84, 1)]), (0, [(1, 6), (2, 1), (84, -1)]), (0, [(84, -1), (90, 1)]), (0, [(84, 1), (90, -1)]), (0, [(8, -1)]), (0, [(89, 1)]), (65535, [(89, -1)])]), (49, [(1, 234), (0, 0), (0, 0), (0, 0), (0, 0), (0, 0), (0, 0), (0, 0), (0, 0), (0, 0), (3, 0), (3, 0), (3, 0), (3, 0)], [], [(0, [(1, -1), (76, 1)]), (0, [(1, 1), (76, -1)]), (0, [(2, -1), (77, 1)]), (0, [(2, 1), (77, -1)]), (0, [(3, -1), (78, 1)]), (0, [(3, 1), (78, -1)]), (0, [(4, -1), (79, 1)]), (0, [(4, 1), (79, -1)]), (0, [(5, -1), (80, 1)]), (0, [(5, 1), (80, -1)]), (0, [(6, -1), (81, 1)]), (0, [(6, 1), (81, -1)]), (1, [(8, -1), (83, 1)]), (-1, [(8, 1), (83, -1)]), (-1, [(8, 1)]), (0, [(84, 1)]), (255, [(84, -1)]), (-33, [(84, 1)]), (126, [(84, -1)])])]
def hj_b_h : List mz_H := [(0, 0, []), (0, 0, []), (0, 0, []), (0, 0, [(5, 1)]), (0, 0, [(9, 1), (6, 1), (7, 1)]), (0, 0, []), (0, 0, [(5, 1), (7, 1)]), (0, 0, [(9, 1), (6, 1)]), (0, 0, []), (0, 0, [(1, 6)]), (0, 0, [(2, 6)]), (0, 0, []), (0, 0, [(1, 6), (3, 1)]), (0, 0, [(2, 6), (4, 1)]), (239, 0, []), (0, 0, [(1, 6), (3, 1)]), (0, 0, [(2, 6), (4, 1)]), (0, 0, [(25, 1)]), (0, 0, [(26, 1)]), (240, 0, []), (137, 0, []), (0, 0, [(1, 1)]), (0, 0, [(2, 1)]), (0, 0, [(5, 1), (7, 1)]), (0, 0, [(9, 1), (6, 1)]), (0, 0, []), (0, 0, [(5, 6), (7, 1)]), (0, 0, [(6, 6), (8, 1)]), (0, 0, [(1, 1)]), (0, 0, [(0, 1)]), (241, 0, []), (0, 0, []), (0, 0, [(9, 1), (11, 1)]), (0, 0, [(13, 1), (10, 1)]), (138, 0, []), (0, 0, [(5, 1)]), (0, 0, [(6, 1)]), (0, 0, [(9, 1), (11, 1)]), (0, 0, [(13, 1), (10, 1)]), (0, 0, []), (0, 0, []), (0, 0, [(13, 1), (15, 1)]), (0, 0, [(17, 1), (14, 1)]), (138, 0, []), (0, 0, [(9, 1)]), (0, 0, [(10, 1)]), (0, 0, [(13, 1), (15, 1)]), (0, 0, [(17, 1), (14, 1)]), (0, 0, []), (1, 0, []), (0, 0, []), (0, 0, [(17, 6), (19, 1)]), (0, 0, [(18, 6), (20, 1)]), (0, 0, [(0, 1)]), (0, 0, [(1, 1)]), (242, 0, []), (0, 0, []), (0, 0, [(21, 1), (23, 1)]), (0, 0, [(25, 1), (22, 1)]), (138, 0, []), (0, 0, [(17, 1)]), (0, 0, [(18, 1)]), (0, 0, [(21, 1), (23, 1)]), (0, 0, [(25, 1), (22, 1)]), (0, 0, []), (0, 0, [(21, 6), (23, 1)]), (0, 0, [(22, 6), (24, 1)]), (0, 0, [(1, 1)]), (0, 0, [(0, 1)]), (243, 0, []), (0, 0, []), (0, 0, [(25, 1), (27, 1)]), (0, 0, [(29, 1), (26, 1)]), (138, 0, []), (0, 0, [(21, 1)]), (0, 0, [(22, 1)]), (0, 0, [(25, 1), (27, 1)]), (0, 0, [(29, 1), (26, 1)]), (0, 0, []), (0, 0, []), (0, 0, []), (0, 0, []), (0, 0, []), (0, 0, []), (0, 0, []), (0, 0, []), (0, 0, []), (0, 0, []), (0, 0, []), (0, 0, []), (0, 0, []), (0, 0, []), (0, 0, []), (0, 0, []), (0, 0, []), (0, 0, []), (0, 0, []), (0, 0, []), (0, 0, []), (0, 0, []), (0, 0, [(24, 1)]), (0, 0, [(1, 1)]), (0, 0, [(0, 1)]), (0, 0, []), (0, 0, [(0, 1), (5, 1)]), (0, 0, [(9, 1), (12, 1), (6, 1)]), (137, 0, []), (0, 0, [(1, 1)]), (0, 0, [(2, 1)]), (0, 0, [(0, 1), (5, 1)]), (0, 0, [(9, 1), (12, 1), (6, 1)]), (0, 0, []), (0, 0, []), (0, 0, []), (0, 0, []), (0, 0, []), (0, 0, []), (0, 0, []), (0, 0, []), (1, 0, []), (0, 0, []), (0, 0, []), (0, 0, [(10, 1)]), (0, 0, [(21, 1)]), (1, 0, []), (0, 0, []), (0, 0, []), (0, 0, []), (0, 0, []), (0, 0, []), (0, 0, []), (0, 0, []), (0, 0, []), (0, 0, []), (0, 0, []), (0, 0, []), (0, 0, []), (0, 0, []), (0, 0, []), (0, 0, [(10, 1)]), (0, 0, [(5, 1)]), (0, 0, [(4, 1)]), (0, 0, [(5, 1)]), (0, 0, [(4, 1)]), (0, 0, []), (0, 0, []), (0, 0, [])]
set_option maxRecDepth 100000 in
theorem hj_b_c : mz_blk mz_GG mq_PP mz_Cs hj_b_q 14 3 49 hj_b_s [] 97 hj_b_h = true := by decide +kernel
theorem hj_b {X : (Nat → mq_C) → Prop} (hX : ∀ M M' : Nat → mq_C, mz_same mz_GG M M' → X M → X M') (hC : ∀ c ∈ mz_Cs, c.2 < 3 → mz_Ct mz_GG mq_PP X c.1 c.2) {d z u : Nat} {M : Nat → mq_C} {Q : (Option Value ⊕ Nat) → mq_S → Prop} {x1 : Int32} {x2 : Int32} {x3 : Int32} {x4 : Int32} {x5 : Int32} {x6 : Int32} {x7 : Int32} {x8 : Int32} {o9 : Option Value} {o10 : Option Value} {o11 : Option Value} {o12 : Option Value} {o13 : Option Value} (hd : 3 ≤ d) (hz : 272 ≤ z) (hm : mz_sh mz_GG M) (hx : X M) (h0 : mq_nl o9 = true) (h1 : mq_nl o10 = true) (h2 : mq_nl o11 = true) (h3 : mq_nl o12 = true) (h4 : mq_nl o13 = true) (p0 : 0 ≤ x1.toInt) (p1 : 0 ≤ 3 - x1.toInt) (p2 : 0 ≤ x2.toInt) (p3 : 0 ≤ 5 - x2.toInt) (p4 : 0 ≤ x3.toInt) (p5 : 0 ≤ 236 - x5.toInt) (p6 : 0 ≤ (-1) + x6.toInt) (p7 : 0 ≤ 4 - x6.toInt) (p8 : 0 ≤ (-12) - x3.toInt + x5.toInt - x6.toInt) (p9 : 0 ≤ x8.toInt) (p10 : 0 ≤ 4 - x8.toInt) (p11 : 0 ≤ x6.toInt - x8.toInt)
    (k0 : ∀ (M' : Nat → mq_C) (y8 : Int32) (y9 : Int32) (w10 : Option Value) (w11 : Option Value) (w12 : Option Value) (w13 : Option Value) (y14 : Int32), mz_sh mz_GG M' → X M' → mz_fr hj_b_q M M' → (∀ a, a < 8 → M' a = M a) → hb_same mz_GG hj_b_q M M' → mq_nl w10 = true → mq_nl w11 = true → mq_nl w12 = true → mq_nl w13 = true → y8.toInt = 1 + x3.toInt + x6.toInt → y9.toInt = 6 * x1.toInt + x2.toInt → 0 ≤ 0 - x8.toInt → 0 ≤ y14.toInt → 0 ≤ 65535 - y14.toInt → mq_R mq_PP d 132 197 [some (.ref 234), some (.int x1), some (.int x2), some (.int x3), some (.int x4), some (.int x5), some (.int x6), some (.int x7), some (.int y8), some (.int y9), w10, w11, w12, w13] [.int y14, .int y9, .ref 243] (M', z, u) Q)
    (k1 : ∀ (M' : Nat → mq_C) (y7 : Int32) (y8 : Int32) (y9 : Int32) (w10 : Option Value) (w11 : Option Value) (w12 : Option Value) (w13 : Option Value), mz_sh mz_GG M' → X M' → mz_fr hj_b_q M M' → (∀ a, a < 8 → M' a = M a) → hb_same mz_GG hj_b_q M M' → mq_nl w10 = true → mq_nl w11 = true → mq_nl w12 = true → mq_nl w13 = true → y8.toInt = (-1) + x8.toInt → 0 ≤ (-1) + x8.toInt → 0 ≤ y9.toInt → 0 ≤ 255 - y9.toInt → 0 ≤ (-33) + y9.toInt → 0 ≤ 126 - y9.toInt → mq_R mq_PP d 132 49 [some (.ref 234), some (.int x1), some (.int x2), some (.int x3), some (.int x4), some (.int x5), some (.int x6), some (.int y7), some (.int y8), some (.int y9), w10, w11, w12, w13] [] (M', z, u) Q)
    (w0 : ∀ (M' : Nat → mq_C) (r : Int32), mz_sh mz_GG M' → X M' → mz_fr hj_b_q M M' → (∀ a, a < 8 → M' a = M a) → hb_same mz_GG hj_b_q M M' → 0 ≤ 1 + r.toInt → 0 ≤ (-1) - r.toInt → Q (.inl (some (.int r))) (M', z, u)) : mq_R mq_PP d 132 49 [some (.ref 234), some (.int x1), some (.int x2), some (.int x3), some (.int x4), some (.int x5), some (.int x6), some (.int x7), some (.int x8), o9, o10, o11, o12, o13] [] (M, z, u) Q := by
  refine hb_blk mz_GG mq_PP X (q := hj_b_q) (nl := 14) (M := M) hb_okG hX hC hj_b_c hz hd (L := [some (.ref 234), some (.int x1), some (.int x2), some (.int x3), some (.int x4), some (.int x5), some (.int x6), some (.int x7), some (.int x8), o9, o10, o11, o12, o13]) (st := []) (show hb_lk mz_GG ([(1, 234), (0, 0), (0, 0), (0, 0), (0, 0), (0, 0), (0, 0), (0, 0), (0, 0), (3, 0), (3, 0), (3, 0), (3, 0), (3, 0)]) _ from ⟨⟨List.mem_singleton.mpr rfl, rfl⟩, trivial, trivial, trivial, trivial, trivial, trivial, trivial, trivial, h0, h1, h2, h3, h4, trivial⟩) (show hb_pk mz_GG ([]) _ from trivial) hm hx ?_ ?_ ?_
  · exact hb_cons (show 0 ≤ mz_ev _ _ from (show 0 ≤ 0 + (1 * x1.toInt + 0) by omega)) (hb_cons (show 0 ≤ mz_ev _ _ from (show 0 ≤ 3 + ((-1) * x1.toInt + 0) by omega)) (hb_cons (show 0 ≤ mz_ev _ _ from (show 0 ≤ 0 + (1 * x2.toInt + 0) by omega)) (hb_cons (show 0 ≤ mz_ev _ _ from (show 0 ≤ 5 + ((-1) * x2.toInt + 0) by omega)) (hb_cons (show 0 ≤ mz_ev _ _ from (show 0 ≤ 0 + (1 * x3.toInt + 0) by omega)) (hb_cons (show 0 ≤ mz_ev _ _ from (show 0 ≤ 236 + ((-1) * x5.toInt + 0) by omega)) (hb_cons (show 0 ≤ mz_ev _ _ from (show 0 ≤ -1 + (1 * x6.toInt + 0) by omega)) (hb_cons (show 0 ≤ mz_ev _ _ from (show 0 ≤ 4 + ((-1) * x6.toInt + 0) by omega)) (hb_cons (show 0 ≤ mz_ev _ _ from (show 0 ≤ -12 + ((-1) * x3.toInt + (1 * x5.toInt + ((-1) * x6.toInt + 0))) by omega)) (hb_cons (show 0 ≤ mz_ev _ _ from (show 0 ≤ 0 + (1 * x8.toInt + 0) by omega)) (hb_cons (show 0 ≤ mz_ev _ _ from (show 0 ≤ 4 + ((-1) * x8.toInt + 0) by omega)) (hb_cons (show 0 ≤ mz_ev _ _ from (show 0 ≤ 0 + (1 * x6.toInt + ((-1) * x8.toInt + 0)) by omega)) (hb_nil))))))))))))
  · intro s hs
    rcases List.mem_cons.mp hs with rfl | hs
    · intro ρ1 L' st' M' g1 g2 gm gr gf gs gx gw g8 ge
      obtain ⟨e0, L1, rfl, n0, gg0⟩ := hb_l1 mz_GG g1
      obtain rfl : e0 = 234 := List.mem_singleton.mp n0
      obtain ⟨y1, L1, rfl, qr76, gg1⟩ := hb_l0 mz_GG gg0
      have r76 : ρ1 76 = y1.toInt := qr76
      obtain ⟨y2, L1, rfl, qr77, gg2⟩ := hb_l0 mz_GG gg1
      have r77 : ρ1 77 = y2.toInt := qr77
      obtain ⟨y3, L1, rfl, qr78, gg3⟩ := hb_l0 mz_GG gg2
      have r78 : ρ1 78 = y3.toInt := qr78
      obtain ⟨y4, L1, rfl, qr79, gg4⟩ := hb_l0 mz_GG gg3
      have r79 : ρ1 79 = y4.toInt := qr79
      obtain ⟨y5, L1, rfl, qr80, gg5⟩ := hb_l0 mz_GG gg4
      have r80 : ρ1 80 = y5.toInt := qr80
      obtain ⟨y6, L1, rfl, qr81, gg6⟩ := hb_l0 mz_GG gg5
      have r81 : ρ1 81 = y6.toInt := qr81
      obtain ⟨y7, L1, rfl, qr82, gg7⟩ := hb_l0 mz_GG gg6
      have r82 : ρ1 82 = y7.toInt := qr82
      obtain ⟨y8, L1, rfl, qr83, gg8⟩ := hb_l0 mz_GG gg7
      have r83 : ρ1 83 = y8.toInt := qr83
      obtain ⟨y9, L1, rfl, qr84, gg9⟩ := hb_l0 mz_GG gg8
      have r84 : ρ1 84 = y9.toInt := qr84
      obtain ⟨w10, L1, rfl, n10, gg10⟩ := hb_l3 mz_GG gg9
      obtain ⟨w11, L1, rfl, n11, gg11⟩ := hb_l3 mz_GG gg10
      obtain ⟨w12, L1, rfl, n12, gg12⟩ := hb_l3 mz_GG gg11
      obtain ⟨w13, L1, rfl, n13, gg13⟩ := hb_l3 mz_GG gg12
      obtain ⟨y14, s1, rfl, qr89, gg14⟩ := hb_p0 mz_GG g2
      have r89 : ρ1 89 = y14.toInt := qr89
      obtain ⟨y15, s1, rfl, qr90, gg15⟩ := hb_p0 mz_GG gg14
      have r90 : ρ1 90 = y15.toInt := qr90
      obtain ⟨e16, s1, rfl, n16, gg16⟩ := hb_p1 mz_GG gg15
      obtain rfl : e16 = 243 := List.mem_singleton.mp n16
      obtain rfl := hb_ln mz_GG gg13
      obtain rfl := hb_pn mz_GG gg16
      have r1 : ρ1 1 = x1.toInt := gr 1 (by decide +kernel)
      have r2 : ρ1 2 = x2.toInt := gr 2 (by decide +kernel)
      have r3 : ρ1 3 = x3.toInt := gr 3 (by decide +kernel)
      have r4 : ρ1 4 = x4.toInt := gr 4 (by decide +kernel)
      have r5 : ρ1 5 = x5.toInt := gr 5 (by decide +kernel)
      have r6 : ρ1 6 = x6.toInt := gr 6 (by decide +kernel)
      have r7 : ρ1 7 = x7.toInt := gr 7 (by decide +kernel)
      have r8 : ρ1 8 = x8.toInt := gr 8 (by decide +kernel)
      obtain ⟨f0, gf⟩ := hb_unc gf
      have f0 : 0 ≤ 0 + ((-1) * ρ1 1 + (1 * ρ1 76 + 0)) := f0
      rw [r1, r76] at f0
      obtain ⟨f1, gf⟩ := hb_unc gf
      have f1 : 0 ≤ 0 + (1 * ρ1 1 + ((-1) * ρ1 76 + 0)) := f1
      rw [r1, r76] at f1
      obtain ⟨f2, gf⟩ := hb_unc gf
      have f2 : 0 ≤ 0 + ((-1) * ρ1 2 + (1 * ρ1 77 + 0)) := f2
      rw [r2, r77] at f2
      obtain ⟨f3, gf⟩ := hb_unc gf
      have f3 : 0 ≤ 0 + (1 * ρ1 2 + ((-1) * ρ1 77 + 0)) := f3
      rw [r2, r77] at f3
      obtain ⟨f4, gf⟩ := hb_unc gf
      have f4 : 0 ≤ 0 + ((-1) * ρ1 3 + (1 * ρ1 78 + 0)) := f4
      rw [r3, r78] at f4
      obtain ⟨f5, gf⟩ := hb_unc gf
      have f5 : 0 ≤ 0 + (1 * ρ1 3 + ((-1) * ρ1 78 + 0)) := f5
      rw [r3, r78] at f5
      obtain ⟨f6, gf⟩ := hb_unc gf
      have f6 : 0 ≤ 0 + ((-1) * ρ1 4 + (1 * ρ1 79 + 0)) := f6
      rw [r4, r79] at f6
      obtain ⟨f7, gf⟩ := hb_unc gf
      have f7 : 0 ≤ 0 + (1 * ρ1 4 + ((-1) * ρ1 79 + 0)) := f7
      rw [r4, r79] at f7
      obtain ⟨f8, gf⟩ := hb_unc gf
      have f8 : 0 ≤ 0 + ((-1) * ρ1 5 + (1 * ρ1 80 + 0)) := f8
      rw [r5, r80] at f8
      obtain ⟨f9, gf⟩ := hb_unc gf
      have f9 : 0 ≤ 0 + (1 * ρ1 5 + ((-1) * ρ1 80 + 0)) := f9
      rw [r5, r80] at f9
      obtain ⟨f10, gf⟩ := hb_unc gf
      have f10 : 0 ≤ 0 + ((-1) * ρ1 6 + (1 * ρ1 81 + 0)) := f10
      rw [r6, r81] at f10
      obtain ⟨f11, gf⟩ := hb_unc gf
      have f11 : 0 ≤ 0 + (1 * ρ1 6 + ((-1) * ρ1 81 + 0)) := f11
      rw [r6, r81] at f11
      obtain ⟨f12, gf⟩ := hb_unc gf
      have f12 : 0 ≤ 0 + ((-1) * ρ1 7 + (1 * ρ1 82 + 0)) := f12
      rw [r7, r82] at f12
      obtain ⟨f13, gf⟩ := hb_unc gf
      have f13 : 0 ≤ 0 + (1 * ρ1 7 + ((-1) * ρ1 82 + 0)) := f13
      rw [r7, r82] at f13
      obtain ⟨f14, gf⟩ := hb_unc gf
      have f14 : 0 ≤ -1 + ((-1) * ρ1 3 + ((-1) * ρ1 6 + (1 * ρ1 83 + 0))) := f14
      rw [r3, r6, r83] at f14
      obtain ⟨f15, gf⟩ := hb_unc gf
      have f15 : 0 ≤ 1 + (1 * ρ1 3 + (1 * ρ1 6 + ((-1) * ρ1 83 + 0))) := f15
      rw [r3, r6, r83] at f15
      obtain ⟨f16, gf⟩ := hb_unc gf
      have f16 : 0 ≤ 0 + ((-6) * ρ1 1 + ((-1) * ρ1 2 + (1 * ρ1 84 + 0))) := f16
      rw [r1, r2, r84] at f16
      obtain ⟨f17, gf⟩ := hb_unc gf
      have f17 : 0 ≤ 0 + (6 * ρ1 1 + (1 * ρ1 2 + ((-1) * ρ1 84 + 0))) := f17
      rw [r1, r2, r84] at f17
      obtain ⟨f18, gf⟩ := hb_unc gf
      have f18 : 0 ≤ 0 + ((-1) * ρ1 84 + (1 * ρ1 90 + 0)) := f18
      rw [r84, r90] at f18
      obtain ⟨f19, gf⟩ := hb_unc gf
      have f19 : 0 ≤ 0 + (1 * ρ1 84 + ((-1) * ρ1 90 + 0)) := f19
      rw [r84, r90] at f19
      obtain ⟨f20, gf⟩ := hb_unc gf
      have f20 : 0 ≤ 0 + ((-1) * ρ1 8 + 0) := f20
      rw [r8] at f20
      obtain ⟨f21, gf⟩ := hb_unc gf
      have f21 : 0 ≤ 0 + (1 * ρ1 89 + 0) := f21
      rw [r89] at f21
      obtain ⟨f22, gf⟩ := hb_unc gf
      have f22 : 0 ≤ 65535 + ((-1) * ρ1 89 + 0) := f22
      rw [r89] at f22
      have hy1 : y1 = x1 := hb_inj f0 f1
      subst y1
      have hy2 : y2 = x2 := hb_inj f2 f3
      subst y2
      have hy3 : y3 = x3 := hb_inj f4 f5
      subst y3
      have hy4 : y4 = x4 := hb_inj f6 f7
      subst y4
      have hy5 : y5 = x5 := hb_inj f8 f9
      subst y5
      have hy6 : y6 = x6 := hb_inj f10 f11
      subst y6
      have hy7 : y7 = x7 := hb_inj f12 f13
      subst y7
      have hy15 : y15 = y9 := hb_inj f18 f19
      subst y15
      exact k0 M' y8 y9 w10 w11 w12 w13 y14 gs gx gw g8 ge n10 n11 n12 n13 (by have h1 := f14; have h2 := f15; omega) (by have h1 := f16; have h2 := f17; omega) (by have h1 := f20; omega) (by have h1 := f21; omega) (by have h1 := f22; omega)
    rcases List.mem_cons.mp hs with rfl | hs
    · intro ρ1 L' st' M' g1 g2 gm gr gf gs gx gw g8 ge
      obtain ⟨e0, L1, rfl, n0, gg0⟩ := hb_l1 mz_GG g1
      obtain rfl : e0 = 234 := List.mem_singleton.mp n0
      obtain ⟨y1, L1, rfl, qr76, gg1⟩ := hb_l0 mz_GG gg0
      have r76 : ρ1 76 = y1.toInt := qr76
      obtain ⟨y2, L1, rfl, qr77, gg2⟩ := hb_l0 mz_GG gg1
      have r77 : ρ1 77 = y2.toInt := qr77
      obtain ⟨y3, L1, rfl, qr78, gg3⟩ := hb_l0 mz_GG gg2
      have r78 : ρ1 78 = y3.toInt := qr78
      obtain ⟨y4, L1, rfl, qr79, gg4⟩ := hb_l0 mz_GG gg3
      have r79 : ρ1 79 = y4.toInt := qr79
      obtain ⟨y5, L1, rfl, qr80, gg5⟩ := hb_l0 mz_GG gg4
      have r80 : ρ1 80 = y5.toInt := qr80
      obtain ⟨y6, L1, rfl, qr81, gg6⟩ := hb_l0 mz_GG gg5
      have r81 : ρ1 81 = y6.toInt := qr81
      obtain ⟨y7, L1, rfl, qr82, gg7⟩ := hb_l0 mz_GG gg6
      obtain ⟨y8, L1, rfl, qr83, gg8⟩ := hb_l0 mz_GG gg7
      have r83 : ρ1 83 = y8.toInt := qr83
      obtain ⟨y9, L1, rfl, qr84, gg9⟩ := hb_l0 mz_GG gg8
      have r84 : ρ1 84 = y9.toInt := qr84
      obtain ⟨w10, L1, rfl, n10, gg10⟩ := hb_l3 mz_GG gg9
      obtain ⟨w11, L1, rfl, n11, gg11⟩ := hb_l3 mz_GG gg10
      obtain ⟨w12, L1, rfl, n12, gg12⟩ := hb_l3 mz_GG gg11
      obtain ⟨w13, L1, rfl, n13, gg13⟩ := hb_l3 mz_GG gg12
      obtain rfl := hb_ln mz_GG gg13
      obtain rfl := hb_pn mz_GG g2
      have r1 : ρ1 1 = x1.toInt := gr 1 (by decide +kernel)
      have r2 : ρ1 2 = x2.toInt := gr 2 (by decide +kernel)
      have r3 : ρ1 3 = x3.toInt := gr 3 (by decide +kernel)
      have r4 : ρ1 4 = x4.toInt := gr 4 (by decide +kernel)
      have r5 : ρ1 5 = x5.toInt := gr 5 (by decide +kernel)
      have r6 : ρ1 6 = x6.toInt := gr 6 (by decide +kernel)
      have r8 : ρ1 8 = x8.toInt := gr 8 (by decide +kernel)
      obtain ⟨f0, gf⟩ := hb_unc gf
      have f0 : 0 ≤ 0 + ((-1) * ρ1 1 + (1 * ρ1 76 + 0)) := f0
      rw [r1, r76] at f0
      obtain ⟨f1, gf⟩ := hb_unc gf
      have f1 : 0 ≤ 0 + (1 * ρ1 1 + ((-1) * ρ1 76 + 0)) := f1
      rw [r1, r76] at f1
      obtain ⟨f2, gf⟩ := hb_unc gf
      have f2 : 0 ≤ 0 + ((-1) * ρ1 2 + (1 * ρ1 77 + 0)) := f2
      rw [r2, r77] at f2
      obtain ⟨f3, gf⟩ := hb_unc gf
      have f3 : 0 ≤ 0 + (1 * ρ1 2 + ((-1) * ρ1 77 + 0)) := f3
      rw [r2, r77] at f3
      obtain ⟨f4, gf⟩ := hb_unc gf
      have f4 : 0 ≤ 0 + ((-1) * ρ1 3 + (1 * ρ1 78 + 0)) := f4
      rw [r3, r78] at f4
      obtain ⟨f5, gf⟩ := hb_unc gf
      have f5 : 0 ≤ 0 + (1 * ρ1 3 + ((-1) * ρ1 78 + 0)) := f5
      rw [r3, r78] at f5
      obtain ⟨f6, gf⟩ := hb_unc gf
      have f6 : 0 ≤ 0 + ((-1) * ρ1 4 + (1 * ρ1 79 + 0)) := f6
      rw [r4, r79] at f6
      obtain ⟨f7, gf⟩ := hb_unc gf
      have f7 : 0 ≤ 0 + (1 * ρ1 4 + ((-1) * ρ1 79 + 0)) := f7
      rw [r4, r79] at f7
      obtain ⟨f8, gf⟩ := hb_unc gf
      have f8 : 0 ≤ 0 + ((-1) * ρ1 5 + (1 * ρ1 80 + 0)) := f8
      rw [r5, r80] at f8
      obtain ⟨f9, gf⟩ := hb_unc gf
      have f9 : 0 ≤ 0 + (1 * ρ1 5 + ((-1) * ρ1 80 + 0)) := f9
      rw [r5, r80] at f9
      obtain ⟨f10, gf⟩ := hb_unc gf
      have f10 : 0 ≤ 0 + ((-1) * ρ1 6 + (1 * ρ1 81 + 0)) := f10
      rw [r6, r81] at f10
      obtain ⟨f11, gf⟩ := hb_unc gf
      have f11 : 0 ≤ 0 + (1 * ρ1 6 + ((-1) * ρ1 81 + 0)) := f11
      rw [r6, r81] at f11
      obtain ⟨f12, gf⟩ := hb_unc gf
      have f12 : 0 ≤ 1 + ((-1) * ρ1 8 + (1 * ρ1 83 + 0)) := f12
      rw [r8, r83] at f12
      obtain ⟨f13, gf⟩ := hb_unc gf
      have f13 : 0 ≤ -1 + (1 * ρ1 8 + ((-1) * ρ1 83 + 0)) := f13
      rw [r8, r83] at f13
      obtain ⟨f14, gf⟩ := hb_unc gf
      have f14 : 0 ≤ -1 + (1 * ρ1 8 + 0) := f14
      rw [r8] at f14
      obtain ⟨f15, gf⟩ := hb_unc gf
      have f15 : 0 ≤ 0 + (1 * ρ1 84 + 0) := f15
      rw [r84] at f15
      obtain ⟨f16, gf⟩ := hb_unc gf
      have f16 : 0 ≤ 255 + ((-1) * ρ1 84 + 0) := f16
      rw [r84] at f16
      obtain ⟨f17, gf⟩ := hb_unc gf
      have f17 : 0 ≤ -33 + (1 * ρ1 84 + 0) := f17
      rw [r84] at f17
      obtain ⟨f18, gf⟩ := hb_unc gf
      have f18 : 0 ≤ 126 + ((-1) * ρ1 84 + 0) := f18
      rw [r84] at f18
      have hy1 : y1 = x1 := hb_inj f0 f1
      subst y1
      have hy2 : y2 = x2 := hb_inj f2 f3
      subst y2
      have hy3 : y3 = x3 := hb_inj f4 f5
      subst y3
      have hy4 : y4 = x4 := hb_inj f6 f7
      subst y4
      have hy5 : y5 = x5 := hb_inj f8 f9
      subst y5
      have hy6 : y6 = x6 := hb_inj f10 f11
      subst y6
      exact k1 M' y7 y8 y9 w10 w11 w12 w13 gs gx gw g8 ge n10 n11 n12 n13 (by have h1 := f12; have h2 := f13; omega) (by have h1 := f14; omega) (by have h1 := f15; omega) (by have h1 := f16; omega) (by have h1 := f17; omega) (by have h1 := f18; omega)
    cases hs
  · intro r S hpo
    obtain ⟨b1, b2, b3, b4, b5, p, hp, res, hf, hre⟩ := hpo
    rcases List.mem_cons.mp hp with rfl | hp
    · obtain ⟨x, rfl, hr, hz1, hu1⟩ := mz_re_0 mz_GG hre rfl
      obtain ⟨M', z', u'⟩ := S
      cases hz1
      cases hu1
      have r75 : hb_r1 mz_GG hj_b_q (hb_rb mz_GG hj_b_q 14 [some (.ref 234), some (.int x1), some (.int x2), some (.int x3), some (.int x4), some (.int x5), some (.int x6), some (.int x7), some (.int x8), o9, o10, o11, o12, o13] [] M) M' res 75 = res := rfl
      obtain ⟨f0, hf⟩ := hb_unc hf
      have f0 : 0 ≤ 1 + (1 * res + 0) := f0
      rw [← hr] at f0
      obtain ⟨f1, hf⟩ := hb_unc hf
      have f1 : 0 ≤ -1 + ((-1) * res + 0) := f1
      rw [← hr] at f1
      exact w0 M' x b1 b2 b3 b4 b5 (by have h1 := f0; omega) (by have h1 := f1; omega)
    cases hp

def hj_d_q : mz_Q := (132, [(1, 234), (0, 0), (0, 0), (0, 0), (0, 0), (0, 0), (0, 0), (0, 0), (0, 0), (0, 0), (3, 0), (3, 0), (3, 0), (3, 0)], [(0, [(1, 1)]), (3, [(1, -1)]), (0, [(2, 1)]), (5, [(2, -1)]), (0, [(8, 1)]), (226, [(8, -1)]), (0, [(9, 1)]), (23, [(9, -1)])], [], [], [])
def hj_d_s : List mz_Sp2 := [(214, [(1, 234), (0, 0), (0, 0), (0, 0), (0, 0), (0, 0), (0, 0), (0, 0), (0, 0), (0, 0), (3, 0), (3, 0), (3, 0), (3, 0)], [(0, 0), (0, 0), (1, 244)], [(0, [(1, -1), (76, 1)]), (0, [(1, 1), (76, -1)]), (0, [(2, -1), (77, 1)]), (0, [(2, 1), (77, -1)]), (0, [(3, -1), (78, 1)]), (0, [(3, 1), (78, -1)]), (0, [(4, -1), (79, 1)]), (0, [(4, 1), (79, -1)]), (0, [(5, -1), (80, 1)]), (0, [(5, 1), (80, -1)]), (0, [(6, -1), (81, 1)]), (0, [(6, 1), (81, -1)]), (0, [(7, -1), (82, 1)]), (0, [(7, 1), (82, -1)]), (0, [(8, -1), (83, 1)]), (0, [(8, 1), (83, -1)]), (0, [(9, -1), (84, 1)]), (0, [(9, 1), (84, -1)]), (0, [(9, -1), (90, 1)]), (0, [(9, 1), (90, -1)]), (0, [(89, 1)]), (65535, [(89, -1)])])]
def hj_d_h : List mz_H := [(244, 0, []), (0, 0, []), (0, 0, [(4, 1)]), (0, 0, [(5, 1)]), (138, 0, []), (0, 0, [(0, 1)]), (0, 0, [(1, 1)]), (0, 0, [(4, 1)]), (0, 0, [(5, 1)]), (0, 0, []), (0, 0, []), (0, 0, []), (0, 0, []), (0, 0, []), (0, 0, []), (0, 0, []), (0, 0, []), (0, 0, []), (0, 0, []), (0, 0, []), (0, 0, []), (0, 0, []), (0, 0, []), (0, 0, []), (0, 0, []), (0, 0, []), (0, 0, []), (0, 0, []), (0, 0, []), (0, 0, []), (0, 0, []), (0, 0, [(1, 1)]), (0, 0, [(0, 1)])]
set_option maxRecDepth 100000 in
theorem hj_d_c : mz_blk mz_GG mq_PP mz_Cs hj_d_q 14 3 198 hj_d_s [] 15 hj_d_h = true := by decide +kernel
theorem hj_d {X : (Nat → mq_C) → Prop} (hX : ∀ M M' : Nat → mq_C, mz_same mz_GG M M' → X M → X M') (hC : ∀ c ∈ mz_Cs, c.2 < 3 → mz_Ct mz_GG mq_PP X c.1 c.2) {d z u : Nat} {M : Nat → mq_C} {Q : (Option Value ⊕ Nat) → mq_S → Prop} {x1 : Int32} {x2 : Int32} {x3 : Int32} {x4 : Int32} {x5 : Int32} {x6 : Int32} {x7 : Int32} {x8 : Int32} {x9 : Int32} {o10 : Option Value} {o11 : Option Value} {o12 : Option Value} {o13 : Option Value} (hd : 3 ≤ d) (hz : 272 ≤ z) (hm : mz_sh mz_GG M) (hx : X M) (h0 : mq_nl o10 = true) (h1 : mq_nl o11 = true) (h2 : mq_nl o12 = true) (h3 : mq_nl o13 = true) (p0 : 0 ≤ x1.toInt) (p1 : 0 ≤ 3 - x1.toInt) (p2 : 0 ≤ x2.toInt) (p3 : 0 ≤ 5 - x2.toInt) (p4 : 0 ≤ x8.toInt) (p5 : 0 ≤ 226 - x8.toInt) (p6 : 0 ≤ x9.toInt) (p7 : 0 ≤ 23 - x9.toInt)
    (k0 : ∀ (M' : Nat → mq_C) (w10 : Option Value) (w11 : Option Value) (w12 : Option Value) (w13 : Option Value) (y14 : Int32), mz_sh mz_GG M' → X M' → mz_fr hj_d_q M M' → (∀ a, a < 8 → M' a = M a) → hb_same mz_GG hj_d_q M M' → mq_nl w10 = true → mq_nl w11 = true → mq_nl w12 = true → mq_nl w13 = true → 0 ≤ y14.toInt → 0 ≤ 65535 - y14.toInt → mq_R mq_PP d 132 214 [some (.ref 234), some (.int x1), some (.int x2), some (.int x3), some (.int x4), some (.int x5), some (.int x6), some (.int x7), some (.int x8), some (.int x9), w10, w11, w12, w13] [.int y14, .int x9, .ref 244] (M', z, u) Q) : mq_R mq_PP d 132 198 [some (.ref 234), some (.int x1), some (.int x2), some (.int x3), some (.int x4), some (.int x5), some (.int x6), some (.int x7), some (.int x8), some (.int x9), o10, o11, o12, o13] [] (M, z, u) Q := by
  refine hb_blk mz_GG mq_PP X (q := hj_d_q) (nl := 14) (M := M) hb_okG hX hC hj_d_c hz hd (L := [some (.ref 234), some (.int x1), some (.int x2), some (.int x3), some (.int x4), some (.int x5), some (.int x6), some (.int x7), some (.int x8), some (.int x9), o10, o11, o12, o13]) (st := []) (show hb_lk mz_GG ([(1, 234), (0, 0), (0, 0), (0, 0), (0, 0), (0, 0), (0, 0), (0, 0), (0, 0), (0, 0), (3, 0), (3, 0), (3, 0), (3, 0)]) _ from ⟨⟨List.mem_singleton.mpr rfl, rfl⟩, trivial, trivial, trivial, trivial, trivial, trivial, trivial, trivial, trivial, h0, h1, h2, h3, trivial⟩) (show hb_pk mz_GG ([]) _ from trivial) hm hx ?_ ?_ ?_
  · exact hb_cons (show 0 ≤ mz_ev _ _ from (show 0 ≤ 0 + (1 * x1.toInt + 0) by omega)) (hb_cons (show 0 ≤ mz_ev _ _ from (show 0 ≤ 3 + ((-1) * x1.toInt + 0) by omega)) (hb_cons (show 0 ≤ mz_ev _ _ from (show 0 ≤ 0 + (1 * x2.toInt + 0) by omega)) (hb_cons (show 0 ≤ mz_ev _ _ from (show 0 ≤ 5 + ((-1) * x2.toInt + 0) by omega)) (hb_cons (show 0 ≤ mz_ev _ _ from (show 0 ≤ 0 + (1 * x8.toInt + 0) by omega)) (hb_cons (show 0 ≤ mz_ev _ _ from (show 0 ≤ 226 + ((-1) * x8.toInt + 0) by omega)) (hb_cons (show 0 ≤ mz_ev _ _ from (show 0 ≤ 0 + (1 * x9.toInt + 0) by omega)) (hb_cons (show 0 ≤ mz_ev _ _ from (show 0 ≤ 23 + ((-1) * x9.toInt + 0) by omega)) (hb_nil))))))))
  · intro s hs
    rcases List.mem_cons.mp hs with rfl | hs
    · intro ρ1 L' st' M' g1 g2 gm gr gf gs gx gw g8 ge
      obtain ⟨e0, L1, rfl, n0, gg0⟩ := hb_l1 mz_GG g1
      obtain rfl : e0 = 234 := List.mem_singleton.mp n0
      obtain ⟨y1, L1, rfl, qr76, gg1⟩ := hb_l0 mz_GG gg0
      have r76 : ρ1 76 = y1.toInt := qr76
      obtain ⟨y2, L1, rfl, qr77, gg2⟩ := hb_l0 mz_GG gg1
      have r77 : ρ1 77 = y2.toInt := qr77
      obtain ⟨y3, L1, rfl, qr78, gg3⟩ := hb_l0 mz_GG gg2
      have r78 : ρ1 78 = y3.toInt := qr78
      obtain ⟨y4, L1, rfl, qr79, gg4⟩ := hb_l0 mz_GG gg3
      have r79 : ρ1 79 = y4.toInt := qr79
      obtain ⟨y5, L1, rfl, qr80, gg5⟩ := hb_l0 mz_GG gg4
      have r80 : ρ1 80 = y5.toInt := qr80
      obtain ⟨y6, L1, rfl, qr81, gg6⟩ := hb_l0 mz_GG gg5
      have r81 : ρ1 81 = y6.toInt := qr81
      obtain ⟨y7, L1, rfl, qr82, gg7⟩ := hb_l0 mz_GG gg6
      have r82 : ρ1 82 = y7.toInt := qr82
      obtain ⟨y8, L1, rfl, qr83, gg8⟩ := hb_l0 mz_GG gg7
      have r83 : ρ1 83 = y8.toInt := qr83
      obtain ⟨y9, L1, rfl, qr84, gg9⟩ := hb_l0 mz_GG gg8
      have r84 : ρ1 84 = y9.toInt := qr84
      obtain ⟨w10, L1, rfl, n10, gg10⟩ := hb_l3 mz_GG gg9
      obtain ⟨w11, L1, rfl, n11, gg11⟩ := hb_l3 mz_GG gg10
      obtain ⟨w12, L1, rfl, n12, gg12⟩ := hb_l3 mz_GG gg11
      obtain ⟨w13, L1, rfl, n13, gg13⟩ := hb_l3 mz_GG gg12
      obtain ⟨y14, s1, rfl, qr89, gg14⟩ := hb_p0 mz_GG g2
      have r89 : ρ1 89 = y14.toInt := qr89
      obtain ⟨y15, s1, rfl, qr90, gg15⟩ := hb_p0 mz_GG gg14
      have r90 : ρ1 90 = y15.toInt := qr90
      obtain ⟨e16, s1, rfl, n16, gg16⟩ := hb_p1 mz_GG gg15
      obtain rfl : e16 = 244 := List.mem_singleton.mp n16
      obtain rfl := hb_ln mz_GG gg13
      obtain rfl := hb_pn mz_GG gg16
      have r1 : ρ1 1 = x1.toInt := gr 1 (by decide +kernel)
      have r2 : ρ1 2 = x2.toInt := gr 2 (by decide +kernel)
      have r3 : ρ1 3 = x3.toInt := gr 3 (by decide +kernel)
      have r4 : ρ1 4 = x4.toInt := gr 4 (by decide +kernel)
      have r5 : ρ1 5 = x5.toInt := gr 5 (by decide +kernel)
      have r6 : ρ1 6 = x6.toInt := gr 6 (by decide +kernel)
      have r7 : ρ1 7 = x7.toInt := gr 7 (by decide +kernel)
      have r8 : ρ1 8 = x8.toInt := gr 8 (by decide +kernel)
      have r9 : ρ1 9 = x9.toInt := gr 9 (by decide +kernel)
      obtain ⟨f0, gf⟩ := hb_unc gf
      have f0 : 0 ≤ 0 + ((-1) * ρ1 1 + (1 * ρ1 76 + 0)) := f0
      rw [r1, r76] at f0
      obtain ⟨f1, gf⟩ := hb_unc gf
      have f1 : 0 ≤ 0 + (1 * ρ1 1 + ((-1) * ρ1 76 + 0)) := f1
      rw [r1, r76] at f1
      obtain ⟨f2, gf⟩ := hb_unc gf
      have f2 : 0 ≤ 0 + ((-1) * ρ1 2 + (1 * ρ1 77 + 0)) := f2
      rw [r2, r77] at f2
      obtain ⟨f3, gf⟩ := hb_unc gf
      have f3 : 0 ≤ 0 + (1 * ρ1 2 + ((-1) * ρ1 77 + 0)) := f3
      rw [r2, r77] at f3
      obtain ⟨f4, gf⟩ := hb_unc gf
      have f4 : 0 ≤ 0 + ((-1) * ρ1 3 + (1 * ρ1 78 + 0)) := f4
      rw [r3, r78] at f4
      obtain ⟨f5, gf⟩ := hb_unc gf
      have f5 : 0 ≤ 0 + (1 * ρ1 3 + ((-1) * ρ1 78 + 0)) := f5
      rw [r3, r78] at f5
      obtain ⟨f6, gf⟩ := hb_unc gf
      have f6 : 0 ≤ 0 + ((-1) * ρ1 4 + (1 * ρ1 79 + 0)) := f6
      rw [r4, r79] at f6
      obtain ⟨f7, gf⟩ := hb_unc gf
      have f7 : 0 ≤ 0 + (1 * ρ1 4 + ((-1) * ρ1 79 + 0)) := f7
      rw [r4, r79] at f7
      obtain ⟨f8, gf⟩ := hb_unc gf
      have f8 : 0 ≤ 0 + ((-1) * ρ1 5 + (1 * ρ1 80 + 0)) := f8
      rw [r5, r80] at f8
      obtain ⟨f9, gf⟩ := hb_unc gf
      have f9 : 0 ≤ 0 + (1 * ρ1 5 + ((-1) * ρ1 80 + 0)) := f9
      rw [r5, r80] at f9
      obtain ⟨f10, gf⟩ := hb_unc gf
      have f10 : 0 ≤ 0 + ((-1) * ρ1 6 + (1 * ρ1 81 + 0)) := f10
      rw [r6, r81] at f10
      obtain ⟨f11, gf⟩ := hb_unc gf
      have f11 : 0 ≤ 0 + (1 * ρ1 6 + ((-1) * ρ1 81 + 0)) := f11
      rw [r6, r81] at f11
      obtain ⟨f12, gf⟩ := hb_unc gf
      have f12 : 0 ≤ 0 + ((-1) * ρ1 7 + (1 * ρ1 82 + 0)) := f12
      rw [r7, r82] at f12
      obtain ⟨f13, gf⟩ := hb_unc gf
      have f13 : 0 ≤ 0 + (1 * ρ1 7 + ((-1) * ρ1 82 + 0)) := f13
      rw [r7, r82] at f13
      obtain ⟨f14, gf⟩ := hb_unc gf
      have f14 : 0 ≤ 0 + ((-1) * ρ1 8 + (1 * ρ1 83 + 0)) := f14
      rw [r8, r83] at f14
      obtain ⟨f15, gf⟩ := hb_unc gf
      have f15 : 0 ≤ 0 + (1 * ρ1 8 + ((-1) * ρ1 83 + 0)) := f15
      rw [r8, r83] at f15
      obtain ⟨f16, gf⟩ := hb_unc gf
      have f16 : 0 ≤ 0 + ((-1) * ρ1 9 + (1 * ρ1 84 + 0)) := f16
      rw [r9, r84] at f16
      obtain ⟨f17, gf⟩ := hb_unc gf
      have f17 : 0 ≤ 0 + (1 * ρ1 9 + ((-1) * ρ1 84 + 0)) := f17
      rw [r9, r84] at f17
      obtain ⟨f18, gf⟩ := hb_unc gf
      have f18 : 0 ≤ 0 + ((-1) * ρ1 9 + (1 * ρ1 90 + 0)) := f18
      rw [r9, r90] at f18
      obtain ⟨f19, gf⟩ := hb_unc gf
      have f19 : 0 ≤ 0 + (1 * ρ1 9 + ((-1) * ρ1 90 + 0)) := f19
      rw [r9, r90] at f19
      obtain ⟨f20, gf⟩ := hb_unc gf
      have f20 : 0 ≤ 0 + (1 * ρ1 89 + 0) := f20
      rw [r89] at f20
      obtain ⟨f21, gf⟩ := hb_unc gf
      have f21 : 0 ≤ 65535 + ((-1) * ρ1 89 + 0) := f21
      rw [r89] at f21
      have hy1 : y1 = x1 := hb_inj f0 f1
      subst y1
      have hy2 : y2 = x2 := hb_inj f2 f3
      subst y2
      have hy3 : y3 = x3 := hb_inj f4 f5
      subst y3
      have hy4 : y4 = x4 := hb_inj f6 f7
      subst y4
      have hy5 : y5 = x5 := hb_inj f8 f9
      subst y5
      have hy6 : y6 = x6 := hb_inj f10 f11
      subst y6
      have hy7 : y7 = x7 := hb_inj f12 f13
      subst y7
      have hy8 : y8 = x8 := hb_inj f14 f15
      subst y8
      have hy9 : y9 = x9 := hb_inj f16 f17
      subst y9
      have hy15 : y15 = x9 := hb_inj f18 f19
      subst y15
      exact k0 M' w10 w11 w12 w13 y14 gs gx gw g8 ge n10 n11 n12 n13 (by have h1 := f20; omega) (by have h1 := f21; omega)
    cases hs
  · intro r S hpo
    obtain ⟨b1, b2, b3, b4, b5, p, hp, res, hf, hre⟩ := hpo
    cases hp

def hj_e_q : mz_Q := (132, [(1, 234), (0, 0), (0, 0), (0, 0), (0, 0), (0, 0), (0, 0), (0, 0), (0, 0), (0, 0), (0, 0), (0, 0), (3, 0), (3, 0)], [(0, [(1, 1)]), (3, [(1, -1)]), (0, [(2, 1)]), (5, [(2, -1)]), (0, [(9, 1)]), (23, [(9, -1)]), (0, [(10, 1)]), (65535, [(10, -1)]), (-2, [(10, -1), (11, 1)]), (240, [(4, -1)])], [], [], [])
def hj_e_s : List mz_Sp2 := [(354, [(1, 234), (0, 0), (0, 0), (0, 0), (0, 0), (0, 0), (0, 0), (0, 0), (0, 0), (0, 0), (0, 0), (0, 0), (0, 0), (0, 0)], [], [(0, [(1, -1), (76, 1)]), (0, [(1, 1), (76, -1)]), (0, [(2, -1), (77, 1)]), (0, [(2, 1), (77, -1)]), (0, [(3, -1), (78, 1)]), (0, [(3, 1), (78, -1)]), (0, [(4, -1), (79, 1)]), (0, [(4, 1), (79, -1)]), (0, [(5, -1), (80, 1)]), (0, [(5, 1), (80, -1)]), (0, [(6, -1), (81, 1)]), (0, [(6, 1), (81, -1)]), (0, [(7, -1), (82, 1)]), (0, [(7, 1), (82, -1)]), (0, [(8, -1), (83, 1)]), (0, [(8, 1), (83, -1)]), (0, [(9, -1), (84, 1)]), (0, [(9, 1), (84, -1)]), (0, [(10, -1), (85, 1)]), (0, [(10, 1), (85, -1)]), (0, [(11, -1), (86, 1)]), (0, [(11, 1), (86, -1)]), (0, [(87, 1)]), (0, [(87, -1)]), (0, [(1, -6), (88, 1)]), (0, [(1, 6), (88, -1)])]), (354, [(1, 234), (0, 0), (0, 0), (0, 0), (0, 0), (0, 0), (0, 0), (0, 0), (0, 0), (0, 0), (0, 0), (0, 0), (0, 0), (0, 0)], [], [(0, [(1, -1), (76, 1)]), (0, [(1, 1), (76, -1)]), (0, [(2, -1), (77, 1)]), (0, [(2, 1), (77, -1)]), (0, [(3, -1), (78, 1)]), (0, [(3, 1), (78, -1)]), (0, [(4, -1), (79, 1)]), (0, [(4, 1), (79, -1)]), (0, [(5, -1), (80, 1)]), (0, [(5, 1), (80, -1)]), (0, [(6, -1), (81, 1)]), (0, [(6, 1), (81, -1)]), (0, [(7, -1), (82, 1)]), (0, [(7, 1), (82, -1)]), (0, [(8, -1), (83, 1)]), (0, [(8, 1), (83, -1)]), (0, [(9, -1), (84, 1)]), (0, [(9, 1), (84, -1)]), (0, [(10, -1), (85, 1)]), (0, [(10, 1), (85, -1)]), (0, [(11, -1), (86, 1)]), (0, [(11, 1), (86, -1)]), (0, [(87, 1)]), (0, [(87, -1)]), (0, [(1, -6), (88, 1)]), (0, [(1, 6), (88, -1)]), (-1, [(4, -1), (11, 1)])]), (354, [(1, 234), (0, 0), (0, 0), (0, 0), (0, 0), (0, 0), (0, 0), (0, 0), (0, 0), (0, 0), (0, 0), (0, 0), (0, 0), (0, 0)], [], [(0, [(1, -1), (76, 1)]), (0, [(1, 1), (76, -1)]), (0, [(2, -1), (77, 1)]), (0, [(2, 1), (77, -1)]), (0, [(3, -1), (78, 1)]), (0, [(3, 1), (78, -1)]), (0, [(4, -1), (79, 1)]), (0, [(4, 1), (79, -1)]), (0, [(5, -1), (80, 1)]), (0, [(5, 1), (80, -1)]), (0, [(6, -1), (81, 1)]), (0, [(6, 1), (81, -1)]), (0, [(7, -1), (82, 1)]), (0, [(7, 1), (82, -1)]), (0, [(8, -1), (83, 1)]), (0, [(8, 1), (83, -1)]), (0, [(9, -1), (84, 1)]), (0, [(9, 1), (84, -1)]), (0, [(10, -1), (85, 1)]), (0, [(10, 1), (85, -1)]), (0, [(11, -1), (86, 1)]), (0, [(11, 1), (86, -1)]), (0, [(87, 1)]), (0, [(87, -1)]), (0, [(1, -6), (88, 1)]), (0, [(1, 6), (88, -1)]), (0, [(4, 1), (11, -1)])]), (354, [(1, 234), (0, 0), (0, 0), (0, 0), (0, 0), (0, 0), (0, 0), (0, 0), (0, 0), (0, 0), (0, 0), (0, 0), (0, 0), (0, 0)], [], [(0, [(1, -1), (76, 1)]), (0, [(1, 1), (76, -1)]), (0, [(2, -1), (77, 1)]), (0, [(2, 1), (77, -1)]), (0, [(3, -1), (78, 1)]), (0, [(3, 1), (78, -1)]), (0, [(4, -1), (79, 1)]), (0, [(4, 1), (79, -1)]), (0, [(5, -1), (80, 1)]), (0, [(5, 1), (80, -1)]), (0, [(6, -1), (81, 1)]), (0, [(6, 1), (81, -1)]), (0, [(7, -1), (82, 1)]), (0, [(7, 1), (82, -1)]), (0, [(8, -1), (83, 1)]), (0, [(8, 1), (83, -1)]), (0, [(9, -1), (84, 1)]), (0, [(9, 1), (84, -1)]), (0, [(10, -1), (85, 1)]), (0, [(10, 1), (85, -1)]), (0, [(11, -1), (86, 1)]), (0, [(11, 1), (86, -1)]), (0, [(87, 1)]), (0, [(87, -1)]), (0, [(1, -6), (88, 1)]), (0, [(1, 6), (88, -1)]), (0, [(4, 1), (11, -1)])]), (354, [(1, 234), (0, 0), (0, 0), (0, 0), (0, 0), (0, 0), (0, 0), (0, 0), (0, 0), (0, 0), (0, 0), (0, 0), (0, 0), (0, 0)], [], [(0, [(1, -1), (76, 1)]), (0, [(1, 1), (76, -1)]), (0, [(2, -1), (77, 1)]), (0, [(2, 1), (77, -1)]), (0, [(3, -1), (78, 1)]), (0, [(3, 1), (78, -1)]), (0, [(4, -1), (79, 1)]), (0, [(4, 1), (79, -1)]), (0, [(5, -1), (80, 1)]), (0, [(5, 1), (80, -1)]), (0, [(6, -1), (81, 1)]), (0, [(6, 1), (81, -1)]), (0, [(7, -1), (82, 1)]), (0, [(7, 1), (82, -1)]), (0, [(8, -1), (83, 1)]), (0, [(8, 1), (83, -1)]), (0, [(9, -1), (84, 1)]), (0, [(9, 1), (84, -1)]), (0, [(10, -1), (85, 1)]), (0, [(10, 1), (85, -1)]), (0, [(11, -1), (86, 1)]), (0, [(11, 1), (86, -1)]), (-1, [(87, 1)]), (1, [(87, -1)]), (0, [(1, -6), (88, 1)]), (0, [(1, 6), (88, -1)]), (0, [(4, 1), (11, -1)])]), (354, [(1, 234), (0, 0), (0, 0), (0, 0), (0, 0), (0, 0), (0, 0), (0, 0), (0, 0), (0, 0), (0, 0), (0, 0), (0, 0), (0, 0)], [], [(0, [(1, -1), (76, 1)]), (0, [(1, 1), (76, -1)]), (0, [(2, -1), (77, 1)]), (0, [(2, 1), (77, -1)]), (0, [(3, -1), (78, 1)]), (0, [(3, 1), (78, -1)]), (0, [(4, -1), (79, 1)]), (0, [(4, 1), (79, -1)]), (0, [(5, -1), (80, 1)]), (0, [(5, 1), (80, -1)]), (0, [(6, -1), (81, 1)]), (0, [(6, 1), (81, -1)]), (0, [(7, -1), (82, 1)]), (0, [(7, 1), (82, -1)]), (0, [(8, -1), (83, 1)]), (0, [(8, 1), (83, -1)]), (0, [(9, -1), (84, 1)]), (0, [(9, 1), (84, -1)]), (0, [(10, -1), (85, 1)]), (0, [(10, 1), (85, -1)]), (0, [(11, -1), (86, 1)]), (0, [(11, 1), (86, -1)]), (0, [(87, 1)]), (0, [(87, -1)]), (0, [(1, -6), (88, 1)]), (0, [(1, 6), (88, -1)])]), (354, [(1, 234), (0, 0), (0, 0), (0, 0), (0, 0), (0, 0), (0, 0), (0, 0), (0, 0), (0, 0), (0, 0), (0, 0), (0, 0), (0, 0)], [], [(0, [(1, -1), (76, 1)]), (0, [(1, 1), (76, -1)]), (0, [(2, -1), (77, 1)]), (0, [(2, 1), (77, -1)]), (0, [(3, -1), (78, 1)]), (0, [(3, 1), (78, -1)]), (0, [(4, -1), (79, 1)]), (0, [(4, 1), (79, -1)]), (0, [(5, -1), (80, 1)]), (0, [(5, 1), (80, -1)]), (0, [(6, -1), (81, 1)]), (0, [(6, 1), (81, -1)]), (0, [(7, -1), (82, 1)]), (0, [(7, 1), (82, -1)]), (0, [(8, -1), (83, 1)]), (0, [(8, 1), (83, -1)]), (0, [(9, -1), (84, 1)]), (0, [(9, 1), (84, -1)]), (0, [(10, -1), (85, 1)]), (0, [(10, 1), (85, -1)]), (0, [(11, -1), (86, 1)]), (0, [(11, 1), (86, -1)]), (0, [(87, 1)]), (0, [(87, -1)]), (0, [(1, -6), (88, 1)]), (0, [(1, 6), (88, -1)])]), (354, [(1, 234), (0, 0), (0, 0), (0, 0), (0, 0), (0, 0), (0, 0), (0, 0), (0, 0), (0, 0), (0, 0), (0, 0), (0, 0), (0, 0)], [], [(0, [(1, -1), (76, 1)]), (0, [(1, 1), (76, -1)]), (0, [(2, -1), (77, 1)]), (0, [(2, 1), (77, -1)]), (0, [(3, -1), (78, 1)]), (0, [(3, 1), (78, -1)]), (0, [(4, -1), (79, 1)]), (0, [(4, 1), (79, -1)]), (0, [(5, -1), (80, 1)]), (0, [(5, 1), (80, -1)]), (0, [(6, -1), (81, 1)]), (0, [(6, 1), (81, -1)]), (0, [(7, -1), (82, 1)]), (0, [(7, 1), (82, -1)]), (0, [(8, -1), (83, 1)]), (0, [(8, 1), (83, -1)]), (0, [(9, -1), (84, 1)]), (0, [(9, 1), (84, -1)]), (0, [(10, -1), (85, 1)]), (0, [(10, 1), (85, -1)]), (0, [(11, -1), (86, 1)]), (0, [(11, 1), (86, -1)]), (0, [(87, 1)]), (0, [(87, -1)]), (0, [(1, -6), (88, 1)]), (0, [(1, 6), (88, -1)]), (-1, [(4, -1), (11, 1)])]), (354, [(1, 234), (0, 0), (0, 0), (0, 0), (0, 0), (0, 0), (0, 0), (0, 0), (0, 0), (0, 0), (0, 0), (0, 0), (0, 0), (0, 0)], [], [(0, [(1, -1), (76, 1)]), (0, [(1, 1), (76, -1)]), (0, [(2, -1), (77, 1)]), (0, [(2, 1), (77, -1)]), (0, [(3, -1), (78, 1)]), (0, [(3, 1), (78, -1)]), (0, [(4, -1), (79, 1)]), (0, [(4, 1), (79, -1)]), (0, [(5, -1), (80, 1)]), (0, [(5, 1), (80, -1)]), (0, [(6, -1), (81, 1)]), (0, [(6, 1), (81, -1)]), (0, [(7, -1), (82, 1)]), (0, [(7, 1), (82, -1)]), (0, [(8, -1), (83, 1)]), (0, [(8, 1), (83, -1)]), (0, [(9, -1), (84, 1)]), (0, [(9, 1), (84, -1)]), (0, [(10, -1), (85, 1)]), (0, [(10, 1), (85, -1)]), (0, [(11, -1), (86, 1)]), (0, [(11, 1), (86, -1)]), (0, [(87, 1)]), (0, [(87, -1)]), (0, [(1, -6), (88, 1)]), (0, [(1, 6), (88, -1)]), (0, [(4, 1), (11, -1)])]), (354, [(1, 234), (0, 0), (0, 0), (0, 0), (0, 0), (0, 0), (0, 0), (0, 0), (0, 0), (0, 0), (0, 0), (0, 0), (0, 0), (0, 0)], [], [(0, [(1, -1), (76, 1)]), (0, [(1, 1), (76, -1)]), (0, [(2, -1), (77, 1)]), (0, [(2, 1), (77, -1)]), (0, [(3, -1), (78, 1)]), (0, [(3, 1), (78, -1)]), (0, [(4, -1), (79, 1)]), (0, [(4, 1), (79, -1)]), (0, [(5, -1), (80, 1)]), (0, [(5, 1), (80, -1)]), (0, [(6, -1), (81, 1)]), (0, [(6, 1), (81, -1)]), (0, [(7, -1), (82, 1)]), (0, [(7, 1), (82, -1)]), (0, [(8, -1), (83, 1)]), (0, [(8, 1), (83, -1)]), (0, [(9, -1), (84, 1)]), (0, [(9, 1), (84, -1)]), (0, [(10, -1), (85, 1)]), (0, [(10, 1), (85, -1)]), (0, [(11, -1), (86, 1)]), (0, [(11, 1), (86, -1)]), (0, [(87, 1)]), (0, [(87, -1)]), (0, [(1, -6), (88, 1)]), (0, [(1, 6), (88, -1)]), (0, [(4, 1), (11, -1)])]), (354, [(1, 234), (0, 0), (0, 0), (0, 0), (0, 0), (0, 0), (0, 0), (0, 0), (0, 0), (0, 0), (0, 0), (0, 0), (0, 0), (0, 0)], [], [(0, [(1, -1), (76, 1)]), (0, [(1, 1), (76, -1)]), (0, [(2, -1), (77, 1)]), (0, [(2, 1), (77, -1)]), (0, [(3, -1), (78, 1)]), (0, [(3, 1), (78, -1)]), (0, [(4, -1), (79, 1)]), (0, [(4, 1), (79, -1)]), (0, [(5, -1), (80, 1)]), (0, [(5, 1), (80, -1)]), (0, [(6, -1), (81, 1)]), (0, [(6, 1), (81, -1)]), (0, [(7, -1), (82, 1)]), (0, [(7, 1), (82, -1)]), (0, [(8, -1), (83, 1)]), (0, [(8, 1), (83, -1)]), (0, [(9, -1), (84, 1)]), (0, [(9, 1), (84, -1)]), (0, [(10, -1), (85, 1)]), (0, [(10, 1), (85, -1)]), (0, [(11, -1), (86, 1)]), (0, [(11, 1), (86, -1)]), (-1, [(87, 1)]), (1, [(87, -1)]), (0, [(1, -6), (88, 1)]), (0, [(1, 6), (88, -1)]), (0, [(4, 1), (11, -1)])])]
def hj_e_h : List mz_H := [(240, 0, []), (0, 0, [(4, 1)]), (0, 0, [(5, 1)]), (0, 0, []), (3, 0, []), (0, 0, [(0, 1)]), (242, 0, []), (0, 0, [(8, 1)]), (0, 0, [(9, 1)]), (0, 0, []), (0, 0, []), (0, 0, []), (1, 0, []), (0, 0, []), (0, 0, []), (0, 0, []), (0, 0, [(9, 6)]), (0, 0, [(10, 6)]), (0, 0, []), (0, 0, []), (0, 0, []), (0, 0, []), (0, 0, []), (0, 0, []), (0, 0, []), (0, 0, []), (0, 0, []), (0, 0, []), (0, 0, []), (0, 0, []), (0, 0, []), (0, 0, []), (0, 0, []), (0, 0, []), (0, 0, []), (0, 0, []), (0, 0, []), (0, 0, []), (0, 0, []), (0, 0, []), (0, 0, []), (0, 0, []), (0, 0, []), (0, 0, []), (0, 0, []), (0, 0, []), (0, 0, []), (0, 0, []), (1, 0, []), (0, 0, []), (0, 0, []), (0, 0, []), (0, 0, [(10, 6)]), (0, 0, [(11, 6)]), (1, 0, []), (0, 0, []), (0, 0, []), (0, 0, []), (0, 0, []), (0, 0, []), (0, 0, []), (0, 0, []), (0, 0, []), (0, 0, []), (0, 0, []), (0, 0, []), (0, 0, []), (0, 0, []), (0, 0, []), (0, 0, []), (0, 0, []), (0, 0, []), (0, 0, []), (0, 0, []), (0, 0, []), (0, 0, []), (0, 0, []), (0, 0, []), (0, 0, []), (0, 0, []), (0, 0, []), (0, 0, [(2, 1)]), (1, 1, []), (0, 0, []), (3, 0, []), (0, 0, []), (1, 1, []), (0, 0, []), (3, 0, []), (0, 0, []), (137, 0, []), (0, 0, [(10, 1)]), (0, 0, [(11, 1)]), (0, 0, [(16, 1)]), (0, 0, [(18, 1), (2, 1), (19, 1)]), (0, 0, []), (0, 0, []), (0, 0, []), (0, 0, []), (0, 0, [(14, 6)]), (0, 0, [(15, 6)]), (2, 0, []), (0, 0, []), (0, 0, []), (0, 0, []), (0, 0, []), (0, 0, []), (0, 0, []), (0, 0, []), (0, 0, []), (0, 0, []), (0, 0, []), (0, 0, []), (0, 0, []), (0, 0, []), (0, 0, []), (0, 0, []), (0, 0, []), (0, 0, []), (0, 0, []), (0, 0, []), (0, 0, []), (0, 0, []), (0, 0, []), (0, 0, []), (0, 0, []), (0, 0, []), (0, 0, []), (0, 0, [(6, 1)]), (1, 1, []), (0, 0, []), (3, 0, []), (0, 0, []), (0, 0, []), (0, 0, [(23, 1)]), (0, 0, [(24, 1)]), (137, 0, []), (0, 0, [(17, 1)]), (0, 0, [(18, 1)]), (0, 0, [(23, 1)]), (0, 0, [(25, 1), (9, 1), (26, 1)]), (0, 0, []), (240, 0, []), (0, 0, [(25, 1)]), (0, 0, [(26, 1)]), (0, 0, []), (0, 0, []), (0, 0, []), (0, 0, [(23, 6)]), (0, 0, [(24, 6)]), (3, 0, []), (0, 0, []), (0, 0, []), (0, 0, []), (0, 0, []), (0, 0, []), (0, 0, []), (0, 0, []), (0, 0, []), (0, 0, []), (0, 0, []), (0, 0, []), (0, 0, []), (0, 0, []), (0, 0, []), (0, 0, []), (0, 0, []), (0, 0, []), (0, 0, []), (0, 0, []), (0, 0, []), (0, 0, []), (0, 0, []), (0, 0, []), (0, 0, []), (0, 0, []), (0, 0, []), (0, 0, [(15, 1)]), (0, 0, []), (0, 0, [(25, 6)]), (0, 0, [(26, 6)]), (4, 0, []), (0, 0, []), (0, 0, []), (0, 0, []), (0, 0, []), (0, 0, []), (0, 0, []), (0, 0, []), (0, 0, []), (0, 0, []), (0, 0, []), (0, 0, []), (0, 0, []), (0, 0, []), (0, 0, []), (0, 0, []), (0, 0, []), (0, 0, []), (0, 0, []), (0, 0, []), (0, 0, []), (0, 0, []), (0, 0, []), (0, 0, []), (0, 0, []), (0, 0, []), (0, 0, []), (0, 0, [(17, 1)]), (240, 0, []), (0, 0, [(7, 1)]), (0, 0, [(8, 1)]), (0, 0, []), (0, 0, []), (0, 0, []), (1, 0, []), (0, 0, []), (0, 0, []), (0, 0, []), (0, 0, [(7, 6)]), (0, 0, [(8, 6)]), (5, 0, []), (0, 0, []), (0, 0, []), (0, 0, []), (0, 0, []), (0, 0, []), (0, 0, []), (0, 0, []), (0, 0, []), (0, 0, []), (0, 0, []), (0, 0, []), (0, 0, []), (0, 0, []), (0, 0, []), (0, 0, []), (0, 0, []), (0, 0, []), (0, 0, []), (0, 0, []), (0, 0, []), (0, 0, []), (0, 0, []), (0, 0, []), (0, 0, []), (0, 0, []), (0, 0, []), (242, 0, []), (0, 0, [(11, 1)]), (0, 0, [(12, 1)]), (0, 0, []), (0, 0, []), (0, 0, []), (1, 0, []), (0, 0, []), (0, 0, []), (0, 0, []), (0, 0, [(12, 6)]), (0, 0, [(13, 6)]), (6, 0, []), (0, 0, []), (0, 0, []), (0, 0, []), (0, 0, []), (0, 0, []), (0, 0, []), (0, 0, []), (0, 0, []), (0, 0, []), (0, 0, []), (0, 0, []), (0, 0, []), (0, 0, []), (0, 0, []), (0, 0, []), (0, 0, []), (0, 0, []), (0, 0, []), (0, 0, []), (0, 0, []), (0, 0, []), (0, 0, []), (0, 0, []), (0, 0, []), (0, 0, []), (0, 0, []), (0, 0, []), (0, 0, []), (0, 0, []), (1, 0, []), (0, 0, []), (0, 0, []), (0, 0, []), (0, 0, [(13, 6)]), (0, 0, [(14, 6)]), (7, 0, []), (0, 0, []), (0, 0, []), (0, 0, []), (0, 0, []), (0, 0, []), (0, 0, []), (0, 0, []), (0, 0, []), (0, 0, []), (0, 0, []), (0, 0, []), (0, 0, []), (0, 0, []), (0, 0, []), (0, 0, []), (0, 0, []), (0, 0, []), (0, 0, []), (0, 0, []), (0, 0, []), (0, 0, []), (0, 0, []), (0, 0, []), (0, 0, []), (0, 0, []), (0, 0, []), (0, 0, [(2, 1)]), (1, 1, []), (0, 0, []), (3, 0, []), (0, 0, []), (1, 1, []), (0, 0, []), (3, 0, []), (0, 0, []), (137, 0, []), (0, 0, [(13, 1)]), (0, 0, [(14, 1)]), (0, 0, [(19, 1)]), (0, 0, [(21, 1), (2, 1), (22, 1)]), (0, 0, []), (0, 0, []), (0, 0, []), (0, 0, []), (0, 0, [(17, 6)]), (0, 0, [(18, 6)]), (8, 0, []), (0, 0, []), (0, 0, []), (0, 0, []), (0, 0, []), (0, 0, []), (0, 0, []), (0, 0, []), (0, 0, []), (0, 0, []), (0, 0, []), (0, 0, []), (0, 0, []), (0, 0, []), (0, 0, []), (0, 0, []), (0, 0, []), (0, 0, []), (0, 0, []), (0, 0, []), (0, 0, []), (0, 0, []), (0, 0, []), (0, 0, []), (0, 0, []), (0, 0, []), (0, 0, []), (0, 0, [(6, 1)]), (1, 1, []), (0, 0, []), (3, 0, []), (0, 0, []), (0, 0, []), (0, 0, [(26, 1)]), (0, 0, [(27, 1)]), (137, 0, []), (0, 0, [(20, 1)]), (0, 0, [(21, 1)]), (0, 0, [(26, 1)]), (0, 0, [(28, 1), (9, 1), (29, 1)]), (0, 0, []), (240, 0, []), (0, 0, [(28, 1)]), (0, 0, [(29, 1)]), (0, 0, []), (0, 0, []), (0, 0, []), (0, 0, [(26, 6)]), (0, 0, [(27, 6)]), (9, 0, []), (0, 0, []), (0, 0, []), (0, 0, []), (0, 0, []), (0, 0, []), (0, 0, []), (0, 0, []), (0, 0, []), (0, 0, []), (0, 0, []), (0, 0, []), (0, 0, []), (0, 0, []), (0, 0, []), (0, 0, []), (0, 0, []), (0, 0, []), (0, 0, []), (0, 0, []), (0, 0, []), (0, 0, []), (0, 0, []), (0, 0, []), (0, 0, []), (0, 0, []), (0, 0, []), (0, 0, [(15, 1)]), (0, 0, []), (0, 0, [(28, 6)]), (0, 0, [(29, 6)]), (10, 0, []), (0, 0, []), (0, 0, []), (0, 0, []), (0, 0, []), (0, 0, []), (0, 0, []), (0, 0, []), (0, 0, []), (0, 0, []), (0, 0, []), (0, 0, []), (0, 0, []), (0, 0, []), (0, 0, []), (0, 0, []), (0, 0, []), (0, 0, []), (0, 0, []), (0, 0, []), (0, 0, []), (0, 0, []), (0, 0, []), (0, 0, []), (0, 0, []), (0, 0, []), (0, 0, []), (0, 0, [(17, 1)])]
set_option maxRecDepth 100000 in
theorem hj_e_c : mz_blk mz_GG mq_PP mz_Cs hj_e_q 14 2 238 hj_e_s [] 189 hj_e_h = true := by decide +kernel
theorem hj_e {X : (Nat → mq_C) → Prop} (hX : ∀ M M' : Nat → mq_C, mz_same mz_GG M M' → X M → X M') (hC : ∀ c ∈ mz_Cs, c.2 < 2 → mz_Ct mz_GG mq_PP X c.1 c.2) {d z u : Nat} {M : Nat → mq_C} {Q : (Option Value ⊕ Nat) → mq_S → Prop} {x1 : Int32} {x2 : Int32} {x3 : Int32} {x4 : Int32} {x5 : Int32} {x6 : Int32} {x7 : Int32} {x8 : Int32} {x9 : Int32} {x10 : Int32} {x11 : Int32} {o12 : Option Value} {o13 : Option Value} (hd : 2 ≤ d) (hz : 272 ≤ z) (hm : mz_sh mz_GG M) (hx : X M) (h0 : mq_nl o12 = true) (h1 : mq_nl o13 = true) (p0 : 0 ≤ x1.toInt) (p1 : 0 ≤ 3 - x1.toInt) (p2 : 0 ≤ x2.toInt) (p3 : 0 ≤ 5 - x2.toInt) (p4 : 0 ≤ x9.toInt) (p5 : 0 ≤ 23 - x9.toInt) (p6 : 0 ≤ x10.toInt) (p7 : 0 ≤ 65535 - x10.toInt) (p8 : 0 ≤ (-2) - x10.toInt + x11.toInt) (p9 : 0 ≤ 240 - x4.toInt)
    (k0 : ∀ (M' : Nat → mq_C) (y12 : Int32) (y13 : Int32), mz_sh mz_GG M' → X M' → mz_fr hj_e_q M M' → (∀ a, a < 8 → M' a = M a) → hb_same mz_GG hj_e_q M M' → y12.toInt = 0 → y13.toInt = 6 * x1.toInt → mq_R mq_PP d 132 354 [some (.ref 234), some (.int x1), some (.int x2), some (.int x3), some (.int x4), some (.int x5), some (.int x6), some (.int x7), some (.int x8), some (.int x9), some (.int x10), some (.int x11), some (.int y12), some (.int y13)] [] (M', z, u) Q)
    (k1 : ∀ (M' : Nat → mq_C) (y12 : Int32) (y13 : Int32), mz_sh mz_GG M' → X M' → mz_fr hj_e_q M M' → (∀ a, a < 8 → M' a = M a) → hb_same mz_GG hj_e_q M M' → y12.toInt = 0 → y13.toInt = 6 * x1.toInt → 0 ≤ (-1) - x4.toInt + x11.toInt → mq_R mq_PP d 132 354 [some (.ref 234), some (.int x1), some (.int x2), some (.int x3), some (.int x4), some (.int x5), some (.int x6), some (.int x7), some (.int x8), some (.int x9), some (.int x10), some (.int x11), some (.int y12), some (.int y13)] [] (M', z, u) Q)
    (k2 : ∀ (M' : Nat → mq_C) (y12 : Int32) (y13 : Int32), mz_sh mz_GG M' → X M' → mz_fr hj_e_q M M' → (∀ a, a < 8 → M' a = M a) → hb_same mz_GG hj_e_q M M' → y12.toInt = 0 → y13.toInt = 6 * x1.toInt → 0 ≤ x4.toInt - x11.toInt → mq_R mq_PP d 132 354 [some (.ref 234), some (.int x1), some (.int x2), some (.int x3), some (.int x4), some (.int x5), some (.int x6), some (.int x7), some (.int x8), some (.int x9), some (.int x10), some (.int x11), some (.int y12), some (.int y13)] [] (M', z, u) Q)
    (k3 : ∀ (M' : Nat → mq_C) (y12 : Int32) (y13 : Int32), mz_sh mz_GG M' → X M' → mz_fr hj_e_q M M' → (∀ a, a < 8 → M' a = M a) → hb_same mz_GG hj_e_q M M' → y12.toInt = 0 → y13.toInt = 6 * x1.toInt → 0 ≤ x4.toInt - x11.toInt → mq_R mq_PP d 132 354 [some (.ref 234), some (.int x1), some (.int x2), some (.int x3), some (.int x4), some (.int x5), some (.int x6), some (.int x7), some (.int x8), some (.int x9), some (.int x10), some (.int x11), some (.int y12), some (.int y13)] [] (M', z, u) Q)
    (k4 : ∀ (M' : Nat → mq_C) (y12 : Int32) (y13 : Int32), mz_sh mz_GG M' → X M' → mz_fr hj_e_q M M' → (∀ a, a < 8 → M' a = M a) → hb_same mz_GG hj_e_q M M' → y12.toInt = 1 → y13.toInt = 6 * x1.toInt → 0 ≤ x4.toInt - x11.toInt → mq_R mq_PP d 132 354 [some (.ref 234), some (.int x1), some (.int x2), some (.int x3), some (.int x4), some (.int x5), some (.int x6), some (.int x7), some (.int x8), some (.int x9), some (.int x10), some (.int x11), some (.int y12), some (.int y13)] [] (M', z, u) Q)
    (k5 : ∀ (M' : Nat → mq_C) (y12 : Int32) (y13 : Int32), mz_sh mz_GG M' → X M' → mz_fr hj_e_q M M' → (∀ a, a < 8 → M' a = M a) → hb_same mz_GG hj_e_q M M' → y12.toInt = 0 → y13.toInt = 6 * x1.toInt → mq_R mq_PP d 132 354 [some (.ref 234), some (.int x1), some (.int x2), some (.int x3), some (.int x4), some (.int x5), some (.int x6), some (.int x7), some (.int x8), some (.int x9), some (.int x10), some (.int x11), some (.int y12), some (.int y13)] [] (M', z, u) Q)
    (k6 : ∀ (M' : Nat → mq_C) (y12 : Int32) (y13 : Int32), mz_sh mz_GG M' → X M' → mz_fr hj_e_q M M' → (∀ a, a < 8 → M' a = M a) → hb_same mz_GG hj_e_q M M' → y12.toInt = 0 → y13.toInt = 6 * x1.toInt → mq_R mq_PP d 132 354 [some (.ref 234), some (.int x1), some (.int x2), some (.int x3), some (.int x4), some (.int x5), some (.int x6), some (.int x7), some (.int x8), some (.int x9), some (.int x10), some (.int x11), some (.int y12), some (.int y13)] [] (M', z, u) Q)
    (k7 : ∀ (M' : Nat → mq_C) (y12 : Int32) (y13 : Int32), mz_sh mz_GG M' → X M' → mz_fr hj_e_q M M' → (∀ a, a < 8 → M' a = M a) → hb_same mz_GG hj_e_q M M' → y12.toInt = 0 → y13.toInt = 6 * x1.toInt → 0 ≤ (-1) - x4.toInt + x11.toInt → mq_R mq_PP d 132 354 [some (.ref 234), some (.int x1), some (.int x2), some (.int x3), some (.int x4), some (.int x5), some (.int x6), some (.int x7), some (.int x8), some (.int x9), some (.int x10), some (.int x11), some (.int y12), some (.int y13)] [] (M', z, u) Q)
    (k8 : ∀ (M' : Nat → mq_C) (y12 : Int32) (y13 : Int32), mz_sh mz_GG M' → X M' → mz_fr hj_e_q M M' → (∀ a, a < 8 → M' a = M a) → hb_same mz_GG hj_e_q M M' → y12.toInt = 0 → y13.toInt = 6 * x1.toInt → 0 ≤ x4.toInt - x11.toInt → mq_R mq_PP d 132 354 [some (.ref 234), some (.int x1), some (.int x2), some (.int x3), some (.int x4), some (.int x5), some (.int x6), some (.int x7), some (.int x8), some (.int x9), some (.int x10), some (.int x11), some (.int y12), some (.int y13)] [] (M', z, u) Q)
    (k9 : ∀ (M' : Nat → mq_C) (y12 : Int32) (y13 : Int32), mz_sh mz_GG M' → X M' → mz_fr hj_e_q M M' → (∀ a, a < 8 → M' a = M a) → hb_same mz_GG hj_e_q M M' → y12.toInt = 0 → y13.toInt = 6 * x1.toInt → 0 ≤ x4.toInt - x11.toInt → mq_R mq_PP d 132 354 [some (.ref 234), some (.int x1), some (.int x2), some (.int x3), some (.int x4), some (.int x5), some (.int x6), some (.int x7), some (.int x8), some (.int x9), some (.int x10), some (.int x11), some (.int y12), some (.int y13)] [] (M', z, u) Q)
    (k10 : ∀ (M' : Nat → mq_C) (y12 : Int32) (y13 : Int32), mz_sh mz_GG M' → X M' → mz_fr hj_e_q M M' → (∀ a, a < 8 → M' a = M a) → hb_same mz_GG hj_e_q M M' → y12.toInt = 1 → y13.toInt = 6 * x1.toInt → 0 ≤ x4.toInt - x11.toInt → mq_R mq_PP d 132 354 [some (.ref 234), some (.int x1), some (.int x2), some (.int x3), some (.int x4), some (.int x5), some (.int x6), some (.int x7), some (.int x8), some (.int x9), some (.int x10), some (.int x11), some (.int y12), some (.int y13)] [] (M', z, u) Q) : mq_R mq_PP d 132 238 [some (.ref 234), some (.int x1), some (.int x2), some (.int x3), some (.int x4), some (.int x5), some (.int x6), some (.int x7), some (.int x8), some (.int x9), some (.int x10), some (.int x11), o12, o13] [] (M, z, u) Q := by
  refine hb_blk mz_GG mq_PP X (q := hj_e_q) (nl := 14) (M := M) hb_okG hX hC hj_e_c hz hd (L := [some (.ref 234), some (.int x1), some (.int x2), some (.int x3), some (.int x4), some (.int x5), some (.int x6), some (.int x7), some (.int x8), some (.int x9), some (.int x10), some (.int x11), o12, o13]) (st := []) (show hb_lk mz_GG ([(1, 234), (0, 0), (0, 0), (0, 0), (0, 0), (0, 0), (0, 0), (0, 0), (0, 0), (0, 0), (0, 0), (0, 0), (3, 0), (3, 0)]) _ from ⟨⟨List.mem_singleton.mpr rfl, rfl⟩, trivial, trivial, trivial, trivial, trivial, trivial, trivial, trivial, trivial, trivial, trivial, h0, h1, trivial⟩) (show hb_pk mz_GG ([]) _ from trivial) hm hx ?_ ?_ ?_
  · exact hb_cons (show 0 ≤ mz_ev _ _ from (show 0 ≤ 0 + (1 * x1.toInt + 0) by omega)) (hb_cons (show 0 ≤ mz_ev _ _ from (show 0 ≤ 3 + ((-1) * x1.toInt + 0) by omega)) (hb_cons (show 0 ≤ mz_ev _ _ from (show 0 ≤ 0 + (1 * x2.toInt + 0) by omega)) (hb_cons (show 0 ≤ mz_ev _ _ from (show 0 ≤ 5 + ((-1) * x2.toInt + 0) by omega)) (hb_cons (show 0 ≤ mz_ev _ _ from (show 0 ≤ 0 + (1 * x9.toInt + 0) by omega)) (hb_cons (show 0 ≤ mz_ev _ _ from (show 0 ≤ 23 + ((-1) * x9.toInt + 0) by omega)) (hb_cons (show 0 ≤ mz_ev _ _ from (show 0 ≤ 0 + (1 * x10.toInt + 0) by omega)) (hb_cons (show 0 ≤ mz_ev _ _ from (show 0 ≤ 65535 + ((-1) * x10.toInt + 0) by omega)) (hb_cons (show 0 ≤ mz_ev _ _ from (show 0 ≤ -2 + ((-1) * x10.toInt + (1 * x11.toInt + 0)) by omega)) (hb_cons (show 0 ≤ mz_ev _ _ from (show 0 ≤ 240 + ((-1) * x4.toInt + 0) by omega)) (hb_nil))))))))))
  · intro s hs
    rcases List.mem_cons.mp hs with rfl | hs
    · intro ρ1 L' st' M' g1 g2 gm gr gf gs gx gw g8 ge
      obtain ⟨e0, L1, rfl, n0, gg0⟩ := hb_l1 mz_GG g1
      obtain rfl : e0 = 234 := List.mem_singleton.mp n0
      obtain ⟨y1, L1, rfl, qr76, gg1⟩ := hb_l0 mz_GG gg0
      have r76 : ρ1 76 = y1.toInt := qr76
      obtain ⟨y2, L1, rfl, qr77, gg2⟩ := hb_l0 mz_GG gg1
      have r77 : ρ1 77 = y2.toInt := qr77
      obtain ⟨y3, L1, rfl, qr78, gg3⟩ := hb_l0 mz_GG gg2
      have r78 : ρ1 78 = y3.toInt := qr78
      obtain ⟨y4, L1, rfl, qr79, gg4⟩ := hb_l0 mz_GG gg3
      have r79 : ρ1 79 = y4.toInt := qr79
      obtain ⟨y5, L1, rfl, qr80, gg5⟩ := hb_l0 mz_GG gg4
      have r80 : ρ1 80 = y5.toInt := qr80
      obtain ⟨y6, L1, rfl, qr81, gg6⟩ := hb_l0 mz_GG gg5
      have r81 : ρ1 81 = y6.toInt := qr81
      obtain ⟨y7, L1, rfl, qr82, gg7⟩ := hb_l0 mz_GG gg6
      have r82 : ρ1 82 = y7.toInt := qr82
      obtain ⟨y8, L1, rfl, qr83, gg8⟩ := hb_l0 mz_GG gg7
      have r83 : ρ1 83 = y8.toInt := qr83
      obtain ⟨y9, L1, rfl, qr84, gg9⟩ := hb_l0 mz_GG gg8
      have r84 : ρ1 84 = y9.toInt := qr84
      obtain ⟨y10, L1, rfl, qr85, gg10⟩ := hb_l0 mz_GG gg9
      have r85 : ρ1 85 = y10.toInt := qr85
      obtain ⟨y11, L1, rfl, qr86, gg11⟩ := hb_l0 mz_GG gg10
      have r86 : ρ1 86 = y11.toInt := qr86
      obtain ⟨y12, L1, rfl, qr87, gg12⟩ := hb_l0 mz_GG gg11
      have r87 : ρ1 87 = y12.toInt := qr87
      obtain ⟨y13, L1, rfl, qr88, gg13⟩ := hb_l0 mz_GG gg12
      have r88 : ρ1 88 = y13.toInt := qr88
      obtain rfl := hb_ln mz_GG gg13
      obtain rfl := hb_pn mz_GG g2
      have r1 : ρ1 1 = x1.toInt := gr 1 (by decide +kernel)
      have r2 : ρ1 2 = x2.toInt := gr 2 (by decide +kernel)
      have r3 : ρ1 3 = x3.toInt := gr 3 (by decide +kernel)
      have r4 : ρ1 4 = x4.toInt := gr 4 (by decide +kernel)
      have r5 : ρ1 5 = x5.toInt := gr 5 (by decide +kernel)
      have r6 : ρ1 6 = x6.toInt := gr 6 (by decide +kernel)
      have r7 : ρ1 7 = x7.toInt := gr 7 (by decide +kernel)
      have r8 : ρ1 8 = x8.toInt := gr 8 (by decide +kernel)
      have r9 : ρ1 9 = x9.toInt := gr 9 (by decide +kernel)
      have r10 : ρ1 10 = x10.toInt := gr 10 (by decide +kernel)
      have r11 : ρ1 11 = x11.toInt := gr 11 (by decide +kernel)
      obtain ⟨f0, gf⟩ := hb_unc gf
      have f0 : 0 ≤ 0 + ((-1) * ρ1 1 + (1 * ρ1 76 + 0)) := f0
      rw [r1, r76] at f0
      obtain ⟨f1, gf⟩ := hb_unc gf
      have f1 : 0 ≤ 0 + (1 * ρ1 1 + ((-1) * ρ1 76 + 0)) := f1
      rw [r1, r76] at f1
      obtain ⟨f2, gf⟩ := hb_unc gf
      have f2 : 0 ≤ 0 + ((-1) * ρ1 2 + (1 * ρ1 77 + 0)) := f2
      rw [r2, r77] at f2
      obtain ⟨f3, gf⟩ := hb_unc gf
      have f3 : 0 ≤ 0 + (1 * ρ1 2 + ((-1) * ρ1 77 + 0)) := f3
      rw [r2, r77] at f3
      obtain ⟨f4, gf⟩ := hb_unc gf
      have f4 : 0 ≤ 0 + ((-1) * ρ1 3 + (1 * ρ1 78 + 0)) := f4
      rw [r3, r78] at f4
      obtain ⟨f5, gf⟩ := hb_unc gf
      have f5 : 0 ≤ 0 + (1 * ρ1 3 + ((-1) * ρ1 78 + 0)) := f5
      rw [r3, r78] at f5
      obtain ⟨f6, gf⟩ := hb_unc gf
      have f6 : 0 ≤ 0 + ((-1) * ρ1 4 + (1 * ρ1 79 + 0)) := f6
      rw [r4, r79] at f6
      obtain ⟨f7, gf⟩ := hb_unc gf
      have f7 : 0 ≤ 0 + (1 * ρ1 4 + ((-1) * ρ1 79 + 0)) := f7
      rw [r4, r79] at f7
      obtain ⟨f8, gf⟩ := hb_unc gf
      have f8 : 0 ≤ 0 + ((-1) * ρ1 5 + (1 * ρ1 80 + 0)) := f8
      rw [r5, r80] at f8
      obtain ⟨f9, gf⟩ := hb_unc gf
      have f9 : 0 ≤ 0 + (1 * ρ1 5 + ((-1) * ρ1 80 + 0)) := f9
      rw [r5, r80] at f9
      obtain ⟨f10, gf⟩ := hb_unc gf
      have f10 : 0 ≤ 0 + ((-1) * ρ1 6 + (1 * ρ1 81 + 0)) := f10
      rw [r6, r81] at f10
      obtain ⟨f11, gf⟩ := hb_unc gf
      have f11 : 0 ≤ 0 + (1 * ρ1 6 + ((-1) * ρ1 81 + 0)) := f11
      rw [r6, r81] at f11
      obtain ⟨f12, gf⟩ := hb_unc gf
      have f12 : 0 ≤ 0 + ((-1) * ρ1 7 + (1 * ρ1 82 + 0)) := f12
      rw [r7, r82] at f12
      obtain ⟨f13, gf⟩ := hb_unc gf
      have f13 : 0 ≤ 0 + (1 * ρ1 7 + ((-1) * ρ1 82 + 0)) := f13
      rw [r7, r82] at f13
      obtain ⟨f14, gf⟩ := hb_unc gf
      have f14 : 0 ≤ 0 + ((-1) * ρ1 8 + (1 * ρ1 83 + 0)) := f14
      rw [r8, r83] at f14
      obtain ⟨f15, gf⟩ := hb_unc gf
      have f15 : 0 ≤ 0 + (1 * ρ1 8 + ((-1) * ρ1 83 + 0)) := f15
      rw [r8, r83] at f15
      obtain ⟨f16, gf⟩ := hb_unc gf
      have f16 : 0 ≤ 0 + ((-1) * ρ1 9 + (1 * ρ1 84 + 0)) := f16
      rw [r9, r84] at f16
      obtain ⟨f17, gf⟩ := hb_unc gf
      have f17 : 0 ≤ 0 + (1 * ρ1 9 + ((-1) * ρ1 84 + 0)) := f17
      rw [r9, r84] at f17
      obtain ⟨f18, gf⟩ := hb_unc gf
      have f18 : 0 ≤ 0 + ((-1) * ρ1 10 + (1 * ρ1 85 + 0)) := f18
      rw [r10, r85] at f18
      obtain ⟨f19, gf⟩ := hb_unc gf
      have f19 : 0 ≤ 0 + (1 * ρ1 10 + ((-1) * ρ1 85 + 0)) := f19
      rw [r10, r85] at f19
      obtain ⟨f20, gf⟩ := hb_unc gf
      have f20 : 0 ≤ 0 + ((-1) * ρ1 11 + (1 * ρ1 86 + 0)) := f20
      rw [r11, r86] at f20
      obtain ⟨f21, gf⟩ := hb_unc gf
      have f21 : 0 ≤ 0 + (1 * ρ1 11 + ((-1) * ρ1 86 + 0)) := f21
      rw [r11, r86] at f21
      obtain ⟨f22, gf⟩ := hb_unc gf
      have f22 : 0 ≤ 0 + (1 * ρ1 87 + 0) := f22
      rw [r87] at f22
      obtain ⟨f23, gf⟩ := hb_unc gf
      have f23 : 0 ≤ 0 + ((-1) * ρ1 87 + 0) := f23
      rw [r87] at f23
      obtain ⟨f24, gf⟩ := hb_unc gf
      have f24 : 0 ≤ 0 + ((-6) * ρ1 1 + (1 * ρ1 88 + 0)) := f24
      rw [r1, r88] at f24
      obtain ⟨f25, gf⟩ := hb_unc gf
      have f25 : 0 ≤ 0 + (6 * ρ1 1 + ((-1) * ρ1 88 + 0)) := f25
      rw [r1, r88] at f25
      have hy1 : y1 = x1 := hb_inj f0 f1
      subst y1
      have hy2 : y2 = x2 := hb_inj f2 f3
      subst y2
      have hy3 : y3 = x3 := hb_inj f4 f5
      subst y3
      have hy4 : y4 = x4 := hb_inj f6 f7
      subst y4
      have hy5 : y5 = x5 := hb_inj f8 f9
      subst y5
      have hy6 : y6 = x6 := hb_inj f10 f11
      subst y6
      have hy7 : y7 = x7 := hb_inj f12 f13
      subst y7
      have hy8 : y8 = x8 := hb_inj f14 f15
      subst y8
      have hy9 : y9 = x9 := hb_inj f16 f17
      subst y9
      have hy10 : y10 = x10 := hb_inj f18 f19
      subst y10
      have hy11 : y11 = x11 := hb_inj f20 f21
      subst y11
      exact k0 M' y12 y13 gs gx gw g8 ge  (by have h1 := f22; have h2 := f23; omega) (by have h1 := f24; have h2 := f25; omega)
    rcases List.mem_cons.mp hs with rfl | hs
    · intro ρ1 L' st' M' g1 g2 gm gr gf gs gx gw g8 ge
      obtain ⟨e0, L1, rfl, n0, gg0⟩ := hb_l1 mz_GG g1
      obtain rfl : e0 = 234 := List.mem_singleton.mp n0
      obtain ⟨y1, L1, rfl, qr76, gg1⟩ := hb_l0 mz_GG gg0
      have r76 : ρ1 76 = y1.toInt := qr76
      obtain ⟨y2, L1, rfl, qr77, gg2⟩ := hb_l0 mz_GG gg1
      have r77 : ρ1 77 = y2.toInt := qr77
      obtain ⟨y3, L1, rfl, qr78, gg3⟩ := hb_l0 mz_GG gg2
      have r78 : ρ1 78 = y3.toInt := qr78
      obtain ⟨y4, L1, rfl, qr79, gg4⟩ := hb_l0 mz_GG gg3
      have r79 : ρ1 79 = y4.toInt := qr79
      obtain ⟨y5, L1, rfl, qr80, gg5⟩ := hb_l0 mz_GG gg4
      have r80 : ρ1 80 = y5.toInt := qr80
      obtain ⟨y6, L1, rfl, qr81, gg6⟩ := hb_l0 mz_GG gg5
      have r81 : ρ1 81 = y6.toInt := qr81
      obtain ⟨y7, L1, rfl, qr82, gg7⟩ := hb_l0 mz_GG gg6
      have r82 : ρ1 82 = y7.toInt := qr82
      obtain ⟨y8, L1, rfl, qr83, gg8⟩ := hb_l0 mz_GG gg7
      have r83 : ρ1 83 = y8.toInt := qr83
      obtain ⟨y9, L1, rfl, qr84, gg9⟩ := hb_l0 mz_GG gg8
      have r84 : ρ1 84 = y9.toInt := qr84
      obtain ⟨y10, L1, rfl, qr85, gg10⟩ := hb_l0 mz_GG gg9
      have r85 : ρ1 85 = y10.toInt := qr85
      obtain ⟨y11, L1, rfl, qr86, gg11⟩ := hb_l0 mz_GG gg10
      have r86 : ρ1 86 = y11.toInt := qr86
      obtain ⟨y12, L1, rfl, qr87, gg12⟩ := hb_l0 mz_GG gg11
      have r87 : ρ1 87 = y12.toInt := qr87
      obtain ⟨y13, L1, rfl, qr88, gg13⟩ := hb_l0 mz_GG gg12
      have r88 : ρ1 88 = y13.toInt := qr88
      obtain rfl := hb_ln mz_GG gg13
      obtain rfl := hb_pn mz_GG g2
      have r1 : ρ1 1 = x1.toInt := gr 1 (by decide +kernel)
      have r2 : ρ1 2 = x2.toInt := gr 2 (by decide +kernel)
      have r3 : ρ1 3 = x3.toInt := gr 3 (by decide +kernel)
      have r4 : ρ1 4 = x4.toInt := gr 4 (by decide +kernel)
      have r5 : ρ1 5 = x5.toInt := gr 5 (by decide +kernel)
      have r6 : ρ1 6 = x6.toInt := gr 6 (by decide +kernel)
      have r7 : ρ1 7 = x7.toInt := gr 7 (by decide +kernel)
      have r8 : ρ1 8 = x8.toInt := gr 8 (by decide +kernel)
      have r9 : ρ1 9 = x9.toInt := gr 9 (by decide +kernel)
      have r10 : ρ1 10 = x10.toInt := gr 10 (by decide +kernel)
      have r11 : ρ1 11 = x11.toInt := gr 11 (by decide +kernel)
      obtain ⟨f0, gf⟩ := hb_unc gf
      have f0 : 0 ≤ 0 + ((-1) * ρ1 1 + (1 * ρ1 76 + 0)) := f0
      rw [r1, r76] at f0
      obtain ⟨f1, gf⟩ := hb_unc gf
      have f1 : 0 ≤ 0 + (1 * ρ1 1 + ((-1) * ρ1 76 + 0)) := f1
      rw [r1, r76] at f1
      obtain ⟨f2, gf⟩ := hb_unc gf
      have f2 : 0 ≤ 0 + ((-1) * ρ1 2 + (1 * ρ1 77 + 0)) := f2
      rw [r2, r77] at f2
      obtain ⟨f3, gf⟩ := hb_unc gf
      have f3 : 0 ≤ 0 + (1 * ρ1 2 + ((-1) * ρ1 77 + 0)) := f3
      rw [r2, r77] at f3
      obtain ⟨f4, gf⟩ := hb_unc gf
      have f4 : 0 ≤ 0 + ((-1) * ρ1 3 + (1 * ρ1 78 + 0)) := f4
      rw [r3, r78] at f4
      obtain ⟨f5, gf⟩ := hb_unc gf
      have f5 : 0 ≤ 0 + (1 * ρ1 3 + ((-1) * ρ1 78 + 0)) := f5
      rw [r3, r78] at f5
      obtain ⟨f6, gf⟩ := hb_unc gf
      have f6 : 0 ≤ 0 + ((-1) * ρ1 4 + (1 * ρ1 79 + 0)) := f6
      rw [r4, r79] at f6
      obtain ⟨f7, gf⟩ := hb_unc gf
      have f7 : 0 ≤ 0 + (1 * ρ1 4 + ((-1) * ρ1 79 + 0)) := f7
      rw [r4, r79] at f7
      obtain ⟨f8, gf⟩ := hb_unc gf
      have f8 : 0 ≤ 0 + ((-1) * ρ1 5 + (1 * ρ1 80 + 0)) := f8
      rw [r5, r80] at f8
      obtain ⟨f9, gf⟩ := hb_unc gf
      have f9 : 0 ≤ 0 + (1 * ρ1 5 + ((-1) * ρ1 80 + 0)) := f9
      rw [r5, r80] at f9
      obtain ⟨f10, gf⟩ := hb_unc gf
      have f10 : 0 ≤ 0 + ((-1) * ρ1 6 + (1 * ρ1 81 + 0)) := f10
      rw [r6, r81] at f10
      obtain ⟨f11, gf⟩ := hb_unc gf
      have f11 : 0 ≤ 0 + (1 * ρ1 6 + ((-1) * ρ1 81 + 0)) := f11
      rw [r6, r81] at f11
      obtain ⟨f12, gf⟩ := hb_unc gf
      have f12 : 0 ≤ 0 + ((-1) * ρ1 7 + (1 * ρ1 82 + 0)) := f12
      rw [r7, r82] at f12
      obtain ⟨f13, gf⟩ := hb_unc gf
      have f13 : 0 ≤ 0 + (1 * ρ1 7 + ((-1) * ρ1 82 + 0)) := f13
      rw [r7, r82] at f13
      obtain ⟨f14, gf⟩ := hb_unc gf
      have f14 : 0 ≤ 0 + ((-1) * ρ1 8 + (1 * ρ1 83 + 0)) := f14
      rw [r8, r83] at f14
      obtain ⟨f15, gf⟩ := hb_unc gf
      have f15 : 0 ≤ 0 + (1 * ρ1 8 + ((-1) * ρ1 83 + 0)) := f15
      rw [r8, r83] at f15
      obtain ⟨f16, gf⟩ := hb_unc gf
      have f16 : 0 ≤ 0 + ((-1) * ρ1 9 + (1 * ρ1 84 + 0)) := f16
      rw [r9, r84] at f16
      obtain ⟨f17, gf⟩ := hb_unc gf
      have f17 : 0 ≤ 0 + (1 * ρ1 9 + ((-1) * ρ1 84 + 0)) := f17
      rw [r9, r84] at f17
      obtain ⟨f18, gf⟩ := hb_unc gf
      have f18 : 0 ≤ 0 + ((-1) * ρ1 10 + (1 * ρ1 85 + 0)) := f18
      rw [r10, r85] at f18
      obtain ⟨f19, gf⟩ := hb_unc gf
      have f19 : 0 ≤ 0 + (1 * ρ1 10 + ((-1) * ρ1 85 + 0)) := f19
      rw [r10, r85] at f19
      obtain ⟨f20, gf⟩ := hb_unc gf
      have f20 : 0 ≤ 0 + ((-1) * ρ1 11 + (1 * ρ1 86 + 0)) := f20
      rw [r11, r86] at f20
      obtain ⟨f21, gf⟩ := hb_unc gf
      have f21 : 0 ≤ 0 + (1 * ρ1 11 + ((-1) * ρ1 86 + 0)) := f21
      rw [r11, r86] at f21
      obtain ⟨f22, gf⟩ := hb_unc gf
      have f22 : 0 ≤ 0 + (1 * ρ1 87 + 0) := f22
      rw [r87] at f22
      obtain ⟨f23, gf⟩ := hb_unc gf
      have f23 : 0 ≤ 0 + ((-1) * ρ1 87 + 0) := f23
      rw [r87] at f23
      obtain ⟨f24, gf⟩ := hb_unc gf
      have f24 : 0 ≤ 0 + ((-6) * ρ1 1 + (1 * ρ1 88 + 0)) := f24
      rw [r1, r88] at f24
      obtain ⟨f25, gf⟩ := hb_unc gf
      have f25 : 0 ≤ 0 + (6 * ρ1 1 + ((-1) * ρ1 88 + 0)) := f25
      rw [r1, r88] at f25
      obtain ⟨f26, gf⟩ := hb_unc gf
      have f26 : 0 ≤ -1 + ((-1) * ρ1 4 + (1 * ρ1 11 + 0)) := f26
      rw [r4, r11] at f26
      have hy1 : y1 = x1 := hb_inj f0 f1
      subst y1
      have hy2 : y2 = x2 := hb_inj f2 f3
      subst y2
      have hy3 : y3 = x3 := hb_inj f4 f5
      subst y3
      have hy4 : y4 = x4 := hb_inj f6 f7
      subst y4
      have hy5 : y5 = x5 := hb_inj f8 f9
      subst y5
      have hy6 : y6 = x6 := hb_inj f10 f11
      subst y6
      have hy7 : y7 = x7 := hb_inj f12 f13
      subst y7
      have hy8 : y8 = x8 := hb_inj f14 f15
      subst y8
      have hy9 : y9 = x9 := hb_inj f16 f17
      subst y9
      have hy10 : y10 = x10 := hb_inj f18 f19
      subst y10
      have hy11 : y11 = x11 := hb_inj f20 f21
      subst y11
      exact k1 M' y12 y13 gs gx gw g8 ge  (by have h1 := f22; have h2 := f23; omega) (by have h1 := f24; have h2 := f25; omega) (by have h1 := f26; omega)
    rcases List.mem_cons.mp hs with rfl | hs
    · intro ρ1 L' st' M' g1 g2 gm gr gf gs gx gw g8 ge
      obtain ⟨e0, L1, rfl, n0, gg0⟩ := hb_l1 mz_GG g1
      obtain rfl : e0 = 234 := List.mem_singleton.mp n0
      obtain ⟨y1, L1, rfl, qr76, gg1⟩ := hb_l0 mz_GG gg0
      have r76 : ρ1 76 = y1.toInt := qr76
      obtain ⟨y2, L1, rfl, qr77, gg2⟩ := hb_l0 mz_GG gg1
      have r77 : ρ1 77 = y2.toInt := qr77
      obtain ⟨y3, L1, rfl, qr78, gg3⟩ := hb_l0 mz_GG gg2
      have r78 : ρ1 78 = y3.toInt := qr78
      obtain ⟨y4, L1, rfl, qr79, gg4⟩ := hb_l0 mz_GG gg3
      have r79 : ρ1 79 = y4.toInt := qr79
      obtain ⟨y5, L1, rfl, qr80, gg5⟩ := hb_l0 mz_GG gg4
      have r80 : ρ1 80 = y5.toInt := qr80
      obtain ⟨y6, L1, rfl, qr81, gg6⟩ := hb_l0 mz_GG gg5
      have r81 : ρ1 81 = y6.toInt := qr81
      obtain ⟨y7, L1, rfl, qr82, gg7⟩ := hb_l0 mz_GG gg6
      have r82 : ρ1 82 = y7.toInt := qr82
      obtain ⟨y8, L1, rfl, qr83, gg8⟩ := hb_l0 mz_GG gg7
      have r83 : ρ1 83 = y8.toInt := qr83
      obtain ⟨y9, L1, rfl, qr84, gg9⟩ := hb_l0 mz_GG gg8
      have r84 : ρ1 84 = y9.toInt := qr84
      obtain ⟨y10, L1, rfl, qr85, gg10⟩ := hb_l0 mz_GG gg9
      have r85 : ρ1 85 = y10.toInt := qr85
      obtain ⟨y11, L1, rfl, qr86, gg11⟩ := hb_l0 mz_GG gg10
      have r86 : ρ1 86 = y11.toInt := qr86
      obtain ⟨y12, L1, rfl, qr87, gg12⟩ := hb_l0 mz_GG gg11
      have r87 : ρ1 87 = y12.toInt := qr87
      obtain ⟨y13, L1, rfl, qr88, gg13⟩ := hb_l0 mz_GG gg12
      have r88 : ρ1 88 = y13.toInt := qr88
      obtain rfl := hb_ln mz_GG gg13
      obtain rfl := hb_pn mz_GG g2
      have r1 : ρ1 1 = x1.toInt := gr 1 (by decide +kernel)
      have r2 : ρ1 2 = x2.toInt := gr 2 (by decide +kernel)
      have r3 : ρ1 3 = x3.toInt := gr 3 (by decide +kernel)
      have r4 : ρ1 4 = x4.toInt := gr 4 (by decide +kernel)
      have r5 : ρ1 5 = x5.toInt := gr 5 (by decide +kernel)
      have r6 : ρ1 6 = x6.toInt := gr 6 (by decide +kernel)
      have r7 : ρ1 7 = x7.toInt := gr 7 (by decide +kernel)
      have r8 : ρ1 8 = x8.toInt := gr 8 (by decide +kernel)
      have r9 : ρ1 9 = x9.toInt := gr 9 (by decide +kernel)
      have r10 : ρ1 10 = x10.toInt := gr 10 (by decide +kernel)
      have r11 : ρ1 11 = x11.toInt := gr 11 (by decide +kernel)
      obtain ⟨f0, gf⟩ := hb_unc gf
      have f0 : 0 ≤ 0 + ((-1) * ρ1 1 + (1 * ρ1 76 + 0)) := f0
      rw [r1, r76] at f0
      obtain ⟨f1, gf⟩ := hb_unc gf
      have f1 : 0 ≤ 0 + (1 * ρ1 1 + ((-1) * ρ1 76 + 0)) := f1
      rw [r1, r76] at f1
      obtain ⟨f2, gf⟩ := hb_unc gf
      have f2 : 0 ≤ 0 + ((-1) * ρ1 2 + (1 * ρ1 77 + 0)) := f2
      rw [r2, r77] at f2
      obtain ⟨f3, gf⟩ := hb_unc gf
      have f3 : 0 ≤ 0 + (1 * ρ1 2 + ((-1) * ρ1 77 + 0)) := f3
      rw [r2, r77] at f3
      obtain ⟨f4, gf⟩ := hb_unc gf
      have f4 : 0 ≤ 0 + ((-1) * ρ1 3 + (1 * ρ1 78 + 0)) := f4
      rw [r3, r78] at f4
      obtain ⟨f5, gf⟩ := hb_unc gf
      have f5 : 0 ≤ 0 + (1 * ρ1 3 + ((-1) * ρ1 78 + 0)) := f5
      rw [r3, r78] at f5
      obtain ⟨f6, gf⟩ := hb_unc gf
      have f6 : 0 ≤ 0 + ((-1) * ρ1 4 + (1 * ρ1 79 + 0)) := f6
      rw [r4, r79] at f6
      obtain ⟨f7, gf⟩ := hb_unc gf
      have f7 : 0 ≤ 0 + (1 * ρ1 4 + ((-1) * ρ1 79 + 0)) := f7
      rw [r4, r79] at f7
      obtain ⟨f8, gf⟩ := hb_unc gf
      have f8 : 0 ≤ 0 + ((-1) * ρ1 5 + (1 * ρ1 80 + 0)) := f8
      rw [r5, r80] at f8
      obtain ⟨f9, gf⟩ := hb_unc gf
      have f9 : 0 ≤ 0 + (1 * ρ1 5 + ((-1) * ρ1 80 + 0)) := f9
      rw [r5, r80] at f9
      obtain ⟨f10, gf⟩ := hb_unc gf
      have f10 : 0 ≤ 0 + ((-1) * ρ1 6 + (1 * ρ1 81 + 0)) := f10
      rw [r6, r81] at f10
      obtain ⟨f11, gf⟩ := hb_unc gf
      have f11 : 0 ≤ 0 + (1 * ρ1 6 + ((-1) * ρ1 81 + 0)) := f11
      rw [r6, r81] at f11
      obtain ⟨f12, gf⟩ := hb_unc gf
      have f12 : 0 ≤ 0 + ((-1) * ρ1 7 + (1 * ρ1 82 + 0)) := f12
      rw [r7, r82] at f12
      obtain ⟨f13, gf⟩ := hb_unc gf
      have f13 : 0 ≤ 0 + (1 * ρ1 7 + ((-1) * ρ1 82 + 0)) := f13
      rw [r7, r82] at f13
      obtain ⟨f14, gf⟩ := hb_unc gf
      have f14 : 0 ≤ 0 + ((-1) * ρ1 8 + (1 * ρ1 83 + 0)) := f14
      rw [r8, r83] at f14
      obtain ⟨f15, gf⟩ := hb_unc gf
      have f15 : 0 ≤ 0 + (1 * ρ1 8 + ((-1) * ρ1 83 + 0)) := f15
      rw [r8, r83] at f15
      obtain ⟨f16, gf⟩ := hb_unc gf
      have f16 : 0 ≤ 0 + ((-1) * ρ1 9 + (1 * ρ1 84 + 0)) := f16
      rw [r9, r84] at f16
      obtain ⟨f17, gf⟩ := hb_unc gf
      have f17 : 0 ≤ 0 + (1 * ρ1 9 + ((-1) * ρ1 84 + 0)) := f17
      rw [r9, r84] at f17
      obtain ⟨f18, gf⟩ := hb_unc gf
      have f18 : 0 ≤ 0 + ((-1) * ρ1 10 + (1 * ρ1 85 + 0)) := f18
      rw [r10, r85] at f18
      obtain ⟨f19, gf⟩ := hb_unc gf
      have f19 : 0 ≤ 0 + (1 * ρ1 10 + ((-1) * ρ1 85 + 0)) := f19
      rw [r10, r85] at f19
      obtain ⟨f20, gf⟩ := hb_unc gf
      have f20 : 0 ≤ 0 + ((-1) * ρ1 11 + (1 * ρ1 86 + 0)) := f20
      rw [r11, r86] at f20
      obtain ⟨f21, gf⟩ := hb_unc gf
      have f21 : 0 ≤ 0 + (1 * ρ1 11 + ((-1) * ρ1 86 + 0)) := f21
      rw [r11, r86] at f21
      obtain ⟨f22, gf⟩ := hb_unc gf
      have f22 : 0 ≤ 0 + (1 * ρ1 87 + 0) := f22
      rw [r87] at f22
      obtain ⟨f23, gf⟩ := hb_unc gf
      have f23 : 0 ≤ 0 + ((-1) * ρ1 87 + 0) := f23
      rw [r87] at f23
      obtain ⟨f24, gf⟩ := hb_unc gf
      have f24 : 0 ≤ 0 + ((-6) * ρ1 1 + (1 * ρ1 88 + 0)) := f24
      rw [r1, r88] at f24
      obtain ⟨f25, gf⟩ := hb_unc gf
      have f25 : 0 ≤ 0 + (6 * ρ1 1 + ((-1) * ρ1 88 + 0)) := f25
      rw [r1, r88] at f25
      obtain ⟨f26, gf⟩ := hb_unc gf
      have f26 : 0 ≤ 0 + (1 * ρ1 4 + ((-1) * ρ1 11 + 0)) := f26
      rw [r4, r11] at f26
      have hy1 : y1 = x1 := hb_inj f0 f1
      subst y1
      have hy2 : y2 = x2 := hb_inj f2 f3
      subst y2
      have hy3 : y3 = x3 := hb_inj f4 f5
      subst y3
      have hy4 : y4 = x4 := hb_inj f6 f7
      subst y4
      have hy5 : y5 = x5 := hb_inj f8 f9
      subst y5
      have hy6 : y6 = x6 := hb_inj f10 f11
      subst y6
      have hy7 : y7 = x7 := hb_inj f12 f13
      subst y7
      have hy8 : y8 = x8 := hb_inj f14 f15
      subst y8
      have hy9 : y9 = x9 := hb_inj f16 f17
      subst y9
      have hy10 : y10 = x10 := hb_inj f18 f19
      subst y10
      have hy11 : y11 = x11 := hb_inj f20 f21
      subst y11
      exact k2 M' y12 y13 gs gx gw g8 ge  (by have h1 := f22; have h2 := f23; omega) (by have h1 := f24; have h2 := f25; omega) (by have h1 := f26; omega)
    rcases List.mem_cons.mp hs with rfl | hs
    · intro ρ1 L' st' M' g1 g2 gm gr gf gs gx gw g8 ge
      obtain ⟨e0, L1, rfl, n0, gg0⟩ := hb_l1 mz_GG g1
      obtain rfl : e0 = 234 := List.mem_singleton.mp n0
      obtain ⟨y1, L1, rfl, qr76, gg1⟩ := hb_l0 mz_GG gg0
      have r76 : ρ1 76 = y1.toInt := qr76
      obtain ⟨y2, L1, rfl, qr77, gg2⟩ := hb_l0 mz_GG gg1
      have r77 : ρ1 77 = y2.toInt := qr77
      obtain ⟨y3, L1, rfl, qr78, gg3⟩ := hb_l0 mz_GG gg2
      have r78 : ρ1 78 = y3.toInt := qr78
      obtain ⟨y4, L1, rfl, qr79, gg4⟩ := hb_l0 mz_GG gg3
      have r79 : ρ1 79 = y4.toInt := qr79
      obtain ⟨y5, L1, rfl, qr80, gg5⟩ := hb_l0 mz_GG gg4
      have r80 : ρ1 80 = y5.toInt := qr80
      obtain ⟨y6, L1, rfl, qr81, gg6⟩ := hb_l0 mz_GG gg5
      have r81 : ρ1 81 = y6.toInt := qr81
      obtain ⟨y7, L1, rfl, qr82, gg7⟩ := hb_l0 mz_GG gg6
      have r82 : ρ1 82 = y7.toInt := qr82
      obtain ⟨y8, L1, rfl, qr83, gg8⟩ := hb_l0 mz_GG gg7
      have r83 : ρ1 83 = y8.toInt := qr83
      obtain ⟨y9, L1, rfl, qr84, gg9⟩ := hb_l0 mz_GG gg8
      have r84 : ρ1 84 = y9.toInt := qr84
      obtain ⟨y10, L1, rfl, qr85, gg10⟩ := hb_l0 mz_GG gg9
      have r85 : ρ1 85 = y10.toInt := qr85
      obtain ⟨y11, L1, rfl, qr86, gg11⟩ := hb_l0 mz_GG gg10
      have r86 : ρ1 86 = y11.toInt := qr86
      obtain ⟨y12, L1, rfl, qr87, gg12⟩ := hb_l0 mz_GG gg11
      have r87 : ρ1 87 = y12.toInt := qr87
      obtain ⟨y13, L1, rfl, qr88, gg13⟩ := hb_l0 mz_GG gg12
      have r88 : ρ1 88 = y13.toInt := qr88
      obtain rfl := hb_ln mz_GG gg13
      obtain rfl := hb_pn mz_GG g2
      have r1 : ρ1 1 = x1.toInt := gr 1 (by decide +kernel)
      have r2 : ρ1 2 = x2.toInt := gr 2 (by decide +kernel)
      have r3 : ρ1 3 = x3.toInt := gr 3 (by decide +kernel)
      have r4 : ρ1 4 = x4.toInt := gr 4 (by decide +kernel)
      have r5 : ρ1 5 = x5.toInt := gr 5 (by decide +kernel)
      have r6 : ρ1 6 = x6.toInt := gr 6 (by decide +kernel)
      have r7 : ρ1 7 = x7.toInt := gr 7 (by decide +kernel)
      have r8 : ρ1 8 = x8.toInt := gr 8 (by decide +kernel)
      have r9 : ρ1 9 = x9.toInt := gr 9 (by decide +kernel)
      have r10 : ρ1 10 = x10.toInt := gr 10 (by decide +kernel)
      have r11 : ρ1 11 = x11.toInt := gr 11 (by decide +kernel)
      obtain ⟨f0, gf⟩ := hb_unc gf
      have f0 : 0 ≤ 0 + ((-1) * ρ1 1 + (1 * ρ1 76 + 0)) := f0
      rw [r1, r76] at f0
      obtain ⟨f1, gf⟩ := hb_unc gf
      have f1 : 0 ≤ 0 + (1 * ρ1 1 + ((-1) * ρ1 76 + 0)) := f1
      rw [r1, r76] at f1
      obtain ⟨f2, gf⟩ := hb_unc gf
      have f2 : 0 ≤ 0 + ((-1) * ρ1 2 + (1 * ρ1 77 + 0)) := f2
      rw [r2, r77] at f2
      obtain ⟨f3, gf⟩ := hb_unc gf
      have f3 : 0 ≤ 0 + (1 * ρ1 2 + ((-1) * ρ1 77 + 0)) := f3
      rw [r2, r77] at f3
      obtain ⟨f4, gf⟩ := hb_unc gf
      have f4 : 0 ≤ 0 + ((-1) * ρ1 3 + (1 * ρ1 78 + 0)) := f4
      rw [r3, r78] at f4
      obtain ⟨f5, gf⟩ := hb_unc gf
      have f5 : 0 ≤ 0 + (1 * ρ1 3 + ((-1) * ρ1 78 + 0)) := f5
      rw [r3, r78] at f5
      obtain ⟨f6, gf⟩ := hb_unc gf
      have f6 : 0 ≤ 0 + ((-1) * ρ1 4 + (1 * ρ1 79 + 0)) := f6
      rw [r4, r79] at f6
      obtain ⟨f7, gf⟩ := hb_unc gf
      have f7 : 0 ≤ 0 + (1 * ρ1 4 + ((-1) * ρ1 79 + 0)) := f7
      rw [r4, r79] at f7
      obtain ⟨f8, gf⟩ := hb_unc gf
      have f8 : 0 ≤ 0 + ((-1) * ρ1 5 + (1 * ρ1 80 + 0)) := f8
      rw [r5, r80] at f8
      obtain ⟨f9, gf⟩ := hb_unc gf
      have f9 : 0 ≤ 0 + (1 * ρ1 5 + ((-1) * ρ1 80 + 0)) := f9
      rw [r5, r80] at f9
      obtain ⟨f10, gf⟩ := hb_unc gf
      have f10 : 0 ≤ 0 + ((-1) * ρ1 6 + (1 * ρ1 81 + 0)) := f10
      rw [r6, r81] at f10
      obtain ⟨f11, gf⟩ := hb_unc gf
      have f11 : 0 ≤ 0 + (1 * ρ1 6 + ((-1) * ρ1 81 + 0)) := f11
      rw [r6, r81] at f11
      obtain ⟨f12, gf⟩ := hb_unc gf
      have f12 : 0 ≤ 0 + ((-1) * ρ1 7 + (1 * ρ1 82 + 0)) := f12
      rw [r7, r82] at f12
      obtain ⟨f13, gf⟩ := hb_unc gf
      have f13 : 0 ≤ 0 + (1 * ρ1 7 + ((-1) * ρ1 82 + 0)) := f13
      rw [r7, r82] at f13
      obtain ⟨f14, gf⟩ := hb_unc gf
      have f14 : 0 ≤ 0 + ((-1) * ρ1 8 + (1 * ρ1 83 + 0)) := f14
      rw [r8, r83] at f14
      obtain ⟨f15, gf⟩ := hb_unc gf
      have f15 : 0 ≤ 0 + (1 * ρ1 8 + ((-1) * ρ1 83 + 0)) := f15
      rw [r8, r83] at f15
      obtain ⟨f16, gf⟩ := hb_unc gf
      have f16 : 0 ≤ 0 + ((-1) * ρ1 9 + (1 * ρ1 84 + 0)) := f16
      rw [r9, r84] at f16
      obtain ⟨f17, gf⟩ := hb_unc gf
      have f17 : 0 ≤ 0 + (1 * ρ1 9 + ((-1) * ρ1 84 + 0)) := f17
      rw [r9, r84] at f17
      obtain ⟨f18, gf⟩ := hb_unc gf
      have f18 : 0 ≤ 0 + ((-1) * ρ1 10 + (1 * ρ1 85 + 0)) := f18
      rw [r10, r85] at f18
      obtain ⟨f19, gf⟩ := hb_unc gf
      have f19 : 0 ≤ 0 + (1 * ρ1 10 + ((-1) * ρ1 85 + 0)) := f19
      rw [r10, r85] at f19
      obtain ⟨f20, gf⟩ := hb_unc gf
      have f20 : 0 ≤ 0 + ((-1) * ρ1 11 + (1 * ρ1 86 + 0)) := f20
      rw [r11, r86] at f20
      obtain ⟨f21, gf⟩ := hb_unc gf
      have f21 : 0 ≤ 0 + (1 * ρ1 11 + ((-1) * ρ1 86 + 0)) := f21
      rw [r11, r86] at f21
      obtain ⟨f22, gf⟩ := hb_unc gf
      have f22 : 0 ≤ 0 + (1 * ρ1 87 + 0) := f22
      rw [r87] at f22
      obtain ⟨f23, gf⟩ := hb_unc gf
      have f23 : 0 ≤ 0 + ((-1) * ρ1 87 + 0) := f23
      rw [r87] at f23
      obtain ⟨f24, gf⟩ := hb_unc gf
      have f24 : 0 ≤ 0 + ((-6) * ρ1 1 + (1 * ρ1 88 + 0)) := f24
      rw [r1, r88] at f24
      obtain ⟨f25, gf⟩ := hb_unc gf
      have f25 : 0 ≤ 0 + (6 * ρ1 1 + ((-1) * ρ1 88 + 0)) := f25
      rw [r1, r88] at f25
      obtain ⟨f26, gf⟩ := hb_unc gf
      have f26 : 0 ≤ 0 + (1 * ρ1 4 + ((-1) * ρ1 11 + 0)) := f26
      rw [r4, r11] at f26
      have hy1 : y1 = x1 := hb_inj f0 f1
      subst y1
      have hy2 : y2 = x2 := hb_inj f2 f3
      subst y2
      have hy3 : y3 = x3 := hb_inj f4 f5
      subst y3
      have hy4 : y4 = x4 := hb_inj f6 f7
      subst y4
      have hy5 : y5 = x5 := hb_inj f8 f9
      subst y5
      have hy6 : y6 = x6 := hb_inj f10 f11
      subst y6
      have hy7 : y7 = x7 := hb_inj f12 f13
      subst y7
      have hy8 : y8 = x8 := hb_inj f14 f15
      subst y8
      have hy9 : y9 = x9 := hb_inj f16 f17
      subst y9
      have hy10 : y10 = x10 := hb_inj f18 f19
      subst y10
      have hy11 : y11 = x11 := hb_inj f20 f21
      subst y11
      exact k3 M' y12 y13 gs gx gw g8 ge  (by have h1 := f22; have h2 := f23; omega) (by have h1 := f24; have h2 := f25; omega) (by have h1 := f26; omega)
    rcases List.mem_cons.mp hs with rfl | hs
    · intro ρ1 L' st' M' g1 g2 gm gr gf gs gx gw g8 ge
      obtain ⟨e0, L1, rfl, n0, gg0⟩ := hb_l1 mz_GG g1
      obtain rfl : e0 = 234 := List.mem_singleton.mp n0
      obtain ⟨y1, L1, rfl, qr76, gg1⟩ := hb_l0 mz_GG gg0
      have r76 : ρ1 76 = y1.toInt := qr76
      obtain ⟨y2, L1, rfl, qr77, gg2⟩ := hb_l0 mz_GG gg1
      have r77 : ρ1 77 = y2.toInt := qr77
      obtain ⟨y3, L1, rfl, qr78, gg3⟩ := hb_l0 mz_GG gg2
      have r78 : ρ1 78 = y3.toInt := qr78
      obtain ⟨y4, L1, rfl, qr79, gg4⟩ := hb_l0 mz_GG gg3
      have r79 : ρ1 79 = y4.toInt := qr79
      obtain ⟨y5, L1, rfl, qr80, gg5⟩ := hb_l0 mz_GG gg4
      have r80 : ρ1 80 = y5.toInt := qr80
      obtain ⟨y6, L1, rfl, qr81, gg6⟩ := hb_l0 mz_GG gg5
      have r81 : ρ1 81 = y6.toInt := qr81
      obtain ⟨y7, L1, rfl, qr82, gg7⟩ := hb_l0 mz_GG gg6
      have r82 : ρ1 82 = y7.toInt := qr82
      obtain ⟨y8, L1, rfl, qr83, gg8⟩ := hb_l0 mz_GG gg7
      have r83 : ρ1 83 = y8.toInt := qr83
      obtain ⟨y9, L1, rfl, qr84, gg9⟩ := hb_l0 mz_GG gg8
      have r84 : ρ1 84 = y9.toInt := qr84
      obtain ⟨y10, L1, rfl, qr85, gg10⟩ := hb_l0 mz_GG gg9
      have r85 : ρ1 85 = y10.toInt := qr85
      obtain ⟨y11, L1, rfl, qr86, gg11⟩ := hb_l0 mz_GG gg10
      have r86 : ρ1 86 = y11.toInt := qr86
      obtain ⟨y12, L1, rfl, qr87, gg12⟩ := hb_l0 mz_GG gg11
      have r87 : ρ1 87 = y12.toInt := qr87
      obtain ⟨y13, L1, rfl, qr88, gg13⟩ := hb_l0 mz_GG gg12
      have r88 : ρ1 88 = y13.toInt := qr88
      obtain rfl := hb_ln mz_GG gg13
      obtain rfl := hb_pn mz_GG g2
      have r1 : ρ1 1 = x1.toInt := gr 1 (by decide +kernel)
      have r2 : ρ1 2 = x2.toInt := gr 2 (by decide +kernel)
      have r3 : ρ1 3 = x3.toInt := gr 3 (by decide +kernel)
      have r4 : ρ1 4 = x4.toInt := gr 4 (by decide +kernel)
      have r5 : ρ1 5 = x5.toInt := gr 5 (by decide +kernel)
      have r6 : ρ1 6 = x6.toInt := gr 6 (by decide +kernel)
      have r7 : ρ1 7 = x7.toInt := gr 7 (by decide +kernel)
      have r8 : ρ1 8 = x8.toInt := gr 8 (by decide +kernel)
      have r9 : ρ1 9 = x9.toInt := gr 9 (by decide +kernel)
      have r10 : ρ1 10 = x10.toInt := gr 10 (by decide +kernel)
      have r11 : ρ1 11 = x11.toInt := gr 11 (by decide +kernel)
      obtain ⟨f0, gf⟩ := hb_unc gf
      have f0 : 0 ≤ 0 + ((-1) * ρ1 1 + (1 * ρ1 76 + 0)) := f0
      rw [r1, r76] at f0
      obtain ⟨f1, gf⟩ := hb_unc gf
      have f1 : 0 ≤ 0 + (1 * ρ1 1 + ((-1) * ρ1 76 + 0)) := f1
      rw [r1, r76] at f1
      obtain ⟨f2, gf⟩ := hb_unc gf
      have f2 : 0 ≤ 0 + ((-1) * ρ1 2 + (1 * ρ1 77 + 0)) := f2
      rw [r2, r77] at f2
      obtain ⟨f3, gf⟩ := hb_unc gf
      have f3 : 0 ≤ 0 + (1 * ρ1 2 + ((-1) * ρ1 77 + 0)) := f3
      rw [r2, r77] at f3
      obtain ⟨f4, gf⟩ := hb_unc gf
      have f4 : 0 ≤ 0 + ((-1) * ρ1 3 + (1 * ρ1 78 + 0)) := f4
      rw [r3, r78] at f4
      obtain ⟨f5, gf⟩ := hb_unc gf
      have f5 : 0 ≤ 0 + (1 * ρ1 3 + ((-1) * ρ1 78 + 0)) := f5
      rw [r3, r78] at f5
      obtain ⟨f6, gf⟩ := hb_unc gf
      have f6 : 0 ≤ 0 + ((-1) * ρ1 4 + (1 * ρ1 79 + 0)) := f6
      rw [r4, r79] at f6
      obtain ⟨f7, gf⟩ := hb_unc gf
      have f7 : 0 ≤ 0 + (1 * ρ1 4 + ((-1) * ρ1 79 + 0)) := f7
      rw [r4, r79] at f7
      obtain ⟨f8, gf⟩ := hb_unc gf
      have f8 : 0 ≤ 0 + ((-1) * ρ1 5 + (1 * ρ1 80 + 0)) := f8
      rw [r5, r80] at f8
      obtain ⟨f9, gf⟩ := hb_unc gf
      have f9 : 0 ≤ 0 + (1 * ρ1 5 + ((-1) * ρ1 80 + 0)) := f9
      rw [r5, r80] at f9
      obtain ⟨f10, gf⟩ := hb_unc gf
      have f10 : 0 ≤ 0 + ((-1) * ρ1 6 + (1 * ρ1 81 + 0)) := f10
      rw [r6, r81] at f10
      obtain ⟨f11, gf⟩ := hb_unc gf
      have f11 : 0 ≤ 0 + (1 * ρ1 6 + ((-1) * ρ1 81 + 0)) := f11
      rw [r6, r81] at f11
      obtain ⟨f12, gf⟩ := hb_unc gf
      have f12 : 0 ≤ 0 + ((-1) * ρ1 7 + (1 * ρ1 82 + 0)) := f12
      rw [r7, r82] at f12
      obtain ⟨f13, gf⟩ := hb_unc gf
      have f13 : 0 ≤ 0 + (1 * ρ1 7 + ((-1) * ρ1 82 + 0)) := f13
      rw [r7, r82] at f13
      obtain ⟨f14, gf⟩ := hb_unc gf
      have f14 : 0 ≤ 0 + ((-1) * ρ1 8 + (1 * ρ1 83 + 0)) := f14
      rw [r8, r83] at f14
      obtain ⟨f15, gf⟩ := hb_unc gf
      have f15 : 0 ≤ 0 + (1 * ρ1 8 + ((-1) * ρ1 83 + 0)) := f15
      rw [r8, r83] at f15
      obtain ⟨f16, gf⟩ := hb_unc gf
      have f16 : 0 ≤ 0 + ((-1) * ρ1 9 + (1 * ρ1 84 + 0)) := f16
      rw [r9, r84] at f16
      obtain ⟨f17, gf⟩ := hb_unc gf
      have f17 : 0 ≤ 0 + (1 * ρ1 9 + ((-1) * ρ1 84 + 0)) := f17
      rw [r9, r84] at f17
      obtain ⟨f18, gf⟩ := hb_unc gf
      have f18 : 0 ≤ 0 + ((-1) * ρ1 10 + (1 * ρ1 85 + 0)) := f18
      rw [r10, r85] at f18
      obtain ⟨f19, gf⟩ := hb_unc gf
      have f19 : 0 ≤ 0 + (1 * ρ1 10 + ((-1) * ρ1 85 + 0)) := f19
      rw [r10, r85] at f19
      obtain ⟨f20, gf⟩ := hb_unc gf
      have f20 : 0 ≤ 0 + ((-1) * ρ1 11 + (1 * ρ1 86 + 0)) := f20
      rw [r11, r86] at f20
      obtain ⟨f21, gf⟩ := hb_unc gf
      have f21 : 0 ≤ 0 + (1 * ρ1 11 + ((-1) * ρ1 86 + 0)) := f21
      rw [r11, r86] at f21
      obtain ⟨f22, gf⟩ := hb_unc gf
      have f22 : 0 ≤ -1 + (1 * ρ1 87 + 0) := f22
      rw [r87] at f22
      obtain ⟨f23, gf⟩ := hb_unc gf
      have f23 : 0 ≤ 1 + ((-1) * ρ1 87 + 0) := f23
      rw [r87] at f23
      obtain ⟨f24, gf⟩ := hb_unc gf
      have f24 : 0 ≤ 0 + ((-6) * ρ1 1 + (1 * ρ1 88 + 0)) := f24
      rw [r1, r88] at f24
      obtain ⟨f25, gf⟩ := hb_unc gf
      have f25 : 0 ≤ 0 + (6 * ρ1 1 + ((-1) * ρ1 88 + 0)) := f25
      rw [r1, r88] at f25
      obtain ⟨f26, gf⟩ := hb_unc gf
      have f26 : 0 ≤ 0 + (1 * ρ1 4 + ((-1) * ρ1 11 + 0)) := f26
      rw [r4, r11] at f26
      have hy1 : y1 = x1 := hb_inj f0 f1
      subst y1
      have hy2 : y2 = x2 := hb_inj f2 f3
      subst y2
      have hy3 : y3 = x3 := hb_inj f4 f5
      subst y3
      have hy4 : y4 = x4 := hb_inj f6 f7
      subst y4
      have hy5 : y5 = x5 := hb_inj f8 f9
      subst y5
      have hy6 : y6 = x6 := hb_inj f10 f11
      subst y6
      have hy7 : y7 = x7 := hb_inj f12 f13
      subst y7
      have hy8 : y8 = x8 := hb_inj f14 f15
      subst y8
      have hy9 : y9 = x9 := hb_inj f16 f17
      subst y9
      have hy10 : y10 = x10 := hb_inj f18 f19
      subst y10
      have hy11 : y11 = x11 := hb_inj f20 f21
      subst y11
      exact k4 M' y12 y13 gs gx gw g8 ge  (by have h1 := f22; have h2 := f23; omega) (by have h1 := f24; have h2 := f25; omega) (by have h1 := f26; omega)
    rcases List.mem_cons.mp hs with rfl | hs
    · intro ρ1 L' st' M' g1 g2 gm gr gf gs gx gw g8 ge
      obtain ⟨e0, L1, rfl, n0, gg0⟩ := hb_l1 mz_GG g1
      obtain rfl : e0 = 234 := List.mem_singleton.mp n0
      obtain ⟨y1, L1, rfl, qr76, gg1⟩ := hb_l0 mz_GG gg0
      have r76 : ρ1 76 = y1.toInt := qr76
      obtain ⟨y2, L1, rfl, qr77, gg2⟩ := hb_l0 mz_GG gg1
      have r77 : ρ1 77 = y2.toInt := qr77
      obtain ⟨y3, L1, rfl, qr78, gg3⟩ := hb_l0 mz_GG gg2
      have r78 : ρ1 78 = y3.toInt := qr78
      obtain ⟨y4, L1, rfl, qr79, gg4⟩ := hb_l0 mz_GG gg3
      have r79 : ρ1 79 = y4.toInt := qr79
      obtain ⟨y5, L1, rfl, qr80, gg5⟩ := hb_l0 mz_GG gg4
      have r80 : ρ1 80 = y5.toInt := qr80
      obtain ⟨y6, L1, rfl, qr81, gg6⟩ := hb_l0 mz_GG gg5
      have r81 : ρ1 81 = y6.toInt := qr81
      obtain ⟨y7, L1, rfl, qr82, gg7⟩ := hb_l0 mz_GG gg6
      have r82 : ρ1 82 = y7.toInt := qr82
      obtain ⟨y8, L1, rfl, qr83, gg8⟩ := hb_l0 mz_GG gg7
      have r83 : ρ1 83 = y8.toInt := qr83
      obtain ⟨y9, L1, rfl, qr84, gg9⟩ := hb_l0 mz_GG gg8
      have r84 : ρ1 84 = y9.toInt := qr84
      obtain ⟨y10, L1, rfl, qr85, gg10⟩ := hb_l0 mz_GG gg9
      have r85 : ρ1 85 = y10.toInt := qr85
      obtain ⟨y11, L1, rfl, qr86, gg11⟩ := hb_l0 mz_GG gg10
      have r86 : ρ1 86 = y11.toInt := qr86
      obtain ⟨y12, L1, rfl, qr87, gg12⟩ := hb_l0 mz_GG gg11
      have r87 : ρ1 87 = y12.toInt := qr87
      obtain ⟨y13, L1, rfl, qr88, gg13⟩ := hb_l0 mz_GG gg12
      have r88 : ρ1 88 = y13.toInt := qr88
      obtain rfl := hb_ln mz_GG gg13
      obtain rfl := hb_pn mz_GG g2
      have r1 : ρ1 1 = x1.toInt := gr 1 (by decide +kernel)
      have r2 : ρ1 2 = x2.toInt := gr 2 (by decide +kernel)
      have r3 : ρ1 3 = x3.toInt := gr 3 (by decide +kernel)
      have r4 : ρ1 4 = x4.toInt := gr 4 (by decide +kernel)
      have r5 : ρ1 5 = x5.toInt := gr 5 (by decide +kernel)
      have r6 : ρ1 6 = x6.toInt := gr 6 (by decide +kernel)
      have r7 : ρ1 7 = x7.toInt := gr 7 (by decide +kernel)
      have r8 : ρ1 8 = x8.toInt := gr 8 (by decide +kernel)
      have r9 : ρ1 9 = x9.toInt := gr 9 (by decide +kernel)
      have r10 : ρ1 10 = x10.toInt := gr 10 (by decide +kernel)
      have r11 : ρ1 11 = x11.toInt := gr 11 (by decide +kernel)
      obtain ⟨f0, gf⟩ := hb_unc gf
      have f0 : 0 ≤ 0 + ((-1) * ρ1 1 + (1 * ρ1 76 + 0)) := f0
      rw [r1, r76] at f0
      obtain ⟨f1, gf⟩ := hb_unc gf
      have f1 : 0 ≤ 0 + (1 * ρ1 1 + ((-1) * ρ1 76 + 0)) := f1
      rw [r1, r76] at f1
      obtain ⟨f2, gf⟩ := hb_unc gf
      have f2 : 0 ≤ 0 + ((-1) * ρ1 2 + (1 * ρ1 77 + 0)) := f2
      rw [r2, r77] at f2
      obtain ⟨f3, gf⟩ := hb_unc gf
      have f3 : 0 ≤ 0 + (1 * ρ1 2 + ((-1) * ρ1 77 + 0)) := f3
      rw [r2, r77] at f3
      obtain ⟨f4, gf⟩ := hb_unc gf
      have f4 : 0 ≤ 0 + ((-1) * ρ1 3 + (1 * ρ1 78 + 0)) := f4
      rw [r3, r78] at f4
      obtain ⟨f5, gf⟩ := hb_unc gf
      have f5 : 0 ≤ 0 + (1 * ρ1 3 + ((-1) * ρ1 78 + 0)) := f5
      rw [r3, r78] at f5
      obtain ⟨f6, gf⟩ := hb_unc gf
      have f6 : 0 ≤ 0 + ((-1) * ρ1 4 + (1 * ρ1 79 + 0)) := f6
      rw [r4, r79] at f6
      obtain ⟨f7, gf⟩ := hb_unc gf
      have f7 : 0 ≤ 0 + (1 * ρ1 4 + ((-1) * ρ1 79 + 0)) := f7
      rw [r4, r79] at f7
      obtain ⟨f8, gf⟩ := hb_unc gf
      have f8 : 0 ≤ 0 + ((-1) * ρ1 5 + (1 * ρ1 80 + 0)) := f8
      rw [r5, r80] at f8
      obtain ⟨f9, gf⟩ := hb_unc gf
      have f9 : 0 ≤ 0 + (1 * ρ1 5 + ((-1) * ρ1 80 + 0)) := f9
      rw [r5, r80] at f9
      obtain ⟨f10, gf⟩ := hb_unc gf
      have f10 : 0 ≤ 0 + ((-1) * ρ1 6 + (1 * ρ1 81 + 0)) := f10
      rw [r6, r81] at f10
      obtain ⟨f11, gf⟩ := hb_unc gf
      have f11 : 0 ≤ 0 + (1 * ρ1 6 + ((-1) * ρ1 81 + 0)) := f11
      rw [r6, r81] at f11
      obtain ⟨f12, gf⟩ := hb_unc gf
      have f12 : 0 ≤ 0 + ((-1) * ρ1 7 + (1 * ρ1 82 + 0)) := f12
      rw [r7, r82] at f12
      obtain ⟨f13, gf⟩ := hb_unc gf
      have f13 : 0 ≤ 0 + (1 * ρ1 7 + ((-1) * ρ1 82 + 0)) := f13
      rw [r7, r82] at f13
      obtain ⟨f14, gf⟩ := hb_unc gf
      have f14 : 0 ≤ 0 + ((-1) * ρ1 8 + (1 * ρ1 83 + 0)) := f14
      rw [r8, r83] at f14
      obtain ⟨f15, gf⟩ := hb_unc gf
      have f15 : 0 ≤ 0 + (1 * ρ1 8 + ((-1) * ρ1 83 + 0)) := f15
      rw [r8, r83] at f15
      obtain ⟨f16, gf⟩ := hb_unc gf
      have f16 : 0 ≤ 0 + ((-1) * ρ1 9 + (1 * ρ1 84 + 0)) := f16
      rw [r9, r84] at f16
      obtain ⟨f17, gf⟩ := hb_unc gf
      have f17 : 0 ≤ 0 + (1 * ρ1 9 + ((-1) * ρ1 84 + 0)) := f17
      rw [r9, r84] at f17
      obtain ⟨f18, gf⟩ := hb_unc gf
      have f18 : 0 ≤ 0 + ((-1) * ρ1 10 + (1 * ρ1 85 + 0)) := f18
      rw [r10, r85] at f18
      obtain ⟨f19, gf⟩ := hb_unc gf
      have f19 : 0 ≤ 0 + (1 * ρ1 10 + ((-1) * ρ1 85 + 0)) := f19
      rw [r10, r85] at f19
      obtain ⟨f20, gf⟩ := hb_unc gf
      have f20 : 0 ≤ 0 + ((-1) * ρ1 11 + (1 * ρ1 86 + 0)) := f20
      rw [r11, r86] at f20
      obtain ⟨f21, gf⟩ := hb_unc gf
      have f21 : 0 ≤ 0 + (1 * ρ1 11 + ((-1) * ρ1 86 + 0)) := f21
      rw [r11, r86] at f21
      obtain ⟨f22, gf⟩ := hb_unc gf
      have f22 : 0 ≤ 0 + (1 * ρ1 87 + 0) := f22
      rw [r87] at f22
      obtain ⟨f23, gf⟩ := hb_unc gf
      have f23 : 0 ≤ 0 + ((-1) * ρ1 87 + 0) := f23
      rw [r87] at f23
      obtain ⟨f24, gf⟩ := hb_unc gf
      have f24 : 0 ≤ 0 + ((-6) * ρ1 1 + (1 * ρ1 88 + 0)) := f24
      rw [r1, r88] at f24
      obtain ⟨f25, gf⟩ := hb_unc gf
      have f25 : 0 ≤ 0 + (6 * ρ1 1 + ((-1) * ρ1 88 + 0)) := f25
      rw [r1, r88] at f25
      have hy1 : y1 = x1 := hb_inj f0 f1
      subst y1
      have hy2 : y2 = x2 := hb_inj f2 f3
      subst y2
      have hy3 : y3 = x3 := hb_inj f4 f5
      subst y3
      have hy4 : y4 = x4 := hb_inj f6 f7
      subst y4
      have hy5 : y5 = x5 := hb_inj f8 f9
      subst y5
      have hy6 : y6 = x6 := hb_inj f10 f11
      subst y6
      have hy7 : y7 = x7 := hb_inj f12 f13
      subst y7
      have hy8 : y8 = x8 := hb_inj f14 f15
      subst y8
      have hy9 : y9 = x9 := hb_inj f16 f17
      subst y9
      have hy10 : y10 = x10 := hb_inj f18 f19
      subst y10
      have hy11 : y11 = x11 := hb_inj f20 f21
      subst y11
      exact k5 M' y12 y13 gs gx gw g8 ge  (by have h1 := f22; have h2 := f23; omega) (by have h1 := f24; have h2 := f25; omega)
    rcases List.mem_cons.mp hs with rfl | hs
    · intro ρ1 L' st' M' g1 g2 gm gr gf gs gx gw g8 ge
      obtain ⟨e0, L1, rfl, n0, gg0⟩ := hb_l1 mz_GG g1
      obtain rfl : e0 = 234 := List.mem_singleton.mp n0
      obtain ⟨y1, L1, rfl, qr76, gg1⟩ := hb_l0 mz_GG gg0
      have r76 : ρ1 76 = y1.toInt := qr76
      obtain ⟨y2, L1, rfl, qr77, gg2⟩ := hb_l0 mz_GG gg1
      have r77 : ρ1 77 = y2.toInt := qr77
      obtain ⟨y3, L1, rfl, qr78, gg3⟩ := hb_l0 mz_GG gg2
      have r78 : ρ1 78 = y3.toInt := qr78
      obtain ⟨y4, L1, rfl, qr79, gg4⟩ := hb_l0 mz_GG gg3
      have r79 : ρ1 79 = y4.toInt := qr79
      obtain ⟨y5, L1, rfl, qr80, gg5⟩ := hb_l0 mz_GG gg4
      have r80 : ρ1 80 = y5.toInt := qr80
      obtain ⟨y6, L1, rfl, qr81, gg6⟩ := hb_l0 mz_GG gg5
      have r81 : ρ1 81 = y6.toInt := qr81
      obtain ⟨y7, L1, rfl, qr82, gg7⟩ := hb_l0 mz_GG gg6
      have r82 : ρ1 82 = y7.toInt := qr82
      obtain ⟨y8, L1, rfl, qr83, gg8⟩ := hb_l0 mz_GG gg7
      have r83 : ρ1 83 = y8.toInt := qr83
      obtain ⟨y9, L1, rfl, qr84, gg9⟩ := hb_l0 mz_GG gg8
      have r84 : ρ1 84 = y9.toInt := qr84
      obtain ⟨y10, L1, rfl, qr85, gg10⟩ := hb_l0 mz_GG gg9
      have r85 : ρ1 85 = y10.toInt := qr85
      obtain ⟨y11, L1, rfl, qr86, gg11⟩ := hb_l0 mz_GG gg10
      have r86 : ρ1 86 = y11.toInt := qr86
      obtain ⟨y12, L1, rfl, qr87, gg12⟩ := hb_l0 mz_GG gg11
      have r87 : ρ1 87 = y12.toInt := qr87
      obtain ⟨y13, L1, rfl, qr88, gg13⟩ := hb_l0 mz_GG gg12
      have r88 : ρ1 88 = y13.toInt := qr88
      obtain rfl := hb_ln mz_GG gg13
      obtain rfl := hb_pn mz_GG g2
      have r1 : ρ1 1 = x1.toInt := gr 1 (by decide +kernel)
      have r2 : ρ1 2 = x2.toInt := gr 2 (by decide +kernel)
      have r3 : ρ1 3 = x3.toInt := gr 3 (by decide +kernel)
      have r4 : ρ1 4 = x4.toInt := gr 4 (by decide +kernel)
      have r5 : ρ1 5 = x5.toInt := gr 5 (by decide +kernel)
      have r6 : ρ1 6 = x6.toInt := gr 6 (by decide +kernel)
      have r7 : ρ1 7 = x7.toInt := gr 7 (by decide +kernel)
      have r8 : ρ1 8 = x8.toInt := gr 8 (by decide +kernel)
      have r9 : ρ1 9 = x9.toInt := gr 9 (by decide +kernel)
      have r10 : ρ1 10 = x10.toInt := gr 10 (by decide +kernel)
      have r11 : ρ1 11 = x11.toInt := gr 11 (by decide +kernel)
      obtain ⟨f0, gf⟩ := hb_unc gf
      have f0 : 0 ≤ 0 + ((-1) * ρ1 1 + (1 * ρ1 76 + 0)) := f0
      rw [r1, r76] at f0
      obtain ⟨f1, gf⟩ := hb_unc gf
      have f1 : 0 ≤ 0 + (1 * ρ1 1 + ((-1) * ρ1 76 + 0)) := f1
      rw [r1, r76] at f1
      obtain ⟨f2, gf⟩ := hb_unc gf
      have f2 : 0 ≤ 0 + ((-1) * ρ1 2 + (1 * ρ1 77 + 0)) := f2
      rw [r2, r77] at f2
      obtain ⟨f3, gf⟩ := hb_unc gf
      have f3 : 0 ≤ 0 + (1 * ρ1 2 + ((-1) * ρ1 77 + 0)) := f3
      rw [r2, r77] at f3
      obtain ⟨f4, gf⟩ := hb_unc gf
      have f4 : 0 ≤ 0 + ((-1) * ρ1 3 + (1 * ρ1 78 + 0)) := f4
      rw [r3, r78] at f4
      obtain ⟨f5, gf⟩ := hb_unc gf
      have f5 : 0 ≤ 0 + (1 * ρ1 3 + ((-1) * ρ1 78 + 0)) := f5
      rw [r3, r78] at f5
      obtain ⟨f6, gf⟩ := hb_unc gf
      have f6 : 0 ≤ 0 + ((-1) * ρ1 4 + (1 * ρ1 79 + 0)) := f6
      rw [r4, r79] at f6
      obtain ⟨f7, gf⟩ := hb_unc gf
      have f7 : 0 ≤ 0 + (1 * ρ1 4 + ((-1) * ρ1 79 + 0)) := f7
      rw [r4, r79] at f7
      obtain ⟨f8, gf⟩ := hb_unc gf
      have f8 : 0 ≤ 0 + ((-1) * ρ1 5 + (1 * ρ1 80 + 0)) := f8
      rw [r5, r80] at f8
      obtain ⟨f9, gf⟩ := hb_unc gf
      have f9 : 0 ≤ 0 + (1 * ρ1 5 + ((-1) * ρ1 80 + 0)) := f9
      rw [r5, r80] at f9
      obtain ⟨f10, gf⟩ := hb_unc gf
      have f10 : 0 ≤ 0 + ((-1) * ρ1 6 + (1 * ρ1 81 + 0)) := f10
      rw [r6, r81] at f10
      obtain ⟨f11, gf⟩ := hb_unc gf
      have f11 : 0 ≤ 0 + (1 * ρ1 6 + ((-1) * ρ1 81 + 0)) := f11
      rw [r6, r81] at f11
      obtain ⟨f12, gf⟩ := hb_unc gf
      have f12 : 0 ≤ 0 + ((-1) * ρ1 7 + (1 * ρ1 82 + 0)) := f12
      rw [r7, r82] at f12
      obtain ⟨f13, gf⟩ := hb_unc gf
      have f13 : 0 ≤ 0 + (1 * ρ1 7 + ((-1) * ρ1 82 + 0)) := f13
      rw [r7, r82] at f13
      obtain ⟨f14, gf⟩ := hb_unc gf
      have f14 : 0 ≤ 0 + ((-1) * ρ1 8 + (1 * ρ1 83 + 0)) := f14
      rw [r8, r83] at f14
      obtain ⟨f15, gf⟩ := hb_unc gf
      have f15 : 0 ≤ 0 + (1 * ρ1 8 + ((-1) * ρ1 83 + 0)) := f15
      rw [r8, r83] at f15
      obtain ⟨f16, gf⟩ := hb_unc gf
      have f16 : 0 ≤ 0 + ((-1) * ρ1 9 + (1 * ρ1 84 + 0)) := f16
      rw [r9, r84] at f16
      obtain ⟨f17, gf⟩ := hb_unc gf
      have f17 : 0 ≤ 0 + (1 * ρ1 9 + ((-1) * ρ1 84 + 0)) := f17
      rw [r9, r84] at f17
      obtain ⟨f18, gf⟩ := hb_unc gf
      have f18 : 0 ≤ 0 + ((-1) * ρ1 10 + (1 * ρ1 85 + 0)) := f18
      rw [r10, r85] at f18
      obtain ⟨f19, gf⟩ := hb_unc gf
      have f19 : 0 ≤ 0 + (1 * ρ1 10 + ((-1) * ρ1 85 + 0)) := f19
      rw [r10, r85] at f19
      obtain ⟨f20, gf⟩ := hb_unc gf
      have f20 : 0 ≤ 0 + ((-1) * ρ1 11 + (1 * ρ1 86 + 0)) := f20
      rw [r11, r86] at f20
      obtain ⟨f21, gf⟩ := hb_unc gf
      have f21 : 0 ≤ 0 + (1 * ρ1 11 + ((-1) * ρ1 86 + 0)) := f21
      rw [r11, r86] at f21
      obtain ⟨f22, gf⟩ := hb_unc gf
      have f22 : 0 ≤ 0 + (1 * ρ1 87 + 0) := f22
      rw [r87] at f22
      obtain ⟨f23, gf⟩ := hb_unc gf
      have f23 : 0 ≤ 0 + ((-1) * ρ1 87 + 0) := f23
      rw [r87] at f23
      obtain ⟨f24, gf⟩ := hb_unc gf
      have f24 : 0 ≤ 0 + ((-6) * ρ1 1 + (1 * ρ1 88 + 0)) := f24
      rw [r1, r88] at f24
      obtain ⟨f25, gf⟩ := hb_unc gf
      have f25 : 0 ≤ 0 + (6 * ρ1 1 + ((-1) * ρ1 88 + 0)) := f25
      rw [r1, r88] at f25
      have hy1 : y1 = x1 := hb_inj f0 f1
      subst y1
      have hy2 : y2 = x2 := hb_inj f2 f3
      subst y2
      have hy3 : y3 = x3 := hb_inj f4 f5
      subst y3
      have hy4 : y4 = x4 := hb_inj f6 f7
      subst y4
      have hy5 : y5 = x5 := hb_inj f8 f9
      subst y5
      have hy6 : y6 = x6 := hb_inj f10 f11
      subst y6
      have hy7 : y7 = x7 := hb_inj f12 f13
      subst y7
      have hy8 : y8 = x8 := hb_inj f14 f15
      subst y8
      have hy9 : y9 = x9 := hb_inj f16 f17
      subst y9
      have hy10 : y10 = x10 := hb_inj f18 f19
      subst y10
      have hy11 : y11 = x11 := hb_inj f20 f21
      subst y11
      exact k6 M' y12 y13 gs gx gw g8 ge  (by have h1 := f22; have h2 := f23; omega) (by have h1 := f24; have h2 := f25; omega)
    rcases List.mem_cons.mp hs with rfl | hs
    · intro ρ1 L' st' M' g1 g2 gm gr gf gs gx gw g8 ge
      obtain ⟨e0, L1, rfl, n0, gg0⟩ := hb_l1 mz_GG g1
      obtain rfl : e0 = 234 := List.mem_singleton.mp n0
      obtain ⟨y1, L1, rfl, qr76, gg1⟩ := hb_l0 mz_GG gg0
      have r76 : ρ1 76 = y1.toInt := qr76
      obtain ⟨y2, L1, rfl, qr77, gg2⟩ := hb_l0 mz_GG gg1
      have r77 : ρ1 77 = y2.toInt := qr77
      obtain ⟨y3, L1, rfl, qr78, gg3⟩ := hb_l0 mz_GG gg2
      have r78 : ρ1 78 = y3.toInt := qr78
      obtain ⟨y4, L1, rfl, qr79, gg4⟩ := hb_l0 mz_GG gg3
      have r79 : ρ1 79 = y4.toInt := qr79
      obtain ⟨y5, L1, rfl, qr80, gg5⟩ := hb_l0 mz_GG gg4
      have r80 : ρ1 80 = y5.toInt := qr80
      obtain ⟨y6, L1, rfl, qr81, gg6⟩ := hb_l0 mz_GG gg5
      have r81 : ρ1 81 = y6.toInt := qr81
      obtain ⟨y7, L1, rfl, qr82, gg7⟩ := hb_l0 mz_GG gg6
      have r82 : ρ1 82 = y7.toInt := qr82
      obtain ⟨y8, L1, rfl, qr83, gg8⟩ := hb_l0 mz_GG gg7
      have r83 : ρ1 83 = y8.toInt := qr83
      obtain ⟨y9, L1, rfl, qr84, gg9⟩ := hb_l0 mz_GG gg8
      have r84 : ρ1 84 = y9.toInt := qr84
      obtain ⟨y10, L1, rfl, qr85, gg10⟩ := hb_l0 mz_GG gg9
      have r85 : ρ1 85 = y10.toInt := qr85
      obtain ⟨y11, L1, rfl, qr86, gg11⟩ := hb_l0 mz_GG gg10
      have r86 : ρ1 86 = y11.toInt := qr86
      obtain ⟨y12, L1, rfl, qr87, gg12⟩ := hb_l0 mz_GG gg11
      have r87 : ρ1 87 = y12.toInt := qr87
      obtain ⟨y13, L1, rfl, qr88, gg13⟩ := hb_l0 mz_GG gg12
      have r88 : ρ1 88 = y13.toInt := qr88
      obtain rfl := hb_ln mz_GG gg13
      obtain rfl := hb_pn mz_GG g2
      have r1 : ρ1 1 = x1.toInt := gr 1 (by decide +kernel)
      have r2 : ρ1 2 = x2.toInt := gr 2 (by decide +kernel)
      have r3 : ρ1 3 = x3.toInt := gr 3 (by decide +kernel)
      have r4 : ρ1 4 = x4.toInt := gr 4 (by decide +kernel)
      have r5 : ρ1 5 = x5.toInt := gr 5 (by decide +kernel)
      have r6 : ρ1 6 = x6.toInt := gr 6 (by decide +kernel)
      have r7 : ρ1 7 = x7.toInt := gr 7 (by decide +kernel)
      have r8 : ρ1 8 = x8.toInt := gr 8 (by decide +kernel)
      have r9 : ρ1 9 = x9.toInt := gr 9 (by decide +kernel)
      have r10 : ρ1 10 = x10.toInt := gr 10 (by decide +kernel)
      have r11 : ρ1 11 = x11.toInt := gr 11 (by decide +kernel)
      obtain ⟨f0, gf⟩ := hb_unc gf
      have f0 : 0 ≤ 0 + ((-1) * ρ1 1 + (1 * ρ1 76 + 0)) := f0
      rw [r1, r76] at f0
      obtain ⟨f1, gf⟩ := hb_unc gf
      have f1 : 0 ≤ 0 + (1 * ρ1 1 + ((-1) * ρ1 76 + 0)) := f1
      rw [r1, r76] at f1
      obtain ⟨f2, gf⟩ := hb_unc gf
      have f2 : 0 ≤ 0 + ((-1) * ρ1 2 + (1 * ρ1 77 + 0)) := f2
      rw [r2, r77] at f2
      obtain ⟨f3, gf⟩ := hb_unc gf
      have f3 : 0 ≤ 0 + (1 * ρ1 2 + ((-1) * ρ1 77 + 0)) := f3
      rw [r2, r77] at f3
      obtain ⟨f4, gf⟩ := hb_unc gf
      have f4 : 0 ≤ 0 + ((-1) * ρ1 3 + (1 * ρ1 78 + 0)) := f4
      rw [r3, r78] at f4
      obtain ⟨f5, gf⟩ := hb_unc gf
      have f5 : 0 ≤ 0 + (1 * ρ1 3 + ((-1) * ρ1 78 + 0)) := f5
      rw [r3, r78] at f5
      obtain ⟨f6, gf⟩ := hb_unc gf
      have f6 : 0 ≤ 0 + ((-1) * ρ1 4 + (1 * ρ1 79 + 0)) := f6
      rw [r4, r79] at f6
      obtain ⟨f7, gf⟩ := hb_unc gf
      have f7 : 0 ≤ 0 + (1 * ρ1 4 + ((-1) * ρ1 79 + 0)) := f7
      rw [r4, r79] at f7
      obtain ⟨f8, gf⟩ := hb_unc gf
      have f8 : 0 ≤ 0 + ((-1) * ρ1 5 + (1 * ρ1 80 + 0)) := f8
      rw [r5, r80] at f8
      obtain ⟨f9, gf⟩ := hb_unc gf
      have f9 : 0 ≤ 0 + (1 * ρ1 5 + ((-1) * ρ1 80 + 0)) := f9
      rw [r5, r80] at f9
      obtain ⟨f10, gf⟩ := hb_unc gf
      have f10 : 0 ≤ 0 + ((-1) * ρ1 6 + (1 * ρ1 81 + 0)) := f10
      rw [r6, r81] at f10
      obtain ⟨f11, gf⟩ := hb_unc gf
      have f11 : 0 ≤ 0 + (1 * ρ1 6 + ((-1) * ρ1 81 + 0)) := f11
      rw [r6, r81] at f11
      obtain ⟨f12, gf⟩ := hb_unc gf
      have f12 : 0 ≤ 0 + ((-1) * ρ1 7 + (1 * ρ1 82 + 0)) := f12
      rw [r7, r82] at f12
      obtain ⟨f13, gf⟩ := hb_unc gf
      have f13 : 0 ≤ 0 + (1 * ρ1 7 + ((-1) * ρ1 82 + 0)) := f13
      rw [r7, r82] at f13
      obtain ⟨f14, gf⟩ := hb_unc gf
      have f14 : 0 ≤ 0 + ((-1) * ρ1 8 + (1 * ρ1 83 + 0)) := f14
      rw [r8, r83] at f14
      obtain ⟨f15, gf⟩ := hb_unc gf
      have f15 : 0 ≤ 0 + (1 * ρ1 8 + ((-1) * ρ1 83 + 0)) := f15
      rw [r8, r83] at f15
      obtain ⟨f16, gf⟩ := hb_unc gf
      have f16 : 0 ≤ 0 + ((-1) * ρ1 9 + (1 * ρ1 84 + 0)) := f16
      rw [r9, r84] at f16
      obtain ⟨f17, gf⟩ := hb_unc gf
      have f17 : 0 ≤ 0 + (1 * ρ1 9 + ((-1) * ρ1 84 + 0)) := f17
      rw [r9, r84] at f17
      obtain ⟨f18, gf⟩ := hb_unc gf
      have f18 : 0 ≤ 0 + ((-1) * ρ1 10 + (1 * ρ1 85 + 0)) := f18
      rw [r10, r85] at f18
      obtain ⟨f19, gf⟩ := hb_unc gf
      have f19 : 0 ≤ 0 + (1 * ρ1 10 + ((-1) * ρ1 85 + 0)) := f19
      rw [r10, r85] at f19
      obtain ⟨f20, gf⟩ := hb_unc gf
      have f20 : 0 ≤ 0 + ((-1) * ρ1 11 + (1 * ρ1 86 + 0)) := f20
      rw [r11, r86] at f20
      obtain ⟨f21, gf⟩ := hb_unc gf
      have f21 : 0 ≤ 0 + (1 * ρ1 11 + ((-1) * ρ1 86 + 0)) := f21
      rw [r11, r86] at f21
      obtain ⟨f22, gf⟩ := hb_unc gf
      have f22 : 0 ≤ 0 + (1 * ρ1 87 + 0) := f22
      rw [r87] at f22
      obtain ⟨f23, gf⟩ := hb_unc gf
      have f23 : 0 ≤ 0 + ((-1) * ρ1 87 + 0) := f23
      rw [r87] at f23
      obtain ⟨f24, gf⟩ := hb_unc gf
      have f24 : 0 ≤ 0 + ((-6) * ρ1 1 + (1 * ρ1 88 + 0)) := f24
      rw [r1, r88] at f24
      obtain ⟨f25, gf⟩ := hb_unc gf
      have f25 : 0 ≤ 0 + (6 * ρ1 1 + ((-1) * ρ1 88 + 0)) := f25
      rw [r1, r88] at f25
      obtain ⟨f26, gf⟩ := hb_unc gf
      have f26 : 0 ≤ -1 + ((-1) * ρ1 4 + (1 * ρ1 11 + 0)) := f26
      rw [r4, r11] at f26
      have hy1 : y1 = x1 := hb_inj f0 f1
      subst y1
      have hy2 : y2 = x2 := hb_inj f2 f3
      subst y2
      have hy3 : y3 = x3 := hb_inj f4 f5
      subst y3
      have hy4 : y4 = x4 := hb_inj f6 f7
      subst y4
      have hy5 : y5 = x5 := hb_inj f8 f9
      subst y5
      have hy6 : y6 = x6 := hb_inj f10 f11
      subst y6
      have hy7 : y7 = x7 := hb_inj f12 f13
      subst y7
      have hy8 : y8 = x8 := hb_inj f14 f15
      subst y8
      have hy9 : y9 = x9 := hb_inj f16 f17
      subst y9
      have hy10 : y10 = x10 := hb_inj f18 f19
      subst y10
      have hy11 : y11 = x11 := hb_inj f20 f21
      subst y11
      exact k7 M' y12 y13 gs gx gw g8 ge  (by have h1 := f22; have h2 := f23; omega) (by have h1 := f24; have h2 := f25; omega) (by have h1 := f26; omega)
    rcases List.mem_cons.mp hs with rfl | hs
    · intro ρ1 L' st' M' g1 g2 gm gr gf gs gx gw g8 ge
      obtain ⟨e0, L1, rfl, n0, gg0⟩ := hb_l1 mz_GG g1
      obtain rfl : e0 = 234 := List.mem_singleton.mp n0
      obtain ⟨y1, L1, rfl, qr76, gg1⟩ := hb_l0 mz_GG gg0
      have r76 : ρ1 76 = y1.toInt := qr76
      obtain ⟨y2, L1, rfl, qr77, gg2⟩ := hb_l0 mz_GG gg1
      have r77 : ρ1 77 = y2.toInt := qr77
      obtain ⟨y3, L1, rfl, qr78, gg3⟩ := hb_l0 mz_GG gg2
      have r78 : ρ1 78 = y3.toInt := qr78
      obtain ⟨y4, L1, rfl, qr79, gg4⟩ := hb_l0 mz_GG gg3
      have r79 : ρ1 79 = y4.toInt := qr79
      obtain ⟨y5, L1, rfl, qr80, gg5⟩ := hb_l0 mz_GG gg4
      have r80 : ρ1 80 = y5.toInt := qr80
      obtain ⟨y6, L1, rfl, qr81, gg6⟩ := hb_l0 mz_GG gg5
      have r81 : ρ1 81 = y6.toInt := qr81
      obtain ⟨y7, L1, rfl, qr82, gg7⟩ := hb_l0 mz_GG gg6
      have r82 : ρ1 82 = y7.toInt := qr82
      obtain ⟨y8, L1, rfl, qr83, gg8⟩ := hb_l0 mz_GG gg7
      have r83 : ρ1 83 = y8.toInt := qr83
      obtain ⟨y9, L1, rfl, qr84, gg9⟩ := hb_l0 mz_GG gg8
      have r84 : ρ1 84 = y9.toInt := qr84
      obtain ⟨y10, L1, rfl, qr85, gg10⟩ := hb_l0 mz_GG gg9
      have r85 : ρ1 85 = y10.toInt := qr85
      obtain ⟨y11, L1, rfl, qr86, gg11⟩ := hb_l0 mz_GG gg10
      have r86 : ρ1 86 = y11.toInt := qr86
      obtain ⟨y12, L1, rfl, qr87, gg12⟩ := hb_l0 mz_GG gg11
      have r87 : ρ1 87 = y12.toInt := qr87
      obtain ⟨y13, L1, rfl, qr88, gg13⟩ := hb_l0 mz_GG gg12
      have r88 : ρ1 88 = y13.toInt := qr88
      obtain rfl := hb_ln mz_GG gg13
      obtain rfl := hb_pn mz_GG g2
      have r1 : ρ1 1 = x1.toInt := gr 1 (by decide +kernel)
      have r2 : ρ1 2 = x2.toInt := gr 2 (by decide +kernel)
      have r3 : ρ1 3 = x3.toInt := gr 3 (by decide +kernel)
      have r4 : ρ1 4 = x4.toInt := gr 4 (by decide +kernel)
      have r5 : ρ1 5 = x5.toInt := gr 5 (by decide +kernel)
      have r6 : ρ1 6 = x6.toInt := gr 6 (by decide +kernel)
      have r7 : ρ1 7 = x7.toInt := gr 7 (by decide +kernel)
      have r8 : ρ1 8 = x8.toInt := gr 8 (by decide +kernel)
      have r9 : ρ1 9 = x9.toInt := gr 9 (by decide +kernel)
      have r10 : ρ1 10 = x10.toInt := gr 10 (by decide +kernel)
      have r11 : ρ1 11 = x11.toInt := gr 11 (by decide +kernel)
      obtain ⟨f0, gf⟩ := hb_unc gf
      have f0 : 0 ≤ 0 + ((-1) * ρ1 1 + (1 * ρ1 76 + 0)) := f0
      rw [r1, r76] at f0
      obtain ⟨f1, gf⟩ := hb_unc gf
      have f1 : 0 ≤ 0 + (1 * ρ1 1 + ((-1) * ρ1 76 + 0)) := f1
      rw [r1, r76] at f1
      obtain ⟨f2, gf⟩ := hb_unc gf
      have f2 : 0 ≤ 0 + ((-1) * ρ1 2 + (1 * ρ1 77 + 0)) := f2
      rw [r2, r77] at f2
      obtain ⟨f3, gf⟩ := hb_unc gf
      have f3 : 0 ≤ 0 + (1 * ρ1 2 + ((-1) * ρ1 77 + 0)) := f3
      rw [r2, r77] at f3
      obtain ⟨f4, gf⟩ := hb_unc gf
      have f4 : 0 ≤ 0 + ((-1) * ρ1 3 + (1 * ρ1 78 + 0)) := f4
      rw [r3, r78] at f4
      obtain ⟨f5, gf⟩ := hb_unc gf
      have f5 : 0 ≤ 0 + (1 * ρ1 3 + ((-1) * ρ1 78 + 0)) := f5
      rw [r3, r78] at f5
      obtain ⟨f6, gf⟩ := hb_unc gf
      have f6 : 0 ≤ 0 + ((-1) * ρ1 4 + (1 * ρ1 79 + 0)) := f6
      rw [r4, r79] at f6
      obtain ⟨f7, gf⟩ := hb_unc gf
      have f7 : 0 ≤ 0 + (1 * ρ1 4 + ((-1) * ρ1 79 + 0)) := f7
      rw [r4, r79] at f7
      obtain ⟨f8, gf⟩ := hb_unc gf
      have f8 : 0 ≤ 0 + ((-1) * ρ1 5 + (1 * ρ1 80 + 0)) := f8
      rw [r5, r80] at f8
      obtain ⟨f9, gf⟩ := hb_unc gf
      have f9 : 0 ≤ 0 + (1 * ρ1 5 + ((-1) * ρ1 80 + 0)) := f9
      rw [r5, r80] at f9
      obtain ⟨f10, gf⟩ := hb_unc gf
      have f10 : 0 ≤ 0 + ((-1) * ρ1 6 + (1 * ρ1 81 + 0)) := f10
      rw [r6, r81] at f10
      obtain ⟨f11, gf⟩ := hb_unc gf
      have f11 : 0 ≤ 0 + (1 * ρ1 6 + ((-1) * ρ1 81 + 0)) := f11
      rw [r6, r81] at f11
      obtain ⟨f12, gf⟩ := hb_unc gf
      have f12 : 0 ≤ 0 + ((-1) * ρ1 7 + (1 * ρ1 82 + 0)) := f12
      rw [r7, r82] at f12
      obtain ⟨f13, gf⟩ := hb_unc gf
      have f13 : 0 ≤ 0 + (1 * ρ1 7 + ((-1) * ρ1 82 + 0)) := f13
      rw [r7, r82] at f13
      obtain ⟨f14, gf⟩ := hb_unc gf
      have f14 : 0 ≤ 0 + ((-1) * ρ1 8 + (1 * ρ1 83 + 0)) := f14
      rw [r8, r83] at f14
      obtain ⟨f15, gf⟩ := hb_unc gf
      have f15 : 0 ≤ 0 + (1 * ρ1 8 + ((-1) * ρ1 83 + 0)) := f15
      rw [r8, r83] at f15
      obtain ⟨f16, gf⟩ := hb_unc gf
      have f16 : 0 ≤ 0 + ((-1) * ρ1 9 + (1 * ρ1 84 + 0)) := f16
      rw [r9, r84] at f16
      obtain ⟨f17, gf⟩ := hb_unc gf
      have f17 : 0 ≤ 0 + (1 * ρ1 9 + ((-1) * ρ1 84 + 0)) := f17
      rw [r9, r84] at f17
      obtain ⟨f18, gf⟩ := hb_unc gf
      have f18 : 0 ≤ 0 + ((-1) * ρ1 10 + (1 * ρ1 85 + 0)) := f18
      rw [r10, r85] at f18
      obtain ⟨f19, gf⟩ := hb_unc gf
      have f19 : 0 ≤ 0 + (1 * ρ1 10 + ((-1) * ρ1 85 + 0)) := f19
      rw [r10, r85] at f19
      obtain ⟨f20, gf⟩ := hb_unc gf
      have f20 : 0 ≤ 0 + ((-1) * ρ1 11 + (1 * ρ1 86 + 0)) := f20
      rw [r11, r86] at f20
      obtain ⟨f21, gf⟩ := hb_unc gf
      have f21 : 0 ≤ 0 + (1 * ρ1 11 + ((-1) * ρ1 86 + 0)) := f21
      rw [r11, r86] at f21
      obtain ⟨f22, gf⟩ := hb_unc gf
      have f22 : 0 ≤ 0 + (1 * ρ1 87 + 0) := f22
      rw [r87] at f22
      obtain ⟨f23, gf⟩ := hb_unc gf
      have f23 : 0 ≤ 0 + ((-1) * ρ1 87 + 0) := f23
      rw [r87] at f23
      obtain ⟨f24, gf⟩ := hb_unc gf
      have f24 : 0 ≤ 0 + ((-6) * ρ1 1 + (1 * ρ1 88 + 0)) := f24
      rw [r1, r88] at f24
      obtain ⟨f25, gf⟩ := hb_unc gf
      have f25 : 0 ≤ 0 + (6 * ρ1 1 + ((-1) * ρ1 88 + 0)) := f25
      rw [r1, r88] at f25
      obtain ⟨f26, gf⟩ := hb_unc gf
      have f26 : 0 ≤ 0 + (1 * ρ1 4 + ((-1) * ρ1 11 + 0)) := f26
      rw [r4, r11] at f26
      have hy1 : y1 = x1 := hb_inj f0 f1
      subst y1
      have hy2 : y2 = x2 := hb_inj f2 f3
      subst y2
      have hy3 : y3 = x3 := hb_inj f4 f5
      subst y3
      have hy4 : y4 = x4 := hb_inj f6 f7
      subst y4
      have hy5 : y5 = x5 := hb_inj f8 f9
      subst y5
      have hy6 : y6 = x6 := hb_inj f10 f11
      subst y6
      have hy7 : y7 = x7 := hb_inj f12 f13
      subst y7
      have hy8 : y8 = x8 := hb_inj f14 f15
      subst y8
      have hy9 : y9 = x9 := hb_inj f16 f17
      subst y9
      have hy10 : y10 = x10 := hb_inj f18 f19
      subst y10
      have hy11 : y11 = x11 := hb_inj f20 f21
      subst y11
      exact k8 M' y12 y13 gs gx gw g8 ge  (by have h1 := f22; have h2 := f23; omega) (by have h1 := f24; have h2 := f25; omega) (by have h1 := f26; omega)
    rcases List.mem_cons.mp hs with rfl | hs
    · intro ρ1 L' st' M' g1 g2 gm gr gf gs gx gw g8 ge
      obtain ⟨e0, L1, rfl, n0, gg0⟩ := hb_l1 mz_GG g1
      obtain rfl : e0 = 234 := List.mem_singleton.mp n0
      obtain ⟨y1, L1, rfl, qr76, gg1⟩ := hb_l0 mz_GG gg0
      have r76 : ρ1 76 = y1.toInt := qr76
      obtain ⟨y2, L1, rfl, qr77, gg2⟩ := hb_l0 mz_GG gg1
      have r77 : ρ1 77 = y2.toInt := qr77
      obtain ⟨y3, L1, rfl, qr78, gg3⟩ := hb_l0 mz_GG gg2
      have r78 : ρ1 78 = y3.toInt := qr78
      obtain ⟨y4, L1, rfl, qr79, gg4⟩ := hb_l0 mz_GG gg3
      have r79 : ρ1 79 = y4.toInt := qr79
      obtain ⟨y5, L1, rfl, qr80, gg5⟩ := hb_l0 mz_GG gg4
      have r80 : ρ1 80 = y5.toInt := qr80
      obtain ⟨y6, L1, rfl, qr81, gg6⟩ := hb_l0 mz_GG gg5
      have r81 : ρ1 81 = y6.toInt := qr81
      obtain ⟨y7, L1, rfl, qr82, gg7⟩ := hb_l0 mz_GG gg6
      have r82 : ρ1 82 = y7.toInt := qr82
      obtain ⟨y8, L1, rfl, qr83, gg8⟩ := hb_l0 mz_GG gg7
      have r83 : ρ1 83 = y8.toInt := qr83
      obtain ⟨y9, L1, rfl, qr84, gg9⟩ := hb_l0 mz_GG gg8
      have r84 : ρ1 84 = y9.toInt := qr84
      obtain ⟨y10, L1, rfl, qr85, gg10⟩ := hb_l0 mz_GG gg9
      have r85 : ρ1 85 = y10.toInt := qr85
      obtain ⟨y11, L1, rfl, qr86, gg11⟩ := hb_l0 mz_GG gg10
      have r86 : ρ1 86 = y11.toInt := qr86
      obtain ⟨y12, L1, rfl, qr87, gg12⟩ := hb_l0 mz_GG gg11
      have r87 : ρ1 87 = y12.toInt := qr87
      obtain ⟨y13, L1, rfl, qr88, gg13⟩ := hb_l0 mz_GG gg12
      have r88 : ρ1 88 = y13.toInt := qr88
      obtain rfl := hb_ln mz_GG gg13
      obtain rfl := hb_pn mz_GG g2
      have r1 : ρ1 1 = x1.toInt := gr 1 (by decide +kernel)
      have r2 : ρ1 2 = x2.toInt := gr 2 (by decide +kernel)
      have r3 : ρ1 3 = x3.toInt := gr 3 (by decide +kernel)
      have r4 : ρ1 4 = x4.toInt := gr 4 (by decide +kernel)
      have r5 : ρ1 5 = x5.toInt := gr 5 (by decide +kernel)
      have r6 : ρ1 6 = x6.toInt := gr 6 (by decide +kernel)
      have r7 : ρ1 7 = x7.toInt := gr 7 (by decide +kernel)
      have r8 : ρ1 8 = x8.toInt := gr 8 (by decide +kernel)
      have r9 : ρ1 9 = x9.toInt := gr 9 (by decide +kernel)
      have r10 : ρ1 10 = x10.toInt := gr 10 (by decide +kernel)
      have r11 : ρ1 11 = x11.toInt := gr 11 (by decide +kernel)
      obtain ⟨f0, gf⟩ := hb_unc gf
      have f0 : 0 ≤ 0 + ((-1) * ρ1 1 + (1 * ρ1 76 + 0)) := f0
      rw [r1, r76] at f0
      obtain ⟨f1, gf⟩ := hb_unc gf
      have f1 : 0 ≤ 0 + (1 * ρ1 1 + ((-1) * ρ1 76 + 0)) := f1
      rw [r1, r76] at f1
      obtain ⟨f2, gf⟩ := hb_unc gf
      have f2 : 0 ≤ 0 + ((-1) * ρ1 2 + (1 * ρ1 77 + 0)) := f2
      rw [r2, r77] at f2
      obtain ⟨f3, gf⟩ := hb_unc gf
      have f3 : 0 ≤ 0 + (1 * ρ1 2 + ((-1) * ρ1 77 + 0)) := f3
      rw [r2, r77] at f3
      obtain ⟨f4, gf⟩ := hb_unc gf
      have f4 : 0 ≤ 0 + ((-1) * ρ1 3 + (1 * ρ1 78 + 0)) := f4
      rw [r3, r78] at f4
      obtain ⟨f5, gf⟩ := hb_unc gf
      have f5 : 0 ≤ 0 + (1 * ρ1 3 + ((-1) * ρ1 78 + 0)) := f5
      rw [r3, r78] at f5
      obtain ⟨f6, gf⟩ := hb_unc gf
      have f6 : 0 ≤ 0 + ((-1) * ρ1 4 + (1 * ρ1 79 + 0)) := f6
      rw [r4, r79] at f6
      obtain ⟨f7, gf⟩ := hb_unc gf
      have f7 : 0 ≤ 0 + (1 * ρ1 4 + ((-1) * ρ1 79 + 0)) := f7
      rw [r4, r79] at f7
      obtain ⟨f8, gf⟩ := hb_unc gf
      have f8 : 0 ≤ 0 + ((-1) * ρ1 5 + (1 * ρ1 80 + 0)) := f8
      rw [r5, r80] at f8
      obtain ⟨f9, gf⟩ := hb_unc gf
      have f9 : 0 ≤ 0 + (1 * ρ1 5 + ((-1) * ρ1 80 + 0)) := f9
      rw [r5, r80] at f9
      obtain ⟨f10, gf⟩ := hb_unc gf
      have f10 : 0 ≤ 0 + ((-1) * ρ1 6 + (1 * ρ1 81 + 0)) := f10
      rw [r6, r81] at f10
      obtain ⟨f11, gf⟩ := hb_unc gf
      have f11 : 0 ≤ 0 + (1 * ρ1 6 + ((-1) * ρ1 81 + 0)) := f11
      rw [r6, r81] at f11
      obtain ⟨f12, gf⟩ := hb_unc gf
      have f12 : 0 ≤ 0 + ((-1) * ρ1 7 + (1 * ρ1 82 + 0)) := f12
      rw [r7, r82] at f12
      obtain ⟨f13, gf⟩ := hb_unc gf
      have f13 : 0 ≤ 0 + (1 * ρ1 7 + ((-1) * ρ1 82 + 0)) := f13
      rw [r7, r82] at f13
      obtain ⟨f14, gf⟩ := hb_unc gf
      have f14 : 0 ≤ 0 + ((-1) * ρ1 8 + (1 * ρ1 83 + 0)) := f14
      rw [r8, r83] at f14
      obtain ⟨f15, gf⟩ := hb_unc gf
      have f15 : 0 ≤ 0 + (1 * ρ1 8 + ((-1) * ρ1 83 + 0)) := f15
      rw [r8, r83] at f15
      obtain ⟨f16, gf⟩ := hb_unc gf
      have f16 : 0 ≤ 0 + ((-1) * ρ1 9 + (1 * ρ1 84 + 0)) := f16
      rw [r9, r84] at f16
      obtain ⟨f17, gf⟩ := hb_unc gf
      have f17 : 0 ≤ 0 + (1 * ρ1 9 + ((-1) * ρ1 84 + 0)) := f17
      rw [r9, r84] at f17
      obtain ⟨f18, gf⟩ := hb_unc gf
      have f18 : 0 ≤ 0 + ((-1) * ρ1 10 + (1 * ρ1 85 + 0)) := f18
      rw [r10, r85] at f18
      obtain ⟨f19, gf⟩ := hb_unc gf
      have f19 : 0 ≤ 0 + (1 * ρ1 10 + ((-1) * ρ1 85 + 0)) := f19
      rw [r10, r85] at f19
      obtain ⟨f20, gf⟩ := hb_unc gf
      have f20 : 0 ≤ 0 + ((-1) * ρ1 11 + (1 * ρ1 86 + 0)) := f20
      rw [r11, r86] at f20
      obtain ⟨f21, gf⟩ := hb_unc gf
      have f21 : 0 ≤ 0 + (1 * ρ1 11 + ((-1) * ρ1 86 + 0)) := f21
      rw [r11, r86] at f21
      obtain ⟨f22, gf⟩ := hb_unc gf
      have f22 : 0 ≤ 0 + (1 * ρ1 87 + 0) := f22
      rw [r87] at f22
      obtain ⟨f23, gf⟩ := hb_unc gf
      have f23 : 0 ≤ 0 + ((-1) * ρ1 87 + 0) := f23
      rw [r87] at f23
      obtain ⟨f24, gf⟩ := hb_unc gf
      have f24 : 0 ≤ 0 + ((-6) * ρ1 1 + (1 * ρ1 88 + 0)) := f24
      rw [r1, r88] at f24
      obtain ⟨f25, gf⟩ := hb_unc gf
      have f25 : 0 ≤ 0 + (6 * ρ1 1 + ((-1) * ρ1 88 + 0)) := f25
      rw [r1, r88] at f25
      obtain ⟨f26, gf⟩ := hb_unc gf
      have f26 : 0 ≤ 0 + (1 * ρ1 4 + ((-1) * ρ1 11 + 0)) := f26
      rw [r4, r11] at f26
      have hy1 : y1 = x1 := hb_inj f0 f1
      subst y1
      have hy2 : y2 = x2 := hb_inj f2 f3
      subst y2
      have hy3 : y3 = x3 := hb_inj f4 f5
      subst y3
      have hy4 : y4 = x4 := hb_inj f6 f7
      subst y4
      have hy5 : y5 = x5 := hb_inj f8 f9
      subst y5
      have hy6 : y6 = x6 := hb_inj f10 f11
      subst y6
      have hy7 : y7 = x7 := hb_inj f12 f13
      subst y7
      have hy8 : y8 = x8 := hb_inj f14 f15
      subst y8
      have hy9 : y9 = x9 := hb_inj f16 f17
      subst y9
      have hy10 : y10 = x10 := hb_inj f18 f19
      subst y10
      have hy11 : y11 = x11 := hb_inj f20 f21
      subst y11
      exact k9 M' y12 y13 gs gx gw g8 ge  (by have h1 := f22; have h2 := f23; omega) (by have h1 := f24; have h2 := f25; omega) (by have h1 := f26; omega)
    rcases List.mem_cons.mp hs with rfl | hs
    · intro ρ1 L' st' M' g1 g2 gm gr gf gs gx gw g8 ge
      obtain ⟨e0, L1, rfl, n0, gg0⟩ := hb_l1 mz_GG g1
      obtain rfl : e0 = 234 := List.mem_singleton.mp n0
      obtain ⟨y1, L1, rfl, qr76, gg1⟩ := hb_l0 mz_GG gg0
      have r76 : ρ1 76 = y1.toInt := qr76
      obtain ⟨y2, L1, rfl, qr77, gg2⟩ := hb_l0 mz_GG gg1
      have r77 : ρ1 77 = y2.toInt := qr77
      obtain ⟨y3, L1, rfl, qr78, gg3⟩ := hb_l0 mz_GG gg2
      have r78 : ρ1 78 = y3.toInt := qr78
      obtain ⟨y4, L1, rfl, qr79, gg4⟩ := hb_l0 mz_GG gg3
      have r79 : ρ1 79 = y4.toInt := qr79
      obtain ⟨y5, L1, rfl, qr80, gg5⟩ := hb_l0 mz_GG gg4
      have r80 : ρ1 80 = y5.toInt := qr80
      obtain ⟨y6, L1, rfl, qr81, gg6⟩ := hb_l0 mz_GG gg5
      have r81 : ρ1 81 = y6.toInt := qr81
      obtain ⟨y7, L1, rfl, qr82, gg7⟩ := hb_l0 mz_GG gg6
      have r82 : ρ1 82 = y7.toInt := qr82
      obtain ⟨y8, L1, rfl, qr83, gg8⟩ := hb_l0 mz_GG gg7
      have r83 : ρ1 83 = y8.toInt := qr83
      obtain ⟨y9, L1, rfl, qr84, gg9⟩ := hb_l0 mz_GG gg8
      have r84 : ρ1 84 = y9.toInt := qr84
      obtain ⟨y10, L1, rfl, qr85, gg10⟩ := hb_l0 mz_GG gg9
      have r85 : ρ1 85 = y10.toInt := qr85
      obtain ⟨y11, L1, rfl, qr86, gg11⟩ := hb_l0 mz_GG gg10
      have r86 : ρ1 86 = y11.toInt := qr86
      obtain ⟨y12, L1, rfl, qr87, gg12⟩ := hb_l0 mz_GG gg11
      have r87 : ρ1 87 = y12.toInt := qr87
      obtain ⟨y13, L1, rfl, qr88, gg13⟩ := hb_l0 mz_GG gg12
      have r88 : ρ1 88 = y13.toInt := qr88
      obtain rfl := hb_ln mz_GG gg13
      obtain rfl := hb_pn mz_GG g2
      have r1 : ρ1 1 = x1.toInt := gr 1 (by decide +kernel)
      have r2 : ρ1 2 = x2.toInt := gr 2 (by decide +kernel)
      have r3 : ρ1 3 = x3.toInt := gr 3 (by decide +kernel)
      have r4 : ρ1 4 = x4.toInt := gr 4 (by decide +kernel)
      have r5 : ρ1 5 = x5.toInt := gr 5 (by decide +kernel)
      have r6 : ρ1 6 = x6.toInt := gr 6 (by decide +kernel)
      have r7 : ρ1 7 = x7.toInt := gr 7 (by decide +kernel)
      have r8 : ρ1 8 = x8.toInt := gr 8 (by decide +kernel)
      have r9 : ρ1 9 = x9.toInt := gr 9 (by decide +kernel)
      have r10 : ρ1 10 = x10.toInt := gr 10 (by decide +kernel)
      have r11 : ρ1 11 = x11.toInt := gr 11 (by decide +kernel)
      obtain ⟨f0, gf⟩ := hb_unc gf
      have f0 : 0 ≤ 0 + ((-1) * ρ1 1 + (1 * ρ1 76 + 0)) := f0
      rw [r1, r76] at f0
      obtain ⟨f1, gf⟩ := hb_unc gf
      have f1 : 0 ≤ 0 + (1 * ρ1 1 + ((-1) * ρ1 76 + 0)) := f1
      rw [r1, r76] at f1
      obtain ⟨f2, gf⟩ := hb_unc gf
      have f2 : 0 ≤ 0 + ((-1) * ρ1 2 + (1 * ρ1 77 + 0)) := f2
      rw [r2, r77] at f2
      obtain ⟨f3, gf⟩ := hb_unc gf
      have f3 : 0 ≤ 0 + (1 * ρ1 2 + ((-1) * ρ1 77 + 0)) := f3
      rw [r2, r77] at f3
      obtain ⟨f4, gf⟩ := hb_unc gf
      have f4 : 0 ≤ 0 + ((-1) * ρ1 3 + (1 * ρ1 78 + 0)) := f4
      rw [r3, r78] at f4
      obtain ⟨f5, gf⟩ := hb_unc gf
      have f5 : 0 ≤ 0 + (1 * ρ1 3 + ((-1) * ρ1 78 + 0)) := f5
      rw [r3, r78] at f5
      obtain ⟨f6, gf⟩ := hb_unc gf
      have f6 : 0 ≤ 0 + ((-1) * ρ1 4 + (1 * ρ1 79 + 0)) := f6
      rw [r4, r79] at f6
      obtain ⟨f7, gf⟩ := hb_unc gf
      have f7 : 0 ≤ 0 + (1 * ρ1 4 + ((-1) * ρ1 79 + 0)) := f7
      rw [r4, r79] at f7
      obtain ⟨f8, gf⟩ := hb_unc gf
      have f8 : 0 ≤ 0 + ((-1) * ρ1 5 + (1 * ρ1 80 + 0)) := f8
      rw [r5, r80] at f8
      obtain ⟨f9, gf⟩ := hb_unc gf
      have f9 : 0 ≤ 0 + (1 * ρ1 5 + ((-1) * ρ1 80 + 0)) := f9
      rw [r5, r80] at f9
      obtain ⟨f10, gf⟩ := hb_unc gf
      have f10 : 0 ≤ 0 + ((-1) * ρ1 6 + (1 * ρ1 81 + 0)) := f10
      rw [r6, r81] at f10
      obtain ⟨f11, gf⟩ := hb_unc gf
      have f11 : 0 ≤ 0 + (1 * ρ1 6 + ((-1) * ρ1 81 + 0)) := f11
      rw [r6, r81] at f11
      obtain ⟨f12, gf⟩ := hb_unc gf
      have f12 : 0 ≤ 0 + ((-1) * ρ1 7 + (1 * ρ1 82 + 0)) := f12
      rw [r7, r82] at f12
      obtain ⟨f13, gf⟩ := hb_unc gf
      have f13 : 0 ≤ 0 + (1 * ρ1 7 + ((-1) * ρ1 82 + 0)) := f13
      rw [r7, r82] at f13
      obtain ⟨f14, gf⟩ := hb_unc gf
      have f14 : 0 ≤ 0 + ((-1) * ρ1 8 + (1 * ρ1 83 + 0)) := f14
      rw [r8, r83] at f14
      obtain ⟨f15, gf⟩ := hb_unc gf
      have f15 : 0 ≤ 0 + (1 * ρ1 8 + ((-1) * ρ1 83 + 0)) := f15
      rw [r8, r83] at f15
      obtain ⟨f16, gf⟩ := hb_unc gf
      have f16 : 0 ≤ 0 + ((-1) * ρ1 9 + (1 * ρ1 84 + 0)) := f16
      rw [r9, r84] at f16
      obtain ⟨f17, gf⟩ := hb_unc gf
      have f17 : 0 ≤ 0 + (1 * ρ1 9 + ((-1) * ρ1 84 + 0)) := f17
      rw [r9, r84] at f17
      obtain ⟨f18, gf⟩ := hb_unc gf
      have f18 : 0 ≤ 0 + ((-1) * ρ1 10 + (1 * ρ1 85 + 0)) := f18
      rw [r10, r85] at f18
      obtain ⟨f19, gf⟩ := hb_unc gf
      have f19 : 0 ≤ 0 + (1 * ρ1 10 + ((-1) * ρ1 85 + 0)) := f19
      rw [r10, r85] at f19
      obtain ⟨f20, gf⟩ := hb_unc gf
      have f20 : 0 ≤ 0 + ((-1) * ρ1 11 + (1 * ρ1 86 + 0)) := f20
      rw [r11, r86] at f20
      obtain ⟨f21, gf⟩ := hb_unc gf
      have f21 : 0 ≤ 0 + (1 * ρ1 11 + ((-1) * ρ1 86 + 0)) := f21
      rw [r11, r86] at f21
      obtain ⟨f22, gf⟩ := hb_unc gf
      have f22 : 0 ≤ -1 + (1 * ρ1 87 + 0) := f22
      rw [r87] at f22
      obtain ⟨f23, gf⟩ := hb_unc gf
      have f23 : 0 ≤ 1 + ((-1) * ρ1 87 + 0) := f23
      rw [r87] at f23
      obtain ⟨f24, gf⟩ := hb_unc gf
      have f24 : 0 ≤ 0 + ((-6) * ρ1 1 + (1 * ρ1 88 + 0)) := f24
      rw [r1, r88] at f24
      obtain ⟨f25, gf⟩ := hb_unc gf
      have f25 : 0 ≤ 0 + (6 * ρ1 1 + ((-1) * ρ1 88 + 0)) := f25
      rw [r1, r88] at f25
      obtain ⟨f26, gf⟩ := hb_unc gf
      have f26 : 0 ≤ 0 + (1 * ρ1 4 + ((-1) * ρ1 11 + 0)) := f26
      rw [r4, r11] at f26
      have hy1 : y1 = x1 := hb_inj f0 f1
      subst y1
      have hy2 : y2 = x2 := hb_inj f2 f3
      subst y2
      have hy3 : y3 = x3 := hb_inj f4 f5
      subst y3
      have hy4 : y4 = x4 := hb_inj f6 f7
      subst y4
      have hy5 : y5 = x5 := hb_inj f8 f9
      subst y5
      have hy6 : y6 = x6 := hb_inj f10 f11
      subst y6
      have hy7 : y7 = x7 := hb_inj f12 f13
      subst y7
      have hy8 : y8 = x8 := hb_inj f14 f15
      subst y8
      have hy9 : y9 = x9 := hb_inj f16 f17
      subst y9
      have hy10 : y10 = x10 := hb_inj f18 f19
      subst y10
      have hy11 : y11 = x11 := hb_inj f20 f21
      subst y11
      exact k10 M' y12 y13 gs gx gw g8 ge  (by have h1 := f22; have h2 := f23; omega) (by have h1 := f24; have h2 := f25; omega) (by have h1 := f26; omega)
    cases hs
  · intro r S hpo
    obtain ⟨b1, b2, b3, b4, b5, p, hp, res, hf, hre⟩ := hpo
    cases hp

def hj_f_q : mz_Q := (132, [(1, 234), (0, 0), (0, 0), (0, 0), (0, 0), (0, 0), (0, 0), (0, 0), (0, 0), (0, 0), (0, 0), (0, 0), (0, 0), (0, 0)], [(0, [(9, 1)]), (23, [(9, -1)]), (0, [(12, 1)]), (1, [(12, -1)]), (0, [(13, 1)]), (24, [(13, -1)]), (0, [(8, 1)]), (300, [(8, -1)])], [], [(0, 0, [(1, [(75, 1)]), (-1, [(75, -1)])]), (0, 0, [(-11, [(8, -1), (75, 1)]), (11, [(8, 1), (75, -1)]), (-1, [(12, 1)])])], [])
def hj_f_s : List mz_Sp2 := [(354, [(1, 234), (0, 0), (0, 0), (0, 0), (0, 0), (0, 0), (0, 0), (0, 0), (0, 0), (0, 0), (0, 0), (0, 0), (0, 0), (0, 0)], [], [(0, [(1, -1), (76, 1)]), (0, [(1, 1), (76, -1)]), (0, [(2, -1), (77, 1)]), (0, [(2, 1), (77, -1)]), (0, [(3, -1), (78, 1)]), (0, [(3, 1), (78, -1)]), (0, [(4, -1), (79, 1)]), (0, [(4, 1), (79, -1)]), (0, [(5, -1), (80, 1)]), (0, [(5, 1), (80, -1)]), (0, [(6, -1), (81, 1)]), (0, [(6, 1), (81, -1)]), (0, [(7, -1), (82, 1)]), (0, [(7, 1), (82, -1)]), (0, [(8, -1), (83, 1)]), (0, [(8, 1), (83, -1)]), (0, [(9, -1), (84, 1)]), (0, [(9, 1), (84, -1)]), (0, [(10, -1), (85, 1)]), (0, [(10, 1), (85, -1)]), (0, [(11, -1), (86, 1)]), (0, [(11, 1), (86, -1)]), (0, [(87, 1)]), (0, [(87, -1)]), (-1, [(13, -1), (88, 1)]), (1, [(13, 1), (88, -1)]), (-1, [(9, 1), (13, -1)]), (0, [(12, -1)])]), (354, [(1, 234), (0, 0), (0, 0), (0, 0), (0, 0), (0, 0), (0, 0), (0, 0), (0, 0), (0, 0), (0, 0), (0, 0), (0, 0), (0, 0)], [], [(0, [(1, -1), (76, 1)]), (0, [(1, 1), (76, -1)]), (0, [(2, -1), (77, 1)]), (0, [(2, 1), (77, -1)]), (0, [(3, -1), (78, 1)]), (0, [(3, 1), (78, -1)]), (0, [(4, -1), (79, 1)]), (0, [(4, 1), (79, -1)]), (0, [(5, -1), (80, 1)]), (0, [(5, 1), (80, -1)]), (0, [(6, -1), (81, 1)]), (0, [(6, 1), (81, -1)]), (0, [(7, -1), (82, 1)]), (0, [(7, 1), (82, -1)]), (0, [(8, -1), (83, 1)]), (0, [(8, 1), (83, -1)]), (0, [(9, -1), (84, 1)]), (0, [(9, 1), (84, -1)]), (0, [(10, -1), (85, 1)]), (0, [(10, 1), (85, -1)]), (0, [(11, -1), (86, 1)]), (0, [(11, 1), (86, -1)]), (0, [(87, 1)]), (0, [(87, -1)]), (-1, [(13, -1), (88, 1)]), (1, [(13, 1), (88, -1)]), (-1, [(9, 1), (13, -1)]), (-1, [(12, 1)])]), (354, [(1, 234), (0, 0), (0, 0), (0, 0), (0, 0), (0, 0), (0, 0), (0, 0), (0, 0), (0, 0), (0, 0), (0, 0), (0, 0), (0, 0)], [], [(0, [(1, -1), (76, 1)]), (0, [(1, 1), (76, -1)]), (0, [(2, -1), (77, 1)]), (0, [(2, 1), (77, -1)]), (0, [(3, -1), (78, 1)]), (0, [(3, 1), (78, -1)]), (0, [(4, -1), (79, 1)]), (0, [(4, 1), (79, -1)]), (0, [(5, -1), (80, 1)]), (0, [(5, 1), (80, -1)]), (0, [(6, -1), (81, 1)]), (0, [(6, 1), (81, -1)]), (0, [(7, -1), (82, 1)]), (0, [(7, 1), (82, -1)]), (0, [(8, -1), (83, 1)]), (0, [(8, 1), (83, -1)]), (0, [(9, -1), (84, 1)]), (0, [(9, 1), (84, -1)]), (0, [(10, -1), (85, 1)]), (0, [(10, 1), (85, -1)]), (0, [(11, -1), (86, 1)]), (0, [(11, 1), (86, -1)]), (-1, [(87, 1)]), (1, [(87, -1)]), (-1, [(13, -1), (88, 1)]), (1, [(13, 1), (88, -1)]), (-1, [(9, 1), (13, -1)]), (-1, [(12, 1)])]), (354, [(1, 234), (0, 0), (0, 0), (0, 0), (0, 0), (0, 0), (0, 0), (0, 0), (0, 0), (0, 0), (0, 0), (0, 0), (0, 0), (0, 0)], [], [(0, [(1, -1), (76, 1)]), (0, [(1, 1), (76, -1)]), (0, [(2, -1), (77, 1)]), (0, [(2, 1), (77, -1)]), (0, [(3, -1), (78, 1)]), (0, [(3, 1), (78, -1)]), (0, [(4, -1), (79, 1)]), (0, [(4, 1), (79, -1)]), (0, [(5, -1), (80, 1)]), (0, [(5, 1), (80, -1)]), (0, [(6, -1), (81, 1)]), (0, [(6, 1), (81, -1)]), (0, [(7, -1), (82, 1)]), (0, [(7, 1), (82, -1)]), (0, [(8, -1), (83, 1)]), (0, [(8, 1), (83, -1)]), (0, [(9, -1), (84, 1)]), (0, [(9, 1), (84, -1)]), (0, [(10, -1), (85, 1)]), (0, [(10, 1), (85, -1)]), (0, [(11, -1), (86, 1)]), (0, [(11, 1), (86, -1)]), (0, [(87, 1)]), (0, [(87, -1)]), (-1, [(13, -1), (88, 1)]), (1, [(13, 1), (88, -1)]), (-1, [(9, 1), (13, -1)]), (-1, [(12, 1)])]), (354, [(1, 234), (0, 0), (0, 0), (0, 0), (0, 0), (0, 0), (0, 0), (0, 0), (0, 0), (0, 0), (0, 0), (0, 0), (0, 0), (0, 0)], [], [(0, [(1, -1), (76, 1)]), (0, [(1, 1), (76, -1)]), (0, [(2, -1), (77, 1)]), (0, [(2, 1), (77, -1)]), (0, [(3, -1), (78, 1)]), (0, [(3, 1), (78, -1)]), (0, [(4, -1), (79, 1)]), (0, [(4, 1), (79, -1)]), (0, [(5, -1), (80, 1)]), (0, [(5, 1), (80, -1)]), (0, [(6, -1), (81, 1)]), (0, [(6, 1), (81, -1)]), (0, [(7, -1), (82, 1)]), (0, [(7, 1), (82, -1)]), (0, [(8, -1), (83, 1)]), (0, [(8, 1), (83, -1)]), (0, [(9, -1), (84, 1)]), (0, [(9, 1), (84, -1)]), (0, [(10, -1), (85, 1)]), (0, [(10, 1), (85, -1)]), (0, [(11, -1), (86, 1)]), (0, [(11, 1), (86, -1)]), (-1, [(87, 1)]), (1, [(87, -1)]), (-1, [(13, -1), (88, 1)]), (1, [(13, 1), (88, -1)]), (-1, [(9, 1), (13, -1)]), (-1, [(12, 1)])])]
def hj_f_h : List mz_H := [(0, 0, []), (0, 0, []), (0, 0, []), (3, 0, []), (0, 0, [(3, 1)]), (0, 0, []), (0, 0, []), (0, 0, []), (0, 0, []), (0, 0, [(8, 1)]), (0, 0, [(9, 1)]), (1, 0, []), (0, 0, []), (0, 0, []), (0, 0, [(0, 1)]), (0, 0, []), (3, 0, []), (0, 0, [(3, 1)]), (0, 0, []), (0, 0, [(7, 1)]), (0, 0, [(8, 1)]), (0, 0, []), (0, 0, []), (0, 0, []), (0, 0, []), (0, 0, []), (0, 0, []), (0, 0, []), (0, 0, []), (0, 0, []), (0, 0, []), (0, 0, []), (0, 0, []), (0, 0, []), (0, 0, []), (0, 0, []), (0, 0, []), (0, 0, []), (0, 0, []), (0, 0, []), (0, 0, []), (0, 0, []), (0, 0, []), (0, 0, []), (0, 0, []), (0, 0, []), (0, 0, []), (0, 0, []), (0, 0, [(2, 1)]), (0, 0, [(0, 1)]), (239, 0, []), (0, 0, [(6, 1)]), (0, 0, [(1, 1), (3, 1)]), (0, 0, []), (0, 0, []), (0, 0, []), (0, 0, [(10, 1)]), (0, 0, [(11, 1)]), (1, 0, []), (0, 0, []), (0, 0, []), (0, 0, []), (0, 0, []), (0, 0, []), (0, 0, []), (0, 0, []), (0, 0, []), (0, 0, []), (0, 0, []), (0, 0, []), (0, 0, []), (0, 0, []), (0, 0, []), (0, 0, []), (0, 0, []), (0, 0, []), (0, 0, []), (0, 0, []), (0, 0, []), (0, 0, []), (0, 0, []), (0, 0, []), (0, 0, []), (0, 0, []), (0, 0, []), (0, 0, [(5, 1)]), (0, 0, [(4, 1)]), (244, 0, []), (0, 0, [(8, 1)]), (0, 0, [(3, 1), (5, 1)]), (0, 0, []), (0, 0, []), (0, 0, []), (0, 0, [(11, 1)]), (0, 0, [(12, 1)]), (2, 0, []), (0, 0, []), (0, 0, []), (0, 0, []), (0, 0, []), (0, 0, []), (0, 0, []), (0, 0, []), (0, 0, []), (0, 0, []), (0, 0, []), (0, 0, []), (0, 0, []), (0, 0, []), (0, 0, []), (0, 0, []), (0, 0, []), (0, 0, []), (0, 0, []), (0, 0, []), (0, 0, []), (0, 0, []), (0, 0, []), (0, 0, []), (0, 0, []), (0, 0, []), (0, 0, []), (0, 0, [(6, 1)]), (0, 0, [(5, 1)]), (244, 0, []), (0, 0, [(11, 1)]), (0, 0, [(6, 1), (8, 1)]), (0, 0, []), (0, 0, [(0, 1)]), (0, 0, [(1, 1)]), (243, 0, []), (0, 0, [(13, 1)]), (0, 0, [(8, 1), (10, 1)]), (0, 0, []), (0, 0, [(0, 1), (2, 1)]), (0, 0, [(1, 1), (3, 1)]), (0, 0, []), (0, 0, []), (0, 0, []), (0, 0, [(16, 1)]), (0, 0, [(17, 1)]), (3, 0, []), (0, 0, []), (0, 0, []), (0, 0, []), (0, 0, []), (0, 0, []), (0, 0, []), (0, 0, []), (0, 0, []), (0, 0, []), (0, 0, []), (0, 0, []), (0, 0, []), (0, 0, []), (0, 0, []), (0, 0, []), (0, 0, []), (0, 0, []), (0, 0, []), (0, 0, []), (0, 0, []), (0, 0, []), (0, 0, []), (0, 0, []), (0, 0, []), (0, 0, []), (0, 0, []), (0, 0, [(11, 1)]), (0, 0, [(10, 1)]), (0, 0, []), (0, 0, [(16, 1)]), (0, 0, [(17, 1)]), (4, 0, []), (0, 0, []), (0, 0, []), (0, 0, []), (0, 0, []), (0, 0, []), (0, 0, []), (0, 0, []), (0, 0, []), (0, 0, []), (0, 0, []), (0, 0, []), (0, 0, []), (0, 0, []), (0, 0, []), (0, 0, []), (0, 0, []), (0, 0, []), (0, 0, []), (0, 0, []), (0, 0, []), (0, 0, []), (0, 0, []), (0, 0, []), (0, 0, []), (0, 0, []), (0, 0, []), (0, 0, [(11, 1)]), (0, 0, [(10, 1)])]
set_option maxRecDepth 100000 in
theorem hj_f_c : mz_blk mz_GG mq_PP mz_Cs hj_f_q 14 1 354 hj_f_s [] 71 hj_f_h = true := by decide +kernel
theorem hj_f {X : (Nat → mq_C) → Prop} (hX : ∀ M M' : Nat → mq_C, mz_same mz_GG M M' → X M → X M') (hC : ∀ c ∈ mz_Cs, c.2 < 1 → mz_Ct mz_GG mq_PP X c.1 c.2) {d z u : Nat} {M : Nat → mq_C} {Q : (Option Value ⊕ Nat) → mq_S → Prop} {x1 : Int32} {x2 : Int32} {x3 : Int32} {x4 : Int32} {x5 : Int32} {x6 : Int32} {x7 : Int32} {x8 : Int32} {x9 : Int32} {x10 : Int32} {x11 : Int32} {x12 : Int32} {x13 : Int32} (hd : 1 ≤ d) (hz : 272 ≤ z) (hm : mz_sh mz_GG M) (hx : X M) (p0 : 0 ≤ x9.toInt) (p1 : 0 ≤ 23 - x9.toInt) (p2 : 0 ≤ x12.toInt) (p3 : 0 ≤ 1 - x12.toInt) (p4 : 0 ≤ x13.toInt) (p5 : 0 ≤ 24 - x13.toInt) (p6 : 0 ≤ x8.toInt) (p7 : 0 ≤ 300 - x8.toInt)
    (k0 : ∀ (M' : Nat → mq_C) (y12 : Int32) (y13 : Int32), mz_sh mz_GG M' → X M' → mz_fr hj_f_q M M' → (∀ a, a < 8 → M' a = M a) → hb_same mz_GG hj_f_q M M' → y12.toInt = 0 → y13.toInt = 1 + x13.toInt → 0 ≤ (-1) + x9.toInt - x13.toInt → 0 ≤ 0 - x12.toInt → mq_R mq_PP d 132 354 [some (.ref 234), some (.int x1), some (.int x2), some (.int x3), some (.int x4), some (.int x5), some (.int x6), some (.int x7), some (.int x8), some (.int x9), some (.int x10), some (.int x11), some (.int y12), some (.int y13)] [] (M', z, u) Q)
    (k1 : ∀ (M' : Nat → mq_C) (y12 : Int32) (y13 : Int32), mz_sh mz_GG M' → X M' → mz_fr hj_f_q M M' → (∀ a, a < 8 → M' a = M a) → hb_same mz_GG hj_f_q M M' → y12.toInt = 0 → y13.toInt = 1 + x13.toInt → 0 ≤ (-1) + x9.toInt - x13.toInt → 0 ≤ (-1) + x12.toInt → mq_R mq_PP d 132 354 [some (.ref 234), some (.int x1), some (.int x2), some (.int x3), some (.int x4), some (.int x5), some (.int x6), some (.int x7), some (.int x8), some (.int x9), some (.int x10), some (.int x11), some (.int y12), some (.int y13)] [] (M', z, u) Q)
    (k2 : ∀ (M' : Nat → mq_C) (y12 : Int32) (y13 : Int32), mz_sh mz_GG M' → X M' → mz_fr hj_f_q M M' → (∀ a, a < 8 → M' a = M a) → hb_same mz_GG hj_f_q M M' → y12.toInt = 1 → y13.toInt = 1 + x13.toInt → 0 ≤ (-1) + x9.toInt - x13.toInt → 0 ≤ (-1) + x12.toInt → mq_R mq_PP d 132 354 [some (.ref 234), some (.int x1), some (.int x2), some (.int x3), some (.int x4), some (.int x5), some (.int x6), some (.int x7), some (.int x8), some (.int x9), some (.int x10), some (.int x11), some (.int y12), some (.int y13)] [] (M', z, u) Q)
    (k3 : ∀ (M' : Nat → mq_C) (y12 : Int32) (y13 : Int32), mz_sh mz_GG M' → X M' → mz_fr hj_f_q M M' → (∀ a, a < 8 → M' a = M a) → hb_same mz_GG hj_f_q M M' → y12.toInt = 0 → y13.toInt = 1 + x13.toInt → 0 ≤ (-1) + x9.toInt - x13.toInt → 0 ≤ (-1) + x12.toInt → mq_R mq_PP d 132 354 [some (.ref 234), some (.int x1), some (.int x2), some (.int x3), some (.int x4), some (.int x5), some (.int x6), some (.int x7), some (.int x8), some (.int x9), some (.int x10), some (.int x11), some (.int y12), some (.int y13)] [] (M', z, u) Q)
    (k4 : ∀ (M' : Nat → mq_C) (y12 : Int32) (y13 : Int32), mz_sh mz_GG M' → X M' → mz_fr hj_f_q M M' → (∀ a, a < 8 → M' a = M a) → hb_same mz_GG hj_f_q M M' → y12.toInt = 1 → y13.toInt = 1 + x13.toInt → 0 ≤ (-1) + x9.toInt - x13.toInt → 0 ≤ (-1) + x12.toInt → mq_R mq_PP d 132 354 [some (.ref 234), some (.int x1), some (.int x2), some (.int x3), some (.int x4), some (.int x5), some (.int x6), some (.int x7), some (.int x8), some (.int x9), some (.int x10), some (.int x11), some (.int y12), some (.int y13)] [] (M', z, u) Q)
    (w0 : ∀ (M' : Nat → mq_C) (r : Int32), mz_sh mz_GG M' → X M' → mz_fr hj_f_q M M' → (∀ a, a < 8 → M' a = M a) → hb_same mz_GG hj_f_q M M' → 0 ≤ 1 + r.toInt → 0 ≤ (-1) - r.toInt → Q (.inl (some (.int r))) (M', z, u))
    (w1 : ∀ (M' : Nat → mq_C) (r : Int32), mz_sh mz_GG M' → X M' → mz_fr hj_f_q M M' → (∀ a, a < 8 → M' a = M a) → hb_same mz_GG hj_f_q M M' → 0 ≤ (-11) - x8.toInt + r.toInt → 0 ≤ 11 + x8.toInt - r.toInt → 0 ≤ (-1) + x12.toInt → Q (.inl (some (.int r))) (M', z, u)) : mq_R mq_PP d 132 354 [some (.ref 234), some (.int x1), some (.int x2), some (.int x3), some (.int x4), some (.int x5), some (.int x6), some (.int x7), some (.int x8), some (.int x9), some (.int x10), some (.int x11), some (.int x12), some (.int x13)] [] (M, z, u) Q := by
  refine hb_blk mz_GG mq_PP X (q := hj_f_q) (nl := 14) (M := M) hb_okG hX hC hj_f_c hz hd (L := [some (.ref 234), some (.int x1), some (.int x2), some (.int x3), some (.int x4), some (.int x5), some (.int x6), some (.int x7), some (.int x8), some (.int x9), some (.int x10), some (.int x11), some (.int x12), some (.int x13)]) (st := []) (show hb_lk mz_GG ([(1, 234), (0, 0), (0, 0), (0, 0), (0, 0), (0, 0), (0, 0), (0, 0), (0, 0), (0, 0), (0, 0), (0, 0), (0, 0), (0, 0)]) _ from ⟨⟨List.mem_singleton.mpr rfl, rfl⟩, trivial, trivial, trivial, trivial, trivial, trivial, trivial, trivial, trivial, trivial, trivial, trivial, trivial, trivial⟩) (show hb_pk mz_GG ([]) _ from trivial) hm hx ?_ ?_ ?_
  · exact hb_cons (show 0 ≤ mz_ev _ _ from (show 0 ≤ 0 + (1 * x9.toInt + 0) by omega)) (hb_cons (show 0 ≤ mz_ev _ _ from (show 0 ≤ 23 + ((-1) * x9.toInt + 0) by omega)) (hb_cons (show 0 ≤ mz_ev _ _ from (show 0 ≤ 0 + (1 * x12.toInt + 0) by omega)) (hb_cons (show 0 ≤ mz_ev _ _ from (show 0 ≤ 1 + ((-1) * x12.toInt + 0) by omega)) (hb_cons (show 0 ≤ mz_ev _ _ from (show 0 ≤ 0 + (1 * x13.toInt + 0) by omega)) (hb_cons (show 0 ≤ mz_ev _ _ from (show 0 ≤ 24 + ((-1) * x13.toInt + 0) by omega)) (hb_cons (show 0 ≤ mz_ev _ _ from (show 0 ≤ 0 + (1 * x8.toInt + 0) by omega)) (hb_cons (show 0 ≤ mz_ev _ _ from (show 0 ≤ 300 + ((-1) * x8.toInt + 0) by omega)) (hb_nil))))))))
  · intro s hs
    rcases List.mem_cons.mp hs with rfl | hs
    · intro ρ1 L' st' M' g1 g2 gm gr gf gs gx gw g8 ge
      obtain ⟨e0, L1, rfl, n0, gg0⟩ := hb_l1 mz_GG g1
      obtain rfl : e0 = 234 := List.mem_singleton.mp n0
      obtain ⟨y1, L1, rfl, qr76, gg1⟩ := hb_l0 mz_GG gg0
      have r76 : ρ1 76 = y1.toInt := qr76
      obtain ⟨y2, L1, rfl, qr77, gg2⟩ := hb_l0 mz_GG gg1
      have r77 : ρ1 77 = y2.toInt := qr77
      obtain ⟨y3, L1, rfl, qr78, gg3⟩ := hb_l0 mz_GG gg2
      have r78 : ρ1 78 = y3.toInt := qr78
      obtain ⟨y4, L1, rfl, qr79, gg4⟩ := hb_l0 mz_GG gg3
      have r79 : ρ1 79 = y4.toInt := qr79
      obtain ⟨y5, L1, rfl, qr80, gg5⟩ := hb_l0 mz_GG gg4
      have r80 : ρ1 80 = y5.toInt := qr80
      obtain ⟨y6, L1, rfl, qr81, gg6⟩ := hb_l0 mz_GG gg5
      have r81 : ρ1 81 = y6.toInt := qr81
      obtain ⟨y7, L1, rfl, qr82, gg7⟩ := hb_l0 mz_GG gg6
      have r82 : ρ1 82 = y7.toInt := qr82
      obtain ⟨y8, L1, rfl, qr83, gg8⟩ := hb_l0 mz_GG gg7
      have r83 : ρ1 83 = y8.toInt := qr83
      obtain ⟨y9, L1, rfl, qr84, gg9⟩ := hb_l0 mz_GG gg8
      have r84 : ρ1 84 = y9.toInt := qr84
      obtain ⟨y10, L1, rfl, qr85, gg10⟩ := hb_l0 mz_GG gg9
      have r85 : ρ1 85 = y10.toInt := qr85
      obtain ⟨y11, L1, rfl, qr86, gg11⟩ := hb_l0 mz_GG gg10
      have r86 : ρ1 86 = y11.toInt := qr86
      obtain ⟨y12, L1, rfl, qr87, gg12⟩ := hb_l0 mz_GG gg11
      have r87 : ρ1 87 = y12.toInt := qr87
      obtain ⟨y13, L1, rfl, qr88, gg13⟩ := hb_l0 mz_GG gg12
      have r88 : ρ1 88 = y13.toInt := qr88
      obtain rfl := hb_ln mz_GG gg13
      obtain rfl := hb_pn mz_GG g2
      have r1 : ρ1 1 = x1.toInt := gr 1 (by decide +kernel)
      have r2 : ρ1 2 = x2.toInt := gr 2 (by decide +kernel)
      have r3 : ρ1 3 = x3.toInt := gr 3 (by decide +kernel)
      have r4 : ρ1 4 = x4.toInt := gr 4 (by decide +kernel)
      have r5 : ρ1 5 = x5.toInt := gr 5 (by decide +kernel)
      have r6 : ρ1 6 = x6.toInt := gr 6 (by decide +kernel)
      have r7 : ρ1 7 = x7.toInt := gr 7 (by decide +kernel)
      have r8 : ρ1 8 = x8.toInt := gr 8 (by decide +kernel)
      have r9 : ρ1 9 = x9.toInt := gr 9 (by decide +kernel)
      have r10 : ρ1 10 = x10.toInt := gr 10 (by decide +kernel)
      have r11 : ρ1 11 = x11.toInt := gr 11 (by decide +kernel)
      have r12 : ρ1 12 = x12.toInt := gr 12 (by decide +kernel)
      have r13 : ρ1 13 = x13.toInt := gr 13 (by decide +kernel)
      obtain ⟨f0, gf⟩ := hb_unc gf
      have f0 : 0 ≤ 0 + ((-1) * ρ1 1 + (1 * ρ1 76 + 0)) := f0
      rw [r1, r76] at f0
      obtain ⟨f1, gf⟩ := hb_unc gf
      have f1 : 0 ≤ 0 + (1 * ρ1 1 + ((-1) * ρ1 76 + 0)) := f1
      rw [r1, r76] at f1
      obtain ⟨f2, gf⟩ := hb_unc gf
      have f2 : 0 ≤ 0 + ((-1) * ρ1 2 + (1 * ρ1 77 + 0)) := f2
      rw [r2, r77] at f2
      obtain ⟨f3, gf⟩ := hb_unc gf
      have f3 : 0 ≤ 0 + (1 * ρ1 2 + ((-1) * ρ1 77 + 0)) := f3
      rw [r2, r77] at f3
      obtain ⟨f4, gf⟩ := hb_unc gf
      have f4 : 0 ≤ 0 + ((-1) * ρ1 3 + (1 * ρ1 78 + 0)) := f4
      rw [r3, r78] at f4
      obtain ⟨f5, gf⟩ := hb_unc gf
      have f5 : 0 ≤ 0 + (1 * ρ1 3 + ((-1) * ρ1 78 + 0)) := f5
      rw [r3, r78] at f5
      obtain ⟨f6, gf⟩ := hb_unc gf
      have f6 : 0 ≤ 0 + ((-1) * ρ1 4 + (1 * ρ1 79 + 0)) := f6
      rw [r4, r79] at f6
      obtain ⟨f7, gf⟩ := hb_unc gf
      have f7 : 0 ≤ 0 + (1 * ρ1 4 + ((-1) * ρ1 79 + 0)) := f7
      rw [r4, r79] at f7
      obtain ⟨f8, gf⟩ := hb_unc gf
      have f8 : 0 ≤ 0 + ((-1) * ρ1 5 + (1 * ρ1 80 + 0)) := f8
      rw [r5, r80] at f8
      obtain ⟨f9, gf⟩ := hb_unc gf
      have f9 : 0 ≤ 0 + (1 * ρ1 5 + ((-1) * ρ1 80 + 0)) := f9
      rw [r5, r80] at f9
      obtain ⟨f10, gf⟩ := hb_unc gf
      have f10 : 0 ≤ 0 + ((-1) * ρ1 6 + (1 * ρ1 81 + 0)) := f10
      rw [r6, r81] at f10
      obtain ⟨f11, gf⟩ := hb_unc gf
      have f11 : 0 ≤ 0 + (1 * ρ1 6 + ((-1) * ρ1 81 + 0)) := f11
      rw [r6, r81] at f11
      obtain ⟨f12, gf⟩ := hb_unc gf
      have f12 : 0 ≤ 0 + ((-1) * ρ1 7 + (1 * ρ1 82 + 0)) := f12
      rw [r7, r82] at f12
      obtain ⟨f13, gf⟩ := hb_unc gf
      have f13 : 0 ≤ 0 + (1 * ρ1 7 + ((-1) * ρ1 82 + 0)) := f13
      rw [r7, r82] at f13
      obtain ⟨f14, gf⟩ := hb_unc gf
      have f14 : 0 ≤ 0 + ((-1) * ρ1 8 + (1 * ρ1 83 + 0)) := f14
      rw [r8, r83] at f14
      obtain ⟨f15, gf⟩ := hb_unc gf
      have f15 : 0 ≤ 0 + (1 * ρ1 8 + ((-1) * ρ1 83 + 0)) := f15
      rw [r8, r83] at f15
      obtain ⟨f16, gf⟩ := hb_unc gf
      have f16 : 0 ≤ 0 + ((-1) * ρ1 9 + (1 * ρ1 84 + 0)) := f16
      rw [r9, r84] at f16
      obtain ⟨f17, gf⟩ := hb_unc gf
      have f17 : 0 ≤ 0 + (1 * ρ1 9 + ((-1) * ρ1 84 + 0)) := f17
      rw [r9, r84] at f17
      obtain ⟨f18, gf⟩ := hb_unc gf
      have f18 : 0 ≤ 0 + ((-1) * ρ1 10 + (1 * ρ1 85 + 0)) := f18
      rw [r10, r85] at f18
      obtain ⟨f19, gf⟩ := hb_unc gf
      have f19 : 0 ≤ 0 + (1 * ρ1 10 + ((-1) * ρ1 85 + 0)) := f19
      rw [r10, r85] at f19
      obtain ⟨f20, gf⟩ := hb_unc gf
      have f20 : 0 ≤ 0 + ((-1) * ρ1 11 + (1 * ρ1 86 + 0)) := f20
      rw [r11, r86] at f20
      obtain ⟨f21, gf⟩ := hb_unc gf
      have f21 : 0 ≤ 0 + (1 * ρ1 11 + ((-1) * ρ1 86 + 0)) := f21
      rw [r11, r86] at f21
      obtain ⟨f22, gf⟩ := hb_unc gf
      have f22 : 0 ≤ 0 + (1 * ρ1 87 + 0) := f22
      rw [r87] at f22
      obtain ⟨f23, gf⟩ := hb_unc gf
      have f23 : 0 ≤ 0 + ((-1) * ρ1 87 + 0) := f23
      rw [r87] at f23
      obtain ⟨f24, gf⟩ := hb_unc gf
      have f24 : 0 ≤ -1 + ((-1) * ρ1 13 + (1 * ρ1 88 + 0)) := f24
      rw [r13, r88] at f24
      obtain ⟨f25, gf⟩ := hb_unc gf
      have f25 : 0 ≤ 1 + (1 * ρ1 13 + ((-1) * ρ1 88 + 0)) := f25
      rw [r13, r88] at f25
      obtain ⟨f26, gf⟩ := hb_unc gf
      have f26 : 0 ≤ -1 + (1 * ρ1 9 + ((-1) * ρ1 13 + 0)) := f26
      rw [r9, r13] at f26
      obtain ⟨f27, gf⟩ := hb_unc gf
      have f27 : 0 ≤ 0 + ((-1) * ρ1 12 + 0) := f27
      rw [r12] at f27
      have hy1 : y1 = x1 := hb_inj f0 f1
      subst y1
      have hy2 : y2 = x2 := hb_inj f2 f3
      subst y2
      have hy3 : y3 = x3 := hb_inj f4 f5
      subst y3
      have hy4 : y4 = x4 := hb_inj f6 f7
      subst y4
      have hy5 : y5 = x5 := hb_inj f8 f9
      subst y5
      have hy6 : y6 = x6 := hb_inj f10 f11
      subst y6
      have hy7 : y7 = x7 := hb_inj f12 f13
      subst y7
      have hy8 : y8 = x8 := hb_inj f14 f15
      subst y8
      have hy9 : y9 = x9 := hb_inj f16 f17
      subst y9
      have hy10 : y10 = x10 := hb_inj f18 f19
      subst y10
      have hy11 : y11 = x11 := hb_inj f20 f21
      subst y11
      exact k0 M' y12 y13 gs gx gw g8 ge  (by have h1 := f22; have h2 := f23; omega) (by have h1 := f24; have h2 := f25; omega) (by have h1 := f26; omega) (by have h1 := f27; omega)
    rcases List.mem_cons.mp hs with rfl | hs
    · intro ρ1 L' st' M' g1 g2 gm gr gf gs gx gw g8 ge
      obtain ⟨e0, L1, rfl, n0, gg0⟩ := hb_l1 mz_GG g1
      obtain rfl : e0 = 234 := List.mem_singleton.mp n0
      obtain ⟨y1, L1, rfl, qr76, gg1⟩ := hb_l0 mz_GG gg0
      have r76 : ρ1 76 = y1.toInt := qr76
      obtain ⟨y2, L1, rfl, qr77, gg2⟩ := hb_l0 mz_GG gg1
      have r77 : ρ1 77 = y2.toInt := qr77
      obtain ⟨y3, L1, rfl, qr78, gg3⟩ := hb_l0 mz_GG gg2
      have r78 : ρ1 78 = y3.toInt := qr78
      obtain ⟨y4, L1, rfl, qr79, gg4⟩ := hb_l0 mz_GG gg3
      have r79 : ρ1 79 = y4.toInt := qr79
      obtain ⟨y5, L1, rfl, qr80, gg5⟩ := hb_l0 mz_GG gg4
      have r80 : ρ1 80 = y5.toInt := qr80
      obtain ⟨y6, L1, rfl, qr81, gg6⟩ := hb_l0 mz_GG gg5
      have r81 : ρ1 81 = y6.toInt := qr81
      obtain ⟨y7, L1, rfl, qr82, gg7⟩ := hb_l0 mz_GG gg6
      have r82 : ρ1 82 = y7.toInt := qr82
      obtain ⟨y8, L1, rfl, qr83, gg8⟩ := hb_l0 mz_GG gg7
      have r83 : ρ1 83 = y8.toInt := qr83
      obtain ⟨y9, L1, rfl, qr84, gg9⟩ := hb_l0 mz_GG gg8
      have r84 : ρ1 84 = y9.toInt := qr84
      obtain ⟨y10, L1, rfl, qr85, gg10⟩ := hb_l0 mz_GG gg9
      have r85 : ρ1 85 = y10.toInt := qr85
      obtain ⟨y11, L1, rfl, qr86, gg11⟩ := hb_l0 mz_GG gg10
      have r86 : ρ1 86 = y11.toInt := qr86
      obtain ⟨y12, L1, rfl, qr87, gg12⟩ := hb_l0 mz_GG gg11
      have r87 : ρ1 87 = y12.toInt := qr87
      obtain ⟨y13, L1, rfl, qr88, gg13⟩ := hb_l0 mz_GG gg12
      have r88 : ρ1 88 = y13.toInt := qr88
      obtain rfl := hb_ln mz_GG gg13
      obtain rfl := hb_pn mz_GG g2
      have r1 : ρ1 1 = x1.toInt := gr 1 (by decide +kernel)
      have r2 : ρ1 2 = x2.toInt := gr 2 (by decide +kernel)
      have r3 : ρ1 3 = x3.toInt := gr 3 (by decide +kernel)
      have r4 : ρ1 4 = x4.toInt := gr 4 (by decide +kernel)
      have r5 : ρ1 5 = x5.toInt := gr 5 (by decide +kernel)
      have r6 : ρ1 6 = x6.toInt := gr 6 (by decide +kernel)
      have r7 : ρ1 7 = x7.toInt := gr 7 (by decide +kernel)
      have r8 : ρ1 8 = x8.toInt := gr 8 (by decide +kernel)
      have r9 : ρ1 9 = x9.toInt := gr 9 (by decide +kernel)
      have r10 : ρ1 10 = x10.toInt := gr 10 (by decide +kernel)
      have r11 : ρ1 11 = x11.toInt := gr 11 (by decide +kernel)
      have r12 : ρ1 12 = x12.toInt := gr 12 (by decide +kernel)
      have r13 : ρ1 13 = x13.toInt := gr 13 (by decide +kernel)
      obtain ⟨f0, gf⟩ := hb_unc gf
      have f0 : 0 ≤ 0 + ((-1) * ρ1 1 + (1 * ρ1 76 + 0)) := f0
      rw [r1, r76] at f0
      obtain ⟨f1, gf⟩ := hb_unc gf
      have f1 : 0 ≤ 0 + (1 * ρ1 1 + ((-1) * ρ1 76 + 0)) := f1
      rw [r1, r76] at f1
      obtain ⟨f2, gf⟩ := hb_unc gf
      have f2 : 0 ≤ 0 + ((-1) * ρ1 2 + (1 * ρ1 77 + 0)) := f2
      rw [r2, r77] at f2
      obtain ⟨f3, gf⟩ := hb_unc gf
      have f3 : 0 ≤ 0 + (1 * ρ1 2 + ((-1) * ρ1 77 + 0)) := f3
      rw [r2, r77] at f3
      obtain ⟨f4, gf⟩ := hb_unc gf
      have f4 : 0 ≤ 0 + ((-1) * ρ1 3 + (1 * ρ1 78 + 0)) := f4
      rw [r3, r78] at f4
      obtain ⟨f5, gf⟩ := hb_unc gf
      have f5 : 0 ≤ 0 + (1 * ρ1 3 + ((-1) * ρ1 78 + 0)) := f5
      rw [r3, r78] at f5
      obtain ⟨f6, gf⟩ := hb_unc gf
      have f6 : 0 ≤ 0 + ((-1) * ρ1 4 + (1 * ρ1 79 + 0)) := f6
      rw [r4, r79] at f6
      obtain ⟨f7, gf⟩ := hb_unc gf
      have f7 : 0 ≤ 0 + (1 * ρ1 4 + ((-1) * ρ1 79 + 0)) := f7
      rw [r4, r79] at f7
      obtain ⟨f8, gf⟩ := hb_unc gf
      have f8 : 0 ≤ 0 + ((-1) * ρ1 5 + (1 * ρ1 80 + 0)) := f8
      rw [r5, r80] at f8
      obtain ⟨f9, gf⟩ := hb_unc gf
      have f9 : 0 ≤ 0 + (1 * ρ1 5 + ((-1) * ρ1 80 + 0)) := f9
      rw [r5, r80] at f9
      obtain ⟨f10, gf⟩ := hb_unc gf
      have f10 : 0 ≤ 0 + ((-1) * ρ1 6 + (1 * ρ1 81 + 0)) := f10
      rw [r6, r81] at f10
      obtain ⟨f11, gf⟩ := hb_unc gf
      have f11 : 0 ≤ 0 + (1 * ρ1 6 + ((-1) * ρ1 81 + 0)) := f11
      rw [r6, r81] at f11
      obtain ⟨f12, gf⟩ := hb_unc gf
      have f12 : 0 ≤ 0 + ((-1) * ρ1 7 + (1 * ρ1 82 + 0)) := f12
      rw [r7, r82] at f12
      obtain ⟨f13, gf⟩ := hb_unc gf
      have f13 : 0 ≤ 0 + (1 * ρ1 7 + ((-1) * ρ1 82 + 0)) := f13
      rw [r7, r82] at f13
      obtain ⟨f14, gf⟩ := hb_unc gf
      have f14 : 0 ≤ 0 + ((-1) * ρ1 8 + (1 * ρ1 83 + 0)) := f14
      rw [r8, r83] at f14
      obtain ⟨f15, gf⟩ := hb_unc gf
      have f15 : 0 ≤ 0 + (1 * ρ1 8 + ((-1) * ρ1 83 + 0)) := f15
      rw [r8, r83] at f15
      obtain ⟨f16, gf⟩ := hb_unc gf
      have f16 : 0 ≤ 0 + ((-1) * ρ1 9 + (1 * ρ1 84 + 0)) := f16
      rw [r9, r84] at f16
      obtain ⟨f17, gf⟩ := hb_unc gf
      have f17 : 0 ≤ 0 + (1 * ρ1 9 + ((-1) * ρ1 84 + 0)) := f17
      rw [r9, r84] at f17
      obtain ⟨f18, gf⟩ := hb_unc gf
      have f18 : 0 ≤ 0 + ((-1) * ρ1 10 + (1 * ρ1 85 + 0)) := f18
      rw [r10, r85] at f18
      obtain ⟨f19, gf⟩ := hb_unc gf
      have f19 : 0 ≤ 0 + (1 * ρ1 10 + ((-1) * ρ1 85 + 0)) := f19
      rw [r10, r85] at f19
      obtain ⟨f20, gf⟩ := hb_unc gf
      have f20 : 0 ≤ 0 + ((-1) * ρ1 11 + (1 * ρ1 86 + 0)) := f20
      rw [r11, r86] at f20
      obtain ⟨f21, gf⟩ := hb_unc gf
      have f21 : 0 ≤ 0 + (1 * ρ1 11 + ((-1) * ρ1 86 + 0)) := f21
      rw [r11, r86] at f21
      obtain ⟨f22, gf⟩ := hb_unc gf
      have f22 : 0 ≤ 0 + (1 * ρ1 87 + 0) := f22
      rw [r87] at f22
      obtain ⟨f23, gf⟩ := hb_unc gf
      have f23 : 0 ≤ 0 + ((-1) * ρ1 87 + 0) := f23
      rw [r87] at f23
      obtain ⟨f24, gf⟩ := hb_unc gf
      have f24 : 0 ≤ -1 + ((-1) * ρ1 13 + (1 * ρ1 88 + 0)) := f24
      rw [r13, r88] at f24
      obtain ⟨f25, gf⟩ := hb_unc gf
      have f25 : 0 ≤ 1 + (1 * ρ1 13 + ((-1) * ρ1 88 + 0)) := f25
      rw [r13, r88] at f25
      obtain ⟨f26, gf⟩ := hb_unc gf
      have f26 : 0 ≤ -1 + (1 * ρ1 9 + ((-1) * ρ1 13 + 0)) := f26
      rw [r9, r13] at f26
      obtain ⟨f27, gf⟩ := hb_unc gf
      have f27 : 0 ≤ -1 + (1 * ρ1 12 + 0) := f27
      rw [r12] at f27
      have hy1 : y1 = x1 := hb_inj f0 f1
      subst y1
      have hy2 : y2 = x2 := hb_inj f2 f3
      subst y2
      have hy3 : y3 = x3 := hb_inj f4 f5
      subst y3
      have hy4 : y4 = x4 := hb_inj f6 f7
      subst y4
      have hy5 : y5 = x5 := hb_inj f8 f9
      subst y5
      have hy6 : y6 = x6 := hb_inj f10 f11
      subst y6
      have hy7 : y7 = x7 := hb_inj f12 f13
      subst y7
      have hy8 : y8 = x8 := hb_inj f14 f15
      subst y8
      have hy9 : y9 = x9 := hb_inj f16 f17
      subst y9
      have hy10 : y10 = x10 := hb_inj f18 f19
      subst y10
      have hy11 : y11 = x11 := hb_inj f20 f21
      subst y11
      exact k1 M' y12 y13 gs gx gw g8 ge  (by have h1 := f22; have h2 := f23; omega) (by have h1 := f24; have h2 := f25; omega) (by have h1 := f26; omega) (by have h1 := f27; omega)
    rcases List.mem_cons.mp hs with rfl | hs
    · intro ρ1 L' st' M' g1 g2 gm gr gf gs gx gw g8 ge
      obtain ⟨e0, L1, rfl, n0, gg0⟩ := hb_l1 mz_GG g1
      obtain rfl : e0 = 234 := List.mem_singleton.mp n0
      obtain ⟨y1, L1, rfl, qr76, gg1⟩ := hb_l0 mz_GG gg0
      have r76 : ρ1 76 = y1.toInt := qr76
      obtain ⟨y2, L1, rfl, qr77, gg2⟩ := hb_l0 mz_GG gg1
      have r77 : ρ1 77 = y2.toInt := qr77
      obtain ⟨y3, L1, rfl, qr78, gg3⟩ := hb_l0 mz_GG gg2
      have r78 : ρ1 78 = y3.toInt := qr78
      obtain ⟨y4, L1, rfl, qr79, gg4⟩ := hb_l0 mz_GG gg3
      have r79 : ρ1 79 = y4.toInt := qr79
      obtain ⟨y5, L1, rfl, qr80, gg5⟩ := hb_l0 mz_GG gg4
      have r80 : ρ1 80 = y5.toInt := qr80
      obtain ⟨y6, L1, rfl, qr81, gg6⟩ := hb_l0 mz_GG gg5
      have r81 : ρ1 81 = y6.toInt := qr81
      obtain ⟨y7, L1, rfl, qr82, gg7⟩ := hb_l0 mz_GG gg6
      have r82 : ρ1 82 = y7.toInt := qr82
      obtain ⟨y8, L1, rfl, qr83, gg8⟩ := hb_l0 mz_GG gg7
      have r83 : ρ1 83 = y8.toInt := qr83
      obtain ⟨y9, L1, rfl, qr84, gg9⟩ := hb_l0 mz_GG gg8
      have r84 : ρ1 84 = y9.toInt := qr84
      obtain ⟨y10, L1, rfl, qr85, gg10⟩ := hb_l0 mz_GG gg9
      have r85 : ρ1 85 = y10.toInt := qr85
      obtain ⟨y11, L1, rfl, qr86, gg11⟩ := hb_l0 mz_GG gg10
      have r86 : ρ1 86 = y11.toInt := qr86
      obtain ⟨y12, L1, rfl, qr87, gg12⟩ := hb_l0 mz_GG gg11
      have r87 : ρ1 87 = y12.toInt := qr87
      obtain ⟨y13, L1, rfl, qr88, gg13⟩ := hb_l0 mz_GG gg12
      have r88 : ρ1 88 = y13.toInt := qr88
      obtain rfl := hb_ln mz_GG gg13
      obtain rfl := hb_pn mz_GG g2
      have r1 : ρ1 1 = x1.toInt := gr 1 (by decide +kernel)
      have r2 : ρ1 2 = x2.toInt := gr 2 (by decide +kernel)
      have r3 : ρ1 3 = x3.toInt := gr 3 (by decide +kernel)
      have r4 : ρ1 4 = x4.toInt := gr 4 (by decide +kernel)
      have r5 : ρ1 5 = x5.toInt := gr 5 (by decide +kernel)
      have r6 : ρ1 6 = x6.toInt := gr 6 (by decide +kernel)
      have r7 : ρ1 7 = x7.toInt := gr 7 (by decide +kernel)
      have r8 : ρ1 8 = x8.toInt := gr 8 (by decide +kernel)
      have r9 : ρ1 9 = x9.toInt := gr 9 (by decide +kernel)
      have r10 : ρ1 10 = x10.toInt := gr 10 (by decide +kernel)
      have r11 : ρ1 11 = x11.toInt := gr 11 (by decide +kernel)
      have r12 : ρ1 12 = x12.toInt := gr 12 (by decide +kernel)
      have r13 : ρ1 13 = x13.toInt := gr 13 (by decide +kernel)
      obtain ⟨f0, gf⟩ := hb_unc gf
      have f0 : 0 ≤ 0 + ((-1) * ρ1 1 + (1 * ρ1 76 + 0)) := f0
      rw [r1, r76] at f0
      obtain ⟨f1, gf⟩ := hb_unc gf
      have f1 : 0 ≤ 0 + (1 * ρ1 1 + ((-1) * ρ1 76 + 0)) := f1
      rw [r1, r76] at f1
      obtain ⟨f2, gf⟩ := hb_unc gf
      have f2 : 0 ≤ 0 + ((-1) * ρ1 2 + (1 * ρ1 77 + 0)) := f2
      rw [r2, r77] at f2
      obtain ⟨f3, gf⟩ := hb_unc gf
      have f3 : 0 ≤ 0 + (1 * ρ1 2 + ((-1) * ρ1 77 + 0)) := f3
      rw [r2, r77] at f3
      obtain ⟨f4, gf⟩ := hb_unc gf
      have f4 : 0 ≤ 0 + ((-1) * ρ1 3 + (1 * ρ1 78 + 0)) := f4
      rw [r3, r78] at f4
      obtain ⟨f5, gf⟩ := hb_unc gf
      have f5 : 0 ≤ 0 + (1 * ρ1 3 + ((-1) * ρ1 78 + 0)) := f5
      rw [r3, r78] at f5
      obtain ⟨f6, gf⟩ := hb_unc gf
      have f6 : 0 ≤ 0 + ((-1) * ρ1 4 + (1 * ρ1 79 + 0)) := f6
      rw [r4, r79] at f6
      obtain ⟨f7, gf⟩ := hb_unc gf
      have f7 : 0 ≤ 0 + (1 * ρ1 4 + ((-1) * ρ1 79 + 0)) := f7
      rw [r4, r79] at f7
      obtain ⟨f8, gf⟩ := hb_unc gf
      have f8 : 0 ≤ 0 + ((-1) * ρ1 5 + (1 * ρ1 80 + 0)) := f8
      rw [r5, r80] at f8
      obtain ⟨f9, gf⟩ := hb_unc gf
      have f9 : 0 ≤ 0 + (1 * ρ1 5 + ((-1) * ρ1 80 + 0)) := f9
      rw [r5, r80] at f9
      obtain ⟨f10, gf⟩ := hb_unc gf
      have f10 : 0 ≤ 0 + ((-1) * ρ1 6 + (1 * ρ1 81 + 0)) := f10
      rw [r6, r81] at f10
      obtain ⟨f11, gf⟩ := hb_unc gf
      have f11 : 0 ≤ 0 + (1 * ρ1 6 + ((-1) * ρ1 81 + 0)) := f11
      rw [r6, r81] at f11
      obtain ⟨f12, gf⟩ := hb_unc gf
      have f12 : 0 ≤ 0 + ((-1) * ρ1 7 + (1 * ρ1 82 + 0)) := f12
      rw [r7, r82] at f12
      obtain ⟨f13, gf⟩ := hb_unc gf
      have f13 : 0 ≤ 0 + (1 * ρ1 7 + ((-1) * ρ1 82 + 0)) := f13
      rw [r7, r82] at f13
      obtain ⟨f14, gf⟩ := hb_unc gf
      have f14 : 0 ≤ 0 + ((-1) * ρ1 8 + (1 * ρ1 83 + 0)) := f14
      rw [r8, r83] at f14
      obtain ⟨f15, gf⟩ := hb_unc gf
      have f15 : 0 ≤ 0 + (1 * ρ1 8 + ((-1) * ρ1 83 + 0)) := f15
      rw [r8, r83] at f15
      obtain ⟨f16, gf⟩ := hb_unc gf
      have f16 : 0 ≤ 0 + ((-1) * ρ1 9 + (1 * ρ1 84 + 0)) := f16
      rw [r9, r84] at f16
      obtain ⟨f17, gf⟩ := hb_unc gf
      have f17 : 0 ≤ 0 + (1 * ρ1 9 + ((-1) * ρ1 84 + 0)) := f17
      rw [r9, r84] at f17
      obtain ⟨f18, gf⟩ := hb_unc gf
      have f18 : 0 ≤ 0 + ((-1) * ρ1 10 + (1 * ρ1 85 + 0)) := f18
      rw [r10, r85] at f18
      obtain ⟨f19, gf⟩ := hb_unc gf
      have f19 : 0 ≤ 0 + (1 * ρ1 10 + ((-1) * ρ1 85 + 0)) := f19
      rw [r10, r85] at f19
      obtain ⟨f20, gf⟩ := hb_unc gf
      have f20 : 0 ≤ 0 + ((-1) * ρ1 11 + (1 * ρ1 86 + 0)) := f20
      rw [r11, r86] at f20
      obtain ⟨f21, gf⟩ := hb_unc gf
      have f21 : 0 ≤ 0 + (1 * ρ1 11 + ((-1) * ρ1 86 + 0)) := f21
      rw [r11, r86] at f21
      obtain ⟨f22, gf⟩ := hb_unc gf
      have f22 : 0 ≤ -1 + (1 * ρ1 87 + 0) := f22
      rw [r87] at f22
      obtain ⟨f23, gf⟩ := hb_unc gf
      have f23 : 0 ≤ 1 + ((-1) * ρ1 87 + 0) := f23
      rw [r87] at f23
      obtain ⟨f24, gf⟩ := hb_unc gf
      have f24 : 0 ≤ -1 + ((-1) * ρ1 13 + (1 * ρ1 88 + 0)) := f24
      rw [r13, r88] at f24
      obtain ⟨f25, gf⟩ := hb_unc gf
      have f25 : 0 ≤ 1 + (1 * ρ1 13 + ((-1) * ρ1 88 + 0)) := f25
      rw [r13, r88] at f25
      obtain ⟨f26, gf⟩ := hb_unc gf
      have f26 : 0 ≤ -1 + (1 * ρ1 9 + ((-1) * ρ1 13 + 0)) := f26
      rw [r9, r13] at f26
      obtain ⟨f27, gf⟩ := hb_unc gf
      have f27 : 0 ≤ -1 + (1 * ρ1 12 + 0) := f27
      rw [r12] at f27
      have hy1 : y1 = x1 := hb_inj f0 f1
      subst y1
      have hy2 : y2 = x2 := hb_inj f2 f3
      subst y2
      have hy3 : y3 = x3 := hb_inj f4 f5
      subst y3
      have hy4 : y4 = x4 := hb_inj f6 f7
      subst y4
      have hy5 : y5 = x5 := hb_inj f8 f9
      subst y5
      have hy6 : y6 = x6 := hb_inj f10 f11
      subst y6
      have hy7 : y7 = x7 := hb_inj f12 f13
      subst y7
      have hy8 : y8 = x8 := hb_inj f14 f15
      subst y8
      have hy9 : y9 = x9 := hb_inj f16 f17
      subst y9
      have hy10 : y10 = x10 := hb_inj f18 f19
      subst y10
      have hy11 : y11 = x11 := hb_inj f20 f21
      subst y11
      exact k2 M' y12 y13 gs gx gw g8 ge  (by have h1 := f22; have h2 := f23; omega) (by have h1 := f24; have h2 := f25; omega) (by have h1 := f26; omega) (by have h1 := f27; omega)
    rcases List.mem_cons.mp hs with rfl | hs
    · intro ρ1 L' st' M' g1 g2 gm gr gf gs gx gw g8 ge
      obtain ⟨e0, L1, rfl, n0, gg0⟩ := hb_l1 mz_GG g1
      obtain rfl : e0 = 234 := List.mem_singleton.mp n0
      obtain ⟨y1, L1, rfl, qr76, gg1⟩ := hb_l0 mz_GG gg0
      have r76 : ρ1 76 = y1.toInt := qr76
      obtain ⟨y2, L1, rfl, qr77, gg2⟩ := hb_l0 mz_GG gg1
      have r77 : ρ1 77 = y2.toInt := qr77
      obtain ⟨y3, L1, rfl, qr78, gg3⟩ := hb_l0 mz_GG gg2
      have r78 : ρ1 78 = y3.toInt := qr78
      obtain ⟨y4, L1, rfl, qr79, gg4⟩ := hb_l0 mz_GG gg3
      have r79 : ρ1 79 = y4.toInt := qr79
      obtain ⟨y5, L1, rfl, qr80, gg5⟩ := hb_l0 mz_GG gg4
      have r80 : ρ1 80 = y5.toInt := qr80
      obtain ⟨y6, L1, rfl, qr81, gg6⟩ := hb_l0 mz_GG gg5
      have r81 : ρ1 81 = y6.toInt := qr81
      obtain ⟨y7, L1, rfl, qr82, gg7⟩ := hb_l0 mz_GG gg6
      have r82 : ρ1 82 = y7.toInt := qr82
      obtain ⟨y8, L1, rfl, qr83, gg8⟩ := hb_l0 mz_GG gg7
      have r83 : ρ1 83 = y8.toInt := qr83
      obtain ⟨y9, L1, rfl, qr84, gg9⟩ := hb_l0 mz_GG gg8
      have r84 : ρ1 84 = y9.toInt := qr84
      obtain ⟨y10, L1, rfl, qr85, gg10⟩ := hb_l0 mz_GG gg9
      have r85 : ρ1 85 = y10.toInt := qr85
      obtain ⟨y11, L1, rfl, qr86, gg11⟩ := hb_l0 mz_GG gg10
      have r86 : ρ1 86 = y11.toInt := qr86
      obtain ⟨y12, L1, rfl, qr87, gg12⟩ := hb_l0 mz_GG gg11
      have r87 : ρ1 87 = y12.toInt := qr87
      obtain ⟨y13, L1, rfl, qr88, gg13⟩ := hb_l0 mz_GG gg12
      have r88 : ρ1 88 = y13.toInt := qr88
      obtain rfl := hb_ln mz_GG gg13
      obtain rfl := hb_pn mz_GG g2
      have r1 : ρ1 1 = x1.toInt := gr 1 (by decide +kernel)
      have r2 : ρ1 2 = x2.toInt := gr 2 (by decide +kernel)
      have r3 : ρ1 3 = x3.toInt := gr 3 (by decide +kernel)
      have r4 : ρ1 4 = x4.toInt := gr 4 (by decide +kernel)
      have r5 : ρ1 5 = x5.toInt := gr 5 (by decide +kernel)
      have r6 : ρ1 6 = x6.toInt := gr 6 (by decide +kernel)
      have r7 : ρ1 7 = x7.toInt := gr 7 (by decide +kernel)
      have r8 : ρ1 8 = x8.toInt := gr 8 (by decide +kernel)
      have r9 : ρ1 9 = x9.toInt := gr 9 (by decide +kernel)
      have r10 : ρ1 10 = x10.toInt := gr 10 (by decide +kernel)
      have r11 : ρ1 11 = x11.toInt := gr 11 (by decide +kernel)
      have r12 : ρ1 12 = x12.toInt := gr 12 (by decide +kernel)
      have r13 : ρ1 13 = x13.toInt := gr 13 (by decide +kernel)
      obtain ⟨f0, gf⟩ := hb_unc gf
      have f0 : 0 ≤ 0 + ((-1) * ρ1 1 + (1 * ρ1 76 + 0)) := f0
      rw [r1, r76] at f0
      obtain ⟨f1, gf⟩ := hb_unc gf
      have f1 : 0 ≤ 0 + (1 * ρ1 1 + ((-1) * ρ1 76 + 0)) := f1
      rw [r1, r76] at f1
      obtain ⟨f2, gf⟩ := hb_unc gf
      have f2 : 0 ≤ 0 + ((-1) * ρ1 2 + (1 * ρ1 77 + 0)) := f2
      rw [r2, r77] at f2
      obtain ⟨f3, gf⟩ := hb_unc gf
      have f3 : 0 ≤ 0 + (1 * ρ1 2 + ((-1) * ρ1 77 + 0)) := f3
      rw [r2, r77] at f3
      obtain ⟨f4, gf⟩ := hb_unc gf
      have f4 : 0 ≤ 0 + ((-1) * ρ1 3 + (1 * ρ1 78 + 0)) := f4
      rw [r3, r78] at f4
      obtain ⟨f5, gf⟩ := hb_unc gf
      have f5 : 0 ≤ 0 + (1 * ρ1 3 + ((-1) * ρ1 78 + 0)) := f5
      rw [r3, r78] at f5
      obtain ⟨f6, gf⟩ := hb_unc gf
      have f6 : 0 ≤ 0 + ((-1) * ρ1 4 + (1 * ρ1 79 + 0)) := f6
      rw [r4, r79] at f6
      obtain ⟨f7, gf⟩ := hb_unc gf
      have f7 : 0 ≤ 0 + (1 * ρ1 4 + ((-1) * ρ1 79 + 0)) := f7
      rw [r4, r79] at f7
      obtain ⟨f8, gf⟩ := hb_unc gf
      have f8 : 0 ≤ 0 + ((-1) * ρ1 5 + (1 * ρ1 80 + 0)) := f8
      rw [r5, r80] at f8
      obtain ⟨f9, gf⟩ := hb_unc gf
      have f9 : 0 ≤ 0 + (1 * ρ1 5 + ((-1) * ρ1 80 + 0)) := f9
      rw [r5, r80] at f9
      obtain ⟨f10, gf⟩ := hb_unc gf
      have f10 : 0 ≤ 0 + ((-1) * ρ1 6 + (1 * ρ1 81 + 0)) := f10
      rw [r6, r81] at f10
      obtain ⟨f11, gf⟩ := hb_unc gf
      have f11 : 0 ≤ 0 + (1 * ρ1 6 + ((-1) * ρ1 81 + 0)) := f11
      rw [r6, r81] at f11
      obtain ⟨f12, gf⟩ := hb_unc gf
      have f12 : 0 ≤ 0 + ((-1) * ρ1 7 + (1 * ρ1 82 + 0)) := f12
      rw [r7, r82] at f12
      obtain ⟨f13, gf⟩ := hb_unc gf
      have f13 : 0 ≤ 0 + (1 * ρ1 7 + ((-1) * ρ1 82 + 0)) := f13
      rw [r7, r82] at f13
      obtain ⟨f14, gf⟩ := hb_unc gf
      have f14 : 0 ≤ 0 + ((-1) * ρ1 8 + (1 * ρ1 83 + 0)) := f14
      rw [r8, r83] at f14
      obtain ⟨f15, gf⟩ := hb_unc gf
      have f15 : 0 ≤ 0 + (1 * ρ1 8 + ((-1) * ρ1 83 + 0)) := f15
      rw [r8, r83] at f15
      obtain ⟨f16, gf⟩ := hb_unc gf
      have f16 : 0 ≤ 0 + ((-1) * ρ1 9 + (1 * ρ1 84 + 0)) := f16
      rw [r9, r84] at f16
      obtain ⟨f17, gf⟩ := hb_unc gf
      have f17 : 0 ≤ 0 + (1 * ρ1 9 + ((-1) * ρ1 84 + 0)) := f17
      rw [r9, r84] at f17
      obtain ⟨f18, gf⟩ := hb_unc gf
      have f18 : 0 ≤ 0 + ((-1) * ρ1 10 + (1 * ρ1 85 + 0)) := f18
      rw [r10, r85] at f18
      obtain ⟨f19, gf⟩ := hb_unc gf
      have f19 : 0 ≤ 0 + (1 * ρ1 10 + ((-1) * ρ1 85 + 0)) := f19
      rw [r10, r85] at f19
      obtain ⟨f20, gf⟩ := hb_unc gf
      have f20 : 0 ≤ 0 + ((-1) * ρ1 11 + (1 * ρ1 86 + 0)) := f20
      rw [r11, r86] at f20
      obtain ⟨f21, gf⟩ := hb_unc gf
      have f21 : 0 ≤ 0 + (1 * ρ1 11 + ((-1) * ρ1 86 + 0)) := f21
      rw [r11, r86] at f21
      obtain ⟨f22, gf⟩ := hb_unc gf
      have f22 : 0 ≤ 0 + (1 * ρ1 87 + 0) := f22
      rw [r87] at f22
      obtain ⟨f23, gf⟩ := hb_unc gf
      have f23 : 0 ≤ 0 + ((-1) * ρ1 87 + 0) := f23
      rw [r87] at f23
      obtain ⟨f24, gf⟩ := hb_unc gf
      have f24 : 0 ≤ -1 + ((-1) * ρ1 13 + (1 * ρ1 88 + 0)) := f24
      rw [r13, r88] at f24
      obtain ⟨f25, gf⟩ := hb_unc gf
      have f25 : 0 ≤ 1 + (1 * ρ1 13 + ((-1) * ρ1 88 + 0)) := f25
      rw [r13, r88] at f25
      obtain ⟨f26, gf⟩ := hb_unc gf
      have f26 : 0 ≤ -1 + (1 * ρ1 9 + ((-1) * ρ1 13 + 0)) := f26
      rw [r9, r13] at f26
      obtain ⟨f27, gf⟩ := hb_unc gf
      have f27 : 0 ≤ -1 + (1 * ρ1 12 + 0) := f27
      rw [r12] at f27
      have hy1 : y1 = x1 := hb_inj f0 f1
      subst y1
      have hy2 : y2 = x2 := hb_inj f2 f3
      subst y2
      have hy3 : y3 = x3 := hb_inj f4 f5
      subst y3
      have hy4 : y4 = x4 := hb_inj f6 f7
      subst y4
      have hy5 : y5 = x5 := hb_inj f8 f9
      subst y5
      have hy6 : y6 = x6 := hb_inj f10 f11
      subst y6
      have hy7 : y7 = x7 := hb_inj f12 f13
      subst y7
      have hy8 : y8 = x8 := hb_inj f14 f15
      subst y8
      have hy9 : y9 = x9 := hb_inj f16 f17
      subst y9
      have hy10 : y10 = x10 := hb_inj f18 f19
      subst y10
      have hy11 : y11 = x11 := hb_inj f20 f21
      subst y11
      exact k3 M' y12 y13 gs gx gw g8 ge  (by have h1 := f22; have h2 := f23; omega) (by have h1 := f24; have h2 := f25; omega) (by have h1 := f26; omega) (by have h1 := f27; omega)
    rcases List.mem_cons.mp hs with rfl | hs
    · intro ρ1 L' st' M' g1 g2 gm gr gf gs gx gw g8 ge
      obtain ⟨e0, L1, rfl, n0, gg0⟩ := hb_l1 mz_GG g1
      obtain rfl : e0 = 234 := List.mem_singleton.mp n0
      obtain ⟨y1, L1, rfl, qr76, gg1⟩ := hb_l0 mz_GG gg0
      have r76 : ρ1 76 = y1.toInt := qr76
      obtain ⟨y2, L1, rfl, qr77, gg2⟩ := hb_l0 mz_GG gg1
      have r77 : ρ1 77 = y2.toInt := qr77
      obtain ⟨y3, L1, rfl, qr78, gg3⟩ := hb_l0 mz_GG gg2
      have r78 : ρ1 78 = y3.toInt := qr78
      obtain ⟨y4, L1, rfl, qr79, gg4⟩ := hb_l0 mz_GG gg3
      have r79 : ρ1 79 = y4.toInt := qr79
      obtain ⟨y5, L1, rfl, qr80, gg5⟩ := hb_l0 mz_GG gg4
      have r80 : ρ1 80 = y5.toInt := qr80
      obtain ⟨y6, L1, rfl, qr81, gg6⟩ := hb_l0 mz_GG gg5
      have r81 : ρ1 81 = y6.toInt := qr81
      obtain ⟨y7, L1, rfl, qr82, gg7⟩ := hb_l0 mz_GG gg6
      have r82 : ρ1 82 = y7.toInt := qr82
      obtain ⟨y8, L1, rfl, qr83, gg8⟩ := hb_l0 mz_GG gg7
      have r83 : ρ1 83 = y8.toInt := qr83
      obtain ⟨y9, L1, rfl, qr84, gg9⟩ := hb_l0 mz_GG gg8
      have r84 : ρ1 84 = y9.toInt := qr84
      obtain ⟨y10, L1, rfl, qr85, gg10⟩ := hb_l0 mz_GG gg9
      have r85 : ρ1 85 = y10.toInt := qr85
      obtain ⟨y11, L1, rfl, qr86, gg11⟩ := hb_l0 mz_GG gg10
      have r86 : ρ1 86 = y11.toInt := qr86
      obtain ⟨y12, L1, rfl, qr87, gg12⟩ := hb_l0 mz_GG gg11
      have r87 : ρ1 87 = y12.toInt := qr87
      obtain ⟨y13, L1, rfl, qr88, gg13⟩ := hb_l0 mz_GG gg12
      have r88 : ρ1 88 = y13.toInt := qr88
      obtain rfl := hb_ln mz_GG gg13
      obtain rfl := hb_pn mz_GG g2
      have r1 : ρ1 1 = x1.toInt := gr 1 (by decide +kernel)
      have r2 : ρ1 2 = x2.toInt := gr 2 (by decide +kernel)
      have r3 : ρ1 3 = x3.toInt := gr 3 (by decide +kernel)
      have r4 : ρ1 4 = x4.toInt := gr 4 (by decide +kernel)
      have r5 : ρ1 5 = x5.toInt := gr 5 (by decide +kernel)
      have r6 : ρ1 6 = x6.toInt := gr 6 (by decide +kernel)
      have r7 : ρ1 7 = x7.toInt := gr 7 (by decide +kernel)
      have r8 : ρ1 8 = x8.toInt := gr 8 (by decide +kernel)
      have r9 : ρ1 9 = x9.toInt := gr 9 (by decide +kernel)
      have r10 : ρ1 10 = x10.toInt := gr 10 (by decide +kernel)
      have r11 : ρ1 11 = x11.toInt := gr 11 (by decide +kernel)
      have r12 : ρ1 12 = x12.toInt := gr 12 (by decide +kernel)
      have r13 : ρ1 13 = x13.toInt := gr 13 (by decide +kernel)
      obtain ⟨f0, gf⟩ := hb_unc gf
      have f0 : 0 ≤ 0 + ((-1) * ρ1 1 + (1 * ρ1 76 + 0)) := f0
      rw [r1, r76] at f0
      obtain ⟨f1, gf⟩ := hb_unc gf
      have f1 : 0 ≤ 0 + (1 * ρ1 1 + ((-1) * ρ1 76 + 0)) := f1
      rw [r1, r76] at f1
      obtain ⟨f2, gf⟩ := hb_unc gf
      have f2 : 0 ≤ 0 + ((-1) * ρ1 2 + (1 * ρ1 77 + 0)) := f2
      rw [r2, r77] at f2
      obtain ⟨f3, gf⟩ := hb_unc gf
      have f3 : 0 ≤ 0 + (1 * ρ1 2 + ((-1) * ρ1 77 + 0)) := f3
      rw [r2, r77] at f3
      obtain ⟨f4, gf⟩ := hb_unc gf
      have f4 : 0 ≤ 0 + ((-1) * ρ1 3 + (1 * ρ1 78 + 0)) := f4
      rw [r3, r78] at f4
      obtain ⟨f5, gf⟩ := hb_unc gf
      have f5 : 0 ≤ 0 + (1 * ρ1 3 + ((-1) * ρ1 78 + 0)) := f5
      rw [r3, r78] at f5
      obtain ⟨f6, gf⟩ := hb_unc gf
      have f6 : 0 ≤ 0 + ((-1) * ρ1 4 + (1 * ρ1 79 + 0)) := f6
      rw [r4, r79] at f6
      obtain ⟨f7, gf⟩ := hb_unc gf
      have f7 : 0 ≤ 0 + (1 * ρ1 4 + ((-1) * ρ1 79 + 0)) := f7
      rw [r4, r79] at f7
      obtain ⟨f8, gf⟩ := hb_unc gf
      have f8 : 0 ≤ 0 + ((-1) * ρ1 5 + (1 * ρ1 80 + 0)) := f8
      rw [r5, r80] at f8
      obtain ⟨f9, gf⟩ := hb_unc gf
      have f9 : 0 ≤ 0 + (1 * ρ1 5 + ((-1) * ρ1 80 + 0)) := f9
      rw [r5, r80] at f9
      obtain ⟨f10, gf⟩ := hb_unc gf
      have f10 : 0 ≤ 0 + ((-1) * ρ1 6 + (1 * ρ1 81 + 0)) := f10
      rw [r6, r81] at f10
      obtain ⟨f11, gf⟩ := hb_unc gf
      have f11 : 0 ≤ 0 + (1 * ρ1 6 + ((-1) * ρ1 81 + 0)) := f11
      rw [r6, r81] at f11
      obtain ⟨f12, gf⟩ := hb_unc gf
      have f12 : 0 ≤ 0 + ((-1) * ρ1 7 + (1 * ρ1 82 + 0)) := f12
      rw [r7, r82] at f12
      obtain ⟨f13, gf⟩ := hb_unc gf
      have f13 : 0 ≤ 0 + (1 * ρ1 7 + ((-1) * ρ1 82 + 0)) := f13
      rw [r7, r82] at f13
      obtain ⟨f14, gf⟩ := hb_unc gf
      have f14 : 0 ≤ 0 + ((-1) * ρ1 8 + (1 * ρ1 83 + 0)) := f14
      rw [r8, r83] at f14
      obtain ⟨f15, gf⟩ := hb_unc gf
      have f15 : 0 ≤ 0 + (1 * ρ1 8 + ((-1) * ρ1 83 + 0)) := f15
      rw [r8, r83] at f15
      obtain ⟨f16, gf⟩ := hb_unc gf
      have f16 : 0 ≤ 0 + ((-1) * ρ1 9 + (1 * ρ1 84 + 0)) := f16
      rw [r9, r84] at f16
      obtain ⟨f17, gf⟩ := hb_unc gf
      have f17 : 0 ≤ 0 + (1 * ρ1 9 + ((-1) * ρ1 84 + 0)) := f17
      rw [r9, r84] at f17
      obtain ⟨f18, gf⟩ := hb_unc gf
      have f18 : 0 ≤ 0 + ((-1) * ρ1 10 + (1 * ρ1 85 + 0)) := f18
      rw [r10, r85] at f18
      obtain ⟨f19, gf⟩ := hb_unc gf
      have f19 : 0 ≤ 0 + (1 * ρ1 10 + ((-1) * ρ1 85 + 0)) := f19
      rw [r10, r85] at f19
      obtain ⟨f20, gf⟩ := hb_unc gf
      have f20 : 0 ≤ 0 + ((-1) * ρ1 11 + (1 * ρ1 86 + 0)) := f20
      rw [r11, r86] at f20
      obtain ⟨f21, gf⟩ := hb_unc gf
      have f21 : 0 ≤ 0 + (1 * ρ1 11 + ((-1) * ρ1 86 + 0)) := f21
      rw [r11, r86] at f21
      obtain ⟨f22, gf⟩ := hb_unc gf
      have f22 : 0 ≤ -1 + (1 * ρ1 87 + 0) := f22
      rw [r87] at f22
      obtain ⟨f23, gf⟩ := hb_unc gf
      have f23 : 0 ≤ 1 + ((-1) * ρ1 87 + 0) := f23
      rw [r87] at f23
      obtain ⟨f24, gf⟩ := hb_unc gf
      have f24 : 0 ≤ -1 + ((-1) * ρ1 13 + (1 * ρ1 88 + 0)) := f24
      rw [r13, r88] at f24
      obtain ⟨f25, gf⟩ := hb_unc gf
      have f25 : 0 ≤ 1 + (1 * ρ1 13 + ((-1) * ρ1 88 + 0)) := f25
      rw [r13, r88] at f25
      obtain ⟨f26, gf⟩ := hb_unc gf
      have f26 : 0 ≤ -1 + (1 * ρ1 9 + ((-1) * ρ1 13 + 0)) := f26
      rw [r9, r13] at f26
      obtain ⟨f27, gf⟩ := hb_unc gf
      have f27 : 0 ≤ -1 + (1 * ρ1 12 + 0) := f27
      rw [r12] at f27
      have hy1 : y1 = x1 := hb_inj f0 f1
      subst y1
      have hy2 : y2 = x2 := hb_inj f2 f3
      subst y2
      have hy3 : y3 = x3 := hb_inj f4 f5
      subst y3
      have hy4 : y4 = x4 := hb_inj f6 f7
      subst y4
      have hy5 : y5 = x5 := hb_inj f8 f9
      subst y5
      have hy6 : y6 = x6 := hb_inj f10 f11
      subst y6
      have hy7 : y7 = x7 := hb_inj f12 f13
      subst y7
      have hy8 : y8 = x8 := hb_inj f14 f15
      subst y8
      have hy9 : y9 = x9 := hb_inj f16 f17
      subst y9
      have hy10 : y10 = x10 := hb_inj f18 f19
      subst y10
      have hy11 : y11 = x11 := hb_inj f20 f21
      subst y11
      exact k4 M' y12 y13 gs gx gw g8 ge  (by have h1 := f22; have h2 := f23; omega) (by have h1 := f24; have h2 := f25; omega) (by have h1 := f26; omega) (by have h1 := f27; omega)
    cases hs
  · intro r S hpo
    obtain ⟨b1, b2, b3, b4, b5, p, hp, res, hf, hre⟩ := hpo
    rcases List.mem_cons.mp hp with rfl | hp
    · obtain ⟨x, rfl, hr, hz1, hu1⟩ := mz_re_0 mz_GG hre rfl
      obtain ⟨M', z', u'⟩ := S
      cases hz1
      cases hu1
      have r75 : hb_r1 mz_GG hj_f_q (hb_rb mz_GG hj_f_q 14 [some (.ref 234), some (.int x1), some (.int x2), some (.int x3), some (.int x4), some (.int x5), some (.int x6), some (.int x7), some (.int x8), some (.int x9), some (.int x10), some (.int x11), some (.int x12), some (.int x13)] [] M) M' res 75 = res := rfl
      obtain ⟨f0, hf⟩ := hb_unc hf
      have f0 : 0 ≤ 1 + (1 * res + 0) := f0
      rw [← hr] at f0
      obtain ⟨f1, hf⟩ := hb_unc hf
      have f1 : 0 ≤ -1 + ((-1) * res + 0) := f1
      rw [← hr] at f1
      exact w0 M' x b1 b2 b3 b4 b5 (by have h1 := f0; omega) (by have h1 := f1; omega)
    rcases List.mem_cons.mp hp with rfl | hp
    · obtain ⟨x, rfl, hr, hz1, hu1⟩ := mz_re_0 mz_GG hre rfl
      obtain ⟨M', z', u'⟩ := S
      cases hz1
      cases hu1
      have r8 : hb_r1 mz_GG hj_f_q (hb_rb mz_GG hj_f_q 14 [some (.ref 234), some (.int x1), some (.int x2), some (.int x3), some (.int x4), some (.int x5), some (.int x6), some (.int x7), some (.int x8), some (.int x9), some (.int x10), some (.int x11), some (.int x12), some (.int x13)] [] M) M' res 8 = x8.toInt := rfl
      have r12 : hb_r1 mz_GG hj_f_q (hb_rb mz_GG hj_f_q 14 [some (.ref 234), some (.int x1), some (.int x2), some (.int x3), some (.int x4), some (.int x5), some (.int x6), some (.int x7), some (.int x8), some (.int x9), some (.int x10), some (.int x11), some (.int x12), some (.int x13)] [] M) M' res 12 = x12.toInt := rfl
      have r75 : hb_r1 mz_GG hj_f_q (hb_rb mz_GG hj_f_q 14 [some (.ref 234), some (.int x1), some (.int x2), some (.int x3), some (.int x4), some (.int x5), some (.int x6), some (.int x7), some (.int x8), some (.int x9), some (.int x10), some (.int x11), some (.int x12), some (.int x13)] [] M) M' res 75 = res := rfl
      obtain ⟨f0, hf⟩ := hb_unc hf
      have f0 : 0 ≤ -11 + ((-1) * x8.toInt + (1 * res + 0)) := f0
      rw [← hr] at f0
      obtain ⟨f1, hf⟩ := hb_unc hf
      have f1 : 0 ≤ 11 + (1 * x8.toInt + ((-1) * res + 0)) := f1
      rw [← hr] at f1
      obtain ⟨f2, hf⟩ := hb_unc hf
      have f2 : 0 ≤ -1 + (1 * x12.toInt + 0) := f2
      exact w1 M' x b1 b2 b3 b4 b5 (by have h1 := f0; omega) (by have h1 := f1; omega) (by have h1 := f2; omega)
    cases hp

theorem hj_l {d z u : Nat} {Q : (Option Value ⊕ Nat) → mq_S → Prop} {M0 : Nat → mq_C} {x1 x2 x3 x4 x5 x6 x7 x8 x9 x10 x11 : Int32} (hC : ∀ c ∈ mz_Cs, c.2 < 1 → mz_Ct mz_GG mq_PP HX c.1 c.2) (hd : 1 ≤ d) (hz : 272 ≤ z) (p9 : 0 ≤ x9.toInt) (p9' : x9.toInt ≤ 23) (p8 : 0 ≤ x8.toInt) (p8' : x8.toInt ≤ 300)
    (K : ∀ (M' : Nat → mq_C) (r : Int32), mz_sh mz_GG M' → HX M' → hj_R M0 M' → (∀ a, a = 235 ∨ a = 238 ∨ a = 243 ∨ a = 244 → M' a = M0 a) → (r.toInt = -1 ∨ r.toInt = x8.toInt + 11 ∧ x11.toInt ≤ x4.toInt) → Q (.inl (some (.int r))) (M', z, u)) :
    ∀ (m : Nat) (M : Nat → mq_C) (x12 x13 : Int32), (m : Int) + x13.toInt = 24 → 0 ≤ x13.toInt → (x12.toInt = 0 ∨ x12.toInt = 1 ∧ x11.toInt ≤ x4.toInt) → mz_sh mz_GG M → HX M → hj_R M0 M → (∀ a, a = 235 ∨ a = 238 ∨ a = 243 ∨ a = 244 → M a = M0 a) → mq_R mq_PP d 132 354 [some (.ref 234), some (.int x1), some (.int x2), some (.int x3), some (.int x4), some (.int x5), some (.int x6), some (.int x7), some (.int x8), some (.int x9), some (.int x10), some (.int x11), some (.int x12), some (.int x13)] [] (M, z, u) Q := by
  intro m
  induction m with
  | zero =>
    intro M x12 x13 e1 e2 hg hm hx hR hs
    refine hj_f HX_same hC hd hz hm hx (by omega) (by omega) (by omega) (by omega) (by omega) (by omega) (by omega) (by omega) ?_ ?_ ?_ ?_ ?_ ?_ ?_
    · intro M' y12 y13 gs gx gw g8 ge 
      intros
      omega
    · intro M' y12 y13 gs gx gw g8 ge 
      intros
      omega
    · intro M' y12 y13 gs gx gw g8 ge 
      intros
      omega
    · intro M' y12 y13 gs gx gw g8 ge 
      intros
      omega
    · intro M' y12 y13 gs gx gw g8 ge 
      intros
      omega
    · intro M' r gs gx gw g8 ge
      intros
      exact K M' r gs gx (hj_Rt hR (hj_Rb (by decide) gw g8)) (fun a ha => (gw a (by omega) (by rcases ha with rfl | rfl | rfl | rfl <;> decide)).trans (hs a ha)) (.inl (by omega))
    · intro M' r gs gx gw g8 ge
      intros
      exact K M' r gs gx (hj_Rt hR (hj_Rb (by decide) gw g8)) (fun a ha => (gw a (by omega) (by rcases ha with rfl | rfl | rfl | rfl <;> decide)).trans (hs a ha)) (.inr (by omega))
  | succ m ih =>
    intro M x12 x13 e1 e2 hg hm hx hR hs
    refine hj_f HX_same hC hd hz hm hx (by omega) (by omega) (by omega) (by omega) (by omega) (by omega) (by omega) (by omega) ?_ ?_ ?_ ?_ ?_ ?_ ?_
    · intro M' y12 y13 gs gx gw g8 ge 
      intros
      exact ih M' y12 y13 (by omega) (by omega) (by omega) gs gx (hj_Rt hR (hj_Rb (by decide) gw g8)) (fun a ha => (gw a (by omega) (by rcases ha with rfl | rfl | rfl | rfl <;> decide)).trans (hs a ha))
    · intro M' y12 y13 gs gx gw g8 ge 
      intros
      exact ih M' y12 y13 (by omega) (by omega) (by omega) gs gx (hj_Rt hR (hj_Rb (by decide) gw g8)) (fun a ha => (gw a (by omega) (by rcases ha with rfl | rfl | rfl | rfl <;> decide)).trans (hs a ha))
    · intro M' y12 y13 gs gx gw g8 ge 
      intros
      exact ih M' y12 y13 (by omega) (by omega) (by omega) gs gx (hj_Rt hR (hj_Rb (by decide) gw g8)) (fun a ha => (gw a (by omega) (by rcases ha with rfl | rfl | rfl | rfl <;> decide)).trans (hs a ha))
    · intro M' y12 y13 gs gx gw g8 ge 
      intros
      exact ih M' y12 y13 (by omega) (by omega) (by omega) gs gx (hj_Rt hR (hj_Rb (by decide) gw g8)) (fun a ha => (gw a (by omega) (by rcases ha with rfl | rfl | rfl | rfl <;> decide)).trans (hs a ha))
    · intro M' y12 y13 gs gx gw g8 ge 
      intros
      exact ih M' y12 y13 (by omega) (by omega) (by omega) gs gx (hj_Rt hR (hj_Rb (by decide) gw g8)) (fun a ha => (gw a (by omega) (by rcases ha with rfl | rfl | rfl | rfl <;> decide)).trans (hs a ha))
    · intro M' r gs gx gw g8 ge
      intros
      exact K M' r gs gx (hj_Rt hR (hj_Rb (by decide) gw g8)) (fun a ha => (gw a (by omega) (by rcases ha with rfl | rfl | rfl | rfl <;> decide)).trans (hs a ha)) (.inl (by omega))
    · intro M' r gs gx gw g8 ge
      intros
      exact K M' r gs gx (hj_Rt hR (hj_Rb (by decide) gw g8)) (fun a ha => (gw a (by omega) (by rcases ha with rfl | rfl | rfl | rfl <;> decide)).trans (hs a ha)) (.inr (by omega))
theorem hj_m {d z u : Nat} {Q : (Option Value ⊕ Nat) → mq_S → Prop} {M : Nat → mq_C} {x1 x2 x3 x4 x5 x6 x7 x8 x9 v : Int32} {w10 w11 w12 w13 : Option Value} (hC : ∀ c ∈ mz_Cs, c.2 < 3 → mz_Ct mz_GG mq_PP HX c.1 c.2) (hd : 3 ≤ d) (hz : 272 ≤ z) (hm : mz_sh mz_GG M) (hx : HX M) (p1 : 0 ≤ x1.toInt) (p2 : x1.toInt ≤ 3) (p3 : 0 ≤ x2.toInt) (p4 : x2.toInt ≤ 5) (p5 : x4.toInt ≤ 235) (p6 : 0 ≤ x8.toInt) (p7 : x8.toInt ≤ 226) (p9 : x9.toInt = 6 * x1.toInt + x2.toInt) (hv0 : 0 ≤ v.toInt) (hv1 : v.toInt ≤ 65535) (h0 : hv M 238 x1.toInt.toNat = 0) (n10 : mq_nl w10 = true) (n11 : mq_nl w11 = true) (n12 : mq_nl w12 = true) (n13 : mq_nl w13 = true)
    (K : ∀ (M' : Nat → mq_C) (r : Int32), mz_sh mz_GG M' → HX M' → hj_R M M' → M' 235 = M 235 → M' 238 = M 238 → (∀ j, j ≠ x9.toInt.toNat → hv M' 243 j = hv M 243 j ∧ hv M' 244 j = hv M 244 j) → (r.toInt = -1 ∨ r.toInt = x8.toInt + 11 ∧ hv M' 244 x9.toInt.toNat + hv M' 243 x9.toInt.toNat + 2 ≤ x4.toInt) → Q (.inl (some (.int r))) (M', z, u)) :
    mq_R mq_PP d 132 197 [some (.ref 234), some (.int x1), some (.int x2), some (.int x3), some (.int x4), some (.int x5), some (.int x6), some (.int x7), some (.int x8), some (.int x9), w10, w11, w12, w13] [.int v, .int x9, .ref 243] (M, z, u) Q := by
  refine hb_sta (n := 198) (kind := 64) hm (by decide +kernel) rfl rfl (.inl rfl) (by omega) (show _ < (24 : Int) by omega) ?_
  generalize hM2 : hb_set M 243 x9.toInt.toNat v = M2
  have hm2 : mz_sh mz_GG M2 := by rw [← hM2]; exact hb_set_sh hm rfl hb_at1 (by omega) (by omega)
  have hx2 : HX M2 := by rw [← hM2]; exact hj_xs (s := x1.toInt.toNat) (by omega) hx h0 (.inl rfl) (by omega) (by omega)
  have w2 : ∀ b, b ≠ 243 → M2 b = M b := by intro b h; rw [← hM2]; exact hb_set_c h
  have n2 : ∀ j, j ≠ x9.toInt.toNat → hv M2 243 j = hv M 243 j := by intro j h; rw [← hM2]; exact hb_set_n (.inr h)
  have R2 : hj_R M M2 := hj_Ro (W := [243]) (hb_only_s hb_only_r (by decide) w2) (by decide)
  refine hj_d HX_same (fun c hc h => hC c hc (by omega)) (by omega) hz hm2 hx2 n10 n11 n12 n13 (by omega) (by omega) (by omega) (by omega) (by omega) (by omega) (by omega) (by omega) ?_
  intro M3 w10 w11 w12 w13 y14 gs3 gx3 gw3 g83 ge3 hw10 hw11 hw12 hw13
  intros
  have R3 : hj_R M2 M3 := hj_Rb (by decide) gw3 g83
  have e3 : M3 238 = M 238 := (gw3 238 (by decide) (by decide)).trans (w2 238 (by decide))
  refine hb_sta (n := 215) (kind := 64) gs3 (by decide +kernel) rfl rfl (.inl rfl) (by omega) (show _ < (24 : Int) by omega) ?_
  generalize hM4 : hb_set M3 244 x9.toInt.toNat y14 = M4
  have hm4 : mz_sh mz_GG M4 := by rw [← hM4]; exact hb_set_sh gs3 rfl hb_at1 (by omega) (by omega)
  have hx4 : HX M4 := by
    rw [← hM4]
    refine hj_xs (s := x1.toInt.toNat) (by omega) gx3 ?_ (.inr rfl) (by omega) (by omega)
    rw [hb_vc e3]
    exact h0
  have w4 : ∀ b, b ≠ 244 → M4 b = M3 b := by intro b h; rw [← hM4]; exact hb_set_c h
  have n4 : ∀ j, j ≠ x9.toInt.toNat → hv M4 244 j = hv M3 244 j := by intro j h; rw [← hM4]; exact hb_set_n (.inr h)
  have R4 : hj_R M3 M4 := hj_Ro (W := [244]) (hb_only_s hb_only_r (by decide) w4) (by decide)
  have R04 := hj_Rt (hj_Rt R2 R3) R4
  have f238 : M4 238 = M 238 := (w4 238 (by decide)).trans e3
  have f235 : M4 235 = M 235 := (w4 235 (by decide)).trans ((gw3 235 (by decide) (by decide)).trans (w2 235 (by decide)))
  have hn : ∀ j, j ≠ x9.toInt.toNat → hv M4 243 j = hv M 243 j ∧ hv M4 244 j = hv M 244 j := by
    intro j hj
    constructor
    · rw [hb_vc (w4 _ (by decide)), hb_vc (gw3 _ (by decide) (by decide)), n2 j hj]
    · rw [n4 j hj, hb_vc (gw3 _ (by decide) (by decide)), hb_vc (w2 _ (by decide))]
  refine he_aload (n := 216) (i := 0) (by decide +kernel) rfl ?_
  refine he_getr (n := 219) (ci := 9) (j := 10) (ns := [4187, 38]) (b := 244) hm4 (by decide +kernel) rfl rfl (by decide +kernel) ?_
  refine he_iload (n := 221) (i := 9) (by decide +kernel) rfl ?_
  refine hb_ld (n := 222) (kind := 64) hm4 (by decide +kernel) rfl rfl (.inl rfl) (by omega) (show _ < (24 : Int) by omega) hb_at1 ?_
  intro v221 hv221 lv221 uv221
  refine he_istore (n := 224) (i := 10) (by decide +kernel) rfl ?_
  refine he_iload (n := 226) (i := 10) (by decide +kernel) rfl ?_
  refine he_iconst (n := 227) (c := 2) (by decide +kernel) (by decide) ?_
  intro c226 hc226
  refine he_iadd (n := 228) (by decide +kernel) (by omega) (by omega) ?_
  intro v227 hv227
  refine he_aload (n := 229) (i := 0) (by decide +kernel) rfl ?_
  refine he_getr (n := 232) (ci := 9) (j := 9) (ns := [4186, 35]) (b := 243) hm4 (by decide +kernel) rfl rfl (by decide +kernel) ?_
  refine he_iload (n := 234) (i := 9) (by decide +kernel) rfl ?_
  refine hb_ld (n := 235) (kind := 64) hm4 (by decide +kernel) rfl rfl (.inl rfl) (by omega) (show _ < (24 : Int) by omega) hb_at1 ?_
  intro v234 hv234 lv234 uv234
  refine he_iadd (n := 236) (by decide +kernel) (by omega) (by omega) ?_
  intro v235 hv235
  refine he_istore (n := 238) (i := 11) (by decide +kernel) rfl ?_
  refine hj_e HX_same (fun c hc h => hC c hc (by omega)) (by omega) hz hm4 hx4 hw12 hw13 (by omega) (by omega) (by omega) (by omega) (by omega) (by omega) (by omega) (by omega) (by omega) (by omega) ?_ ?_ ?_ ?_ ?_ ?_ ?_ ?_ ?_ ?_ ?_
  · intro M5 y12 y13 gs gx gw g8 ge 
    intros
    refine hj_l (M0 := M5) (fun c hc h => hC c hc (by omega)) (by omega) hz (by omega) (by omega) (by omega) (by omega) ?_ (24 - y13.toInt).toNat M5 y12 y13 (by omega) (by omega) (by omega) gs gx ⟨hb_fr_r, fun _ _ => rfl⟩ (fun _ _ => rfl)
    intro M6 r k1 k2 k3 k4 k5
    have f5 : ∀ a, a = 235 ∨ a = 238 ∨ a = 243 ∨ a = 244 → M6 a = M4 a := fun a ha => (k4 a ha).trans (gw a (by omega) (by rcases ha with rfl | rfl | rfl | rfl <;> decide))
    refine K M6 r k1 k2 (hj_Rt (hj_Rt R04 (hj_Rb (by decide) gw g8)) k3) ((f5 235 (by decide)).trans f235) ((f5 238 (by decide)).trans f238) (fun j hj => ?_) ?_
    · rw [hb_vc (f5 243 (by decide)), hb_vc (f5 244 (by decide))]
      exact hn j hj
    · rw [hb_vc (f5 243 (by decide)), hb_vc (f5 244 (by decide))]
      omega
  · intro M5 y12 y13 gs gx gw g8 ge 
    intros
    refine hj_l (M0 := M5) (fun c hc h => hC c hc (by omega)) (by omega) hz (by omega) (by omega) (by omega) (by omega) ?_ (24 - y13.toInt).toNat M5 y12 y13 (by omega) (by omega) (by omega) gs gx ⟨hb_fr_r, fun _ _ => rfl⟩ (fun _ _ => rfl)
    intro M6 r k1 k2 k3 k4 k5
    have f5 : ∀ a, a = 235 ∨ a = 238 ∨ a = 243 ∨ a = 244 → M6 a = M4 a := fun a ha => (k4 a ha).trans (gw a (by omega) (by rcases ha with rfl | rfl | rfl | rfl <;> decide))
    refine K M6 r k1 k2 (hj_Rt (hj_Rt R04 (hj_Rb (by decide) gw g8)) k3) ((f5 235 (by decide)).trans f235) ((f5 238 (by decide)).trans f238) (fun j hj => ?_) ?_
    · rw [hb_vc (f5 243 (by decide)), hb_vc (f5 244 (by decide))]
      exact hn j hj
    · rw [hb_vc (f5 243 (by decide)), hb_vc (f5 244 (by decide))]
      omega
  · intro M5 y12 y13 gs gx gw g8 ge 
    intros
    refine hj_l (M0 := M5) (fun c hc h => hC c hc (by omega)) (by omega) hz (by omega) (by omega) (by omega) (by omega) ?_ (24 - y13.toInt).toNat M5 y12 y13 (by omega) (by omega) (by omega) gs gx ⟨hb_fr_r, fun _ _ => rfl⟩ (fun _ _ => rfl)
    intro M6 r k1 k2 k3 k4 k5
    have f5 : ∀ a, a = 235 ∨ a = 238 ∨ a = 243 ∨ a = 244 → M6 a = M4 a := fun a ha => (k4 a ha).trans (gw a (by omega) (by rcases ha with rfl | rfl | rfl | rfl <;> decide))
    refine K M6 r k1 k2 (hj_Rt (hj_Rt R04 (hj_Rb (by decide) gw g8)) k3) ((f5 235 (by decide)).trans f235) ((f5 238 (by decide)).trans f238) (fun j hj => ?_) ?_
    · rw [hb_vc (f5 243 (by decide)), hb_vc (f5 244 (by decide))]
      exact hn j hj
    · rw [hb_vc (f5 243 (by decide)), hb_vc (f5 244 (by decide))]
      omega
  · intro M5 y12 y13 gs gx gw g8 ge 
    intros
    refine hj_l (M0 := M5) (fun c hc h => hC c hc (by omega)) (by omega) hz (by omega) (by omega) (by omega) (by omega) ?_ (24 - y13.toInt).toNat M5 y12 y13 (by omega) (by omega) (by omega) gs gx ⟨hb_fr_r, fun _ _ => rfl⟩ (fun _ _ => rfl)
    intro M6 r k1 k2 k3 k4 k5
    have f5 : ∀ a, a = 235 ∨ a = 238 ∨ a = 243 ∨ a = 244 → M6 a = M4 a := fun a ha => (k4 a ha).trans (gw a (by omega) (by rcases ha with rfl | rfl | rfl | rfl <;> decide))
    refine K M6 r k1 k2 (hj_Rt (hj_Rt R04 (hj_Rb (by decide) gw g8)) k3) ((f5 235 (by decide)).trans f235) ((f5 238 (by decide)).trans f238) (fun j hj => ?_) ?_
    · rw [hb_vc (f5 243 (by decide)), hb_vc (f5 244 (by decide))]
      exact hn j hj
    · rw [hb_vc (f5 243 (by decide)), hb_vc (f5 244 (by decide))]
      omega
  · intro M5 y12 y13 gs gx gw g8 ge 
    intros
    refine hj_l (M0 := M5) (fun c hc h => hC c hc (by omega)) (by omega) hz (by omega) (by omega) (by omega) (by omega) ?_ (24 - y13.toInt).toNat M5 y12 y13 (by omega) (by omega) (by omega) gs gx ⟨hb_fr_r, fun _ _ => rfl⟩ (fun _ _ => rfl)
    intro M6 r k1 k2 k3 k4 k5
    have f5 : ∀ a, a = 235 ∨ a = 238 ∨ a = 243 ∨ a = 244 → M6 a = M4 a := fun a ha => (k4 a ha).trans (gw a (by omega) (by rcases ha with rfl | rfl | rfl | rfl <;> decide))
    refine K M6 r k1 k2 (hj_Rt (hj_Rt R04 (hj_Rb (by decide) gw g8)) k3) ((f5 235 (by decide)).trans f235) ((f5 238 (by decide)).trans f238) (fun j hj => ?_) ?_
    · rw [hb_vc (f5 243 (by decide)), hb_vc (f5 244 (by decide))]
      exact hn j hj
    · rw [hb_vc (f5 243 (by decide)), hb_vc (f5 244 (by decide))]
      omega
  · intro M5 y12 y13 gs gx gw g8 ge 
    intros
    refine hj_l (M0 := M5) (fun c hc h => hC c hc (by omega)) (by omega) hz (by omega) (by omega) (by omega) (by omega) ?_ (24 - y13.toInt).toNat M5 y12 y13 (by omega) (by omega) (by omega) gs gx ⟨hb_fr_r, fun _ _ => rfl⟩ (fun _ _ => rfl)
    intro M6 r k1 k2 k3 k4 k5
    have f5 : ∀ a, a = 235 ∨ a = 238 ∨ a = 243 ∨ a = 244 → M6 a = M4 a := fun a ha => (k4 a ha).trans (gw a (by omega) (by rcases ha with rfl | rfl | rfl | rfl <;> decide))
    refine K M6 r k1 k2 (hj_Rt (hj_Rt R04 (hj_Rb (by decide) gw g8)) k3) ((f5 235 (by decide)).trans f235) ((f5 238 (by decide)).trans f238) (fun j hj => ?_) ?_
    · rw [hb_vc (f5 243 (by decide)), hb_vc (f5 244 (by decide))]
      exact hn j hj
    · rw [hb_vc (f5 243 (by decide)), hb_vc (f5 244 (by decide))]
      omega
  · intro M5 y12 y13 gs gx gw g8 ge 
    intros
    refine hj_l (M0 := M5) (fun c hc h => hC c hc (by omega)) (by omega) hz (by omega) (by omega) (by omega) (by omega) ?_ (24 - y13.toInt).toNat M5 y12 y13 (by omega) (by omega) (by omega) gs gx ⟨hb_fr_r, fun _ _ => rfl⟩ (fun _ _ => rfl)
    intro M6 r k1 k2 k3 k4 k5
    have f5 : ∀ a, a = 235 ∨ a = 238 ∨ a = 243 ∨ a = 244 → M6 a = M4 a := fun a ha => (k4 a ha).trans (gw a (by omega) (by rcases ha with rfl | rfl | rfl | rfl <;> decide))
    refine K M6 r k1 k2 (hj_Rt (hj_Rt R04 (hj_Rb (by decide) gw g8)) k3) ((f5 235 (by decide)).trans f235) ((f5 238 (by decide)).trans f238) (fun j hj => ?_) ?_
    · rw [hb_vc (f5 243 (by decide)), hb_vc (f5 244 (by decide))]
      exact hn j hj
    · rw [hb_vc (f5 243 (by decide)), hb_vc (f5 244 (by decide))]
      omega
  · intro M5 y12 y13 gs gx gw g8 ge 
    intros
    refine hj_l (M0 := M5) (fun c hc h => hC c hc (by omega)) (by omega) hz (by omega) (by omega) (by omega) (by omega) ?_ (24 - y13.toInt).toNat M5 y12 y13 (by omega) (by omega) (by omega) gs gx ⟨hb_fr_r, fun _ _ => rfl⟩ (fun _ _ => rfl)
    intro M6 r k1 k2 k3 k4 k5
    have f5 : ∀ a, a = 235 ∨ a = 238 ∨ a = 243 ∨ a = 244 → M6 a = M4 a := fun a ha => (k4 a ha).trans (gw a (by omega) (by rcases ha with rfl | rfl | rfl | rfl <;> decide))
    refine K M6 r k1 k2 (hj_Rt (hj_Rt R04 (hj_Rb (by decide) gw g8)) k3) ((f5 235 (by decide)).trans f235) ((f5 238 (by decide)).trans f238) (fun j hj => ?_) ?_
    · rw [hb_vc (f5 243 (by decide)), hb_vc (f5 244 (by decide))]
      exact hn j hj
    · rw [hb_vc (f5 243 (by decide)), hb_vc (f5 244 (by decide))]
      omega
  · intro M5 y12 y13 gs gx gw g8 ge 
    intros
    refine hj_l (M0 := M5) (fun c hc h => hC c hc (by omega)) (by omega) hz (by omega) (by omega) (by omega) (by omega) ?_ (24 - y13.toInt).toNat M5 y12 y13 (by omega) (by omega) (by omega) gs gx ⟨hb_fr_r, fun _ _ => rfl⟩ (fun _ _ => rfl)
    intro M6 r k1 k2 k3 k4 k5
    have f5 : ∀ a, a = 235 ∨ a = 238 ∨ a = 243 ∨ a = 244 → M6 a = M4 a := fun a ha => (k4 a ha).trans (gw a (by omega) (by rcases ha with rfl | rfl | rfl | rfl <;> decide))
    refine K M6 r k1 k2 (hj_Rt (hj_Rt R04 (hj_Rb (by decide) gw g8)) k3) ((f5 235 (by decide)).trans f235) ((f5 238 (by decide)).trans f238) (fun j hj => ?_) ?_
    · rw [hb_vc (f5 243 (by decide)), hb_vc (f5 244 (by decide))]
      exact hn j hj
    · rw [hb_vc (f5 243 (by decide)), hb_vc (f5 244 (by decide))]
      omega
  · intro M5 y12 y13 gs gx gw g8 ge 
    intros
    refine hj_l (M0 := M5) (fun c hc h => hC c hc (by omega)) (by omega) hz (by omega) (by omega) (by omega) (by omega) ?_ (24 - y13.toInt).toNat M5 y12 y13 (by omega) (by omega) (by omega) gs gx ⟨hb_fr_r, fun _ _ => rfl⟩ (fun _ _ => rfl)
    intro M6 r k1 k2 k3 k4 k5
    have f5 : ∀ a, a = 235 ∨ a = 238 ∨ a = 243 ∨ a = 244 → M6 a = M4 a := fun a ha => (k4 a ha).trans (gw a (by omega) (by rcases ha with rfl | rfl | rfl | rfl <;> decide))
    refine K M6 r k1 k2 (hj_Rt (hj_Rt R04 (hj_Rb (by decide) gw g8)) k3) ((f5 235 (by decide)).trans f235) ((f5 238 (by decide)).trans f238) (fun j hj => ?_) ?_
    · rw [hb_vc (f5 243 (by decide)), hb_vc (f5 244 (by decide))]
      exact hn j hj
    · rw [hb_vc (f5 243 (by decide)), hb_vc (f5 244 (by decide))]
      omega
  · intro M5 y12 y13 gs gx gw g8 ge 
    intros
    refine hj_l (M0 := M5) (fun c hc h => hC c hc (by omega)) (by omega) hz (by omega) (by omega) (by omega) (by omega) ?_ (24 - y13.toInt).toNat M5 y12 y13 (by omega) (by omega) (by omega) gs gx ⟨hb_fr_r, fun _ _ => rfl⟩ (fun _ _ => rfl)
    intro M6 r k1 k2 k3 k4 k5
    have f5 : ∀ a, a = 235 ∨ a = 238 ∨ a = 243 ∨ a = 244 → M6 a = M4 a := fun a ha => (k4 a ha).trans (gw a (by omega) (by rcases ha with rfl | rfl | rfl | rfl <;> decide))
    refine K M6 r k1 k2 (hj_Rt (hj_Rt R04 (hj_Rb (by decide) gw g8)) k3) ((f5 235 (by decide)).trans f235) ((f5 238 (by decide)).trans f238) (fun j hj => ?_) ?_
    · rw [hb_vc (f5 243 (by decide)), hb_vc (f5 244 (by decide))]
      exact hn j hj
    · rw [hb_vc (f5 243 (by decide)), hb_vc (f5 244 (by decide))]
      omega
theorem hj_n {d z u : Nat} {Q : (Option Value ⊕ Nat) → mq_S → Prop} {M0 : Nat → mq_C} {x1 x2 x3 x4 x5 x6 : Int32} (hC : ∀ c ∈ mz_Cs, c.2 < 3 → mz_Ct mz_GG mq_PP HX c.1 c.2) (hd : 3 ≤ d) (hz : 272 ≤ z) (p1 : 0 ≤ x1.toInt) (p2 : x1.toInt ≤ 3) (p3 : 0 ≤ x2.toInt) (p4 : x2.toInt ≤ 5) (p5 : 0 ≤ x3.toInt) (p6 : x5.toInt ≤ 236) (p7 : 1 ≤ x6.toInt) (p8 : x6.toInt ≤ 4) (p9 : x3.toInt + x6.toInt + 12 ≤ x5.toInt) (p10 : x4.toInt ≤ x3.toInt)
    (K : ∀ (M' : Nat → mq_C) (r : Int32), mz_sh mz_GG M' → HX M' → hj_R M0 M' → M' 235 = M0 235 → M' 238 = M0 238 → (∀ j, j ≠ 6 * x1.toInt.toNat + x2.toInt.toNat → hv M' 243 j = hv M0 243 j ∧ hv M' 244 j = hv M0 244 j) → (r.toInt = -1 ∨ x3.toInt ≤ r.toInt ∧ r.toInt ≤ x5.toInt ∧ x3.toInt < x5.toInt ∧ hv M' 244 (6 * x1.toInt.toNat + x2.toInt.toNat) + hv M' 243 (6 * x1.toInt.toNat + x2.toInt.toNat) + 2 ≤ 240) → Q (.inl (some (.int r))) (M', z, u)) :
    ∀ (m : Nat) (M : Nat → mq_C) (x7 x8 : Int32) (o9 o10 o11 o12 o13 : Option Value), (m : Int) = x8.toInt → x8.toInt ≤ x6.toInt → mz_sh mz_GG M → HX M → hj_R M0 M → (∀ a, a = 235 ∨ a = 238 ∨ a = 243 ∨ a = 244 → M a = M0 a) → hv M0 238 x1.toInt.toNat = 0 → mq_nl o9 = true → mq_nl o10 = true → mq_nl o11 = true → mq_nl o12 = true → mq_nl o13 = true → mq_R mq_PP d 132 49 [some (.ref 234), some (.int x1), some (.int x2), some (.int x3), some (.int x4), some (.int x5), some (.int x6), some (.int x7), some (.int x8), o9, o10, o11, o12, o13] [] (M, z, u) Q := by
  intro m
  induction m with
  | zero =>
    intro M x7 x8 o9 o10 o11 o12 o13 e1 e2 hm hx hR hs h0 n9 n10 n11 n12 n13
    refine hj_b HX_same (fun c hc h => hC c hc (by omega)) (by omega) hz hm hx n9 n10 n11 n12 n13 (by omega) (by omega) (by omega) (by omega) (by omega) (by omega) (by omega) (by omega) (by omega) (by omega) (by omega) (by omega) ?_ ?_ ?_
    · intro M' y8 y9 w10 w11 w12 w13 y14 gs gx gw g8 ge hw10 hw11 hw12 hw13
      intros
      have f5 : ∀ a, a = 235 ∨ a = 238 ∨ a = 243 ∨ a = 244 → M' a = M0 a := fun a ha => (gw a (by omega) (by rcases ha with rfl | rfl | rfl | rfl <;> decide)).trans (hs a ha)
      have e9 : y9.toInt.toNat = 6 * x1.toInt.toNat + x2.toInt.toNat := by omega
      refine hj_m (x4 := x4) (x8 := y8) (x9 := y9) (v := y14) hC hd hz gs gx p1 p2 p3 p4 (by omega) (by omega) (by omega) (by omega) (by omega) (by omega) (by rw [hb_vc (f5 238 (by decide))]; exact h0) hw10 hw11 hw12 hw13 ?_
      intro M6 r k1 k2 k3 k4 k4' k5 k6
      rw [e9] at k5 k6
      refine K M6 r k1 k2 (hj_Rt (hj_Rt hR (hj_Rb (by decide) gw g8)) k3) (k4.trans (f5 235 (by decide))) (k4'.trans (f5 238 (by decide))) (fun j hj => ?_) (by omega)
      rw [← hb_vc (f5 243 (by decide)), ← hb_vc (f5 244 (by decide))]
      exact k5 j hj
    · intro M' y7 y8 y9 w10 w11 w12 w13 gs gx gw g8 ge hw10 hw11 hw12 hw13
      intros
      omega
    · intro M' r gs gx gw g8 ge
      intros
      have f5 : ∀ a, a = 235 ∨ a = 238 ∨ a = 243 ∨ a = 244 → M' a = M0 a := fun a ha => (gw a (by omega) (by rcases ha with rfl | rfl | rfl | rfl <;> decide)).trans (hs a ha)
      exact K M' r gs gx (hj_Rt hR (hj_Rb (by decide) gw g8)) (f5 235 (by decide)) (f5 238 (by decide)) (fun j hj => ⟨hb_vc (f5 243 (by decide)) j, hb_vc (f5 244 (by decide)) j⟩) (.inl (by omega))
  | succ m ih =>
    intro M x7 x8 o9 o10 o11 o12 o13 e1 e2 hm hx hR hs h0 n9 n10 n11 n12 n13
    refine hj_b HX_same (fun c hc h => hC c hc (by omega)) (by omega) hz hm hx n9 n10 n11 n12 n13 (by omega) (by omega) (by omega) (by omega) (by omega) (by omega) (by omega) (by omega) (by omega) (by omega) (by omega) (by omega) ?_ ?_ ?_
    · intro M' y8 y9 w10 w11 w12 w13 y14 gs gx gw g8 ge hw10 hw11 hw12 hw13
      intros
      omega
    · intro M' y7 y8 y9 w10 w11 w12 w13 gs gx gw g8 ge hw10 hw11 hw12 hw13
      intros
      exact ih M' y7 y8 _ _ _ _ _ (by omega) (by omega) gs gx (hj_Rt hR (hj_Rb (by decide) gw g8)) (fun a ha => (gw a (by omega) (by rcases ha with rfl | rfl | rfl | rfl <;> decide)).trans (hs a ha)) h0 rfl hw10 hw11 hw12 hw13
    · intro M' r gs gx gw g8 ge
      intros
      have f5 : ∀ a, a = 235 ∨ a = 238 ∨ a = 243 ∨ a = 244 → M' a = M0 a := fun a ha => (gw a (by omega) (by rcases ha with rfl | rfl | rfl | rfl <;> decide)).trans (hs a ha)
      exact K M' r gs gx (hj_Rt hR (hj_Rb (by decide) gw g8)) (f5 235 (by decide)) (f5 238 (by decide)) (fun j hj => ⟨hb_vc (f5 243 (by decide)) j, hb_vc (f5 244 (by decide)) j⟩) (.inl (by omega))
theorem hj_rec {d z u : Nat} {Q : (Option Value ⊕ Nat) → mq_S → Prop} {M : Nat → mq_C} {x1 x2 x3 x4 x5 : Int32} (hC : ∀ c ∈ mz_Cs, c.2 < 3 → mz_Ct mz_GG mq_PP HX c.1 c.2) (hd : 3 ≤ d) (hz : 272 ≤ z) (hm : mz_sh mz_GG M) (hx : HX M) (p1 : 0 ≤ x1.toInt) (p2 : x1.toInt ≤ 3) (p3 : 0 ≤ x2.toInt) (p4 : x2.toInt ≤ 5) (p5 : 0 ≤ x3.toInt) (p6 : x5.toInt ≤ 236) (p10 : x4.toInt ≤ x3.toInt) (h0 : hv M 238 x1.toInt.toNat = 0)
    (K : ∀ (M' : Nat → mq_C) (r : Int32), mz_sh mz_GG M' → HX M' → hj_R M M' → M' 235 = M 235 → M' 238 = M 238 → (∀ j, j ≠ 6 * x1.toInt.toNat + x2.toInt.toNat → hv M' 243 j = hv M 243 j ∧ hv M' 244 j = hv M 244 j) → (r.toInt = -1 ∨ x3.toInt ≤ r.toInt ∧ r.toInt ≤ x5.toInt ∧ x3.toInt < x5.toInt ∧ hv M' 244 (6 * x1.toInt.toNat + x2.toInt.toNat) + hv M' 243 (6 * x1.toInt.toNat + x2.toInt.toNat) + 2 ≤ 240) → Q (.inl (some (.int r))) (M', z, u)) : mq_R mq_PP d 132 0 [some (.ref 234), some (.int x1), some (.int x2), some (.int x3), some (.int x4), some (.int x5), none, none, none, none, none, none, none, none] [] (M, z, u) Q := by
  refine hj_a HX_same (fun c hc h => hC c hc (by omega)) (by omega) hz hm hx rfl rfl rfl rfl rfl rfl rfl rfl (by omega) (by omega) (by omega) (by omega) (by omega) (by omega) ?_ ?_
  · intro M' y6 y7 w9 w10 w11 w12 w13 gs gx gw g8 ge hw9 hw10 hw11 hw12 hw13
    intros
    have f5 : ∀ a, a = 235 ∨ a = 238 ∨ a = 243 ∨ a = 244 → M' a = M a := fun a ha => gw a (by omega) (by rcases ha with rfl | rfl | rfl | rfl <;> decide)
    exact hj_n (M0 := M) hC hd hz p1 p2 p3 p4 p5 p6 (by omega) (by omega) (by omega) p10 K y6.toInt.toNat M' y7 y6 _ _ _ _ _ (by omega) (by omega) gs gx (hj_Rb (by decide) gw g8) f5 h0 hw9 hw10 hw11 hw12 hw13
  · intro M' r gs gx gw g8 ge
    intros
    have f5 : ∀ a, a = 235 ∨ a = 238 ∨ a = 243 ∨ a = 244 → M' a = M a := fun a ha => gw a (by omega) (by rcases ha with rfl | rfl | rfl | rfl <;> decide)
    exact K M' r gs gx (hj_Rb (by decide) gw g8) (f5 235 (by decide)) (f5 238 (by decide)) (fun j hj => ⟨hb_vc (f5 243 (by decide)) j, hb_vc (f5 244 (by decide)) j⟩) (.inl (by omega))
