/-! isSound of the model. -/
def hk_a_q : mz_Q := (133, [(1, 234), (0, 0), (3, 0), (3, 0), (3, 0), (3, 0), (3, 0)], [(0, [(1, 1)]), (3, [(1, -1)])], [], [(0, 0, [(0, [(68, 1)]), (0, [(68, -1)])])], [])
def hk_a_s : List mz_Sp2 := [(31, [(1, 234), (0, 0), (0, 0), (3, 0), (3, 0), (3, 0), (3, 0)], [], [(0, [(1, -1), (69, 1)]), (0, [(1, 1), (69, -1)]), (236, [(70, -1)]), (4, [(70, 1)]), (0, [(70, 1)])])]
def hk_a_h : List mz_H := [(236, 0, []), (0, 0, [(0, 1)]), (0, 0, [(1, 1)]), (0, 0, []), (0, 0, [(0, 1)]), (0, 0, [(1, 1)]), (0, 0, []), (0, 0, []), (0, 0, []), (0, 0, []), (0, 0, []), (0, 0, []), (0, 0, []), (137, 0, []), (0, 0, [(3, 1)]), (0, 0, [(4, 1)]), (0, 0, [(0, 1)]), (0, 0, [(2, 1)]), (0, 0, []), (0, 0, []), (0, 0, []), (0, 0, []), (0, 0, []), (0, 0, []), (0, 0, []), (0, 0, []), (0, 0, []), (0, 0, []), (0, 0, []), (0, 0, [(8, 1)]), (0, 0, [(6, 1)]), (0, 0, [(6, 1)])]
set_option maxRecDepth 100000 in
theorem hk_a_c : mz_blk mz_GG mq_PP mz_Cs hk_a_q 7 2 7 hk_a_s [] 25 hk_a_h = true := by decide +kernel
theorem hk_a {X : (Nat → mq_C) → Prop} (hX : ∀ M M' : Nat → mq_C, mz_same mz_GG M M' → X M → X M') (hC : ∀ c ∈ mz_Cs, c.2 < 2 → mz_Ct mz_GG mq_PP X c.1 c.2) {d z u : Nat} {M : Nat → mq_C} {Q : (Option Value ⊕ Nat) → mq_S → Prop} {x1 : Int32} {o2 : Option Value} {o3 : Option Value} {o4 : Option Value} {o5 : Option Value} {o6 : Option Value} (hd : 2 ≤ d) (hz : 272 ≤ z) (hm : mz_sh mz_GG M) (hx : X M) (h0 : mq_nl o2 = true) (h1 : mq_nl o3 = true) (h2 : mq_nl o4 = true) (h3 : mq_nl o5 = true) (h4 : mq_nl o6 = true) (p0 : 0 ≤ x1.toInt) (p1 : 0 ≤ 3 - x1.toInt)
    (k0 : ∀ (M' : Nat → mq_C) (y2 : Int32) (w3 : Option Value) (w4 : Option Value) (w5 : Option Value) (w6 : Option Value), mz_sh mz_GG M' → X M' → mz_fr hk_a_q M M' → (∀ a, a < 8 → M' a = M a) → hb_same mz_GG hk_a_q M M' → mq_nl w3 = true → mq_nl w4 = true → mq_nl w5 = true → mq_nl w6 = true → 0 ≤ 236 - y2.toInt → 0 ≤ 4 + y2.toInt → 0 ≤ y2.toInt → mq_R mq_PP d 133 31 [some (.ref 234), some (.int x1), some (.int y2), w3, w4, w5, w6] [] (M', z, u) Q)
    (w0 : ∀ (M' : Nat → mq_C) (r : Int32), mz_sh mz_GG M' → X M' → mz_fr hk_a_q M M' → (∀ a, a < 8 → M' a = M a) → hb_same mz_GG hk_a_q M M' → 0 ≤ r.toInt → 0 ≤ 0 - r.toInt → Q (.inl (some (.int r))) (M', z, u)) : mq_R mq_PP d 133 7 [some (.ref 234), some (.int x1), o2, o3, o4, o5, o6] [] (M, z, u) Q := by
  refine hb_blk mz_GG mq_PP X (q := hk_a_q) (nl := 7) (M := M) hb_okG hX hC hk_a_c hz hd (L := [some (.ref 234), some (.int x1), o2, o3, o4, o5, o6]) (st := []) (show hb_lk mz_GG ([(1, 234), (0, 0), (3, 0), (3, 0), (3, 0), (3, 0), (3, 0)]) _ from ⟨⟨List.mem_singleton.mpr rfl, rfl⟩, trivial, h0, h1, h2, h3, h4, trivial⟩) (show hb_pk mz_GG ([]) _ from trivial) hm hx ?_ ?_ ?_
  · exact hb_cons (show 0 ≤ mz_ev _ _ from (show 0 ≤ 0 + (1 * x1.toInt + 0) by omega)) (hb_cons (show 0 ≤ mz_ev _ _ from (show 0 ≤ 3 + ((-1) * x1.toInt + 0) by omega)) (hb_nil))
  · intro s hs
    rcases List.mem_cons.mp hs with rfl | hs
    · intro ρ1 L' st' M' g1 g2 gm gr gf gs gx gw g8 ge
      obtain ⟨e0, L1, rfl, n0, gg0⟩ := hb_l1 mz_GG g1
      obtain rfl : e0 = 234 := List.mem_singleton.mp n0
      obtain ⟨y1, L1, rfl, qr69, gg1⟩ := hb_l0 mz_GG gg0
      have r69 : ρ1 69 = y1.toInt := qr69
      obtain ⟨y2, L1, rfl, qr70, gg2⟩ := hb_l0 mz_GG gg1
      have r70 : ρ1 70 = y2.toInt := qr70
      obtain ⟨w3, L1, rfl, n3, gg3⟩ := hb_l3 mz_GG gg2
      obtain ⟨w4, L1, rfl, n4, gg4⟩ := hb_l3 mz_GG gg3
      obtain ⟨w5, L1, rfl, n5, gg5⟩ := hb_l3 mz_GG gg4
      obtain ⟨w6, L1, rfl, n6, gg6⟩ := hb_l3 mz_GG gg5
      obtain rfl := hb_ln mz_GG gg6
      obtain rfl := hb_pn mz_GG g2
      have r1 : ρ1 1 = x1.toInt := gr 1 (by decide +kernel)
      obtain ⟨f0, gf⟩ := hb_unc gf
      have f0 : 0 ≤ 0 + ((-1) * ρ1 1 + (1 * ρ1 69 + 0)) := f0
      rw [r1, r69] at f0
      obtain ⟨f1, gf⟩ := hb_unc gf
      have f1 : 0 ≤ 0 + (1 * ρ1 1 + ((-1) * ρ1 69 + 0)) := f1
      rw [r1, r69] at f1
      obtain ⟨f2, gf⟩ := hb_unc gf
      have f2 : 0 ≤ 236 + ((-1) * ρ1 70 + 0) := f2
      rw [r70] at f2
      obtain ⟨f3, gf⟩ := hb_unc gf
      have f3 : 0 ≤ 4 + (1 * ρ1 70 + 0) := f3
      rw [r70] at f3
      obtain ⟨f4, gf⟩ := hb_unc gf
      have f4 : 0 ≤ 0 + (1 * ρ1 70 + 0) := f4
      rw [r70] at f4
      have hy1 : y1 = x1 := hb_inj f0 f1
      subst y1
      exact k0 M' y2 w3 w4 w5 w6 gs gx gw g8 ge n3 n4 n5 n6 (by have h1 := f2; omega) (by have h1 := f3; omega) (by have h1 := f4; omega)
    cases hs
  · intro r S hpo
    obtain ⟨b1, b2, b3, b4, b5, p, hp, res, hf, hre⟩ := hpo
    rcases List.mem_cons.mp hp with rfl | hp
    · obtain ⟨x, rfl, hr, hz1, hu1⟩ := mz_re_0 mz_GG hre rfl
      obtain ⟨M', z', u'⟩ := S
      cases hz1
      cases hu1
      have r68 : hb_r1 mz_GG hk_a_q (hb_rb mz_GG hk_a_q 7 [some (.ref 234), some (.int x1), o2, o3, o4, o5, o6] [] M) M' res 68 = res := rfl
      obtain ⟨f0, hf⟩ := hb_unc hf
      have f0 : 0 ≤ 0 + (1 * res + 0) := f0
      rw [← hr] at f0
      obtain ⟨f1, hf⟩ := hb_unc hf
      have f1 : 0 ≤ 0 + ((-1) * res + 0) := f1
      rw [← hr] at f1
      exact w0 M' x b1 b2 b3 b4 b5 (by have h1 := f0; omega) (by have h1 := f1; omega)
    cases hp

def hk_b_q : mz_Q := (133, [(1, 234), (0, 0), (0, 0), (3, 0), (3, 0), (3, 0), (3, 0)], [(0, [(1, 1)]), (3, [(1, -1)]), (0, [(2, 1)]), (236, [(2, -1)])], [], [], [])
def hk_b_s : List mz_Sp2 := [(58, [(1, 234), (0, 0), (0, 0), (0, 0), (0, 0), (3, 0), (3, 0)], [], [(0, [(1, -1), (69, 1)]), (0, [(1, 1), (69, -1)]), (0, [(2, -1), (70, 1)]), (0, [(2, 1), (70, -1)]), (0, [(71, -1), (72, 1)]), (0, [(71, 1), (72, -1)]), (0, [(71, 1)]), (65535, [(71, -1)])])]
def hk_b_h : List mz_H := [(0, 0, []), (0, 0, [(2, 1)]), (0, 0, [(3, 1)]), (138, 0, []), (0, 0, [(0, 1)]), (0, 0, [(1, 1)]), (0, 0, [(2, 1)]), (0, 0, [(3, 1)]), (0, 0, []), (0, 0, []), (0, 0, []), (0, 0, []), (0, 0, []), (0, 0, []), (0, 0, []), (0, 0, []), (0, 0, [(1, 1)]), (0, 0, [(0, 1)])]
set_option maxRecDepth 100000 in
theorem hk_b_c : mz_blk mz_GG mq_PP mz_Cs hk_b_q 7 3 46 hk_b_s [] 15 hk_b_h = true := by decide +kernel
theorem hk_b {X : (Nat → mq_C) → Prop} (hX : ∀ M M' : Nat → mq_C, mz_same mz_GG M M' → X M → X M') (hC : ∀ c ∈ mz_Cs, c.2 < 3 → mz_Ct mz_GG mq_PP X c.1 c.2) {d z u : Nat} {M : Nat → mq_C} {Q : (Option Value ⊕ Nat) → mq_S → Prop} {x1 : Int32} {x2 : Int32} {o3 : Option Value} {o4 : Option Value} {o5 : Option Value} {o6 : Option Value} (hd : 3 ≤ d) (hz : 272 ≤ z) (hm : mz_sh mz_GG M) (hx : X M) (h0 : mq_nl o3 = true) (h1 : mq_nl o4 = true) (h2 : mq_nl o5 = true) (h3 : mq_nl o6 = true) (p0 : 0 ≤ x1.toInt) (p1 : 0 ≤ 3 - x1.toInt) (p2 : 0 ≤ x2.toInt) (p3 : 0 ≤ 236 - x2.toInt)
    (k0 : ∀ (M' : Nat → mq_C) (y3 : Int32) (w5 : Option Value) (w6 : Option Value), mz_sh mz_GG M' → X M' → mz_fr hk_b_q M M' → (∀ a, a < 8 → M' a = M a) → hb_same mz_GG hk_b_q M M' → mq_nl w5 = true → mq_nl w6 = true → 0 ≤ y3.toInt → 0 ≤ 65535 - y3.toInt → mq_R mq_PP d 133 58 [some (.ref 234), some (.int x1), some (.int x2), some (.int y3), some (.int y3), w5, w6] [] (M', z, u) Q) : mq_R mq_PP d 133 46 [some (.ref 234), some (.int x1), some (.int x2), o3, o4, o5, o6] [] (M, z, u) Q := by
  refine hb_blk mz_GG mq_PP X (q := hk_b_q) (nl := 7) (M := M) hb_okG hX hC hk_b_c hz hd (L := [some (.ref 234), some (.int x1), some (.int x2), o3, o4, o5, o6]) (st := []) (show hb_lk mz_GG ([(1, 234), (0, 0), (0, 0), (3, 0), (3, 0), (3, 0), (3, 0)]) _ from ⟨⟨List.mem_singleton.mpr rfl, rfl⟩, trivial, trivial, h0, h1, h2, h3, trivial⟩) (show hb_pk mz_GG ([]) _ from trivial) hm hx ?_ ?_ ?_
  · exact hb_cons (show 0 ≤ mz_ev _ _ from (show 0 ≤ 0 + (1 * x1.toInt + 0) by omega)) (hb_cons (show 0 ≤ mz_ev _ _ from (show 0 ≤ 3 + ((-1) * x1.toInt + 0) by omega)) (hb_cons (show 0 ≤ mz_ev _ _ from (show 0 ≤ 0 + (1 * x2.toInt + 0) by omega)) (hb_cons (show 0 ≤ mz_ev _ _ from (show 0 ≤ 236 + ((-1) * x2.toInt + 0) by omega)) (hb_nil))))
  · intro s hs
    rcases List.mem_cons.mp hs with rfl | hs
    · intro ρ1 L' st' M' g1 g2 gm gr gf gs gx gw g8 ge
      obtain ⟨e0, L1, rfl, n0, gg0⟩ := hb_l1 mz_GG g1
      obtain rfl : e0 = 234 := List.mem_singleton.mp n0
      obtain ⟨y1, L1, rfl, qr69, gg1⟩ := hb_l0 mz_GG gg0
      have r69 : ρ1 69 = y1.toInt := qr69
      obtain ⟨y2, L1, rfl, qr70, gg2⟩ := hb_l0 mz_GG gg1
      have r70 : ρ1 70 = y2.toInt := qr70
      obtain ⟨y3, L1, rfl, qr71, gg3⟩ := hb_l0 mz_GG gg2
      have r71 : ρ1 71 = y3.toInt := qr71
      obtain ⟨y4, L1, rfl, qr72, gg4⟩ := hb_l0 mz_GG gg3
      have r72 : ρ1 72 = y4.toInt := qr72
      obtain ⟨w5, L1, rfl, n5, gg5⟩ := hb_l3 mz_GG gg4
      obtain ⟨w6, L1, rfl, n6, gg6⟩ := hb_l3 mz_GG gg5
      obtain rfl := hb_ln mz_GG gg6
      obtain rfl := hb_pn mz_GG g2
      have r1 : ρ1 1 = x1.toInt := gr 1 (by decide +kernel)
      have r2 : ρ1 2 = x2.toInt := gr 2 (by decide +kernel)
      obtain ⟨f0, gf⟩ := hb_unc gf
      have f0 : 0 ≤ 0 + ((-1) * ρ1 1 + (1 * ρ1 69 + 0)) := f0
      rw [r1, r69] at f0
      obtain ⟨f1, gf⟩ := hb_unc gf
      have f1 : 0 ≤ 0 + (1 * ρ1 1 + ((-1) * ρ1 69 + 0)) := f1
      rw [r1, r69] at f1
      obtain ⟨f2, gf⟩ := hb_unc gf
      have f2 : 0 ≤ 0 + ((-1) * ρ1 2 + (1 * ρ1 70 + 0)) := f2
      rw [r2, r70] at f2
      obtain ⟨f3, gf⟩ := hb_unc gf
      have f3 : 0 ≤ 0 + (1 * ρ1 2 + ((-1) * ρ1 70 + 0)) := f3
      rw [r2, r70] at f3
      obtain ⟨f4, gf⟩ := hb_unc gf
      have f4 : 0 ≤ 0 + ((-1) * ρ1 71 + (1 * ρ1 72 + 0)) := f4
      rw [r71, r72] at f4
      obtain ⟨f5, gf⟩ := hb_unc gf
      have f5 : 0 ≤ 0 + (1 * ρ1 71 + ((-1) * ρ1 72 + 0)) := f5
      rw [r71, r72] at f5
      obtain ⟨f6, gf⟩ := hb_unc gf
      have f6 : 0 ≤ 0 + (1 * ρ1 71 + 0) := f6
      rw [r71] at f6
      obtain ⟨f7, gf⟩ := hb_unc gf
      have f7 : 0 ≤ 65535 + ((-1) * ρ1 71 + 0) := f7
      rw [r71] at f7
      have hy1 : y1 = x1 := hb_inj f0 f1
      subst y1
      have hy2 : y2 = x2 := hb_inj f2 f3
      subst y2
      have hy4 : y4 = y3 := hb_inj f4 f5
      subst y4
      exact k0 M' y3 w5 w6 gs gx gw g8 ge n5 n6 (by have h1 := f6; omega) (by have h1 := f7; omega)
    cases hs
  · intro r S hpo
    obtain ⟨b1, b2, b3, b4, b5, p, hp, res, hf, hre⟩ := hpo
    cases hp

def hk_S (x1 : Int32) (M0 M : Nat → mq_C) : Prop := hj_R M0 M ∧ ∀ j, j ≠ x1.toInt.toNat → hv M 238 j = hv M0 238 j
theorem hk_St {x1 : Int32} {M0 M M' : Nat → mq_C} (h : hk_S x1 M0 M) (h' : hk_S x1 M M') : hk_S x1 M0 M' := ⟨hj_Rt h.1 h'.1, fun j hj => (h'.2 j hj).trans (h.2 j hj)⟩
theorem hk_Sb {x1 : Int32} {M M' : Nat → mq_C} (h : hj_R M M') (he : M' 238 = M 238) : hk_S x1 M M' := ⟨h, fun j _ => hb_vc he j⟩
theorem hk_l {d z u : Nat} {Q : (Option Value ⊕ Nat) → mq_S → Prop} {M0 : Nat → mq_C} {x1 x2 x3 x5 : Int32} (hC : ∀ c ∈ mz_Cs, c.2 < 3 → mz_Ct mz_GG mq_PP HX c.1 c.2) (hd : 4 ≤ d) (hz : 272 ≤ z) (p1 : 0 ≤ x1.toInt) (p2 : x1.toInt ≤ 3) (p3 : 0 ≤ x2.toInt) (p4 : x2.toInt ≤ 236) (p5 : 0 ≤ x3.toInt) (p6 : 0 ≤ x5.toInt) (p7 : x5.toInt ≤ 6)
    (K : ∀ (M' : Nat → mq_C) (r : Int32), mz_sh mz_GG M' → HX M' → hk_S x1 M0 M' → 0 ≤ r.toInt → 0 ≤ 1 - r.toInt → Q (.inl (some (.int r))) (M', z, u)) :
    ∀ (m : Nat) (M : Nat → mq_C) (x4 x6 : Int32), (m : Int) + x6.toInt = 7 → 0 ≤ x6.toInt → x6.toInt ≤ x5.toInt → mz_sh mz_GG M → HX M → hk_S x1 M0 M → hv M 238 x1.toInt.toNat = 0 → (x4.toInt = -1 ∨ x3.toInt ≤ x4.toInt ∧ ∀ j : Nat, (j : Int) < x6.toInt → hv M 244 (6 * x1.toInt.toNat + j) + hv M 243 (6 * x1.toInt.toNat + j) + 2 ≤ 240) → mq_R mq_PP d 133 71 [some (.ref 234), some (.int x1), some (.int x2), some (.int x3), some (.int x4), some (.int x5), some (.int x6)] [] (M, z, u) Q := by
  intro m
  induction m with
  | zero =>
    intro M x4 x6 e1 e2 e3 hm hx hS h0 hI
    omega
  | succ m ih =>
    intro M x4 x6 e1 e2 e3 hm hx hS h0 hI
    obtain ⟨d, rfl⟩ : ∃ d', d = d' + 1 := ⟨d - 1, by omega⟩
    refine he_iload (n := 73) (i := 6) (by decide +kernel) rfl ?_
    refine he_iload (n := 75) (i := 5) (by decide +kernel) rfl ?_
    by_cases h75 : x5.toInt ≤ x6.toInt
    · skip
      refine he_cmpge_t (n := 78) (t := 102) (by decide +kernel) (by omega) ?_
      refine he_iload (n := 104) (i := 4) (by decide +kernel) rfl ?_
      refine he_iload (n := 105) (i := 2) (by decide +kernel) rfl ?_
      by_cases h105 : x4.toInt = x2.toInt
      · rcases hI with hI | ⟨hI0, hI⟩
        · omega
        refine he_cmpeq_t (n := 108) (t := 110) (by decide +kernel) (by omega) ?_
        refine he_aload (n := 111) (i := 0) (by decide +kernel) rfl ?_
        refine he_getr (n := 114) (ci := 9) (j := 4) (ns := [4181, 20]) (b := 238) hm (by decide +kernel) rfl rfl (by decide +kernel) ?_
        refine he_iload (n := 115) (i := 1) (by decide +kernel) rfl ?_
        refine he_iload (n := 117) (i := 5) (by decide +kernel) rfl ?_
        refine hb_sta (n := 118) (kind := 64) hm (by decide +kernel) rfl rfl (.inl rfl) (by omega) (show _ < (4 : Int) by omega) ?_
        generalize hM1 : hb_set M 238 (x1.toInt.toNat) x5 = M1
        have hm1 : mz_sh mz_GG M1 := by rw [← hM1]; exact hb_set_sh hm rfl hb_at1 (by omega) (by omega)
        have eM1 : ∀ b j, b ≠ 238 ∨ j ≠ x1.toInt.toNat → hv M1 b j = hv M b j := by intro b j h; rw [← hM1]; exact hb_set_n h
        have sM1 : hv M1 238 (x1.toInt.toNat) = x5.toInt := by rw [← hM1]; exact hb_set_v hm rfl (show _ < 4 by omega)
        have wM1 : ∀ b, b ≠ 238 → M1 b = M b := by intro b h; rw [← hM1]; exact hb_set_c h
        refine he_iconst (n := 119) (c := 1) (by decide +kernel) (by decide) ?_
        intro c118 hc118
        refine he_retz (by decide +kernel) (by omega) ?_
        have hS1 : hk_S x1 M M1 := ⟨hj_Ro (W := [238]) (hb_only_s hb_only_r (by decide) wM1) (by decide), fun j hj => eM1 _ _ (.inr hj)⟩
        refine K M1 _ hm1 ?_ (hk_St hS hS1) (by omega) (by omega)
        intro k
        by_cases e : k = 16 + x1.toInt.toNat
        · rw [e, hj_k7 (by omega)]
          intro j h1 h2
          rw [sM1] at h2
          rw [eM1 _ _ (.inl (by decide)), eM1 _ _ (.inl (by decide))]
          exact hI j (by omega)
        · rw [← hM1]
          exact hxk_s (hj_sp x1.toInt.toNat k (by omega) e _ _ (.inr ⟨rfl, rfl⟩)) (hx k)
      · skip
        refine he_cmpeq_f (n := 108) (t := 110) (by decide +kernel) (by omega) ?_
        refine he_iconst (n := 109) (c := 0) (by decide +kernel) (by decide) ?_
        intro c108 hc108
        refine he_retz (by decide +kernel) (by omega) ?_
        exact K M _ hm hx hS (by omega) (by omega)
    · skip
      refine he_cmpge_f (n := 78) (t := 102) (by decide +kernel) (by omega) ?_
      refine he_iload (n := 80) (i := 4) (by decide +kernel) rfl ?_
      by_cases h80 : x4.toInt < 0
      · skip
        refine he_iflt_t (n := 83) (t := 102) (by decide +kernel) (by omega) ?_
        refine he_iload (n := 104) (i := 4) (by decide +kernel) rfl ?_
        refine he_iload (n := 105) (i := 2) (by decide +kernel) rfl ?_
        refine he_cmpeq_f (n := 108) (t := 110) (by decide +kernel) (by omega) ?_
        refine he_iconst (n := 109) (c := 0) (by decide +kernel) (by decide) ?_
        intro c108 hc108
        refine he_retz (by decide +kernel) (by omega) ?_
        exact K M _ hm hx hS (by omega) (by omega)
      · rcases hI with hI | ⟨hI0, hI⟩
        · omega
        refine he_iflt_f (n := 83) (t := 102) (by decide +kernel) (by omega) ?_
        refine he_aload (n := 84) (i := 0) (by decide +kernel) rfl ?_
        refine he_iload (n := 85) (i := 1) (by decide +kernel) rfl ?_
        refine he_iload (n := 87) (i := 6) (by decide +kernel) rfl ?_
        refine he_iload (n := 89) (i := 4) (by decide +kernel) rfl ?_
        refine he_iload (n := 90) (i := 3) (by decide +kernel) rfl ?_
        refine he_iload (n := 91) (i := 2) (by decide +kernel) rfl ?_
        refine he_v5 (n := 94) (j := 132) (ci := 9) (mx := 14) (ns := [6046, 6048, 78, 224]) (by decide +kernel) ((hb_kd (a := 234) hm rfl).trans rfl) (by decide) (by show 6 ≤ 14; omega) ?_
        rw [mq_e132]
        refine hj_rec hC (by omega) hz hm hx p1 p2 (by omega) (by omega) (by omega) (by omega) (by omega) h0 ?_
        intro M2 r hm2 hx2 hR2 h235 h238 hn hr
        show mq_R mq_PP (d + 1) 133 94 _ [.int r] (M2, z, u) Q
        refine he_istore (n := 96) (i := 4) (by decide +kernel) rfl ?_
        refine he_iinc (n := 99) (i := 6) (c := 1) (L' := fun v => [some (.ref 234), some (.int x1), some (.int x2), some (.int x3), some (.int r), some (.int x5), some (.int v)]) (by decide +kernel) (by decide) rfl (fun _ => rfl) (by omega) (by omega) ?_
        intro i96 hi96
        refine he_goto (t := 71) (by decide +kernel) ?_
        refine ih M2 r i96 (by omega) (by omega) (by omega) hm2 hx2 (hk_St hS (hk_Sb hR2 h238)) (by rw [hb_vc h238]; exact h0) ?_
        rcases hr with hr | ⟨hr1, hr2, hr3, hr4⟩
        · exact .inl hr
        · refine .inr ⟨by omega, fun j hj => ?_⟩
          by_cases e : j = x6.toInt.toNat
          · rw [e]
            exact hr4
          · rw [(hn _ (by omega)).1, (hn _ (by omega)).2]
            exact hI j (by omega)
theorem hk_s {d z u : Nat} {Q : (Option Value ⊕ Nat) → mq_S → Prop} {M : Nat → mq_C} {x1 : Int32} (hC : ∀ c ∈ mz_Cs, c.2 < 3 → mz_Ct mz_GG mq_PP HX c.1 c.2) (hd : 4 ≤ d) (hz : 272 ≤ z) (hm : mz_sh mz_GG M) (hx : HX M) (p1 : 0 ≤ x1.toInt) (p2 : x1.toInt ≤ 3)
    (K : ∀ (M' : Nat → mq_C) (r : Int32), mz_sh mz_GG M' → HX M' → hk_S x1 M M' → 0 ≤ r.toInt → 0 ≤ 1 - r.toInt → Q (.inl (some (.int r))) (M', z, u)) : mq_R mq_PP d 133 0 [some (.ref 234), some (.int x1), none, none, none, none, none] [] (M, z, u) Q := by
  obtain ⟨d, rfl⟩ : ∃ d', d = d' + 1 := ⟨d - 1, by omega⟩
  refine he_aload (n := 1) (i := 0) (by decide +kernel) rfl ?_
  refine he_getr (n := 4) (ci := 9) (j := 4) (ns := [4181, 20]) (b := 238) hm (by decide +kernel) rfl rfl (by decide +kernel) ?_
  refine he_iload (n := 5) (i := 1) (by decide +kernel) rfl ?_
  refine he_iconst (n := 6) (c := 0) (by decide +kernel) (by decide) ?_
  intro c5 hc5
  refine hb_sta (n := 7) (kind := 64) hm (by decide +kernel) rfl rfl (.inl rfl) (by omega) (show _ < (4 : Int) by omega) ?_
  generalize hM1 : hb_set M 238 (x1.toInt.toNat) c5 = M1
  have hm1 : mz_sh mz_GG M1 := by rw [← hM1]; exact hb_set_sh hm rfl hb_at1 (by omega) (by omega)
  have eM1 : ∀ b j, b ≠ 238 ∨ j ≠ x1.toInt.toNat → hv M1 b j = hv M b j := by intro b j h; rw [← hM1]; exact hb_set_n h
  have sM1 : hv M1 238 (x1.toInt.toNat) = c5.toInt := by rw [← hM1]; exact hb_set_v hm rfl (show _ < 4 by omega)
  have wM1 : ∀ b, b ≠ 238 → M1 b = M b := by intro b h; rw [← hM1]; exact hb_set_c h
  have hS1 : hk_S x1 M M1 := ⟨hj_Ro (W := [238]) (hb_only_s hb_only_r (by decide) wM1) (by decide), fun j hj => eM1 _ _ (.inr hj)⟩
  have h0 : hv M1 238 x1.toInt.toNat = 0 := by rw [sM1]; omega
  have hx1 : HX M1 := by
    intro k
    by_cases e : k = 16 + x1.toInt.toNat
    · rw [e, hj_k7 (by omega)]
      intro j h1 h2
      omega
    · rw [← hM1]
      exact hxk_s (hj_sp x1.toInt.toNat k (by omega) e _ _ (.inr ⟨rfl, rfl⟩)) (hx k)
  refine hk_a HX_same (fun c hc h => hC c hc (by omega)) (by omega) hz hm1 hx1 rfl rfl rfl rfl rfl (by omega) (by omega) ?_ ?_
  · intro M2 y2 w3 w4 w5 w6 gs gx gw g8 ge hw3 hw4 hw5 hw6
    intros
    have e2 : M2 238 = M1 238 := gw 238 (by decide) (by decide)
    have hS2 := hk_St hS1 (hk_Sb (x1 := x1) (hj_Rb (by decide) gw g8) e2)
    refine he_aload (n := 32) (i := 0) (by decide +kernel) rfl ?_
    refine he_iload (n := 33) (i := 1) (by decide +kernel) rfl ?_
    refine he_iload (n := 34) (i := 2) (by decide +kernel) rfl ?_
    refine he_iconst (n := 35) (c := 1) (by decide +kernel) (by decide) ?_
    intro ca34 hca34
    refine he_iadd (n := 36) (by decide +kernel) (by omega) (by omega) ?_
    intro va35 hva35
    refine he_v2 (n := 39) (j := 130) (ci := 9) (mx := 3) (ns := [6038, 6040, 76, 217]) (by decide +kernel) ((hb_kd (a := 234) gs rfl).trans rfl) (by decide) (by show 3 ≤ 3; omega) ?_
    rw [mq_e130]
    refine hj_by gs p1 p2 (by omega) (by omega) ?_
    intro r hr1 hr2 hr3
    show mq_R mq_PP (d + 1) 133 39 _ [.int r] (M2, z, u) Q
    refine he_iconst (n := 41) (c := 6) (by decide +kernel) (by decide) ?_
    intro ca39 hca39
    by_cases h41 : r.toInt ≤ ca39.toInt
    · skip
      refine he_cmple_t (n := 44) (t := 46) (by decide +kernel) (by omega) ?_
      refine hk_b HX_same (fun c hc h => hC c hc (by omega)) (by omega) hz gs gx hw3 hw4 hw5 hw6 (by omega) (by omega) (by omega) (by omega) ?_
      intro M3 y3 w5 w6 gs3 gx3 gw3 g83 ge3 hw5 hw6
      intros
      have e3 : M3 238 = M2 238 := gw3 238 (by decide) (by decide)
      have hS3 := hk_St hS2 (hk_Sb (x1 := x1) (hj_Rb (by decide) gw3 g83) e3)
      refine he_aload (n := 59) (i := 0) (by decide +kernel) rfl ?_
      refine he_iload (n := 60) (i := 1) (by decide +kernel) rfl ?_
      refine he_iload (n := 61) (i := 2) (by decide +kernel) rfl ?_
      refine he_iconst (n := 62) (c := 1) (by decide +kernel) (by decide) ?_
      intro cb61 hcb61
      refine he_iadd (n := 63) (by decide +kernel) (by omega) (by omega) ?_
      intro vb62 hvb62
      refine he_v2 (n := 66) (j := 130) (ci := 9) (mx := 3) (ns := [6038, 6040, 76, 217]) (by decide +kernel) ((hb_kd (a := 234) gs3 rfl).trans rfl) (by decide) (by show 3 ≤ 3; omega) ?_
      rw [mq_e130]
      refine hj_by gs3 p1 p2 (by omega) (by omega) ?_
      intro r2 hr4 hr5 hr6
      have hrr : r2.toInt = r.toInt := by
        rw [hr4, hr1, hb_vc (gw3 235 (by decide) (by decide)), show vb62.toInt.toNat = va35.toInt.toNat by omega]
      show mq_R mq_PP (d + 1) 133 66 _ [.int r2] (M3, z, u) Q
      refine he_istore (n := 68) (i := 5) (by decide +kernel) rfl ?_
      refine he_iconst (n := 69) (c := 0) (by decide +kernel) (by decide) ?_
      intro cb68 hcb68
      refine he_istore (n := 71) (i := 6) (by decide +kernel) rfl ?_
      refine hk_l (M0 := M) hC (by omega) hz p1 p2 (by omega) (by omega) (by omega) (by omega) (by omega) K 7 M3 _ cb68 (by omega) (by omega) (by omega) gs3 gx3 hS3 (by rw [hb_vc e3, hb_vc e2]; exact h0) (.inr ⟨by omega, fun j hj => by omega⟩)
    · skip
      refine he_cmple_f (n := 44) (t := 46) (by decide +kernel) (by omega) ?_
      refine he_iconst (n := 45) (c := 0) (by decide +kernel) (by decide) ?_
      intro ca44 hca44
      refine he_retz (by decide +kernel) (by omega) ?_
      exact K M2 _ gs gx hS2 (by omega) (by omega)
  · intro M2 r gs gx gw g8 ge
    intros
    exact K M2 r gs gx (hk_St hS1 (hk_Sb (x1 := x1) (hj_Rb (by decide) gw g8) (gw 238 (by decide) (by decide)))) (by omega) (by omega)
theorem hs_misSound0_P (hC : ∀ c ∈ mz_Cs, c.2 < 3 → mz_Ct mz_GG mq_PP HX c.1 c.2) : hc_misSound0_P := by
  intro d z u M Q x1 hd hz hm hx p1 p2 K
  refine hk_s hC hd hz hm hx (by omega) (by omega) ?_
  intro M' r k1 k2 k3 l1 l2
  refine K M' r k1 k2 k3.1.1 k3.1.2 ?_ l1 l2
  refine hb_same_of (fun t => decide (t.1 = 238 ∧ t.2 ≠ 0 ∨ t.1 < 238 ∨ 245 ≤ t.1 ∧ t.1 < 272)) ?_ (by decide +kernel)
  intro t ht
  rcases of_decide_eq_true ht with ⟨h1, h2⟩ | h1
  · rw [h1]
    exact k3.2 _ (by omega)
  · refine hb_vc (k3.1.1 _ (by omega) ?_) _
    show [238, 239, 240, 241, 242, 243, 244].elem t.1 = false
    simp only [List.elem_eq_mem, decide_eq_false_iff_not, List.mem_cons, List.not_mem_nil, or_false]
    omega
theorem hs_misSound0 (hC : ∀ c ∈ mz_Cs, c.2 < 3 → mz_Ct mz_GG mq_PP HX c.1 c.2) : mz_Ct mz_GG mq_PP HX mz_q143 4 := hc_misSound0 (hs_misSound0_P hC)
theorem hs_misSound1_P (hC : ∀ c ∈ mz_Cs, c.2 < 3 → mz_Ct mz_GG mq_PP HX c.1 c.2) : hc_misSound1_P := by
  intro d z u M Q x1 hd hz hm hx p1 p2 K
  refine hk_s hC hd hz hm hx (by omega) (by omega) ?_
  intro M' r k1 k2 k3 l1 l2
  refine K M' r k1 k2 k3.1.1 k3.1.2 ?_ l1 l2
  refine hb_same_of (fun t => decide (t.1 = 238 ∧ t.2 ≠ 1 ∨ t.1 < 238 ∨ 245 ≤ t.1 ∧ t.1 < 272)) ?_ (by decide +kernel)
  intro t ht
  rcases of_decide_eq_true ht with ⟨h1, h2⟩ | h1
  · rw [h1]
    exact k3.2 _ (by omega)
  · refine hb_vc (k3.1.1 _ (by omega) ?_) _
    show [238, 239, 240, 241, 242, 243, 244].elem t.1 = false
    simp only [List.elem_eq_mem, decide_eq_false_iff_not, List.mem_cons, List.not_mem_nil, or_false]
    omega
theorem hs_misSound1 (hC : ∀ c ∈ mz_Cs, c.2 < 3 → mz_Ct mz_GG mq_PP HX c.1 c.2) : mz_Ct mz_GG mq_PP HX mz_q150 4 := hc_misSound1 (hs_misSound1_P hC)
theorem hs_misSound2_P (hC : ∀ c ∈ mz_Cs, c.2 < 3 → mz_Ct mz_GG mq_PP HX c.1 c.2) : hc_misSound2_P := by
  intro d z u M Q x1 hd hz hm hx p1 p2 K
  refine hk_s hC hd hz hm hx (by omega) (by omega) ?_
  intro M' r k1 k2 k3 l1 l2
  refine K M' r k1 k2 k3.1.1 k3.1.2 ?_ l1 l2
  refine hb_same_of (fun t => decide (t.1 = 238 ∧ t.2 ≠ 2 ∨ t.1 < 238 ∨ 245 ≤ t.1 ∧ t.1 < 272)) ?_ (by decide +kernel)
  intro t ht
  rcases of_decide_eq_true ht with ⟨h1, h2⟩ | h1
  · rw [h1]
    exact k3.2 _ (by omega)
  · refine hb_vc (k3.1.1 _ (by omega) ?_) _
    show [238, 239, 240, 241, 242, 243, 244].elem t.1 = false
    simp only [List.elem_eq_mem, decide_eq_false_iff_not, List.mem_cons, List.not_mem_nil, or_false]
    omega
theorem hs_misSound2 (hC : ∀ c ∈ mz_Cs, c.2 < 3 → mz_Ct mz_GG mq_PP HX c.1 c.2) : mz_Ct mz_GG mq_PP HX mz_q157 4 := hc_misSound2 (hs_misSound2_P hC)
theorem hs_misSound3_P (hC : ∀ c ∈ mz_Cs, c.2 < 3 → mz_Ct mz_GG mq_PP HX c.1 c.2) : hc_misSound3_P := by
  intro d z u M Q x1 hd hz hm hx p1 p2 K
  refine hk_s hC hd hz hm hx (by omega) (by omega) ?_
  intro M' r k1 k2 k3 l1 l2
  refine K M' r k1 k2 k3.1.1 k3.1.2 ?_ l1 l2
  refine hb_same_of (fun t => decide (t.1 = 238 ∧ t.2 ≠ 3 ∨ t.1 < 238 ∨ 245 ≤ t.1 ∧ t.1 < 272)) ?_ (by decide +kernel)
  intro t ht
  rcases of_decide_eq_true ht with ⟨h1, h2⟩ | h1
  · rw [h1]
    exact k3.2 _ (by omega)
  · refine hb_vc (k3.1.1 _ (by omega) ?_) _
    show [238, 239, 240, 241, 242, 243, 244].elem t.1 = false
    simp only [List.elem_eq_mem, decide_eq_false_iff_not, List.mem_cons, List.not_mem_nil, or_false]
    omega
theorem hs_misSound3 (hC : ∀ c ∈ mz_Cs, c.2 < 3 → mz_Ct mz_GG mq_PP HX c.1 c.2) : mz_Ct mz_GG mq_PP HX mz_q164 4 := hc_misSound3 (hs_misSound3_P hC)
