/-! The model's loads: settle. -/
theorem hm_cl {k n j : Nat} {M M1 M' : Nat → mq_C} {x n' y s t c cm : Int32} (hm1 : mz_sh mz_GG M1) (hk4 : k < 4) (hset : hb_set M 262 k y = M1) (hsx : hv M1 262 k = y.toInt) (hrx : hv M 262 k = x.toInt) (hn : n'.toInt = (n : Int)) (hn32 : n < 32) (hc : c.toInt = 1) (hcm : cm.toInt = -1) (hs : s = c <<< (n' &&& 31)) (ht : t = s ^^^ cm) (hy : y = x &&& t) (hR : hm_rel k j M1 M') (hD : M' 261 = M1 261) : hm_D j k n M M' := by
  have e1 : ∀ b i, b ≠ 262 ∨ i ≠ k → hv M1 b i = hv M b i := by intro b i h; rw [← hset]; exact hb_set_n h
  have w1 : ∀ b, b ≠ 262 → M1 b = M b := by intro b h; rw [← hset]; exact hb_set_c h
  have hS : hm_S M M1 := by
    refine ⟨fun a _ hw => w1 a ?_, fun a ha => w1 a (by omega), ?_⟩
    · rintro rfl
      cases hw
    · refine hb_same_of (fun t => decide (t.1 ≠ 262)) ?_ (by decide +kernel)
      intro t ht
      exact hb_vc (w1 _ (of_decide_eq_true ht)) _
  refine ⟨hm_St hS hR.1, fun i hi => ?_, fun i hi => ?_, fun i hi => ?_, fun i hi => ?_⟩
  · rw [hR.2.1, e1 _ _ (.inr hi)]
  · rw [hR.2.1, hsx, hrx, hm_clr (n := n') (by omega) (by omega) hc hcm hs ht hy i hi, show n'.toInt.toNat = n by omega]
  · rw [hb_vc hD, hb_vc (w1 261 (by decide))]
  · rw [hR.2.2.2 i hi, hb_vc (w1 267 (by decide))]
theorem hm_s66 {d z u j k n : Nat} {Q : (Option Value ⊕ Nat) → mq_S → Prop} {M : Nat → mq_C} {x1 x2 x3 x4 x5 x6 : Int32} (hm : mz_sh mz_GG M) (hx : HX M) (hj : hv M 234 48 = (j : Int) + 1) (hj1 : j < 139) (p1 : x1.toInt = 12 * (j : Int)) (hk : hv M 267 (12 * j) = (k : Int)) (hn : hv M 267 (12 * j + 1) = (n : Int)) (hk4 : k < 4) (hn32 : n < 32) (q2 : x2.toInt = (k : Int)) (q3 : x3.toInt = (n : Int)) (q6 : 1 ≤ x6.toInt) (q6' : x6.toInt ≤ 15)
    (KB : ∀ M' : Nat → mq_C, mz_sh mz_GG M' → HX M' → hm_D j k n M M' → hv M' 234 48 = (j : Int) → hm_w M' → Q (.inl none) (M', z, u)) : mq_R mq_PP (d + 1) 154 66 [some (.ref 234), some (.int x1), some (.int x2), some (.int x3), some (.int x4), some (.int x5), some (.int x6), none, none] [] (M, z, u) Q := by
  refine he_aload (n := 67) (i := 0) (by decide +kernel) rfl ?_
  refine he_getr (n := 70) (ci := 9) (j := 36) (ns := [4213, 92]) (b := 262) hm (by decide +kernel) rfl rfl (by decide +kernel) ?_
  refine he_iload (n := 71) (i := 2) (by decide +kernel) rfl ?_
  refine he_aload (n := 72) (i := 0) (by decide +kernel) rfl ?_
  refine he_getr (n := 75) (ci := 9) (j := 36) (ns := [4213, 92]) (b := 262) hm (by decide +kernel) rfl rfl (by decide +kernel) ?_
  refine he_iload (n := 76) (i := 2) (by decide +kernel) rfl ?_
  refine hb_ld (n := 77) (kind := 64) hm (by decide +kernel) rfl rfl (.inl rfl) (by omega) (show _ < (4 : Int) by omega) hb_at1 ?_
  intro v76 hv76 lv76 uv76
  refine he_iconst (n := 78) (c := 1) (by decide +kernel) (by decide) ?_
  intro c77 hc77
  refine he_iload (n := 79) (i := 3) (by decide +kernel) rfl ?_
  refine he_ex2 (o := 15) (n := 80) (by decide +kernel) rfl ?_
  intro v79 hv79
  have ev79 : v79 = c77 <<< (x3 &&& 31) := hv79
  have bv79 := mz_i32 v79
  refine he_iconst (n := 81) (c := -1) (by decide +kernel) (by decide) ?_
  intro c80 hc80
  refine he_ex2 (o := 14) (n := 82) (by decide +kernel) rfl ?_
  intro v81 hv81
  have ev81 : v81 = v79 ^^^ c80 := hv81
  have bv81 := mz_i32 v81
  refine he_ex2 (o := 12) (n := 83) (by decide +kernel) rfl ?_
  intro v82 hv82
  have ev82 : v82 = v76 &&& v81 := hv82
  have bv82 := mz_i32 v82
  refine hb_sta (n := 84) (kind := 64) hm (by decide +kernel) rfl rfl (.inl rfl) (by omega) (show _ < (4 : Int) by omega) ?_
  generalize hM1 : hb_set M 262 (x2.toInt.toNat) v82 = M1
  have hm1 : mz_sh mz_GG M1 := by rw [← hM1]; exact hb_set_sh hm rfl hb_at1 (by omega) (by omega)
  have eM1 : ∀ b j, b ≠ 262 ∨ j ≠ x2.toInt.toNat → hv M1 b j = hv M b j := by intro b j h; rw [← hM1]; exact hb_set_n h
  have sM1 : hv M1 262 (x2.toInt.toNat) = v82.toInt := by rw [← hM1]; exact hb_set_v hm rfl (show _ < 4 by omega)
  have wM1 : ∀ b, b ≠ 262 → M1 b = M b := by intro b h; rw [← hM1]; exact hb_set_c h
  refine he_aload (n := 85) (i := 0) (by decide +kernel) rfl ?_
  refine he_iconst (n := 86) (c := -1) (by decide +kernel) (by decide) ?_
  intro c85 hc85
  refine he_iload (n := 88) (i := 6) (by decide +kernel) rfl ?_
  refine he_aload (n := 89) (i := 0) (by decide +kernel) rfl ?_
  refine hb_gfd (n := 92) (ci := 9) (j := 52) (ns := [4229, 280]) hm1 (by decide +kernel) rfl rfl (by decide) rfl ?_
  intro v89 hv89 lv89 uv89
  refine he_v3 (n := 95) (j := 148) (ci := 9) (mx := 4) (ns := [6014, 6016, 70, 283]) (by decide +kernel) ((hb_kd (a := 234) hm1 rfl).trans rfl) (by decide) (by show 4 ≤ 4; omega) ?_
  rw [mq_e148]
  refine hm_end (j := j) hm1 (by rw [eM1 _ _ (.inl (by decide))]; exact hj) (by omega) (by omega) (by omega) (by omega) (by omega) (by omega) ?_
  intro M' g1 g2 g3 g4 g5 g6
  show mq_R mq_PP (d + 1) 154 95 _ [] (M', z, u) Q
  refine he_ret (by decide +kernel) ?_
  have hx1 : HX M1 := fun t => by rw [← hM1]; exact hxk_s (hm_sp t _ _ (by omega)) (hx t)
  exact KB M' g1 (hm_Ex g2 hx1) (hm_cl (k := k) (n := n) (j := j) (n' := x3) hm1 hk4 (by rw [← hM1, show x2.toInt.toNat = k by omega]) (by rw [show k = x2.toInt.toNat by omega]; exact sM1) (by rw [show k = x2.toInt.toNat by omega]; exact hv76) (by omega) hn32 hc77 hc80 ev79 ev81 ev82 (hm_relE g2 (fun i _ => hb_vc g3 i)) (g2.1 261 (by decide) (by decide))) g4 (.inr (by omega))
def hm_sc_q : mz_Q := (154, [(1, 234), (0, 0), (0, 0), (0, 0), (0, 0), (0, 0), (0, 0), (0, 0), (0, 0)], [], [], [], [])
def hm_sc_s : List mz_Sp2 := [(240, [(1, 234), (0, 0), (0, 0), (0, 0), (0, 0), (0, 0), (0, 0), (0, 0), (0, 0)], [(0, 0), (0, 0), (1, 234)], [(0, [(1, -1), (71, 1)]), (0, [(1, 1), (71, -1)]), (0, [(2, -1), (72, 1)]), (0, [(2, 1), (72, -1)]), (0, [(3, -1), (73, 1)]), (0, [(3, 1), (73, -1)]), (0, [(4, -1), (74, 1)]), (0, [(4, 1), (74, -1)]), (0, [(5, -1), (75, 1)]), (0, [(5, 1), (75, -1)]), (0, [(6, -1), (76, 1)]), (0, [(6, 1), (76, -1)]), (0, [(7, -1), (77, 1)]), (0, [(7, 1), (77, -1)]), (0, [(8, -1), (78, 1)]), (0, [(8, 1), (78, -1)]), (-9, [(79, 1)]), (9, [(79, -1)]), (0, [(1, -1), (80, 1)]), (0, [(1, 1), (80, -1)])]), (240, [(1, 234), (0, 0), (0, 0), (0, 0), (0, 0), (0, 0), (0, 0), (0, 0), (0, 0)], [(0, 0), (0, 0), (1, 234)], [(0, [(1, -1), (71, 1)]), (0, [(1, 1), (71, -1)]), (0, [(2, -1), (72, 1)]), (0, [(2, 1), (72, -1)]), (0, [(3, -1), (73, 1)]), (0, [(3, 1), (73, -1)]), (0, [(4, -1), (74, 1)]), (0, [(4, 1), (74, -1)]), (0, [(5, -1), (75, 1)]), (0, [(5, 1), (75, -1)]), (0, [(6, -1), (76, 1)]), (0, [(6, 1), (76, -1)]), (0, [(7, -1), (77, 1)]), (0, [(7, 1), (77, -1)]), (0, [(8, -1), (78, 1)]), (0, [(8, 1), (78, -1)]), (-8, [(79, 1)]), (8, [(79, -1)]), (0, [(1, -1), (80, 1)]), (0, [(1, 1), (80, -1)])]), (240, [(1, 234), (0, 0), (0, 0), (0, 0), (0, 0), (0, 0), (0, 0), (0, 0), (0, 0)], [(0, 0), (0, 0), (1, 234)], [(0, [(1, -1), (71, 1)]), (0, [(1, 1), (71, -1)]), (0, [(2, -1), (72, 1)]), (0, [(2, 1), (72, -1)]), (0, [(3, -1), (73, 1)]), (0, [(3, 1), (73, -1)]), (0, [(4, -1), (74, 1)]), (0, [(4, 1), (74, -1)]), (0, [(5, -1), (75, 1)]), (0, [(5, 1), (75, -1)]), (0, [(6, -1), (76, 1)]), (0, [(6, 1), (76, -1)]), (0, [(7, -1), (77, 1)]), (0, [(7, 1), (77, -1)]), (0, [(8, -1), (78, 1)]), (0, [(8, 1), (78, -1)]), (-9, [(79, 1)]), (9, [(79, -1)]), (0, [(1, -1), (80, 1)]), (0, [(1, 1), (80, -1)]), (0, [(4, 1)]), (0, [(4, -1)])]), (240, [(1, 234), (0, 0), (0, 0), (0, 0), (0, 0), (0, 0), (0, 0), (0, 0), (0, 0)], [(0, 0), (0, 0), (1, 234)], [(0, [(1, -1), (71, 1)]), (0, [(1, 1), (71, -1)]), (0, [(2, -1), (72, 1)]), (0, [(2, 1), (72, -1)]), (0, [(3, -1), (73, 1)]), (0, [(3, 1), (73, -1)]), (0, [(4, -1), (74, 1)]), (0, [(4, 1), (74, -1)]), (0, [(5, -1), (75, 1)]), (0, [(5, 1), (75, -1)]), (0, [(6, -1), (76, 1)]), (0, [(6, 1), (76, -1)]), (0, [(7, -1), (77, 1)]), (0, [(7, 1), (77, -1)]), (0, [(8, -1), (78, 1)]), (0, [(8, 1), (78, -1)]), (-8, [(79, 1)]), (8, [(79, -1)]), (0, [(1, -1), (80, 1)]), (0, [(1, 1), (80, -1)]), (0, [(4, 1)]), (0, [(4, -1)])])]
def hm_sc_h : List mz_H := [(0, 0, []), (0, 0, []), (3, 0, []), (0, 0, [(0, 1)]), (0, 0, []), (0, 0, []), (0, 0, []), (0, 0, []), (0, 0, []), (0, 0, []), (0, 0, []), (0, 0, []), (0, 0, []), (0, 0, []), (0, 0, []), (0, 0, []), (0, 0, []), (0, 0, []), (0, 0, []), (0, 0, []), (0, 0, []), (0, 0, []), (0, 0, []), (0, 0, []), (0, 0, []), (0, 0, []), (1, 0, []), (0, 0, []), (0, 0, []), (0, 0, []), (0, 0, []), (0, 0, []), (0, 0, []), (0, 0, []), (0, 0, []), (0, 0, []), (0, 0, []), (0, 0, []), (0, 0, []), (0, 0, []), (0, 0, []), (0, 0, []), (0, 0, []), (0, 0, []), (0, 0, []), (0, 0, []), (0, 0, []), (0, 0, []), (3, 0, []), (0, 0, [(0, 1)]), (2, 0, []), (0, 0, []), (0, 0, []), (0, 0, []), (0, 0, []), (0, 0, []), (0, 0, []), (0, 0, []), (0, 0, []), (0, 0, []), (0, 0, []), (0, 0, []), (0, 0, []), (0, 0, []), (0, 0, []), (0, 0, []), (0, 0, []), (0, 0, []), (0, 0, []), (0, 0, []), (0, 0, []), (0, 0, [(5, 1)]), (0, 0, [(4, 1)]), (3, 0, []), (0, 0, []), (0, 0, []), (0, 0, []), (0, 0, []), (0, 0, []), (0, 0, []), (0, 0, []), (0, 0, []), (0, 0, []), (0, 0, []), (0, 0, []), (0, 0, []), (0, 0, []), (0, 0, []), (0, 0, []), (0, 0, []), (0, 0, []), (0, 0, []), (0, 0, []), (0, 0, []), (0, 0, [(4, 1)]), (0, 0, [(3, 1)])]
set_option maxRecDepth 100000 in
theorem hm_sc_c : mz_blk mz_GG mq_PP mz_Cs hm_sc_q 9 1 208 hm_sc_s [] 28 hm_sc_h = true := by decide +kernel
theorem hm_sc {X : (Nat → mq_C) → Prop} (hX : ∀ M M' : Nat → mq_C, mz_same mz_GG M M' → X M → X M') (hC : ∀ c ∈ mz_Cs, c.2 < 1 → mz_Ct mz_GG mq_PP X c.1 c.2) {d z u : Nat} {M : Nat → mq_C} {Q : (Option Value ⊕ Nat) → mq_S → Prop} {x1 : Int32} {x2 : Int32} {x3 : Int32} {x4 : Int32} {x5 : Int32} {x6 : Int32} {x7 : Int32} {x8 : Int32} (hd : 1 ≤ d) (hz : 272 ≤ z) (hm : mz_sh mz_GG M) (hx : X M)
    (k0 : ∀ (M' : Nat → mq_C) (y9 : Int32), mz_sh mz_GG M' → X M' → mz_fr hm_sc_q M M' → (∀ a, a < 8 → M' a = M a) → hb_same mz_GG hm_sc_q M M' → y9.toInt = 9 → mq_R mq_PP d 154 240 [some (.ref 234), some (.int x1), some (.int x2), some (.int x3), some (.int x4), some (.int x5), some (.int x6), some (.int x7), some (.int x8)] [.int y9, .int x1, .ref 234] (M', z, u) Q)
    (k1 : ∀ (M' : Nat → mq_C) (y9 : Int32), mz_sh mz_GG M' → X M' → mz_fr hm_sc_q M M' → (∀ a, a < 8 → M' a = M a) → hb_same mz_GG hm_sc_q M M' → y9.toInt = 8 → mq_R mq_PP d 154 240 [some (.ref 234), some (.int x1), some (.int x2), some (.int x3), some (.int x4), some (.int x5), some (.int x6), some (.int x7), some (.int x8)] [.int y9, .int x1, .ref 234] (M', z, u) Q)
    (k2 : ∀ (M' : Nat → mq_C) (y9 : Int32), mz_sh mz_GG M' → X M' → mz_fr hm_sc_q M M' → (∀ a, a < 8 → M' a = M a) → hb_same mz_GG hm_sc_q M M' → y9.toInt = 9 → 0 ≤ x4.toInt → 0 ≤ 0 - x4.toInt → mq_R mq_PP d 154 240 [some (.ref 234), some (.int x1), some (.int x2), some (.int x3), some (.int x4), some (.int x5), some (.int x6), some (.int x7), some (.int x8)] [.int y9, .int x1, .ref 234] (M', z, u) Q)
    (k3 : ∀ (M' : Nat → mq_C) (y9 : Int32), mz_sh mz_GG M' → X M' → mz_fr hm_sc_q M M' → (∀ a, a < 8 → M' a = M a) → hb_same mz_GG hm_sc_q M M' → y9.toInt = 8 → 0 ≤ x4.toInt → 0 ≤ 0 - x4.toInt → mq_R mq_PP d 154 240 [some (.ref 234), some (.int x1), some (.int x2), some (.int x3), some (.int x4), some (.int x5), some (.int x6), some (.int x7), some (.int x8)] [.int y9, .int x1, .ref 234] (M', z, u) Q) : mq_R mq_PP d 154 208 [some (.ref 234), some (.int x1), some (.int x2), some (.int x3), some (.int x4), some (.int x5), some (.int x6), some (.int x7), some (.int x8)] [] (M, z, u) Q := by
  refine hb_blk mz_GG mq_PP X (q := hm_sc_q) (nl := 9) (M := M) hb_okG hX hC hm_sc_c hz hd (L := [some (.ref 234), some (.int x1), some (.int x2), some (.int x3), some (.int x4), some (.int x5), some (.int x6), some (.int x7), some (.int x8)]) (st := []) (show hb_lk mz_GG ([(1, 234), (0, 0), (0, 0), (0, 0), (0, 0), (0, 0), (0, 0), (0, 0), (0, 0)]) _ from ⟨⟨List.mem_singleton.mpr rfl, rfl⟩, trivial, trivial, trivial, trivial, trivial, trivial, trivial, trivial, trivial⟩) (show hb_pk mz_GG ([]) _ from trivial) hm hx ?_ ?_ ?_
  · exact hb_nil
  · intro s hs
    rcases List.mem_cons.mp hs with rfl | hs
    · intro ρ1 L' st' M' g1 g2 gm gr gf gs gx gw g8 ge
      obtain ⟨e0, L1, rfl, n0, gg0⟩ := hb_l1 mz_GG g1
      obtain rfl : e0 = 234 := List.mem_singleton.mp n0
      obtain ⟨y1, L1, rfl, qr71, gg1⟩ := hb_l0 mz_GG gg0
      have r71 : ρ1 71 = y1.toInt := qr71
      obtain ⟨y2, L1, rfl, qr72, gg2⟩ := hb_l0 mz_GG gg1
      have r72 : ρ1 72 = y2.toInt := qr72
      obtain ⟨y3, L1, rfl, qr73, gg3⟩ := hb_l0 mz_GG gg2
      have r73 : ρ1 73 = y3.toInt := qr73
      obtain ⟨y4, L1, rfl, qr74, gg4⟩ := hb_l0 mz_GG gg3
      have r74 : ρ1 74 = y4.toInt := qr74
      obtain ⟨y5, L1, rfl, qr75, gg5⟩ := hb_l0 mz_GG gg4
      have r75 : ρ1 75 = y5.toInt := qr75
      obtain ⟨y6, L1, rfl, qr76, gg6⟩ := hb_l0 mz_GG gg5
      have r76 : ρ1 76 = y6.toInt := qr76
      obtain ⟨y7, L1, rfl, qr77, gg7⟩ := hb_l0 mz_GG gg6
      have r77 : ρ1 77 = y7.toInt := qr77
      obtain ⟨y8, L1, rfl, qr78, gg8⟩ := hb_l0 mz_GG gg7
      have r78 : ρ1 78 = y8.toInt := qr78
      obtain ⟨y9, s1, rfl, qr79, gg9⟩ := hb_p0 mz_GG g2
      have r79 : ρ1 79 = y9.toInt := qr79
      obtain ⟨y10, s1, rfl, qr80, gg10⟩ := hb_p0 mz_GG gg9
      have r80 : ρ1 80 = y10.toInt := qr80
      obtain ⟨e11, s1, rfl, n11, gg11⟩ := hb_p1 mz_GG gg10
      obtain rfl : e11 = 234 := List.mem_singleton.mp n11
      obtain rfl := hb_ln mz_GG gg8
      obtain rfl := hb_pn mz_GG gg11
      have r1 : ρ1 1 = x1.toInt := gr 1 (by decide +kernel)
      have r2 : ρ1 2 = x2.toInt := gr 2 (by decide +kernel)
      have r3 : ρ1 3 = x3.toInt := gr 3 (by decide +kernel)
      have r4 : ρ1 4 = x4.toInt := gr 4 (by decide +kernel)
      have r5 : ρ1 5 = x5.toInt := gr 5 (by decide +kernel)
      have r6 : ρ1 6 = x6.toInt := gr 6 (by decide +kernel)
      have r7 : ρ1 7 = x7.toInt := gr 7 (by decide +kernel)
      have r8 : ρ1 8 = x8.toInt := gr 8 (by decide +kernel)
      obtain ⟨f0, gf⟩ := hb_unc gf
      have f0 : 0 ≤ 0 + ((-1) * ρ1 1 + (1 * ρ1 71 + 0)) := f0
      rw [r1, r71] at f0
      obtain ⟨f1, gf⟩ := hb_unc gf
      have f1 : 0 ≤ 0 + (1 * ρ1 1 + ((-1) * ρ1 71 + 0)) := f1
      rw [r1, r71] at f1
      obtain ⟨f2, gf⟩ := hb_unc gf
      have f2 : 0 ≤ 0 + ((-1) * ρ1 2 + (1 * ρ1 72 + 0)) := f2
      rw [r2, r72] at f2
      obtain ⟨f3, gf⟩ := hb_unc gf
      have f3 : 0 ≤ 0 + (1 * ρ1 2 + ((-1) * ρ1 72 + 0)) := f3
      rw [r2, r72] at f3
      obtain ⟨f4, gf⟩ := hb_unc gf
      have f4 : 0 ≤ 0 + ((-1) * ρ1 3 + (1 * ρ1 73 + 0)) := f4
      rw [r3, r73] at f4
      obtain ⟨f5, gf⟩ := hb_unc gf
      have f5 : 0 ≤ 0 + (1 * ρ1 3 + ((-1) * ρ1 73 + 0)) := f5
      rw [r3, r73] at f5
      obtain ⟨f6, gf⟩ := hb_unc gf
      have f6 : 0 ≤ 0 + ((-1) * ρ1 4 + (1 * ρ1 74 + 0)) := f6
      rw [r4, r74] at f6
      obtain ⟨f7, gf⟩ := hb_unc gf
      have f7 : 0 ≤ 0 + (1 * ρ1 4 + ((-1) * ρ1 74 + 0)) := f7
      rw [r4, r74] at f7
      obtain ⟨f8, gf⟩ := hb_unc gf
      have f8 : 0 ≤ 0 + ((-1) * ρ1 5 + (1 * ρ1 75 + 0)) := f8
      rw [r5, r75] at f8
      obtain ⟨f9, gf⟩ := hb_unc gf
      have f9 : 0 ≤ 0 + (1 * ρ1 5 + ((-1) * ρ1 75 + 0)) := f9
      rw [r5, r75] at f9
      obtain ⟨f10, gf⟩ := hb_unc gf
      have f10 : 0 ≤ 0 + ((-1) * ρ1 6 + (1 * ρ1 76 + 0)) := f10
      rw [r6, r76] at f10
      obtain ⟨f11, gf⟩ := hb_unc gf
      have f11 : 0 ≤ 0 + (1 * ρ1 6 + ((-1) * ρ1 76 + 0)) := f11
      rw [r6, r76] at f11
      obtain ⟨f12, gf⟩ := hb_unc gf
      have f12 : 0 ≤ 0 + ((-1) * ρ1 7 + (1 * ρ1 77 + 0)) := f12
      rw [r7, r77] at f12
      obtain ⟨f13, gf⟩ := hb_unc gf
      have f13 : 0 ≤ 0 + (1 * ρ1 7 + ((-1) * ρ1 77 + 0)) := f13
      rw [r7, r77] at f13
      obtain ⟨f14, gf⟩ := hb_unc gf
      have f14 : 0 ≤ 0 + ((-1) * ρ1 8 + (1 * ρ1 78 + 0)) := f14
      rw [r8, r78] at f14
      obtain ⟨f15, gf⟩ := hb_unc gf
      have f15 : 0 ≤ 0 + (1 * ρ1 8 + ((-1) * ρ1 78 + 0)) := f15
      rw [r8, r78] at f15
      obtain ⟨f16, gf⟩ := hb_unc gf
      have f16 : 0 ≤ -9 + (1 * ρ1 79 + 0) := f16
      rw [r79] at f16
      obtain ⟨f17, gf⟩ := hb_unc gf
      have f17 : 0 ≤ 9 + ((-1) * ρ1 79 + 0) := f17
      rw [r79] at f17
      obtain ⟨f18, gf⟩ := hb_unc gf
      have f18 : 0 ≤ 0 + ((-1) * ρ1 1 + (1 * ρ1 80 + 0)) := f18
      rw [r1, r80] at f18
      obtain ⟨f19, gf⟩ := hb_unc gf
      have f19 : 0 ≤ 0 + (1 * ρ1 1 + ((-1) * ρ1 80 + 0)) := f19
      rw [r1, r80] at f19
      have hy1 : y1 = x1 := hb_inj f0 f1
      subst y1
      have hy2 : y2 = x2 := hb_inj f2 f3
      subst y2
      have hy3 : y3 = x3 := hb_inj f4 f5
      subst y3
      have hy4 : y4 = x4 := hb_inj f6 f7
      subst y4
      have hy5 : y5 = x5 := hb_inj f8 f9
      subst y5
      have hy6 : y6 = x6 := hb_inj f10 f11
      subst y6
      have hy7 : y7 = x7 := hb_inj f12 f13
      subst y7
      have hy8 : y8 = x8 := hb_inj f14 f15
      subst y8
      have hy10 : y10 = x1 := hb_inj f18 f19
      subst y10
      exact k0 M' y9 gs gx gw g8 ge  (by have h1 := f16; have h2 := f17; omega)
    rcases List.mem_cons.mp hs with rfl | hs
    · intro ρ1 L' st' M' g1 g2 gm gr gf gs gx gw g8 ge
      obtain ⟨e0, L1, rfl, n0, gg0⟩ := hb_l1 mz_GG g1
      obtain rfl : e0 = 234 := List.mem_singleton.mp n0
      obtain ⟨y1, L1, rfl, qr71, gg1⟩ := hb_l0 mz_GG gg0
      have r71 : ρ1 71 = y1.toInt := qr71
      obtain ⟨y2, L1, rfl, qr72, gg2⟩ := hb_l0 mz_GG gg1
      have r72 : ρ1 72 = y2.toInt := qr72
      obtain ⟨y3, L1, rfl, qr73, gg3⟩ := hb_l0 mz_GG gg2
      have r73 : ρ1 73 = y3.toInt := qr73
      obtain ⟨y4, L1, rfl, qr74, gg4⟩ := hb_l0 mz_GG gg3
      have r74 : ρ1 74 = y4.toInt := qr74
      obtain ⟨y5, L1, rfl, qr75, gg5⟩ := hb_l0 mz_GG gg4
      have r75 : ρ1 75 = y5.toInt := qr75
      obtain ⟨y6, L1, rfl, qr76, gg6⟩ := hb_l0 mz_GG gg5
      have r76 : ρ1 76 = y6.toInt := qr76
      obtain ⟨y7, L1, rfl, qr77, gg7⟩ := hb_l0 mz_GG gg6
      have r77 : ρ1 77 = y7.toInt := qr77
      obtain ⟨y8, L1, rfl, qr78, gg8⟩ := hb_l0 mz_GG gg7
      have r78 : ρ1 78 = y8.toInt := qr78
      obtain ⟨y9, s1, rfl, qr79, gg9⟩ := hb_p0 mz_GG g2
      have r79 : ρ1 79 = y9.toInt := qr79
      obtain ⟨y10, s1, rfl, qr80, gg10⟩ := hb_p0 mz_GG gg9
      have r80 : ρ1 80 = y10.toInt := qr80
      obtain ⟨e11, s1, rfl, n11, gg11⟩ := hb_p1 mz_GG gg10
      obtain rfl : e11 = 234 := List.mem_singleton.mp n11
      obtain rfl := hb_ln mz_GG gg8
      obtain rfl := hb_pn mz_GG gg11
      have r1 : ρ1 1 = x1.toInt := gr 1 (by decide +kernel)
      have r2 : ρ1 2 = x2.toInt := gr 2 (by decide +kernel)
      have r3 : ρ1 3 = x3.toInt := gr 3 (by decide +kernel)
      have r4 : ρ1 4 = x4.toInt := gr 4 (by decide +kernel)
      have r5 : ρ1 5 = x5.toInt := gr 5 (by decide +kernel)
      have r6 : ρ1 6 = x6.toInt := gr 6 (by decide +kernel)
      have r7 : ρ1 7 = x7.toInt := gr 7 (by decide +kernel)
      have r8 : ρ1 8 = x8.toInt := gr 8 (by decide +kernel)
      obtain ⟨f0, gf⟩ := hb_unc gf
      have f0 : 0 ≤ 0 + ((-1) * ρ1 1 + (1 * ρ1 71 + 0)) := f0
      rw [r1, r71] at f0
      obtain ⟨f1, gf⟩ := hb_unc gf
      have f1 : 0 ≤ 0 + (1 * ρ1 1 + ((-1) * ρ1 71 + 0)) := f1
      rw [r1, r71] at f1
      obtain ⟨f2, gf⟩ := hb_unc gf
      have f2 : 0 ≤ 0 + ((-1) * ρ1 2 + (1 * ρ1 72 + 0)) := f2
      rw [r2, r72] at f2
      obtain ⟨f3, gf⟩ := hb_unc gf
      have f3 : 0 ≤ 0 + (1 * ρ1 2 + ((-1) * ρ1 72 + 0)) := f3
      rw [r2, r72] at f3
      obtain ⟨f4, gf⟩ := hb_unc gf
      have f4 : 0 ≤ 0 + ((-1) * ρ1 3 + (1 * ρ1 73 + 0)) := f4
      rw [r3, r73] at f4
      obtain ⟨f5, gf⟩ := hb_unc gf
      have f5 : 0 ≤ 0 + (1 * ρ1 3 + ((-1) * ρ1 73 + 0)) := f5
      rw [r3, r73] at f5
      obtain ⟨f6, gf⟩ := hb_unc gf
      have f6 : 0 ≤ 0 + ((-1) * ρ1 4 + (1 * ρ1 74 + 0)) := f6
      rw [r4, r74] at f6
      obtain ⟨f7, gf⟩ := hb_unc gf
      have f7 : 0 ≤ 0 + (1 * ρ1 4 + ((-1) * ρ1 74 + 0)) := f7
      rw [r4, r74] at f7
      obtain ⟨f8, gf⟩ := hb_unc gf
      have f8 : 0 ≤ 0 + ((-1) * ρ1 5 + (1 * ρ1 75 + 0)) := f8
      rw [r5, r75] at f8
      obtain ⟨f9, gf⟩ := hb_unc gf
      have f9 : 0 ≤ 0 + (1 * ρ1 5 + ((-1) * ρ1 75 + 0)) := f9
      rw [r5, r75] at f9
      obtain ⟨f10, gf⟩ := hb_unc gf
      have f10 : 0 ≤ 0 + ((-1) * ρ1 6 + (1 * ρ1 76 + 0)) := f10
      rw [r6, r76] at f10
      obtain ⟨f11, gf⟩ := hb_unc gf
      have f11 : 0 ≤ 0 + (1 * ρ1 6 + ((-1) * ρ1 76 + 0)) := f11
      rw [r6, r76] at f11
      obtain ⟨f12, gf⟩ := hb_unc gf
      have f12 : 0 ≤ 0 + ((-1) * ρ1 7 + (1 * ρ1 77 + 0)) := f12
      rw [r7, r77] at f12
      obtain ⟨f13, gf⟩ := hb_unc gf
      have f13 : 0 ≤ 0 + (1 * ρ1 7 + ((-1) * ρ1 77 + 0)) := f13
      rw [r7, r77] at f13
      obtain ⟨f14, gf⟩ := hb_unc gf
      have f14 : 0 ≤ 0 + ((-1) * ρ1 8 + (1 * ρ1 78 + 0)) := f14
      rw [r8, r78] at f14
      obtain ⟨f15, gf⟩ := hb_unc gf
      have f15 : 0 ≤ 0 + (1 * ρ1 8 + ((-1) * ρ1 78 + 0)) := f15
      rw [r8, r78] at f15
      obtain ⟨f16, gf⟩ := hb_unc gf
      have f16 : 0 ≤ -8 + (1 * ρ1 79 + 0) := f16
      rw [r79] at f16
      obtain ⟨f17, gf⟩ := hb_unc gf
      have f17 : 0 ≤ 8 + ((-1) * ρ1 79 + 0) := f17
      rw [r79] at f17
      obtain ⟨f18, gf⟩ := hb_unc gf
      have f18 : 0 ≤ 0 + ((-1) * ρ1 1 + (1 * ρ1 80 + 0)) := f18
      rw [r1, r80] at f18
      obtain ⟨f19, gf⟩ := hb_unc gf
      have f19 : 0 ≤ 0 + (1 * ρ1 1 + ((-1) * ρ1 80 + 0)) := f19
      rw [r1, r80] at f19
      have hy1 : y1 = x1 := hb_inj f0 f1
      subst y1
      have hy2 : y2 = x2 := hb_inj f2 f3
      subst y2
      have hy3 : y3 = x3 := hb_inj f4 f5
      subst y3
      have hy4 : y4 = x4 := hb_inj f6 f7
      subst y4
      have hy5 : y5 = x5 := hb_inj f8 f9
      subst y5
      have hy6 : y6 = x6 := hb_inj f10 f11
      subst y6
      have hy7 : y7 = x7 := hb_inj f12 f13
      subst y7
      have hy8 : y8 = x8 := hb_inj f14 f15
      subst y8
      have hy10 : y10 = x1 := hb_inj f18 f19
      subst y10
      exact k1 M' y9 gs gx gw g8 ge  (by have h1 := f16; have h2 := f17; omega)
    rcases List.mem_cons.mp hs with rfl | hs
    · intro ρ1 L' st' M' g1 g2 gm gr gf gs gx gw g8 ge
      obtain ⟨e0, L1, rfl, n0, gg0⟩ := hb_l1 mz_GG g1
      obtain rfl : e0 = 234 := List.mem_singleton.mp n0
      obtain ⟨y1, L1, rfl, qr71, gg1⟩ := hb_l0 mz_GG gg0
      have r71 : ρ1 71 = y1.toInt := qr71
      obtain ⟨y2, L1, rfl, qr72, gg2⟩ := hb_l0 mz_GG gg1
      have r72 : ρ1 72 = y2.toInt := qr72
      obtain ⟨y3, L1, rfl, qr73, gg3⟩ := hb_l0 mz_GG gg2
      have r73 : ρ1 73 = y3.toInt := qr73
      obtain ⟨y4, L1, rfl, qr74, gg4⟩ := hb_l0 mz_GG gg3
      have r74 : ρ1 74 = y4.toInt := qr74
      obtain ⟨y5, L1, rfl, qr75, gg5⟩ := hb_l0 mz_GG gg4
      have r75 : ρ1 75 = y5.toInt := qr75
      obtain ⟨y6, L1, rfl, qr76, gg6⟩ := hb_l0 mz_GG gg5
      have r76 : ρ1 76 = y6.toInt := qr76
      obtain ⟨y7, L1, rfl, qr77, gg7⟩ := hb_l0 mz_GG gg6
      have r77 : ρ1 77 = y7.toInt := qr77
      obtain ⟨y8, L1, rfl, qr78, gg8⟩ := hb_l0 mz_GG gg7
      have r78 : ρ1 78 = y8.toInt := qr78
      obtain ⟨y9, s1, rfl, qr79, gg9⟩ := hb_p0 mz_GG g2
      have r79 : ρ1 79 = y9.toInt := qr79
      obtain ⟨y10, s1, rfl, qr80, gg10⟩ := hb_p0 mz_GG gg9
      have r80 : ρ1 80 = y10.toInt := qr80
      obtain ⟨e11, s1, rfl, n11, gg11⟩ := hb_p1 mz_GG gg10
      obtain rfl : e11 = 234 := List.mem_singleton.mp n11
      obtain rfl := hb_ln mz_GG gg8
      obtain rfl := hb_pn mz_GG gg11
      have r1 : ρ1 1 = x1.toInt := gr 1 (by decide +kernel)
      have r2 : ρ1 2 = x2.toInt := gr 2 (by decide +kernel)
      have r3 : ρ1 3 = x3.toInt := gr 3 (by decide +kernel)
      have r4 : ρ1 4 = x4.toInt := gr 4 (by decide +kernel)
      have r5 : ρ1 5 = x5.toInt := gr 5 (by decide +kernel)
      have r6 : ρ1 6 = x6.toInt := gr 6 (by decide +kernel)
      have r7 : ρ1 7 = x7.toInt := gr 7 (by decide +kernel)
      have r8 : ρ1 8 = x8.toInt := gr 8 (by decide +kernel)
      obtain ⟨f0, gf⟩ := hb_unc gf
      have f0 : 0 ≤ 0 + ((-1) * ρ1 1 + (1 * ρ1 71 + 0)) := f0
      rw [r1, r71] at f0
      obtain ⟨f1, gf⟩ := hb_unc gf
      have f1 : 0 ≤ 0 + (1 * ρ1 1 + ((-1) * ρ1 71 + 0)) := f1
      rw [r1, r71] at f1
      obtain ⟨f2, gf⟩ := hb_unc gf
      have f2 : 0 ≤ 0 + ((-1) * ρ1 2 + (1 * ρ1 72 + 0)) := f2
      rw [r2, r72] at f2
      obtain ⟨f3, gf⟩ := hb_unc gf
      have f3 : 0 ≤ 0 + (1 * ρ1 2 + ((-1) * ρ1 72 + 0)) := f3
      rw [r2, r72] at f3
      obtain ⟨f4, gf⟩ := hb_unc gf
      have f4 : 0 ≤ 0 + ((-1) * ρ1 3 + (1 * ρ1 73 + 0)) := f4
      rw [r3, r73] at f4
      obtain ⟨f5, gf⟩ := hb_unc gf
      have f5 : 0 ≤ 0 + (1 * ρ1 3 + ((-1) * ρ1 73 + 0)) := f5
      rw [r3, r73] at f5
      obtain ⟨f6, gf⟩ := hb_unc gf
      have f6 : 0 ≤ 0 + ((-1) * ρ1 4 + (1 * ρ1 74 + 0)) := f6
      rw [r4, r74] at f6
      obtain ⟨f7, gf⟩ := hb_unc gf
      have f7 : 0 ≤ 0 + (1 * ρ1 4 + ((-1) * ρ1 74 + 0)) := f7
      rw [r4, r74] at f7
      obtain ⟨f8, gf⟩ := hb_unc gf
      have f8 : 0 ≤ 0 + ((-1) * ρ1 5 + (1 * ρ1 75 + 0)) := f8
      rw [r5, r75] at f8
      obtain ⟨f9, gf⟩ := hb_unc gf
      have f9 : 0 ≤ 0 + (1 * ρ1 5 + ((-1) * ρ1 75 + 0)) := f9
      rw [r5, r75] at f9
      obtain ⟨f10, gf⟩ := hb_unc gf
      have f10 : 0 ≤ 0 + ((-1) * ρ1 6 + (1 * ρ1 76 + 0)) := f10
      rw [r6, r76] at f10
      obtain ⟨f11, gf⟩ := hb_unc gf
      have f11 : 0 ≤ 0 + (1 * ρ1 6 + ((-1) * ρ1 76 + 0)) := f11
      rw [r6, r76] at f11
      obtain ⟨f12, gf⟩ := hb_unc gf
      have f12 : 0 ≤ 0 + ((-1) * ρ1 7 + (1 * ρ1 77 + 0)) := f12
      rw [r7, r77] at f12
      obtain ⟨f13, gf⟩ := hb_unc gf
      have f13 : 0 ≤ 0 + (1 * ρ1 7 + ((-1) * ρ1 77 + 0)) := f13
      rw [r7, r77] at f13
      obtain ⟨f14, gf⟩ := hb_unc gf
      have f14 : 0 ≤ 0 + ((-1) * ρ1 8 + (1 * ρ1 78 + 0)) := f14
      rw [r8, r78] at f14
      obtain ⟨f15, gf⟩ := hb_unc gf
      have f15 : 0 ≤ 0 + (1 * ρ1 8 + ((-1) * ρ1 78 + 0)) := f15
      rw [r8, r78] at f15
      obtain ⟨f16, gf⟩ := hb_unc gf
      have f16 : 0 ≤ -9 + (1 * ρ1 79 + 0) := f16
      rw [r79] at f16
      obtain ⟨f17, gf⟩ := hb_unc gf
      have f17 : 0 ≤ 9 + ((-1) * ρ1 79 + 0) := f17
      rw [r79] at f17
      obtain ⟨f18, gf⟩ := hb_unc gf
      have f18 : 0 ≤ 0 + ((-1) * ρ1 1 + (1 * ρ1 80 + 0)) := f18
      rw [r1, r80] at f18
      obtain ⟨f19, gf⟩ := hb_unc gf
      have f19 : 0 ≤ 0 + (1 * ρ1 1 + ((-1) * ρ1 80 + 0)) := f19
      rw [r1, r80] at f19
      obtain ⟨f20, gf⟩ := hb_unc gf
      have f20 : 0 ≤ 0 + (1 * ρ1 4 + 0) := f20
      rw [r4] at f20
      obtain ⟨f21, gf⟩ := hb_unc gf
      have f21 : 0 ≤ 0 + ((-1) * ρ1 4 + 0) := f21
      rw [r4] at f21
      have hy1 : y1 = x1 := hb_inj f0 f1
      subst y1
      have hy2 : y2 = x2 := hb_inj f2 f3
      subst y2
      have hy3 : y3 = x3 := hb_inj f4 f5
      subst y3
      have hy4 : y4 = x4 := hb_inj f6 f7
      subst y4
      have hy5 : y5 = x5 := hb_inj f8 f9
      subst y5
      have hy6 : y6 = x6 := hb_inj f10 f11
      subst y6
      have hy7 : y7 = x7 := hb_inj f12 f13
      subst y7
      have hy8 : y8 = x8 := hb_inj f14 f15
      subst y8
      have hy10 : y10 = x1 := hb_inj f18 f19
      subst y10
      exact k2 M' y9 gs gx gw g8 ge  (by have h1 := f16; have h2 := f17; omega) (by have h1 := f20; omega) (by have h1 := f21; omega)
    rcases List.mem_cons.mp hs with rfl | hs
    · intro ρ1 L' st' M' g1 g2 gm gr gf gs gx gw g8 ge
      obtain ⟨e0, L1, rfl, n0, gg0⟩ := hb_l1 mz_GG g1
      obtain rfl : e0 = 234 := List.mem_singleton.mp n0
      obtain ⟨y1, L1, rfl, qr71, gg1⟩ := hb_l0 mz_GG gg0
      have r71 : ρ1 71 = y1.toInt := qr71
      obtain ⟨y2, L1, rfl, qr72, gg2⟩ := hb_l0 mz_GG gg1
      have r72 : ρ1 72 = y2.toInt := qr72
      obtain ⟨y3, L1, rfl, qr73, gg3⟩ := hb_l0 mz_GG gg2
      have r73 : ρ1 73 = y3.toInt := qr73
      obtain ⟨y4, L1, rfl, qr74, gg4⟩ := hb_l0 mz_GG gg3
      have r74 : ρ1 74 = y4.toInt := qr74
      obtain ⟨y5, L1, rfl, qr75, gg5⟩ := hb_l0 mz_GG gg4
      have r75 : ρ1 75 = y5.toInt := qr75
      obtain ⟨y6, L1, rfl, qr76, gg6⟩ := hb_l0 mz_GG gg5
      have r76 : ρ1 76 = y6.toInt := qr76
      obtain ⟨y7, L1, rfl, qr77, gg7⟩ := hb_l0 mz_GG gg6
      have r77 : ρ1 77 = y7.toInt := qr77
      obtain ⟨y8, L1, rfl, qr78, gg8⟩ := hb_l0 mz_GG gg7
      have r78 : ρ1 78 = y8.toInt := qr78
      obtain ⟨y9, s1, rfl, qr79, gg9⟩ := hb_p0 mz_GG g2
      have r79 : ρ1 79 = y9.toInt := qr79
      obtain ⟨y10, s1, rfl, qr80, gg10⟩ := hb_p0 mz_GG gg9
      have r80 : ρ1 80 = y10.toInt := qr80
      obtain ⟨e11, s1, rfl, n11, gg11⟩ := hb_p1 mz_GG gg10
      obtain rfl : e11 = 234 := List.mem_singleton.mp n11
      obtain rfl := hb_ln mz_GG gg8
      obtain rfl := hb_pn mz_GG gg11
      have r1 : ρ1 1 = x1.toInt := gr 1 (by decide +kernel)
      have r2 : ρ1 2 = x2.toInt := gr 2 (by decide +kernel)
      have r3 : ρ1 3 = x3.toInt := gr 3 (by decide +kernel)
      have r4 : ρ1 4 = x4.toInt := gr 4 (by decide +kernel)
      have r5 : ρ1 5 = x5.toInt := gr 5 (by decide +kernel)
      have r6 : ρ1 6 = x6.toInt := gr 6 (by decide +kernel)
      have r7 : ρ1 7 = x7.toInt := gr 7 (by decide +kernel)
      have r8 : ρ1 8 = x8.toInt := gr 8 (by decide +kernel)
      obtain ⟨f0, gf⟩ := hb_unc gf
      have f0 : 0 ≤ 0 + ((-1) * ρ1 1 + (1 * ρ1 71 + 0)) := f0
      rw [r1, r71] at f0
      obtain ⟨f1, gf⟩ := hb_unc gf
      have f1 : 0 ≤ 0 + (1 * ρ1 1 + ((-1) * ρ1 71 + 0)) := f1
      rw [r1, r71] at f1
      obtain ⟨f2, gf⟩ := hb_unc gf
      have f2 : 0 ≤ 0 + ((-1) * ρ1 2 + (1 * ρ1 72 + 0)) := f2
      rw [r2, r72] at f2
      obtain ⟨f3, gf⟩ := hb_unc gf
      have f3 : 0 ≤ 0 + (1 * ρ1 2 + ((-1) * ρ1 72 + 0)) := f3
      rw [r2, r72] at f3
      obtain ⟨f4, gf⟩ := hb_unc gf
      have f4 : 0 ≤ 0 + ((-1) * ρ1 3 + (1 * ρ1 73 + 0)) := f4
      rw [r3, r73] at f4
      obtain ⟨f5, gf⟩ := hb_unc gf
      have f5 : 0 ≤ 0 + (1 * ρ1 3 + ((-1) * ρ1 73 + 0)) := f5
      rw [r3, r73] at f5
      obtain ⟨f6, gf⟩ := hb_unc gf
      have f6 : 0 ≤ 0 + ((-1) * ρ1 4 + (1 * ρ1 74 + 0)) := f6
      rw [r4, r74] at f6
      obtain ⟨f7, gf⟩ := hb_unc gf
      have f7 : 0 ≤ 0 + (1 * ρ1 4 + ((-1) * ρ1 74 + 0)) := f7
      rw [r4, r74] at f7
      obtain ⟨f8, gf⟩ := hb_unc gf
      have f8 : 0 ≤ 0 + ((-1) * ρ1 5 + (1 * ρ1 75 + 0)) := f8
      rw [r5, r75] at f8
      obtain ⟨f9, gf⟩ := hb_unc gf
      have f9 : 0 ≤ 0 + (1 * ρ1 5 + ((-1) * ρ1 75 + 0)) := f9
      rw [r5, r75] at f9
      obtain ⟨f10, gf⟩ := hb_unc gf
      have f10 : 0 ≤ 0 + ((-1) * ρ1 6 + (1 * ρ1 76 + 0)) := f10
      rw [r6, r76] at f10
      obtain ⟨f11, gf⟩ := hb_unc gf
      have f11 : 0 ≤ 0 + (1 * ρ1 6 + ((-1) * ρ1 76 + 0)) := f11
      rw [r6, r76] at f11
      obtain ⟨f12, gf⟩ := hb_unc gf
      have f12 : 0 ≤ 0 + ((-1) * ρ1 7 + (1 * ρ1 77 + 0)) := f12
      rw [r7, r77] at f12
      obtain ⟨f13, gf⟩ := hb_unc gf
      have f13 : 0 ≤ 0 + (1 * ρ1 7 + ((-1) * ρ1 77 + 0)) := f13
      rw [r7, r77] at f13
      obtain ⟨f14, gf⟩ := hb_unc gf
      have f14 : 0 ≤ 0 + ((-1) * ρ1 8 + (1 * ρ1 78 + 0)) := f14
      rw [r8, r78] at f14
      obtain ⟨f15, gf⟩ := hb_unc gf
      have f15 : 0 ≤ 0 + (1 * ρ1 8 + ((-1) * ρ1 78 + 0)) := f15
      rw [r8, r78] at f15
      obtain ⟨f16, gf⟩ := hb_unc gf
      have f16 : 0 ≤ -8 + (1 * ρ1 79 + 0) := f16
      rw [r79] at f16
      obtain ⟨f17, gf⟩ := hb_unc gf
      have f17 : 0 ≤ 8 + ((-1) * ρ1 79 + 0) := f17
      rw [r79] at f17
      obtain ⟨f18, gf⟩ := hb_unc gf
      have f18 : 0 ≤ 0 + ((-1) * ρ1 1 + (1 * ρ1 80 + 0)) := f18
      rw [r1, r80] at f18
      obtain ⟨f19, gf⟩ := hb_unc gf
      have f19 : 0 ≤ 0 + (1 * ρ1 1 + ((-1) * ρ1 80 + 0)) := f19
      rw [r1, r80] at f19
      obtain ⟨f20, gf⟩ := hb_unc gf
      have f20 : 0 ≤ 0 + (1 * ρ1 4 + 0) := f20
      rw [r4] at f20
      obtain ⟨f21, gf⟩ := hb_unc gf
      have f21 : 0 ≤ 0 + ((-1) * ρ1 4 + 0) := f21
      rw [r4] at f21
      have hy1 : y1 = x1 := hb_inj f0 f1
      subst y1
      have hy2 : y2 = x2 := hb_inj f2 f3
      subst y2
      have hy3 : y3 = x3 := hb_inj f4 f5
      subst y3
      have hy4 : y4 = x4 := hb_inj f6 f7
      subst y4
      have hy5 : y5 = x5 := hb_inj f8 f9
      subst y5
      have hy6 : y6 = x6 := hb_inj f10 f11
      subst y6
      have hy7 : y7 = x7 := hb_inj f12 f13
      subst y7
      have hy8 : y8 = x8 := hb_inj f14 f15
      subst y8
      have hy10 : y10 = x1 := hb_inj f18 f19
      subst y10
      exact k3 M' y9 gs gx gw g8 ge  (by have h1 := f16; have h2 := f17; omega) (by have h1 := f20; omega) (by have h1 := f21; omega)
    cases hs
  · intro r S hpo
    obtain ⟨b1, b2, b3, b4, b5, p, hp, res, hf, hre⟩ := hpo
    cases hp

theorem hm_s190 {d z u j k n : Nat} {Q : (Option Value ⊕ Nat) → mq_S → Prop} {M : Nat → mq_C} {x1 x2 x3 x4 x5 x6 x7 x8 : Int32} (hd : 1 ≤ d + 2) (hz : 272 ≤ z) (hm : mz_sh mz_GG M) (hx : HX M) (hj : hv M 234 48 = (j : Int) + 1) (hj1 : j < 139) (p1 : x1.toInt = 12 * (j : Int)) (hk : hv M 267 (12 * j) = (k : Int)) (hn : hv M 267 (12 * j + 1) = (n : Int)) (hk4 : k < 4) (hn32 : n < 32) (q2 : x2.toInt = (k : Int)) (q3 : x3.toInt = (n : Int))
    (KB : ∀ M' : Nat → mq_C, mz_sh mz_GG M' → HX M' → hm_D j k n M M' → hv M' 234 48 = (j : Int) → hm_w M' → Q (.inl none) (M', z, u)) : mq_R mq_PP (d + 2) 154 190 [some (.ref 234), some (.int x1), some (.int x2), some (.int x3), some (.int x4), some (.int x5), some (.int x6), some (.int x7), some (.int x8)] [] (M, z, u) Q := by
  refine he_aload (n := 191) (i := 0) (by decide +kernel) rfl ?_
  refine he_getr (n := 194) (ci := 9) (j := 36) (ns := [4213, 92]) (b := 262) hm (by decide +kernel) rfl rfl (by decide +kernel) ?_
  refine he_iload (n := 195) (i := 2) (by decide +kernel) rfl ?_
  refine he_aload (n := 196) (i := 0) (by decide +kernel) rfl ?_
  refine he_getr (n := 199) (ci := 9) (j := 36) (ns := [4213, 92]) (b := 262) hm (by decide +kernel) rfl rfl (by decide +kernel) ?_
  refine he_iload (n := 200) (i := 2) (by decide +kernel) rfl ?_
  refine hb_ld (n := 201) (kind := 64) hm (by decide +kernel) rfl rfl (.inl rfl) (by omega) (show _ < (4 : Int) by omega) hb_at1 ?_
  intro v200 hv200 lv200 uv200
  refine he_iconst (n := 202) (c := 1) (by decide +kernel) (by decide) ?_
  intro c201 hc201
  refine he_iload (n := 203) (i := 3) (by decide +kernel) rfl ?_
  refine he_ex2 (o := 15) (n := 204) (by decide +kernel) rfl ?_
  intro v203 hv203
  have ev203 : v203 = c201 <<< (x3 &&& 31) := hv203
  have bv203 := mz_i32 v203
  refine he_iconst (n := 205) (c := -1) (by decide +kernel) (by decide) ?_
  intro c204 hc204
  refine he_ex2 (o := 14) (n := 206) (by decide +kernel) rfl ?_
  intro v205 hv205
  have ev205 : v205 = v203 ^^^ c204 := hv205
  have bv205 := mz_i32 v205
  refine he_ex2 (o := 12) (n := 207) (by decide +kernel) rfl ?_
  intro v206 hv206
  have ev206 : v206 = v200 &&& v205 := hv206
  have bv206 := mz_i32 v206
  refine hb_sta (n := 208) (kind := 64) hm (by decide +kernel) rfl rfl (.inl rfl) (by omega) (show _ < (4 : Int) by omega) ?_
  generalize hM1 : hb_set M 262 (x2.toInt.toNat) v206 = M1
  have hm1 : mz_sh mz_GG M1 := by rw [← hM1]; exact hb_set_sh hm rfl hb_at1 (by omega) (by omega)
  have eM1 : ∀ b j, b ≠ 262 ∨ j ≠ x2.toInt.toNat → hv M1 b j = hv M b j := by intro b j h; rw [← hM1]; exact hb_set_n h
  have sM1 : hv M1 262 (x2.toInt.toNat) = v206.toInt := by rw [← hM1]; exact hb_set_v hm rfl (show _ < 4 by omega)
  have wM1 : ∀ b, b ≠ 262 → M1 b = M b := by intro b h; rw [← hM1]; exact hb_set_c h
  have hx1 : HX M1 := fun t => by rw [← hM1]; exact hxk_s (hm_sp t _ _ (by omega)) (hx t)
  refine hm_sc HX_same hb_C1 hd hz hm1 hx1 ?_ ?_ ?_ ?_
  · intro M2 y9 gs gx gw g8 ge 
    intros
    have e2 : ∀ a, a < 272 → M2 a = M1 a := fun a ha => gw a ha rfl
    refine he_v2 (n := 243) (j := 149) (ci := 9) (mx := 3) (ns := [6018, 6020, 71, 300]) (by decide +kernel) ((hb_kd (a := 234) gs rfl).trans rfl) (by decide) (by show 3 ≤ 3; omega) ?_
    rw [mq_e149]
    refine hm_fails (j := j) gs ?_ (by omega) (by omega) (by omega) (by omega) ?_
    · rw [hb_vc (e2 234 (by decide)), eM1 _ _ (.inl (by decide))]
      exact hj
    intro M' g1 g2 g3 g4 g5
    show mq_R mq_PP (d + 1 + 1) 154 243 _ [] (M', z, u) Q
    refine he_ret (by decide +kernel) ?_
    have hR : hm_rel k j M1 M' := hm_relt (Nat.le_refl _) (Nat.le_refl _) (hm_relf (q' := hm_sc_q) (by decide) (fun j _ => rfl) (by decide) gw g8 ge) (hm_relE g2 (fun i _ => hb_vc g3 i))
    exact KB M' g1 (hm_Ex g2 gx) (hm_cl (k := k) (n := n) (j := j) (n' := x3) hm1 hk4 (by rw [← hM1, show x2.toInt.toNat = k by omega]) (by rw [show k = x2.toInt.toNat by omega]; exact sM1) (by rw [show k = x2.toInt.toNat by omega]; exact hv200) (by omega) hn32 hc201 hc204 ev203 ev205 ev206 hR ((g2.1 261 (by decide) (by decide)).trans (e2 261 (by decide)))) g4 (.inr g5)
  · intro M2 y9 gs gx gw g8 ge 
    intros
    have e2 : ∀ a, a < 272 → M2 a = M1 a := fun a ha => gw a ha rfl
    refine he_v2 (n := 243) (j := 149) (ci := 9) (mx := 3) (ns := [6018, 6020, 71, 300]) (by decide +kernel) ((hb_kd (a := 234) gs rfl).trans rfl) (by decide) (by show 3 ≤ 3; omega) ?_
    rw [mq_e149]
    refine hm_fails (j := j) gs ?_ (by omega) (by omega) (by omega) (by omega) ?_
    · rw [hb_vc (e2 234 (by decide)), eM1 _ _ (.inl (by decide))]
      exact hj
    intro M' g1 g2 g3 g4 g5
    show mq_R mq_PP (d + 1 + 1) 154 243 _ [] (M', z, u) Q
    refine he_ret (by decide +kernel) ?_
    have hR : hm_rel k j M1 M' := hm_relt (Nat.le_refl _) (Nat.le_refl _) (hm_relf (q' := hm_sc_q) (by decide) (fun j _ => rfl) (by decide) gw g8 ge) (hm_relE g2 (fun i _ => hb_vc g3 i))
    exact KB M' g1 (hm_Ex g2 gx) (hm_cl (k := k) (n := n) (j := j) (n' := x3) hm1 hk4 (by rw [← hM1, show x2.toInt.toNat = k by omega]) (by rw [show k = x2.toInt.toNat by omega]; exact sM1) (by rw [show k = x2.toInt.toNat by omega]; exact hv200) (by omega) hn32 hc201 hc204 ev203 ev205 ev206 hR ((g2.1 261 (by decide) (by decide)).trans (e2 261 (by decide)))) g4 (.inr g5)
  · intro M2 y9 gs gx gw g8 ge 
    intros
    have e2 : ∀ a, a < 272 → M2 a = M1 a := fun a ha => gw a ha rfl
    refine he_v2 (n := 243) (j := 149) (ci := 9) (mx := 3) (ns := [6018, 6020, 71, 300]) (by decide +kernel) ((hb_kd (a := 234) gs rfl).trans rfl) (by decide) (by show 3 ≤ 3; omega) ?_
    rw [mq_e149]
    refine hm_fails (j := j) gs ?_ (by omega) (by omega) (by omega) (by omega) ?_
    · rw [hb_vc (e2 234 (by decide)), eM1 _ _ (.inl (by decide))]
      exact hj
    intro M' g1 g2 g3 g4 g5
    show mq_R mq_PP (d + 1 + 1) 154 243 _ [] (M', z, u) Q
    refine he_ret (by decide +kernel) ?_
    have hR : hm_rel k j M1 M' := hm_relt (Nat.le_refl _) (Nat.le_refl _) (hm_relf (q' := hm_sc_q) (by decide) (fun j _ => rfl) (by decide) gw g8 ge) (hm_relE g2 (fun i _ => hb_vc g3 i))
    exact KB M' g1 (hm_Ex g2 gx) (hm_cl (k := k) (n := n) (j := j) (n' := x3) hm1 hk4 (by rw [← hM1, show x2.toInt.toNat = k by omega]) (by rw [show k = x2.toInt.toNat by omega]; exact sM1) (by rw [show k = x2.toInt.toNat by omega]; exact hv200) (by omega) hn32 hc201 hc204 ev203 ev205 ev206 hR ((g2.1 261 (by decide) (by decide)).trans (e2 261 (by decide)))) g4 (.inr g5)
  · intro M2 y9 gs gx gw g8 ge 
    intros
    have e2 : ∀ a, a < 272 → M2 a = M1 a := fun a ha => gw a ha rfl
    refine he_v2 (n := 243) (j := 149) (ci := 9) (mx := 3) (ns := [6018, 6020, 71, 300]) (by decide +kernel) ((hb_kd (a := 234) gs rfl).trans rfl) (by decide) (by show 3 ≤ 3; omega) ?_
    rw [mq_e149]
    refine hm_fails (j := j) gs ?_ (by omega) (by omega) (by omega) (by omega) ?_
    · rw [hb_vc (e2 234 (by decide)), eM1 _ _ (.inl (by decide))]
      exact hj
    intro M' g1 g2 g3 g4 g5
    show mq_R mq_PP (d + 1 + 1) 154 243 _ [] (M', z, u) Q
    refine he_ret (by decide +kernel) ?_
    have hR : hm_rel k j M1 M' := hm_relt (Nat.le_refl _) (Nat.le_refl _) (hm_relf (q' := hm_sc_q) (by decide) (fun j _ => rfl) (by decide) gw g8 ge) (hm_relE g2 (fun i _ => hb_vc g3 i))
    exact KB M' g1 (hm_Ex g2 gx) (hm_cl (k := k) (n := n) (j := j) (n' := x3) hm1 hk4 (by rw [← hM1, show x2.toInt.toNat = k by omega]) (by rw [show k = x2.toInt.toNat by omega]; exact sM1) (by rw [show k = x2.toInt.toNat by omega]; exact hv200) (by omega) hn32 hc201 hc204 ev203 ev205 ev206 hR ((g2.1 261 (by decide) (by decide)).trans (e2 261 (by decide)))) g4 (.inr g5)
def hm_sb_q : mz_Q := (154, [(1, 234), (0, 0), (0, 0), (0, 0), (0, 0), (0, 0), (0, 0), (3, 0), (3, 0)], [(0, [(5, 1)]), (127, [(5, -1)])], [], [], [])
def hm_sb_s : List mz_Sp2 := [(190, [(1, 234), (0, 0), (0, 0), (0, 0), (0, 0), (0, 0), (0, 0), (0, 0), (0, 0)], [], [(0, [(1, -1), (71, 1)]), (0, [(1, 1), (71, -1)]), (0, [(2, -1), (72, 1)]), (0, [(2, 1), (72, -1)]), (0, [(3, -1), (73, 1)]), (0, [(3, 1), (73, -1)]), (0, [(4, -1), (74, 1)]), (0, [(4, 1), (74, -1)]), (0, [(5, -1), (75, 1)]), (0, [(5, 1), (75, -1)]), (0, [(6, -1), (76, 1)]), (0, [(6, 1), (76, -1)]), (-1, [(78, 1)]), (1, [(78, -1)]), (255, [(77, -1)]), (0, [(77, 1)])]), (244, [(1, 234), (0, 0), (0, 0), (0, 0), (0, 0), (0, 0), (0, 0), (0, 0), (0, 0)], [], [(0, [(1, -1), (71, 1)]), (0, [(1, 1), (71, -1)]), (0, [(2, -1), (72, 1)]), (0, [(2, 1), (72, -1)]), (0, [(3, -1), (73, 1)]), (0, [(3, 1), (73, -1)]), (0, [(4, -1), (74, 1)]), (0, [(4, 1), (74, -1)]), (0, [(5, -1), (75, 1)]), (0, [(5, 1), (75, -1)]), (0, [(6, -1), (76, 1)]), (0, [(6, 1), (76, -1)]), (-1, [(78, 1)]), (1, [(78, -1)]), (255, [(77, -1)]), (0, [(77, 1)])]), (244, [(1, 234), (0, 0), (0, 0), (0, 0), (0, 0), (0, 0), (0, 0), (0, 0), (0, 0)], [], [(0, [(1, -1), (71, 1)]), (0, [(1, 1), (71, -1)]), (0, [(2, -1), (72, 1)]), (0, [(2, 1), (72, -1)]), (0, [(3, -1), (73, 1)]), (0, [(3, 1), (73, -1)]), (0, [(4, -1), (74, 1)]), (0, [(4, 1), (74, -1)]), (0, [(5, -1), (75, 1)]), (0, [(5, 1), (75, -1)]), (0, [(6, -1), (76, 1)]), (0, [(6, 1), (76, -1)]), (-1, [(78, 1)]), (1, [(78, -1)]), (255, [(77, -1)]), (0, [(77, 1)]), (0, [(4, 1)]), (0, [(4, -1)])]), (190, [(1, 234), (0, 0), (0, 0), (0, 0), (0, 0), (0, 0), (0, 0), (0, 0), (0, 0)], [], [(0, [(1, -1), (71, 1)]), (0, [(1, 1), (71, -1)]), (0, [(2, -1), (72, 1)]), (0, [(2, 1), (72, -1)]), (0, [(3, -1), (73, 1)]), (0, [(3, 1), (73, -1)]), (0, [(4, -1), (74, 1)]), (0, [(4, 1), (74, -1)]), (0, [(5, -1), (75, 1)]), (0, [(5, 1), (75, -1)]), (0, [(6, -1), (76, 1)]), (0, [(6, 1), (76, -1)]), (-1, [(78, 1)]), (1, [(78, -1)]), (255, [(77, -1)]), (0, [(77, 1)]), (0, [(4, 1)]), (0, [(4, -1)])]), (190, [(1, 234), (0, 0), (0, 0), (0, 0), (0, 0), (0, 0), (0, 0), (0, 0), (0, 0)], [], [(0, [(1, -1), (71, 1)]), (0, [(1, 1), (71, -1)]), (0, [(2, -1), (72, 1)]), (0, [(2, 1), (72, -1)]), (0, [(3, -1), (73, 1)]), (0, [(3, 1), (73, -1)]), (0, [(4, -1), (74, 1)]), (0, [(4, 1), (74, -1)]), (0, [(5, -1), (75, 1)]), (0, [(5, 1), (75, -1)]), (0, [(6, -1), (76, 1)]), (0, [(6, 1), (76, -1)]), (0, [(78, 1)]), (0, [(78, -1)]), (255, [(77, -1)]), (0, [(77, 1)])]), (190, [(1, 234), (0, 0), (0, 0), (0, 0), (0, 0), (0, 0), (0, 0), (0, 0), (0, 0)], [], [(0, [(1, -1), (71, 1)]), (0, [(1, 1), (71, -1)]), (0, [(2, -1), (72, 1)]), (0, [(2, 1), (72, -1)]), (0, [(3, -1), (73, 1)]), (0, [(3, 1), (73, -1)]), (0, [(4, -1), (74, 1)]), (0, [(4, 1), (74, -1)]), (0, [(5, -1), (75, 1)]), (0, [(5, 1), (75, -1)]), (0, [(6, -1), (76, 1)]), (0, [(6, 1), (76, -1)]), (0, [(78, 1)]), (0, [(78, -1)]), (255, [(77, -1)]), (0, [(77, 1)])]), (190, [(1, 234), (0, 0), (0, 0), (0, 0), (0, 0), (0, 0), (0, 0), (0, 0), (0, 0)], [], [(0, [(1, -1), (71, 1)]), (0, [(1, 1), (71, -1)]), (0, [(2, -1), (72, 1)]), (0, [(2, 1), (72, -1)]), (0, [(3, -1), (73, 1)]), (0, [(3, 1), (73, -1)]), (0, [(4, -1), (74, 1)]), (0, [(4, 1), (74, -1)]), (0, [(5, -1), (75, 1)]), (0, [(5, 1), (75, -1)]), (0, [(6, -1), (76, 1)]), (0, [(6, 1), (76, -1)]), (0, [(78, 1)]), (0, [(78, -1)]), (255, [(77, -1)]), (0, [(77, 1)]), (0, [(4, 1)]), (0, [(4, -1)])]), (190, [(1, 234), (0, 0), (0, 0), (0, 0), (0, 0), (0, 0), (0, 0), (0, 0), (0, 0)], [], [(0, [(1, -1), (71, 1)]), (0, [(1, 1), (71, -1)]), (0, [(2, -1), (72, 1)]), (0, [(2, 1), (72, -1)]), (0, [(3, -1), (73, 1)]), (0, [(3, 1), (73, -1)]), (0, [(4, -1), (74, 1)]), (0, [(4, 1), (74, -1)]), (0, [(5, -1), (75, 1)]), (0, [(5, 1), (75, -1)]), (0, [(6, -1), (76, 1)]), (0, [(6, 1), (76, -1)]), (0, [(78, 1)]), (0, [(78, -1)]), (255, [(77, -1)]), (0, [(77, 1)]), (0, [(4, 1)]), (0, [(4, -1)])]), (190, [(1, 234), (0, 0), (0, 0), (0, 0), (0, 0), (0, 0), (0, 0), (0, 0), (0, 0)], [], [(0, [(1, -1), (71, 1)]), (0, [(1, 1), (71, -1)]), (0, [(2, -1), (72, 1)]), (0, [(2, 1), (72, -1)]), (0, [(3, -1), (73, 1)]), (0, [(3, 1), (73, -1)]), (0, [(4, -1), (74, 1)]), (0, [(4, 1), (74, -1)]), (0, [(5, -1), (75, 1)]), (0, [(5, 1), (75, -1)]), (0, [(6, -1), (76, 1)]), (0, [(6, 1), (76, -1)]), (0, [(78, 1)]), (0, [(78, -1)]), (255, [(77, -1)]), (0, [(77, 1)])]), (190, [(1, 234), (0, 0), (0, 0), (0, 0), (0, 0), (0, 0), (0, 0), (0, 0), (0, 0)], [], [(0, [(1, -1), (71, 1)]), (0, [(1, 1), (71, -1)]), (0, [(2, -1), (72, 1)]), (0, [(2, 1), (72, -1)]), (0, [(3, -1), (73, 1)]), (0, [(3, 1), (73, -1)]), (0, [(4, -1), (74, 1)]), (0, [(4, 1), (74, -1)]), (0, [(5, -1), (75, 1)]), (0, [(5, 1), (75, -1)]), (0, [(6, -1), (76, 1)]), (0, [(6, 1), (76, -1)]), (0, [(78, 1)]), (0, [(78, -1)]), (255, [(77, -1)]), (0, [(77, 1)])]), (190, [(1, 234), (0, 0), (0, 0), (0, 0), (0, 0), (0, 0), (0, 0), (0, 0), (0, 0)], [], [(0, [(1, -1), (71, 1)]), (0, [(1, 1), (71, -1)]), (0, [(2, -1), (72, 1)]), (0, [(2, 1), (72, -1)]), (0, [(3, -1), (73, 1)]), (0, [(3, 1), (73, -1)]), (0, [(4, -1), (74, 1)]), (0, [(4, 1), (74, -1)]), (0, [(5, -1), (75, 1)]), (0, [(5, 1), (75, -1)]), (0, [(6, -1), (76, 1)]), (0, [(6, 1), (76, -1)]), (0, [(78, 1)]), (0, [(78, -1)]), (255, [(77, -1)]), (0, [(77, 1)]), (0, [(4, 1)]), (0, [(4, -1)])]), (190, [(1, 234), (0, 0), (0, 0), (0, 0), (0, 0), (0, 0), (0, 0), (0, 0), (0, 0)], [], [(0, [(1, -1), (71, 1)]), (0, [(1, 1), (71, -1)]), (0, [(2, -1), (72, 1)]), (0, [(2, 1), (72, -1)]), (0, [(3, -1), (73, 1)]), (0, [(3, 1), (73, -1)]), (0, [(4, -1), (74, 1)]), (0, [(4, 1), (74, -1)]), (0, [(5, -1), (75, 1)]), (0, [(5, 1), (75, -1)]), (0, [(6, -1), (76, 1)]), (0, [(6, 1), (76, -1)]), (0, [(78, 1)]), (0, [(78, -1)]), (255, [(77, -1)]), (0, [(77, 1)]), (0, [(4, 1)]), (0, [(4, -1)])]), (190, [(1, 234), (0, 0), (0, 0), (0, 0), (0, 0), (0, 0), (0, 0), (0, 0), (0, 0)], [], [(0, [(1, -1), (71, 1)]), (0, [(1, 1), (71, -1)]), (0, [(2, -1), (72, 1)]), (0, [(2, 1), (72, -1)]), (0, [(3, -1), (73, 1)]), (0, [(3, 1), (73, -1)]), (0, [(4, -1), (74, 1)]), (0, [(4, 1), (74, -1)]), (0, [(5, -1), (75, 1)]), (0, [(5, 1), (75, -1)]), (0, [(6, -1), (76, 1)]), (0, [(6, 1), (76, -1)]), (-1, [(78, 1)]), (1, [(78, -1)]), (255, [(77, -1)]), (0, [(77, 1)])]), (244, [(1, 234), (0, 0), (0, 0), (0, 0), (0, 0), (0, 0), (0, 0), (0, 0), (0, 0)], [], [(0, [(1, -1), (71, 1)]), (0, [(1, 1), (71, -1)]), (0, [(2, -1), (72, 1)]), (0, [(2, 1), (72, -1)]), (0, [(3, -1), (73, 1)]), (0, [(3, 1), (73, -1)]), (0, [(4, -1), (74, 1)]), (0, [(4, 1), (74, -1)]), (0, [(5, -1), (75, 1)]), (0, [(5, 1), (75, -1)]), (0, [(6, -1), (76, 1)]), (0, [(6, 1), (76, -1)]), (-1, [(78, 1)]), (1, [(78, -1)]), (255, [(77, -1)]), (0, [(77, 1)])]), (244, [(1, 234), (0, 0), (0, 0), (0, 0), (0, 0), (0, 0), (0, 0), (0, 0), (0, 0)], [], [(0, [(1, -1), (71, 1)]), (0, [(1, 1), (71, -1)]), (0, [(2, -1), (72, 1)]), (0, [(2, 1), (72, -1)]), (0, [(3, -1), (73, 1)]), (0, [(3, 1), (73, -1)]), (0, [(4, -1), (74, 1)]), (0, [(4, 1), (74, -1)]), (0, [(5, -1), (75, 1)]), (0, [(5, 1), (75, -1)]), (0, [(6, -1), (76, 1)]), (0, [(6, 1), (76, -1)]), (-1, [(78, 1)]), (1, [(78, -1)]), (255, [(77, -1)]), (0, [(77, 1)]), (0, [(4, 1)]), (0, [(4, -1)])]), (190, [(1, 234), (0, 0), (0, 0), (0, 0), (0, 0), (0, 0), (0, 0), (0, 0), (0, 0)], [], [(0, [(1, -1), (71, 1)]), (0, [(1, 1), (71, -1)]), (0, [(2, -1), (72, 1)]), (0, [(2, 1), (72, -1)]), (0, [(3, -1), (73, 1)]), (0, [(3, 1), (73, -1)]), (0, [(4, -1), (74, 1)]), (0, [(4, 1), (74, -1)]), (0, [(5, -1), (75, 1)]), (0, [(5, 1), (75, -1)]), (0, [(6, -1), (76, 1)]), (0, [(6, 1), (76, -1)]), (-1, [(78, 1)]), (1, [(78, -1)]), (255, [(77, -1)]), (0, [(77, 1)]), (0, [(4, 1)]), (0, [(4, -1)])])]
def hm_sb_h : List mz_H := [(266, 0, []), (0, 0, []), (0, 0, [(0, 8)]), (0, 0, [(1, 8)]), (0, 0, []), (0, 0, [(0, 8)]), (0, 0, [(1, 8)]), (0, 0, [(0, 8)]), (0, 0, [(1, 8)]), (0, 0, []), (4, 0, []), (0, 0, [(1, 1)]), (0, 0, []), (0, 0, []), (0, 0, []), (3, 0, []), (0, 0, [(0, 1)]), (0, 0, []), (0, 0, []), (0, 0, []), (0, 0, []), (0, 0, []), (0, 0, []), (0, 0, []), (0, 0, []), (0, 0, []), (0, 0, []), (0, 0, []), (0, 0, []), (0, 0, []), (0, 0, []), (0, 0, []), (0, 0, [(9, 1)]), (0, 0, [(8, 1)]), (3, 0, []), (0, 0, []), (1, 1, []), (0, 0, []), (1, 0, []), (0, 0, []), (0, 0, []), (0, 0, []), (0, 0, []), (0, 0, []), (0, 0, []), (0, 0, []), (0, 0, []), (0, 0, []), (0, 0, []), (0, 0, []), (0, 0, []), (0, 0, []), (0, 0, []), (0, 0, [(9, 1)]), (0, 0, [(8, 1)]), (0, 0, []), (3, 0, []), (0, 0, [(0, 1)]), (3, 0, []), (0, 0, []), (1, 1, []), (0, 0, []), (2, 0, []), (0, 0, []), (0, 0, []), (0, 0, []), (0, 0, []), (0, 0, []), (0, 0, []), (0, 0, []), (0, 0, []), (0, 0, []), (0, 0, []), (0, 0, []), (0, 0, []), (0, 0, []), (0, 0, []), (0, 0, [(12, 1)]), (0, 0, [(11, 1)]), (0, 0, [(6, 1)]), (0, 0, [(5, 1)]), (3, 0, []), (0, 0, []), (0, 0, []), (0, 0, []), (0, 0, []), (0, 0, []), (0, 0, []), (0, 0, []), (0, 0, []), (0, 0, []), (0, 0, []), (0, 0, []), (0, 0, []), (0, 0, []), (0, 0, []), (0, 0, [(10, 1)]), (0, 0, [(9, 1)]), (0, 0, [(4, 1)]), (0, 0, [(3, 1)]), (266, 0, []), (0, 0, []), (0, 0, [(5, 8)]), (0, 0, [(6, 8)]), (0, 0, [(5, 8)]), (0, 0, [(6, 8)]), (1, 0, []), (0, 0, [(0, 1)]), (0, 0, []), (0, 0, []), (0, 0, []), (0, 0, []), (0, 0, []), (0, 0, []), (3, 0, []), (0, 0, [(0, 1)]), (4, 0, []), (0, 0, []), (0, 0, []), (0, 0, []), (0, 0, []), (0, 0, []), (0, 0, []), (0, 0, []), (0, 0, []), (0, 0, []), (0, 0, []), (0, 0, []), (0, 0, []), (0, 0, []), (0, 0, []), (0, 0, [(16, 1)]), (0, 0, [(15, 1)]), (1, 0, []), (0, 0, []), (0, 0, []), (0, 0, []), (5, 0, []), (0, 0, []), (0, 0, []), (0, 0, []), (0, 0, []), (0, 0, []), (0, 0, []), (0, 0, []), (0, 0, []), (0, 0, []), (0, 0, []), (0, 0, []), (0, 0, []), (0, 0, []), (0, 0, []), (0, 0, [(17, 1)]), (0, 0, [(16, 1)]), (0, 0, []), (3, 0, []), (0, 0, [(0, 1)]), (1, 0, []), (0, 0, []), (0, 0, []), (0, 0, []), (6, 0, []), (0, 0, []), (0, 0, []), (0, 0, []), (0, 0, []), (0, 0, []), (0, 0, []), (0, 0, []), (0, 0, []), (0, 0, []), (0, 0, []), (0, 0, []), (0, 0, []), (0, 0, []), (0, 0, []), (0, 0, [(20, 1)]), (0, 0, [(19, 1)]), (0, 0, [(7, 1)]), (0, 0, [(6, 1)]), (7, 0, []), (0, 0, []), (0, 0, []), (0, 0, []), (0, 0, []), (0, 0, []), (0, 0, []), (0, 0, []), (0, 0, []), (0, 0, []), (0, 0, []), (0, 0, []), (0, 0, []), (0, 0, []), (0, 0, []), (0, 0, [(17, 1)]), (0, 0, [(16, 1)]), (0, 0, [(4, 1)]), (0, 0, [(3, 1)]), (266, 0, []), (0, 0, []), (0, 0, [(15, 8)]), (0, 0, [(16, 8)]), (0, 0, []), (0, 0, [(15, 8)]), (0, 0, [(16, 8)]), (0, 0, [(15, 8)]), (0, 0, [(16, 8)]), (0, 0, []), (0, 0, []), (0, 0, []), (0, 0, []), (0, 0, []), (3, 0, []), (0, 0, [(0, 1)]), (8, 0, []), (0, 0, []), (0, 0, []), (0, 0, []), (0, 0, []), (0, 0, []), (0, 0, []), (0, 0, []), (0, 0, []), (0, 0, []), (0, 0, []), (0, 0, []), (0, 0, []), (0, 0, []), (0, 0, []), (0, 0, [(20, 1)]), (0, 0, [(19, 1)]), (1, 0, []), (0, 0, []), (0, 0, []), (0, 0, []), (9, 0, []), (0, 0, []), (0, 0, []), (0, 0, []), (0, 0, []), (0, 0, []), (0, 0, []), (0, 0, []), (0, 0, []), (0, 0, []), (0, 0, []), (0, 0, []), (0, 0, []), (0, 0, []), (0, 0, []), (0, 0, [(21, 1)]), (0, 0, [(20, 1)]), (0, 0, []), (3, 0, []), (0, 0, [(0, 1)]), (1, 0, []), (0, 0, []), (0, 0, []), (0, 0, []), (10, 0, []), (0, 0, []), (0, 0, []), (0, 0, []), (0, 0, []), (0, 0, []), (0, 0, []), (0, 0, []), (0, 0, []), (0, 0, []), (0, 0, []), (0, 0, []), (0, 0, []), (0, 0, []), (0, 0, []), (0, 0, [(24, 1)]), (0, 0, [(23, 1)]), (0, 0, [(7, 1)]), (0, 0, [(6, 1)]), (11, 0, []), (0, 0, []), (0, 0, []), (0, 0, []), (0, 0, []), (0, 0, []), (0, 0, []), (0, 0, []), (0, 0, []), (0, 0, []), (0, 0, []), (0, 0, []), (0, 0, []), (0, 0, []), (0, 0, []), (0, 0, [(21, 1)]), (0, 0, [(20, 1)]), (0, 0, [(4, 1)]), (0, 0, [(3, 1)]), (0, 0, []), (0, 0, []), (0, 0, []), (3, 0, []), (0, 0, [(0, 1)]), (12, 0, []), (0, 0, []), (0, 0, []), (0, 0, []), (0, 0, []), (0, 0, []), (0, 0, []), (0, 0, []), (0, 0, []), (0, 0, []), (0, 0, []), (0, 0, []), (0, 0, []), (0, 0, []), (0, 0, []), (0, 0, [(22, 1)]), (0, 0, [(21, 1)]), (3, 0, []), (0, 0, []), (1, 1, []), (0, 0, []), (13, 0, []), (0, 0, []), (0, 0, []), (0, 0, []), (0, 0, []), (0, 0, []), (0, 0, []), (0, 0, []), (0, 0, []), (0, 0, []), (0, 0, []), (0, 0, []), (0, 0, []), (0, 0, []), (0, 0, []), (0, 0, [(22, 1)]), (0, 0, [(21, 1)]), (0, 0, []), (3, 0, []), (0, 0, [(0, 1)]), (3, 0, []), (0, 0, []), (1, 1, []), (0, 0, []), (14, 0, []), (0, 0, []), (0, 0, []), (0, 0, []), (0, 0, []), (0, 0, []), (0, 0, []), (0, 0, []), (0, 0, []), (0, 0, []), (0, 0, []), (0, 0, []), (0, 0, []), (0, 0, []), (0, 0, []), (0, 0, [(25, 1)]), (0, 0, [(24, 1)]), (0, 0, [(6, 1)]), (0, 0, [(5, 1)]), (15, 0, []), (0, 0, []), (0, 0, []), (0, 0, []), (0, 0, []), (0, 0, []), (0, 0, []), (0, 0, []), (0, 0, []), (0, 0, []), (0, 0, []), (0, 0, []), (0, 0, []), (0, 0, []), (0, 0, []), (0, 0, [(23, 1)]), (0, 0, [(22, 1)]), (0, 0, [(4, 1)]), (0, 0, [(3, 1)])]
set_option maxRecDepth 100000 in
theorem hm_sb_c : mz_blk mz_GG mq_PP mz_Cs hm_sb_q 9 1 96 hm_sb_s [] 127 hm_sb_h = true := by decide +kernel
theorem hm_sb {X : (Nat → mq_C) → Prop} (hX : ∀ M M' : Nat → mq_C, mz_same mz_GG M M' → X M → X M') (hC : ∀ c ∈ mz_Cs, c.2 < 1 → mz_Ct mz_GG mq_PP X c.1 c.2) {d z u : Nat} {M : Nat → mq_C} {Q : (Option Value ⊕ Nat) → mq_S → Prop} {x1 : Int32} {x2 : Int32} {x3 : Int32} {x4 : Int32} {x5 : Int32} {x6 : Int32} {o7 : Option Value} {o8 : Option Value} (hd : 1 ≤ d) (hz : 272 ≤ z) (hm : mz_sh mz_GG M) (hx : X M) (h0 : mq_nl o7 = true) (h1 : mq_nl o8 = true) (p0 : 0 ≤ x5.toInt) (p1 : 0 ≤ 127 - x5.toInt)
    (k0 : ∀ (M' : Nat → mq_C) (y7 : Int32) (y8 : Int32), mz_sh mz_GG M' → X M' → mz_fr hm_sb_q M M' → (∀ a, a < 8 → M' a = M a) → hb_same mz_GG hm_sb_q M M' → y8.toInt = 1 → 0 ≤ 255 - y7.toInt → 0 ≤ y7.toInt → mq_R mq_PP d 154 190 [some (.ref 234), some (.int x1), some (.int x2), some (.int x3), some (.int x4), some (.int x5), some (.int x6), some (.int y7), some (.int y8)] [] (M', z, u) Q)
    (k1 : ∀ (M' : Nat → mq_C) (y7 : Int32) (y8 : Int32), mz_sh mz_GG M' → X M' → mz_fr hm_sb_q M M' → (∀ a, a < 8 → M' a = M a) → hb_same mz_GG hm_sb_q M M' → y8.toInt = 1 → 0 ≤ 255 - y7.toInt → 0 ≤ y7.toInt → mq_R mq_PP d 154 244 [some (.ref 234), some (.int x1), some (.int x2), some (.int x3), some (.int x4), some (.int x5), some (.int x6), some (.int y7), some (.int y8)] [] (M', z, u) Q)
    (k2 : ∀ (M' : Nat → mq_C) (y7 : Int32) (y8 : Int32), mz_sh mz_GG M' → X M' → mz_fr hm_sb_q M M' → (∀ a, a < 8 → M' a = M a) → hb_same mz_GG hm_sb_q M M' → y8.toInt = 1 → 0 ≤ 255 - y7.toInt → 0 ≤ y7.toInt → 0 ≤ x4.toInt → 0 ≤ 0 - x4.toInt → mq_R mq_PP d 154 244 [some (.ref 234), some (.int x1), some (.int x2), some (.int x3), some (.int x4), some (.int x5), some (.int x6), some (.int y7), some (.int y8)] [] (M', z, u) Q)
    (k3 : ∀ (M' : Nat → mq_C) (y7 : Int32) (y8 : Int32), mz_sh mz_GG M' → X M' → mz_fr hm_sb_q M M' → (∀ a, a < 8 → M' a = M a) → hb_same mz_GG hm_sb_q M M' → y8.toInt = 1 → 0 ≤ 255 - y7.toInt → 0 ≤ y7.toInt → 0 ≤ x4.toInt → 0 ≤ 0 - x4.toInt → mq_R mq_PP d 154 190 [some (.ref 234), some (.int x1), some (.int x2), some (.int x3), some (.int x4), some (.int x5), some (.int x6), some (.int y7), some (.int y8)] [] (M', z, u) Q)
    (k4 : ∀ (M' : Nat → mq_C) (y7 : Int32) (y8 : Int32), mz_sh mz_GG M' → X M' → mz_fr hm_sb_q M M' → (∀ a, a < 8 → M' a = M a) → hb_same mz_GG hm_sb_q M M' → y8.toInt = 0 → 0 ≤ 255 - y7.toInt → 0 ≤ y7.toInt → mq_R mq_PP d 154 190 [some (.ref 234), some (.int x1), some (.int x2), some (.int x3), some (.int x4), some (.int x5), some (.int x6), some (.int y7), some (.int y8)] [] (M', z, u) Q)
    (k5 : ∀ (M' : Nat → mq_C) (y7 : Int32) (y8 : Int32), mz_sh mz_GG M' → X M' → mz_fr hm_sb_q M M' → (∀ a, a < 8 → M' a = M a) → hb_same mz_GG hm_sb_q M M' → y8.toInt = 0 → 0 ≤ 255 - y7.toInt → 0 ≤ y7.toInt → mq_R mq_PP d 154 190 [some (.ref 234), some (.int x1), some (.int x2), some (.int x3), some (.int x4), some (.int x5), some (.int x6), some (.int y7), some (.int y8)] [] (M', z, u) Q)
    (k6 : ∀ (M' : Nat → mq_C) (y7 : Int32) (y8 : Int32), mz_sh mz_GG M' → X M' → mz_fr hm_sb_q M M' → (∀ a, a < 8 → M' a = M a) → hb_same mz_GG hm_sb_q M M' → y8.toInt = 0 → 0 ≤ 255 - y7.toInt → 0 ≤ y7.toInt → 0 ≤ x4.toInt → 0 ≤ 0 - x4.toInt → mq_R mq_PP d 154 190 [some (.ref 234), some (.int x1), some (.int x2), some (.int x3), some (.int x4), some (.int x5), some (.int x6), some (.int y7), some (.int y8)] [] (M', z, u) Q)
    (k7 : ∀ (M' : Nat → mq_C) (y7 : Int32) (y8 : Int32), mz_sh mz_GG M' → X M' → mz_fr hm_sb_q M M' → (∀ a, a < 8 → M' a = M a) → hb_same mz_GG hm_sb_q M M' → y8.toInt = 0 → 0 ≤ 255 - y7.toInt → 0 ≤ y7.toInt → 0 ≤ x4.toInt → 0 ≤ 0 - x4.toInt → mq_R mq_PP d 154 190 [some (.ref 234), some (.int x1), some (.int x2), some (.int x3), some (.int x4), some (.int x5), some (.int x6), some (.int y7), some (.int y8)] [] (M', z, u) Q)
    (k8 : ∀ (M' : Nat → mq_C) (y7 : Int32) (y8 : Int32), mz_sh mz_GG M' → X M' → mz_fr hm_sb_q M M' → (∀ a, a < 8 → M' a = M a) → hb_same mz_GG hm_sb_q M M' → y8.toInt = 0 → 0 ≤ 255 - y7.toInt → 0 ≤ y7.toInt → mq_R mq_PP d 154 190 [some (.ref 234), some (.int x1), some (.int x2), some (.int x3), some (.int x4), some (.int x5), some (.int x6), some (.int y7), some (.int y8)] [] (M', z, u) Q)
    (k9 : ∀ (M' : Nat → mq_C) (y7 : Int32) (y8 : Int32), mz_sh mz_GG M' → X M' → mz_fr hm_sb_q M M' → (∀ a, a < 8 → M' a = M a) → hb_same mz_GG hm_sb_q M M' → y8.toInt = 0 → 0 ≤ 255 - y7.toInt → 0 ≤ y7.toInt → mq_R mq_PP d 154 190 [some (.ref 234), some (.int x1), some (.int x2), some (.int x3), some (.int x4), some (.int x5), some (.int x6), some (.int y7), some (.int y8)] [] (M', z, u) Q)
    (k10 : ∀ (M' : Nat → mq_C) (y7 : Int32) (y8 : Int32), mz_sh mz_GG M' → X M' → mz_fr hm_sb_q M M' → (∀ a, a < 8 → M' a = M a) → hb_same mz_GG hm_sb_q M M' → y8.toInt = 0 → 0 ≤ 255 - y7.toInt → 0 ≤ y7.toInt → 0 ≤ x4.toInt → 0 ≤ 0 - x4.toInt → mq_R mq_PP d 154 190 [some (.ref 234), some (.int x1), some (.int x2), some (.int x3), some (.int x4), some (.int x5), some (.int x6), some (.int y7), some (.int y8)] [] (M', z, u) Q)
    (k11 : ∀ (M' : Nat → mq_C) (y7 : Int32) (y8 : Int32), mz_sh mz_GG M' → X M' → mz_fr hm_sb_q M M' → (∀ a, a < 8 → M' a = M a) → hb_same mz_GG hm_sb_q M M' → y8.toInt = 0 → 0 ≤ 255 - y7.toInt → 0 ≤ y7.toInt → 0 ≤ x4.toInt → 0 ≤ 0 - x4.toInt → mq_R mq_PP d 154 190 [some (.ref 234), some (.int x1), some (.int x2), some (.int x3), some (.int x4), some (.int x5), some (.int x6), some (.int y7), some (.int y8)] [] (M', z, u) Q)
    (k12 : ∀ (M' : Nat → mq_C) (y7 : Int32) (y8 : Int32), mz_sh mz_GG M' → X M' → mz_fr hm_sb_q M M' → (∀ a, a < 8 → M' a = M a) → hb_same mz_GG hm_sb_q M M' → y8.toInt = 1 → 0 ≤ 255 - y7.toInt → 0 ≤ y7.toInt → mq_R mq_PP d 154 190 [some (.ref 234), some (.int x1), some (.int x2), some (.int x3), some (.int x4), some (.int x5), some (.int x6), some (.int y7), some (.int y8)] [] (M', z, u) Q)
    (k13 : ∀ (M' : Nat → mq_C) (y7 : Int32) (y8 : Int32), mz_sh mz_GG M' → X M' → mz_fr hm_sb_q M M' → (∀ a, a < 8 → M' a = M a) → hb_same mz_GG hm_sb_q M M' → y8.toInt = 1 → 0 ≤ 255 - y7.toInt → 0 ≤ y7.toInt → mq_R mq_PP d 154 244 [some (.ref 234), some (.int x1), some (.int x2), some (.int x3), some (.int x4), some (.int x5), some (.int x6), some (.int y7), some (.int y8)] [] (M', z, u) Q)
    (k14 : ∀ (M' : Nat → mq_C) (y7 : Int32) (y8 : Int32), mz_sh mz_GG M' → X M' → mz_fr hm_sb_q M M' → (∀ a, a < 8 → M' a = M a) → hb_same mz_GG hm_sb_q M M' → y8.toInt = 1 → 0 ≤ 255 - y7.toInt → 0 ≤ y7.toInt → 0 ≤ x4.toInt → 0 ≤ 0 - x4.toInt → mq_R mq_PP d 154 244 [some (.ref 234), some (.int x1), some (.int x2), some (.int x3), some (.int x4), some (.int x5), some (.int x6), some (.int y7), some (.int y8)] [] (M', z, u) Q)
    (k15 : ∀ (M' : Nat → mq_C) (y7 : Int32) (y8 : Int32), mz_sh mz_GG M' → X M' → mz_fr hm_sb_q M M' → (∀ a, a < 8 → M' a = M a) → hb_same mz_GG hm_sb_q M M' → y8.toInt = 1 → 0 ≤ 255 - y7.toInt → 0 ≤ y7.toInt → 0 ≤ x4.toInt → 0 ≤ 0 - x4.toInt → mq_R mq_PP d 154 190 [some (.ref 234), some (.int x1), some (.int x2), some (.int x3), some (.int x4), some (.int x5), some (.int x6), some (.int y7), some (.int y8)] [] (M', z, u) Q) : mq_R mq_PP d 154 96 [some (.ref 234), some (.int x1), some (.int x2), some (.int x3), some (.int x4), some (.int x5), some (.int x6), o7, o8] [] (M, z, u) Q := by
  refine hb_blk mz_GG mq_PP X (q := hm_sb_q) (nl := 9) (M := M) hb_okG hX hC hm_sb_c hz hd (L := [some (.ref 234), some (.int x1), some (.int x2), some (.int x3), some (.int x4), some (.int x5), some (.int x6), o7, o8]) (st := []) (show hb_lk mz_GG ([(1, 234), (0, 0), (0, 0), (0, 0), (0, 0), (0, 0), (0, 0), (3, 0), (3, 0)]) _ from ⟨⟨List.mem_singleton.mpr rfl, rfl⟩, trivial, trivial, trivial, trivial, trivial, trivial, h0, h1, trivial⟩) (show hb_pk mz_GG ([]) _ from trivial) hm hx ?_ ?_ ?_
  · exact hb_cons (show 0 ≤ mz_ev _ _ from (show 0 ≤ 0 + (1 * x5.toInt + 0) by omega)) (hb_cons (show 0 ≤ mz_ev _ _ from (show 0 ≤ 127 + ((-1) * x5.toInt + 0) by omega)) (hb_nil))
  · intro s hs
    rcases List.mem_cons.mp hs with rfl | hs
    · intro ρ1 L' st' M' g1 g2 gm gr gf gs gx gw g8 ge
      obtain ⟨e0, L1, rfl, n0, gg0⟩ := hb_l1 mz_GG g1
      obtain rfl : e0 = 234 := List.mem_singleton.mp n0
      obtain ⟨y1, L1, rfl, qr71, gg1⟩ := hb_l0 mz_GG gg0
      have r71 : ρ1 71 = y1.toInt := qr71
      obtain ⟨y2, L1, rfl, qr72, gg2⟩ := hb_l0 mz_GG gg1
      have r72 : ρ1 72 = y2.toInt := qr72
      obtain ⟨y3, L1, rfl, qr73, gg3⟩ := hb_l0 mz_GG gg2
      have r73 : ρ1 73 = y3.toInt := qr73
      obtain ⟨y4, L1, rfl, qr74, gg4⟩ := hb_l0 mz_GG gg3
      have r74 : ρ1 74 = y4.toInt := qr74
      obtain ⟨y5, L1, rfl, qr75, gg5⟩ := hb_l0 mz_GG gg4
      have r75 : ρ1 75 = y5.toInt := qr75
      obtain ⟨y6, L1, rfl, qr76, gg6⟩ := hb_l0 mz_GG gg5
      have r76 : ρ1 76 = y6.toInt := qr76
      obtain ⟨y7, L1, rfl, qr77, gg7⟩ := hb_l0 mz_GG gg6
      have r77 : ρ1 77 = y7.toInt := qr77
      obtain ⟨y8, L1, rfl, qr78, gg8⟩ := hb_l0 mz_GG gg7
      have r78 : ρ1 78 = y8.toInt := qr78
      obtain rfl := hb_ln mz_GG gg8
      obtain rfl := hb_pn mz_GG g2
      have r1 : ρ1 1 = x1.toInt := gr 1 (by decide +kernel)
      have r2 : ρ1 2 = x2.toInt := gr 2 (by decide +kernel)
      have r3 : ρ1 3 = x3.toInt := gr 3 (by decide +kernel)
      have r4 : ρ1 4 = x4.toInt := gr 4 (by decide +kernel)
      have r5 : ρ1 5 = x5.toInt := gr 5 (by decide +kernel)
      have r6 : ρ1 6 = x6.toInt := gr 6 (by decide +kernel)
      obtain ⟨f0, gf⟩ := hb_unc gf
      have f0 : 0 ≤ 0 + ((-1) * ρ1 1 + (1 * ρ1 71 + 0)) := f0
      rw [r1, r71] at f0
      obtain ⟨f1, gf⟩ := hb_unc gf
      have f1 : 0 ≤ 0 + (1 * ρ1 1 + ((-1) * ρ1 71 + 0)) := f1
      rw [r1, r71] at f1
      obtain ⟨f2, gf⟩ := hb_unc gf
      have f2 : 0 ≤ 0 + ((-1) * ρ1 2 + (1 * ρ1 72 + 0)) := f2
      rw [r2, r72] at f2
      obtain ⟨f3, gf⟩ := hb_unc gf
      have f3 : 0 ≤ 0 + (1 * ρ1 2 + ((-1) * ρ1 72 + 0)) := f3
      rw [r2, r72] at f3
      obtain ⟨f4, gf⟩ := hb_unc gf
      have f4 : 0 ≤ 0 + ((-1) * ρ1 3 + (1 * ρ1 73 + 0)) := f4
      rw [r3, r73] at f4
      obtain ⟨f5, gf⟩ := hb_unc gf
      have f5 : 0 ≤ 0 + (1 * ρ1 3 + ((-1) * ρ1 73 + 0)) := f5
      rw [r3, r73] at f5
      obtain ⟨f6, gf⟩ := hb_unc gf
      have f6 : 0 ≤ 0 + ((-1) * ρ1 4 + (1 * ρ1 74 + 0)) := f6
      rw [r4, r74] at f6
      obtain ⟨f7, gf⟩ := hb_unc gf
      have f7 : 0 ≤ 0 + (1 * ρ1 4 + ((-1) * ρ1 74 + 0)) := f7
      rw [r4, r74] at f7
      obtain ⟨f8, gf⟩ := hb_unc gf
      have f8 : 0 ≤ 0 + ((-1) * ρ1 5 + (1 * ρ1 75 + 0)) := f8
      rw [r5, r75] at f8
      obtain ⟨f9, gf⟩ := hb_unc gf
      have f9 : 0 ≤ 0 + (1 * ρ1 5 + ((-1) * ρ1 75 + 0)) := f9
      rw [r5, r75] at f9
      obtain ⟨f10, gf⟩ := hb_unc gf
      have f10 : 0 ≤ 0 + ((-1) * ρ1 6 + (1 * ρ1 76 + 0)) := f10
      rw [r6, r76] at f10
      obtain ⟨f11, gf⟩ := hb_unc gf
      have f11 : 0 ≤ 0 + (1 * ρ1 6 + ((-1) * ρ1 76 + 0)) := f11
      rw [r6, r76] at f11
      obtain ⟨f12, gf⟩ := hb_unc gf
      have f12 : 0 ≤ -1 + (1 * ρ1 78 + 0) := f12
      rw [r78] at f12
      obtain ⟨f13, gf⟩ := hb_unc gf
      have f13 : 0 ≤ 1 + ((-1) * ρ1 78 + 0) := f13
      rw [r78] at f13
      obtain ⟨f14, gf⟩ := hb_unc gf
      have f14 : 0 ≤ 255 + ((-1) * ρ1 77 + 0) := f14
      rw [r77] at f14
      obtain ⟨f15, gf⟩ := hb_unc gf
      have f15 : 0 ≤ 0 + (1 * ρ1 77 + 0) := f15
      rw [r77] at f15
      have hy1 : y1 = x1 := hb_inj f0 f1
      subst y1
      have hy2 : y2 = x2 := hb_inj f2 f3
      subst y2
      have hy3 : y3 = x3 := hb_inj f4 f5
      subst y3
      have hy4 : y4 = x4 := hb_inj f6 f7
      subst y4
      have hy5 : y5 = x5 := hb_inj f8 f9
      subst y5
      have hy6 : y6 = x6 := hb_inj f10 f11
      subst y6
      exact k0 M' y7 y8 gs gx gw g8 ge  (by have h1 := f12; have h2 := f13; omega) (by have h1 := f14; omega) (by have h1 := f15; omega)
    rcases List.mem_cons.mp hs with rfl | hs
    · intro ρ1 L' st' M' g1 g2 gm gr gf gs gx gw g8 ge
      obtain ⟨e0, L1, rfl, n0, gg0⟩ := hb_l1 mz_GG g1
      obtain rfl : e0 = 234 := List.mem_singleton.mp n0
      obtain ⟨y1, L1, rfl, qr71, gg1⟩ := hb_l0 mz_GG gg0
      have r71 : ρ1 71 = y1.toInt := qr71
      obtain ⟨y2, L1, rfl, qr72, gg2⟩ := hb_l0 mz_GG gg1
      have r72 : ρ1 72 = y2.toInt := qr72
      obtain ⟨y3, L1, rfl, qr73, gg3⟩ := hb_l0 mz_GG gg2
      have r73 : ρ1 73 = y3.toInt := qr73
      obtain ⟨y4, L1, rfl, qr74, gg4⟩ := hb_l0 mz_GG gg3
      have r74 : ρ1 74 = y4.toInt := qr74
      obtain ⟨y5, L1, rfl, qr75, gg5⟩ := hb_l0 mz_GG gg4
      have r75 : ρ1 75 = y5.toInt := qr75
      obtain ⟨y6, L1, rfl, qr76, gg6⟩ := hb_l0 mz_GG gg5
      have r76 : ρ1 76 = y6.toInt := qr76
      obtain ⟨y7, L1, rfl, qr77, gg7⟩ := hb_l0 mz_GG gg6
      have r77 : ρ1 77 = y7.toInt := qr77
      obtain ⟨y8, L1, rfl, qr78, gg8⟩ := hb_l0 mz_GG gg7
      have r78 : ρ1 78 = y8.toInt := qr78
      obtain rfl := hb_ln mz_GG gg8
      obtain rfl := hb_pn mz_GG g2
      have r1 : ρ1 1 = x1.toInt := gr 1 (by decide +kernel)
      have r2 : ρ1 2 = x2.toInt := gr 2 (by decide +kernel)
      have r3 : ρ1 3 = x3.toInt := gr 3 (by decide +kernel)
      have r4 : ρ1 4 = x4.toInt := gr 4 (by decide +kernel)
      have r5 : ρ1 5 = x5.toInt := gr 5 (by decide +kernel)
      have r6 : ρ1 6 = x6.toInt := gr 6 (by decide +kernel)
      obtain ⟨f0, gf⟩ := hb_unc gf
      have f0 : 0 ≤ 0 + ((-1) * ρ1 1 + (1 * ρ1 71 + 0)) := f0
      rw [r1, r71] at f0
      obtain ⟨f1, gf⟩ := hb_unc gf
      have f1 : 0 ≤ 0 + (1 * ρ1 1 + ((-1) * ρ1 71 + 0)) := f1
      rw [r1, r71] at f1
      obtain ⟨f2, gf⟩ := hb_unc gf
      have f2 : 0 ≤ 0 + ((-1) * ρ1 2 + (1 * ρ1 72 + 0)) := f2
      rw [r2, r72] at f2
      obtain ⟨f3, gf⟩ := hb_unc gf
      have f3 : 0 ≤ 0 + (1 * ρ1 2 + ((-1) * ρ1 72 + 0)) := f3
      rw [r2, r72] at f3
      obtain ⟨f4, gf⟩ := hb_unc gf
      have f4 : 0 ≤ 0 + ((-1) * ρ1 3 + (1 * ρ1 73 + 0)) := f4
      rw [r3, r73] at f4
      obtain ⟨f5, gf⟩ := hb_unc gf
      have f5 : 0 ≤ 0 + (1 * ρ1 3 + ((-1) * ρ1 73 + 0)) := f5
      rw [r3, r73] at f5
      obtain ⟨f6, gf⟩ := hb_unc gf
      have f6 : 0 ≤ 0 + ((-1) * ρ1 4 + (1 * ρ1 74 + 0)) := f6
      rw [r4, r74] at f6
      obtain ⟨f7, gf⟩ := hb_unc gf
      have f7 : 0 ≤ 0 + (1 * ρ1 4 + ((-1) * ρ1 74 + 0)) := f7
      rw [r4, r74] at f7
      obtain ⟨f8, gf⟩ := hb_unc gf
      have f8 : 0 ≤ 0 + ((-1) * ρ1 5 + (1 * ρ1 75 + 0)) := f8
      rw [r5, r75] at f8
      obtain ⟨f9, gf⟩ := hb_unc gf
      have f9 : 0 ≤ 0 + (1 * ρ1 5 + ((-1) * ρ1 75 + 0)) := f9
      rw [r5, r75] at f9
      obtain ⟨f10, gf⟩ := hb_unc gf
      have f10 : 0 ≤ 0 + ((-1) * ρ1 6 + (1 * ρ1 76 + 0)) := f10
      rw [r6, r76] at f10
      obtain ⟨f11, gf⟩ := hb_unc gf
      have f11 : 0 ≤ 0 + (1 * ρ1 6 + ((-1) * ρ1 76 + 0)) := f11
      rw [r6, r76] at f11
      obtain ⟨f12, gf⟩ := hb_unc gf
      have f12 : 0 ≤ -1 + (1 * ρ1 78 + 0) := f12
      rw [r78] at f12
      obtain ⟨f13, gf⟩ := hb_unc gf
      have f13 : 0 ≤ 1 + ((-1) * ρ1 78 + 0) := f13
      rw [r78] at f13
      obtain ⟨f14, gf⟩ := hb_unc gf
      have f14 : 0 ≤ 255 + ((-1) * ρ1 77 + 0) := f14
      rw [r77] at f14
      obtain ⟨f15, gf⟩ := hb_unc gf
      have f15 : 0 ≤ 0 + (1 * ρ1 77 + 0) := f15
      rw [r77] at f15
      have hy1 : y1 = x1 := hb_inj f0 f1
      subst y1
      have hy2 : y2 = x2 := hb_inj f2 f3
      subst y2
      have hy3 : y3 = x3 := hb_inj f4 f5
      subst y3
      have hy4 : y4 = x4 := hb_inj f6 f7
      subst y4
      have hy5 : y5 = x5 := hb_inj f8 f9
      subst y5
      have hy6 : y6 = x6 := hb_inj f10 f11
      subst y6
      exact k1 M' y7 y8 gs gx gw g8 ge  (by have h1 := f12; have h2 := f13; omega) (by have h1 := f14; omega) (by have h1 := f15; omega)
    rcases List.mem_cons.mp hs with rfl | hs
    · intro ρ1 L' st' M' g1 g2 gm gr gf gs gx gw g8 ge
      obtain ⟨e0, L1, rfl, n0, gg0⟩ := hb_l1 mz_GG g1
      obtain rfl : e0 = 234 := List.mem_singleton.mp n0
      obtain ⟨y1, L1, rfl, qr71, gg1⟩ := hb_l0 mz_GG gg0
      have r71 : ρ1 71 = y1.toInt := qr71
      obtain ⟨y2, L1, rfl, qr72, gg2⟩ := hb_l0 mz_GG gg1
      have r72 : ρ1 72 = y2.toInt := qr72
      obtain ⟨y3, L1, rfl, qr73, gg3⟩ := hb_l0 mz_GG gg2
      have r73 : ρ1 73 = y3.toInt := qr73
      obtain ⟨y4, L1, rfl, qr74, gg4⟩ := hb_l0 mz_GG gg3
      have r74 : ρ1 74 = y4.toInt := qr74
      obtain ⟨y5, L1, rfl, qr75, gg5⟩ := hb_l0 mz_GG gg4
      have r75 : ρ1 75 = y5.toInt := qr75
      obtain ⟨y6, L1, rfl, qr76, gg6⟩ := hb_l0 mz_GG gg5
      have r76 : ρ1 76 = y6.toInt := qr76
      obtain ⟨y7, L1, rfl, qr77, gg7⟩ := hb_l0 mz_GG gg6
      have r77 : ρ1 77 = y7.toInt := qr77
      obtain ⟨y8, L1, rfl, qr78, gg8⟩ := hb_l0 mz_GG gg7
      have r78 : ρ1 78 = y8.toInt := qr78
      obtain rfl := hb_ln mz_GG gg8
      obtain rfl := hb_pn mz_GG g2
      have r1 : ρ1 1 = x1.toInt := gr 1 (by decide +kernel)
      have r2 : ρ1 2 = x2.toInt := gr 2 (by decide +kernel)
      have r3 : ρ1 3 = x3.toInt := gr 3 (by decide +kernel)
      have r4 : ρ1 4 = x4.toInt := gr 4 (by decide +kernel)
      have r5 : ρ1 5 = x5.toInt := gr 5 (by decide +kernel)
      have r6 : ρ1 6 = x6.toInt := gr 6 (by decide +kernel)
      obtain ⟨f0, gf⟩ := hb_unc gf
      have f0 : 0 ≤ 0 + ((-1) * ρ1 1 + (1 * ρ1 71 + 0)) := f0
      rw [r1, r71] at f0
      obtain ⟨f1, gf⟩ := hb_unc gf
      have f1 : 0 ≤ 0 + (1 * ρ1 1 + ((-1) * ρ1 71 + 0)) := f1
      rw [r1, r71] at f1
      obtain ⟨f2, gf⟩ := hb_unc gf
      have f2 : 0 ≤ 0 + ((-1) * ρ1 2 + (1 * ρ1 72 + 0)) := f2
      rw [r2, r72] at f2
      obtain ⟨f3, gf⟩ := hb_unc gf
      have f3 : 0 ≤ 0 + (1 * ρ1 2 + ((-1) * ρ1 72 + 0)) := f3
      rw [r2, r72] at f3
      obtain ⟨f4, gf⟩ := hb_unc gf
      have f4 : 0 ≤ 0 + ((-1) * ρ1 3 + (1 * ρ1 73 + 0)) := f4
      rw [r3, r73] at f4
      obtain ⟨f5, gf⟩ := hb_unc gf
      have f5 : 0 ≤ 0 + (1 * ρ1 3 + ((-1) * ρ1 73 + 0)) := f5
      rw [r3, r73] at f5
      obtain ⟨f6, gf⟩ := hb_unc gf
      have f6 : 0 ≤ 0 + ((-1) * ρ1 4 + (1 * ρ1 74 + 0)) := f6
      rw [r4, r74] at f6
      obtain ⟨f7, gf⟩ := hb_unc gf
      have f7 : 0 ≤ 0 + (1 * ρ1 4 + ((-1) * ρ1 74 + 0)) := f7
      rw [r4, r74] at f7
      obtain ⟨f8, gf⟩ := hb_unc gf
      have f8 : 0 ≤ 0 + ((-1) * ρ1 5 + (1 * ρ1 75 + 0)) := f8
      rw [r5, r75] at f8
      obtain ⟨f9, gf⟩ := hb_unc gf
      have f9 : 0 ≤ 0 + (1 * ρ1 5 + ((-1) * ρ1 75 + 0)) := f9
      rw [r5, r75] at f9
      obtain ⟨f10, gf⟩ := hb_unc gf
      have f10 : 0 ≤ 0 + ((-1) * ρ1 6 + (1 * ρ1 76 + 0)) := f10
      rw [r6, r76] at f10
      obtain ⟨f11, gf⟩ := hb_unc gf
      have f11 : 0 ≤ 0 + (1 * ρ1 6 + ((-1) * ρ1 76 + 0)) := f11
      rw [r6, r76] at f11
      obtain ⟨f12, gf⟩ := hb_unc gf
      have f12 : 0 ≤ -1 + (1 * ρ1 78 + 0) := f12
      rw [r78] at f12
      obtain ⟨f13, gf⟩ := hb_unc gf
      have f13 : 0 ≤ 1 + ((-1) * ρ1 78 + 0) := f13
      rw [r78] at f13
      obtain ⟨f14, gf⟩ := hb_unc gf
      have f14 : 0 ≤ 255 + ((-1) * ρ1 77 + 0) := f14
      rw [r77] at f14
      obtain ⟨f15, gf⟩ := hb_unc gf
      have f15 : 0 ≤ 0 + (1 * ρ1 77 + 0) := f15
      rw [r77] at f15
      obtain ⟨f16, gf⟩ := hb_unc gf
      have f16 : 0 ≤ 0 + (1 * ρ1 4 + 0) := f16
      rw [r4] at f16
      obtain ⟨f17, gf⟩ := hb_unc gf
      have f17 : 0 ≤ 0 + ((-1) * ρ1 4 + 0) := f17
      rw [r4] at f17
      have hy1 : y1 = x1 := hb_inj f0 f1
      subst y1
      have hy2 : y2 = x2 := hb_inj f2 f3
      subst y2
      have hy3 : y3 = x3 := hb_inj f4 f5
      subst y3
      have hy4 : y4 = x4 := hb_inj f6 f7
      subst y4
      have hy5 : y5 = x5 := hb_inj f8 f9
      subst y5
      have hy6 : y6 = x6 := hb_inj f10 f11
      subst y6
      exact k2 M' y7 y8 gs gx gw g8 ge  (by have h1 := f12; have h2 := f13; omega) (by have h1 := f14; omega) (by have h1 := f15; omega) (by have h1 := f16; omega) (by have h1 := f17; omega)
    rcases List.mem_cons.mp hs with rfl | hs
    · intro ρ1 L' st' M' g1 g2 gm gr gf gs gx gw g8 ge
      obtain ⟨e0, L1, rfl, n0, gg0⟩ := hb_l1 mz_GG g1
      obtain rfl : e0 = 234 := List.mem_singleton.mp n0
      obtain ⟨y1, L1, rfl, qr71, gg1⟩ := hb_l0 mz_GG gg0
      have r71 : ρ1 71 = y1.toInt := qr71
      obtain ⟨y2, L1, rfl, qr72, gg2⟩ := hb_l0 mz_GG gg1
      have r72 : ρ1 72 = y2.toInt := qr72
      obtain ⟨y3, L1, rfl, qr73, gg3⟩ := hb_l0 mz_GG gg2
      have r73 : ρ1 73 = y3.toInt := qr73
      obtain ⟨y4, L1, rfl, qr74, gg4⟩ := hb_l0 mz_GG gg3
      have r74 : ρ1 74 = y4.toInt := qr74
      obtain ⟨y5, L1, rfl, qr75, gg5⟩ := hb_l0 mz_GG gg4
      have r75 : ρ1 75 = y5.toInt := qr75
      obtain ⟨y6, L1, rfl, qr76, gg6⟩ := hb_l0 mz_GG gg5
      have r76 : ρ1 76 = y6.toInt := qr76
      obtain ⟨y7, L1, rfl, qr77, gg7⟩ := hb_l0 mz_GG gg6
      have r77 : ρ1 77 = y7.toInt := qr77
      obtain ⟨y8, L1, rfl, qr78, gg8⟩ := hb_l0 mz_GG gg7
      have r78 : ρ1 78 = y8.toInt := qr78
      obtain rfl := hb_ln mz_GG gg8
      obtain rfl := hb_pn mz_GG g2
      have r1 : ρ1 1 = x1.toInt := gr 1 (by decide +kernel)
      have r2 : ρ1 2 = x2.toInt := gr 2 (by decide +kernel)
      have r3 : ρ1 3 = x3.toInt := gr 3 (by decide +kernel)
      have r4 : ρ1 4 = x4.toInt := gr 4 (by decide +kernel)
      have r5 : ρ1 5 = x5.toInt := gr 5 (by decide +kernel)
      have r6 : ρ1 6 = x6.toInt := gr 6 (by decide +kernel)
      obtain ⟨f0, gf⟩ := hb_unc gf
      have f0 : 0 ≤ 0 + ((-1) * ρ1 1 + (1 * ρ1 71 + 0)) := f0
      rw [r1, r71] at f0
      obtain ⟨f1, gf⟩ := hb_unc gf
      have f1 : 0 ≤ 0 + (1 * ρ1 1 + ((-1) * ρ1 71 + 0)) := f1
      rw [r1, r71] at f1
      obtain ⟨f2, gf⟩ := hb_unc gf
      have f2 : 0 ≤ 0 + ((-1) * ρ1 2 + (1 * ρ1 72 + 0)) := f2
      rw [r2, r72] at f2
      obtain ⟨f3, gf⟩ := hb_unc gf
      have f3 : 0 ≤ 0 + (1 * ρ1 2 + ((-1) * ρ1 72 + 0)) := f3
      rw [r2, r72] at f3
      obtain ⟨f4, gf⟩ := hb_unc gf
      have f4 : 0 ≤ 0 + ((-1) * ρ1 3 + (1 * ρ1 73 + 0)) := f4
      rw [r3, r73] at f4
      obtain ⟨f5, gf⟩ := hb_unc gf
      have f5 : 0 ≤ 0 + (1 * ρ1 3 + ((-1) * ρ1 73 + 0)) := f5
      rw [r3, r73] at f5
      obtain ⟨f6, gf⟩ := hb_unc gf
      have f6 : 0 ≤ 0 + ((-1) * ρ1 4 + (1 * ρ1 74 + 0)) := f6
      rw [r4, r74] at f6
      obtain ⟨f7, gf⟩ := hb_unc gf
      have f7 : 0 ≤ 0 + (1 * ρ1 4 + ((-1) * ρ1 74 + 0)) := f7
      rw [r4, r74] at f7
      obtain ⟨f8, gf⟩ := hb_unc gf
      have f8 : 0 ≤ 0 + ((-1) * ρ1 5 + (1 * ρ1 75 + 0)) := f8
      rw [r5, r75] at f8
      obtain ⟨f9, gf⟩ := hb_unc gf
      have f9 : 0 ≤ 0 + (1 * ρ1 5 + ((-1) * ρ1 75 + 0)) := f9
      rw [r5, r75] at f9
      obtain ⟨f10, gf⟩ := hb_unc gf
      have f10 : 0 ≤ 0 + ((-1) * ρ1 6 + (1 * ρ1 76 + 0)) := f10
      rw [r6, r76] at f10
      obtain ⟨f11, gf⟩ := hb_unc gf
      have f11 : 0 ≤ 0 + (1 * ρ1 6 + ((-1) * ρ1 76 + 0)) := f11
      rw [r6, r76] at f11
      obtain ⟨f12, gf⟩ := hb_unc gf
      have f12 : 0 ≤ -1 + (1 * ρ1 78 + 0) := f12
      rw [r78] at f12
      obtain ⟨f13, gf⟩ := hb_unc gf
      have f13 : 0 ≤ 1 + ((-1) * ρ1 78 + 0) := f13
      rw [r78] at f13
      obtain ⟨f14, gf⟩ := hb_unc gf
      have f14 : 0 ≤ 255 + ((-1) * ρ1 77 + 0) := f14
      rw [r77] at f14
      obtain ⟨f15, gf⟩ := hb_unc gf
      have f15 : 0 ≤ 0 + (1 * ρ1 77 + 0) := f15
      rw [r77] at f15
      obtain ⟨f16, gf⟩ := hb_unc gf
      have f16 : 0 ≤ 0 + (1 * ρ1 4 + 0) := f16
      rw [r4] at f16
      obtain ⟨f17, gf⟩ := hb_unc gf
      have f17 : 0 ≤ 0 + ((-1) * ρ1 4 + 0) := f17
      rw [r4] at f17
      have hy1 : y1 = x1 := hb_inj f0 f1
      subst y1
      have hy2 : y2 = x2 := hb_inj f2 f3
      subst y2
      have hy3 : y3 = x3 := hb_inj f4 f5
      subst y3
      have hy4 : y4 = x4 := hb_inj f6 f7
      subst y4
      have hy5 : y5 = x5 := hb_inj f8 f9
      subst y5
      have hy6 : y6 = x6 := hb_inj f10 f11
      subst y6
      exact k3 M' y7 y8 gs gx gw g8 ge  (by have h1 := f12; have h2 := f13; omega) (by have h1 := f14; omega) (by have h1 := f15; omega) (by have h1 := f16; omega) (by have h1 := f17; omega)
    rcases List.mem_cons.mp hs with rfl | hs
    · intro ρ1 L' st' M' g1 g2 gm gr gf gs gx gw g8 ge
      obtain ⟨e0, L1, rfl, n0, gg0⟩ := hb_l1 mz_GG g1
      obtain rfl : e0 = 234 := List.mem_singleton.mp n0
      obtain ⟨y1, L1, rfl, qr71, gg1⟩ := hb_l0 mz_GG gg0
      have r71 : ρ1 71 = y1.toInt := qr71
      obtain ⟨y2, L1, rfl, qr72, gg2⟩ := hb_l0 mz_GG gg1
      have r72 : ρ1 72 = y2.toInt := qr72
      obtain ⟨y3, L1, rfl, qr73, gg3⟩ := hb_l0 mz_GG gg2
      have r73 : ρ1 73 = y3.toInt := qr73
      obtain ⟨y4, L1, rfl, qr74, gg4⟩ := hb_l0 mz_GG gg3
      have r74 : ρ1 74 = y4.toInt := qr74
      obtain ⟨y5, L1, rfl, qr75, gg5⟩ := hb_l0 mz_GG gg4
      have r75 : ρ1 75 = y5.toInt := qr75
      obtain ⟨y6, L1, rfl, qr76, gg6⟩ := hb_l0 mz_GG gg5
      have r76 : ρ1 76 = y6.toInt := qr76
      obtain ⟨y7, L1, rfl, qr77, gg7⟩ := hb_l0 mz_GG gg6
      have r77 : ρ1 77 = y7.toInt := qr77
      obtain ⟨y8, L1, rfl, qr78, gg8⟩ := hb_l0 mz_GG gg7
      have r78 : ρ1 78 = y8.toInt := qr78
      obtain rfl := hb_ln mz_GG gg8
      obtain rfl := hb_pn mz_GG g2
      have r1 : ρ1 1 = x1.toInt := gr 1 (by decide +kernel)
      have r2 : ρ1 2 = x2.toInt := gr 2 (by decide +kernel)
      have r3 : ρ1 3 = x3.toInt := gr 3 (by decide +kernel)
      have r4 : ρ1 4 = x4.toInt := gr 4 (by decide +kernel)
      have r5 : ρ1 5 = x5.toInt := gr 5 (by decide +kernel)
      have r6 : ρ1 6 = x6.toInt := gr 6 (by decide +kernel)
      obtain ⟨f0, gf⟩ := hb_unc gf
      have f0 : 0 ≤ 0 + ((-1) * ρ1 1 + (1 * ρ1 71 + 0)) := f0
      rw [r1, r71] at f0
      obtain ⟨f1, gf⟩ := hb_unc gf
      have f1 : 0 ≤ 0 + (1 * ρ1 1 + ((-1) * ρ1 71 + 0)) := f1
      rw [r1, r71] at f1
      obtain ⟨f2, gf⟩ := hb_unc gf
      have f2 : 0 ≤ 0 + ((-1) * ρ1 2 + (1 * ρ1 72 + 0)) := f2
      rw [r2, r72] at f2
      obtain ⟨f3, gf⟩ := hb_unc gf
      have f3 : 0 ≤ 0 + (1 * ρ1 2 + ((-1) * ρ1 72 + 0)) := f3
      rw [r2, r72] at f3
      obtain ⟨f4, gf⟩ := hb_unc gf
      have f4 : 0 ≤ 0 + ((-1) * ρ1 3 + (1 * ρ1 73 + 0)) := f4
      rw [r3, r73] at f4
      obtain ⟨f5, gf⟩ := hb_unc gf
      have f5 : 0 ≤ 0 + (1 * ρ1 3 + ((-1) * ρ1 73 + 0)) := f5
      rw [r3, r73] at f5
      obtain ⟨f6, gf⟩ := hb_unc gf
      have f6 : 0 ≤ 0 + ((-1) * ρ1 4 + (1 * ρ1 74 + 0)) := f6
      rw [r4, r74] at f6
      obtain ⟨f7, gf⟩ := hb_unc gf
      have f7 : 0 ≤ 0 + (1 * ρ1 4 + ((-1) * ρ1 74 + 0)) := f7
      rw [r4, r74] at f7
      obtain ⟨f8, gf⟩ := hb_unc gf
      have f8 : 0 ≤ 0 + ((-1) * ρ1 5 + (1 * ρ1 75 + 0)) := f8
      rw [r5, r75] at f8
      obtain ⟨f9, gf⟩ := hb_unc gf
      have f9 : 0 ≤ 0 + (1 * ρ1 5 + ((-1) * ρ1 75 + 0)) := f9
      rw [r5, r75] at f9
      obtain ⟨f10, gf⟩ := hb_unc gf
      have f10 : 0 ≤ 0 + ((-1) * ρ1 6 + (1 * ρ1 76 + 0)) := f10
      rw [r6, r76] at f10
      obtain ⟨f11, gf⟩ := hb_unc gf
      have f11 : 0 ≤ 0 + (1 * ρ1 6 + ((-1) * ρ1 76 + 0)) := f11
      rw [r6, r76] at f11
      obtain ⟨f12, gf⟩ := hb_unc gf
      have f12 : 0 ≤ 0 + (1 * ρ1 78 + 0) := f12
      rw [r78] at f12
      obtain ⟨f13, gf⟩ := hb_unc gf
      have f13 : 0 ≤ 0 + ((-1) * ρ1 78 + 0) := f13
      rw [r78] at f13
      obtain ⟨f14, gf⟩ := hb_unc gf
      have f14 : 0 ≤ 255 + ((-1) * ρ1 77 + 0) := f14
      rw [r77] at f14
      obtain ⟨f15, gf⟩ := hb_unc gf
      have f15 : 0 ≤ 0 + (1 * ρ1 77 + 0) := f15
      rw [r77] at f15
      have hy1 : y1 = x1 := hb_inj f0 f1
      subst y1
      have hy2 : y2 = x2 := hb_inj f2 f3
      subst y2
      have hy3 : y3 = x3 := hb_inj f4 f5
      subst y3
      have hy4 : y4 = x4 := hb_inj f6 f7
      subst y4
      have hy5 : y5 = x5 := hb_inj f8 f9
      subst y5
      have hy6 : y6 = x6 := hb_inj f10 f11
      subst y6
      exact k4 M' y7 y8 gs gx gw g8 ge  (by have h1 := f12; have h2 := f13; omega) (by have h1 := f14; omega) (by have h1 := f15; omega)
    rcases List.mem_cons.mp hs with rfl | hs
    · intro ρ1 L' st' M' g1 g2 gm gr gf gs gx gw g8 ge
      obtain ⟨e0, L1, rfl, n0, gg0⟩ := hb_l1 mz_GG g1
      obtain rfl : e0 = 234 := List.mem_singleton.mp n0
      obtain ⟨y1, L1, rfl, qr71, gg1⟩ := hb_l0 mz_GG gg0
      have r71 : ρ1 71 = y1.toInt := qr71
      obtain ⟨y2, L1, rfl, qr72, gg2⟩ := hb_l0 mz_GG gg1
      have r72 : ρ1 72 = y2.toInt := qr72
      obtain ⟨y3, L1, rfl, qr73, gg3⟩ := hb_l0 mz_GG gg2
      have r73 : ρ1 73 = y3.toInt := qr73
      obtain ⟨y4, L1, rfl, qr74, gg4⟩ := hb_l0 mz_GG gg3
      have r74 : ρ1 74 = y4.toInt := qr74
      obtain ⟨y5, L1, rfl, qr75, gg5⟩ := hb_l0 mz_GG gg4
      have r75 : ρ1 75 = y5.toInt := qr75
      obtain ⟨y6, L1, rfl, qr76, gg6⟩ := hb_l0 mz_GG gg5
      have r76 : ρ1 76 = y6.toInt := qr76
      obtain ⟨y7, L1, rfl, qr77, gg7⟩ := hb_l0 mz_GG gg6
      have r77 : ρ1 77 = y7.toInt := qr77
      obtain ⟨y8, L1, rfl, qr78, gg8⟩ := hb_l0 mz_GG gg7
      have r78 : ρ1 78 = y8.toInt := qr78
      obtain rfl := hb_ln mz_GG gg8
      obtain rfl := hb_pn mz_GG g2
      have r1 : ρ1 1 = x1.toInt := gr 1 (by decide +kernel)
      have r2 : ρ1 2 = x2.toInt := gr 2 (by decide +kernel)
      have r3 : ρ1 3 = x3.toInt := gr 3 (by decide +kernel)
      have r4 : ρ1 4 = x4.toInt := gr 4 (by decide +kernel)
      have r5 : ρ1 5 = x5.toInt := gr 5 (by decide +kernel)
      have r6 : ρ1 6 = x6.toInt := gr 6 (by decide +kernel)
      obtain ⟨f0, gf⟩ := hb_unc gf
      have f0 : 0 ≤ 0 + ((-1) * ρ1 1 + (1 * ρ1 71 + 0)) := f0
      rw [r1, r71] at f0
      obtain ⟨f1, gf⟩ := hb_unc gf
      have f1 : 0 ≤ 0 + (1 * ρ1 1 + ((-1) * ρ1 71 + 0)) := f1
      rw [r1, r71] at f1
      obtain ⟨f2, gf⟩ := hb_unc gf
      have f2 : 0 ≤ 0 + ((-1) * ρ1 2 + (1 * ρ1 72 + 0)) := f2
      rw [r2, r72] at f2
      obtain ⟨f3, gf⟩ := hb_unc gf
      have f3 : 0 ≤ 0 + (1 * ρ1 2 + ((-1) * ρ1 72 + 0)) := f3
      rw [r2, r72] at f3
      obtain ⟨f4, gf⟩ := hb_unc gf
      have f4 : 0 ≤ 0 + ((-1) * ρ1 3 + (1 * ρ1 73 + 0)) := f4
      rw [r3, r73] at f4
      obtain ⟨f5, gf⟩ := hb_unc gf
      have f5 : 0 ≤ 0 + (1 * ρ1 3 + ((-1) * ρ1 73 + 0)) := f5
      rw [r3, r73] at f5
      obtain ⟨f6, gf⟩ := hb_unc gf
      have f6 : 0 ≤ 0 + ((-1) * ρ1 4 + (1 * ρ1 74 + 0)) := f6
      rw [r4, r74] at f6
      obtain ⟨f7, gf⟩ := hb_unc gf
      have f7 : 0 ≤ 0 + (1 * ρ1 4 + ((-1) * ρ1 74 + 0)) := f7
      rw [r4, r74] at f7
      obtain ⟨f8, gf⟩ := hb_unc gf
      have f8 : 0 ≤ 0 + ((-1) * ρ1 5 + (1 * ρ1 75 + 0)) := f8
      rw [r5, r75] at f8
      obtain ⟨f9, gf⟩ := hb_unc gf
      have f9 : 0 ≤ 0 + (1 * ρ1 5 + ((-1) * ρ1 75 + 0)) := f9
      rw [r5, r75] at f9
      obtain ⟨f10, gf⟩ := hb_unc gf
      have f10 : 0 ≤ 0 + ((-1) * ρ1 6 + (1 * ρ1 76 + 0)) := f10
      rw [r6, r76] at f10
      obtain ⟨f11, gf⟩ := hb_unc gf
      have f11 : 0 ≤ 0 + (1 * ρ1 6 + ((-1) * ρ1 76 + 0)) := f11
      rw [r6, r76] at f11
      obtain ⟨f12, gf⟩ := hb_unc gf
      have f12 : 0 ≤ 0 + (1 * ρ1 78 + 0) := f12
      rw [r78] at f12
      obtain ⟨f13, gf⟩ := hb_unc gf
      have f13 : 0 ≤ 0 + ((-1) * ρ1 78 + 0) := f13
      rw [r78] at f13
      obtain ⟨f14, gf⟩ := hb_unc gf
      have f14 : 0 ≤ 255 + ((-1) * ρ1 77 + 0) := f14
      rw [r77] at f14
      obtain ⟨f15, gf⟩ := hb_unc gf
      have f15 : 0 ≤ 0 + (1 * ρ1 77 + 0) := f15
      rw [r77] at f15
      have hy1 : y1 = x1 := hb_inj f0 f1
      subst y1
      have hy2 : y2 = x2 := hb_inj f2 f3
      subst y2
      have hy3 : y3 = x3 := hb_inj f4 f5
      subst y3
      have hy4 : y4 = x4 := hb_inj f6 f7
      subst y4
      have hy5 : y5 = x5 := hb_inj f8 f9
      subst y5
      have hy6 : y6 = x6 := hb_inj f10 f11
      subst y6
      exact k5 M' y7 y8 gs gx gw g8 ge  (by have h1 := f12; have h2 := f13; omega) (by have h1 := f14; omega) (by have h1 := f15; omega)
    rcases List.mem_cons.mp hs with rfl | hs
    · intro ρ1 L' st' M' g1 g2 gm gr gf gs gx gw g8 ge
      obtain ⟨e0, L1, rfl, n0, gg0⟩ := hb_l1 mz_GG g1
      obtain rfl : e0 = 234 := List.mem_singleton.mp n0
      obtain ⟨y1, L1, rfl, qr71, gg1⟩ := hb_l0 mz_GG gg0
      have r71 : ρ1 71 = y1.toInt := qr71
      obtain ⟨y2, L1, rfl, qr72, gg2⟩ := hb_l0 mz_GG gg1
      have r72 : ρ1 72 = y2.toInt := qr72
      obtain ⟨y3, L1, rfl, qr73, gg3⟩ := hb_l0 mz_GG gg2
      have r73 : ρ1 73 = y3.toInt := qr73
      obtain ⟨y4, L1, rfl, qr74, gg4⟩ := hb_l0 mz_GG gg3
      have r74 : ρ1 74 = y4.toInt := qr74
      obtain ⟨y5, L1, rfl, qr75, gg5⟩ := hb_l0 mz_GG gg4
      have r75 : ρ1 75 = y5.toInt := qr75
      obtain ⟨y6, L1, rfl, qr76, gg6⟩ := hb_l0 mz_GG gg5
      have r76 : ρ1 76 = y6.toInt := qr76
      obtain ⟨y7, L1, rfl, qr77, gg7⟩ := hb_l0 mz_GG gg6
      have r77 : ρ1 77 = y7.toInt := qr77
      obtain ⟨y8, L1, rfl, qr78, gg8⟩ := hb_l0 mz_GG gg7
      have r78 : ρ1 78 = y8.toInt := qr78
      obtain rfl := hb_ln mz_GG gg8
      obtain rfl := hb_pn mz_GG g2
      have r1 : ρ1 1 = x1.toInt := gr 1 (by decide +kernel)
      have r2 : ρ1 2 = x2.toInt := gr 2 (by decide +kernel)
      have r3 : ρ1 3 = x3.toInt := gr 3 (by decide +kernel)
      have r4 : ρ1 4 = x4.toInt := gr 4 (by decide +kernel)
      have r5 : ρ1 5 = x5.toInt := gr 5 (by decide +kernel)
      have r6 : ρ1 6 = x6.toInt := gr 6 (by decide +kernel)
      obtain ⟨f0, gf⟩ := hb_unc gf
      have f0 : 0 ≤ 0 + ((-1) * ρ1 1 + (1 * ρ1 71 + 0)) := f0
      rw [r1, r71] at f0
      obtain ⟨f1, gf⟩ := hb_unc gf
      have f1 : 0 ≤ 0 + (1 * ρ1 1 + ((-1) * ρ1 71 + 0)) := f1
      rw [r1, r71] at f1
      obtain ⟨f2, gf⟩ := hb_unc gf
      have f2 : 0 ≤ 0 + ((-1) * ρ1 2 + (1 * ρ1 72 + 0)) := f2
      rw [r2, r72] at f2
      obtain ⟨f3, gf⟩ := hb_unc gf
      have f3 : 0 ≤ 0 + (1 * ρ1 2 + ((-1) * ρ1 72 + 0)) := f3
      rw [r2, r72] at f3
      obtain ⟨f4, gf⟩ := hb_unc gf
      have f4 : 0 ≤ 0 + ((-1) * ρ1 3 + (1 * ρ1 73 + 0)) := f4
      rw [r3, r73] at f4
      obtain ⟨f5, gf⟩ := hb_unc gf
      have f5 : 0 ≤ 0 + (1 * ρ1 3 + ((-1) * ρ1 73 + 0)) := f5
      rw [r3, r73] at f5
      obtain ⟨f6, gf⟩ := hb_unc gf
      have f6 : 0 ≤ 0 + ((-1) * ρ1 4 + (1 * ρ1 74 + 0)) := f6
      rw [r4, r74] at f6
      obtain ⟨f7, gf⟩ := hb_unc gf
      have f7 : 0 ≤ 0 + (1 * ρ1 4 + ((-1) * ρ1 74 + 0)) := f7
      rw [r4, r74] at f7
      obtain ⟨f8, gf⟩ := hb_unc gf
      have f8 : 0 ≤ 0 + ((-1) * ρ1 5 + (1 * ρ1 75 + 0)) := f8
      rw [r5, r75] at f8
      obtain ⟨f9, gf⟩ := hb_unc gf
      have f9 : 0 ≤ 0 + (1 * ρ1 5 + ((-1) * ρ1 75 + 0)) := f9
      rw [r5, r75] at f9
      obtain ⟨f10, gf⟩ := hb_unc gf
      have f10 : 0 ≤ 0 + ((-1) * ρ1 6 + (1 * ρ1 76 + 0)) := f10
      rw [r6, r76] at f10
      obtain ⟨f11, gf⟩ := hb_unc gf
      have f11 : 0 ≤ 0 + (1 * ρ1 6 + ((-1) * ρ1 76 + 0)) := f11
      rw [r6, r76] at f11
      obtain ⟨f12, gf⟩ := hb_unc gf
      have f12 : 0 ≤ 0 + (1 * ρ1 78 + 0) := f12
      rw [r78] at f12
      obtain ⟨f13, gf⟩ := hb_unc gf
      have f13 : 0 ≤ 0 + ((-1) * ρ1 78 + 0) := f13
      rw [r78] at f13
      obtain ⟨f14, gf⟩ := hb_unc gf
      have f14 : 0 ≤ 255 + ((-1) * ρ1 77 + 0) := f14
      rw [r77] at f14
      obtain ⟨f15, gf⟩ := hb_unc gf
      have f15 : 0 ≤ 0 + (1 * ρ1 77 + 0) := f15
      rw [r77] at f15
      obtain ⟨f16, gf⟩ := hb_unc gf
      have f16 : 0 ≤ 0 + (1 * ρ1 4 + 0) := f16
      rw [r4] at f16
      obtain ⟨f17, gf⟩ := hb_unc gf
      have f17 : 0 ≤ 0 + ((-1) * ρ1 4 + 0) := f17
      rw [r4] at f17
      have hy1 : y1 = x1 := hb_inj f0 f1
      subst y1
      have hy2 : y2 = x2 := hb_inj f2 f3
      subst y2
      have hy3 : y3 = x3 := hb_inj f4 f5
      subst y3
      have hy4 : y4 = x4 := hb_inj f6 f7
      subst y4
      have hy5 : y5 = x5 := hb_inj f8 f9
      subst y5
      have hy6 : y6 = x6 := hb_inj f10 f11
      subst y6
      exact k6 M' y7 y8 gs gx gw g8 ge  (by have h1 := f12; have h2 := f13; omega) (by have h1 := f14; omega) (by have h1 := f15; omega) (by have h1 := f16; omega) (by have h1 := f17; omega)
    rcases List.mem_cons.mp hs with rfl | hs
    · intro ρ1 L' st' M' g1 g2 gm gr gf gs gx gw g8 ge
      obtain ⟨e0, L1, rfl, n0, gg0⟩ := hb_l1 mz_GG g1
      obtain rfl : e0 = 234 := List.mem_singleton.mp n0
      obtain ⟨y1, L1, rfl, qr71, gg1⟩ := hb_l0 mz_GG gg0
      have r71 : ρ1 71 = y1.toInt := qr71
      obtain ⟨y2, L1, rfl, qr72, gg2⟩ := hb_l0 mz_GG gg1
      have r72 : ρ1 72 = y2.toInt := qr72
      obtain ⟨y3, L1, rfl, qr73, gg3⟩ := hb_l0 mz_GG gg2
      have r73 : ρ1 73 = y3.toInt := qr73
      obtain ⟨y4, L1, rfl, qr74, gg4⟩ := hb_l0 mz_GG gg3
      have r74 : ρ1 74 = y4.toInt := qr74
      obtain ⟨y5, L1, rfl, qr75, gg5⟩ := hb_l0 mz_GG gg4
      have r75 : ρ1 75 = y5.toInt := qr75
      obtain ⟨y6, L1, rfl, qr76, gg6⟩ := hb_l0 mz_GG gg5
      have r76 : ρ1 76 = y6.toInt := qr76
      obtain ⟨y7, L1, rfl, qr77, gg7⟩ := hb_l0 mz_GG gg6
      have r77 : ρ1 77 = y7.toInt := qr77
      obtain ⟨y8, L1, rfl, qr78, gg8⟩ := hb_l0 mz_GG gg7
      have r78 : ρ1 78 = y8.toInt := qr78
      obtain rfl := hb_ln mz_GG gg8
      obtain rfl := hb_pn mz_GG g2
      have r1 : ρ1 1 = x1.toInt := gr 1 (by decide +kernel)
      have r2 : ρ1 2 = x2.toInt := gr 2 (by decide +kernel)
      have r3 : ρ1 3 = x3.toInt := gr 3 (by decide +kernel)
      have r4 : ρ1 4 = x4.toInt := gr 4 (by decide +kernel)
      have r5 : ρ1 5 = x5.toInt := gr 5 (by decide +kernel)
      have r6 : ρ1 6 = x6.toInt := gr 6 (by decide +kernel)
      obtain ⟨f0, gf⟩ := hb_unc gf
      have f0 : 0 ≤ 0 + ((-1) * ρ1 1 + (1 * ρ1 71 + 0)) := f0
      rw [r1, r71] at f0
      obtain ⟨f1, gf⟩ := hb_unc gf
      have f1 : 0 ≤ 0 + (1 * ρ1 1 + ((-1) * ρ1 71 + 0)) := f1
      rw [r1, r71] at f1
      obtain ⟨f2, gf⟩ := hb_unc gf
      have f2 : 0 ≤ 0 + ((-1) * ρ1 2 + (1 * ρ1 72 + 0)) := f2
      rw [r2, r72] at f2
      obtain ⟨f3, gf⟩ := hb_unc gf
      have f3 : 0 ≤ 0 + (1 * ρ1 2 + ((-1) * ρ1 72 + 0)) := f3
      rw [r2, r72] at f3
      obtain ⟨f4, gf⟩ := hb_unc gf
      have f4 : 0 ≤ 0 + ((-1) * ρ1 3 + (1 * ρ1 73 + 0)) := f4
      rw [r3, r73] at f4
      obtain ⟨f5, gf⟩ := hb_unc gf
      have f5 : 0 ≤ 0 + (1 * ρ1 3 + ((-1) * ρ1 73 + 0)) := f5
      rw [r3, r73] at f5
      obtain ⟨f6, gf⟩ := hb_unc gf
      have f6 : 0 ≤ 0 + ((-1) * ρ1 4 + (1 * ρ1 74 + 0)) := f6
      rw [r4, r74] at f6
      obtain ⟨f7, gf⟩ := hb_unc gf
      have f7 : 0 ≤ 0 + (1 * ρ1 4 + ((-1) * ρ1 74 + 0)) := f7
      rw [r4, r74] at f7
      obtain ⟨f8, gf⟩ := hb_unc gf
      have f8 : 0 ≤ 0 + ((-1) * ρ1 5 + (1 * ρ1 75 + 0)) := f8
      rw [r5, r75] at f8
      obtain ⟨f9, gf⟩ := hb_unc gf
      have f9 : 0 ≤ 0 + (1 * ρ1 5 + ((-1) * ρ1 75 + 0)) := f9
      rw [r5, r75] at f9
      obtain ⟨f10, gf⟩ := hb_unc gf
      have f10 : 0 ≤ 0 + ((-1) * ρ1 6 + (1 * ρ1 76 + 0)) := f10
      rw [r6, r76] at f10
      obtain ⟨f11, gf⟩ := hb_unc gf
      have f11 : 0 ≤ 0 + (1 * ρ1 6 + ((-1) * ρ1 76 + 0)) := f11
      rw [r6, r76] at f11
      obtain ⟨f12, gf⟩ := hb_unc gf
      have f12 : 0 ≤ 0 + (1 * ρ1 78 + 0) := f12
      rw [r78] at f12
      obtain ⟨f13, gf⟩ := hb_unc gf
      have f13 : 0 ≤ 0 + ((-1) * ρ1 78 + 0) := f13
      rw [r78] at f13
      obtain ⟨f14, gf⟩ := hb_unc gf
      have f14 : 0 ≤ 255 + ((-1) * ρ1 77 + 0) := f14
      rw [r77] at f14
      obtain ⟨f15, gf⟩ := hb_unc gf
      have f15 : 0 ≤ 0 + (1 * ρ1 77 + 0) := f15
      rw [r77] at f15
      obtain ⟨f16, gf⟩ := hb_unc gf
      have f16 : 0 ≤ 0 + (1 * ρ1 4 + 0) := f16
      rw [r4] at f16
      obtain ⟨f17, gf⟩ := hb_unc gf
      have f17 : 0 ≤ 0 + ((-1) * ρ1 4 + 0) := f17
      rw [r4] at f17
      have hy1 : y1 = x1 := hb_inj f0 f1
      subst y1
      have hy2 : y2 = x2 := hb_inj f2 f3
      subst y2
      have hy3 : y3 = x3 := hb_inj f4 f5
      subst y3
      have hy4 : y4 = x4 := hb_inj f6 f7
      subst y4
      have hy5 : y5 = x5 := hb_inj f8 f9
      subst y5
      have hy6 : y6 = x6 := hb_inj f10 f11
      subst y6
      exact k7 M' y7 y8 gs gx gw g8 ge  (by have h1 := f12; have h2 := f13; omega) (by have h1 := f14; omega) (by have h1 := f15; omega) (by have h1 := f16; omega) (by have h1 := f17; omega)
    rcases List.mem_cons.mp hs with rfl | hs
    · intro ρ1 L' st' M' g1 g2 gm gr gf gs gx gw g8 ge
      obtain ⟨e0, L1, rfl, n0, gg0⟩ := hb_l1 mz_GG g1
      obtain rfl : e0 = 234 := List.mem_singleton.mp n0
      obtain ⟨y1, L1, rfl, qr71, gg1⟩ := hb_l0 mz_GG gg0
      have r71 : ρ1 71 = y1.toInt := qr71
      obtain ⟨y2, L1, rfl, qr72, gg2⟩ := hb_l0 mz_GG gg1
      have r72 : ρ1 72 = y2.toInt := qr72
      obtain ⟨y3, L1, rfl, qr73, gg3⟩ := hb_l0 mz_GG gg2
      have r73 : ρ1 73 = y3.toInt := qr73
      obtain ⟨y4, L1, rfl, qr74, gg4⟩ := hb_l0 mz_GG gg3
      have r74 : ρ1 74 = y4.toInt := qr74
      obtain ⟨y5, L1, rfl, qr75, gg5⟩ := hb_l0 mz_GG gg4
      have r75 : ρ1 75 = y5.toInt := qr75
      obtain ⟨y6, L1, rfl, qr76, gg6⟩ := hb_l0 mz_GG gg5
      have r76 : ρ1 76 = y6.toInt := qr76
      obtain ⟨y7, L1, rfl, qr77, gg7⟩ := hb_l0 mz_GG gg6
      have r77 : ρ1 77 = y7.toInt := qr77
      obtain ⟨y8, L1, rfl, qr78, gg8⟩ := hb_l0 mz_GG gg7
      have r78 : ρ1 78 = y8.toInt := qr78
      obtain rfl := hb_ln mz_GG gg8
      obtain rfl := hb_pn mz_GG g2
      have r1 : ρ1 1 = x1.toInt := gr 1 (by decide +kernel)
      have r2 : ρ1 2 = x2.toInt := gr 2 (by decide +kernel)
      have r3 : ρ1 3 = x3.toInt := gr 3 (by decide +kernel)
      have r4 : ρ1 4 = x4.toInt := gr 4 (by decide +kernel)
      have r5 : ρ1 5 = x5.toInt := gr 5 (by decide +kernel)
      have r6 : ρ1 6 = x6.toInt := gr 6 (by decide +kernel)
      obtain ⟨f0, gf⟩ := hb_unc gf
      have f0 : 0 ≤ 0 + ((-1) * ρ1 1 + (1 * ρ1 71 + 0)) := f0
      rw [r1, r71] at f0
      obtain ⟨f1, gf⟩ := hb_unc gf
      have f1 : 0 ≤ 0 + (1 * ρ1 1 + ((-1) * ρ1 71 + 0)) := f1
      rw [r1, r71] at f1
      obtain ⟨f2, gf⟩ := hb_unc gf
      have f2 : 0 ≤ 0 + ((-1) * ρ1 2 + (1 * ρ1 72 + 0)) := f2
      rw [r2, r72] at f2
      obtain ⟨f3, gf⟩ := hb_unc gf
      have f3 : 0 ≤ 0 + (1 * ρ1 2 + ((-1) * ρ1 72 + 0)) := f3
      rw [r2, r72] at f3
      obtain ⟨f4, gf⟩ := hb_unc gf
      have f4 : 0 ≤ 0 + ((-1) * ρ1 3 + (1 * ρ1 73 + 0)) := f4
      rw [r3, r73] at f4
      obtain ⟨f5, gf⟩ := hb_unc gf
      have f5 : 0 ≤ 0 + (1 * ρ1 3 + ((-1) * ρ1 73 + 0)) := f5
      rw [r3, r73] at f5
      obtain ⟨f6, gf⟩ := hb_unc gf
      have f6 : 0 ≤ 0 + ((-1) * ρ1 4 + (1 * ρ1 74 + 0)) := f6
      rw [r4, r74] at f6
      obtain ⟨f7, gf⟩ := hb_unc gf
      have f7 : 0 ≤ 0 + (1 * ρ1 4 + ((-1) * ρ1 74 + 0)) := f7
      rw [r4, r74] at f7
      obtain ⟨f8, gf⟩ := hb_unc gf
      have f8 : 0 ≤ 0 + ((-1) * ρ1 5 + (1 * ρ1 75 + 0)) := f8
      rw [r5, r75] at f8
      obtain ⟨f9, gf⟩ := hb_unc gf
      have f9 : 0 ≤ 0 + (1 * ρ1 5 + ((-1) * ρ1 75 + 0)) := f9
      rw [r5, r75] at f9
      obtain ⟨f10, gf⟩ := hb_unc gf
      have f10 : 0 ≤ 0 + ((-1) * ρ1 6 + (1 * ρ1 76 + 0)) := f10
      rw [r6, r76] at f10
      obtain ⟨f11, gf⟩ := hb_unc gf
      have f11 : 0 ≤ 0 + (1 * ρ1 6 + ((-1) * ρ1 76 + 0)) := f11
      rw [r6, r76] at f11
      obtain ⟨f12, gf⟩ := hb_unc gf
      have f12 : 0 ≤ 0 + (1 * ρ1 78 + 0) := f12
      rw [r78] at f12
      obtain ⟨f13, gf⟩ := hb_unc gf
      have f13 : 0 ≤ 0 + ((-1) * ρ1 78 + 0) := f13
      rw [r78] at f13
      obtain ⟨f14, gf⟩ := hb_unc gf
      have f14 : 0 ≤ 255 + ((-1) * ρ1 77 + 0) := f14
      rw [r77] at f14
      obtain ⟨f15, gf⟩ := hb_unc gf
      have f15 : 0 ≤ 0 + (1 * ρ1 77 + 0) := f15
      rw [r77] at f15
      have hy1 : y1 = x1 := hb_inj f0 f1
      subst y1
      have hy2 : y2 = x2 := hb_inj f2 f3
      subst y2
      have hy3 : y3 = x3 := hb_inj f4 f5
      subst y3
      have hy4 : y4 = x4 := hb_inj f6 f7
      subst y4
      have hy5 : y5 = x5 := hb_inj f8 f9
      subst y5
      have hy6 : y6 = x6 := hb_inj f10 f11
      subst y6
      exact k8 M' y7 y8 gs gx gw g8 ge  (by have h1 := f12; have h2 := f13; omega) (by have h1 := f14; omega) (by have h1 := f15; omega)
    rcases List.mem_cons.mp hs with rfl | hs
    · intro ρ1 L' st' M' g1 g2 gm gr gf gs gx gw g8 ge
      obtain ⟨e0, L1, rfl, n0, gg0⟩ := hb_l1 mz_GG g1
      obtain rfl : e0 = 234 := List.mem_singleton.mp n0
      obtain ⟨y1, L1, rfl, qr71, gg1⟩ := hb_l0 mz_GG gg0
      have r71 : ρ1 71 = y1.toInt := qr71
      obtain ⟨y2, L1, rfl, qr72, gg2⟩ := hb_l0 mz_GG gg1
      have r72 : ρ1 72 = y2.toInt := qr72
      obtain ⟨y3, L1, rfl, qr73, gg3⟩ := hb_l0 mz_GG gg2
      have r73 : ρ1 73 = y3.toInt := qr73
      obtain ⟨y4, L1, rfl, qr74, gg4⟩ := hb_l0 mz_GG gg3
      have r74 : ρ1 74 = y4.toInt := qr74
      obtain ⟨y5, L1, rfl, qr75, gg5⟩ := hb_l0 mz_GG gg4
      have r75 : ρ1 75 = y5.toInt := qr75
      obtain ⟨y6, L1, rfl, qr76, gg6⟩ := hb_l0 mz_GG gg5
      have r76 : ρ1 76 = y6.toInt := qr76
      obtain ⟨y7, L1, rfl, qr77, gg7⟩ := hb_l0 mz_GG gg6
      have r77 : ρ1 77 = y7.toInt := qr77
      obtain ⟨y8, L1, rfl, qr78, gg8⟩ := hb_l0 mz_GG gg7
      have r78 : ρ1 78 = y8.toInt := qr78
      obtain rfl := hb_ln mz_GG gg8
      obtain rfl := hb_pn mz_GG g2
      have r1 : ρ1 1 = x1.toInt := gr 1 (by decide +kernel)
      have r2 : ρ1 2 = x2.toInt := gr 2 (by decide +kernel)
      have r3 : ρ1 3 = x3.toInt := gr 3 (by decide +kernel)
      have r4 : ρ1 4 = x4.toInt := gr 4 (by decide +kernel)
      have r5 : ρ1 5 = x5.toInt := gr 5 (by decide +kernel)
      have r6 : ρ1 6 = x6.toInt := gr 6 (by decide +kernel)
      obtain ⟨f0, gf⟩ := hb_unc gf
      have f0 : 0 ≤ 0 + ((-1) * ρ1 1 + (1 * ρ1 71 + 0)) := f0
      rw [r1, r71] at f0
      obtain ⟨f1, gf⟩ := hb_unc gf
      have f1 : 0 ≤ 0 + (1 * ρ1 1 + ((-1) * ρ1 71 + 0)) := f1
      rw [r1, r71] at f1
      obtain ⟨f2, gf⟩ := hb_unc gf
      have f2 : 0 ≤ 0 + ((-1) * ρ1 2 + (1 * ρ1 72 + 0)) := f2
      rw [r2, r72] at f2
      obtain ⟨f3, gf⟩ := hb_unc gf
      have f3 : 0 ≤ 0 + (1 * ρ1 2 + ((-1) * ρ1 72 + 0)) := f3
      rw [r2, r72] at f3
      obtain ⟨f4, gf⟩ := hb_unc gf
      have f4 : 0 ≤ 0 + ((-1) * ρ1 3 + (1 * ρ1 73 + 0)) := f4
      rw [r3, r73] at f4
      obtain ⟨f5, gf⟩ := hb_unc gf
      have f5 : 0 ≤ 0 + (1 * ρ1 3 + ((-1) * ρ1 73 + 0)) := f5
      rw [r3, r73] at f5
      obtain ⟨f6, gf⟩ := hb_unc gf
      have f6 : 0 ≤ 0 + ((-1) * ρ1 4 + (1 * ρ1 74 + 0)) := f6
      rw [r4, r74] at f6
      obtain ⟨f7, gf⟩ := hb_unc gf
      have f7 : 0 ≤ 0 + (1 * ρ1 4 + ((-1) * ρ1 74 + 0)) := f7
      rw [r4, r74] at f7
      obtain ⟨f8, gf⟩ := hb_unc gf
      have f8 : 0 ≤ 0 + ((-1) * ρ1 5 + (1 * ρ1 75 + 0)) := f8
      rw [r5, r75] at f8
      obtain ⟨f9, gf⟩ := hb_unc gf
      have f9 : 0 ≤ 0 + (1 * ρ1 5 + ((-1) * ρ1 75 + 0)) := f9
      rw [r5, r75] at f9
      obtain ⟨f10, gf⟩ := hb_unc gf
      have f10 : 0 ≤ 0 + ((-1) * ρ1 6 + (1 * ρ1 76 + 0)) := f10
      rw [r6, r76] at f10
      obtain ⟨f11, gf⟩ := hb_unc gf
      have f11 : 0 ≤ 0 + (1 * ρ1 6 + ((-1) * ρ1 76 + 0)) := f11
      rw [r6, r76] at f11
      obtain ⟨f12, gf⟩ := hb_unc gf
      have f12 : 0 ≤ 0 + (1 * ρ1 78 + 0) := f12
      rw [r78] at f12
      obtain ⟨f13, gf⟩ := hb_unc gf
      have f13 : 0 ≤ 0 + ((-1) * ρ1 78 + 0) := f13
      rw [r78] at f13
      obtain ⟨f14, gf⟩ := hb_unc gf
      have f14 : 0 ≤ 255 + ((-1) * ρ1 77 + 0) := f14
      rw [r77] at f14
      obtain ⟨f15, gf⟩ := hb_unc gf
      have f15 : 0 ≤ 0 + (1 * ρ1 77 + 0) := f15
      rw [r77] at f15
      have hy1 : y1 = x1 := hb_inj f0 f1
      subst y1
      have hy2 : y2 = x2 := hb_inj f2 f3
      subst y2
      have hy3 : y3 = x3 := hb_inj f4 f5
      subst y3
      have hy4 : y4 = x4 := hb_inj f6 f7
      subst y4
      have hy5 : y5 = x5 := hb_inj f8 f9
      subst y5
      have hy6 : y6 = x6 := hb_inj f10 f11
      subst y6
      exact k9 M' y7 y8 gs gx gw g8 ge  (by have h1 := f12; have h2 := f13; omega) (by have h1 := f14; omega) (by have h1 := f15; omega)
    rcases List.mem_cons.mp hs with rfl | hs
    · intro ρ1 L' st' M' g1 g2 gm gr gf gs gx gw g8 ge
      obtain ⟨e0, L1, rfl, n0, gg0⟩ := hb_l1 mz_GG g1
      obtain rfl : e0 = 234 := List.mem_singleton.mp n0
      obtain ⟨y1, L1, rfl, qr71, gg1⟩ := hb_l0 mz_GG gg0
      have r71 : ρ1 71 = y1.toInt := qr71
      obtain ⟨y2, L1, rfl, qr72, gg2⟩ := hb_l0 mz_GG gg1
      have r72 : ρ1 72 = y2.toInt := qr72
      obtain ⟨y3, L1, rfl, qr73, gg3⟩ := hb_l0 mz_GG gg2
      have r73 : ρ1 73 = y3.toInt := qr73
      obtain ⟨y4, L1, rfl, qr74, gg4⟩ := hb_l0 mz_GG gg3
      have r74 : ρ1 74 = y4.toInt := qr74
      obtain ⟨y5, L1, rfl, qr75, gg5⟩ := hb_l0 mz_GG gg4
      have r75 : ρ1 75 = y5.toInt := qr75
      obtain ⟨y6, L1, rfl, qr76, gg6⟩ := hb_l0 mz_GG gg5
      have r76 : ρ1 76 = y6.toInt := qr76
      obtain ⟨y7, L1, rfl, qr77, gg7⟩ := hb_l0 mz_GG gg6
      have r77 : ρ1 77 = y7.toInt := qr77
      obtain ⟨y8, L1, rfl, qr78, gg8⟩ := hb_l0 mz_GG gg7
      have r78 : ρ1 78 = y8.toInt := qr78
      obtain rfl := hb_ln mz_GG gg8
      obtain rfl := hb_pn mz_GG g2
      have r1 : ρ1 1 = x1.toInt := gr 1 (by decide +kernel)
      have r2 : ρ1 2 = x2.toInt := gr 2 (by decide +kernel)
      have r3 : ρ1 3 = x3.toInt := gr 3 (by decide +kernel)
      have r4 : ρ1 4 = x4.toInt := gr 4 (by decide +kernel)
      have r5 : ρ1 5 = x5.toInt := gr 5 (by decide +kernel)
      have r6 : ρ1 6 = x6.toInt := gr 6 (by decide +kernel)
      obtain ⟨f0, gf⟩ := hb_unc gf
      have f0 : 0 ≤ 0 + ((-1) * ρ1 1 + (1 * ρ1 71 + 0)) := f0
      rw [r1, r71] at f0
      obtain ⟨f1, gf⟩ := hb_unc gf
      have f1 : 0 ≤ 0 + (1 * ρ1 1 + ((-1) * ρ1 71 + 0)) := f1
      rw [r1, r71] at f1
      obtain ⟨f2, gf⟩ := hb_unc gf
      have f2 : 0 ≤ 0 + ((-1) * ρ1 2 + (1 * ρ1 72 + 0)) := f2
      rw [r2, r72] at f2
      obtain ⟨f3, gf⟩ := hb_unc gf
      have f3 : 0 ≤ 0 + (1 * ρ1 2 + ((-1) * ρ1 72 + 0)) := f3
      rw [r2, r72] at f3
      obtain ⟨f4, gf⟩ := hb_unc gf
      have f4 : 0 ≤ 0 + ((-1) * ρ1 3 + (1 * ρ1 73 + 0)) := f4
      rw [r3, r73] at f4
      obtain ⟨f5, gf⟩ := hb_unc gf
      have f5 : 0 ≤ 0 + (1 * ρ1 3 + ((-1) * ρ1 73 + 0)) := f5
      rw [r3, r73] at f5
      obtain ⟨f6, gf⟩ := hb_unc gf
      have f6 : 0 ≤ 0 + ((-1) * ρ1 4 + (1 * ρ1 74 + 0)) := f6
      rw [r4, r74] at f6
      obtain ⟨f7, gf⟩ := hb_unc gf
      have f7 : 0 ≤ 0 + (1 * ρ1 4 + ((-1) * ρ1 74 + 0)) := f7
      rw [r4, r74] at f7
      obtain ⟨f8, gf⟩ := hb_unc gf
      have f8 : 0 ≤ 0 + ((-1) * ρ1 5 + (1 * ρ1 75 + 0)) := f8
      rw [r5, r75] at f8
      obtain ⟨f9, gf⟩ := hb_unc gf
      have f9 : 0 ≤ 0 + (1 * ρ1 5 + ((-1) * ρ1 75 + 0)) := f9
      rw [r5, r75] at f9
      obtain ⟨f10, gf⟩ := hb_unc gf
      have f10 : 0 ≤ 0 + ((-1) * ρ1 6 + (1 * ρ1 76 + 0)) := f10
      rw [r6, r76] at f10
      obtain ⟨f11, gf⟩ := hb_unc gf
      have f11 : 0 ≤ 0 + (1 * ρ1 6 + ((-1) * ρ1 76 + 0)) := f11
      rw [r6, r76] at f11
      obtain ⟨f12, gf⟩ := hb_unc gf
      have f12 : 0 ≤ 0 + (1 * ρ1 78 + 0) := f12
      rw [r78] at f12
      obtain ⟨f13, gf⟩ := hb_unc gf
      have f13 : 0 ≤ 0 + ((-1) * ρ1 78 + 0) := f13
      rw [r78] at f13
      obtain ⟨f14, gf⟩ := hb_unc gf
      have f14 : 0 ≤ 255 + ((-1) * ρ1 77 + 0) := f14
      rw [r77] at f14
      obtain ⟨f15, gf⟩ := hb_unc gf
      have f15 : 0 ≤ 0 + (1 * ρ1 77 + 0) := f15
      rw [r77] at f15
      obtain ⟨f16, gf⟩ := hb_unc gf
      have f16 : 0 ≤ 0 + (1 * ρ1 4 + 0) := f16
      rw [r4] at f16
      obtain ⟨f17, gf⟩ := hb_unc gf
      have f17 : 0 ≤ 0 + ((-1) * ρ1 4 + 0) := f17
      rw [r4] at f17
      have hy1 : y1 = x1 := hb_inj f0 f1
      subst y1
      have hy2 : y2 = x2 := hb_inj f2 f3
      subst y2
      have hy3 : y3 = x3 := hb_inj f4 f5
      subst y3
      have hy4 : y4 = x4 := hb_inj f6 f7
      subst y4
      have hy5 : y5 = x5 := hb_inj f8 f9
      subst y5
      have hy6 : y6 = x6 := hb_inj f10 f11
      subst y6
      exact k10 M' y7 y8 gs gx gw g8 ge  (by have h1 := f12; have h2 := f13; omega) (by have h1 := f14; omega) (by have h1 := f15; omega) (by have h1 := f16; omega) (by have h1 := f17; omega)
    rcases List.mem_cons.mp hs with rfl | hs
    · intro ρ1 L' st' M' g1 g2 gm gr gf gs gx gw g8 ge
      obtain ⟨e0, L1, rfl, n0, gg0⟩ := hb_l1 mz_GG g1
      obtain rfl : e0 = 234 := List.mem_singleton.mp n0
      obtain ⟨y1, L1, rfl, qr71, gg1⟩ := hb_l0 mz_GG gg0
      have r71 : ρ1 71 = y1.toInt := qr71
      obtain ⟨y2, L1, rfl, qr72, gg2⟩ := hb_l0 mz_GG gg1
      have r72 : ρ1 72 = y2.toInt := qr72
      obtain ⟨y3, L1, rfl, qr73, gg3⟩ := hb_l0 mz_GG gg2
      have r73 : ρ1 73 = y3.toInt := qr73
      obtain ⟨y4, L1, rfl, qr74, gg4⟩ := hb_l0 mz_GG gg3
      have r74 : ρ1 74 = y4.toInt := qr74
      obtain ⟨y5, L1, rfl, qr75, gg5⟩ := hb_l0 mz_GG gg4
      have r75 : ρ1 75 = y5.toInt := qr75
      obtain ⟨y6, L1, rfl, qr76, gg6⟩ := hb_l0 mz_GG gg5
      have r76 : ρ1 76 = y6.toInt := qr76
      obtain ⟨y7, L1, rfl, qr77, gg7⟩ := hb_l0 mz_GG gg6
      have r77 : ρ1 77 = y7.toInt := qr77
      obtain ⟨y8, L1, rfl, qr78, gg8⟩ := hb_l0 mz_GG gg7
      have r78 : ρ1 78 = y8.toInt := qr78
      obtain rfl := hb_ln mz_GG gg8
      obtain rfl := hb_pn mz_GG g2
      have r1 : ρ1 1 = x1.toInt := gr 1 (by decide +kernel)
      have r2 : ρ1 2 = x2.toInt := gr 2 (by decide +kernel)
      have r3 : ρ1 3 = x3.toInt := gr 3 (by decide +kernel)
      have r4 : ρ1 4 = x4.toInt := gr 4 (by decide +kernel)
      have r5 : ρ1 5 = x5.toInt := gr 5 (by decide +kernel)
      have r6 : ρ1 6 = x6.toInt := gr 6 (by decide +kernel)
      obtain ⟨f0, gf⟩ := hb_unc gf
      have f0 : 0 ≤ 0 + ((-1) * ρ1 1 + (1 * ρ1 71 + 0)) := f0
      rw [r1, r71] at f0
      obtain ⟨f1, gf⟩ := hb_unc gf
      have f1 : 0 ≤ 0 + (1 * ρ1 1 + ((-1) * ρ1 71 + 0)) := f1
      rw [r1, r71] at f1
      obtain ⟨f2, gf⟩ := hb_unc gf
      have f2 : 0 ≤ 0 + ((-1) * ρ1 2 + (1 * ρ1 72 + 0)) := f2
      rw [r2, r72] at f2
      obtain ⟨f3, gf⟩ := hb_unc gf
      have f3 : 0 ≤ 0 + (1 * ρ1 2 + ((-1) * ρ1 72 + 0)) := f3
      rw [r2, r72] at f3
      obtain ⟨f4, gf⟩ := hb_unc gf
      have f4 : 0 ≤ 0 + ((-1) * ρ1 3 + (1 * ρ1 73 + 0)) := f4
      rw [r3, r73] at f4
      obtain ⟨f5, gf⟩ := hb_unc gf
      have f5 : 0 ≤ 0 + (1 * ρ1 3 + ((-1) * ρ1 73 + 0)) := f5
      rw [r3, r73] at f5
      obtain ⟨f6, gf⟩ := hb_unc gf
      have f6 : 0 ≤ 0 + ((-1) * ρ1 4 + (1 * ρ1 74 + 0)) := f6
      rw [r4, r74] at f6
      obtain ⟨f7, gf⟩ := hb_unc gf
      have f7 : 0 ≤ 0 + (1 * ρ1 4 + ((-1) * ρ1 74 + 0)) := f7
      rw [r4, r74] at f7
      obtain ⟨f8, gf⟩ := hb_unc gf
      have f8 : 0 ≤ 0 + ((-1) * ρ1 5 + (1 * ρ1 75 + 0)) := f8
      rw [r5, r75] at f8
      obtain ⟨f9, gf⟩ := hb_unc gf
      have f9 : 0 ≤ 0 + (1 * ρ1 5 + ((-1) * ρ1 75 + 0)) := f9
      rw [r5, r75] at f9
      obtain ⟨f10, gf⟩ := hb_unc gf
      have f10 : 0 ≤ 0 + ((-1) * ρ1 6 + (1 * ρ1 76 + 0)) := f10
      rw [r6, r76] at f10
      obtain ⟨f11, gf⟩ := hb_unc gf
      have f11 : 0 ≤ 0 + (1 * ρ1 6 + ((-1) * ρ1 76 + 0)) := f11
      rw [r6, r76] at f11
      obtain ⟨f12, gf⟩ := hb_unc gf
      have f12 : 0 ≤ 0 + (1 * ρ1 78 + 0) := f12
      rw [r78] at f12
      obtain ⟨f13, gf⟩ := hb_unc gf
      have f13 : 0 ≤ 0 + ((-1) * ρ1 78 + 0) := f13
      rw [r78] at f13
      obtain ⟨f14, gf⟩ := hb_unc gf
      have f14 : 0 ≤ 255 + ((-1) * ρ1 77 + 0) := f14
      rw [r77] at f14
      obtain ⟨f15, gf⟩ := hb_unc gf
      have f15 : 0 ≤ 0 + (1 * ρ1 77 + 0) := f15
      rw [r77] at f15
      obtain ⟨f16, gf⟩ := hb_unc gf
      have f16 : 0 ≤ 0 + (1 * ρ1 4 + 0) := f16
      rw [r4] at f16
      obtain ⟨f17, gf⟩ := hb_unc gf
      have f17 : 0 ≤ 0 + ((-1) * ρ1 4 + 0) := f17
      rw [r4] at f17
      have hy1 : y1 = x1 := hb_inj f0 f1
      subst y1
      have hy2 : y2 = x2 := hb_inj f2 f3
      subst y2
      have hy3 : y3 = x3 := hb_inj f4 f5
      subst y3
      have hy4 : y4 = x4 := hb_inj f6 f7
      subst y4
      have hy5 : y5 = x5 := hb_inj f8 f9
      subst y5
      have hy6 : y6 = x6 := hb_inj f10 f11
      subst y6
      exact k11 M' y7 y8 gs gx gw g8 ge  (by have h1 := f12; have h2 := f13; omega) (by have h1 := f14; omega) (by have h1 := f15; omega) (by have h1 := f16; omega) (by have h1 := f17; omega)
    rcases List.mem_cons.mp hs with rfl | hs
    · intro ρ1 L' st' M' g1 g2 gm gr gf gs gx gw g8 ge
      obtain ⟨e0, L1, rfl, n0, gg0⟩ := hb_l1 mz_GG g1
      obtain rfl : e0 = 234 := List.mem_singleton.mp n0
      obtain ⟨y1, L1, rfl, qr71, gg1⟩ := hb_l0 mz_GG gg0
      have r71 : ρ1 71 = y1.toInt := qr71
      obtain ⟨y2, L1, rfl, qr72, gg2⟩ := hb_l0 mz_GG gg1
      have r72 : ρ1 72 = y2.toInt := qr72
      obtain ⟨y3, L1, rfl, qr73, gg3⟩ := hb_l0 mz_GG gg2
      have r73 : ρ1 73 = y3.toInt := qr73
      obtain ⟨y4, L1, rfl, qr74, gg4⟩ := hb_l0 mz_GG gg3
      have r74 : ρ1 74 = y4.toInt := qr74
      obtain ⟨y5, L1, rfl, qr75, gg5⟩ := hb_l0 mz_GG gg4
      have r75 : ρ1 75 = y5.toInt := qr75
      obtain ⟨y6, L1, rfl, qr76, gg6⟩ := hb_l0 mz_GG gg5
      have r76 : ρ1 76 = y6.toInt := qr76
      obtain ⟨y7, L1, rfl, qr77, gg7⟩ := hb_l0 mz_GG gg6
      have r77 : ρ1 77 = y7.toInt := qr77
      obtain ⟨y8, L1, rfl, qr78, gg8⟩ := hb_l0 mz_GG gg7
      have r78 : ρ1 78 = y8.toInt := qr78
      obtain rfl := hb_ln mz_GG gg8
      obtain rfl := hb_pn mz_GG g2
      have r1 : ρ1 1 = x1.toInt := gr 1 (by decide +kernel)
      have r2 : ρ1 2 = x2.toInt := gr 2 (by decide +kernel)
      have r3 : ρ1 3 = x3.toInt := gr 3 (by decide +kernel)
      have r4 : ρ1 4 = x4.toInt := gr 4 (by decide +kernel)
      have r5 : ρ1 5 = x5.toInt := gr 5 (by decide +kernel)
      have r6 : ρ1 6 = x6.toInt := gr 6 (by decide +kernel)
      obtain ⟨f0, gf⟩ := hb_unc gf
      have f0 : 0 ≤ 0 + ((-1) * ρ1 1 + (1 * ρ1 71 + 0)) := f0
      rw [r1, r71] at f0
      obtain ⟨f1, gf⟩ := hb_unc gf
      have f1 : 0 ≤ 0 + (1 * ρ1 1 + ((-1) * ρ1 71 + 0)) := f1
      rw [r1, r71] at f1
      obtain ⟨f2, gf⟩ := hb_unc gf
      have f2 : 0 ≤ 0 + ((-1) * ρ1 2 + (1 * ρ1 72 + 0)) := f2
      rw [r2, r72] at f2
      obtain ⟨f3, gf⟩ := hb_unc gf
      have f3 : 0 ≤ 0 + (1 * ρ1 2 + ((-1) * ρ1 72 + 0)) := f3
      rw [r2, r72] at f3
      obtain ⟨f4, gf⟩ := hb_unc gf
      have f4 : 0 ≤ 0 + ((-1) * ρ1 3 + (1 * ρ1 73 + 0)) := f4
      rw [r3, r73] at f4
      obtain ⟨f5, gf⟩ := hb_unc gf
      have f5 : 0 ≤ 0 + (1 * ρ1 3 + ((-1) * ρ1 73 + 0)) := f5
      rw [r3, r73] at f5
      obtain ⟨f6, gf⟩ := hb_unc gf
      have f6 : 0 ≤ 0 + ((-1) * ρ1 4 + (1 * ρ1 74 + 0)) := f6
      rw [r4, r74] at f6
      obtain ⟨f7, gf⟩ := hb_unc gf
      have f7 : 0 ≤ 0 + (1 * ρ1 4 + ((-1) * ρ1 74 + 0)) := f7
      rw [r4, r74] at f7
      obtain ⟨f8, gf⟩ := hb_unc gf
      have f8 : 0 ≤ 0 + ((-1) * ρ1 5 + (1 * ρ1 75 + 0)) := f8
      rw [r5, r75] at f8
      obtain ⟨f9, gf⟩ := hb_unc gf
      have f9 : 0 ≤ 0 + (1 * ρ1 5 + ((-1) * ρ1 75 + 0)) := f9
      rw [r5, r75] at f9
      obtain ⟨f10, gf⟩ := hb_unc gf
      have f10 : 0 ≤ 0 + ((-1) * ρ1 6 + (1 * ρ1 76 + 0)) := f10
      rw [r6, r76] at f10
      obtain ⟨f11, gf⟩ := hb_unc gf
      have f11 : 0 ≤ 0 + (1 * ρ1 6 + ((-1) * ρ1 76 + 0)) := f11
      rw [r6, r76] at f11
      obtain ⟨f12, gf⟩ := hb_unc gf
      have f12 : 0 ≤ -1 + (1 * ρ1 78 + 0) := f12
      rw [r78] at f12
      obtain ⟨f13, gf⟩ := hb_unc gf
      have f13 : 0 ≤ 1 + ((-1) * ρ1 78 + 0) := f13
      rw [r78] at f13
      obtain ⟨f14, gf⟩ := hb_unc gf
      have f14 : 0 ≤ 255 + ((-1) * ρ1 77 + 0) := f14
      rw [r77] at f14
      obtain ⟨f15, gf⟩ := hb_unc gf
      have f15 : 0 ≤ 0 + (1 * ρ1 77 + 0) := f15
      rw [r77] at f15
      have hy1 : y1 = x1 := hb_inj f0 f1
      subst y1
      have hy2 : y2 = x2 := hb_inj f2 f3
      subst y2
      have hy3 : y3 = x3 := hb_inj f4 f5
      subst y3
      have hy4 : y4 = x4 := hb_inj f6 f7
      subst y4
      have hy5 : y5 = x5 := hb_inj f8 f9
      subst y5
      have hy6 : y6 = x6 := hb_inj f10 f11
      subst y6
      exact k12 M' y7 y8 gs gx gw g8 ge  (by have h1 := f12; have h2 := f13; omega) (by have h1 := f14; omega) (by have h1 := f15; omega)
    rcases List.mem_cons.mp hs with rfl | hs
    · intro ρ1 L' st' M' g1 g2 gm gr gf gs gx gw g8 ge
      obtain ⟨e0, L1, rfl, n0, gg0⟩ := hb_l1 mz_GG g1
      obtain rfl : e0 = 234 := List.mem_singleton.mp n0
      obtain ⟨y1, L1, rfl, qr71, gg1⟩ := hb_l0 mz_GG gg0
      have r71 : ρ1 71 = y1.toInt := qr71
      obtain ⟨y2, L1, rfl, qr72, gg2⟩ := hb_l0 mz_GG gg1
      have r72 : ρ1 72 = y2.toInt := qr72
      obtain ⟨y3, L1, rfl, qr73, gg3⟩ := hb_l0 mz_GG gg2
      have r73 : ρ1 73 = y3.toInt := qr73
      obtain ⟨y4, L1, rfl, qr74, gg4⟩ := hb_l0 mz_GG gg3
      have r74 : ρ1 74 = y4.toInt := qr74
      obtain ⟨y5, L1, rfl, qr75, gg5⟩ := hb_l0 mz_GG gg4
      have r75 : ρ1 75 = y5.toInt := qr75
      obtain ⟨y6, L1, rfl, qr76, gg6⟩ := hb_l0 mz_GG gg5
      have r76 : ρ1 76 = y6.toInt := qr76
      obtain ⟨y7, L1, rfl, qr77, gg7⟩ := hb_l0 mz_GG gg6
      have r77 : ρ1 77 = y7.toInt := qr77
      obtain ⟨y8, L1, rfl, qr78, gg8⟩ := hb_l0 mz_GG gg7
      have r78 : ρ1 78 = y8.toInt := qr78
      obtain rfl := hb_ln mz_GG gg8
      obtain rfl := hb_pn mz_GG g2
      have r1 : ρ1 1 = x1.toInt := gr 1 (by decide +kernel)
      have r2 : ρ1 2 = x2.toInt := gr 2 (by decide +kernel)
      have r3 : ρ1 3 = x3.toInt := gr 3 (by decide +kernel)
      have r4 : ρ1 4 = x4.toInt := gr 4 (by decide +kernel)
      have r5 : ρ1 5 = x5.toInt := gr 5 (by decide +kernel)
      have r6 : ρ1 6 = x6.toInt := gr 6 (by decide +kernel)
      obtain ⟨f0, gf⟩ := hb_unc gf
      have f0 : 0 ≤ 0 + ((-1) * ρ1 1 + (1 * ρ1 71 + 0)) := f0
      rw [r1, r71] at f0
      obtain ⟨f1, gf⟩ := hb_unc gf
      have f1 : 0 ≤ 0 + (1 * ρ1 1 + ((-1) * ρ1 71 + 0)) := f1
      rw [r1, r71] at f1
      obtain ⟨f2, gf⟩ := hb_unc gf
      have f2 : 0 ≤ 0 + ((-1) * ρ1 2 + (1 * ρ1 72 + 0)) := f2
      rw [r2, r72] at f2
      obtain ⟨f3, gf⟩ := hb_unc gf
      have f3 : 0 ≤ 0 + (1 * ρ1 2 + ((-1) * ρ1 72 + 0)) := f3
      rw [r2, r72] at f3
      obtain ⟨f4, gf⟩ := hb_unc gf
      have f4 : 0 ≤ 0 + ((-1) * ρ1 3 + (1 * ρ1 73 + 0)) := f4
      rw [r3, r73] at f4
      obtain ⟨f5, gf⟩ := hb_unc gf
      have f5 : 0 ≤ 0 + (1 * ρ1 3 + ((-1) * ρ1 73 + 0)) := f5
      rw [r3, r73] at f5
      obtain ⟨f6, gf⟩ := hb_unc gf
      have f6 : 0 ≤ 0 + ((-1) * ρ1 4 + (1 * ρ1 74 + 0)) := f6
      rw [r4, r74] at f6
      obtain ⟨f7, gf⟩ := hb_unc gf
      have f7 : 0 ≤ 0 + (1 * ρ1 4 + ((-1) * ρ1 74 + 0)) := f7
      rw [r4, r74] at f7
      obtain ⟨f8, gf⟩ := hb_unc gf
      have f8 : 0 ≤ 0 + ((-1) * ρ1 5 + (1 * ρ1 75 + 0)) := f8
      rw [r5, r75] at f8
      obtain ⟨f9, gf⟩ := hb_unc gf
      have f9 : 0 ≤ 0 + (1 * ρ1 5 + ((-1) * ρ1 75 + 0)) := f9
      rw [r5, r75] at f9
      obtain ⟨f10, gf⟩ := hb_unc gf
      have f10 : 0 ≤ 0 + ((-1) * ρ1 6 + (1 * ρ1 76 + 0)) := f10
      rw [r6, r76] at f10
      obtain ⟨f11, gf⟩ := hb_unc gf
      have f11 : 0 ≤ 0 + (1 * ρ1 6 + ((-1) * ρ1 76 + 0)) := f11
      rw [r6, r76] at f11
      obtain ⟨f12, gf⟩ := hb_unc gf
      have f12 : 0 ≤ -1 + (1 * ρ1 78 + 0) := f12
      rw [r78] at f12
      obtain ⟨f13, gf⟩ := hb_unc gf
      have f13 : 0 ≤ 1 + ((-1) * ρ1 78 + 0) := f13
      rw [r78] at f13
      obtain ⟨f14, gf⟩ := hb_unc gf
      have f14 : 0 ≤ 255 + ((-1) * ρ1 77 + 0) := f14
      rw [r77] at f14
      obtain ⟨f15, gf⟩ := hb_unc gf
      have f15 : 0 ≤ 0 + (1 * ρ1 77 + 0) := f15
      rw [r77] at f15
      have hy1 : y1 = x1 := hb_inj f0 f1
      subst y1
      have hy2 : y2 = x2 := hb_inj f2 f3
      subst y2
      have hy3 : y3 = x3 := hb_inj f4 f5
      subst y3
      have hy4 : y4 = x4 := hb_inj f6 f7
      subst y4
      have hy5 : y5 = x5 := hb_inj f8 f9
      subst y5
      have hy6 : y6 = x6 := hb_inj f10 f11
      subst y6
      exact k13 M' y7 y8 gs gx gw g8 ge  (by have h1 := f12; have h2 := f13; omega) (by have h1 := f14; omega) (by have h1 := f15; omega)
    rcases List.mem_cons.mp hs with rfl | hs
    · intro ρ1 L' st' M' g1 g2 gm gr gf gs gx gw g8 ge
      obtain ⟨e0, L1, rfl, n0, gg0⟩ := hb_l1 mz_GG g1
      obtain rfl : e0 = 234 := List.mem_singleton.mp n0
      obtain ⟨y1, L1, rfl, qr71, gg1⟩ := hb_l0 mz_GG gg0
      have r71 : ρ1 71 = y1.toInt := qr71
      obtain ⟨y2, L1, rfl, qr72, gg2⟩ := hb_l0 mz_GG gg1
      have r72 : ρ1 72 = y2.toInt := qr72
      obtain ⟨y3, L1, rfl, qr73, gg3⟩ := hb_l0 mz_GG gg2
      have r73 : ρ1 73 = y3.toInt := qr73
      obtain ⟨y4, L1, rfl, qr74, gg4⟩ := hb_l0 mz_GG gg3
      have r74 : ρ1 74 = y4.toInt := qr74
      obtain ⟨y5, L1, rfl, qr75, gg5⟩ := hb_l0 mz_GG gg4
      have r75 : ρ1 75 = y5.toInt := qr75
      obtain ⟨y6, L1, rfl, qr76, gg6⟩ := hb_l0 mz_GG gg5
      have r76 : ρ1 76 = y6.toInt := qr76
      obtain ⟨y7, L1, rfl, qr77, gg7⟩ := hb_l0 mz_GG gg6
      have r77 : ρ1 77 = y7.toInt := qr77
      obtain ⟨y8, L1, rfl, qr78, gg8⟩ := hb_l0 mz_GG gg7
      have r78 : ρ1 78 = y8.toInt := qr78
      obtain rfl := hb_ln mz_GG gg8
      obtain rfl := hb_pn mz_GG g2
      have r1 : ρ1 1 = x1.toInt := gr 1 (by decide +kernel)
      have r2 : ρ1 2 = x2.toInt := gr 2 (by decide +kernel)
      have r3 : ρ1 3 = x3.toInt := gr 3 (by decide +kernel)
      have r4 : ρ1 4 = x4.toInt := gr 4 (by decide +kernel)
      have r5 : ρ1 5 = x5.toInt := gr 5 (by decide +kernel)
      have r6 : ρ1 6 = x6.toInt := gr 6 (by decide +kernel)
      obtain ⟨f0, gf⟩ := hb_unc gf
      have f0 : 0 ≤ 0 + ((-1) * ρ1 1 + (1 * ρ1 71 + 0)) := f0
      rw [r1, r71] at f0
      obtain ⟨f1, gf⟩ := hb_unc gf
      have f1 : 0 ≤ 0 + (1 * ρ1 1 + ((-1) * ρ1 71 + 0)) := f1
      rw [r1, r71] at f1
      obtain ⟨f2, gf⟩ := hb_unc gf
      have f2 : 0 ≤ 0 + ((-1) * ρ1 2 + (1 * ρ1 72 + 0)) := f2
      rw [r2, r72] at f2
      obtain ⟨f3, gf⟩ := hb_unc gf
      have f3 : 0 ≤ 0 + (1 * ρ1 2 + ((-1) * ρ1 72 + 0)) := f3
      rw [r2, r72] at f3
      obtain ⟨f4, gf⟩ := hb_unc gf
      have f4 : 0 ≤ 0 + ((-1) * ρ1 3 + (1 * ρ1 73 + 0)) := f4
      rw [r3, r73] at f4
      obtain ⟨f5, gf⟩ := hb_unc gf
      have f5 : 0 ≤ 0 + (1 * ρ1 3 + ((-1) * ρ1 73 + 0)) := f5
      rw [r3, r73] at f5
      obtain ⟨f6, gf⟩ := hb_unc gf
      have f6 : 0 ≤ 0 + ((-1) * ρ1 4 + (1 * ρ1 74 + 0)) := f6
      rw [r4, r74] at f6
      obtain ⟨f7, gf⟩ := hb_unc gf
      have f7 : 0 ≤ 0 + (1 * ρ1 4 + ((-1) * ρ1 74 + 0)) := f7
      rw [r4, r74] at f7
      obtain ⟨f8, gf⟩ := hb_unc gf
      have f8 : 0 ≤ 0 + ((-1) * ρ1 5 + (1 * ρ1 75 + 0)) := f8
      rw [r5, r75] at f8
      obtain ⟨f9, gf⟩ := hb_unc gf
      have f9 : 0 ≤ 0 + (1 * ρ1 5 + ((-1) * ρ1 75 + 0)) := f9
      rw [r5, r75] at f9
      obtain ⟨f10, gf⟩ := hb_unc gf
      have f10 : 0 ≤ 0 + ((-1) * ρ1 6 + (1 * ρ1 76 + 0)) := f10
      rw [r6, r76] at f10
      obtain ⟨f11, gf⟩ := hb_unc gf
      have f11 : 0 ≤ 0 + (1 * ρ1 6 + ((-1) * ρ1 76 + 0)) := f11
      rw [r6, r76] at f11
      obtain ⟨f12, gf⟩ := hb_unc gf
      have f12 : 0 ≤ -1 + (1 * ρ1 78 + 0) := f12
      rw [r78] at f12
      obtain ⟨f13, gf⟩ := hb_unc gf
      have f13 : 0 ≤ 1 + ((-1) * ρ1 78 + 0) := f13
      rw [r78] at f13
      obtain ⟨f14, gf⟩ := hb_unc gf
      have f14 : 0 ≤ 255 + ((-1) * ρ1 77 + 0) := f14
      rw [r77] at f14
      obtain ⟨f15, gf⟩ := hb_unc gf
      have f15 : 0 ≤ 0 + (1 * ρ1 77 + 0) := f15
      rw [r77] at f15
      obtain ⟨f16, gf⟩ := hb_unc gf
      have f16 : 0 ≤ 0 + (1 * ρ1 4 + 0) := f16
      rw [r4] at f16
      obtain ⟨f17, gf⟩ := hb_unc gf
      have f17 : 0 ≤ 0 + ((-1) * ρ1 4 + 0) := f17
      rw [r4] at f17
      have hy1 : y1 = x1 := hb_inj f0 f1
      subst y1
      have hy2 : y2 = x2 := hb_inj f2 f3
      subst y2
      have hy3 : y3 = x3 := hb_inj f4 f5
      subst y3
      have hy4 : y4 = x4 := hb_inj f6 f7
      subst y4
      have hy5 : y5 = x5 := hb_inj f8 f9
      subst y5
      have hy6 : y6 = x6 := hb_inj f10 f11
      subst y6
      exact k14 M' y7 y8 gs gx gw g8 ge  (by have h1 := f12; have h2 := f13; omega) (by have h1 := f14; omega) (by have h1 := f15; omega) (by have h1 := f16; omega) (by have h1 := f17; omega)
    rcases List.mem_cons.mp hs with rfl | hs
    · intro ρ1 L' st' M' g1 g2 gm gr gf gs gx gw g8 ge
      obtain ⟨e0, L1, rfl, n0, gg0⟩ := hb_l1 mz_GG g1
      obtain rfl : e0 = 234 := List.mem_singleton.mp n0
      obtain ⟨y1, L1, rfl, qr71, gg1⟩ := hb_l0 mz_GG gg0
      have r71 : ρ1 71 = y1.toInt := qr71
      obtain ⟨y2, L1, rfl, qr72, gg2⟩ := hb_l0 mz_GG gg1
      have r72 : ρ1 72 = y2.toInt := qr72
      obtain ⟨y3, L1, rfl, qr73, gg3⟩ := hb_l0 mz_GG gg2
      have r73 : ρ1 73 = y3.toInt := qr73
      obtain ⟨y4, L1, rfl, qr74, gg4⟩ := hb_l0 mz_GG gg3
      have r74 : ρ1 74 = y4.toInt := qr74
      obtain ⟨y5, L1, rfl, qr75, gg5⟩ := hb_l0 mz_GG gg4
      have r75 : ρ1 75 = y5.toInt := qr75
      obtain ⟨y6, L1, rfl, qr76, gg6⟩ := hb_l0 mz_GG gg5
      have r76 : ρ1 76 = y6.toInt := qr76
      obtain ⟨y7, L1, rfl, qr77, gg7⟩ := hb_l0 mz_GG gg6
      have r77 : ρ1 77 = y7.toInt := qr77
      obtain ⟨y8, L1, rfl, qr78, gg8⟩ := hb_l0 mz_GG gg7
      have r78 : ρ1 78 = y8.toInt := qr78
      obtain rfl := hb_ln mz_GG gg8
      obtain rfl := hb_pn mz_GG g2
      have r1 : ρ1 1 = x1.toInt := gr 1 (by decide +kernel)
      have r2 : ρ1 2 = x2.toInt := gr 2 (by decide +kernel)
      have r3 : ρ1 3 = x3.toInt := gr 3 (by decide +kernel)
      have r4 : ρ1 4 = x4.toInt := gr 4 (by decide +kernel)
      have r5 : ρ1 5 = x5.toInt := gr 5 (by decide +kernel)
      have r6 : ρ1 6 = x6.toInt := gr 6 (by decide +kernel)
      obtain ⟨f0, gf⟩ := hb_unc gf
      have f0 : 0 ≤ 0 + ((-1) * ρ1 1 + (1 * ρ1 71 + 0)) := f0
      rw [r1, r71] at f0
      obtain ⟨f1, gf⟩ := hb_unc gf
      have f1 : 0 ≤ 0 + (1 * ρ1 1 + ((-1) * ρ1 71 + 0)) := f1
      rw [r1, r71] at f1
      obtain ⟨f2, gf⟩ := hb_unc gf
      have f2 : 0 ≤ 0 + ((-1) * ρ1 2 + (1 * ρ1 72 + 0)) := f2
      rw [r2, r72] at f2
      obtain ⟨f3, gf⟩ := hb_unc gf
      have f3 : 0 ≤ 0 + (1 * ρ1 2 + ((-1) * ρ1 72 + 0)) := f3
      rw [r2, r72] at f3
      obtain ⟨f4, gf⟩ := hb_unc gf
      have f4 : 0 ≤ 0 + ((-1) * ρ1 3 + (1 * ρ1 73 + 0)) := f4
      rw [r3, r73] at f4
      obtain ⟨f5, gf⟩ := hb_unc gf
      have f5 : 0 ≤ 0 + (1 * ρ1 3 + ((-1) * ρ1 73 + 0)) := f5
      rw [r3, r73] at f5
      obtain ⟨f6, gf⟩ := hb_unc gf
      have f6 : 0 ≤ 0 + ((-1) * ρ1 4 + (1 * ρ1 74 + 0)) := f6
      rw [r4, r74] at f6
      obtain ⟨f7, gf⟩ := hb_unc gf
      have f7 : 0 ≤ 0 + (1 * ρ1 4 + ((-1) * ρ1 74 + 0)) := f7
      rw [r4, r74] at f7
      obtain ⟨f8, gf⟩ := hb_unc gf
      have f8 : 0 ≤ 0 + ((-1) * ρ1 5 + (1 * ρ1 75 + 0)) := f8
      rw [r5, r75] at f8
      obtain ⟨f9, gf⟩ := hb_unc gf
      have f9 : 0 ≤ 0 + (1 * ρ1 5 + ((-1) * ρ1 75 + 0)) := f9
      rw [r5, r75] at f9
      obtain ⟨f10, gf⟩ := hb_unc gf
      have f10 : 0 ≤ 0 + ((-1) * ρ1 6 + (1 * ρ1 76 + 0)) := f10
      rw [r6, r76] at f10
      obtain ⟨f11, gf⟩ := hb_unc gf
      have f11 : 0 ≤ 0 + (1 * ρ1 6 + ((-1) * ρ1 76 + 0)) := f11
      rw [r6, r76] at f11
      obtain ⟨f12, gf⟩ := hb_unc gf
      have f12 : 0 ≤ -1 + (1 * ρ1 78 + 0) := f12
      rw [r78] at f12
      obtain ⟨f13, gf⟩ := hb_unc gf
      have f13 : 0 ≤ 1 + ((-1) * ρ1 78 + 0) := f13
      rw [r78] at f13
      obtain ⟨f14, gf⟩ := hb_unc gf
      have f14 : 0 ≤ 255 + ((-1) * ρ1 77 + 0) := f14
      rw [r77] at f14
      obtain ⟨f15, gf⟩ := hb_unc gf
      have f15 : 0 ≤ 0 + (1 * ρ1 77 + 0) := f15
      rw [r77] at f15
      obtain ⟨f16, gf⟩ := hb_unc gf
      have f16 : 0 ≤ 0 + (1 * ρ1 4 + 0) := f16
      rw [r4] at f16
      obtain ⟨f17, gf⟩ := hb_unc gf
      have f17 : 0 ≤ 0 + ((-1) * ρ1 4 + 0) := f17
      rw [r4] at f17
      have hy1 : y1 = x1 := hb_inj f0 f1
      subst y1
      have hy2 : y2 = x2 := hb_inj f2 f3
      subst y2
      have hy3 : y3 = x3 := hb_inj f4 f5
      subst y3
      have hy4 : y4 = x4 := hb_inj f6 f7
      subst y4
      have hy5 : y5 = x5 := hb_inj f8 f9
      subst y5
      have hy6 : y6 = x6 := hb_inj f10 f11
      subst y6
      exact k15 M' y7 y8 gs gx gw g8 ge  (by have h1 := f12; have h2 := f13; omega) (by have h1 := f14; omega) (by have h1 := f15; omega) (by have h1 := f16; omega) (by have h1 := f17; omega)
    cases hs
  · intro r S hpo
    obtain ⟨b1, b2, b3, b4, b5, p, hp, res, hf, hre⟩ := hpo
    cases hp

def hm_F (M M' : Nat → mq_C) : Prop := (∀ a, a < 272 → a ≠ 234 → a ≠ 267 → M' a = M a) ∧ ∀ i, i ≠ 48 → i ≠ 50 → i ≠ 51 → i ≠ 52 → hv M' 234 i = hv M 234 i
theorem hm_Ft {M M' M'' : Nat → mq_C} (h : hm_F M M') (h' : hm_F M' M'') : hm_F M M'' := ⟨fun a h1 h2 h3 => (h'.1 a h1 h2 h3).trans (h.1 a h1 h2 h3), fun i h1 h2 h3 h4 => (h'.2 i h1 h2 h3 h4).trans (h.2 i h1 h2 h3 h4)⟩
theorem hm_FS {M M' : Nat → mq_C} (h : hm_F M M') : hm_S M M' := by
  refine ⟨fun a ha hw => h.1 a ha ?_ ?_, fun a ha => h.1 a (by omega) (by omega) (by omega), ?_⟩
  · rintro rfl
    cases hw
  · rintro rfl
    cases hw
  · refine hb_same_of (fun t => decide (t.1 < 272 ∧ t.1 ≠ 267 ∧ (t.1 = 234 → t.2 ≠ 48 ∧ t.2 ≠ 50 ∧ t.2 ≠ 51 ∧ t.2 ≠ 52))) ?_ (by decide +kernel)
    intro t ht
    obtain ⟨h0, h1, h2⟩ := of_decide_eq_true ht
    by_cases e : t.1 = 234
    · rw [e]
      obtain ⟨a1, a2, a3, a4⟩ := h2 e
      exact h.2 _ a1 a2 a3 a4
    · exact hb_vc (h.1 _ h0 e h1) _
theorem hm_relF {k j : Nat} {M M' : Nat → mq_C} (h : hm_F M M') (hf : ∀ i, i < 12 * j → hv M' 267 i = hv M 267 i) : hm_rel k j M M' := ⟨hm_FS h, fun i => hb_vc (h.1 262 (by decide) (by decide) (by decide)) i, fun c n _ _ _ => hb_vc (h.1 261 (by decide) (by decide) (by decide)) _, hf⟩
theorem hm_Dt {j k n : Nat} {M M1 M' : Nat → mq_C} (hS : hm_S M M1) (h2 : ∀ i, hv M1 262 i = hv M 262 i) (h1 : ∀ i, hv M1 261 i = hv M 261 i) (h7 : ∀ i, i < 12 * j → hv M1 267 i = hv M 267 i) (h : hm_D j k n M1 M') : hm_D j k n M M' :=
  ⟨hm_St hS h.1, fun i hi => (h.2.1 i hi).trans (h2 i), fun i hi => by rw [h.2.2.1 i hi, h2], fun i hi => (h.2.2.2.1 i hi).trans (h1 i), fun i hi => (h.2.2.2.2 i hi).trans (h7 i hi)⟩
theorem hm_s96 {d z u j k n : Nat} {Q : (Option Value ⊕ Nat) → mq_S → Prop} {M : Nat → mq_C} {x1 x2 x3 x4 x5 x6 : Int32} (hd : 1 ≤ d + 2) (hz : 272 ≤ z) (hm : mz_sh mz_GG M) (hx : HX M) (hj : hv M 234 48 = (j : Int) + 1) (hj1 : j < 139) (p1 : x1.toInt = 12 * (j : Int)) (hk : hv M 267 (12 * j) = (k : Int)) (hn : hv M 267 (12 * j + 1) = (n : Int)) (hk4 : k < 4) (hn32 : n < 32) (hdf : hv M 261 (32 * k + n) = -1) (q2 : x2.toInt = (k : Int)) (q3 : x3.toInt = (n : Int)) (q4 : x4.toInt + 2 = hv M 267 (12 * j + 2)) (q4a : 0 ≤ x4.toInt) (q4b : x4.toInt ≤ 2) (q5 : 0 ≤ x5.toInt) (q5' : x5.toInt ≤ 127)
    (KA : ∀ M' : Nat → mq_C, mz_sh mz_GG M' → HX M' → hm_F M M' → hm_N j M M' → hv M 267 (12 * j + 2) + 1 ≤ hv M' 267 (12 * j + 2) → Q (.inl none) (M', z, u))
    (KB : ∀ M' : Nat → mq_C, mz_sh mz_GG M' → HX M' → hm_D j k n M M' → hv M' 234 48 = (j : Int) → hm_w M' → Q (.inl none) (M', z, u)) : mq_R mq_PP (d + 2) 154 96 [some (.ref 234), some (.int x1), some (.int x2), some (.int x3), some (.int x4), some (.int x5), some (.int x6), none, none] [] (M, z, u) Q := by
  refine hm_sb HX_same hb_C1 hd hz hm hx rfl rfl (by omega) (by omega) ?_ ?_ ?_ ?_ ?_ ?_ ?_ ?_ ?_ ?_ ?_ ?_ ?_ ?_ ?_ ?_
  · intro M2 y7 y8 gs gx gw g8 ge 
    intros
    have e2 : ∀ a, a < 272 → M2 a = M a := fun a ha => gw a ha rfl
    have hj2 : hv M2 234 48 = (j : Int) + 1 := by rw [hb_vc (e2 234 (by decide))]; exact hj
    have hk2 : hv M2 267 (12 * j) = (k : Int) := by rw [hb_vc (e2 267 (by decide))]; exact hk
    have hn2 : hv M2 267 (12 * j + 1) = (n : Int) := by rw [hb_vc (e2 267 (by decide))]; exact hn
    exact hm_s190 (by omega) hz gs gx hj2 hj1 p1 hk2 hn2 hk4 hn32 q2 q3 (fun M' a1 a2 a3 a4 a5 => KB M' a1 a2 (hm_Dt (hm_relf (q' := hm_sb_q) (k := k) (j := j) (by decide) (fun j _ => rfl) (by decide) gw g8 ge).1 (fun i => hb_vc (e2 262 (by decide)) i) (fun i => hb_vc (e2 261 (by decide)) i) (fun i _ => hb_vc (e2 267 (by decide)) i) a3) a4 a5)
  · intro M2 y7 y8 gs gx gw g8 ge 
    intros
    have e2 : ∀ a, a < 272 → M2 a = M a := fun a ha => gw a ha rfl
    have hj2 : hv M2 234 48 = (j : Int) + 1 := by rw [hb_vc (e2 234 (by decide))]; exact hj
    have hk2 : hv M2 267 (12 * j) = (k : Int) := by rw [hb_vc (e2 267 (by decide))]; exact hk
    have hn2 : hv M2 267 (12 * j + 1) = (n : Int) := by rw [hb_vc (e2 267 (by decide))]; exact hn
    refine he_aload (n := 245) (i := 0) (by decide +kernel) rfl ?_
    refine he_getr (n := 248) (ci := 9) (j := 49) (ns := [4226, 107]) (b := 267) gs (by decide +kernel) rfl rfl (by decide +kernel) ?_
    refine he_iload (n := 249) (i := 1) (by decide +kernel) rfl ?_
    refine he_iconst (n := 251) (c := 9) (by decide +kernel) (by decide) ?_
    intro ck249 hck249
    refine he_iadd (n := 252) (by decide +kernel) (by omega) (by omega) ?_
    intro vk251 hvk251
    refine he_iload (n := 254) (i := 4) (by decide +kernel) rfl ?_
    refine he_iadd (n := 255) (by decide +kernel) (by omega) (by omega) ?_
    intro vk254 hvk254
    refine he_iload (n := 257) (i := 5) (by decide +kernel) rfl ?_
    refine hb_sta (n := 258) (kind := 64) gs (by decide +kernel) rfl rfl (.inl rfl) (by omega) (show _ < (1680 : Int) by omega) ?_
    generalize hMk1 : hb_set M2 267 (vk254.toInt.toNat) x5 = Mk1
    have hmk1 : mz_sh mz_GG Mk1 := by rw [← hMk1]; exact hb_set_sh gs rfl (hm_f91 (by omega)) (by omega) (by omega)
    have eMk1 : ∀ b j, b ≠ 267 ∨ j ≠ vk254.toInt.toNat → hv Mk1 b j = hv M2 b j := by intro b j h; rw [← hMk1]; exact hb_set_n h
    have sMk1 : hv Mk1 267 (vk254.toInt.toNat) = x5.toInt := by rw [← hMk1]; exact hb_set_v gs rfl (show _ < 1680 by omega)
    have wMk1 : ∀ b, b ≠ 267 → Mk1 b = M2 b := by intro b h; rw [← hMk1]; exact hb_set_c h
    refine he_aload (n := 259) (i := 0) (by decide +kernel) rfl ?_
    refine he_iload (n := 260) (i := 1) (by decide +kernel) rfl ?_
    refine he_iload (n := 262) (i := 4) (by decide +kernel) rfl ?_
    refine he_iconst (n := 263) (c := 1) (by decide +kernel) (by decide) ?_
    intro ck262 hck262
    refine he_iadd (n := 264) (by decide +kernel) (by omega) (by omega) ?_
    intro vk263 hvk263
    refine he_v2 (n := 267) (j := 153) (ci := 9) (mx := 7) (ns := [6082, 6084, 86, 315]) (by decide +kernel) ((hb_kd (a := 234) hmk1 rfl).trans rfl) (by decide) (by show 3 ≤ 7; omega) ?_
    rw [mq_e153]
    have hxk1 : HX Mk1 := fun t => by rw [← hMk1]; exact hxk_s (hm_sp t _ _ (by omega)) (gx t)
    refine hm_goOn (j := j) (k := k) (n := n) hmk1 hxk1 (by rw [eMk1 _ _ (.inl (by decide))]; exact hj2) hj1 p1 (by rw [eMk1 _ _ (.inr (by omega))]; exact hk2) (by rw [eMk1 _ _ (.inr (by omega))]; exact hn2) (by rw [eMk1 _ _ (.inl (by decide)), hb_vc (e2 261 (by decide))]; exact hdf) (by omega) (by omega) ?_ ?_
    · intro M' a1 a2 a3 a4
      show mq_R mq_PP (d + 2) 154 267 _ [] (M', z, u) Q
      refine he_ret (by decide +kernel) ?_
      have l1 : ∀ i, i < 12 * j + 9 → hv Mk1 267 i = hv M 267 i := fun i hi => by rw [eMk1 _ _ (.inr (by omega)), hb_vc (e2 267 (by decide))]
      refine KA M' a1 (hm_Ex a2 hxk1) (hm_Ft (M' := Mk1) (hm_Ft (M' := M2) ?_ ?_) ⟨fun a _ h1 h2 => a2.1 a h1 h2, a2.2⟩) ?_ ?_
      · exact ⟨fun a h _ _ => e2 a h, fun i _ _ _ _ => hb_vc (e2 234 (by decide)) i⟩
      · exact ⟨fun a _ _ h => wMk1 a h, fun i _ _ _ _ => eMk1 _ _ (.inl (by decide))⟩
      · obtain ⟨b1, b2, b3, b4, b5, b6, b7, b8⟩ := a3
        exact ⟨b1, b2, b3, by rw [b4, l1 _ (by omega)], by rw [b5, l1 _ (by omega)], by rw [b6, l1 _ (by omega)], b7, fun i hi => by rw [b8 i hi, l1 i (by omega)]⟩
      · omega
    · intro M' a1 a2 a3 a4 a5
      show mq_R mq_PP (d + 2) 154 267 _ [] (M', z, u) Q
      refine he_ret (by decide +kernel) ?_
      refine KB M' a1 a2 (hm_Dt ?_ (fun i => ?_) (fun i => ?_) (fun i hi => ?_) a3) a4 a5
      · exact hm_St (hm_relf (q' := hm_sb_q) (k := k) (j := j) (by decide) (fun j _ => rfl) (by decide) gw g8 ge).1 (hm_ES ⟨fun a _ h => wMk1 a h, fun i _ _ _ _ => eMk1 _ _ (.inl (by decide))⟩)
      · rw [eMk1 _ _ (.inl (by decide)), hb_vc (e2 262 (by decide))]
      · rw [eMk1 _ _ (.inl (by decide)), hb_vc (e2 261 (by decide))]
      · rw [eMk1 _ _ (.inr (by omega)), hb_vc (e2 267 (by decide))]
  · intro M2 y7 y8 gs gx gw g8 ge 
    intros
    have e2 : ∀ a, a < 272 → M2 a = M a := fun a ha => gw a ha rfl
    have hj2 : hv M2 234 48 = (j : Int) + 1 := by rw [hb_vc (e2 234 (by decide))]; exact hj
    have hk2 : hv M2 267 (12 * j) = (k : Int) := by rw [hb_vc (e2 267 (by decide))]; exact hk
    have hn2 : hv M2 267 (12 * j + 1) = (n : Int) := by rw [hb_vc (e2 267 (by decide))]; exact hn
    refine he_aload (n := 245) (i := 0) (by decide +kernel) rfl ?_
    refine he_getr (n := 248) (ci := 9) (j := 49) (ns := [4226, 107]) (b := 267) gs (by decide +kernel) rfl rfl (by decide +kernel) ?_
    refine he_iload (n := 249) (i := 1) (by decide +kernel) rfl ?_
    refine he_iconst (n := 251) (c := 9) (by decide +kernel) (by decide) ?_
    intro ck249 hck249
    refine he_iadd (n := 252) (by decide +kernel) (by omega) (by omega) ?_
    intro vk251 hvk251
    refine he_iload (n := 254) (i := 4) (by decide +kernel) rfl ?_
    refine he_iadd (n := 255) (by decide +kernel) (by omega) (by omega) ?_
    intro vk254 hvk254
    refine he_iload (n := 257) (i := 5) (by decide +kernel) rfl ?_
    refine hb_sta (n := 258) (kind := 64) gs (by decide +kernel) rfl rfl (.inl rfl) (by omega) (show _ < (1680 : Int) by omega) ?_
    generalize hMk1 : hb_set M2 267 (vk254.toInt.toNat) x5 = Mk1
    have hmk1 : mz_sh mz_GG Mk1 := by rw [← hMk1]; exact hb_set_sh gs rfl (hm_f91 (by omega)) (by omega) (by omega)
    have eMk1 : ∀ b j, b ≠ 267 ∨ j ≠ vk254.toInt.toNat → hv Mk1 b j = hv M2 b j := by intro b j h; rw [← hMk1]; exact hb_set_n h
    have sMk1 : hv Mk1 267 (vk254.toInt.toNat) = x5.toInt := by rw [← hMk1]; exact hb_set_v gs rfl (show _ < 1680 by omega)
    have wMk1 : ∀ b, b ≠ 267 → Mk1 b = M2 b := by intro b h; rw [← hMk1]; exact hb_set_c h
    refine he_aload (n := 259) (i := 0) (by decide +kernel) rfl ?_
    refine he_iload (n := 260) (i := 1) (by decide +kernel) rfl ?_
    refine he_iload (n := 262) (i := 4) (by decide +kernel) rfl ?_
    refine he_iconst (n := 263) (c := 1) (by decide +kernel) (by decide) ?_
    intro ck262 hck262
    refine he_iadd (n := 264) (by decide +kernel) (by omega) (by omega) ?_
    intro vk263 hvk263
    refine he_v2 (n := 267) (j := 153) (ci := 9) (mx := 7) (ns := [6082, 6084, 86, 315]) (by decide +kernel) ((hb_kd (a := 234) hmk1 rfl).trans rfl) (by decide) (by show 3 ≤ 7; omega) ?_
    rw [mq_e153]
    have hxk1 : HX Mk1 := fun t => by rw [← hMk1]; exact hxk_s (hm_sp t _ _ (by omega)) (gx t)
    refine hm_goOn (j := j) (k := k) (n := n) hmk1 hxk1 (by rw [eMk1 _ _ (.inl (by decide))]; exact hj2) hj1 p1 (by rw [eMk1 _ _ (.inr (by omega))]; exact hk2) (by rw [eMk1 _ _ (.inr (by omega))]; exact hn2) (by rw [eMk1 _ _ (.inl (by decide)), hb_vc (e2 261 (by decide))]; exact hdf) (by omega) (by omega) ?_ ?_
    · intro M' a1 a2 a3 a4
      show mq_R mq_PP (d + 2) 154 267 _ [] (M', z, u) Q
      refine he_ret (by decide +kernel) ?_
      have l1 : ∀ i, i < 12 * j + 9 → hv Mk1 267 i = hv M 267 i := fun i hi => by rw [eMk1 _ _ (.inr (by omega)), hb_vc (e2 267 (by decide))]
      refine KA M' a1 (hm_Ex a2 hxk1) (hm_Ft (M' := Mk1) (hm_Ft (M' := M2) ?_ ?_) ⟨fun a _ h1 h2 => a2.1 a h1 h2, a2.2⟩) ?_ ?_
      · exact ⟨fun a h _ _ => e2 a h, fun i _ _ _ _ => hb_vc (e2 234 (by decide)) i⟩
      · exact ⟨fun a _ _ h => wMk1 a h, fun i _ _ _ _ => eMk1 _ _ (.inl (by decide))⟩
      · obtain ⟨b1, b2, b3, b4, b5, b6, b7, b8⟩ := a3
        exact ⟨b1, b2, b3, by rw [b4, l1 _ (by omega)], by rw [b5, l1 _ (by omega)], by rw [b6, l1 _ (by omega)], b7, fun i hi => by rw [b8 i hi, l1 i (by omega)]⟩
      · omega
    · intro M' a1 a2 a3 a4 a5
      show mq_R mq_PP (d + 2) 154 267 _ [] (M', z, u) Q
      refine he_ret (by decide +kernel) ?_
      refine KB M' a1 a2 (hm_Dt ?_ (fun i => ?_) (fun i => ?_) (fun i hi => ?_) a3) a4 a5
      · exact hm_St (hm_relf (q' := hm_sb_q) (k := k) (j := j) (by decide) (fun j _ => rfl) (by decide) gw g8 ge).1 (hm_ES ⟨fun a _ h => wMk1 a h, fun i _ _ _ _ => eMk1 _ _ (.inl (by decide))⟩)
      · rw [eMk1 _ _ (.inl (by decide)), hb_vc (e2 262 (by decide))]
      · rw [eMk1 _ _ (.inl (by decide)), hb_vc (e2 261 (by decide))]
      · rw [eMk1 _ _ (.inr (by omega)), hb_vc (e2 267 (by decide))]
  · intro M2 y7 y8 gs gx gw g8 ge 
    intros
    have e2 : ∀ a, a < 272 → M2 a = M a := fun a ha => gw a ha rfl
    have hj2 : hv M2 234 48 = (j : Int) + 1 := by rw [hb_vc (e2 234 (by decide))]; exact hj
    have hk2 : hv M2 267 (12 * j) = (k : Int) := by rw [hb_vc (e2 267 (by decide))]; exact hk
    have hn2 : hv M2 267 (12 * j + 1) = (n : Int) := by rw [hb_vc (e2 267 (by decide))]; exact hn
    exact hm_s190 (by omega) hz gs gx hj2 hj1 p1 hk2 hn2 hk4 hn32 q2 q3 (fun M' a1 a2 a3 a4 a5 => KB M' a1 a2 (hm_Dt (hm_relf (q' := hm_sb_q) (k := k) (j := j) (by decide) (fun j _ => rfl) (by decide) gw g8 ge).1 (fun i => hb_vc (e2 262 (by decide)) i) (fun i => hb_vc (e2 261 (by decide)) i) (fun i _ => hb_vc (e2 267 (by decide)) i) a3) a4 a5)
  · intro M2 y7 y8 gs gx gw g8 ge 
    intros
    have e2 : ∀ a, a < 272 → M2 a = M a := fun a ha => gw a ha rfl
    have hj2 : hv M2 234 48 = (j : Int) + 1 := by rw [hb_vc (e2 234 (by decide))]; exact hj
    have hk2 : hv M2 267 (12 * j) = (k : Int) := by rw [hb_vc (e2 267 (by decide))]; exact hk
    have hn2 : hv M2 267 (12 * j + 1) = (n : Int) := by rw [hb_vc (e2 267 (by decide))]; exact hn
    exact hm_s190 (by omega) hz gs gx hj2 hj1 p1 hk2 hn2 hk4 hn32 q2 q3 (fun M' a1 a2 a3 a4 a5 => KB M' a1 a2 (hm_Dt (hm_relf (q' := hm_sb_q) (k := k) (j := j) (by decide) (fun j _ => rfl) (by decide) gw g8 ge).1 (fun i => hb_vc (e2 262 (by decide)) i) (fun i => hb_vc (e2 261 (by decide)) i) (fun i _ => hb_vc (e2 267 (by decide)) i) a3) a4 a5)
  · intro M2 y7 y8 gs gx gw g8 ge 
    intros
    have e2 : ∀ a, a < 272 → M2 a = M a := fun a ha => gw a ha rfl
    have hj2 : hv M2 234 48 = (j : Int) + 1 := by rw [hb_vc (e2 234 (by decide))]; exact hj
    have hk2 : hv M2 267 (12 * j) = (k : Int) := by rw [hb_vc (e2 267 (by decide))]; exact hk
    have hn2 : hv M2 267 (12 * j + 1) = (n : Int) := by rw [hb_vc (e2 267 (by decide))]; exact hn
    exact hm_s190 (by omega) hz gs gx hj2 hj1 p1 hk2 hn2 hk4 hn32 q2 q3 (fun M' a1 a2 a3 a4 a5 => KB M' a1 a2 (hm_Dt (hm_relf (q' := hm_sb_q) (k := k) (j := j) (by decide) (fun j _ => rfl) (by decide) gw g8 ge).1 (fun i => hb_vc (e2 262 (by decide)) i) (fun i => hb_vc (e2 261 (by decide)) i) (fun i _ => hb_vc (e2 267 (by decide)) i) a3) a4 a5)
  · intro M2 y7 y8 gs gx gw g8 ge 
    intros
    have e2 : ∀ a, a < 272 → M2 a = M a := fun a ha => gw a ha rfl
    have hj2 : hv M2 234 48 = (j : Int) + 1 := by rw [hb_vc (e2 234 (by decide))]; exact hj
    have hk2 : hv M2 267 (12 * j) = (k : Int) := by rw [hb_vc (e2 267 (by decide))]; exact hk
    have hn2 : hv M2 267 (12 * j + 1) = (n : Int) := by rw [hb_vc (e2 267 (by decide))]; exact hn
    exact hm_s190 (by omega) hz gs gx hj2 hj1 p1 hk2 hn2 hk4 hn32 q2 q3 (fun M' a1 a2 a3 a4 a5 => KB M' a1 a2 (hm_Dt (hm_relf (q' := hm_sb_q) (k := k) (j := j) (by decide) (fun j _ => rfl) (by decide) gw g8 ge).1 (fun i => hb_vc (e2 262 (by decide)) i) (fun i => hb_vc (e2 261 (by decide)) i) (fun i _ => hb_vc (e2 267 (by decide)) i) a3) a4 a5)
  · intro M2 y7 y8 gs gx gw g8 ge 
    intros
    have e2 : ∀ a, a < 272 → M2 a = M a := fun a ha => gw a ha rfl
    have hj2 : hv M2 234 48 = (j : Int) + 1 := by rw [hb_vc (e2 234 (by decide))]; exact hj
    have hk2 : hv M2 267 (12 * j) = (k : Int) := by rw [hb_vc (e2 267 (by decide))]; exact hk
    have hn2 : hv M2 267 (12 * j + 1) = (n : Int) := by rw [hb_vc (e2 267 (by decide))]; exact hn
    exact hm_s190 (by omega) hz gs gx hj2 hj1 p1 hk2 hn2 hk4 hn32 q2 q3 (fun M' a1 a2 a3 a4 a5 => KB M' a1 a2 (hm_Dt (hm_relf (q' := hm_sb_q) (k := k) (j := j) (by decide) (fun j _ => rfl) (by decide) gw g8 ge).1 (fun i => hb_vc (e2 262 (by decide)) i) (fun i => hb_vc (e2 261 (by decide)) i) (fun i _ => hb_vc (e2 267 (by decide)) i) a3) a4 a5)
  · intro M2 y7 y8 gs gx gw g8 ge 
    intros
    have e2 : ∀ a, a < 272 → M2 a = M a := fun a ha => gw a ha rfl
    have hj2 : hv M2 234 48 = (j : Int) + 1 := by rw [hb_vc (e2 234 (by decide))]; exact hj
    have hk2 : hv M2 267 (12 * j) = (k : Int) := by rw [hb_vc (e2 267 (by decide))]; exact hk
    have hn2 : hv M2 267 (12 * j + 1) = (n : Int) := by rw [hb_vc (e2 267 (by decide))]; exact hn
    exact hm_s190 (by omega) hz gs gx hj2 hj1 p1 hk2 hn2 hk4 hn32 q2 q3 (fun M' a1 a2 a3 a4 a5 => KB M' a1 a2 (hm_Dt (hm_relf (q' := hm_sb_q) (k := k) (j := j) (by decide) (fun j _ => rfl) (by decide) gw g8 ge).1 (fun i => hb_vc (e2 262 (by decide)) i) (fun i => hb_vc (e2 261 (by decide)) i) (fun i _ => hb_vc (e2 267 (by decide)) i) a3) a4 a5)
  · intro M2 y7 y8 gs gx gw g8 ge 
    intros
    have e2 : ∀ a, a < 272 → M2 a = M a := fun a ha => gw a ha rfl
    have hj2 : hv M2 234 48 = (j : Int) + 1 := by rw [hb_vc (e2 234 (by decide))]; exact hj
    have hk2 : hv M2 267 (12 * j) = (k : Int) := by rw [hb_vc (e2 267 (by decide))]; exact hk
    have hn2 : hv M2 267 (12 * j + 1) = (n : Int) := by rw [hb_vc (e2 267 (by decide))]; exact hn
    exact hm_s190 (by omega) hz gs gx hj2 hj1 p1 hk2 hn2 hk4 hn32 q2 q3 (fun M' a1 a2 a3 a4 a5 => KB M' a1 a2 (hm_Dt (hm_relf (q' := hm_sb_q) (k := k) (j := j) (by decide) (fun j _ => rfl) (by decide) gw g8 ge).1 (fun i => hb_vc (e2 262 (by decide)) i) (fun i => hb_vc (e2 261 (by decide)) i) (fun i _ => hb_vc (e2 267 (by decide)) i) a3) a4 a5)
  · intro M2 y7 y8 gs gx gw g8 ge 
    intros
    have e2 : ∀ a, a < 272 → M2 a = M a := fun a ha => gw a ha rfl
    have hj2 : hv M2 234 48 = (j : Int) + 1 := by rw [hb_vc (e2 234 (by decide))]; exact hj
    have hk2 : hv M2 267 (12 * j) = (k : Int) := by rw [hb_vc (e2 267 (by decide))]; exact hk
    have hn2 : hv M2 267 (12 * j + 1) = (n : Int) := by rw [hb_vc (e2 267 (by decide))]; exact hn
    exact hm_s190 (by omega) hz gs gx hj2 hj1 p1 hk2 hn2 hk4 hn32 q2 q3 (fun M' a1 a2 a3 a4 a5 => KB M' a1 a2 (hm_Dt (hm_relf (q' := hm_sb_q) (k := k) (j := j) (by decide) (fun j _ => rfl) (by decide) gw g8 ge).1 (fun i => hb_vc (e2 262 (by decide)) i) (fun i => hb_vc (e2 261 (by decide)) i) (fun i _ => hb_vc (e2 267 (by decide)) i) a3) a4 a5)
  · intro M2 y7 y8 gs gx gw g8 ge 
    intros
    have e2 : ∀ a, a < 272 → M2 a = M a := fun a ha => gw a ha rfl
    have hj2 : hv M2 234 48 = (j : Int) + 1 := by rw [hb_vc (e2 234 (by decide))]; exact hj
    have hk2 : hv M2 267 (12 * j) = (k : Int) := by rw [hb_vc (e2 267 (by decide))]; exact hk
    have hn2 : hv M2 267 (12 * j + 1) = (n : Int) := by rw [hb_vc (e2 267 (by decide))]; exact hn
    exact hm_s190 (by omega) hz gs gx hj2 hj1 p1 hk2 hn2 hk4 hn32 q2 q3 (fun M' a1 a2 a3 a4 a5 => KB M' a1 a2 (hm_Dt (hm_relf (q' := hm_sb_q) (k := k) (j := j) (by decide) (fun j _ => rfl) (by decide) gw g8 ge).1 (fun i => hb_vc (e2 262 (by decide)) i) (fun i => hb_vc (e2 261 (by decide)) i) (fun i _ => hb_vc (e2 267 (by decide)) i) a3) a4 a5)
  · intro M2 y7 y8 gs gx gw g8 ge 
    intros
    have e2 : ∀ a, a < 272 → M2 a = M a := fun a ha => gw a ha rfl
    have hj2 : hv M2 234 48 = (j : Int) + 1 := by rw [hb_vc (e2 234 (by decide))]; exact hj
    have hk2 : hv M2 267 (12 * j) = (k : Int) := by rw [hb_vc (e2 267 (by decide))]; exact hk
    have hn2 : hv M2 267 (12 * j + 1) = (n : Int) := by rw [hb_vc (e2 267 (by decide))]; exact hn
    exact hm_s190 (by omega) hz gs gx hj2 hj1 p1 hk2 hn2 hk4 hn32 q2 q3 (fun M' a1 a2 a3 a4 a5 => KB M' a1 a2 (hm_Dt (hm_relf (q' := hm_sb_q) (k := k) (j := j) (by decide) (fun j _ => rfl) (by decide) gw g8 ge).1 (fun i => hb_vc (e2 262 (by decide)) i) (fun i => hb_vc (e2 261 (by decide)) i) (fun i _ => hb_vc (e2 267 (by decide)) i) a3) a4 a5)
  · intro M2 y7 y8 gs gx gw g8 ge 
    intros
    have e2 : ∀ a, a < 272 → M2 a = M a := fun a ha => gw a ha rfl
    have hj2 : hv M2 234 48 = (j : Int) + 1 := by rw [hb_vc (e2 234 (by decide))]; exact hj
    have hk2 : hv M2 267 (12 * j) = (k : Int) := by rw [hb_vc (e2 267 (by decide))]; exact hk
    have hn2 : hv M2 267 (12 * j + 1) = (n : Int) := by rw [hb_vc (e2 267 (by decide))]; exact hn
    refine he_aload (n := 245) (i := 0) (by decide +kernel) rfl ?_
    refine he_getr (n := 248) (ci := 9) (j := 49) (ns := [4226, 107]) (b := 267) gs (by decide +kernel) rfl rfl (by decide +kernel) ?_
    refine he_iload (n := 249) (i := 1) (by decide +kernel) rfl ?_
    refine he_iconst (n := 251) (c := 9) (by decide +kernel) (by decide) ?_
    intro ck249 hck249
    refine he_iadd (n := 252) (by decide +kernel) (by omega) (by omega) ?_
    intro vk251 hvk251
    refine he_iload (n := 254) (i := 4) (by decide +kernel) rfl ?_
    refine he_iadd (n := 255) (by decide +kernel) (by omega) (by omega) ?_
    intro vk254 hvk254
    refine he_iload (n := 257) (i := 5) (by decide +kernel) rfl ?_
    refine hb_sta (n := 258) (kind := 64) gs (by decide +kernel) rfl rfl (.inl rfl) (by omega) (show _ < (1680 : Int) by omega) ?_
    generalize hMk1 : hb_set M2 267 (vk254.toInt.toNat) x5 = Mk1
    have hmk1 : mz_sh mz_GG Mk1 := by rw [← hMk1]; exact hb_set_sh gs rfl (hm_f91 (by omega)) (by omega) (by omega)
    have eMk1 : ∀ b j, b ≠ 267 ∨ j ≠ vk254.toInt.toNat → hv Mk1 b j = hv M2 b j := by intro b j h; rw [← hMk1]; exact hb_set_n h
    have sMk1 : hv Mk1 267 (vk254.toInt.toNat) = x5.toInt := by rw [← hMk1]; exact hb_set_v gs rfl (show _ < 1680 by omega)
    have wMk1 : ∀ b, b ≠ 267 → Mk1 b = M2 b := by intro b h; rw [← hMk1]; exact hb_set_c h
    refine he_aload (n := 259) (i := 0) (by decide +kernel) rfl ?_
    refine he_iload (n := 260) (i := 1) (by decide +kernel) rfl ?_
    refine he_iload (n := 262) (i := 4) (by decide +kernel) rfl ?_
    refine he_iconst (n := 263) (c := 1) (by decide +kernel) (by decide) ?_
    intro ck262 hck262
    refine he_iadd (n := 264) (by decide +kernel) (by omega) (by omega) ?_
    intro vk263 hvk263
    refine he_v2 (n := 267) (j := 153) (ci := 9) (mx := 7) (ns := [6082, 6084, 86, 315]) (by decide +kernel) ((hb_kd (a := 234) hmk1 rfl).trans rfl) (by decide) (by show 3 ≤ 7; omega) ?_
    rw [mq_e153]
    have hxk1 : HX Mk1 := fun t => by rw [← hMk1]; exact hxk_s (hm_sp t _ _ (by omega)) (gx t)
    refine hm_goOn (j := j) (k := k) (n := n) hmk1 hxk1 (by rw [eMk1 _ _ (.inl (by decide))]; exact hj2) hj1 p1 (by rw [eMk1 _ _ (.inr (by omega))]; exact hk2) (by rw [eMk1 _ _ (.inr (by omega))]; exact hn2) (by rw [eMk1 _ _ (.inl (by decide)), hb_vc (e2 261 (by decide))]; exact hdf) (by omega) (by omega) ?_ ?_
    · intro M' a1 a2 a3 a4
      show mq_R mq_PP (d + 2) 154 267 _ [] (M', z, u) Q
      refine he_ret (by decide +kernel) ?_
      have l1 : ∀ i, i < 12 * j + 9 → hv Mk1 267 i = hv M 267 i := fun i hi => by rw [eMk1 _ _ (.inr (by omega)), hb_vc (e2 267 (by decide))]
      refine KA M' a1 (hm_Ex a2 hxk1) (hm_Ft (M' := Mk1) (hm_Ft (M' := M2) ?_ ?_) ⟨fun a _ h1 h2 => a2.1 a h1 h2, a2.2⟩) ?_ ?_
      · exact ⟨fun a h _ _ => e2 a h, fun i _ _ _ _ => hb_vc (e2 234 (by decide)) i⟩
      · exact ⟨fun a _ _ h => wMk1 a h, fun i _ _ _ _ => eMk1 _ _ (.inl (by decide))⟩
      · obtain ⟨b1, b2, b3, b4, b5, b6, b7, b8⟩ := a3
        exact ⟨b1, b2, b3, by rw [b4, l1 _ (by omega)], by rw [b5, l1 _ (by omega)], by rw [b6, l1 _ (by omega)], b7, fun i hi => by rw [b8 i hi, l1 i (by omega)]⟩
      · omega
    · intro M' a1 a2 a3 a4 a5
      show mq_R mq_PP (d + 2) 154 267 _ [] (M', z, u) Q
      refine he_ret (by decide +kernel) ?_
      refine KB M' a1 a2 (hm_Dt ?_ (fun i => ?_) (fun i => ?_) (fun i hi => ?_) a3) a4 a5
      · exact hm_St (hm_relf (q' := hm_sb_q) (k := k) (j := j) (by decide) (fun j _ => rfl) (by decide) gw g8 ge).1 (hm_ES ⟨fun a _ h => wMk1 a h, fun i _ _ _ _ => eMk1 _ _ (.inl (by decide))⟩)
      · rw [eMk1 _ _ (.inl (by decide)), hb_vc (e2 262 (by decide))]
      · rw [eMk1 _ _ (.inl (by decide)), hb_vc (e2 261 (by decide))]
      · rw [eMk1 _ _ (.inr (by omega)), hb_vc (e2 267 (by decide))]
  · intro M2 y7 y8 gs gx gw g8 ge 
    intros
    have e2 : ∀ a, a < 272 → M2 a = M a := fun a ha => gw a ha rfl
    have hj2 : hv M2 234 48 = (j : Int) + 1 := by rw [hb_vc (e2 234 (by decide))]; exact hj
    have hk2 : hv M2 267 (12 * j) = (k : Int) := by rw [hb_vc (e2 267 (by decide))]; exact hk
    have hn2 : hv M2 267 (12 * j + 1) = (n : Int) := by rw [hb_vc (e2 267 (by decide))]; exact hn
    refine he_aload (n := 245) (i := 0) (by decide +kernel) rfl ?_
    refine he_getr (n := 248) (ci := 9) (j := 49) (ns := [4226, 107]) (b := 267) gs (by decide +kernel) rfl rfl (by decide +kernel) ?_
    refine he_iload (n := 249) (i := 1) (by decide +kernel) rfl ?_
    refine he_iconst (n := 251) (c := 9) (by decide +kernel) (by decide) ?_
    intro ck249 hck249
    refine he_iadd (n := 252) (by decide +kernel) (by omega) (by omega) ?_
    intro vk251 hvk251
    refine he_iload (n := 254) (i := 4) (by decide +kernel) rfl ?_
    refine he_iadd (n := 255) (by decide +kernel) (by omega) (by omega) ?_
    intro vk254 hvk254
    refine he_iload (n := 257) (i := 5) (by decide +kernel) rfl ?_
    refine hb_sta (n := 258) (kind := 64) gs (by decide +kernel) rfl rfl (.inl rfl) (by omega) (show _ < (1680 : Int) by omega) ?_
    generalize hMk1 : hb_set M2 267 (vk254.toInt.toNat) x5 = Mk1
    have hmk1 : mz_sh mz_GG Mk1 := by rw [← hMk1]; exact hb_set_sh gs rfl (hm_f91 (by omega)) (by omega) (by omega)
    have eMk1 : ∀ b j, b ≠ 267 ∨ j ≠ vk254.toInt.toNat → hv Mk1 b j = hv M2 b j := by intro b j h; rw [← hMk1]; exact hb_set_n h
    have sMk1 : hv Mk1 267 (vk254.toInt.toNat) = x5.toInt := by rw [← hMk1]; exact hb_set_v gs rfl (show _ < 1680 by omega)
    have wMk1 : ∀ b, b ≠ 267 → Mk1 b = M2 b := by intro b h; rw [← hMk1]; exact hb_set_c h
    refine he_aload (n := 259) (i := 0) (by decide +kernel) rfl ?_
    refine he_iload (n := 260) (i := 1) (by decide +kernel) rfl ?_
    refine he_iload (n := 262) (i := 4) (by decide +kernel) rfl ?_
    refine he_iconst (n := 263) (c := 1) (by decide +kernel) (by decide) ?_
    intro ck262 hck262
    refine he_iadd (n := 264) (by decide +kernel) (by omega) (by omega) ?_
    intro vk263 hvk263
    refine he_v2 (n := 267) (j := 153) (ci := 9) (mx := 7) (ns := [6082, 6084, 86, 315]) (by decide +kernel) ((hb_kd (a := 234) hmk1 rfl).trans rfl) (by decide) (by show 3 ≤ 7; omega) ?_
    rw [mq_e153]
    have hxk1 : HX Mk1 := fun t => by rw [← hMk1]; exact hxk_s (hm_sp t _ _ (by omega)) (gx t)
    refine hm_goOn (j := j) (k := k) (n := n) hmk1 hxk1 (by rw [eMk1 _ _ (.inl (by decide))]; exact hj2) hj1 p1 (by rw [eMk1 _ _ (.inr (by omega))]; exact hk2) (by rw [eMk1 _ _ (.inr (by omega))]; exact hn2) (by rw [eMk1 _ _ (.inl (by decide)), hb_vc (e2 261 (by decide))]; exact hdf) (by omega) (by omega) ?_ ?_
    · intro M' a1 a2 a3 a4
      show mq_R mq_PP (d + 2) 154 267 _ [] (M', z, u) Q
      refine he_ret (by decide +kernel) ?_
      have l1 : ∀ i, i < 12 * j + 9 → hv Mk1 267 i = hv M 267 i := fun i hi => by rw [eMk1 _ _ (.inr (by omega)), hb_vc (e2 267 (by decide))]
      refine KA M' a1 (hm_Ex a2 hxk1) (hm_Ft (M' := Mk1) (hm_Ft (M' := M2) ?_ ?_) ⟨fun a _ h1 h2 => a2.1 a h1 h2, a2.2⟩) ?_ ?_
      · exact ⟨fun a h _ _ => e2 a h, fun i _ _ _ _ => hb_vc (e2 234 (by decide)) i⟩
      · exact ⟨fun a _ _ h => wMk1 a h, fun i _ _ _ _ => eMk1 _ _ (.inl (by decide))⟩
      · obtain ⟨b1, b2, b3, b4, b5, b6, b7, b8⟩ := a3
        exact ⟨b1, b2, b3, by rw [b4, l1 _ (by omega)], by rw [b5, l1 _ (by omega)], by rw [b6, l1 _ (by omega)], b7, fun i hi => by rw [b8 i hi, l1 i (by omega)]⟩
      · omega
    · intro M' a1 a2 a3 a4 a5
      show mq_R mq_PP (d + 2) 154 267 _ [] (M', z, u) Q
      refine he_ret (by decide +kernel) ?_
      refine KB M' a1 a2 (hm_Dt ?_ (fun i => ?_) (fun i => ?_) (fun i hi => ?_) a3) a4 a5
      · exact hm_St (hm_relf (q' := hm_sb_q) (k := k) (j := j) (by decide) (fun j _ => rfl) (by decide) gw g8 ge).1 (hm_ES ⟨fun a _ h => wMk1 a h, fun i _ _ _ _ => eMk1 _ _ (.inl (by decide))⟩)
      · rw [eMk1 _ _ (.inl (by decide)), hb_vc (e2 262 (by decide))]
      · rw [eMk1 _ _ (.inl (by decide)), hb_vc (e2 261 (by decide))]
      · rw [eMk1 _ _ (.inr (by omega)), hb_vc (e2 267 (by decide))]
  · intro M2 y7 y8 gs gx gw g8 ge 
    intros
    have e2 : ∀ a, a < 272 → M2 a = M a := fun a ha => gw a ha rfl
    have hj2 : hv M2 234 48 = (j : Int) + 1 := by rw [hb_vc (e2 234 (by decide))]; exact hj
    have hk2 : hv M2 267 (12 * j) = (k : Int) := by rw [hb_vc (e2 267 (by decide))]; exact hk
    have hn2 : hv M2 267 (12 * j + 1) = (n : Int) := by rw [hb_vc (e2 267 (by decide))]; exact hn
    exact hm_s190 (by omega) hz gs gx hj2 hj1 p1 hk2 hn2 hk4 hn32 q2 q3 (fun M' a1 a2 a3 a4 a5 => KB M' a1 a2 (hm_Dt (hm_relf (q' := hm_sb_q) (k := k) (j := j) (by decide) (fun j _ => rfl) (by decide) gw g8 ge).1 (fun i => hb_vc (e2 262 (by decide)) i) (fun i => hb_vc (e2 261 (by decide)) i) (fun i _ => hb_vc (e2 267 (by decide)) i) a3) a4 a5)
theorem hm_settle {d z u j k n : Nat} {Q : (Option Value ⊕ Nat) → mq_S → Prop} {M : Nat → mq_C} {x1 : Int32} (hd : 1 ≤ d + 2) (hz : 272 ≤ z) (hm : mz_sh mz_GG M) (hx : HX M) (hj : hv M 234 48 = (j : Int) + 1) (hj1 : j < 139) (p1 : x1.toInt = 12 * (j : Int)) (hk : hv M 267 (12 * j) = (k : Int)) (hn : hv M 267 (12 * j + 1) = (n : Int)) (hk4 : k < 4) (hn32 : n < 32) (hdf : hv M 261 (32 * k + n) = -1) (hs1 : 2 ≤ hv M 267 (12 * j + 2)) (hs2 : hv M 267 (12 * j + 2) ≤ 4) (hw : hm_w M)
    (KA : ∀ M' : Nat → mq_C, mz_sh mz_GG M' → HX M' → hm_F M M' → hm_N j M M' → hv M 267 (12 * j + 2) + 1 ≤ hv M' 267 (12 * j + 2) → Q (.inl none) (M', z, u))
    (KB : ∀ M' : Nat → mq_C, mz_sh mz_GG M' → HX M' → hm_D j k n M M' → hv M' 234 48 = (j : Int) → hm_w M' → Q (.inl none) (M', z, u)) : mq_R mq_PP (d + 2) 154 0 [some (.ref 234), some (.int x1), none, none, none, none, none, none, none] [] (M, z, u) Q := by
  refine he_aload (n := 1) (i := 0) (by decide +kernel) rfl ?_
  refine he_getr (n := 4) (ci := 9) (j := 49) (ns := [4226, 107]) (b := 267) hm (by decide +kernel) rfl rfl (by decide +kernel) ?_
  refine he_iload (n := 5) (i := 1) (by decide +kernel) rfl ?_
  refine hb_ld (n := 6) (kind := 64) hm (by decide +kernel) rfl rfl (.inl rfl) (by omega) (show _ < (1680 : Int) by omega) (hm_f0 (by omega)) ?_
  intro v5 hv5 lv5 uv5
  refine he_istore (n := 7) (i := 2) (by decide +kernel) rfl ?_
  refine he_aload (n := 8) (i := 0) (by decide +kernel) rfl ?_
  refine he_getr (n := 11) (ci := 9) (j := 49) (ns := [4226, 107]) (b := 267) hm (by decide +kernel) rfl rfl (by decide +kernel) ?_
  refine he_iload (n := 12) (i := 1) (by decide +kernel) rfl ?_
  refine he_iconst (n := 13) (c := 1) (by decide +kernel) (by decide) ?_
  intro c12 hc12
  refine he_iadd (n := 14) (by decide +kernel) (by omega) (by omega) ?_
  intro v13 hv13
  refine hb_ld (n := 15) (kind := 64) hm (by decide +kernel) rfl rfl (.inl rfl) (by omega) (show _ < (1680 : Int) by omega) (hm_f1 (by omega)) ?_
  intro v14 hv14 lv14 uv14
  refine he_istore (n := 16) (i := 3) (by decide +kernel) rfl ?_
  refine he_aload (n := 17) (i := 0) (by decide +kernel) rfl ?_
  refine he_getr (n := 20) (ci := 9) (j := 49) (ns := [4226, 107]) (b := 267) hm (by decide +kernel) rfl rfl (by decide +kernel) ?_
  refine he_iload (n := 21) (i := 1) (by decide +kernel) rfl ?_
  refine he_iconst (n := 22) (c := 2) (by decide +kernel) (by decide) ?_
  intro c21 hc21
  refine he_iadd (n := 23) (by decide +kernel) (by omega) (by omega) ?_
  intro v22 hv22
  refine hb_ld (n := 24) (kind := 64) hm (by decide +kernel) rfl rfl (.inl rfl) (by omega) (show _ < (1680 : Int) by omega) (hm_f2 (by omega)) ?_
  intro v23 hv23 lv23 uv23
  refine he_iconst (n := 25) (c := 2) (by decide +kernel) (by decide) ?_
  intro c24 hc24
  refine he_isub (n := 26) (by decide +kernel) (by omega) (by omega) ?_
  intro v25 hv25
  refine he_istore (n := 28) (i := 4) (by decide +kernel) rfl ?_
  refine he_aload (n := 29) (i := 0) (by decide +kernel) rfl ?_
  refine hb_gfd (n := 32) (ci := 9) (j := 50) (ns := [4227, 274]) hm (by decide +kernel) rfl rfl (by decide) rfl ?_
  intro v29 hv29 lv29 uv29
  refine he_istore (n := 34) (i := 5) (by decide +kernel) rfl ?_
  refine he_aload (n := 35) (i := 0) (by decide +kernel) rfl ?_
  refine hb_gfd (n := 38) (ci := 9) (j := 51) (ns := [4228, 277]) hm (by decide +kernel) rfl rfl (by decide) rfl ?_
  intro v35 hv35 lv35 uv35
  refine he_iconst (n := 39) (c := 1) (by decide +kernel) (by decide) ?_
  intro c38 hc38
  have q5 : v5.toInt = (k : Int) := by rw [← hv5, show x1.toInt.toNat = 12 * j by omega]; exact hk
  have q14 : v14.toInt = (n : Int) := by rw [← hv14, show v13.toInt.toNat = 12 * j + 1 by omega]; exact hn
  have q23 : v23.toInt = hv M 267 (12 * j + 2) := by rw [← hv23, show v22.toInt.toNat = 12 * j + 2 by omega]
  unfold hm_w at hw
  by_cases h39 : v35.toInt = c38.toInt
  · skip
    refine he_cmpeq_t (n := 42) (t := 50) (by decide +kernel) (by omega) ?_
    refine he_iconst (n := 52) (c := 7) (by decide +kernel) (by decide) ?_
    intro c50 hc50
    refine he_goto (t := 59) (by decide +kernel) ?_
    refine he_istore (n := 61) (i := 6) (by decide +kernel) rfl ?_
    refine he_iload (n := 63) (i := 6) (by decide +kernel) rfl ?_
    refine he_ifle_f (n := 66) (t := 96) (by decide +kernel) (by omega) ?_
    exact hm_s66 hm hx hj hj1 p1 hk hn hk4 hn32 q5 q14 (by omega) (by omega) KB
  · skip
    refine he_cmpeq_f (n := 42) (t := 50) (by decide +kernel) (by omega) ?_
    refine he_aload (n := 43) (i := 0) (by decide +kernel) rfl ?_
    refine hb_gfd (n := 46) (ci := 9) (j := 51) (ns := [4228, 277]) hm (by decide +kernel) rfl rfl (by decide) rfl ?_
    intro v43 hv43 lv43 uv43
    refine he_iconst (n := 47) (c := 2) (by decide +kernel) (by decide) ?_
    intro c46 hc46
    by_cases h47 : ¬ v43.toInt = c46.toInt
    · skip
      refine he_cmpne_t (n := 50) (t := 55) (by decide +kernel) (by omega) ?_
      refine he_aload (n := 56) (i := 0) (by decide +kernel) rfl ?_
      refine hb_gfd (n := 59) (ci := 9) (j := 51) (ns := [4228, 277]) hm (by decide +kernel) rfl rfl (by decide) rfl ?_
      intro v56 hv56 lv56 uv56
      refine he_istore (n := 61) (i := 6) (by decide +kernel) rfl ?_
      refine he_iload (n := 63) (i := 6) (by decide +kernel) rfl ?_
      by_cases h63 : v56.toInt ≤ 0
      · skip
        refine he_ifle_t (n := 66) (t := 96) (by decide +kernel) (by omega) ?_
        exact hm_s96 hd hz hm hx hj hj1 p1 hk hn hk4 hn32 hdf q5 q14 (by omega) (by omega) (by omega) (by omega) (by omega) KA KB
      · skip
        refine he_ifle_f (n := 66) (t := 96) (by decide +kernel) (by omega) ?_
        exact hm_s66 hm hx hj hj1 p1 hk hn hk4 hn32 q5 q14 (by omega) (by omega) KB
    · skip
      refine he_cmpne_f (n := 50) (t := 55) (by decide +kernel) (by omega) ?_
      refine he_iconst (n := 52) (c := 7) (by decide +kernel) (by decide) ?_
      intro c50 hc50
      refine he_goto (t := 59) (by decide +kernel) ?_
      refine he_istore (n := 61) (i := 6) (by decide +kernel) rfl ?_
      refine he_iload (n := 63) (i := 6) (by decide +kernel) rfl ?_
      refine he_ifle_f (n := 66) (t := 96) (by decide +kernel) (by omega) ?_
      exact hm_s66 hm hx hj hj1 p1 hk hn hk4 hn32 q5 q14 (by omega) (by omega) KB
