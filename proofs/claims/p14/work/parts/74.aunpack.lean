/-! unpack of an archive. -/
def hn_b47_q : mz_Q := (49, [(1, 47), (0, 0), (1, 9), (0, 0), (0, 0), (0, 0), (1, 48), (0, 0), (1, 9)], [(0, [(4, 1)]), (0, [(5, 1)]), (240, [(4, -1), (5, -1)]), (0, [(1, 1)]), (5, [(1, -1)])], [4, 3, 5, 6, 7], [(0, 0, [(0, [(75, 1)]), (1, [(75, -1)])])], [9, 10, 11, 12, 13, 14, 15, 16, 17, 18, 19, 20, 21, 22, 23])
def hn_b47_s : List mz_Sp2 := []
def hn_b47_h : List mz_H := [(37, 0, []), (0, 0, [(1, 1)]), (0, 0, [(0, 1)]), (0, 0, [(2, 1)]), (0, 0, []), (0, 0, []), (3, 0, []), (0, 0, [(1, 1)]), (0, 0, []), (0, 0, []), (0, 0, []), (0, 0, []), (0, 0, []), (55, 0, []), (0, 0, [(18, 1)]), (0, 0, [(19, 1)]), (0, 0, []), (0, 0, []), (0, 0, []), (0, 0, []), (0, 0, []), (0, 0, []), (0, 0, []), (36, 0, []), (0, 0, []), (54, 0, []), (0, 0, [(24, 1)]), (0, 0, [(25, 1)]), (0, 0, []), (0, 0, []), (0, 0, []), (0, 0, []), (0, 0, []), (0, 0, []), (0, 0, []), (0, 0, []), (0, 0, []), (0, 0, []), (0, 0, []), (0, 0, [])]
set_option maxRecDepth 100000 in
theorem hn_b47_c : mz_blk mz_GG mq_PP mz_Cs hn_b47_q 4 5 41 hn_b47_s [] 30 hn_b47_h = true := by decide +kernel
theorem hn_b47 {X : (Nat → mq_C) → Prop} (hX : ∀ M M' : Nat → mq_C, mz_same mz_GG M M' → X M → X M') (hC : ∀ c ∈ mz_Cs, c.2 < 5 → mz_Ct mz_GG mq_PP X c.1 c.2) {d z u : Nat} {M : Nat → mq_C} {Q : (Option Value ⊕ Nat) → mq_S → Prop} {x1 : Int32} {x3 : Int32} {x4 : Int32} {x5 : Int32} {x7 : Int32} (hd : 5 ≤ d) (hz : 272 ≤ z) (hm : mz_sh mz_GG M) (hx : X M) (p0 : 0 ≤ x4.toInt) (p1 : 0 ≤ x5.toInt) (p2 : 0 ≤ 240 - x4.toInt - x5.toInt) (p3 : 0 ≤ x1.toInt) (p4 : 0 ≤ 5 - x1.toInt)
    (w0 : ∀ (M' : Nat → mq_C) (r : Int32), mz_sh mz_GG M' → X M' → mz_fr hn_b47_q M M' → (∀ a, a < 8 → M' a = M a) → hb_same mz_GG hn_b47_q M M' → 0 ≤ r.toInt → 0 ≤ 1 - r.toInt → Q (.inl (some (.int r))) (M', z, u)) : mq_R mq_PP d 49 41 [some (.ref 47), some (.int x1), some (.ref 9), some (.int x3)] [.int x4, .int x5, .ref 48, .int x7, .ref 9] (M, z, u) Q := by
  refine hb_blk mz_GG mq_PP X (q := hn_b47_q) (nl := 4) (M := M) hb_okG hX hC hn_b47_c hz hd (L := [some (.ref 47), some (.int x1), some (.ref 9), some (.int x3)]) (st := [.int x4, .int x5, .ref 48, .int x7, .ref 9]) (show hb_lk mz_GG ([(1, 47), (0, 0), (1, 9), (0, 0)]) _ from ⟨⟨List.mem_singleton.mpr rfl, rfl⟩, trivial, ⟨List.mem_singleton.mpr rfl, rfl⟩, trivial, trivial⟩) (show hb_pk mz_GG ([(0, 0), (0, 0), (1, 48), (0, 0), (1, 9)]) _ from ⟨trivial, trivial, ⟨List.mem_singleton.mpr rfl, rfl⟩, trivial, ⟨List.mem_singleton.mpr rfl, rfl⟩, trivial⟩) hm hx ?_ ?_ ?_
  · exact hb_cons (show 0 ≤ mz_ev _ _ from (show 0 ≤ 0 + (1 * x4.toInt + 0) by omega)) (hb_cons (show 0 ≤ mz_ev _ _ from (show 0 ≤ 0 + (1 * x5.toInt + 0) by omega)) (hb_cons (show 0 ≤ mz_ev _ _ from (show 0 ≤ 240 + ((-1) * x4.toInt + ((-1) * x5.toInt + 0)) by omega)) (hb_cons (show 0 ≤ mz_ev _ _ from (show 0 ≤ 0 + (1 * x1.toInt + 0) by omega)) (hb_cons (show 0 ≤ mz_ev _ _ from (show 0 ≤ 5 + ((-1) * x1.toInt + 0) by omega)) (hb_nil)))))
  · intro s hs
    cases hs
  · intro r S hpo
    obtain ⟨b1, b2, b3, b4, b5, p, hp, res, hf, hre⟩ := hpo
    rcases List.mem_cons.mp hp with rfl | hp
    · obtain ⟨x, rfl, hr, hz1, hu1⟩ := mz_re_0 mz_GG hre rfl
      obtain ⟨M', z', u'⟩ := S
      cases hz1
      cases hu1
      have r75 : hb_r1 mz_GG hn_b47_q (hb_rb mz_GG hn_b47_q 4 [some (.ref 47), some (.int x1), some (.ref 9), some (.int x3)] [.int x4, .int x5, .ref 48, .int x7, .ref 9] M) M' res 75 = res := rfl
      obtain ⟨f0, hf⟩ := hb_unc hf
      have f0 : 0 ≤ 0 + (1 * res + 0) := f0
      rw [← hr] at f0
      obtain ⟨f1, hf⟩ := hb_unc hf
      have f1 : 0 ≤ 1 + ((-1) * res + 0) := f1
      rw [← hr] at f1
      exact w0 M' x b1 b2 b3 b4 b5 (by have h1 := f0; omega) (by have h1 := f1; omega)
    cases hp

theorem hn_a47 {d z u : Nat} {Q : (Option Value ⊕ Nat) → mq_S → Prop} {M : Nat → mq_C} {x1 : Int32} (hC : ∀ c ∈ mz_Cs, c.2 < 5 → mz_Ct mz_GG mq_PP HX c.1 c.2) (hd : 6 ≤ d) (hz : 272 ≤ z) (hm : mz_sh mz_GG M) (hx : HX M)
    (K : ∀ (M' : Nat → mq_C) (r : Int32), mz_sh mz_GG M' → HX M' → mz_fr mz_q84 M M' → (∀ a, a < 8 → M' a = M a) → hb_same mz_GG mz_q84 M M' → 0 ≤ r.toInt → 0 ≤ 1 - r.toInt → Q (.inl (some (.int r))) (M', z, u)) : mq_R mq_PP d 49 0 [some (.ref 47), some (.int x1), some (.ref 9), none] [] (M, z, u) Q := by
  refine he_iload (n := 1) (i := 1) (by decide +kernel) rfl ?_
  by_cases h1 : x1.toInt < 0
  · skip
    refine he_iflt_t (n := 4) (t := 12) (by decide +kernel) (by omega) ?_
    refine he_iconst (n := 13) (c := 0) (by decide +kernel) (by decide) ?_
    intro c12 hc12
    refine he_retz (by decide +kernel) (by omega) ?_
    exact K M _ hm hx hb_fr_r (fun _ _ => rfl) hb_same_r (by omega) (by omega)
  · skip
    refine he_iflt_f (n := 4) (t := 12) (by decide +kernel) (by omega) ?_
    refine he_iload (n := 5) (i := 1) (by decide +kernel) rfl ?_
    refine he_aload (n := 6) (i := 0) (by decide +kernel) rfl ?_
    refine hb_gfd (n := 9) (ci := 1) (j := 4) (ns := [1224, 30]) hm (by decide +kernel) rfl rfl (by decide) rfl ?_
    intro v6 hv6 lv6 uv6
    by_cases h9 : x1.toInt < v6.toInt
    · skip
      refine he_cmplt_t (n := 12) (t := 14) (by decide +kernel) (by omega) ?_
      refine he_aload (n := 15) (i := 0) (by decide +kernel) rfl ?_
      refine he_getr (n := 18) (ci := 1) (j := 10) (ns := [1230, 48]) (b := 57) hm (by decide +kernel) rfl rfl (by decide +kernel) ?_
      refine he_iload (n := 19) (i := 1) (by decide +kernel) rfl ?_
      refine hb_ld (n := 20) (kind := 64) hm (by decide +kernel) rfl rfl (.inl rfl) (by omega) (show _ < (6 : Int) by omega) hb_at1 ?_
      intro v19 hv19 lv19 uv19
      refine he_iconst (n := 21) (c := 2) (by decide +kernel) (by decide) ?_
      intro c20 hc20
      refine he_iadd (n := 22) (by decide +kernel) (by omega) (by omega) ?_
      intro v21 hv21
      refine he_istore (n := 23) (i := 3) (by decide +kernel) rfl ?_
      refine he_aload (n := 24) (i := 2) (by decide +kernel) rfl ?_
      refine he_aload (n := 25) (i := 0) (by decide +kernel) rfl ?_
      refine he_getr (n := 28) (ci := 1) (j := 6) (ns := [1226, 36]) (b := 53) hm (by decide +kernel) rfl rfl (by decide +kernel) ?_
      refine he_iload (n := 29) (i := 1) (by decide +kernel) rfl ?_
      refine hb_ld (n := 30) (kind := 64) hm (by decide +kernel) rfl rfl (.inl rfl) (by omega) (show _ < (6 : Int) by omega) hb_at1 ?_
      intro v29 hv29 lv29 uv29
      refine he_aload (n := 31) (i := 0) (by decide +kernel) rfl ?_
      refine he_getr (n := 34) (ci := 1) (j := 0) (ns := [1214, 9]) (b := 48) hm (by decide +kernel) rfl rfl (by decide +kernel) ?_
      refine he_iload (n := 35) (i := 3) (by decide +kernel) rfl ?_
      refine he_aload (n := 36) (i := 0) (by decide +kernel) rfl ?_
      refine he_getr (n := 39) (ci := 1) (j := 9) (ns := [1229, 45]) (b := 56) hm (by decide +kernel) rfl rfl (by decide +kernel) ?_
      refine he_iload (n := 40) (i := 1) (by decide +kernel) rfl ?_
      refine hb_ld (n := 41) (kind := 64) hm (by decide +kernel) rfl rfl (.inl rfl) (by omega) (show _ < (6 : Int) by omega) hb_at1 ?_
      intro v40 hv40 lv40 uv40
      have hX2 := hx 5 x1.toInt.toNat (by omega) (by rw [hv6]; omega)
      have hX2 : hv M (47 + 10) x1.toInt.toNat + hv M (47 + 9) x1.toInt.toNat + 2 ≤ 240 := hX2
      rw [hv19, hv40] at hX2
      refine hn_b47 HX_same hC (by omega) hz hm hx (by omega) (by omega) (by omega) (by omega) (by omega) ?_
      intro M' r k1 k2 k3 k4 k5 l1 l2
      exact K M' r k1 k2 (hb_fr_t (q' := hn_b47_q) (hb_wsub (by decide)) hb_fr_r k3) k4 (hb_same_t (q' := hn_b47_q) (fun j hj => hj) hb_same_r k5) l1 l2
    · skip
      refine he_cmplt_f (n := 12) (t := 14) (by decide +kernel) (by omega) ?_
      refine he_iconst (n := 13) (c := 0) (by decide +kernel) (by decide) ?_
      intro c12 hc12
      refine he_retz (by decide +kernel) (by omega) ?_
      exact K M _ hm hx hb_fr_r (fun _ _ => rfl) hb_same_r (by omega) (by omega)
def hn_b58_q : mz_Q := (49, [(1, 58), (0, 0), (1, 9), (0, 0), (0, 0), (0, 0), (1, 59), (0, 0), (1, 9)], [(0, [(4, 1)]), (0, [(5, 1)]), (240, [(4, -1), (5, -1)]), (0, [(1, 1)]), (5, [(1, -1)])], [4, 3, 5, 6, 7], [(0, 0, [(0, [(75, 1)]), (1, [(75, -1)])])], [9, 10, 11, 12, 13, 14, 15, 16, 17, 18, 19, 20, 21, 22, 23])
def hn_b58_s : List mz_Sp2 := []
def hn_b58_h : List mz_H := [(37, 0, []), (0, 0, [(1, 1)]), (0, 0, [(0, 1)]), (0, 0, [(2, 1)]), (0, 0, []), (0, 0, []), (3, 0, []), (0, 0, [(1, 1)]), (0, 0, []), (0, 0, []), (0, 0, []), (0, 0, []), (0, 0, []), (66, 0, []), (0, 0, [(18, 1)]), (0, 0, [(19, 1)]), (0, 0, []), (0, 0, []), (0, 0, []), (0, 0, []), (0, 0, []), (0, 0, []), (0, 0, []), (36, 0, []), (0, 0, []), (65, 0, []), (0, 0, [(24, 1)]), (0, 0, [(25, 1)]), (0, 0, []), (0, 0, []), (0, 0, []), (0, 0, []), (0, 0, []), (0, 0, []), (0, 0, []), (0, 0, []), (0, 0, []), (0, 0, []), (0, 0, []), (0, 0, [])]
set_option maxRecDepth 100000 in
theorem hn_b58_c : mz_blk mz_GG mq_PP mz_Cs hn_b58_q 4 5 41 hn_b58_s [] 30 hn_b58_h = true := by decide +kernel
theorem hn_b58 {X : (Nat → mq_C) → Prop} (hX : ∀ M M' : Nat → mq_C, mz_same mz_GG M M' → X M → X M') (hC : ∀ c ∈ mz_Cs, c.2 < 5 → mz_Ct mz_GG mq_PP X c.1 c.2) {d z u : Nat} {M : Nat → mq_C} {Q : (Option Value ⊕ Nat) → mq_S → Prop} {x1 : Int32} {x3 : Int32} {x4 : Int32} {x5 : Int32} {x7 : Int32} (hd : 5 ≤ d) (hz : 272 ≤ z) (hm : mz_sh mz_GG M) (hx : X M) (p0 : 0 ≤ x4.toInt) (p1 : 0 ≤ x5.toInt) (p2 : 0 ≤ 240 - x4.toInt - x5.toInt) (p3 : 0 ≤ x1.toInt) (p4 : 0 ≤ 5 - x1.toInt)
    (w0 : ∀ (M' : Nat → mq_C) (r : Int32), mz_sh mz_GG M' → X M' → mz_fr hn_b58_q M M' → (∀ a, a < 8 → M' a = M a) → hb_same mz_GG hn_b58_q M M' → 0 ≤ r.toInt → 0 ≤ 1 - r.toInt → Q (.inl (some (.int r))) (M', z, u)) : mq_R mq_PP d 49 41 [some (.ref 58), some (.int x1), some (.ref 9), some (.int x3)] [.int x4, .int x5, .ref 59, .int x7, .ref 9] (M, z, u) Q := by
  refine hb_blk mz_GG mq_PP X (q := hn_b58_q) (nl := 4) (M := M) hb_okG hX hC hn_b58_c hz hd (L := [some (.ref 58), some (.int x1), some (.ref 9), some (.int x3)]) (st := [.int x4, .int x5, .ref 59, .int x7, .ref 9]) (show hb_lk mz_GG ([(1, 58), (0, 0), (1, 9), (0, 0)]) _ from ⟨⟨List.mem_singleton.mpr rfl, rfl⟩, trivial, ⟨List.mem_singleton.mpr rfl, rfl⟩, trivial, trivial⟩) (show hb_pk mz_GG ([(0, 0), (0, 0), (1, 59), (0, 0), (1, 9)]) _ from ⟨trivial, trivial, ⟨List.mem_singleton.mpr rfl, rfl⟩, trivial, ⟨List.mem_singleton.mpr rfl, rfl⟩, trivial⟩) hm hx ?_ ?_ ?_
  · exact hb_cons (show 0 ≤ mz_ev _ _ from (show 0 ≤ 0 + (1 * x4.toInt + 0) by omega)) (hb_cons (show 0 ≤ mz_ev _ _ from (show 0 ≤ 0 + (1 * x5.toInt + 0) by omega)) (hb_cons (show 0 ≤ mz_ev _ _ from (show 0 ≤ 240 + ((-1) * x4.toInt + ((-1) * x5.toInt + 0)) by omega)) (hb_cons (show 0 ≤ mz_ev _ _ from (show 0 ≤ 0 + (1 * x1.toInt + 0) by omega)) (hb_cons (show 0 ≤ mz_ev _ _ from (show 0 ≤ 5 + ((-1) * x1.toInt + 0) by omega)) (hb_nil)))))
  · intro s hs
    cases hs
  · intro r S hpo
    obtain ⟨b1, b2, b3, b4, b5, p, hp, res, hf, hre⟩ := hpo
    rcases List.mem_cons.mp hp with rfl | hp
    · obtain ⟨x, rfl, hr, hz1, hu1⟩ := mz_re_0 mz_GG hre rfl
      obtain ⟨M', z', u'⟩ := S
      cases hz1
      cases hu1
      have r75 : hb_r1 mz_GG hn_b58_q (hb_rb mz_GG hn_b58_q 4 [some (.ref 58), some (.int x1), some (.ref 9), some (.int x3)] [.int x4, .int x5, .ref 59, .int x7, .ref 9] M) M' res 75 = res := rfl
      obtain ⟨f0, hf⟩ := hb_unc hf
      have f0 : 0 ≤ 0 + (1 * res + 0) := f0
      rw [← hr] at f0
      obtain ⟨f1, hf⟩ := hb_unc hf
      have f1 : 0 ≤ 1 + ((-1) * res + 0) := f1
      rw [← hr] at f1
      exact w0 M' x b1 b2 b3 b4 b5 (by have h1 := f0; omega) (by have h1 := f1; omega)
    cases hp

theorem hn_a58 {d z u : Nat} {Q : (Option Value ⊕ Nat) → mq_S → Prop} {M : Nat → mq_C} {x1 : Int32} (hC : ∀ c ∈ mz_Cs, c.2 < 5 → mz_Ct mz_GG mq_PP HX c.1 c.2) (hd : 6 ≤ d) (hz : 272 ≤ z) (hm : mz_sh mz_GG M) (hx : HX M)
    (K : ∀ (M' : Nat → mq_C) (r : Int32), mz_sh mz_GG M' → HX M' → mz_fr mz_q84 M M' → (∀ a, a < 8 → M' a = M a) → hb_same mz_GG mz_q84 M M' → 0 ≤ r.toInt → 0 ≤ 1 - r.toInt → Q (.inl (some (.int r))) (M', z, u)) : mq_R mq_PP d 49 0 [some (.ref 58), some (.int x1), some (.ref 9), none] [] (M, z, u) Q := by
  refine he_iload (n := 1) (i := 1) (by decide +kernel) rfl ?_
  by_cases h1 : x1.toInt < 0
  · skip
    refine he_iflt_t (n := 4) (t := 12) (by decide +kernel) (by omega) ?_
    refine he_iconst (n := 13) (c := 0) (by decide +kernel) (by decide) ?_
    intro c12 hc12
    refine he_retz (by decide +kernel) (by omega) ?_
    exact K M _ hm hx hb_fr_r (fun _ _ => rfl) hb_same_r (by omega) (by omega)
  · skip
    refine he_iflt_f (n := 4) (t := 12) (by decide +kernel) (by omega) ?_
    refine he_iload (n := 5) (i := 1) (by decide +kernel) rfl ?_
    refine he_aload (n := 6) (i := 0) (by decide +kernel) rfl ?_
    refine hb_gfd (n := 9) (ci := 1) (j := 4) (ns := [1224, 30]) hm (by decide +kernel) rfl rfl (by decide) rfl ?_
    intro v6 hv6 lv6 uv6
    by_cases h9 : x1.toInt < v6.toInt
    · skip
      refine he_cmplt_t (n := 12) (t := 14) (by decide +kernel) (by omega) ?_
      refine he_aload (n := 15) (i := 0) (by decide +kernel) rfl ?_
      refine he_getr (n := 18) (ci := 1) (j := 10) (ns := [1230, 48]) (b := 68) hm (by decide +kernel) rfl rfl (by decide +kernel) ?_
      refine he_iload (n := 19) (i := 1) (by decide +kernel) rfl ?_
      refine hb_ld (n := 20) (kind := 64) hm (by decide +kernel) rfl rfl (.inl rfl) (by omega) (show _ < (6 : Int) by omega) hb_at1 ?_
      intro v19 hv19 lv19 uv19
      refine he_iconst (n := 21) (c := 2) (by decide +kernel) (by decide) ?_
      intro c20 hc20
      refine he_iadd (n := 22) (by decide +kernel) (by omega) (by omega) ?_
      intro v21 hv21
      refine he_istore (n := 23) (i := 3) (by decide +kernel) rfl ?_
      refine he_aload (n := 24) (i := 2) (by decide +kernel) rfl ?_
      refine he_aload (n := 25) (i := 0) (by decide +kernel) rfl ?_
      refine he_getr (n := 28) (ci := 1) (j := 6) (ns := [1226, 36]) (b := 64) hm (by decide +kernel) rfl rfl (by decide +kernel) ?_
      refine he_iload (n := 29) (i := 1) (by decide +kernel) rfl ?_
      refine hb_ld (n := 30) (kind := 64) hm (by decide +kernel) rfl rfl (.inl rfl) (by omega) (show _ < (6 : Int) by omega) hb_at1 ?_
      intro v29 hv29 lv29 uv29
      refine he_aload (n := 31) (i := 0) (by decide +kernel) rfl ?_
      refine he_getr (n := 34) (ci := 1) (j := 0) (ns := [1214, 9]) (b := 59) hm (by decide +kernel) rfl rfl (by decide +kernel) ?_
      refine he_iload (n := 35) (i := 3) (by decide +kernel) rfl ?_
      refine he_aload (n := 36) (i := 0) (by decide +kernel) rfl ?_
      refine he_getr (n := 39) (ci := 1) (j := 9) (ns := [1229, 45]) (b := 67) hm (by decide +kernel) rfl rfl (by decide +kernel) ?_
      refine he_iload (n := 40) (i := 1) (by decide +kernel) rfl ?_
      refine hb_ld (n := 41) (kind := 64) hm (by decide +kernel) rfl rfl (.inl rfl) (by omega) (show _ < (6 : Int) by omega) hb_at1 ?_
      intro v40 hv40 lv40 uv40
      have hX2 := hx 6 x1.toInt.toNat (by omega) (by rw [hv6]; omega)
      have hX2 : hv M (58 + 10) x1.toInt.toNat + hv M (58 + 9) x1.toInt.toNat + 2 ≤ 240 := hX2
      rw [hv19, hv40] at hX2
      refine hn_b58 HX_same hC (by omega) hz hm hx (by omega) (by omega) (by omega) (by omega) (by omega) ?_
      intro M' r k1 k2 k3 k4 k5 l1 l2
      exact K M' r k1 k2 (hb_fr_t (q' := hn_b58_q) (hb_wsub (by decide)) hb_fr_r k3) k4 (hb_same_t (q' := hn_b58_q) (fun j hj => hj) hb_same_r k5) l1 l2
    · skip
      refine he_cmplt_f (n := 12) (t := 14) (by decide +kernel) (by omega) ?_
      refine he_iconst (n := 13) (c := 0) (by decide +kernel) (by decide) ?_
      intro c12 hc12
      refine he_retz (by decide +kernel) (by omega) ?_
      exact K M _ hm hx hb_fr_r (fun _ _ => rfl) hb_same_r (by omega) (by omega)
def hn_b69_q : mz_Q := (49, [(1, 69), (0, 0), (1, 9), (0, 0), (0, 0), (0, 0), (1, 70), (0, 0), (1, 9)], [(0, [(4, 1)]), (0, [(5, 1)]), (240, [(4, -1), (5, -1)]), (0, [(1, 1)]), (5, [(1, -1)])], [4, 3, 5, 6, 7], [(0, 0, [(0, [(75, 1)]), (1, [(75, -1)])])], [9, 10, 11, 12, 13, 14, 15, 16, 17, 18, 19, 20, 21, 22, 23])
def hn_b69_s : List mz_Sp2 := []
def hn_b69_h : List mz_H := [(37, 0, []), (0, 0, [(1, 1)]), (0, 0, [(0, 1)]), (0, 0, [(2, 1)]), (0, 0, []), (0, 0, []), (3, 0, []), (0, 0, [(1, 1)]), (0, 0, []), (0, 0, []), (0, 0, []), (0, 0, []), (0, 0, []), (77, 0, []), (0, 0, [(18, 1)]), (0, 0, [(19, 1)]), (0, 0, []), (0, 0, []), (0, 0, []), (0, 0, []), (0, 0, []), (0, 0, []), (0, 0, []), (36, 0, []), (0, 0, []), (76, 0, []), (0, 0, [(24, 1)]), (0, 0, [(25, 1)]), (0, 0, []), (0, 0, []), (0, 0, []), (0, 0, []), (0, 0, []), (0, 0, []), (0, 0, []), (0, 0, []), (0, 0, []), (0, 0, []), (0, 0, []), (0, 0, [])]
set_option maxRecDepth 100000 in
theorem hn_b69_c : mz_blk mz_GG mq_PP mz_Cs hn_b69_q 4 5 41 hn_b69_s [] 30 hn_b69_h = true := by decide +kernel
theorem hn_b69 {X : (Nat → mq_C) → Prop} (hX : ∀ M M' : Nat → mq_C, mz_same mz_GG M M' → X M → X M') (hC : ∀ c ∈ mz_Cs, c.2 < 5 → mz_Ct mz_GG mq_PP X c.1 c.2) {d z u : Nat} {M : Nat → mq_C} {Q : (Option Value ⊕ Nat) → mq_S → Prop} {x1 : Int32} {x3 : Int32} {x4 : Int32} {x5 : Int32} {x7 : Int32} (hd : 5 ≤ d) (hz : 272 ≤ z) (hm : mz_sh mz_GG M) (hx : X M) (p0 : 0 ≤ x4.toInt) (p1 : 0 ≤ x5.toInt) (p2 : 0 ≤ 240 - x4.toInt - x5.toInt) (p3 : 0 ≤ x1.toInt) (p4 : 0 ≤ 5 - x1.toInt)
    (w0 : ∀ (M' : Nat → mq_C) (r : Int32), mz_sh mz_GG M' → X M' → mz_fr hn_b69_q M M' → (∀ a, a < 8 → M' a = M a) → hb_same mz_GG hn_b69_q M M' → 0 ≤ r.toInt → 0 ≤ 1 - r.toInt → Q (.inl (some (.int r))) (M', z, u)) : mq_R mq_PP d 49 41 [some (.ref 69), some (.int x1), some (.ref 9), some (.int x3)] [.int x4, .int x5, .ref 70, .int x7, .ref 9] (M, z, u) Q := by
  refine hb_blk mz_GG mq_PP X (q := hn_b69_q) (nl := 4) (M := M) hb_okG hX hC hn_b69_c hz hd (L := [some (.ref 69), some (.int x1), some (.ref 9), some (.int x3)]) (st := [.int x4, .int x5, .ref 70, .int x7, .ref 9]) (show hb_lk mz_GG ([(1, 69), (0, 0), (1, 9), (0, 0)]) _ from ⟨⟨List.mem_singleton.mpr rfl, rfl⟩, trivial, ⟨List.mem_singleton.mpr rfl, rfl⟩, trivial, trivial⟩) (show hb_pk mz_GG ([(0, 0), (0, 0), (1, 70), (0, 0), (1, 9)]) _ from ⟨trivial, trivial, ⟨List.mem_singleton.mpr rfl, rfl⟩, trivial, ⟨List.mem_singleton.mpr rfl, rfl⟩, trivial⟩) hm hx ?_ ?_ ?_
  · exact hb_cons (show 0 ≤ mz_ev _ _ from (show 0 ≤ 0 + (1 * x4.toInt + 0) by omega)) (hb_cons (show 0 ≤ mz_ev _ _ from (show 0 ≤ 0 + (1 * x5.toInt + 0) by omega)) (hb_cons (show 0 ≤ mz_ev _ _ from (show 0 ≤ 240 + ((-1) * x4.toInt + ((-1) * x5.toInt + 0)) by omega)) (hb_cons (show 0 ≤ mz_ev _ _ from (show 0 ≤ 0 + (1 * x1.toInt + 0) by omega)) (hb_cons (show 0 ≤ mz_ev _ _ from (show 0 ≤ 5 + ((-1) * x1.toInt + 0) by omega)) (hb_nil)))))
  · intro s hs
    cases hs
  · intro r S hpo
    obtain ⟨b1, b2, b3, b4, b5, p, hp, res, hf, hre⟩ := hpo
    rcases List.mem_cons.mp hp with rfl | hp
    · obtain ⟨x, rfl, hr, hz1, hu1⟩ := mz_re_0 mz_GG hre rfl
      obtain ⟨M', z', u'⟩ := S
      cases hz1
      cases hu1
      have r75 : hb_r1 mz_GG hn_b69_q (hb_rb mz_GG hn_b69_q 4 [some (.ref 69), some (.int x1), some (.ref 9), some (.int x3)] [.int x4, .int x5, .ref 70, .int x7, .ref 9] M) M' res 75 = res := rfl
      obtain ⟨f0, hf⟩ := hb_unc hf
      have f0 : 0 ≤ 0 + (1 * res + 0) := f0
      rw [← hr] at f0
      obtain ⟨f1, hf⟩ := hb_unc hf
      have f1 : 0 ≤ 1 + ((-1) * res + 0) := f1
      rw [← hr] at f1
      exact w0 M' x b1 b2 b3 b4 b5 (by have h1 := f0; omega) (by have h1 := f1; omega)
    cases hp

theorem hn_a69 {d z u : Nat} {Q : (Option Value ⊕ Nat) → mq_S → Prop} {M : Nat → mq_C} {x1 : Int32} (hC : ∀ c ∈ mz_Cs, c.2 < 5 → mz_Ct mz_GG mq_PP HX c.1 c.2) (hd : 6 ≤ d) (hz : 272 ≤ z) (hm : mz_sh mz_GG M) (hx : HX M)
    (K : ∀ (M' : Nat → mq_C) (r : Int32), mz_sh mz_GG M' → HX M' → mz_fr mz_q84 M M' → (∀ a, a < 8 → M' a = M a) → hb_same mz_GG mz_q84 M M' → 0 ≤ r.toInt → 0 ≤ 1 - r.toInt → Q (.inl (some (.int r))) (M', z, u)) : mq_R mq_PP d 49 0 [some (.ref 69), some (.int x1), some (.ref 9), none] [] (M, z, u) Q := by
  refine he_iload (n := 1) (i := 1) (by decide +kernel) rfl ?_
  by_cases h1 : x1.toInt < 0
  · skip
    refine he_iflt_t (n := 4) (t := 12) (by decide +kernel) (by omega) ?_
    refine he_iconst (n := 13) (c := 0) (by decide +kernel) (by decide) ?_
    intro c12 hc12
    refine he_retz (by decide +kernel) (by omega) ?_
    exact K M _ hm hx hb_fr_r (fun _ _ => rfl) hb_same_r (by omega) (by omega)
  · skip
    refine he_iflt_f (n := 4) (t := 12) (by decide +kernel) (by omega) ?_
    refine he_iload (n := 5) (i := 1) (by decide +kernel) rfl ?_
    refine he_aload (n := 6) (i := 0) (by decide +kernel) rfl ?_
    refine hb_gfd (n := 9) (ci := 1) (j := 4) (ns := [1224, 30]) hm (by decide +kernel) rfl rfl (by decide) rfl ?_
    intro v6 hv6 lv6 uv6
    by_cases h9 : x1.toInt < v6.toInt
    · skip
      refine he_cmplt_t (n := 12) (t := 14) (by decide +kernel) (by omega) ?_
      refine he_aload (n := 15) (i := 0) (by decide +kernel) rfl ?_
      refine he_getr (n := 18) (ci := 1) (j := 10) (ns := [1230, 48]) (b := 79) hm (by decide +kernel) rfl rfl (by decide +kernel) ?_
      refine he_iload (n := 19) (i := 1) (by decide +kernel) rfl ?_
      refine hb_ld (n := 20) (kind := 64) hm (by decide +kernel) rfl rfl (.inl rfl) (by omega) (show _ < (6 : Int) by omega) hb_at1 ?_
      intro v19 hv19 lv19 uv19
      refine he_iconst (n := 21) (c := 2) (by decide +kernel) (by decide) ?_
      intro c20 hc20
      refine he_iadd (n := 22) (by decide +kernel) (by omega) (by omega) ?_
      intro v21 hv21
      refine he_istore (n := 23) (i := 3) (by decide +kernel) rfl ?_
      refine he_aload (n := 24) (i := 2) (by decide +kernel) rfl ?_
      refine he_aload (n := 25) (i := 0) (by decide +kernel) rfl ?_
      refine he_getr (n := 28) (ci := 1) (j := 6) (ns := [1226, 36]) (b := 75) hm (by decide +kernel) rfl rfl (by decide +kernel) ?_
      refine he_iload (n := 29) (i := 1) (by decide +kernel) rfl ?_
      refine hb_ld (n := 30) (kind := 64) hm (by decide +kernel) rfl rfl (.inl rfl) (by omega) (show _ < (6 : Int) by omega) hb_at1 ?_
      intro v29 hv29 lv29 uv29
      refine he_aload (n := 31) (i := 0) (by decide +kernel) rfl ?_
      refine he_getr (n := 34) (ci := 1) (j := 0) (ns := [1214, 9]) (b := 70) hm (by decide +kernel) rfl rfl (by decide +kernel) ?_
      refine he_iload (n := 35) (i := 3) (by decide +kernel) rfl ?_
      refine he_aload (n := 36) (i := 0) (by decide +kernel) rfl ?_
      refine he_getr (n := 39) (ci := 1) (j := 9) (ns := [1229, 45]) (b := 78) hm (by decide +kernel) rfl rfl (by decide +kernel) ?_
      refine he_iload (n := 40) (i := 1) (by decide +kernel) rfl ?_
      refine hb_ld (n := 41) (kind := 64) hm (by decide +kernel) rfl rfl (.inl rfl) (by omega) (show _ < (6 : Int) by omega) hb_at1 ?_
      intro v40 hv40 lv40 uv40
      have hX2 := hx 7 x1.toInt.toNat (by omega) (by rw [hv6]; omega)
      have hX2 : hv M (69 + 10) x1.toInt.toNat + hv M (69 + 9) x1.toInt.toNat + 2 ≤ 240 := hX2
      rw [hv19, hv40] at hX2
      refine hn_b69 HX_same hC (by omega) hz hm hx (by omega) (by omega) (by omega) (by omega) (by omega) ?_
      intro M' r k1 k2 k3 k4 k5 l1 l2
      exact K M' r k1 k2 (hb_fr_t (q' := hn_b69_q) (hb_wsub (by decide)) hb_fr_r k3) k4 (hb_same_t (q' := hn_b69_q) (fun j hj => hj) hb_same_r k5) l1 l2
    · skip
      refine he_cmplt_f (n := 12) (t := 14) (by decide +kernel) (by omega) ?_
      refine he_iconst (n := 13) (c := 0) (by decide +kernel) (by decide) ?_
      intro c12 hc12
      refine he_retz (by decide +kernel) (by omega) ?_
      exact K M _ hm hx hb_fr_r (fun _ _ => rfl) hb_same_r (by omega) (by omega)
def hn_b80_q : mz_Q := (49, [(1, 80), (0, 0), (1, 9), (0, 0), (0, 0), (0, 0), (1, 81), (0, 0), (1, 9)], [(0, [(4, 1)]), (0, [(5, 1)]), (240, [(4, -1), (5, -1)]), (0, [(1, 1)]), (5, [(1, -1)])], [4, 3, 5, 6, 7], [(0, 0, [(0, [(75, 1)]), (1, [(75, -1)])])], [9, 10, 11, 12, 13, 14, 15, 16, 17, 18, 19, 20, 21, 22, 23])
def hn_b80_s : List mz_Sp2 := []
def hn_b80_h : List mz_H := [(37, 0, []), (0, 0, [(1, 1)]), (0, 0, [(0, 1)]), (0, 0, [(2, 1)]), (0, 0, []), (0, 0, []), (3, 0, []), (0, 0, [(1, 1)]), (0, 0, []), (0, 0, []), (0, 0, []), (0, 0, []), (0, 0, []), (88, 0, []), (0, 0, [(18, 1)]), (0, 0, [(19, 1)]), (0, 0, []), (0, 0, []), (0, 0, []), (0, 0, []), (0, 0, []), (0, 0, []), (0, 0, []), (36, 0, []), (0, 0, []), (87, 0, []), (0, 0, [(24, 1)]), (0, 0, [(25, 1)]), (0, 0, []), (0, 0, []), (0, 0, []), (0, 0, []), (0, 0, []), (0, 0, []), (0, 0, []), (0, 0, []), (0, 0, []), (0, 0, []), (0, 0, []), (0, 0, [])]
set_option maxRecDepth 100000 in
theorem hn_b80_c : mz_blk mz_GG mq_PP mz_Cs hn_b80_q 4 5 41 hn_b80_s [] 30 hn_b80_h = true := by decide +kernel
theorem hn_b80 {X : (Nat → mq_C) → Prop} (hX : ∀ M M' : Nat → mq_C, mz_same mz_GG M M' → X M → X M') (hC : ∀ c ∈ mz_Cs, c.2 < 5 → mz_Ct mz_GG mq_PP X c.1 c.2) {d z u : Nat} {M : Nat → mq_C} {Q : (Option Value ⊕ Nat) → mq_S → Prop} {x1 : Int32} {x3 : Int32} {x4 : Int32} {x5 : Int32} {x7 : Int32} (hd : 5 ≤ d) (hz : 272 ≤ z) (hm : mz_sh mz_GG M) (hx : X M) (p0 : 0 ≤ x4.toInt) (p1 : 0 ≤ x5.toInt) (p2 : 0 ≤ 240 - x4.toInt - x5.toInt) (p3 : 0 ≤ x1.toInt) (p4 : 0 ≤ 5 - x1.toInt)
    (w0 : ∀ (M' : Nat → mq_C) (r : Int32), mz_sh mz_GG M' → X M' → mz_fr hn_b80_q M M' → (∀ a, a < 8 → M' a = M a) → hb_same mz_GG hn_b80_q M M' → 0 ≤ r.toInt → 0 ≤ 1 - r.toInt → Q (.inl (some (.int r))) (M', z, u)) : mq_R mq_PP d 49 41 [some (.ref 80), some (.int x1), some (.ref 9), some (.int x3)] [.int x4, .int x5, .ref 81, .int x7, .ref 9] (M, z, u) Q := by
  refine hb_blk mz_GG mq_PP X (q := hn_b80_q) (nl := 4) (M := M) hb_okG hX hC hn_b80_c hz hd (L := [some (.ref 80), some (.int x1), some (.ref 9), some (.int x3)]) (st := [.int x4, .int x5, .ref 81, .int x7, .ref 9]) (show hb_lk mz_GG ([(1, 80), (0, 0), (1, 9), (0, 0)]) _ from ⟨⟨List.mem_singleton.mpr rfl, rfl⟩, trivial, ⟨List.mem_singleton.mpr rfl, rfl⟩, trivial, trivial⟩) (show hb_pk mz_GG ([(0, 0), (0, 0), (1, 81), (0, 0), (1, 9)]) _ from ⟨trivial, trivial, ⟨List.mem_singleton.mpr rfl, rfl⟩, trivial, ⟨List.mem_singleton.mpr rfl, rfl⟩, trivial⟩) hm hx ?_ ?_ ?_
  · exact hb_cons (show 0 ≤ mz_ev _ _ from (show 0 ≤ 0 + (1 * x4.toInt + 0) by omega)) (hb_cons (show 0 ≤ mz_ev _ _ from (show 0 ≤ 0 + (1 * x5.toInt + 0) by omega)) (hb_cons (show 0 ≤ mz_ev _ _ from (show 0 ≤ 240 + ((-1) * x4.toInt + ((-1) * x5.toInt + 0)) by omega)) (hb_cons (show 0 ≤ mz_ev _ _ from (show 0 ≤ 0 + (1 * x1.toInt + 0) by omega)) (hb_cons (show 0 ≤ mz_ev _ _ from (show 0 ≤ 5 + ((-1) * x1.toInt + 0) by omega)) (hb_nil)))))
  · intro s hs
    cases hs
  · intro r S hpo
    obtain ⟨b1, b2, b3, b4, b5, p, hp, res, hf, hre⟩ := hpo
    rcases List.mem_cons.mp hp with rfl | hp
    · obtain ⟨x, rfl, hr, hz1, hu1⟩ := mz_re_0 mz_GG hre rfl
      obtain ⟨M', z', u'⟩ := S
      cases hz1
      cases hu1
      have r75 : hb_r1 mz_GG hn_b80_q (hb_rb mz_GG hn_b80_q 4 [some (.ref 80), some (.int x1), some (.ref 9), some (.int x3)] [.int x4, .int x5, .ref 81, .int x7, .ref 9] M) M' res 75 = res := rfl
      obtain ⟨f0, hf⟩ := hb_unc hf
      have f0 : 0 ≤ 0 + (1 * res + 0) := f0
      rw [← hr] at f0
      obtain ⟨f1, hf⟩ := hb_unc hf
      have f1 : 0 ≤ 1 + ((-1) * res + 0) := f1
      rw [← hr] at f1
      exact w0 M' x b1 b2 b3 b4 b5 (by have h1 := f0; omega) (by have h1 := f1; omega)
    cases hp

theorem hn_a80 {d z u : Nat} {Q : (Option Value ⊕ Nat) → mq_S → Prop} {M : Nat → mq_C} {x1 : Int32} (hC : ∀ c ∈ mz_Cs, c.2 < 5 → mz_Ct mz_GG mq_PP HX c.1 c.2) (hd : 6 ≤ d) (hz : 272 ≤ z) (hm : mz_sh mz_GG M) (hx : HX M)
    (K : ∀ (M' : Nat → mq_C) (r : Int32), mz_sh mz_GG M' → HX M' → mz_fr mz_q84 M M' → (∀ a, a < 8 → M' a = M a) → hb_same mz_GG mz_q84 M M' → 0 ≤ r.toInt → 0 ≤ 1 - r.toInt → Q (.inl (some (.int r))) (M', z, u)) : mq_R mq_PP d 49 0 [some (.ref 80), some (.int x1), some (.ref 9), none] [] (M, z, u) Q := by
  refine he_iload (n := 1) (i := 1) (by decide +kernel) rfl ?_
  by_cases h1 : x1.toInt < 0
  · skip
    refine he_iflt_t (n := 4) (t := 12) (by decide +kernel) (by omega) ?_
    refine he_iconst (n := 13) (c := 0) (by decide +kernel) (by decide) ?_
    intro c12 hc12
    refine he_retz (by decide +kernel) (by omega) ?_
    exact K M _ hm hx hb_fr_r (fun _ _ => rfl) hb_same_r (by omega) (by omega)
  · skip
    refine he_iflt_f (n := 4) (t := 12) (by decide +kernel) (by omega) ?_
    refine he_iload (n := 5) (i := 1) (by decide +kernel) rfl ?_
    refine he_aload (n := 6) (i := 0) (by decide +kernel) rfl ?_
    refine hb_gfd (n := 9) (ci := 1) (j := 4) (ns := [1224, 30]) hm (by decide +kernel) rfl rfl (by decide) rfl ?_
    intro v6 hv6 lv6 uv6
    by_cases h9 : x1.toInt < v6.toInt
    · skip
      refine he_cmplt_t (n := 12) (t := 14) (by decide +kernel) (by omega) ?_
      refine he_aload (n := 15) (i := 0) (by decide +kernel) rfl ?_
      refine he_getr (n := 18) (ci := 1) (j := 10) (ns := [1230, 48]) (b := 90) hm (by decide +kernel) rfl rfl (by decide +kernel) ?_
      refine he_iload (n := 19) (i := 1) (by decide +kernel) rfl ?_
      refine hb_ld (n := 20) (kind := 64) hm (by decide +kernel) rfl rfl (.inl rfl) (by omega) (show _ < (6 : Int) by omega) hb_at1 ?_
      intro v19 hv19 lv19 uv19
      refine he_iconst (n := 21) (c := 2) (by decide +kernel) (by decide) ?_
      intro c20 hc20
      refine he_iadd (n := 22) (by decide +kernel) (by omega) (by omega) ?_
      intro v21 hv21
      refine he_istore (n := 23) (i := 3) (by decide +kernel) rfl ?_
      refine he_aload (n := 24) (i := 2) (by decide +kernel) rfl ?_
      refine he_aload (n := 25) (i := 0) (by decide +kernel) rfl ?_
      refine he_getr (n := 28) (ci := 1) (j := 6) (ns := [1226, 36]) (b := 86) hm (by decide +kernel) rfl rfl (by decide +kernel) ?_
      refine he_iload (n := 29) (i := 1) (by decide +kernel) rfl ?_
      refine hb_ld (n := 30) (kind := 64) hm (by decide +kernel) rfl rfl (.inl rfl) (by omega) (show _ < (6 : Int) by omega) hb_at1 ?_
      intro v29 hv29 lv29 uv29
      refine he_aload (n := 31) (i := 0) (by decide +kernel) rfl ?_
      refine he_getr (n := 34) (ci := 1) (j := 0) (ns := [1214, 9]) (b := 81) hm (by decide +kernel) rfl rfl (by decide +kernel) ?_
      refine he_iload (n := 35) (i := 3) (by decide +kernel) rfl ?_
      refine he_aload (n := 36) (i := 0) (by decide +kernel) rfl ?_
      refine he_getr (n := 39) (ci := 1) (j := 9) (ns := [1229, 45]) (b := 89) hm (by decide +kernel) rfl rfl (by decide +kernel) ?_
      refine he_iload (n := 40) (i := 1) (by decide +kernel) rfl ?_
      refine hb_ld (n := 41) (kind := 64) hm (by decide +kernel) rfl rfl (.inl rfl) (by omega) (show _ < (6 : Int) by omega) hb_at1 ?_
      intro v40 hv40 lv40 uv40
      have hX2 := hx 8 x1.toInt.toNat (by omega) (by rw [hv6]; omega)
      have hX2 : hv M (80 + 10) x1.toInt.toNat + hv M (80 + 9) x1.toInt.toNat + 2 ≤ 240 := hX2
      rw [hv19, hv40] at hX2
      refine hn_b80 HX_same hC (by omega) hz hm hx (by omega) (by omega) (by omega) (by omega) (by omega) ?_
      intro M' r k1 k2 k3 k4 k5 l1 l2
      exact K M' r k1 k2 (hb_fr_t (q' := hn_b80_q) (hb_wsub (by decide)) hb_fr_r k3) k4 (hb_same_t (q' := hn_b80_q) (fun j hj => hj) hb_same_r k5) l1 l2
    · skip
      refine he_cmplt_f (n := 12) (t := 14) (by decide +kernel) (by omega) ?_
      refine he_iconst (n := 13) (c := 0) (by decide +kernel) (by decide) ?_
      intro c12 hc12
      refine he_retz (by decide +kernel) (by omega) ?_
      exact K M _ hm hx hb_fr_r (fun _ _ => rfl) hb_same_r (by omega) (by omega)
theorem hs_aunpack_P (hC : ∀ c ∈ mz_Cs, c.2 < 6 → mz_Ct mz_GG mq_PP HX c.1 c.2) : hc_aunpack_P := by
  intro d z u M Q b0 x1 hd hz hm hx hb K
  have hC' : ∀ c ∈ mz_Cs, c.2 < 5 → mz_Ct mz_GG mq_PP HX c.1 c.2 := fun c hc h => hC c hc (by omega)
  simp only [List.mem_cons, List.not_mem_nil, or_false] at hb
  rcases hb with rfl | rfl | rfl | rfl
  · exact hn_a47 hC' hd hz hm hx K
  · exact hn_a58 hC' hd hz hm hx K
  · exact hn_a69 hC' hd hz hm hx K
  · exact hn_a80 hC' hd hz hm hx K
theorem hs_aunpack (hC : ∀ c ∈ mz_Cs, c.2 < 6 → mz_Ct mz_GG mq_PP HX c.1 c.2) : mz_Ct mz_GG mq_PP HX mz_q84 6 := hc_aunpack (hs_aunpack_P hC)
