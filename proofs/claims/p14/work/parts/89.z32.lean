/-! enter of the class, exactly. -/
def lr_enter (dr bo re en nm m dr2 bo2 re2 en2 r : Int) : Prop := (r = 0 ∧ (nm = 0 ∨ ¬ m = 0 ∧ ¬ m = 8 ∨ 6 ≤ en ∨ 240 < bo + 2 + dr + 12 + nm + 4 + re) ∧ dr2 = dr ∧ bo2 = bo ∧ re2 = re ∧ en2 = en) ∨ (r = 1 ∧ 1 ≤ nm ∧ (m = 0 ∨ m = 8) ∧ en ≤ 5 ∧ bo + 2 + dr + 12 + nm + 4 + re ≤ 240 ∧ dr2 = 0 ∧ bo2 = bo + 2 + dr ∧ re2 = re + 12 + nm ∧ en2 = en + 1)
theorem lr_enter_d {dr bo re en nm m dr2 bo2 re2 en2 r dr3 bo3 re3 en3 r3 : Int} (h : lr_enter dr bo re en nm m dr2 bo2 re2 en2 r) (h2 : lr_enter dr bo re en nm m dr3 bo3 re3 en3 r3) : dr2 = dr3 ∧ bo2 = bo3 ∧ re2 = re3 ∧ en2 = en3 ∧ r = r3 := by
  unfold lr_enter at h h2
  omega
def la_qh : mz_Q := (75, [(1, 33), (0, 0)], [(0, [(1, 1)]), (4, [(1, -1)])], [], [(0, 0, [(-1, [(63, 1)]), (1, [(63, -1)]), (5, [(13, -1)]), (222, [(1, -1), (10, -1), (11, -1), (12, -1)])]), (0, 0, [(0, [(63, 1)]), (0, [(63, -1)]), (-6, [(13, 1)])]), (0, 0, [(0, [(63, 1)]), (0, [(63, -1)]), (-223, [(1, 1), (10, 1), (11, 1), (12, 1)])])], [])
def la_yh : mz_Ck := (36, [], [], [(0, 0, []), (0, 0, [(20, 1)]), (0, 0, [(21, 1)]), (0, 0, []), (0, 0, [(20, 1)]), (0, 0, [(21, 1)]), (0, 0, []), (0, 0, [(0, 1), (20, 1)]), (0, 0, [(1, 1), (21, 1)]), (0, 0, []), (0, 0, []), (0, 0, []), (0, 0, []), (1, 0, []), (0, 0, []), (0, 0, []), (0, 0, [(0, 1)]), (0, 0, []), (0, 0, [(23, 1), (25, 1)]), (0, 0, [(24, 1), (26, 1)]), (0, 0, []), (0, 0, [(23, 1), (25, 1)]), (0, 0, [(24, 1), (26, 1)]), (0, 0, []), (0, 0, [(1, 1), (21, 1), (23, 1), (25, 1)]), (0, 0, [(2, 1), (22, 1), (24, 1), (26, 1)]), (0, 0, []), (0, 0, []), (0, 0, []), (0, 0, []), (2, 0, []), (0, 0, []), (0, 0, []), (0, 0, [(0, 1)]), (0, 0, []), (0, 0, []), (0, 0, []), (0, 0, []), (0, 0, []), (0, 0, [(1, 1)]), (0, 0, [(0, 1)])], [])
set_option maxRecDepth 100000 in
theorem la_ch : mz_chk mz_GG mq_PP mz_Cs la_qh 1 la_yh = true := by decide +kernel
theorem la_hrf : mz_Ct mz_GG mq_PP HX la_qh 1 := ha_chk (fun c hc _ => ha_all c hc) la_ch
theorem lx_hasRoomFor {X : (Nat → mq_C) → Prop} (hq : mz_Ct mz_GG mq_PP X la_qh 1) {d z u : Nat} {M : Nat → mq_C} {Q : (Option Value ⊕ Nat) → mq_S → Prop} {x1 : Int32} (hd : 1 ≤ d) (hz : 272 ≤ z) (hm : mz_sh mz_GG M) (hx : X M) (p0 : 0 ≤ x1.toInt) (p1 : 0 ≤ 4 - x1.toInt)
    (w0 : ∀ (M' : Nat → mq_C) (r : Int32), mz_sh mz_GG M' → X M' → mz_fr la_qh M M' → (∀ a, a < 8 → M' a = M a) → hb_same mz_GG la_qh M M' → r.toInt = 1 → 0 ≤ 5 - hv M 33 6 → 0 ≤ 222 - x1.toInt - hv M 33 1 - hv M 33 3 - hv M 33 5 → Q (.inl (some (.int r))) (M', z, u))
    (w1 : ∀ (M' : Nat → mq_C) (r : Int32), mz_sh mz_GG M' → X M' → mz_fr la_qh M M' → (∀ a, a < 8 → M' a = M a) → hb_same mz_GG la_qh M M' → r.toInt = 0 → 0 ≤ (-6) + hv M 33 6 → Q (.inl (some (.int r))) (M', z, u))
    (w2 : ∀ (M' : Nat → mq_C) (r : Int32), mz_sh mz_GG M' → X M' → mz_fr la_qh M M' → (∀ a, a < 8 → M' a = M a) → hb_same mz_GG la_qh M M' → r.toInt = 0 → 0 ≤ (-223) + x1.toInt + hv M 33 1 + hv M 33 3 + hv M 33 5 → Q (.inl (some (.int r))) (M', z, u)) : mq_R mq_PP d 75 0 [some (.ref 33), some (.int x1), none] [] (M, z, u) Q := by
  refine hb_use mz_GG mq_PP X (q := la_qh) (vs := [.ref 33, .int x1]) hq (by decide +kernel) hd (show hb_pk mz_GG [(1, 33), (0, 0)] _ from ⟨⟨List.mem_singleton.mpr rfl, rfl⟩, trivial, trivial⟩) hm hx hz ?_ ?_
  · exact hb_cons (show 0 ≤ mz_ev _ _ from (show 0 ≤ 0 + (1 * x1.toInt + 0) by omega)) (hb_cons (show 0 ≤ mz_ev _ _ from (show 0 ≤ 4 + ((-1) * x1.toInt + 0) by omega)) (hb_nil))
  · intro r S hpo
    obtain ⟨b1, b2, b3, b4, b5, p, hp, res, hf, hre⟩ := hpo
    rcases List.mem_cons.mp hp with rfl | hp
    · obtain ⟨x, rfl, hr, hz1, hu1⟩ := mz_re_0 mz_GG hre rfl
      obtain ⟨M', z', u'⟩ := S
      cases hz1
      cases hu1
      obtain ⟨f0, hf⟩ := hb_unc hf
      have f0 : 0 ≤ -1 + (1 * res + 0) := f0
      rw [← hr] at f0
      obtain ⟨f1, hf⟩ := hb_unc hf
      have f1 : 0 ≤ 1 + ((-1) * res + 0) := f1
      rw [← hr] at f1
      obtain ⟨f2, hf⟩ := hb_unc hf
      have f2 : 0 ≤ 5 + ((-1) * hv M 33 6 + 0) := f2
      obtain ⟨f3, hf⟩ := hb_unc hf
      have f3 : 0 ≤ 222 + ((-1) * x1.toInt + ((-1) * hv M 33 1 + ((-1) * hv M 33 3 + ((-1) * hv M 33 5 + 0)))) := f3
      exact w0 M' x b1 b2 b3 b4 b5 (by have h1 := f0; have h2 := f1; omega) (by have h1 := f2; omega) (by have h1 := f3; omega)
    rcases List.mem_cons.mp hp with rfl | hp
    · obtain ⟨x, rfl, hr, hz1, hu1⟩ := mz_re_0 mz_GG hre rfl
      obtain ⟨M', z', u'⟩ := S
      cases hz1
      cases hu1
      obtain ⟨f0, hf⟩ := hb_unc hf
      have f0 : 0 ≤ 0 + (1 * res + 0) := f0
      rw [← hr] at f0
      obtain ⟨f1, hf⟩ := hb_unc hf
      have f1 : 0 ≤ 0 + ((-1) * res + 0) := f1
      rw [← hr] at f1
      obtain ⟨f2, hf⟩ := hb_unc hf
      have f2 : 0 ≤ -6 + (1 * hv M 33 6 + 0) := f2
      exact w1 M' x b1 b2 b3 b4 b5 (by have h1 := f0; have h2 := f1; omega) (by have h1 := f2; omega)
    rcases List.mem_cons.mp hp with rfl | hp
    · obtain ⟨x, rfl, hr, hz1, hu1⟩ := mz_re_0 mz_GG hre rfl
      obtain ⟨M', z', u'⟩ := S
      cases hz1
      cases hu1
      obtain ⟨f0, hf⟩ := hb_unc hf
      have f0 : 0 ≤ 0 + (1 * res + 0) := f0
      rw [← hr] at f0
      obtain ⟨f1, hf⟩ := hb_unc hf
      have f1 : 0 ≤ 0 + ((-1) * res + 0) := f1
      rw [← hr] at f1
      obtain ⟨f2, hf⟩ := hb_unc hf
      have f2 : 0 ≤ -223 + (1 * x1.toInt + (1 * hv M 33 1 + (1 * hv M 33 3 + (1 * hv M 33 5 + 0)))) := f2
      exact w2 M' x b1 b2 b3 b4 b5 (by have h1 := f0; have h2 := f1; omega) (by have h1 := f2; omega)
    cases hp
def lx_b1_q : mz_Q := (2, [(1, 8), (0, 0), (0, 0), (0, 0), (3, 0)], [(-1, [(3, 1)]), (4, [(3, -1)]), (0, [(2, 1)]), (8, [(2, -1)]), (5, [(16, -1)]), (222, [(3, -1), (13, -1), (14, -1), (15, -1)])], [8, 9, 10, 11, 4, 3, 5, 6, 7], [(0, 0, [(-1, [(75, 1)]), (1, [(75, -1)]), (0, [(66, 1)]), (0, [(66, -1)]), (-2, [(13, -1), (14, -1), (67, 1)]), (2, [(13, 1), (14, 1), (67, -1)]), (-12, [(3, -1), (15, -1), (68, 1)]), (12, [(3, 1), (15, 1), (68, -1)]), (-1, [(16, -1), (69, 1)]), (1, [(16, 1), (69, -1)])])], [9, 10, 11, 12, 13, 14, 15, 16, 17, 18, 19, 20, 21, 22, 23, 33, 35, 36])
def lx_b1_s : List mz_Sp2 := []
def lx_b1_h : List mz_H := [(9, 0, []), (33, 0, []), (34, 0, []), (33, 0, []), (37, 0, []), (0, 0, []), (0, 0, [(28, 1)]), (0, 0, [(29, 1)]), (0, 0, []), (33, 0, []), (76, 0, []), (0, 0, [(16, 1)]), (0, 0, [(17, 1)]), (0, 0, [(19, 1), (46, 1), (14, 1)]), (0, 0, []), (33, 0, []), (78, 0, []), (0, 0, [(18, 1)]), (0, 0, [(19, 1)]), (0, 0, [(23, 1), (46, 1), (48, 1)]), (0, 0, []), (33, 0, []), (0, 0, []), (3, 0, []), (0, 0, [(9, 1)]), (0, 0, []), (1, 0, []), (0, 0, [(1, 1)]), (0, 0, [(0, 1)]), (79, 0, []), (0, 0, [(4, 1), (31, 1), (54, 1), (56, 1)]), (0, 0, [(30, 1)]), (0, 0, []), (0, 0, []), (0, 0, []), (0, 0, []), (0, 0, []), (0, 0, []), (0, 0, [(3, 1)]), (0, 0, [(2, 1)]), (0, 0, [(21, 1)]), (0, 0, [(20, 1)]), (0, 0, [(5, 1), (17, 1)]), (0, 0, [(4, 1), (16, 1)]), (0, 0, [(1, 1)]), (0, 0, [(0, 1)]), (9, 0, []), (36, 0, []), (0, 0, []), (1, 1, []), (0, 0, [(2, 1)]), (3, 0, []), (0, 0, [(2, 1)]), (9, 0, []), (79, 0, []), (0, 0, [(4, 1), (31, 1), (54, 1), (56, 1)]), (0, 0, [(30, 1)]), (0, 0, []), (0, 0, []), (0, 0, []), (0, 0, []), (0, 0, []), (0, 0, []), (0, 0, [(3, 1)]), (0, 0, [(2, 1)]), (0, 0, [(21, 1)]), (0, 0, [(20, 1)]), (0, 0, [(5, 1), (17, 1)]), (0, 0, [(4, 1), (16, 1)]), (0, 0, [(1, 1)]), (0, 0, [(0, 1)])]
set_option maxRecDepth 100000 in
theorem lx_b1_c : mz_blk mz_GG mq_PP mz_Cs lx_b1_q 5 5 32 lx_b1_s [] 51 lx_b1_h = true := by decide +kernel
theorem lx_b1 {X : (Nat → mq_C) → Prop} (hX : ∀ M M' : Nat → mq_C, mz_same mz_GG M M' → X M → X M') (hC : ∀ c ∈ mz_Cs, c.2 < 5 → mz_Ct mz_GG mq_PP X c.1 c.2) {d z u : Nat} {M : Nat → mq_C} {Q : (Option Value ⊕ Nat) → mq_S → Prop} {x1 : Int32} {x2 : Int32} {x3 : Int32} {o4 : Option Value} (hd : 5 ≤ d) (hz : 272 ≤ z) (hm : mz_sh mz_GG M) (hx : X M) (h0 : mq_nl o4 = true) (p0 : 0 ≤ (-1) + x3.toInt) (p1 : 0 ≤ 4 - x3.toInt) (p2 : 0 ≤ x2.toInt) (p3 : 0 ≤ 8 - x2.toInt) (p4 : 0 ≤ 5 - hv M 33 6) (p5 : 0 ≤ 222 - x3.toInt - hv M 33 1 - hv M 33 3 - hv M 33 5)
    (w0 : ∀ (M' : Nat → mq_C) (r : Int32), mz_sh mz_GG M' → X M' → mz_fr lx_b1_q M M' → (∀ a, a < 8 → M' a = M a) → hb_same mz_GG lx_b1_q M M' → 0 ≤ (-1) + r.toInt → 0 ≤ 1 - r.toInt → 0 ≤ hv M' 33 1 → 0 ≤ 0 - hv M' 33 1 → 0 ≤ (-2) - hv M 33 1 - hv M 33 3 + hv M' 33 3 → 0 ≤ 2 + hv M 33 1 + hv M 33 3 - hv M' 33 3 → 0 ≤ (-12) - x3.toInt - hv M 33 5 + hv M' 33 5 → 0 ≤ 12 + x3.toInt + hv M 33 5 - hv M' 33 5 → 0 ≤ (-1) - hv M 33 6 + hv M' 33 6 → 0 ≤ 1 + hv M 33 6 - hv M' 33 6 → Q (.inl (some (.int r))) (M', z, u)) : mq_R mq_PP d 2 32 [some (.ref 8), some (.int x1), some (.int x2), some (.int x3), o4] [] (M, z, u) Q := by
  refine hb_blk mz_GG mq_PP X (q := lx_b1_q) (nl := 5) (M := M) hb_okG hX hC lx_b1_c hz hd (L := [some (.ref 8), some (.int x1), some (.int x2), some (.int x3), o4]) (st := []) (show hb_lk mz_GG ([(1, 8), (0, 0), (0, 0), (0, 0), (3, 0)]) _ from ⟨⟨List.mem_singleton.mpr rfl, rfl⟩, trivial, trivial, trivial, h0, trivial⟩) (show hb_pk mz_GG ([]) _ from trivial) hm hx ?_ ?_ ?_
  · exact hb_cons (show 0 ≤ mz_ev _ _ from (show 0 ≤ -1 + (1 * x3.toInt + 0) by omega)) (hb_cons (show 0 ≤ mz_ev _ _ from (show 0 ≤ 4 + ((-1) * x3.toInt + 0) by omega)) (hb_cons (show 0 ≤ mz_ev _ _ from (show 0 ≤ 0 + (1 * x2.toInt + 0) by omega)) (hb_cons (show 0 ≤ mz_ev _ _ from (show 0 ≤ 8 + ((-1) * x2.toInt + 0) by omega)) (hb_cons (show 0 ≤ mz_ev _ _ from (show 0 ≤ 5 + ((-1) * hv M 33 6 + 0) by omega)) (hb_cons (show 0 ≤ mz_ev _ _ from (show 0 ≤ 222 + ((-1) * x3.toInt + ((-1) * hv M 33 1 + ((-1) * hv M 33 3 + ((-1) * hv M 33 5 + 0)))) by omega)) (hb_nil))))))
  · intro s hs
    cases hs
  · intro r S hpo
    obtain ⟨b1, b2, b3, b4, b5, p, hp, res, hf, hre⟩ := hpo
    rcases List.mem_cons.mp hp with rfl | hp
    · obtain ⟨x, rfl, hr, hz1, hu1⟩ := mz_re_0 mz_GG hre rfl
      obtain ⟨M', z', u'⟩ := S
      cases hz1
      cases hu1
      have r3 : hb_r1 mz_GG lx_b1_q (hb_rb mz_GG lx_b1_q 5 [some (.ref 8), some (.int x1), some (.int x2), some (.int x3), o4] [] M) M' res 3 = x3.toInt := rfl
      have r13 : hb_r1 mz_GG lx_b1_q (hb_rb mz_GG lx_b1_q 5 [some (.ref 8), some (.int x1), some (.int x2), some (.int x3), o4] [] M) M' res 13 = hv M 33 1 := rfl
      have r14 : hb_r1 mz_GG lx_b1_q (hb_rb mz_GG lx_b1_q 5 [some (.ref 8), some (.int x1), some (.int x2), some (.int x3), o4] [] M) M' res 14 = hv M 33 3 := rfl
      have r15 : hb_r1 mz_GG lx_b1_q (hb_rb mz_GG lx_b1_q 5 [some (.ref 8), some (.int x1), some (.int x2), some (.int x3), o4] [] M) M' res 15 = hv M 33 5 := rfl
      have r16 : hb_r1 mz_GG lx_b1_q (hb_rb mz_GG lx_b1_q 5 [some (.ref 8), some (.int x1), some (.int x2), some (.int x3), o4] [] M) M' res 16 = hv M 33 6 := rfl
      have r66 : hb_r1 mz_GG lx_b1_q (hb_rb mz_GG lx_b1_q 5 [some (.ref 8), some (.int x1), some (.int x2), some (.int x3), o4] [] M) M' res 66 = hv M' 33 1 := rfl
      have r67 : hb_r1 mz_GG lx_b1_q (hb_rb mz_GG lx_b1_q 5 [some (.ref 8), some (.int x1), some (.int x2), some (.int x3), o4] [] M) M' res 67 = hv M' 33 3 := rfl
      have r68 : hb_r1 mz_GG lx_b1_q (hb_rb mz_GG lx_b1_q 5 [some (.ref 8), some (.int x1), some (.int x2), some (.int x3), o4] [] M) M' res 68 = hv M' 33 5 := rfl
      have r69 : hb_r1 mz_GG lx_b1_q (hb_rb mz_GG lx_b1_q 5 [some (.ref 8), some (.int x1), some (.int x2), some (.int x3), o4] [] M) M' res 69 = hv M' 33 6 := rfl
      have r75 : hb_r1 mz_GG lx_b1_q (hb_rb mz_GG lx_b1_q 5 [some (.ref 8), some (.int x1), some (.int x2), some (.int x3), o4] [] M) M' res 75 = res := rfl
      obtain ⟨f0, hf⟩ := hb_unc hf
      have f0 : 0 ≤ -1 + (1 * res + 0) := f0
      rw [← hr] at f0
      obtain ⟨f1, hf⟩ := hb_unc hf
      have f1 : 0 ≤ 1 + ((-1) * res + 0) := f1
      rw [← hr] at f1
      obtain ⟨f2, hf⟩ := hb_unc hf
      have f2 : 0 ≤ 0 + (1 * hv M' 33 1 + 0) := f2
      obtain ⟨f3, hf⟩ := hb_unc hf
      have f3 : 0 ≤ 0 + ((-1) * hv M' 33 1 + 0) := f3
      obtain ⟨f4, hf⟩ := hb_unc hf
      have f4 : 0 ≤ -2 + ((-1) * hv M 33 1 + ((-1) * hv M 33 3 + (1 * hv M' 33 3 + 0))) := f4
      obtain ⟨f5, hf⟩ := hb_unc hf
      have f5 : 0 ≤ 2 + (1 * hv M 33 1 + (1 * hv M 33 3 + ((-1) * hv M' 33 3 + 0))) := f5
      obtain ⟨f6, hf⟩ := hb_unc hf
      have f6 : 0 ≤ -12 + ((-1) * x3.toInt + ((-1) * hv M 33 5 + (1 * hv M' 33 5 + 0))) := f6
      obtain ⟨f7, hf⟩ := hb_unc hf
      have f7 : 0 ≤ 12 + (1 * x3.toInt + (1 * hv M 33 5 + ((-1) * hv M' 33 5 + 0))) := f7
      obtain ⟨f8, hf⟩ := hb_unc hf
      have f8 : 0 ≤ -1 + ((-1) * hv M 33 6 + (1 * hv M' 33 6 + 0)) := f8
      obtain ⟨f9, hf⟩ := hb_unc hf
      have f9 : 0 ≤ 1 + (1 * hv M 33 6 + ((-1) * hv M' 33 6 + 0)) := f9
      exact w0 M' x b1 b2 b3 b4 b5 (by have h1 := f0; omega) (by have h1 := f1; omega) (by have h1 := f2; omega) (by have h1 := f3; omega) (by have h1 := f4; omega) (by have h1 := f5; omega) (by have h1 := f6; omega) (by have h1 := f7; omega) (by have h1 := f8; omega) (by have h1 := f9; omega)
    cases hp

theorem lx_enter {d z u : Nat} {M : Nat → mq_C} {Q : (Option Value ⊕ Nat) → mq_S → Prop} {x1 x2 : Int32} (hd : 6 ≤ d) (hz : 272 ≤ z) (hm : mz_sh mz_GG M) (hx : HX M)
    (K : ∀ (M' : Nat → mq_C) (r : Int32), lr_enter (hv M 33 1) (hv M 33 3) (hv M 33 5) (hv M 33 6) (hb_nm x1.toInt) x2.toInt (hv M' 33 1) (hv M' 33 3) (hv M' 33 5) (hv M' 33 6) r.toInt → Q (.inl (some (.int r))) (M', z, u)) : mq_R mq_PP d 2 0 [some (.ref 8), some (.int x1), some (.int x2), none, none] [] (M, z, u) Q := by
  obtain ⟨d, rfl⟩ : ∃ d', d = d' + 1 := ⟨d - 1, by omega⟩
  have hn0 := hn_nm x1.toInt
  have fail : ∀ (N : Nat → mq_C) (r : Int32), (∀ i, hv N 33 i = hv M 33 i) → r.toInt = 0 → (hb_nm x1.toInt = 0 ∨ ¬ x2.toInt = 0 ∧ ¬ x2.toInt = 8 ∨ 6 ≤ hv M 33 6 ∨ 240 < hv M 33 3 + 2 + hv M 33 1 + 12 + hb_nm x1.toInt + 4 + hv M 33 5) → Q (.inl (some (.int r))) (N, z, u) := by
    intro N r h1 h2 h3
    refine K N r ?_
    unfold lr_enter
    have a1 := h1 1
    have a3 := h1 3
    have a5 := h1 5
    have a6 := h1 6
    omega
  have good : ∀ (r1 : Int32), r1.toInt = hb_nm x1.toInt → ¬ r1.toInt = 0 → (x2.toInt = 0 ∨ x2.toInt = 8) → mq_R mq_PP (d + 1) 2 19 [some (.ref 8), some (.int x1), some (.int x2), some (.int r1), none] [] (M, z, u) Q := by
    intro r1 hr1 h6 hx2
    refine he_aload (n := 20) (i := 0) (by decide +kernel) rfl ?_
    refine he_getr (n := 23) (ci := 0) (j := 1) (ns := [2078, 19]) (b := 33) hm (by decide +kernel) rfl rfl (by decide +kernel) ?_
    refine he_iload (n := 24) (i := 3) (by decide +kernel) rfl ?_
    refine he_v1 (n := 27) (j := 75) (ci := 6) (mx := 3) (ns := [2138, 2139, 2140, 88]) (by decide +kernel) ((hb_kd (a := 33) hm rfl).trans rfl) (by decide) (by show 2 ≤ 3; omega) ?_
    rw [mq_e75]
    refine lx_hasRoomFor la_hrf (by omega) hz hm hx (by omega) (by omega) ?_ ?_ ?_
    · intro N rr g1 g2 g3 g4 g5 f0 f1 f2
      show mq_R mq_PP (d + 1) 2 27 _ [.int rr] (N, z, u) Q
      have eN : N 33 = M 33 := g3 33 (by decide) (by decide)
      have n1 := hb_vc eN 1
      have n3 := hb_vc eN 3
      have n5 := hb_vc eN 5
      have n6 := hb_vc eN 6
      refine he_ifne_t (n := 30) (t := 32) (by decide +kernel) (by omega) ?_
      refine lx_b1 HX_same (fun c hc _ => ha_all c hc) (by omega) hz g1 g2 (by decide) (by omega) (by omega) (by omega) (by omega) (by omega) (by omega) ?_
      intro M' r k1 k2 k3 k4 k5
      intros
      refine K M' r ?_
      unfold lr_enter
      omega
    · intro N rr g1 g2 g3 g4 g5 f0 f1
      show mq_R mq_PP (d + 1) 2 27 _ [.int rr] (N, z, u) Q
      have eN : N 33 = M 33 := g3 33 (by decide) (by decide)
      refine he_ifne_f (n := 30) (t := 32) (by decide +kernel) (by omega) ?_
      refine he_iconst (n := 31) (c := 0) (by decide +kernel) (by decide) ?_
      intro c30 hc30
      refine he_retz (by decide +kernel) (by omega) ?_
      exact fail N _ (fun i => hb_vc eN i) hc30 (by omega)
    · intro N rr g1 g2 g3 g4 g5 f0 f1
      show mq_R mq_PP (d + 1) 2 27 _ [.int rr] (N, z, u) Q
      have eN : N 33 = M 33 := g3 33 (by decide) (by decide)
      refine he_ifne_f (n := 30) (t := 32) (by decide +kernel) (by omega) ?_
      refine he_iconst (n := 31) (c := 0) (by decide +kernel) (by decide) ?_
      intro c30 hc30
      refine he_retz (by decide +kernel) (by omega) ?_
      exact fail N _ (fun i => hb_vc eN i) hc30 (by omega)
  refine he_iload (n := 1) (i := 1) (by decide +kernel) rfl ?_
  refine he_s1 (n := 4) (j := 22) (mx := 4) (ns := [2135, 2136, 1001, 84]) (by decide +kernel) (by decide) (by show 1 ≤ 4; omega) ?_
  rw [mq_e22]
  refine lx_nl ?_
  intro r1 hr1
  show mq_R mq_PP (d + 1) 2 4 _ [.int r1] (M, z, u) Q
  refine he_istore (n := 5) (i := 3) (by decide +kernel) rfl ?_
  refine he_iload (n := 6) (i := 3) (by decide +kernel) rfl ?_
  by_cases h6 : r1.toInt = 0
  · refine he_ifeq_t (n := 9) (t := 30) (by decide +kernel) h6 ?_
    refine he_iconst (n := 31) (c := 0) (by decide +kernel) (by decide) ?_
    intro c30 hc30
    refine he_retz (by decide +kernel) (by omega) ?_
    exact fail M _ (fun _ => rfl) hc30 (by omega)
  · refine he_ifeq_f (n := 9) (t := 30) (by decide +kernel) h6 ?_
    refine he_iload (n := 10) (i := 2) (by decide +kernel) rfl ?_
    by_cases h10 : x2.toInt = 0
    · refine he_ifeq_t (n := 13) (t := 19) (by decide +kernel) h10 ?_
      exact good r1 hr1 h6 (.inl h10)
    · refine he_ifeq_f (n := 13) (t := 19) (by decide +kernel) h10 ?_
      refine he_iload (n := 14) (i := 2) (by decide +kernel) rfl ?_
      refine he_iconst (n := 16) (c := 8) (by decide +kernel) (by decide) ?_
      intro c14 hc14
      by_cases h16 : x2.toInt = 8
      · refine he_cmpne_f (n := 19) (t := 30) (by decide +kernel) (by omega) ?_
        exact good r1 hr1 h6 (.inr h16)
      · refine he_cmpne_t (n := 19) (t := 30) (by decide +kernel) (by omega) ?_
        refine he_iconst (n := 31) (c := 0) (by decide +kernel) (by decide) ?_
        intro c30 hc30
        refine he_retz (by decide +kernel) (by omega) ?_
        exact fail M _ (fun _ => rfl) hc30 (by omega)
