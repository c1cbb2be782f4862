/-! The contracts that the law calls, in use; what holds between calls (printed by b_law2.py). -/
abbrev lw (M : Nat → mq_C) : Prop := 0 ≤ 236 - hv M 33 3 - hv M 33 5 ∧ 0 ≤ 0 - hv M 234 30 - 4 * hv M 257 0 ∧ 0 ≤ (-1) + hv M 8 4 - hv M 44 0 ∧ 0 ≤ 16 + 16 * hv M 44 0 - hv M 44 3 ∧ 0 ≤ 16 + 16 * hv M 44 1 - hv M 44 3 ∧ 0 ≤ (-1) + hv M 234 30 - hv M 234 57
theorem lx_rng {M : Nat → mq_C} {a i : Nat} {c : mz_Ce} {lo hi : Int} (hm : mz_sh mz_GG M) (hc : mz_GG.1 a = some c) (hi' : i < c.2.1) (hs : mz_at c i = (0, lo, hi)) : lo ≤ hv M a i ∧ hv M a i ≤ hi := by
  obtain ⟨m1, m2, m3⟩ := hm a c hc
  have hl : i < (M a).2.length := by omega
  have hw : (M a).2[i]? = some (M a).2[i] := List.getElem?_eq_getElem hl
  generalize (M a).2[i] = w at hw
  have hok := m3 _ _ hw
  rw [hs] at hok
  have e : hv M a i = hb_w mz_GG (some w) := by show hb_w mz_GG ((M a).2[i]?) = _; rw [hw]
  rw [e]
  cases w with
  | int v => exact hok
  | _ => exact hok.elim
theorem lx_rg33 {M : Nat → mq_C} (hm : mz_sh mz_GG M) : 0 ≤ hv M 33 3 ∧ 0 ≤ hv M 33 5 := ⟨(lx_rng (c := _) hm (a := 33) (i := 3) (lo := 0) (hi := 240) rfl (by decide) rfl).1, (lx_rng (c := _) hm (a := 33) (i := 5) (lo := 0) (hi := 240) rfl (by decide) rfl).1⟩
abbrev lcs (M M' : Nat → mq_C) : Prop := (hv M' 33 1 = hv M 33 1 ∧ hv M' 33 3 = hv M 33 3 ∧ hv M' 33 5 = hv M 33 5 ∧ hv M' 33 6 = hv M 33 6) ∧ lx_ls M M'
abbrev lms (M M' : Nat → mq_C) : Prop := (hv M' 234 15 = hv M 234 15 ∧ hv M' 234 17 = hv M 234 17 ∧ hv M' 234 19 = hv M 234 19) ∧ M' 251 = M 251 ∧ M' 236 = M 236 ∧ M' 237 = M 237
abbrev lrr (N M : Nat → mq_C) : Prop := hv N 33 1 = hv M 234 15 ∧ hv N 33 3 = hv M 234 17 ∧ hv N 33 5 = hb_sum (hn_g M) 6 ∧ hv N 33 6 = hv M 234 19 ∧ hv N 47 1 = hv M 236 0 ∧ hv N 58 1 = hv M 236 1 ∧ hv N 69 1 = hv M 236 2 ∧ hv N 80 1 = hv M 236 3 ∧ lx_th M
abbrev x47 (M M' : Nat → mq_C) : Prop := ∀ b, 47 ≤ b → b ≤ 90 → M' b = M b
abbrev lr (M : Nat → mq_C) : Prop := lrr M M
def lr_put (dr n dr2 r : Int) : Prop := (r = 1 ∧ 1 ≤ n ∧ n ≤ 8 ∧ dr + n ≤ 120 ∧ dr2 = dr + n) ∨ (r = 0 ∧ (n < 1 ∨ 8 < n ∨ 120 < dr + n) ∧ dr2 = dr)
theorem lr_put_d {dr n dr2 r dr3 r3 : Int} (h : lr_put dr n dr2 r) (h2 : lr_put dr n dr3 r3) : dr2 = dr3 ∧ r = r3 := by
  unfold lr_put at h h2
  omega
theorem lz_g {M M' : Nat → mq_C} (h19 : hv M' 234 19 = hv M 234 19) (h : M' 251 = M 251) : hb_sum (hn_g M') 6 = hb_sum (hn_g M) 6 := hb_sum_c 6 (fun i _ => by unfold hn_g; rw [h19, hb_vc h])
/-- the class's side has not changed, or the model's -/
theorem lz_c {N N' M : Nat → mq_C} (h : lrr N M) (g : lcs N N') : lrr N' M := by
  obtain ⟨h1, h2, h3, h4, h5, h6, h7, h8, h9⟩ := h
  obtain ⟨⟨g1, g2, g3, g4⟩, g5, g6, g7, g8⟩ := g
  exact ⟨g1.trans h1, g2.trans h2, g3.trans h3, g4.trans h4, g5.trans h5, g6.trans h6, g7.trans h7, g8.trans h8, h9⟩
theorem lz_m {N M M' : Nat → mq_C} (h : lrr N M) (g : lms M M') : lrr N M' := by
  obtain ⟨h1, h2, h3, h4, h5, h6, h7, h8, h9⟩ := h
  obtain ⟨⟨g1, g2, g3⟩, g4, g5, g6⟩ := g
  refine ⟨h1.trans g1.symm, h2.trans g2.symm, h3.trans (lz_g g3 g4).symm, h4.trans g3.symm, h5.trans (hb_vc g5 0).symm, h6.trans (hb_vc g5 1).symm, h7.trans (hb_vc g5 2).symm, h8.trans (hb_vc g5 3).symm, fun s hs => ?_⟩
  rw [hb_vc g5, hb_vc g6]
  exact h9 s hs
theorem lz_hi {M M' : Nat → mq_C} (h : ∀ a, 234 ≤ a → a < 271 → M' a = M a) : lms M M' := ⟨⟨hb_vc (h 234 (by decide) (by decide)) _, hb_vc (h 234 (by decide) (by decide)) _, hb_vc (h 234 (by decide) (by decide)) _⟩, h 251 (by decide) (by decide), h 236 (by decide) (by decide), h 237 (by decide) (by decide)⟩
theorem lz_lo {M M' : Nat → mq_C} (h : ∀ a, a < 234 → M' a = M a) : lcs M M' := ⟨⟨hb_vc (h 33 (by decide)) _, hb_vc (h 33 (by decide)) _, hb_vc (h 33 (by decide)) _, hb_vc (h 33 (by decide)) _⟩, hb_vc (h 47 (by decide)) _, hb_vc (h 58 (by decide)) _, hb_vc (h 69 (by decide)) _, hb_vc (h 80 (by decide)) _⟩
theorem lz_put {M M1 M2 : Nat → mq_C} {n r1 r2 : Int} (h : lr M) (q1 : lr_put (hv M 33 1) n (hv M1 33 1) r1) (s1 : hv M1 33 3 = hv M 33 3 ∧ hv M1 33 5 = hv M 33 5 ∧ hv M1 33 6 = hv M 33 6) (s2 : lx_ls M M1) (g1 : ∀ a, 234 ≤ a → a < 271 → M1 a = M a) (q2 : lr_put (hv M1 234 15) n (hv M2 234 15) r2) (t1 : hv M2 234 17 = hv M1 234 17 ∧ hv M2 234 19 = hv M1 234 19) (t2 : M2 251 = M1 251 ∧ M2 236 = M1 236 ∧ M2 237 = M1 237) (g2 : ∀ a, a < 234 → M2 a = M1 a) : lr M2 ∧ r1 = r2 := by
  obtain ⟨h1, h2, h3, h4, h5, h6, h7, h8, h9⟩ := h
  have e1 : hv M1 234 15 = hv M 33 1 := (hb_vc (g1 234 (by decide) (by decide)) 15).trans h1.symm
  rw [e1] at q2
  obtain ⟨d1, d2⟩ := lr_put_d q1 q2
  refine ⟨lz_c (N := M1) ?_ (lz_lo g2), d2⟩
  have k : lrr M1 M1 → True := fun _ => trivial
  obtain ⟨s3, s5, s6⟩ := s1
  obtain ⟨l1, l2, l3, l4⟩ := s2
  obtain ⟨a1, a2⟩ := t1
  obtain ⟨b1, b2, b3⟩ := t2
  have w4 := fun i => hb_vc (g1 234 (by decide) (by decide)) i
  have w36 := fun i => hb_vc (b2.trans (g1 236 (by decide) (by decide))) i
  refine ⟨d1, s3.trans (h2.trans ((a1.trans (w4 17)).symm)), s5.trans (h3.trans (lz_g (a2.trans (w4 19)) (b1.trans (g1 251 (by decide) (by decide)))).symm), s6.trans (h4.trans (a2.trans (w4 19)).symm), l1.trans (h5.trans (w36 0).symm), l2.trans (h6.trans (w36 1).symm), l3.trans (h7.trans (w36 2).symm), l4.trans (h8.trans (w36 3).symm), fun s hs => ?_⟩
  rw [w36, hb_vc (b3.trans (g1 237 (by decide) (by decide)))]
  exact h9 s hs
theorem lz_enter {M M1 M2 : Nat → mq_C} {nm m r1 r2 : Int} (h : lr M) (q1 : lr_enter (hv M 33 1) (hv M 33 3) (hv M 33 5) (hv M 33 6) nm m (hv M1 33 1) (hv M1 33 3) (hv M1 33 5) (hv M1 33 6) r1) (s2 : lx_ls M M1) (g1 : ∀ a, 234 ≤ a → a < 271 → M1 a = M a) (q2 : lr_enter (hv M1 234 15) (hv M1 234 17) (hb_sum (hn_g M1) 6) (hv M1 234 19) nm m (hv M2 234 15) (hv M2 234 17) (hb_sum (hn_g M2) 6) (hv M2 234 19) r2) (t2 : M2 236 = M1 236 ∧ M2 237 = M1 237) (g2 : ∀ a, a < 234 → M2 a = M1 a) : lr M2 ∧ r1 = r2 := by
  obtain ⟨h1, h2, h3, h4, h5, h6, h7, h8, h9⟩ := h
  have w4 := fun i => hb_vc (g1 234 (by decide) (by decide)) i
  rw [(w4 15).trans h1.symm, (w4 17).trans h2.symm, (lz_g (w4 19) (g1 251 (by decide) (by decide))).trans h3.symm, (w4 19).trans h4.symm] at q2
  obtain ⟨d1, d2, d3, d4, d5⟩ := lr_enter_d q1 q2
  obtain ⟨l1, l2, l3, l4⟩ := s2
  obtain ⟨b2, b3⟩ := t2
  have w36 := fun i => hb_vc (b2.trans (g1 236 (by decide) (by decide))) i
  refine ⟨lz_c (N := M1) ⟨d1, d2, d3, d4, l1.trans (h5.trans (w36 0).symm), l2.trans (h6.trans (w36 1).symm), l3.trans (h7.trans (w36 2).symm), l4.trans (h8.trans (w36 3).symm), fun s hs => ?_⟩ (lz_lo g2), d5⟩
  rw [w36, hb_vc (b3.trans (g1 237 (by decide) (by decide)))]
  exact h9 s hs
theorem lz_th {M M' : Nat → mq_C} (g : ∀ a, 234 ≤ a → a < 271 → M' a = M a) (h : lx_th M) : lx_th M' := fun s hs => by
  rw [hb_vc (g 236 (by decide) (by decide)), hb_vc (g 237 (by decide) (by decide))]
  exact h s hs
theorem lz_finish {M M1 M2 : Nat → mq_C} {p r1 r2 : Int} (h : lr M) (q1 : lr_fin p (hv M 33 3) (hv M 33 5) (hv M 33 6) (hv M 47 1) (hv M 58 1) (hv M 69 1) (hv M 80 1) (hv M1 33 3) (hv M1 33 5) (hv M1 33 6) (hv M1 47 1) (hv M1 58 1) (hv M1 69 1) (hv M1 80 1) r1) (s1 : hv M1 33 1 = hv M 33 1) (g1 : ∀ a, 234 ≤ a → a < 271 → M1 a = M a) (q2 : lr_fin p (hv M1 234 17) (hb_sum (hn_g M1) 6) (hv M1 234 19) (hv M1 236 0) (hv M1 236 1) (hv M1 236 2) (hv M1 236 3) (hv M2 234 17) (hb_sum (hn_g M2) 6) (hv M2 234 19) (hv M2 236 0) (hv M2 236 1) (hv M2 236 2) (hv M2 236 3) r2) (t1 : hv M2 234 15 = hv M1 234 15) (t2 : lx_th M2) (g2 : ∀ a, a < 234 → M2 a = M1 a) : lr M2 ∧ r1 = r2 := by
  obtain ⟨h1, h2, h3, h4, h5, h6, h7, h8, h9⟩ := h
  have w4 := fun i => hb_vc (g1 234 (by decide) (by decide)) i
  have w36 := fun i => hb_vc (g1 236 (by decide) (by decide)) i
  rw [(w4 17).trans h2.symm, (lz_g (w4 19) (g1 251 (by decide) (by decide))).trans h3.symm, (w4 19).trans h4.symm, (w36 0).trans h5.symm, (w36 1).trans h6.symm, (w36 2).trans h7.symm, (w36 3).trans h8.symm] at q2
  have t0 := h9 0 (by decide)
  have t1' := h9 1 (by decide)
  have t2' := h9 2 (by decide)
  have t3 := h9 3 (by decide)
  obtain ⟨d1, d2, d3, d4, d5, d6, d7, d8⟩ := lr_fin_d ⟨by omega, by omega, by omega, by omega⟩ q1 q2
  exact ⟨lz_c (N := M1) ⟨s1.trans (h1.trans ((w4 15).symm.trans t1.symm)), d1, d2, d3, d4, d5, d6, d7, t2⟩ (lz_lo g2), d8⟩
theorem ly_put {X : (Nat → mq_C) → Prop} (hq : mz_Ct mz_GG mq_PP X mz_q96 2) {d z u : Nat} {M : Nat → mq_C} {Q : (Option Value ⊕ Nat) → mq_S → Prop} {x1 : Int64} {x2 : Int32} (hd : 2 ≤ d) (hz : 272 ≤ z) (hm : mz_sh mz_GG M) (hx : X M)
    (w0 : ∀ (M' : Nat → mq_C) (r : Int32), mz_sh mz_GG M' → X M' → mz_fr mz_q96 M M' → (∀ a, a < 8 → M' a = M a) → hb_same mz_GG mz_q96 M M' → r.toInt = 1 → 0 ≤ (-1) + x2.toInt → 0 ≤ 8 - x2.toInt → hv M' 33 1 = x2.toInt + hv M 33 1 → Q (.inl (some (.int r))) (M', z, u))
    (w1 : ∀ (M' : Nat → mq_C) (r : Int32), mz_sh mz_GG M' → X M' → mz_fr mz_q96 M M' → (∀ a, a < 8 → M' a = M a) → hb_same mz_GG mz_q96 M M' → r.toInt = 0 → 0 ≤ 0 - x2.toInt → hv M' 33 1 = hv M 33 1 → Q (.inl (some (.int r))) (M', z, u))
    (w2 : ∀ (M' : Nat → mq_C) (r : Int32), mz_sh mz_GG M' → X M' → mz_fr mz_q96 M M' → (∀ a, a < 8 → M' a = M a) → hb_same mz_GG mz_q96 M M' → r.toInt = 0 → 0 ≤ (-9) + x2.toInt → hv M' 33 1 = hv M 33 1 → Q (.inl (some (.int r))) (M', z, u))
    (w3 : ∀ (M' : Nat → mq_C) (r : Int32), mz_sh mz_GG M' → X M' → mz_fr mz_q96 M M' → (∀ a, a < 8 → M' a = M a) → hb_same mz_GG mz_q96 M M' → r.toInt = 0 → 0 ≤ (-121) + x2.toInt + hv M 33 1 → hv M' 33 1 = hv M 33 1 → Q (.inl (some (.int r))) (M', z, u)) : mq_R mq_PP d 1 0 [some (.ref 8), some (.long x1), none, some (.int x2)] [] (M, z, u) Q := by
  refine hb_use mz_GG mq_PP X (q := mz_q96) (vs := [.ref 8, .long x1, .int x2]) hq (by decide +kernel) hd (show hb_pk mz_GG [(1, 8), (2, 0), (0, 0)] _ from ⟨⟨List.mem_singleton.mpr rfl, rfl⟩, trivial, trivial, trivial⟩) hm hx hz ?_ ?_
  · exact hb_nil
  · intro r S hpo
    obtain ⟨b1, b2, b3, b4, b5, p, hp, res, hf, hre⟩ := hpo
    rcases List.mem_cons.mp hp with rfl | hp
    · obtain ⟨x, rfl, hr, hz1, hu1⟩ := mz_re_0 mz_GG hre rfl
      obtain ⟨M', z', u'⟩ := S
      cases hz1
      cases hu1
      obtain ⟨f0, hf⟩ := hb_unc hf
      have f0 : 0 ≤ -1 + (1 * res + 0) := f0
      rw [← hr] at f0
      obtain ⟨f1, hf⟩ := hb_unc hf
      have f1 : 0 ≤ 1 + ((-1) * res + 0) := f1
      rw [← hr] at f1
      obtain ⟨f2, hf⟩ := hb_unc hf
      have f2 : 0 ≤ -1 + (1 * x2.toInt + 0) := f2
      obtain ⟨f3, hf⟩ := hb_unc hf
      have f3 : 0 ≤ 8 + ((-1) * x2.toInt + 0) := f3
      obtain ⟨f4, hf⟩ := hb_unc hf
      have f4 : 0 ≤ 0 + ((-1) * x2.toInt + ((-1) * hv M 33 1 + (1 * hv M' 33 1 + 0))) := f4
      obtain ⟨f5, hf⟩ := hb_unc hf
      have f5 : 0 ≤ 0 + (1 * x2.toInt + (1 * hv M 33 1 + ((-1) * hv M' 33 1 + 0))) := f5
      exact w0 M' x b1 b2 b3 b4 b5 (by have h1 := f0; have h2 := f1; omega) (by have h1 := f2; omega) (by have h1 := f3; omega) (by have h1 := f4; have h2 := f5; omega)
    rcases List.mem_cons.mp hp with rfl | hp
    · obtain ⟨x, rfl, hr, hz1, hu1⟩ := mz_re_0 mz_GG hre rfl
      obtain ⟨M', z', u'⟩ := S
      cases hz1
      cases hu1
      obtain ⟨f0, hf⟩ := hb_unc hf
      have f0 : 0 ≤ 0 + (1 * res + 0) := f0
      rw [← hr] at f0
      obtain ⟨f1, hf⟩ := hb_unc hf
      have f1 : 0 ≤ 0 + ((-1) * res + 0) := f1
      rw [← hr] at f1
      obtain ⟨f2, hf⟩ := hb_unc hf
      have f2 : 0 ≤ 0 + ((-1) * x2.toInt + 0) := f2
      obtain ⟨f3, hf⟩ := hb_unc hf
      have f3 : 0 ≤ 0 + ((-1) * hv M 33 1 + (1 * hv M' 33 1 + 0)) := f3
      obtain ⟨f4, hf⟩ := hb_unc hf
      have f4 : 0 ≤ 0 + (1 * hv M 33 1 + ((-1) * hv M' 33 1 + 0)) := f4
      exact w1 M' x b1 b2 b3 b4 b5 (by have h1 := f0; have h2 := f1; omega) (by have h1 := f2; omega) (by have h1 := f3; have h2 := f4; omega)
    rcases List.mem_cons.mp hp with rfl | hp
    · obtain ⟨x, rfl, hr, hz1, hu1⟩ := mz_re_0 mz_GG hre rfl
      obtain ⟨M', z', u'⟩ := S
      cases hz1
      cases hu1
      obtain ⟨f0, hf⟩ := hb_unc hf
      have f0 : 0 ≤ 0 + (1 * res + 0) := f0
      rw [← hr] at f0
      obtain ⟨f1, hf⟩ := hb_unc hf
      have f1 : 0 ≤ 0 + ((-1) * res + 0) := f1
      rw [← hr] at f1
      obtain ⟨f2, hf⟩ := hb_unc hf
      have f2 : 0 ≤ -9 + (1 * x2.toInt + 0) := f2
      obtain ⟨f3, hf⟩ := hb_unc hf
      have f3 : 0 ≤ 0 + ((-1) * hv M 33 1 + (1 * hv M' 33 1 + 0)) := f3
      obtain ⟨f4, hf⟩ := hb_unc hf
      have f4 : 0 ≤ 0 + (1 * hv M 33 1 + ((-1) * hv M' 33 1 + 0)) := f4
      exact w2 M' x b1 b2 b3 b4 b5 (by have h1 := f0; have h2 := f1; omega) (by have h1 := f2; omega) (by have h1 := f3; have h2 := f4; omega)
    rcases List.mem_cons.mp hp with rfl | hp
    · obtain ⟨x, rfl, hr, hz1, hu1⟩ := mz_re_0 mz_GG hre rfl
      obtain ⟨M', z', u'⟩ := S
      cases hz1
      cases hu1
      obtain ⟨f0, hf⟩ := hb_unc hf
      have f0 : 0 ≤ 0 + (1 * res + 0) := f0
      rw [← hr] at f0
      obtain ⟨f1, hf⟩ := hb_unc hf
      have f1 : 0 ≤ 0 + ((-1) * res + 0) := f1
      rw [← hr] at f1
      obtain ⟨f2, hf⟩ := hb_unc hf
      have f2 : 0 ≤ -121 + (1 * x2.toInt + (1 * hv M 33 1 + 0)) := f2
      obtain ⟨f3, hf⟩ := hb_unc hf
      have f3 : 0 ≤ 0 + ((-1) * hv M 33 1 + (1 * hv M' 33 1 + 0)) := f3
      obtain ⟨f4, hf⟩ := hb_unc hf
      have f4 : 0 ≤ 0 + (1 * hv M 33 1 + ((-1) * hv M' 33 1 + 0)) := f4
      exact w3 M' x b1 b2 b3 b4 b5 (by have h1 := f0; have h2 := f1; omega) (by have h1 := f2; omega) (by have h1 := f3; have h2 := f4; omega)
    cases hp
theorem lu_put {d z u : Nat} {M : Nat → mq_C} {Q : (Option Value ⊕ Nat) → mq_S → Prop} {x1 : Int64} {x2 : Int32} (hd : 9 ≤ d) (hz : 272 ≤ z) (hm : mz_sh mz_GG M) (hx : HX M) (hl : lw M)
    (k : ∀ (M' : Nat → mq_C) (r : Int32), mz_sh mz_GG M' → HX M' → lw M' → (∀ a, a < 8 → M' a = M a) → M' 271 = M 271 → (∀ a, 234 ≤ a → a < 271 → M' a = M a) → lr_put (hv M 33 1) x2.toInt (hv M' 33 1) r.toInt → (hv M' 33 3 = hv M 33 3 ∧ hv M' 33 5 = hv M 33 5 ∧ hv M' 33 6 = hv M 33 6) → lx_ls M M' → (M' 35 = M 35 ∧ M' 36 = M 36 ∧ c6_al M M') → x47 M M' → xLK (cvw M) (cvw M') → Q (.inl (some (.int r))) (M', z, u)) : mq_R mq_PP d 1 0 [some (.ref 8), some (.long x1), none, some (.int x2)] [] (M, z, u) Q := by
  obtain ⟨l0, l1, l2, l3, l4, l5⟩ := hl
  have hW : ∀ b ∈ mz_q96.2.2.2.2.2, b < 234 := by decide +kernel
  have hW7 : ∀ b ∈ mz_q96.2.2.2.2.2, b < 47 ∨ 90 < b := by decide +kernel
  have hWL : ∀ b ∈ mz_q96.2.2.2.2.2, b < 91 ∨ 110 < b ∨ b % 5 = 3 ∨ b % 5 = 4 ∨ b % 5 = 0 := by decide +kernel
  refine ly_put (ha_all (mz_q96, 2) (List.mem_of_getElem? (show mz_Cs[96]? = _ from rfl))) (by omega) hz hm hx ?_ ?_ ?_ ?_
  · intro M' r b1 b2 b3 b4 b5 f0 f1 f2 f3
    have e9 : hv M' 33 3 = hv M 33 3 := b5 9 (33, 3) rfl rfl
    have e10 : hv M' 33 5 = hv M 33 5 := b5 10 (33, 5) rfl rfl
    have e24 : hv M' 234 30 = hv M 234 30 := b5 24 (234, 30) rfl rfl
    have e33 : hv M' 257 0 = hv M 257 0 := b5 33 (257, 0) rfl rfl
    have e0 : hv M' 8 4 = hv M 8 4 := b5 0 (8, 4) rfl rfl
    have e12 : hv M' 44 0 = hv M 44 0 := b5 12 (44, 0) rfl rfl
    have e13 : hv M' 44 1 = hv M 44 1 := b5 13 (44, 1) rfl rfl
    have e14 : hv M' 44 3 = hv M 44 3 := b5 14 (44, 3) rfl rfl
    have e28 : hv M' 234 57 = hv M 234 57 := b5 28 (234, 57) rfl rfl
    have e11 : hv M' 33 6 = hv M 33 6 := b5 11 (33, 6) rfl rfl
    have rg : hv M' 33 1 ≤ 120 := (lx_rng (c := _) b1 (a := 33) (i := 1) (lo := 0) (hi := 120) rfl (by decide) rfl).2
    exact k M' r b1 b2 ⟨by omega, by omega, by omega, by omega, by omega, by omega⟩ b4 (b3 271 (by decide) (by decide +kernel)) (fun a h1 h2 => b3 a (by omega) (lx_el (fun h => by have := hW a h; omega))) (by unfold lr_put; omega) ⟨e9, e10, e11⟩ ⟨hb_vc (b3 47 (by decide) (by decide +kernel)) 1, hb_vc (b3 58 (by decide) (by decide +kernel)) 1, hb_vc (b3 69 (by decide) (by decide +kernel)) 1, hb_vc (b3 80 (by decide) (by decide +kernel)) 1⟩ ⟨b3 35 (by decide) (by decide +kernel), b3 36 (by decide) (by decide +kernel), (fun s hs => by
      have h4 : s = 0 ∨ s = 1 ∨ s = 2 ∨ s = 3 := by omega
      rcases h4 with rfl | rfl | rfl | rfl
      · exact b3 48 (by decide) (by decide +kernel)
      · exact b3 59 (by decide) (by decide +kernel)
      · exact b3 70 (by decide) (by decide +kernel)
      · exact b3 81 (by decide) (by decide +kernel))⟩ (fun b p q => b3 b (by omega) (lx_el (fun h => by have := hW7 b h; omega))) (xLK_c e0 (fun i hi => ⟨b3 (91 + 5 * i) (by omega) (lx_el (fun h => by have := hWL _ h; omega)), b3 (92 + 5 * i) (by omega) (lx_el (fun h => by have := hWL _ h; omega))⟩))
  · intro M' r b1 b2 b3 b4 b5 f0 f1 f2
    have e9 : hv M' 33 3 = hv M 33 3 := b5 9 (33, 3) rfl rfl
    have e10 : hv M' 33 5 = hv M 33 5 := b5 10 (33, 5) rfl rfl
    have e24 : hv M' 234 30 = hv M 234 30 := b5 24 (234, 30) rfl rfl
    have e33 : hv M' 257 0 = hv M 257 0 := b5 33 (257, 0) rfl rfl
    have e0 : hv M' 8 4 = hv M 8 4 := b5 0 (8, 4) rfl rfl
    have e12 : hv M' 44 0 = hv M 44 0 := b5 12 (44, 0) rfl rfl
    have e13 : hv M' 44 1 = hv M 44 1 := b5 13 (44, 1) rfl rfl
    have e14 : hv M' 44 3 = hv M 44 3 := b5 14 (44, 3) rfl rfl
    have e28 : hv M' 234 57 = hv M 234 57 := b5 28 (234, 57) rfl rfl
    have e11 : hv M' 33 6 = hv M 33 6 := b5 11 (33, 6) rfl rfl
    have rg : hv M' 33 1 ≤ 120 := (lx_rng (c := _) b1 (a := 33) (i := 1) (lo := 0) (hi := 120) rfl (by decide) rfl).2
    exact k M' r b1 b2 ⟨by omega, by omega, by omega, by omega, by omega, by omega⟩ b4 (b3 271 (by decide) (by decide +kernel)) (fun a h1 h2 => b3 a (by omega) (lx_el (fun h => by have := hW a h; omega))) (by unfold lr_put; omega) ⟨e9, e10, e11⟩ ⟨hb_vc (b3 47 (by decide) (by decide +kernel)) 1, hb_vc (b3 58 (by decide) (by decide +kernel)) 1, hb_vc (b3 69 (by decide) (by decide +kernel)) 1, hb_vc (b3 80 (by decide) (by decide +kernel)) 1⟩ ⟨b3 35 (by decide) (by decide +kernel), b3 36 (by decide) (by decide +kernel), (fun s hs => by
      have h4 : s = 0 ∨ s = 1 ∨ s = 2 ∨ s = 3 := by omega
      rcases h4 with rfl | rfl | rfl | rfl
      · exact b3 48 (by decide) (by decide +kernel)
      · exact b3 59 (by decide) (by decide +kernel)
      · exact b3 70 (by decide) (by decide +kernel)
      · exact b3 81 (by decide) (by decide +kernel))⟩ (fun b p q => b3 b (by omega) (lx_el (fun h => by have := hW7 b h; omega))) (xLK_c e0 (fun i hi => ⟨b3 (91 + 5 * i) (by omega) (lx_el (fun h => by have := hWL _ h; omega)), b3 (92 + 5 * i) (by omega) (lx_el (fun h => by have := hWL _ h; omega))⟩))
  · intro M' r b1 b2 b3 b4 b5 f0 f1 f2
    have e9 : hv M' 33 3 = hv M 33 3 := b5 9 (33, 3) rfl rfl
    have e10 : hv M' 33 5 = hv M 33 5 := b5 10 (33, 5) rfl rfl
    have e24 : hv M' 234 30 = hv M 234 30 := b5 24 (234, 30) rfl rfl
    have e33 : hv M' 257 0 = hv M 257 0 := b5 33 (257, 0) rfl rfl
    have e0 : hv M' 8 4 = hv M 8 4 := b5 0 (8, 4) rfl rfl
    have e12 : hv M' 44 0 = hv M 44 0 := b5 12 (44, 0) rfl rfl
    have e13 : hv M' 44 1 = hv M 44 1 := b5 13 (44, 1) rfl rfl
    have e14 : hv M' 44 3 = hv M 44 3 := b5 14 (44, 3) rfl rfl
    have e28 : hv M' 234 57 = hv M 234 57 := b5 28 (234, 57) rfl rfl
    have e11 : hv M' 33 6 = hv M 33 6 := b5 11 (33, 6) rfl rfl
    have rg : hv M' 33 1 ≤ 120 := (lx_rng (c := _) b1 (a := 33) (i := 1) (lo := 0) (hi := 120) rfl (by decide) rfl).2
    exact k M' r b1 b2 ⟨by omega, by omega, by omega, by omega, by omega, by omega⟩ b4 (b3 271 (by decide) (by decide +kernel)) (fun a h1 h2 => b3 a (by omega) (lx_el (fun h => by have := hW a h; omega))) (by unfold lr_put; omega) ⟨e9, e10, e11⟩ ⟨hb_vc (b3 47 (by decide) (by decide +kernel)) 1, hb_vc (b3 58 (by decide) (by decide +kernel)) 1, hb_vc (b3 69 (by decide) (by decide +kernel)) 1, hb_vc (b3 80 (by decide) (by decide +kernel)) 1⟩ ⟨b3 35 (by decide) (by decide +kernel), b3 36 (by decide) (by decide +kernel), (fun s hs => by
      have h4 : s = 0 ∨ s = 1 ∨ s = 2 ∨ s = 3 := by omega
      rcases h4 with rfl | rfl | rfl | rfl
      · exact b3 48 (by decide) (by decide +kernel)
      · exact b3 59 (by decide) (by decide +kernel)
      · exact b3 70 (by decide) (by decide +kernel)
      · exact b3 81 (by decide) (by decide +kernel))⟩ (fun b p q => b3 b (by omega) (lx_el (fun h => by have := hW7 b h; omega))) (xLK_c e0 (fun i hi => ⟨b3 (91 + 5 * i) (by omega) (lx_el (fun h => by have := hWL _ h; omega)), b3 (92 + 5 * i) (by omega) (lx_el (fun h => by have := hWL _ h; omega))⟩))
  · intro M' r b1 b2 b3 b4 b5 f0 f1 f2
    have e9 : hv M' 33 3 = hv M 33 3 := b5 9 (33, 3) rfl rfl
    have e10 : hv M' 33 5 = hv M 33 5 := b5 10 (33, 5) rfl rfl
    have e24 : hv M' 234 30 = hv M 234 30 := b5 24 (234, 30) rfl rfl
    have e33 : hv M' 257 0 = hv M 257 0 := b5 33 (257, 0) rfl rfl
    have e0 : hv M' 8 4 = hv M 8 4 := b5 0 (8, 4) rfl rfl
    have e12 : hv M' 44 0 = hv M 44 0 := b5 12 (44, 0) rfl rfl
    have e13 : hv M' 44 1 = hv M 44 1 := b5 13 (44, 1) rfl rfl
    have e14 : hv M' 44 3 = hv M 44 3 := b5 14 (44, 3) rfl rfl
    have e28 : hv M' 234 57 = hv M 234 57 := b5 28 (234, 57) rfl rfl
    have e11 : hv M' 33 6 = hv M 33 6 := b5 11 (33, 6) rfl rfl
    have rg : hv M' 33 1 ≤ 120 := (lx_rng (c := _) b1 (a := 33) (i := 1) (lo := 0) (hi := 120) rfl (by decide) rfl).2
    exact k M' r b1 b2 ⟨by omega, by omega, by omega, by omega, by omega, by omega⟩ b4 (b3 271 (by decide) (by decide +kernel)) (fun a h1 h2 => b3 a (by omega) (lx_el (fun h => by have := hW a h; omega))) (by unfold lr_put; omega) ⟨e9, e10, e11⟩ ⟨hb_vc (b3 47 (by decide) (by decide +kernel)) 1, hb_vc (b3 58 (by decide) (by decide +kernel)) 1, hb_vc (b3 69 (by decide) (by decide +kernel)) 1, hb_vc (b3 80 (by decide) (by decide +kernel)) 1⟩ ⟨b3 35 (by decide) (by decide +kernel), b3 36 (by decide) (by decide +kernel), (fun s hs => by
      have h4 : s = 0 ∨ s = 1 ∨ s = 2 ∨ s = 3 := by omega
      rcases h4 with rfl | rfl | rfl | rfl
      · exact b3 48 (by decide) (by decide +kernel)
      · exact b3 59 (by decide) (by decide +kernel)
      · exact b3 70 (by decide) (by decide +kernel)
      · exact b3 81 (by decide) (by decide +kernel))⟩ (fun b p q => b3 b (by omega) (lx_el (fun h => by have := hW7 b h; omega))) (xLK_c e0 (fun i hi => ⟨b3 (91 + 5 * i) (by omega) (lx_el (fun h => by have := hWL _ h; omega)), b3 (92 + 5 * i) (by omega) (lx_el (fun h => by have := hWL _ h; omega))⟩))
theorem lv_put {d z u : Nat} {M : Nat → mq_C} {Q : (Option Value ⊕ Nat) → mq_S → Prop} {x1 : Int64} {x2 : Int32} (hd : 9 ≤ d) (hz : 272 ≤ z) (hm : mz_sh mz_GG M) (hx : HX M) (hl : lw M)
    (k : ∀ (M' : Nat → mq_C) (r : Int32), mz_sh mz_GG M' → HX M' → lw M' → (∀ a, a < 8 → M' a = M a) → M' 271 = M 271 → (∀ a, 234 ≤ a → a < 271 → M' a = M a) → lr_put (hv M 33 1) x2.toInt (hv M' 33 1) r.toInt → (hv M' 33 3 = hv M 33 3 ∧ hv M' 33 5 = hv M 33 5 ∧ hv M' 33 6 = hv M 33 6) → lx_ls M M' → (M' 35 = M 35 ∧ M' 36 = M 36 ∧ c6_al M M') → l6tb M M' → c6_put M M' x1 x2.toInt r.toInt → x47 M M' → xLK (cvw M) (cvw M') → Q (.inl (some (.int r))) (M', z, u)) : mq_R mq_PP d 1 0 [some (.ref 8), some (.long x1), none, some (.int x2)] [] (M, z, u) Q := by
  refine mq_R_mono (lx_and (Q := fun r' S' => ∃ (M' : Nat → mq_C) (r : Int32), r' = .inl (some (.int r)) ∧ S' = (M', z, u) ∧ mz_sh mz_GG M' ∧ HX M' ∧ lw M' ∧ (∀ a, a < 8 → M' a = M a) ∧ M' 271 = M 271 ∧ (∀ a, 234 ≤ a → a < 271 → M' a = M a) ∧ lr_put (hv M 33 1) x2.toInt (hv M' 33 1) r.toInt ∧ (hv M' 33 3 = hv M 33 3 ∧ hv M' 33 5 = hv M 33 5 ∧ hv M' 33 6 = hv M 33 6) ∧ lx_ls M M' ∧ (M' 35 = M 35 ∧ M' 36 = M 36 ∧ c6_al M M') ∧ x47 M M' ∧ xLK (cvw M) (cvw M') ∧ l6tb M M') (Q' := fun r' S' => ∃ (M' : Nat → mq_C) (r : Int32), r' = .inl (some (.int r)) ∧ S' = (M', z, u) ∧ c6_put M M' x1 x2.toInt r.toInt) ?_ ?_) ?_
  · rw [← mq_e1]
    refine fz_R (by decide) hm hz (fun b hb => ?_) ?_
    · simp at hb
      subst hb
      decide
    rw [mq_e1]
    refine lu_put (by omega) hz hm hx hl ?_
    exact fun M' r b1 b2 b3 b4 b5 b6 b7 b8 b9 b10 b11 bL hT => ⟨M', r, rfl, rfl, b1, b2, b3, b4, b5, b6, b7, b8, b9, b10, b11, bL, hT⟩
  · obtain ⟨d, rfl⟩ : ∃ e, d = e + 1 := ⟨d - 1, by omega⟩
    exact xn_put hm (fun M' r h => ⟨M', r, rfl, rfl, h⟩)
  · rintro r' S' ⟨⟨M', r, rfl, rfl, b1, b2, b3, b4, b5, b6, b7, b8, b9, b10, b11, bL, hT⟩, M2, r2, e1, e2, h⟩
    cases e1
    cases e2
    exact k M' r b1 b2 b3 b4 b5 b6 b7 b8 b9 b10 hT h b11 bL
theorem ly_enter {X : (Nat → mq_C) → Prop} (hq : mz_Ct mz_GG mq_PP X mz_q80 5) {d z u : Nat} {M : Nat → mq_C} {Q : (Option Value ⊕ Nat) → mq_S → Prop} {x1 : Int32} {x2 : Int32} (hd : 5 ≤ d) (hz : 272 ≤ z) (hm : mz_sh mz_GG M) (hx : X M) (p0 : 0 ≤ 236 - hv M 33 3 - hv M 33 5)
    (w0 : ∀ (M' : Nat → mq_C) (r : Int32), mz_sh mz_GG M' → X M' → mz_fr mz_q80 M M' → (∀ a, a < 8 → M' a = M a) → hb_same mz_GG mz_q80 M M' → r.toInt = 1 → 0 ≤ 236 - hv M' 33 3 - hv M' 33 5 → Q (.inl (some (.int r))) (M', z, u))
    (w1 : ∀ (M' : Nat → mq_C) (r : Int32), mz_sh mz_GG M' → X M' → mz_fr mz_q80 M M' → (∀ a, a < 8 → M' a = M a) → hb_same mz_GG mz_q80 M M' → r.toInt = 0 → hv M' 33 1 = hv M 33 1 → hv M' 33 3 = hv M 33 3 → hv M' 33 5 = hv M 33 5 → hv M' 33 6 = hv M 33 6 → Q (.inl (some (.int r))) (M', z, u)) : mq_R mq_PP d 2 0 [some (.ref 8), some (.int x1), some (.int x2), none, none] [] (M, z, u) Q := by
  refine hb_use mz_GG mq_PP X (q := mz_q80) (vs := [.ref 8, .int x1, .int x2]) hq (by decide +kernel) hd (show hb_pk mz_GG [(1, 8), (0, 0), (0, 0)] _ from ⟨⟨List.mem_singleton.mpr rfl, rfl⟩, trivial, trivial, trivial⟩) hm hx hz ?_ ?_
  · exact hb_cons (show 0 ≤ mz_ev _ _ from (show 0 ≤ 236 + ((-1) * hv M 33 3 + ((-1) * hv M 33 5 + 0)) by omega)) (hb_nil)
  · intro r S hpo
    obtain ⟨b1, b2, b3, b4, b5, p, hp, res, hf, hre⟩ := hpo
    rcases List.mem_cons.mp hp with rfl | hp
    · obtain ⟨x, rfl, hr, hz1, hu1⟩ := mz_re_0 mz_GG hre rfl
      obtain ⟨M', z', u'⟩ := S
      cases hz1
      cases hu1
      obtain ⟨f0, hf⟩ := hb_unc hf
      have f0 : 0 ≤ -1 + (1 * res + 0) := f0
      rw [← hr] at f0
      obtain ⟨f1, hf⟩ := hb_unc hf
      have f1 : 0 ≤ 1 + ((-1) * res + 0) := f1
      rw [← hr] at f1
      obtain ⟨f2, hf⟩ := hb_unc hf
      have f2 : 0 ≤ 236 + ((-1) * hv M' 33 3 + ((-1) * hv M' 33 5 + 0)) := f2
      exact w0 M' x b1 b2 b3 b4 b5 (by have h1 := f0; have h2 := f1; omega) (by have h1 := f2; omega)
    rcases List.mem_cons.mp hp with rfl | hp
    · obtain ⟨x, rfl, hr, hz1, hu1⟩ := mz_re_0 mz_GG hre rfl
      obtain ⟨M', z', u'⟩ := S
      cases hz1
      cases hu1
      obtain ⟨f0, hf⟩ := hb_unc hf
      have f0 : 0 ≤ 0 + (1 * res + 0) := f0
      rw [← hr] at f0
      obtain ⟨f1, hf⟩ := hb_unc hf
      have f1 : 0 ≤ 0 + ((-1) * res + 0) := f1
      rw [← hr] at f1
      obtain ⟨f2, hf⟩ := hb_unc hf
      have f2 : 0 ≤ 0 + ((-1) * hv M 33 1 + (1 * hv M' 33 1 + 0)) := f2
      obtain ⟨f3, hf⟩ := hb_unc hf
      have f3 : 0 ≤ 0 + (1 * hv M 33 1 + ((-1) * hv M' 33 1 + 0)) := f3
      obtain ⟨f4, hf⟩ := hb_unc hf
      have f4 : 0 ≤ 0 + ((-1) * hv M 33 3 + (1 * hv M' 33 3 + 0)) := f4
      obtain ⟨f5, hf⟩ := hb_unc hf
      have f5 : 0 ≤ 0 + (1 * hv M 33 3 + ((-1) * hv M' 33 3 + 0)) := f5
      obtain ⟨f6, hf⟩ := hb_unc hf
      have f6 : 0 ≤ 0 + ((-1) * hv M 33 5 + (1 * hv M' 33 5 + 0)) := f6
      obtain ⟨f7, hf⟩ := hb_unc hf
      have f7 : 0 ≤ 0 + (1 * hv M 33 5 + ((-1) * hv M' 33 5 + 0)) := f7
      obtain ⟨f8, hf⟩ := hb_unc hf
      have f8 : 0 ≤ 0 + ((-1) * hv M 33 6 + (1 * hv M' 33 6 + 0)) := f8
      obtain ⟨f9, hf⟩ := hb_unc hf
      have f9 : 0 ≤ 0 + (1 * hv M 33 6 + ((-1) * hv M' 33 6 + 0)) := f9
      exact w1 M' x b1 b2 b3 b4 b5 (by have h1 := f0; have h2 := f1; omega) (by have h1 := f2; have h2 := f3; omega) (by have h1 := f4; have h2 := f5; omega) (by have h1 := f6; have h2 := f7; omega) (by have h1 := f8; have h2 := f9; omega)
    cases hp
theorem lu_enter {d z u : Nat} {M : Nat → mq_C} {Q : (Option Value ⊕ Nat) → mq_S → Prop} {x1 : Int32} {x2 : Int32} (hd : 9 ≤ d) (hz : 272 ≤ z) (hm : mz_sh mz_GG M) (hx : HX M) (hl : lw M)
    (k : ∀ (M' : Nat → mq_C) (r : Int32), mz_sh mz_GG M' → HX M' → lw M' → (∀ a, a < 8 → M' a = M a) → M' 271 = M 271 → (∀ a, 234 ≤ a → a < 271 → M' a = M a) → lr_enter (hv M 33 1) (hv M 33 3) (hv M 33 5) (hv M 33 6) (hb_nm x1.toInt) x2.toInt (hv M' 33 1) (hv M' 33 3) (hv M' 33 5) (hv M' 33 6) r.toInt → lx_ls M M' → c6_al M M' → x47 M M' → xLK (cvw M) (cvw M') → Q (.inl (some (.int r))) (M', z, u)) : mq_R mq_PP d 2 0 [some (.ref 8), some (.int x1), some (.int x2), none, none] [] (M, z, u) Q := by
  obtain ⟨l0, l1, l2, l3, l4, l5⟩ := hl
  have hW : ∀ b ∈ mz_q80.2.2.2.2.2, b < 234 := by decide +kernel
  have hW7 : ∀ b ∈ mz_q80.2.2.2.2.2, b < 47 ∨ 90 < b := by decide +kernel
  have hWL : ∀ b ∈ mz_q80.2.2.2.2.2, b < 91 ∨ 110 < b ∨ b % 5 = 3 ∨ b % 5 = 4 ∨ b % 5 = 0 := by decide +kernel
  refine mq_R_mono (lx_and (Q := fun r' S' => ∃ (M' : Nat → mq_C) (r : Int32), r' = .inl (some (.int r)) ∧ S' = (M', z, u) ∧ hv M' 33 1 = hv M' 33 1 ∧ mz_sh mz_GG M' ∧ HX M' ∧ lw M' ∧ (∀ a, a < 8 → M' a = M a) ∧ M' 271 = M 271 ∧ (∀ a, 234 ≤ a → a < 271 → M' a = M a) ∧ lx_ls M M' ∧ c6_al M M' ∧ x47 M M' ∧ xLK (cvw M) (cvw M')) (Q' := fun r' S' => ∃ (M' : Nat → mq_C) (r : Int32), r' = .inl (some (.int r)) ∧ S' = (M', z, u) ∧ lr_enter (hv M 33 1) (hv M 33 3) (hv M 33 5) (hv M 33 6) (hb_nm x1.toInt) x2.toInt (hv M' 33 1) (hv M' 33 3) (hv M' 33 5) (hv M' 33 6) r.toInt) ?_ ?_) ?_
  · refine ly_enter (ha_all (mz_q80, 5) (List.mem_of_getElem? (show mz_Cs[80]? = _ from rfl))) (by omega) hz hm hx (by omega) ?_ ?_
    · intro M' r b1 b2 b3 b4 b5 f0 f1
      have e24 : hv M' 234 30 = hv M 234 30 := b5 24 (234, 30) rfl rfl
      have e33 : hv M' 257 0 = hv M 257 0 := b5 33 (257, 0) rfl rfl
      have e0 : hv M' 8 4 = hv M 8 4 := b5 0 (8, 4) rfl rfl
      have e12 : hv M' 44 0 = hv M 44 0 := b5 12 (44, 0) rfl rfl
      have e13 : hv M' 44 1 = hv M 44 1 := b5 13 (44, 1) rfl rfl
      have e14 : hv M' 44 3 = hv M 44 3 := b5 14 (44, 3) rfl rfl
      have e28 : hv M' 234 57 = hv M 234 57 := b5 28 (234, 57) rfl rfl
      exact ⟨M', r, rfl, rfl, rfl, b1, b2, ⟨by omega, by omega, by omega, by omega, by omega, by omega⟩, b4, (b3 271 (by decide) (by decide +kernel)), (fun a h1 h2 => b3 a (by omega) (lx_el (fun h => by have := hW a h; omega))), ⟨hb_vc (b3 47 (by decide) (by decide +kernel)) 1, hb_vc (b3 58 (by decide) (by decide +kernel)) 1, hb_vc (b3 69 (by decide) (by decide +kernel)) 1, hb_vc (b3 80 (by decide) (by decide +kernel)) 1⟩, (fun s hs => by
      have h4 : s = 0 ∨ s = 1 ∨ s = 2 ∨ s = 3 := by omega
      rcases h4 with rfl | rfl | rfl | rfl
      · exact b3 48 (by decide) (by decide +kernel)
      · exact b3 59 (by decide) (by decide +kernel)
      · exact b3 70 (by decide) (by decide +kernel)
      · exact b3 81 (by decide) (by decide +kernel)), (fun b p q => b3 b (by omega) (lx_el (fun h => by have := hW7 b h; omega))), (xLK_c e0 (fun i hi => ⟨b3 (91 + 5 * i) (by omega) (lx_el (fun h => by have := hWL _ h; omega)), b3 (92 + 5 * i) (by omega) (lx_el (fun h => by have := hWL _ h; omega))⟩))⟩
    · intro M' r b1 b2 b3 b4 b5 f0 f1 f2 f3 f4
      have e24 : hv M' 234 30 = hv M 234 30 := b5 24 (234, 30) rfl rfl
      have e33 : hv M' 257 0 = hv M 257 0 := b5 33 (257, 0) rfl rfl
      have e0 : hv M' 8 4 = hv M 8 4 := b5 0 (8, 4) rfl rfl
      have e12 : hv M' 44 0 = hv M 44 0 := b5 12 (44, 0) rfl rfl
      have e13 : hv M' 44 1 = hv M 44 1 := b5 13 (44, 1) rfl rfl
      have e14 : hv M' 44 3 = hv M 44 3 := b5 14 (44, 3) rfl rfl
      have e28 : hv M' 234 57 = hv M 234 57 := b5 28 (234, 57) rfl rfl
      exact ⟨M', r, rfl, rfl, rfl, b1, b2, ⟨by omega, by omega, by omega, by omega, by omega, by omega⟩, b4, (b3 271 (by decide) (by decide +kernel)), (fun a h1 h2 => b3 a (by omega) (lx_el (fun h => by have := hW a h; omega))), ⟨hb_vc (b3 47 (by decide) (by decide +kernel)) 1, hb_vc (b3 58 (by decide) (by decide +kernel)) 1, hb_vc (b3 69 (by decide) (by decide +kernel)) 1, hb_vc (b3 80 (by decide) (by decide +kernel)) 1⟩, (fun s hs => by
      have h4 : s = 0 ∨ s = 1 ∨ s = 2 ∨ s = 3 := by omega
      rcases h4 with rfl | rfl | rfl | rfl
      · exact b3 48 (by decide) (by decide +kernel)
      · exact b3 59 (by decide) (by decide +kernel)
      · exact b3 70 (by decide) (by decide +kernel)
      · exact b3 81 (by decide) (by decide +kernel)), (fun b p q => b3 b (by omega) (lx_el (fun h => by have := hW7 b h; omega))), (xLK_c e0 (fun i hi => ⟨b3 (91 + 5 * i) (by omega) (lx_el (fun h => by have := hWL _ h; omega)), b3 (92 + 5 * i) (by omega) (lx_el (fun h => by have := hWL _ h; omega))⟩))⟩
  · exact lx_enter (by omega) hz hm hx (fun M' r h => ⟨M', r, rfl, rfl, h⟩)
  · rintro r' S' ⟨⟨M', r, rfl, rfl, -, b1, b2, b3, b4, b5, b6, b7⟩, M2, r2, e1, e2, h⟩
    cases e1
    cases e2
    exact k M' r b1 b2 b3 b4 b5 b6 h b7.1 b7.2.1 b7.2.2.1 b7.2.2.2
theorem lv_enter {d z u : Nat} {M : Nat → mq_C} {Q : (Option Value ⊕ Nat) → mq_S → Prop} {x1 : Int32} {x2 : Int32} (hd : 9 ≤ d) (hz : 272 ≤ z) (hm : mz_sh mz_GG M) (hx : HX M) (hl : lw M) (hT6 : l6t M)
    (k : ∀ (M' : Nat → mq_C) (r : Int32), mz_sh mz_GG M' → HX M' → lw M' → (∀ a, a < 8 → M' a = M a) → M' 271 = M 271 → (∀ a, 234 ≤ a → a < 271 → M' a = M a) → lr_enter (hv M 33 1) (hv M 33 3) (hv M 33 5) (hv M 33 6) (hb_nm x1.toInt) x2.toInt (hv M' 33 1) (hv M' 33 3) (hv M' 33 5) (hv M' 33 6) r.toInt → lx_ls M M' → c6_al M M' → l6tb M M' → c6_ent M M' x1.toInt x2.toInt r.toInt → x47 M M' → xLK (cvw M) (cvw M') → Q (.inl (some (.int r))) (M', z, u)) : mq_R mq_PP d 2 0 [some (.ref 8), some (.int x1), some (.int x2), none, none] [] (M, z, u) Q := by
  refine mq_R_mono (lx_and (Q := fun r' S' => ∃ (M' : Nat → mq_C) (r : Int32), r' = .inl (some (.int r)) ∧ S' = (M', z, u) ∧ mz_sh mz_GG M' ∧ HX M' ∧ lw M' ∧ (∀ a, a < 8 → M' a = M a) ∧ M' 271 = M 271 ∧ (∀ a, 234 ≤ a → a < 271 → M' a = M a) ∧ lr_enter (hv M 33 1) (hv M 33 3) (hv M 33 5) (hv M 33 6) (hb_nm x1.toInt) x2.toInt (hv M' 33 1) (hv M' 33 3) (hv M' 33 5) (hv M' 33 6) r.toInt ∧ lx_ls M M' ∧ c6_al M M' ∧ x47 M M' ∧ xLK (cvw M) (cvw M') ∧ l6tb M M') (Q' := fun r' S' => ∃ (M' : Nat → mq_C) (r : Int32), r' = .inl (some (.int r)) ∧ S' = (M', z, u) ∧ c6_ent M M' x1.toInt x2.toInt r.toInt) ?_ ?_) ?_
  · rw [← mq_e2]
    refine fz_R (by decide) hm hz (fun b hb => ?_) ?_
    · simp at hb
      subst hb
      decide
    rw [mq_e2]
    refine lu_enter (by omega) hz hm hx hl ?_
    exact fun M' r b1 b2 b3 b4 b5 b6 b7 b8 b9 b10 bL hT => ⟨M', r, rfl, rfl, b1, b2, b3, b4, b5, b6, b7, b8, b9, b10, bL, hT⟩
  · obtain ⟨d, rfl⟩ : ∃ e, d = e + 5 := ⟨d - 5, by omega⟩
    exact xn_enterx hm (xx_rng (c := _) hm (a := 33) (i := 5) (lo := 0) (hi := 240) rfl (by decide) rfl).1 (xx_rng (c := _) hm (a := 33) (i := 3) (lo := 0) (hi := 240) rfl (by decide) rfl).1 (xx_rng (c := _) hm (a := 33) (i := 1) (lo := 0) (hi := 120) rfl (by decide) rfl).1 (xx_rng (c := _) hm (a := 33) (i := 1) (lo := 0) (hi := 120) rfl (by decide) rfl).2 (xx_rng (c := _) hm (a := 33) (i := 6) (lo := 0) (hi := 6) rfl (by decide) rfl).1 hT6 (fun M' r h => ⟨M', r, rfl, rfl, h⟩)
  · rintro r' S' ⟨⟨M', r, rfl, rfl, b1, b2, b3, b4, b5, b6, b7, b8, b9, b10, bL, hT⟩, M2, r2, e1, e2, h⟩
    cases e1
    cases e2
    exact k M' r b1 b2 b3 b4 b5 b6 b7 b8 b9 hT h b10 bL
theorem ly_finish {X : (Nat → mq_C) → Prop} (hq : mz_Ct mz_GG mq_PP X mz_q97 8) {d z u : Nat} {M : Nat → mq_C} {Q : (Option Value ⊕ Nat) → mq_S → Prop} {x1 : Int32} (hd : 8 ≤ d) (hz : 272 ≤ z) (hm : mz_sh mz_GG M) (hx : X M) (p0 : 0 ≤ 236 - hv M 33 3 - hv M 33 5)
    (w0 : ∀ (M' : Nat → mq_C) (r : Int32), mz_sh mz_GG M' → X M' → mz_fr mz_q97 M M' → (∀ a, a < 8 → M' a = M a) → hb_same mz_GG mz_q97 M M' → 0 ≤ r.toInt → 0 ≤ 1 - r.toInt → 0 ≤ 236 - hv M' 33 3 - hv M' 33 5 → Q (.inl (some (.int r))) (M', z, u)) : mq_R mq_PP d 3 0 [some (.ref 8), some (.int x1)] [] (M, z, u) Q := by
  refine hb_use mz_GG mq_PP X (q := mz_q97) (vs := [.ref 8, .int x1]) hq (by decide +kernel) hd (show hb_pk mz_GG [(1, 8), (0, 0)] _ from ⟨⟨List.mem_singleton.mpr rfl, rfl⟩, trivial, trivial⟩) hm hx hz ?_ ?_
  · exact hb_cons (show 0 ≤ mz_ev _ _ from (show 0 ≤ 236 + ((-1) * hv M 33 3 + ((-1) * hv M 33 5 + 0)) by omega)) (hb_nil)
  · intro r S hpo
    obtain ⟨b1, b2, b3, b4, b5, p, hp, res, hf, hre⟩ := hpo
    rcases List.mem_cons.mp hp with rfl | hp
    · obtain ⟨x, rfl, hr, hz1, hu1⟩ := mz_re_0 mz_GG hre rfl
      obtain ⟨M', z', u'⟩ := S
      cases hz1
      cases hu1
      obtain ⟨f0, hf⟩ := hb_unc hf
      have f0 : 0 ≤ 0 + (1 * res + 0) := f0
      rw [← hr] at f0
      obtain ⟨f1, hf⟩ := hb_unc hf
      have f1 : 0 ≤ 1 + ((-1) * res + 0) := f1
      rw [← hr] at f1
      obtain ⟨f2, hf⟩ := hb_unc hf
      have f2 : 0 ≤ 236 + ((-1) * hv M' 33 3 + ((-1) * hv M' 33 5 + 0)) := f2
      exact w0 M' x b1 b2 b3 b4 b5 (by have h1 := f0; omega) (by have h1 := f1; omega) (by have h1 := f2; omega)
    cases hp
theorem lu_finish {d z u : Nat} {M : Nat → mq_C} {Q : (Option Value ⊕ Nat) → mq_S → Prop} {x1 : Int32} (hd : 9 ≤ d) (hz : 272 ≤ z) (hm : mz_sh mz_GG M) (hx : HX M) (hl : lw M)
    (k : ∀ (M' : Nat → mq_C) (r : Int32), mz_sh mz_GG M' → HX M' → lw M' → (∀ a, a < 8 → M' a = M a) → M' 271 = M 271 → (∀ a, 234 ≤ a → a < 271 → M' a = M a) → lr_fin x1.toInt (hv M 33 3) (hv M 33 5) (hv M 33 6) (hv M 47 1) (hv M 58 1) (hv M 69 1) (hv M 80 1) (hv M' 33 3) (hv M' 33 5) (hv M' 33 6) (hv M' 47 1) (hv M' 58 1) (hv M' 69 1) (hv M' 80 1) r.toInt → hv M' 33 1 = hv M 33 1 → xLK (cvw M) (cvw M') → Q (.inl (some (.int r))) (M', z, u)) : mq_R mq_PP d 3 0 [some (.ref 8), some (.int x1)] [] (M, z, u) Q := by
  obtain ⟨l0, l1, l2, l3, l4, l5⟩ := hl
  have hW : ∀ b ∈ mz_q97.2.2.2.2.2, b < 234 := by decide +kernel
  have hWL : ∀ b ∈ mz_q97.2.2.2.2.2, b < 91 ∨ 110 < b ∨ b % 5 = 3 ∨ b % 5 = 4 ∨ b % 5 = 0 := by decide +kernel
  refine mq_R_mono (lx_and (Q := fun r' S' => ∃ (M' : Nat → mq_C) (r : Int32), r' = .inl (some (.int r)) ∧ S' = (M', z, u) ∧ hv M' 33 1 = hv M' 33 1 ∧ mz_sh mz_GG M' ∧ HX M' ∧ lw M' ∧ (∀ a, a < 8 → M' a = M a) ∧ M' 271 = M 271 ∧ (∀ a, 234 ≤ a → a < 271 → M' a = M a) ∧ hv M' 33 1 = hv M 33 1 ∧ xLK (cvw M) (cvw M')) (Q' := fun r' S' => ∃ (M' : Nat → mq_C) (r : Int32), r' = .inl (some (.int r)) ∧ S' = (M', z, u) ∧ lr_fin x1.toInt (hv M 33 3) (hv M 33 5) (hv M 33 6) (hv M 47 1) (hv M 58 1) (hv M 69 1) (hv M 80 1) (hv M' 33 3) (hv M' 33 5) (hv M' 33 6) (hv M' 47 1) (hv M' 58 1) (hv M' 69 1) (hv M' 80 1) r.toInt) ?_ ?_) ?_
  · refine ly_finish (ha_all (mz_q97, 8) (List.mem_of_getElem? (show mz_Cs[97]? = _ from rfl))) (by omega) hz hm hx (by omega) ?_
    · intro M' r b1 b2 b3 b4 b5 f0 f1 f2
      have e24 : hv M' 234 30 = hv M 234 30 := b5 24 (234, 30) rfl rfl
      have e33 : hv M' 257 0 = hv M 257 0 := b5 33 (257, 0) rfl rfl
      have e0 : hv M' 8 4 = hv M 8 4 := b5 0 (8, 4) rfl rfl
      have e12 : hv M' 44 0 = hv M 44 0 := b5 12 (44, 0) rfl rfl
      have e13 : hv M' 44 1 = hv M 44 1 := b5 13 (44, 1) rfl rfl
      have e14 : hv M' 44 3 = hv M 44 3 := b5 14 (44, 3) rfl rfl
      have e28 : hv M' 234 57 = hv M 234 57 := b5 28 (234, 57) rfl rfl
      have e8 : hv M' 33 1 = hv M 33 1 := b5 8 (33, 1) rfl rfl
      exact ⟨M', r, rfl, rfl, rfl, b1, b2, ⟨by omega, by omega, by omega, by omega, by omega, by omega⟩, b4, (b3 271 (by decide) (by decide +kernel)), (fun a h1 h2 => b3 a (by omega) (lx_el (fun h => by have := hW a h; omega))), e8, (xLK_c e0 (fun i hi => ⟨b3 (91 + 5 * i) (by omega) (lx_el (fun h => by have := hWL _ h; omega)), b3 (92 + 5 * i) (by omega) (lx_el (fun h => by have := hWL _ h; omega))⟩))⟩
  · exact lx_finish (by omega) hz hm hx (by omega) (lx_rg33 hm).1 (lx_rg33 hm).2 (fun M' r h => ⟨M', r, rfl, rfl, h⟩)
  · rintro r' S' ⟨⟨M', r, rfl, rfl, -, b1, b2, b3, b4, b5, b6, b7⟩, M2, r2, e1, e2, h⟩
    cases e1
    cases e2
    exact k M' r b1 b2 b3 b4 b5 b6 h b7.1 b7.2
theorem lv_finish {d z u : Nat} {M : Nat → mq_C} {Q : (Option Value ⊕ Nat) → mq_S → Prop} {x1 : Int32} (hd : 9 ≤ d) (hz : 272 ≤ z) (hm : mz_sh mz_GG M) (hx : HX M) (hl : lw M) (hT6 : l6t M) (hE7 : xEA M)
    (k : ∀ (M' : Nat → mq_C) (r : Int32), mz_sh mz_GG M' → HX M' → lw M' → (∀ a, a < 8 → M' a = M a) → M' 271 = M 271 → (∀ a, 234 ≤ a → a < 271 → M' a = M a) → lr_fin x1.toInt (hv M 33 3) (hv M 33 5) (hv M 33 6) (hv M 47 1) (hv M 58 1) (hv M 69 1) (hv M 80 1) (hv M' 33 3) (hv M' 33 5) (hv M' 33 6) (hv M' 47 1) (hv M' 58 1) (hv M' 69 1) (hv M' 80 1) r.toInt → hv M' 33 1 = hv M 33 1 → l6tb M M' → c6_fin M M' x1.toInt r.toInt → xEA M' → xLK (cvw M) (cvw M') → Q (.inl (some (.int r))) (M', z, u)) : mq_R mq_PP d 3 0 [some (.ref 8), some (.int x1)] [] (M, z, u) Q := by
  refine mq_R_mono (lx_and (Q' := fun r' S' => ∃ (M' : Nat → mq_C) (r : Int32), r' = .inl (some (.int r)) ∧ S' = (M', z, u) ∧ xEA M') (lx_and (Q := fun r' S' => ∃ (M' : Nat → mq_C) (r : Int32), r' = .inl (some (.int r)) ∧ S' = (M', z, u) ∧ mz_sh mz_GG M' ∧ HX M' ∧ lw M' ∧ (∀ a, a < 8 → M' a = M a) ∧ M' 271 = M 271 ∧ (∀ a, 234 ≤ a → a < 271 → M' a = M a) ∧ lr_fin x1.toInt (hv M 33 3) (hv M 33 5) (hv M 33 6) (hv M 47 1) (hv M 58 1) (hv M 69 1) (hv M 80 1) (hv M' 33 3) (hv M' 33 5) (hv M' 33 6) (hv M' 47 1) (hv M' 58 1) (hv M' 69 1) (hv M' 80 1) r.toInt ∧ hv M' 33 1 = hv M 33 1 ∧ xLK (cvw M) (cvw M') ∧ l6tb M M') (Q' := fun r' S' => ∃ (M' : Nat → mq_C) (r : Int32), r' = .inl (some (.int r)) ∧ S' = (M', z, u) ∧ c6_fin M M' x1.toInt r.toInt) ?_ ?_) ?_) ?_
  · rw [← mq_e3]
    refine fz_R (by decide) hm hz (fun b hb => ?_) ?_
    · simp at hb
      subst hb
      decide
    rw [mq_e3]
    refine lu_finish (by omega) hz hm hx hl ?_
    exact fun M' r b1 b2 b3 b4 b5 b6 b7 b8 bL hT => ⟨M', r, rfl, rfl, b1, b2, b3, b4, b5, b6, b7, b8, bL, hT⟩
  · obtain ⟨d, rfl⟩ : ∃ e, d = e + 8 := ⟨d - 8, by omega⟩
    exact xn_finish hz hm hx (xx_rng (c := _) hm (a := 33) (i := 3) (lo := 0) (hi := 240) rfl (by decide) rfl).1 (xx_rng (c := _) hm (a := 33) (i := 5) (lo := 0) (hi := 240) rfl (by decide) rfl).1 (xx_rng (c := _) hm (a := 33) (i := 6) (lo := 0) (hi := 6) rfl (by decide) rfl).1 (xx_rng (c := _) hm (a := 33) (i := 6) (lo := 0) (hi := 6) rfl (by decide) rfl).2 (by have := hl.1; omega) (fun M' r h => ⟨M', r, rfl, rfl, h⟩)
  · obtain ⟨d, rfl⟩ : ∃ e, d = e + 8 := ⟨d - 8, by omega⟩
    exact xq_finish hz hx hm (xx_rng (c := _) hm (a := 33) (i := 3) (lo := 0) (hi := 240) rfl (by decide) rfl).1 (xx_rng (c := _) hm (a := 33) (i := 5) (lo := 0) (hi := 240) rfl (by decide) rfl).1 (xx_rng (c := _) hm (a := 33) (i := 6) (lo := 0) (hi := 6) rfl (by decide) rfl).1 (xx_rng (c := _) hm (a := 33) (i := 6) (lo := 0) (hi := 6) rfl (by decide) rfl).2 (by have := hl.1; omega) hT6.2.2 hT6.1 hT6.2.1 hE7 (fun M' r h => ⟨M', r, rfl, rfl, h⟩)
  · rintro r' S' ⟨⟨⟨M', r, rfl, rfl, b1, b2, b3, b4, b5, b6, b7, b8, bL, hT⟩, M2, r2, e1, e2, h⟩, M3, r3, e3, e4, h7⟩
    cases e1
    cases e2
    cases e3
    cases e4
    exact k M' r b1 b2 b3 b4 b5 b6 b7 b8 hT h h7 bL
theorem ly_spoil {X : (Nat → mq_C) → Prop} (hq : mz_Ct mz_GG mq_PP X mz_q99 8) {d z u : Nat} {M : Nat → mq_C} {Q : (Option Value ⊕ Nat) → mq_S → Prop} {x1 : Int32} {x2 : Int32} {x3 : Int32} (hd : 8 ≤ d) (hz : 272 ≤ z) (hm : mz_sh mz_GG M) (hx : X M)
    (w0 : ∀ (M' : Nat → mq_C) (r : Int32), mz_sh mz_GG M' → X M' → mz_fr mz_q99 M M' → (∀ a, a < 8 → M' a = M a) → hb_same mz_GG mz_q99 M M' → 0 ≤ r.toInt → 0 ≤ 1 - r.toInt → Q (.inl (some (.int r))) (M', z, u)) : mq_R mq_PP d 4 0 [some (.ref 8), some (.int x1), some (.int x2), some (.int x3)] [] (M, z, u) Q := by
  refine hb_use mz_GG mq_PP X (q := mz_q99) (vs := [.ref 8, .int x1, .int x2, .int x3]) hq (by decide +kernel) hd (show hb_pk mz_GG [(1, 8), (0, 0), (0, 0), (0, 0)] _ from ⟨⟨List.mem_singleton.mpr rfl, rfl⟩, trivial, trivial, trivial, trivial⟩) hm hx hz ?_ ?_
  · exact hb_nil
  · intro r S hpo
    obtain ⟨b1, b2, b3, b4, b5, p, hp, res, hf, hre⟩ := hpo
    rcases List.mem_cons.mp hp with rfl | hp
    · obtain ⟨x, rfl, hr, hz1, hu1⟩ := mz_re_0 mz_GG hre rfl
      obtain ⟨M', z', u'⟩ := S
      cases hz1
      cases hu1
      obtain ⟨f0, hf⟩ := hb_unc hf
      have f0 : 0 ≤ 0 + (1 * res + 0) := f0
      rw [← hr] at f0
      obtain ⟨f1, hf⟩ := hb_unc hf
      have f1 : 0 ≤ 1 + ((-1) * res + 0) := f1
      rw [← hr] at f1
      exact w0 M' x b1 b2 b3 b4 b5 (by have h1 := f0; omega) (by have h1 := f1; omega)
    cases hp
theorem lu_spoil {d z u : Nat} {M : Nat → mq_C} {Q : (Option Value ⊕ Nat) → mq_S → Prop} {x1 : Int32} {x2 : Int32} {x3 : Int32} (hd : 9 ≤ d) (hz : 272 ≤ z) (hm : mz_sh mz_GG M) (hx : HX M) (hl : lw M)
    (k : ∀ (M' : Nat → mq_C) (r : Int32), mz_sh mz_GG M' → HX M' → lw M' → (∀ a, a < 8 → M' a = M a) → M' 271 = M 271 → (∀ a, 234 ≤ a → a < 271 → M' a = M a) → lcs M M' → xLK (cvw M) (cvw M') → Q (.inl (some (.int r))) (M', z, u)) : mq_R mq_PP d 4 0 [some (.ref 8), some (.int x1), some (.int x2), some (.int x3)] [] (M, z, u) Q := by
  obtain ⟨l0, l1, l2, l3, l4, l5⟩ := hl
  have hW : ∀ b ∈ mz_q99.2.2.2.2.2, b < 234 := by decide +kernel
  have hWL : ∀ b ∈ mz_q99.2.2.2.2.2, b < 91 ∨ 110 < b ∨ b % 5 = 3 ∨ b % 5 = 4 ∨ b % 5 = 0 := by decide +kernel
  refine lx_len (by decide) hm ?_
  refine ly_spoil (ha_all (mz_q99, 8) (List.mem_of_getElem? (show mz_Cs[99]? = _ from rfl))) (by omega) hz hm hx ?_
  · intro M' r b1 b2 b3 b4 b5 f0 f1 hls
    have e9 : hv M' 33 3 = hv M 33 3 := b5 9 (33, 3) rfl rfl
    have e10 : hv M' 33 5 = hv M 33 5 := b5 10 (33, 5) rfl rfl
    have e24 : hv M' 234 30 = hv M 234 30 := b5 24 (234, 30) rfl rfl
    have e33 : hv M' 257 0 = hv M 257 0 := b5 33 (257, 0) rfl rfl
    have e0 : hv M' 8 4 = hv M 8 4 := b5 0 (8, 4) rfl rfl
    have e12 : hv M' 44 0 = hv M 44 0 := b5 12 (44, 0) rfl rfl
    have e13 : hv M' 44 1 = hv M 44 1 := b5 13 (44, 1) rfl rfl
    have e14 : hv M' 44 3 = hv M 44 3 := b5 14 (44, 3) rfl rfl
    have e28 : hv M' 234 57 = hv M 234 57 := b5 28 (234, 57) rfl rfl
    have e8 : hv M' 33 1 = hv M 33 1 := b5 8 (33, 1) rfl rfl
    have e11 : hv M' 33 6 = hv M 33 6 := b5 11 (33, 6) rfl rfl
    exact k M' r b1 b2 ⟨by omega, by omega, by omega, by omega, by omega, by omega⟩ b4 (b3 271 (by decide) (by decide +kernel)) (fun a h1 h2 => b3 a (by omega) (lx_el (fun h => by have := hW a h; omega))) ⟨⟨e8, e9, e10, e11⟩, hls⟩ (xLK_c e0 (fun i hi => ⟨b3 (91 + 5 * i) (by omega) (lx_el (fun h => by have := hWL _ h; omega)), b3 (92 + 5 * i) (by omega) (lx_el (fun h => by have := hWL _ h; omega))⟩))
theorem lv_spoil {d z u : Nat} {M : Nat → mq_C} {Q : (Option Value ⊕ Nat) → mq_S → Prop} {x1 : Int32} {x2 : Int32} {x3 : Int32} (hd : 9 ≤ d) (hz : 272 ≤ z) (hm : mz_sh mz_GG M) (hx : HX M) (hl : lw M) (hT6 : l6t M) (hE7 : xEA M)
    (k : ∀ (M' : Nat → mq_C) (r : Int32), mz_sh mz_GG M' → HX M' → lw M' → (∀ a, a < 8 → M' a = M a) → M' 271 = M 271 → (∀ a, 234 ≤ a → a < 271 → M' a = M a) → lcs M M' → l6tb M M' → c6_spoil M M' x1.toInt x2.toInt x3 r.toInt → xEA M' → xLK (cvw M) (cvw M') → Q (.inl (some (.int r))) (M', z, u)) : mq_R mq_PP d 4 0 [some (.ref 8), some (.int x1), some (.int x2), some (.int x3)] [] (M, z, u) Q := by
  refine mq_R_mono (lx_and (Q' := fun r' S' => ∃ (M' : Nat → mq_C) (r : Int32), r' = .inl (some (.int r)) ∧ S' = (M', z, u) ∧ xEA M') (lx_and (Q := fun r' S' => ∃ (M' : Nat → mq_C) (r : Int32), r' = .inl (some (.int r)) ∧ S' = (M', z, u) ∧ mz_sh mz_GG M' ∧ HX M' ∧ lw M' ∧ (∀ a, a < 8 → M' a = M a) ∧ M' 271 = M 271 ∧ (∀ a, 234 ≤ a → a < 271 → M' a = M a) ∧ lcs M M' ∧ xLK (cvw M) (cvw M') ∧ l6tb M M') (Q' := fun r' S' => ∃ (M' : Nat → mq_C) (r : Int32), r' = .inl (some (.int r)) ∧ S' = (M', z, u) ∧ c6_spoil M M' x1.toInt x2.toInt x3 r.toInt) ?_ ?_) ?_) ?_
  · rw [← mq_e4]
    refine fz_R (by decide) hm hz (fun b hb => ?_) ?_
    · simp at hb
      subst hb
      decide
    rw [mq_e4]
    refine lu_spoil (by omega) hz hm hx hl ?_
    exact fun M' r b1 b2 b3 b4 b5 b6 b7 bL hT => ⟨M', r, rfl, rfl, b1, b2, b3, b4, b5, b6, b7, bL, hT⟩
  · obtain ⟨d, rfl⟩ : ∃ e, d = e + 8 := ⟨d - 8, by omega⟩
    exact xn_spoil hz hm hx (fun M' r h => ⟨M', r, rfl, rfl, h⟩)
  · obtain ⟨d, rfl⟩ : ∃ e, d = e + 8 := ⟨d - 8, by omega⟩
    exact xq_spoil hm hT6.2.2 hT6.1 hT6.2.1 hE7 (fun M' r h => ⟨M', r, rfl, rfl, h⟩)
  · rintro r' S' ⟨⟨⟨M', r, rfl, rfl, b1, b2, b3, b4, b5, b6, b7, bL, hT⟩, M2, r2, e1, e2, h⟩, M3, r3, e3, e4, h7⟩
    cases e1
    cases e2
    cases e3
    cases e4
    exact k M' r b1 b2 b3 b4 b5 b6 b7 hT h h7 bL
theorem ly_peek {X : (Nat → mq_C) → Prop} (hq : mz_Ct mz_GG mq_PP X mz_q100 3) {d z u : Nat} {M : Nat → mq_C} {Q : (Option Value ⊕ Nat) → mq_S → Prop} {x1 : Int32} {x2 : Int32} (hd : 3 ≤ d) (hz : 272 ≤ z) (hm : mz_sh mz_GG M) (hx : X M)
    (w0 : ∀ (M' : Nat → mq_C) (r : Int32), mz_sh mz_GG M' → X M' → mz_fr mz_q100 M M' → (∀ a, a < 8 → M' a = M a) → hb_same mz_GG mz_q100 M M' → Q (.inl (some (.int r))) (M', z, u)) : mq_R mq_PP d 5 0 [some (.ref 8), some (.int x1), some (.int x2)] [] (M, z, u) Q := by
  refine hb_use mz_GG mq_PP X (q := mz_q100) (vs := [.ref 8, .int x1, .int x2]) hq (by decide +kernel) hd (show hb_pk mz_GG [(1, 8), (0, 0), (0, 0)] _ from ⟨⟨List.mem_singleton.mpr rfl, rfl⟩, trivial, trivial, trivial⟩) hm hx hz ?_ ?_
  · exact hb_nil
  · intro r S hpo
    obtain ⟨b1, b2, b3, b4, b5, p, hp, res, hf, hre⟩ := hpo
    rcases List.mem_cons.mp hp with rfl | hp
    · obtain ⟨x, rfl, hr, hz1, hu1⟩ := mz_re_0 mz_GG hre rfl
      obtain ⟨M', z', u'⟩ := S
      cases hz1
      cases hu1
      exact w0 M' x b1 b2 b3 b4 b5 
    cases hp
theorem lu_peek {d z u : Nat} {M : Nat → mq_C} {Q : (Option Value ⊕ Nat) → mq_S → Prop} {x1 : Int32} {x2 : Int32} (hd : 9 ≤ d) (hz : 272 ≤ z) (hm : mz_sh mz_GG M) (hx : HX M) (hl : lw M)
    (k : ∀ (M' : Nat → mq_C) (r : Int32), mz_sh mz_GG M' → HX M' → lw M' → (∀ a, a < 8 → M' a = M a) → M' 271 = M 271 → (∀ a, 234 ≤ a → a < 271 → M' a = M a) → lcs M M' → (c6_kp M M' ∧ c6_al M M') → x47 M M' → xLK (cvw M) (cvw M') → Q (.inl (some (.int r))) (M', z, u)) : mq_R mq_PP d 5 0 [some (.ref 8), some (.int x1), some (.int x2)] [] (M, z, u) Q := by
  obtain ⟨l0, l1, l2, l3, l4, l5⟩ := hl
  have hW : ∀ b ∈ mz_q100.2.2.2.2.2, b < 234 := by decide +kernel
  have hW7 : ∀ b ∈ mz_q100.2.2.2.2.2, b < 47 ∨ 90 < b := by decide +kernel
  have hWL : ∀ b ∈ mz_q100.2.2.2.2.2, b < 91 ∨ 110 < b ∨ b % 5 = 3 ∨ b % 5 = 4 ∨ b % 5 = 0 := by decide +kernel
  refine ly_peek (ha_all (mz_q100, 3) (List.mem_of_getElem? (show mz_Cs[100]? = _ from rfl))) (by omega) hz hm hx ?_
  · intro M' r b1 b2 b3 b4 b5
    have e9 : hv M' 33 3 = hv M 33 3 := b5 9 (33, 3) rfl rfl
    have e10 : hv M' 33 5 = hv M 33 5 := b5 10 (33, 5) rfl rfl
    have e24 : hv M' 234 30 = hv M 234 30 := b5 24 (234, 30) rfl rfl
    have e33 : hv M' 257 0 = hv M 257 0 := b5 33 (257, 0) rfl rfl
    have e0 : hv M' 8 4 = hv M 8 4 := b5 0 (8, 4) rfl rfl
    have e12 : hv M' 44 0 = hv M 44 0 := b5 12 (44, 0) rfl rfl
    have e13 : hv M' 44 1 = hv M 44 1 := b5 13 (44, 1) rfl rfl
    have e14 : hv M' 44 3 = hv M 44 3 := b5 14 (44, 3) rfl rfl
    have e28 : hv M' 234 57 = hv M 234 57 := b5 28 (234, 57) rfl rfl
    have e8 : hv M' 33 1 = hv M 33 1 := b5 8 (33, 1) rfl rfl
    have e11 : hv M' 33 6 = hv M 33 6 := b5 11 (33, 6) rfl rfl
    exact k M' r b1 b2 ⟨by omega, by omega, by omega, by omega, by omega, by omega⟩ b4 (b3 271 (by decide) (by decide +kernel)) (fun a h1 h2 => b3 a (by omega) (lx_el (fun h => by have := hW a h; omega))) ⟨⟨e8, e9, e10, e11⟩, ⟨hb_vc (b3 47 (by decide) (by decide +kernel)) 1, hb_vc (b3 58 (by decide) (by decide +kernel)) 1, hb_vc (b3 69 (by decide) (by decide +kernel)) 1, hb_vc (b3 80 (by decide) (by decide +kernel)) 1⟩⟩ ⟨⟨b3 34 (by decide) (by decide +kernel), b3 35 (by decide) (by decide +kernel), b3 36 (by decide) (by decide +kernel)⟩, (fun s hs => by
      have h4 : s = 0 ∨ s = 1 ∨ s = 2 ∨ s = 3 := by omega
      rcases h4 with rfl | rfl | rfl | rfl
      · exact b3 48 (by decide) (by decide +kernel)
      · exact b3 59 (by decide) (by decide +kernel)
      · exact b3 70 (by decide) (by decide +kernel)
      · exact b3 81 (by decide) (by decide +kernel))⟩ (fun b p q => b3 b (by omega) (lx_el (fun h => by have := hW7 b h; omega))) (xLK_c e0 (fun i hi => ⟨b3 (91 + 5 * i) (by omega) (lx_el (fun h => by have := hWL _ h; omega)), b3 (92 + 5 * i) (by omega) (lx_el (fun h => by have := hWL _ h; omega))⟩))
theorem lv_peek {d z u : Nat} {M : Nat → mq_C} {Q : (Option Value ⊕ Nat) → mq_S → Prop} {x1 : Int32} {x2 : Int32} (hd : 9 ≤ d) (hz : 272 ≤ z) (hm : mz_sh mz_GG M) (hx : HX M) (hl : lw M)
    (k : ∀ (M' : Nat → mq_C) (r : Int32), mz_sh mz_GG M' → HX M' → lw M' → (∀ a, a < 8 → M' a = M a) → M' 271 = M 271 → (∀ a, 234 ≤ a → a < 271 → M' a = M a) → lcs M M' → (c6_kp M M' ∧ c6_al M M') → l6tb M M' → c6_peek M x1.toInt x2.toInt r.toInt → x47 M M' → xLK (cvw M) (cvw M') → Q (.inl (some (.int r))) (M', z, u)) : mq_R mq_PP d 5 0 [some (.ref 8), some (.int x1), some (.int x2)] [] (M, z, u) Q := by
  refine mq_R_mono (lx_and (Q := fun r' S' => ∃ (M' : Nat → mq_C) (r : Int32), r' = .inl (some (.int r)) ∧ S' = (M', z, u) ∧ mz_sh mz_GG M' ∧ HX M' ∧ lw M' ∧ (∀ a, a < 8 → M' a = M a) ∧ M' 271 = M 271 ∧ (∀ a, 234 ≤ a → a < 271 → M' a = M a) ∧ lcs M M' ∧ (c6_kp M M' ∧ c6_al M M') ∧ x47 M M' ∧ xLK (cvw M) (cvw M') ∧ l6tb M M') (Q' := fun r' S' => ∃ (M' : Nat → mq_C) (r : Int32), r' = .inl (some (.int r)) ∧ S' = (M', z, u) ∧ c6_peek M x1.toInt x2.toInt r.toInt) ?_ ?_) ?_
  · rw [← mq_e5]
    refine fz_R (by decide) hm hz (fun b hb => ?_) ?_
    · simp at hb
      subst hb
      decide
    rw [mq_e5]
    refine lu_peek (by omega) hz hm hx hl ?_
    exact fun M' r b1 b2 b3 b4 b5 b6 b7 b8 b9 bL hT => ⟨M', r, rfl, rfl, b1, b2, b3, b4, b5, b6, b7, b8, b9, bL, hT⟩
  · obtain ⟨d, rfl⟩ : ∃ e, d = e + 2 := ⟨d - 2, by omega⟩
    exact xn_peek hm (fun r h => ⟨M, r, rfl, rfl, h⟩)
  · rintro r' S' ⟨⟨M', r, rfl, rfl, b1, b2, b3, b4, b5, b6, b7, b8, b9, bL, hT⟩, M2, r2, e1, e2, h⟩
    cases e1
    cases e2
    exact k M' r b1 b2 b3 b4 b5 b6 b7 b8 hT h b9 bL
theorem ly_open {X : (Nat → mq_C) → Prop} (hq : mz_Ct mz_GG mq_PP X mz_q101 2) {d z u : Nat} {M : Nat → mq_C} {Q : (Option Value ⊕ Nat) → mq_S → Prop} {x1 : Int32} (hd : 2 ≤ d) (hz : 272 ≤ z) (hm : mz_sh mz_GG M) (hx : X M)
    (w0 : ∀ (M' : Nat → mq_C) (r : Int32), mz_sh mz_GG M' → X M' → mz_fr mz_q101 M M' → (∀ a, a < 8 → M' a = M a) → hb_same mz_GG mz_q101 M M' → r.toInt = (-1) → hv M' 8 4 = hv M 8 4 → 0 ≤ (-4) + hv M 8 4 → Q (.inl (some (.int r))) (M', z, u))
    (w1 : ∀ (M' : Nat → mq_C) (r : Int32), mz_sh mz_GG M' → X M' → mz_fr mz_q101 M M' → (∀ a, a < 8 → M' a = M a) → hb_same mz_GG mz_q101 M M' → r.toInt = (-1) → hv M' 8 4 = hv M 8 4 → 0 ≤ 0 - hv M 8 4 → 0 ≤ (-2) - x1.toInt → Q (.inl (some (.int r))) (M', z, u))
    (w2 : ∀ (M' : Nat → mq_C) (r : Int32), mz_sh mz_GG M' → X M' → mz_fr mz_q101 M M' → (∀ a, a < 8 → M' a = M a) → hb_same mz_GG mz_q101 M M' → r.toInt = (-1) → hv M' 8 4 = hv M 8 4 → 0 ≤ 0 - hv M 8 4 → 0 ≤ x1.toInt → Q (.inl (some (.int r))) (M', z, u))
    (w3 : ∀ (M' : Nat → mq_C) (r : Int32), mz_sh mz_GG M' → X M' → mz_fr mz_q101 M M' → (∀ a, a < 8 → M' a = M a) → hb_same mz_GG mz_q101 M M' → r.toInt = (-1) → hv M' 8 4 = hv M 8 4 → 0 ≤ (-1) + hv M 8 4 → 0 ≤ (-1) - x1.toInt → Q (.inl (some (.int r))) (M', z, u))
    (w4 : ∀ (M' : Nat → mq_C) (r : Int32), mz_sh mz_GG M' → X M' → mz_fr mz_q101 M M' → (∀ a, a < 8 → M' a = M a) → hb_same mz_GG mz_q101 M M' → r.toInt = (-1) → hv M' 8 4 = hv M 8 4 → 0 ≤ (-1) + hv M 8 4 → 0 ≤ x1.toInt - hv M 8 4 → Q (.inl (some (.int r))) (M', z, u))
    (w5 : ∀ (M' : Nat → mq_C) (r : Int32), mz_sh mz_GG M' → X M' → mz_fr mz_q101 M M' → (∀ a, a < 8 → M' a = M a) → hb_same mz_GG mz_q101 M M' → r.toInt = 0 → hv M 8 4 = 0 → x1.toInt = (-1) → hv M' 8 4 = 1 → Q (.inl (some (.int r))) (M', z, u))
    (w6 : ∀ (M' : Nat → mq_C) (r : Int32), mz_sh mz_GG M' → X M' → mz_fr mz_q101 M M' → (∀ a, a < 8 → M' a = M a) → hb_same mz_GG mz_q101 M M' → r.toInt = hv M 8 4 → 0 ≤ (-1) + hv M 8 4 → 0 ≤ 3 - hv M 8 4 → 0 ≤ x1.toInt → 0 ≤ (-1) - x1.toInt + hv M 8 4 → hv M' 8 4 = 1 + hv M 8 4 → Q (.inl (some (.int r))) (M', z, u)) : mq_R mq_PP d 6 0 [some (.ref 8), some (.int x1), none] [] (M, z, u) Q := by
  refine hb_use mz_GG mq_PP X (q := mz_q101) (vs := [.ref 8, .int x1]) hq (by decide +kernel) hd (show hb_pk mz_GG [(1, 8), (0, 0)] _ from ⟨⟨List.mem_singleton.mpr rfl, rfl⟩, trivial, trivial⟩) hm hx hz ?_ ?_
  · exact hb_nil
  · intro r S hpo
    obtain ⟨b1, b2, b3, b4, b5, p, hp, res, hf, hre⟩ := hpo
    rcases List.mem_cons.mp hp with rfl | hp
    · obtain ⟨x, rfl, hr, hz1, hu1⟩ := mz_re_0 mz_GG hre rfl
      obtain ⟨M', z', u'⟩ := S
      cases hz1
      cases hu1
      obtain ⟨f0, hf⟩ := hb_unc hf
      have f0 : 0 ≤ 1 + (1 * res + 0) := f0
      rw [← hr] at f0
      obtain ⟨f1, hf⟩ := hb_unc hf
      have f1 : 0 ≤ -1 + ((-1) * res + 0) := f1
      rw [← hr] at f1
      obtain ⟨f2, hf⟩ := hb_unc hf
      have f2 : 0 ≤ 0 + ((-1) * hv M 8 4 + (1 * hv M' 8 4 + 0)) := f2
      obtain ⟨f3, hf⟩ := hb_unc hf
      have f3 : 0 ≤ 0 + (1 * hv M 8 4 + ((-1) * hv M' 8 4 + 0)) := f3
      obtain ⟨f4, hf⟩ := hb_unc hf
      have f4 : 0 ≤ -4 + (1 * hv M 8 4 + 0) := f4
      exact w0 M' x b1 b2 b3 b4 b5 (by have h1 := f0; have h2 := f1; omega) (by have h1 := f2; have h2 := f3; omega) (by have h1 := f4; omega)
    rcases List.mem_cons.mp hp with rfl | hp
    · obtain ⟨x, rfl, hr, hz1, hu1⟩ := mz_re_0 mz_GG hre rfl
      obtain ⟨M', z', u'⟩ := S
      cases hz1
      cases hu1
      obtain ⟨f0, hf⟩ := hb_unc hf
      have f0 : 0 ≤ 1 + (1 * res + 0) := f0
      rw [← hr] at f0
      obtain ⟨f1, hf⟩ := hb_unc hf
      have f1 : 0 ≤ -1 + ((-1) * res + 0) := f1
      rw [← hr] at f1
      obtain ⟨f2, hf⟩ := hb_unc hf
      have f2 : 0 ≤ 0 + ((-1) * hv M 8 4 + (1 * hv M' 8 4 + 0)) := f2
      obtain ⟨f3, hf⟩ := hb_unc hf
      have f3 : 0 ≤ 0 + (1 * hv M 8 4 + ((-1) * hv M' 8 4 + 0)) := f3
      obtain ⟨f4, hf⟩ := hb_unc hf
      have f4 : 0 ≤ 0 + ((-1) * hv M 8 4 + 0) := f4
      obtain ⟨f5, hf⟩ := hb_unc hf
      have f5 : 0 ≤ -2 + ((-1) * x1.toInt + 0) := f5
      exact w1 M' x b1 b2 b3 b4 b5 (by have h1 := f0; have h2 := f1; omega) (by have h1 := f2; have h2 := f3; omega) (by have h1 := f4; omega) (by have h1 := f5; omega)
    rcases List.mem_cons.mp hp with rfl | hp
    · obtain ⟨x, rfl, hr, hz1, hu1⟩ := mz_re_0 mz_GG hre rfl
      obtain ⟨M', z', u'⟩ := S
      cases hz1
      cases hu1
      obtain ⟨f0, hf⟩ := hb_unc hf
      have f0 : 0 ≤ 1 + (1 * res + 0) := f0
      rw [← hr] at f0
      obtain ⟨f1, hf⟩ := hb_unc hf
      have f1 : 0 ≤ -1 + ((-1) * res + 0) := f1
      rw [← hr] at f1
      obtain ⟨f2, hf⟩ := hb_unc hf
      have f2 : 0 ≤ 0 + ((-1) * hv M 8 4 + (1 * hv M' 8 4 + 0)) := f2
      obtain ⟨f3, hf⟩ := hb_unc hf
      have f3 : 0 ≤ 0 + (1 * hv M 8 4 + ((-1) * hv M' 8 4 + 0)) := f3
      obtain ⟨f4, hf⟩ := hb_unc hf
      have f4 : 0 ≤ 0 + ((-1) * hv M 8 4 + 0) := f4
      obtain ⟨f5, hf⟩ := hb_unc hf
      have f5 : 0 ≤ 0 + (1 * x1.toInt + 0) := f5
      exact w2 M' x b1 b2 b3 b4 b5 (by have h1 := f0; have h2 := f1; omega) (by have h1 := f2; have h2 := f3; omega) (by have h1 := f4; omega) (by have h1 := f5; omega)
    rcases List.mem_cons.mp hp with rfl | hp
    · obtain ⟨x, rfl, hr, hz1, hu1⟩ := mz_re_0 mz_GG hre rfl
      obtain ⟨M', z', u'⟩ := S
      cases hz1
      cases hu1
      obtain ⟨f0, hf⟩ := hb_unc hf
      have f0 : 0 ≤ 1 + (1 * res + 0) := f0
      rw [← hr] at f0
      obtain ⟨f1, hf⟩ := hb_unc hf
      have f1 : 0 ≤ -1 + ((-1) * res + 0) := f1
      rw [← hr] at f1
      obtain ⟨f2, hf⟩ := hb_unc hf
      have f2 : 0 ≤ 0 + ((-1) * hv M 8 4 + (1 * hv M' 8 4 + 0)) := f2
      obtain ⟨f3, hf⟩ := hb_unc hf
      have f3 : 0 ≤ 0 + (1 * hv M 8 4 + ((-1) * hv M' 8 4 + 0)) := f3
      obtain ⟨f4, hf⟩ := hb_unc hf
      have f4 : 0 ≤ -1 + (1 * hv M 8 4 + 0) := f4
      obtain ⟨f5, hf⟩ := hb_unc hf
      have f5 : 0 ≤ -1 + ((-1) * x1.toInt + 0) := f5
      exact w3 M' x b1 b2 b3 b4 b5 (by have h1 := f0; have h2 := f1; omega) (by have h1 := f2; have h2 := f3; omega) (by have h1 := f4; omega) (by have h1 := f5; omega)
    rcases List.mem_cons.mp hp with rfl | hp
    · obtain ⟨x, rfl, hr, hz1, hu1⟩ := mz_re_0 mz_GG hre rfl
      obtain ⟨M', z', u'⟩ := S
      cases hz1
      cases hu1
      obtain ⟨f0, hf⟩ := hb_unc hf
      have f0 : 0 ≤ 1 + (1 * res + 0) := f0
      rw [← hr] at f0
      obtain ⟨f1, hf⟩ := hb_unc hf
      have f1 : 0 ≤ -1 + ((-1) * res + 0) := f1
      rw [← hr] at f1
      obtain ⟨f2, hf⟩ := hb_unc hf
      have f2 : 0 ≤ 0 + ((-1) * hv M 8 4 + (1 * hv M' 8 4 + 0)) := f2
      obtain ⟨f3, hf⟩ := hb_unc hf
      have f3 : 0 ≤ 0 + (1 * hv M 8 4 + ((-1) * hv M' 8 4 + 0)) := f3
      obtain ⟨f4, hf⟩ := hb_unc hf
      have f4 : 0 ≤ -1 + (1 * hv M 8 4 + 0) := f4
      obtain ⟨f5, hf⟩ := hb_unc hf
      have f5 : 0 ≤ 0 + (1 * x1.toInt + ((-1) * hv M 8 4 + 0)) := f5
      exact w4 M' x b1 b2 b3 b4 b5 (by have h1 := f0; have h2 := f1; omega) (by have h1 := f2; have h2 := f3; omega) (by have h1 := f4; omega) (by have h1 := f5; omega)
    rcases List.mem_cons.mp hp with rfl | hp
    · obtain ⟨x, rfl, hr, hz1, hu1⟩ := mz_re_0 mz_GG hre rfl
      obtain ⟨M', z', u'⟩ := S
      cases hz1
      cases hu1
      obtain ⟨f0, hf⟩ := hb_unc hf
      have f0 : 0 ≤ 0 + (1 * res + 0) := f0
      rw [← hr] at f0
      obtain ⟨f1, hf⟩ := hb_unc hf
      have f1 : 0 ≤ 0 + ((-1) * res + 0) := f1
      rw [← hr] at f1
      obtain ⟨f2, hf⟩ := hb_unc hf
      have f2 : 0 ≤ 0 + (1 * hv M 8 4 + 0) := f2
      obtain ⟨f3, hf⟩ := hb_unc hf
      have f3 : 0 ≤ 0 + ((-1) * hv M 8 4 + 0) := f3
      obtain ⟨f4, hf⟩ := hb_unc hf
      have f4 : 0 ≤ 1 + (1 * x1.toInt + 0) := f4
      obtain ⟨f5, hf⟩ := hb_unc hf
      have f5 : 0 ≤ -1 + ((-1) * x1.toInt + 0) := f5
      obtain ⟨f6, hf⟩ := hb_unc hf
      have f6 : 0 ≤ -1 + (1 * hv M' 8 4 + 0) := f6
      obtain ⟨f7, hf⟩ := hb_unc hf
      have f7 : 0 ≤ 1 + ((-1) * hv M' 8 4 + 0) := f7
      exact w5 M' x b1 b2 b3 b4 b5 (by have h1 := f0; have h2 := f1; omega) (by have h1 := f2; have h2 := f3; omega) (by have h1 := f4; have h2 := f5; omega) (by have h1 := f6; have h2 := f7; omega)
    rcases List.mem_cons.mp hp with rfl | hp
    · obtain ⟨x, rfl, hr, hz1, hu1⟩ := mz_re_0 mz_GG hre rfl
      obtain ⟨M', z', u'⟩ := S
      cases hz1
      cases hu1
      obtain ⟨f0, hf⟩ := hb_unc hf
      have f0 : 0 ≤ 0 + ((-1) * hv M 8 4 + (1 * res + 0)) := f0
      rw [← hr] at f0
      obtain ⟨f1, hf⟩ := hb_unc hf
      have f1 : 0 ≤ 0 + (1 * hv M 8 4 + ((-1) * res + 0)) := f1
      rw [← hr] at f1
      obtain ⟨f2, hf⟩ := hb_unc hf
      have f2 : 0 ≤ -1 + (1 * hv M 8 4 + 0) := f2
      obtain ⟨f3, hf⟩ := hb_unc hf
      have f3 : 0 ≤ 3 + ((-1) * hv M 8 4 + 0) := f3
      obtain ⟨f4, hf⟩ := hb_unc hf
      have f4 : 0 ≤ 0 + (1 * x1.toInt + 0) := f4
      obtain ⟨f5, hf⟩ := hb_unc hf
      have f5 : 0 ≤ -1 + ((-1) * x1.toInt + (1 * hv M 8 4 + 0)) := f5
      obtain ⟨f6, hf⟩ := hb_unc hf
      have f6 : 0 ≤ -1 + ((-1) * hv M 8 4 + (1 * hv M' 8 4 + 0)) := f6
      obtain ⟨f7, hf⟩ := hb_unc hf
      have f7 : 0 ≤ 1 + (1 * hv M 8 4 + ((-1) * hv M' 8 4 + 0)) := f7
      exact w6 M' x b1 b2 b3 b4 b5 (by have h1 := f0; have h2 := f1; omega) (by have h1 := f2; omega) (by have h1 := f3; omega) (by have h1 := f4; omega) (by have h1 := f5; omega) (by have h1 := f6; have h2 := f7; omega)
    cases hp
theorem lu_open {d z u : Nat} {M : Nat → mq_C} {Q : (Option Value ⊕ Nat) → mq_S → Prop} {x1 : Int32} (hd : 9 ≤ d) (hz : 272 ≤ z) (hm : mz_sh mz_GG M) (hx : HX M) (hl : lw M)
    (k : ∀ (M' : Nat → mq_C) (r : Int32), mz_sh mz_GG M' → HX M' → lw M' → (∀ a, a < 8 → M' a = M a) → M' 271 = M 271 → (∀ a, 234 ≤ a → a < 271 → M' a = M a) → lcs M M' → (c6_kp M M' ∧ c6_al M M') → x47 M M' → Q (.inl (some (.int r))) (M', z, u)) : mq_R mq_PP d 6 0 [some (.ref 8), some (.int x1), none] [] (M, z, u) Q := by
  obtain ⟨l0, l1, l2, l3, l4, l5⟩ := hl
  have hW : ∀ b ∈ mz_q101.2.2.2.2.2, b < 234 := by decide +kernel
  have hW7 : ∀ b ∈ mz_q101.2.2.2.2.2, b < 47 ∨ 90 < b := by decide +kernel
  refine ly_open (ha_all (mz_q101, 2) (List.mem_of_getElem? (show mz_Cs[101]? = _ from rfl))) (by omega) hz hm hx ?_ ?_ ?_ ?_ ?_ ?_ ?_
  · intro M' r b1 b2 b3 b4 b5 f0 f1 f2
    have e9 : hv M' 33 3 = hv M 33 3 := b5 9 (33, 3) rfl rfl
    have e10 : hv M' 33 5 = hv M 33 5 := b5 10 (33, 5) rfl rfl
    have e24 : hv M' 234 30 = hv M 234 30 := b5 24 (234, 30) rfl rfl
    have e33 : hv M' 257 0 = hv M 257 0 := b5 33 (257, 0) rfl rfl
    have e12 : hv M' 44 0 = hv M 44 0 := b5 12 (44, 0) rfl rfl
    have e13 : hv M' 44 1 = hv M 44 1 := b5 13 (44, 1) rfl rfl
    have e14 : hv M' 44 3 = hv M 44 3 := b5 14 (44, 3) rfl rfl
    have e28 : hv M' 234 57 = hv M 234 57 := b5 28 (234, 57) rfl rfl
    have e8 : hv M' 33 1 = hv M 33 1 := b5 8 (33, 1) rfl rfl
    have e11 : hv M' 33 6 = hv M 33 6 := b5 11 (33, 6) rfl rfl
    exact k M' r b1 b2 ⟨by omega, by omega, by omega, by omega, by omega, by omega⟩ b4 (b3 271 (by decide) (by decide +kernel)) (fun a h1 h2 => b3 a (by omega) (lx_el (fun h => by have := hW a h; omega))) ⟨⟨e8, e9, e10, e11⟩, ⟨hb_vc (b3 47 (by decide) (by decide +kernel)) 1, hb_vc (b3 58 (by decide) (by decide +kernel)) 1, hb_vc (b3 69 (by decide) (by decide +kernel)) 1, hb_vc (b3 80 (by decide) (by decide +kernel)) 1⟩⟩ ⟨⟨b3 34 (by decide) (by decide +kernel), b3 35 (by decide) (by decide +kernel), b3 36 (by decide) (by decide +kernel)⟩, (fun s hs => by
      have h4 : s = 0 ∨ s = 1 ∨ s = 2 ∨ s = 3 := by omega
      rcases h4 with rfl | rfl | rfl | rfl
      · exact b3 48 (by decide) (by decide +kernel)
      · exact b3 59 (by decide) (by decide +kernel)
      · exact b3 70 (by decide) (by decide +kernel)
      · exact b3 81 (by decide) (by decide +kernel))⟩ (fun b p q => b3 b (by omega) (lx_el (fun h => by have := hW7 b h; omega)))
  · intro M' r b1 b2 b3 b4 b5 f0 f1 f2 f3
    have e9 : hv M' 33 3 = hv M 33 3 := b5 9 (33, 3) rfl rfl
    have e10 : hv M' 33 5 = hv M 33 5 := b5 10 (33, 5) rfl rfl
    have e24 : hv M' 234 30 = hv M 234 30 := b5 24 (234, 30) rfl rfl
    have e33 : hv M' 257 0 = hv M 257 0 := b5 33 (257, 0) rfl rfl
    have e12 : hv M' 44 0 = hv M 44 0 := b5 12 (44, 0) rfl rfl
    have e13 : hv M' 44 1 = hv M 44 1 := b5 13 (44, 1) rfl rfl
    have e14 : hv M' 44 3 = hv M 44 3 := b5 14 (44, 3) rfl rfl
    have e28 : hv M' 234 57 = hv M 234 57 := b5 28 (234, 57) rfl rfl
    have e8 : hv M' 33 1 = hv M 33 1 := b5 8 (33, 1) rfl rfl
    have e11 : hv M' 33 6 = hv M 33 6 := b5 11 (33, 6) rfl rfl
    exact k M' r b1 b2 ⟨by omega, by omega, by omega, by omega, by omega, by omega⟩ b4 (b3 271 (by decide) (by decide +kernel)) (fun a h1 h2 => b3 a (by omega) (lx_el (fun h => by have := hW a h; omega))) ⟨⟨e8, e9, e10, e11⟩, ⟨hb_vc (b3 47 (by decide) (by decide +kernel)) 1, hb_vc (b3 58 (by decide) (by decide +kernel)) 1, hb_vc (b3 69 (by decide) (by decide +kernel)) 1, hb_vc (b3 80 (by decide) (by decide +kernel)) 1⟩⟩ ⟨⟨b3 34 (by decide) (by decide +kernel), b3 35 (by decide) (by decide +kernel), b3 36 (by decide) (by decide +kernel)⟩, (fun s hs => by
      have h4 : s = 0 ∨ s = 1 ∨ s = 2 ∨ s = 3 := by omega
      rcases h4 with rfl | rfl | rfl | rfl
      · exact b3 48 (by decide) (by decide +kernel)
      · exact b3 59 (by decide) (by decide +kernel)
      · exact b3 70 (by decide) (by decide +kernel)
      · exact b3 81 (by decide) (by decide +kernel))⟩ (fun b p q => b3 b (by omega) (lx_el (fun h => by have := hW7 b h; omega)))
  · intro M' r b1 b2 b3 b4 b5 f0 f1 f2 f3
    have e9 : hv M' 33 3 = hv M 33 3 := b5 9 (33, 3) rfl rfl
    have e10 : hv M' 33 5 = hv M 33 5 := b5 10 (33, 5) rfl rfl
    have e24 : hv M' 234 30 = hv M 234 30 := b5 24 (234, 30) rfl rfl
    have e33 : hv M' 257 0 = hv M 257 0 := b5 33 (257, 0) rfl rfl
    have e12 : hv M' 44 0 = hv M 44 0 := b5 12 (44, 0) rfl rfl
    have e13 : hv M' 44 1 = hv M 44 1 := b5 13 (44, 1) rfl rfl
    have e14 : hv M' 44 3 = hv M 44 3 := b5 14 (44, 3) rfl rfl
    have e28 : hv M' 234 57 = hv M 234 57 := b5 28 (234, 57) rfl rfl
    have e8 : hv M' 33 1 = hv M 33 1 := b5 8 (33, 1) rfl rfl
    have e11 : hv M' 33 6 = hv M 33 6 := b5 11 (33, 6) rfl rfl
    exact k M' r b1 b2 ⟨by omega, by omega, by omega, by omega, by omega, by omega⟩ b4 (b3 271 (by decide) (by decide +kernel)) (fun a h1 h2 => b3 a (by omega) (lx_el (fun h => by have := hW a h; omega))) ⟨⟨e8, e9, e10, e11⟩, ⟨hb_vc (b3 47 (by decide) (by decide +kernel)) 1, hb_vc (b3 58 (by decide) (by decide +kernel)) 1, hb_vc (b3 69 (by decide) (by decide +kernel)) 1, hb_vc (b3 80 (by decide) (by decide +kernel)) 1⟩⟩ ⟨⟨b3 34 (by decide) (by decide +kernel), b3 35 (by decide) (by decide +kernel), b3 36 (by decide) (by decide +kernel)⟩, (fun s hs => by
      have h4 : s = 0 ∨ s = 1 ∨ s = 2 ∨ s = 3 := by omega
      rcases h4 with rfl | rfl | rfl | rfl
      · exact b3 48 (by decide) (by decide +kernel)
      · exact b3 59 (by decide) (by decide +kernel)
      · exact b3 70 (by decide) (by decide +kernel)
      · exact b3 81 (by decide) (by decide +kernel))⟩ (fun b p q => b3 b (by omega) (lx_el (fun h => by have := hW7 b h; omega)))
  · intro M' r b1 b2 b3 b4 b5 f0 f1 f2 f3
    have e9 : hv M' 33 3 = hv M 33 3 := b5 9 (33, 3) rfl rfl
    have e10 : hv M' 33 5 = hv M 33 5 := b5 10 (33, 5) rfl rfl
    have e24 : hv M' 234 30 = hv M 234 30 := b5 24 (234, 30) rfl rfl
    have e33 : hv M' 257 0 = hv M 257 0 := b5 33 (257, 0) rfl rfl
    have e12 : hv M' 44 0 = hv M 44 0 := b5 12 (44, 0) rfl rfl
    have e13 : hv M' 44 1 = hv M 44 1 := b5 13 (44, 1) rfl rfl
    have e14 : hv M' 44 3 = hv M 44 3 := b5 14 (44, 3) rfl rfl
    have e28 : hv M' 234 57 = hv M 234 57 := b5 28 (234, 57) rfl rfl
    have e8 : hv M' 33 1 = hv M 33 1 := b5 8 (33, 1) rfl rfl
    have e11 : hv M' 33 6 = hv M 33 6 := b5 11 (33, 6) rfl rfl
    exact k M' r b1 b2 ⟨by omega, by omega, by omega, by omega, by omega, by omega⟩ b4 (b3 271 (by decide) (by decide +kernel)) (fun a h1 h2 => b3 a (by omega) (lx_el (fun h => by have := hW a h; omega))) ⟨⟨e8, e9, e10, e11⟩, ⟨hb_vc (b3 47 (by decide) (by decide +kernel)) 1, hb_vc (b3 58 (by decide) (by decide +kernel)) 1, hb_vc (b3 69 (by decide) (by decide +kernel)) 1, hb_vc (b3 80 (by decide) (by decide +kernel)) 1⟩⟩ ⟨⟨b3 34 (by decide) (by decide +kernel), b3 35 (by decide) (by decide +kernel), b3 36 (by decide) (by decide +kernel)⟩, (fun s hs => by
      have h4 : s = 0 ∨ s = 1 ∨ s = 2 ∨ s = 3 := by omega
      rcases h4 with rfl | rfl | rfl | rfl
      · exact b3 48 (by decide) (by decide +kernel)
      · exact b3 59 (by decide) (by decide +kernel)
      · exact b3 70 (by decide) (by decide +kernel)
      · exact b3 81 (by decide) (by decide +kernel))⟩ (fun b p q => b3 b (by omega) (lx_el (fun h => by have := hW7 b h; omega)))
  · intro M' r b1 b2 b3 b4 b5 f0 f1 f2 f3
    have e9 : hv M' 33 3 = hv M 33 3 := b5 9 (33, 3) rfl rfl
    have e10 : hv M' 33 5 = hv M 33 5 := b5 10 (33, 5) rfl rfl
    have e24 : hv M' 234 30 = hv M 234 30 := b5 24 (234, 30) rfl rfl
    have e33 : hv M' 257 0 = hv M 257 0 := b5 33 (257, 0) rfl rfl
    have e12 : hv M' 44 0 = hv M 44 0 := b5 12 (44, 0) rfl rfl
    have e13 : hv M' 44 1 = hv M 44 1 := b5 13 (44, 1) rfl rfl
    have e14 : hv M' 44 3 = hv M 44 3 := b5 14 (44, 3) rfl rfl
    have e28 : hv M' 234 57 = hv M 234 57 := b5 28 (234, 57) rfl rfl
    have e8 : hv M' 33 1 = hv M 33 1 := b5 8 (33, 1) rfl rfl
    have e11 : hv M' 33 6 = hv M 33 6 := b5 11 (33, 6) rfl rfl
    exact k M' r b1 b2 ⟨by omega, by omega, by omega, by omega, by omega, by omega⟩ b4 (b3 271 (by decide) (by decide +kernel)) (fun a h1 h2 => b3 a (by omega) (lx_el (fun h => by have := hW a h; omega))) ⟨⟨e8, e9, e10, e11⟩, ⟨hb_vc (b3 47 (by decide) (by decide +kernel)) 1, hb_vc (b3 58 (by decide) (by decide +kernel)) 1, hb_vc (b3 69 (by decide) (by decide +kernel)) 1, hb_vc (b3 80 (by decide) (by decide +kernel)) 1⟩⟩ ⟨⟨b3 34 (by decide) (by decide +kernel), b3 35 (by decide) (by decide +kernel), b3 36 (by decide) (by decide +kernel)⟩, (fun s hs => by
      have h4 : s = 0 ∨ s = 1 ∨ s = 2 ∨ s = 3 := by omega
      rcases h4 with rfl | rfl | rfl | rfl
      · exact b3 48 (by decide) (by decide +kernel)
      · exact b3 59 (by decide) (by decide +kernel)
      · exact b3 70 (by decide) (by decide +kernel)
      · exact b3 81 (by decide) (by decide +kernel))⟩ (fun b p q => b3 b (by omega) (lx_el (fun h => by have := hW7 b h; omega)))
  · intro M' r b1 b2 b3 b4 b5 f0 f1 f2 f3
    have e9 : hv M' 33 3 = hv M 33 3 := b5 9 (33, 3) rfl rfl
    have e10 : hv M' 33 5 = hv M 33 5 := b5 10 (33, 5) rfl rfl
    have e24 : hv M' 234 30 = hv M 234 30 := b5 24 (234, 30) rfl rfl
    have e33 : hv M' 257 0 = hv M 257 0 := b5 33 (257, 0) rfl rfl
    have e12 : hv M' 44 0 = hv M 44 0 := b5 12 (44, 0) rfl rfl
    have e13 : hv M' 44 1 = hv M 44 1 := b5 13 (44, 1) rfl rfl
    have e14 : hv M' 44 3 = hv M 44 3 := b5 14 (44, 3) rfl rfl
    have e28 : hv M' 234 57 = hv M 234 57 := b5 28 (234, 57) rfl rfl
    have e8 : hv M' 33 1 = hv M 33 1 := b5 8 (33, 1) rfl rfl
    have e11 : hv M' 33 6 = hv M 33 6 := b5 11 (33, 6) rfl rfl
    exact k M' r b1 b2 ⟨by omega, by omega, by omega, by omega, by omega, by omega⟩ b4 (b3 271 (by decide) (by decide +kernel)) (fun a h1 h2 => b3 a (by omega) (lx_el (fun h => by have := hW a h; omega))) ⟨⟨e8, e9, e10, e11⟩, ⟨hb_vc (b3 47 (by decide) (by decide +kernel)) 1, hb_vc (b3 58 (by decide) (by decide +kernel)) 1, hb_vc (b3 69 (by decide) (by decide +kernel)) 1, hb_vc (b3 80 (by decide) (by decide +kernel)) 1⟩⟩ ⟨⟨b3 34 (by decide) (by decide +kernel), b3 35 (by decide) (by decide +kernel), b3 36 (by decide) (by decide +kernel)⟩, (fun s hs => by
      have h4 : s = 0 ∨ s = 1 ∨ s = 2 ∨ s = 3 := by omega
      rcases h4 with rfl | rfl | rfl | rfl
      · exact b3 48 (by decide) (by decide +kernel)
      · exact b3 59 (by decide) (by decide +kernel)
      · exact b3 70 (by decide) (by decide +kernel)
      · exact b3 81 (by decide) (by decide +kernel))⟩ (fun b p q => b3 b (by omega) (lx_el (fun h => by have := hW7 b h; omega)))
  · intro M' r b1 b2 b3 b4 b5 f0 f1 f2 f3 f4 f5
    have e9 : hv M' 33 3 = hv M 33 3 := b5 9 (33, 3) rfl rfl
    have e10 : hv M' 33 5 = hv M 33 5 := b5 10 (33, 5) rfl rfl
    have e24 : hv M' 234 30 = hv M 234 30 := b5 24 (234, 30) rfl rfl
    have e33 : hv M' 257 0 = hv M 257 0 := b5 33 (257, 0) rfl rfl
    have e12 : hv M' 44 0 = hv M 44 0 := b5 12 (44, 0) rfl rfl
    have e13 : hv M' 44 1 = hv M 44 1 := b5 13 (44, 1) rfl rfl
    have e14 : hv M' 44 3 = hv M 44 3 := b5 14 (44, 3) rfl rfl
    have e28 : hv M' 234 57 = hv M 234 57 := b5 28 (234, 57) rfl rfl
    have e8 : hv M' 33 1 = hv M 33 1 := b5 8 (33, 1) rfl rfl
    have e11 : hv M' 33 6 = hv M 33 6 := b5 11 (33, 6) rfl rfl
    exact k M' r b1 b2 ⟨by omega, by omega, by omega, by omega, by omega, by omega⟩ b4 (b3 271 (by decide) (by decide +kernel)) (fun a h1 h2 => b3 a (by omega) (lx_el (fun h => by have := hW a h; omega))) ⟨⟨e8, e9, e10, e11⟩, ⟨hb_vc (b3 47 (by decide) (by decide +kernel)) 1, hb_vc (b3 58 (by decide) (by decide +kernel)) 1, hb_vc (b3 69 (by decide) (by decide +kernel)) 1, hb_vc (b3 80 (by decide) (by decide +kernel)) 1⟩⟩ ⟨⟨b3 34 (by decide) (by decide +kernel), b3 35 (by decide) (by decide +kernel), b3 36 (by decide) (by decide +kernel)⟩, (fun s hs => by
      have h4 : s = 0 ∨ s = 1 ∨ s = 2 ∨ s = 3 := by omega
      rcases h4 with rfl | rfl | rfl | rfl
      · exact b3 48 (by decide) (by decide +kernel)
      · exact b3 59 (by decide) (by decide +kernel)
      · exact b3 70 (by decide) (by decide +kernel)
      · exact b3 81 (by decide) (by decide +kernel))⟩ (fun b p q => b3 b (by omega) (lx_el (fun h => by have := hW7 b h; omega)))
theorem lv_open {d z u : Nat} {M : Nat → mq_C} {Q : (Option Value ⊕ Nat) → mq_S → Prop} {x1 : Int32} (hd : 9 ≤ d) (hz : 272 ≤ z) (hm : mz_sh mz_GG M) (hx : HX M) (hl : lw M)
    (k : ∀ (M' : Nat → mq_C) (r : Int32), mz_sh mz_GG M' → HX M' → lw M' → (∀ a, a < 8 → M' a = M a) → M' 271 = M 271 → (∀ a, 234 ≤ a → a < 271 → M' a = M a) → lcs M M' → (c6_kp M M' ∧ c6_al M M') → l6tb M M' → xSo (cvw M) (cvw M') x1.toInt r.toInt → x47 M M' → Q (.inl (some (.int r))) (M', z, u)) : mq_R mq_PP d 6 0 [some (.ref 8), some (.int x1), none] [] (M, z, u) Q := by
  refine mq_R_mono (lx_and (Q := fun r' S' => ∃ (M' : Nat → mq_C) (r : Int32), r' = .inl (some (.int r)) ∧ S' = (M', z, u) ∧ mz_sh mz_GG M' ∧ HX M' ∧ lw M' ∧ (∀ a, a < 8 → M' a = M a) ∧ M' 271 = M 271 ∧ (∀ a, 234 ≤ a → a < 271 → M' a = M a) ∧ lcs M M' ∧ (c6_kp M M' ∧ c6_al M M') ∧ x47 M M' ∧ l6tb M M') (Q' := fun r' S' => ∃ (M' : Nat → mq_C) (r : Int32), r' = .inl (some (.int r)) ∧ S' = (M', z, u) ∧ xSo (cvw M) (cvw M') x1.toInt r.toInt) ?_ ?_) ?_
  · rw [← mq_e6]
    refine fz_R (by decide) hm hz (fun b hb => ?_) ?_
    · simp at hb
      subst hb
      decide
    rw [mq_e6]
    refine lu_open (by omega) hz hm hx hl ?_
    exact fun M' r b1 b2 b3 b4 b5 b6 b7 b8 b9 hT => ⟨M', r, rfl, rfl, b1, b2, b3, b4, b5, b6, b7, b8, b9, hT⟩
  · obtain ⟨d, rfl⟩ : ∃ e, d = e + 1 := ⟨d - 1, by omega⟩
    exact xn_open hm (fun M' r h => ⟨M', r, rfl, rfl, h⟩)
  · rintro r' S' ⟨⟨M', r, rfl, rfl, b1, b2, b3, b4, b5, b6, b7, b8, b9, hT⟩, M2, r2, e1, e2, h⟩
    cases e1
    cases e2
    exact k M' r b1 b2 b3 b4 b5 b6 b7 b8 hT h b9
theorem ly_append {X : (Nat → mq_C) → Prop} (hq : mz_Ct mz_GG mq_PP X mz_q106 2) {d z u : Nat} {M : Nat → mq_C} {Q : (Option Value ⊕ Nat) → mq_S → Prop} {x1 : Int32} {x2 : Int32} (hd : 2 ≤ d) (hz : 272 ≤ z) (hm : mz_sh mz_GG M) (hx : X M)
    (w0 : ∀ (M' : Nat → mq_C) (r : Int32), mz_sh mz_GG M' → X M' → mz_fr mz_q106 M M' → (∀ a, a < 8 → M' a = M a) → hb_same mz_GG mz_q106 M M' → r.toInt = 0 → hv M' 91 3 = hv M 91 3 → hv M' 96 3 = hv M 96 3 → hv M' 101 3 = hv M 101 3 → hv M' 106 3 = hv M 106 3 → 0 ≤ (-1) - x1.toInt → Q (.inl (some (.int r))) (M', z, u))
    (w1 : ∀ (M' : Nat → mq_C) (r : Int32), mz_sh mz_GG M' → X M' → mz_fr mz_q106 M M' → (∀ a, a < 8 → M' a = M a) → hb_same mz_GG mz_q106 M M' → r.toInt = 0 → hv M' 91 3 = hv M 91 3 → hv M' 96 3 = hv M 96 3 → hv M' 101 3 = hv M 101 3 → hv M' 106 3 = hv M 106 3 → 0 ≤ x1.toInt - hv M 8 4 → Q (.inl (some (.int r))) (M', z, u))
    (w2 : ∀ (M' : Nat → mq_C) (r : Int32), mz_sh mz_GG M' → X M' → mz_fr mz_q106 M M' → (∀ a, a < 8 → M' a = M a) → hb_same mz_GG mz_q106 M M' → r.toInt = 0 → hv M' 91 3 = hv M 91 3 → hv M' 96 3 = hv M 96 3 → hv M' 101 3 = hv M 101 3 → hv M' 106 3 = hv M 106 3 → 0 ≤ (-1) - x2.toInt → Q (.inl (some (.int r))) (M', z, u))
    (w3 : ∀ (M' : Nat → mq_C) (r : Int32), mz_sh mz_GG M' → X M' → mz_fr mz_q106 M M' → (∀ a, a < 8 → M' a = M a) → hb_same mz_GG mz_q106 M M' → r.toInt = 0 → hv M' 91 3 = hv M 91 3 → hv M' 96 3 = hv M 96 3 → hv M' 101 3 = hv M 101 3 → hv M' 106 3 = hv M 106 3 → 0 ≤ (-4) + x2.toInt → Q (.inl (some (.int r))) (M', z, u))
    (w4 : ∀ (M' : Nat → mq_C) (r : Int32), mz_sh mz_GG M' → X M' → mz_fr mz_q106 M M' → (∀ a, a < 8 → M' a = M a) → hb_same mz_GG mz_q106 M M' → r.toInt = 1 → x1.toInt = 0 → 0 ≤ (-1) + hv M 8 4 → 0 ≤ x2.toInt → 0 ≤ 3 - x2.toInt → hv M 91 1 = 0 → 0 ≤ 3 - hv M 91 3 → hv M' 91 3 = 1 + hv M 91 3 → hv M' 96 3 = hv M 96 3 → hv M' 101 3 = hv M 101 3 → hv M' 106 3 = hv M 106 3 → Q (.inl (some (.int r))) (M', z, u))
    (w5 : ∀ (M' : Nat → mq_C) (r : Int32), mz_sh mz_GG M' → X M' → mz_fr mz_q106 M M' → (∀ a, a < 8 → M' a = M a) → hb_same mz_GG mz_q106 M M' → r.toInt = 0 → hv M' 91 3 = hv M 91 3 → hv M' 96 3 = hv M 96 3 → hv M' 101 3 = hv M 101 3 → hv M' 106 3 = hv M 106 3 → x1.toInt = 0 → 0 ≤ (-1) + hv M 8 4 → 0 ≤ x2.toInt → 0 ≤ 3 - x2.toInt → 0 ≤ (-1) + hv M 91 1 → Q (.inl (some (.int r))) (M', z, u))
    (w6 : ∀ (M' : Nat → mq_C) (r : Int32), mz_sh mz_GG M' → X M' → mz_fr mz_q106 M M' → (∀ a, a < 8 → M' a = M a) → hb_same mz_GG mz_q106 M M' → r.toInt = 0 → hv M' 91 3 = hv M 91 3 → hv M' 96 3 = hv M 96 3 → hv M' 101 3 = hv M 101 3 → hv M' 106 3 = hv M 106 3 → x1.toInt = 0 → 0 ≤ (-1) + hv M 8 4 → 0 ≤ x2.toInt → 0 ≤ 3 - x2.toInt → 0 ≤ (-4) + hv M 91 3 → Q (.inl (some (.int r))) (M', z, u))
    (w7 : ∀ (M' : Nat → mq_C) (r : Int32), mz_sh mz_GG M' → X M' → mz_fr mz_q106 M M' → (∀ a, a < 8 → M' a = M a) → hb_same mz_GG mz_q106 M M' → r.toInt = 1 → x1.toInt = 1 → 0 ≤ (-2) + hv M 8 4 → 0 ≤ x2.toInt → 0 ≤ 3 - x2.toInt → hv M 96 1 = 0 → 0 ≤ 3 - hv M 96 3 → hv M' 96 3 = 1 + hv M 96 3 → hv M' 91 3 = hv M 91 3 → hv M' 101 3 = hv M 101 3 → hv M' 106 3 = hv M 106 3 → Q (.inl (some (.int r))) (M', z, u))
    (w8 : ∀ (M' : Nat → mq_C) (r : Int32), mz_sh mz_GG M' → X M' → mz_fr mz_q106 M M' → (∀ a, a < 8 → M' a = M a) → hb_same mz_GG mz_q106 M M' → r.toInt = 0 → hv M' 91 3 = hv M 91 3 → hv M' 96 3 = hv M 96 3 → hv M' 101 3 = hv M 101 3 → hv M' 106 3 = hv M 106 3 → x1.toInt = 1 → 0 ≤ (-2) + hv M 8 4 → 0 ≤ x2.toInt → 0 ≤ 3 - x2.toInt → 0 ≤ (-1) + hv M 96 1 → Q (.inl (some (.int r))) (M', z, u))
    (w9 : ∀ (M' : Nat → mq_C) (r : Int32), mz_sh mz_GG M' → X M' → mz_fr mz_q106 M M' → (∀ a, a < 8 → M' a = M a) → hb_same mz_GG mz_q106 M M' → r.toInt = 0 → hv M' 91 3 = hv M 91 3 → hv M' 96 3 = hv M 96 3 → hv M' 101 3 = hv M 101 3 → hv M' 106 3 = hv M 106 3 → x1.toInt = 1 → 0 ≤ (-2) + hv M 8 4 → 0 ≤ x2.toInt → 0 ≤ 3 - x2.toInt → 0 ≤ (-4) + hv M 96 3 → Q (.inl (some (.int r))) (M', z, u))
    (w10 : ∀ (M' : Nat → mq_C) (r : Int32), mz_sh mz_GG M' → X M' → mz_fr mz_q106 M M' → (∀ a, a < 8 → M' a = M a) → hb_same mz_GG mz_q106 M M' → r.toInt = 1 → x1.toInt = 2 → 0 ≤ (-3) + hv M 8 4 → 0 ≤ x2.toInt → 0 ≤ 3 - x2.toInt → hv M 101 1 = 0 → 0 ≤ 3 - hv M 101 3 → hv M' 101 3 = 1 + hv M 101 3 → hv M' 91 3 = hv M 91 3 → hv M' 96 3 = hv M 96 3 → hv M' 106 3 = hv M 106 3 → Q (.inl (some (.int r))) (M', z, u))
    (w11 : ∀ (M' : Nat → mq_C) (r : Int32), mz_sh mz_GG M' → X M' → mz_fr mz_q106 M M' → (∀ a, a < 8 → M' a = M a) → hb_same mz_GG mz_q106 M M' → r.toInt = 0 → hv M' 91 3 = hv M 91 3 → hv M' 96 3 = hv M 96 3 → hv M' 101 3 = hv M 101 3 → hv M' 106 3 = hv M 106 3 → x1.toInt = 2 → 0 ≤ (-3) + hv M 8 4 → 0 ≤ x2.toInt → 0 ≤ 3 - x2.toInt → 0 ≤ (-1) + hv M 101 1 → Q (.inl (some (.int r))) (M', z, u))
    (w12 : ∀ (M' : Nat → mq_C) (r : Int32), mz_sh mz_GG M' → X M' → mz_fr mz_q106 M M' → (∀ a, a < 8 → M' a = M a) → hb_same mz_GG mz_q106 M M' → r.toInt = 0 → hv M' 91 3 = hv M 91 3 → hv M' 96 3 = hv M 96 3 → hv M' 101 3 = hv M 101 3 → hv M' 106 3 = hv M 106 3 → x1.toInt = 2 → 0 ≤ (-3) + hv M 8 4 → 0 ≤ x2.toInt → 0 ≤ 3 - x2.toInt → 0 ≤ (-4) + hv M 101 3 → Q (.inl (some (.int r))) (M', z, u))
    (w13 : ∀ (M' : Nat → mq_C) (r : Int32), mz_sh mz_GG M' → X M' → mz_fr mz_q106 M M' → (∀ a, a < 8 → M' a = M a) → hb_same mz_GG mz_q106 M M' → r.toInt = 1 → x1.toInt = 3 → 0 ≤ (-4) + hv M 8 4 → 0 ≤ x2.toInt → 0 ≤ 3 - x2.toInt → hv M 106 1 = 0 → 0 ≤ 3 - hv M 106 3 → hv M' 106 3 = 1 + hv M 106 3 → hv M' 91 3 = hv M 91 3 → hv M' 96 3 = hv M 96 3 → hv M' 101 3 = hv M 101 3 → Q (.inl (some (.int r))) (M', z, u))
    (w14 : ∀ (M' : Nat → mq_C) (r : Int32), mz_sh mz_GG M' → X M' → mz_fr mz_q106 M M' → (∀ a, a < 8 → M' a = M a) → hb_same mz_GG mz_q106 M M' → r.toInt = 0 → hv M' 91 3 = hv M 91 3 → hv M' 96 3 = hv M 96 3 → hv M' 101 3 = hv M 101 3 → hv M' 106 3 = hv M 106 3 → x1.toInt = 3 → 0 ≤ (-4) + hv M 8 4 → 0 ≤ x2.toInt → 0 ≤ 3 - x2.toInt → 0 ≤ (-1) + hv M 106 1 → Q (.inl (some (.int r))) (M', z, u))
    (w15 : ∀ (M' : Nat → mq_C) (r : Int32), mz_sh mz_GG M' → X M' → mz_fr mz_q106 M M' → (∀ a, a < 8 → M' a = M a) → hb_same mz_GG mz_q106 M M' → r.toInt = 0 → hv M' 91 3 = hv M 91 3 → hv M' 96 3 = hv M 96 3 → hv M' 101 3 = hv M 101 3 → hv M' 106 3 = hv M 106 3 → x1.toInt = 3 → 0 ≤ (-4) + hv M 8 4 → 0 ≤ x2.toInt → 0 ≤ 3 - x2.toInt → 0 ≤ (-4) + hv M 106 3 → Q (.inl (some (.int r))) (M', z, u)) : mq_R mq_PP d 7 0 [some (.ref 8), some (.int x1), some (.int x2)] [] (M, z, u) Q := by
  refine hb_use mz_GG mq_PP X (q := mz_q106) (vs := [.ref 8, .int x1, .int x2]) hq (by decide +kernel) hd (show hb_pk mz_GG [(1, 8), (0, 0), (0, 0)] _ from ⟨⟨List.mem_singleton.mpr rfl, rfl⟩, trivial, trivial, trivial⟩) hm hx hz ?_ ?_
  · exact hb_nil
  · intro r S hpo
    obtain ⟨b1, b2, b3, b4, b5, p, hp, res, hf, hre⟩ := hpo
    rcases List.mem_cons.mp hp with rfl | hp
    · obtain ⟨x, rfl, hr, hz1, hu1⟩ := mz_re_0 mz_GG hre rfl
      obtain ⟨M', z', u'⟩ := S
      cases hz1
      cases hu1
      obtain ⟨f0, hf⟩ := hb_unc hf
      have f0 : 0 ≤ 0 + (1 * res + 0) := f0
      rw [← hr] at f0
      obtain ⟨f1, hf⟩ := hb_unc hf
      have f1 : 0 ≤ 0 + ((-1) * res + 0) := f1
      rw [← hr] at f1
      obtain ⟨f2, hf⟩ := hb_unc hf
      have f2 : 0 ≤ 0 + ((-1) * hv M 91 3 + (1 * hv M' 91 3 + 0)) := f2
      obtain ⟨f3, hf⟩ := hb_unc hf
      have f3 : 0 ≤ 0 + (1 * hv M 91 3 + ((-1) * hv M' 91 3 + 0)) := f3
      obtain ⟨f4, hf⟩ := hb_unc hf
      have f4 : 0 ≤ 0 + ((-1) * hv M 96 3 + (1 * hv M' 96 3 + 0)) := f4
      obtain ⟨f5, hf⟩ := hb_unc hf
      have f5 : 0 ≤ 0 + (1 * hv M 96 3 + ((-1) * hv M' 96 3 + 0)) := f5
      obtain ⟨f6, hf⟩ := hb_unc hf
      have f6 : 0 ≤ 0 + ((-1) * hv M 101 3 + (1 * hv M' 101 3 + 0)) := f6
      obtain ⟨f7, hf⟩ := hb_unc hf
      have f7 : 0 ≤ 0 + (1 * hv M 101 3 + ((-1) * hv M' 101 3 + 0)) := f7
      obtain ⟨f8, hf⟩ := hb_unc hf
      have f8 : 0 ≤ 0 + ((-1) * hv M 106 3 + (1 * hv M' 106 3 + 0)) := f8
      obtain ⟨f9, hf⟩ := hb_unc hf
      have f9 : 0 ≤ 0 + (1 * hv M 106 3 + ((-1) * hv M' 106 3 + 0)) := f9
      obtain ⟨f10, hf⟩ := hb_unc hf
      have f10 : 0 ≤ -1 + ((-1) * x1.toInt + 0) := f10
      exact w0 M' x b1 b2 b3 b4 b5 (by have h1 := f0; have h2 := f1; omega) (by have h1 := f2; have h2 := f3; omega) (by have h1 := f4; have h2 := f5; omega) (by have h1 := f6; have h2 := f7; omega) (by have h1 := f8; have h2 := f9; omega) (by have h1 := f10; omega)
    rcases List.mem_cons.mp hp with rfl | hp
    · obtain ⟨x, rfl, hr, hz1, hu1⟩ := mz_re_0 mz_GG hre rfl
      obtain ⟨M', z', u'⟩ := S
      cases hz1
      cases hu1
      obtain ⟨f0, hf⟩ := hb_unc hf
      have f0 : 0 ≤ 0 + (1 * res + 0) := f0
      rw [← hr] at f0
      obtain ⟨f1, hf⟩ := hb_unc hf
      have f1 : 0 ≤ 0 + ((-1) * res + 0) := f1
      rw [← hr] at f1
      obtain ⟨f2, hf⟩ := hb_unc hf
      have f2 : 0 ≤ 0 + ((-1) * hv M 91 3 + (1 * hv M' 91 3 + 0)) := f2
      obtain ⟨f3, hf⟩ := hb_unc hf
      have f3 : 0 ≤ 0 + (1 * hv M 91 3 + ((-1) * hv M' 91 3 + 0)) := f3
      obtain ⟨f4, hf⟩ := hb_unc hf
      have f4 : 0 ≤ 0 + ((-1) * hv M 96 3 + (1 * hv M' 96 3 + 0)) := f4
      obtain ⟨f5, hf⟩ := hb_unc hf
      have f5 : 0 ≤ 0 + (1 * hv M 96 3 + ((-1) * hv M' 96 3 + 0)) := f5
      obtain ⟨f6, hf⟩ := hb_unc hf
      have f6 : 0 ≤ 0 + ((-1) * hv M 101 3 + (1 * hv M' 101 3 + 0)) := f6
      obtain ⟨f7, hf⟩ := hb_unc hf
      have f7 : 0 ≤ 0 + (1 * hv M 101 3 + ((-1) * hv M' 101 3 + 0)) := f7
      obtain ⟨f8, hf⟩ := hb_unc hf
      have f8 : 0 ≤ 0 + ((-1) * hv M 106 3 + (1 * hv M' 106 3 + 0)) := f8
      obtain ⟨f9, hf⟩ := hb_unc hf
      have f9 : 0 ≤ 0 + (1 * hv M 106 3 + ((-1) * hv M' 106 3 + 0)) := f9
      obtain ⟨f10, hf⟩ := hb_unc hf
      have f10 : 0 ≤ 0 + (1 * x1.toInt + ((-1) * hv M 8 4 + 0)) := f10
      exact w1 M' x b1 b2 b3 b4 b5 (by have h1 := f0; have h2 := f1; omega) (by have h1 := f2; have h2 := f3; omega) (by have h1 := f4; have h2 := f5; omega) (by have h1 := f6; have h2 := f7; omega) (by have h1 := f8; have h2 := f9; omega) (by have h1 := f10; omega)
    rcases List.mem_cons.mp hp with rfl | hp
    · obtain ⟨x, rfl, hr, hz1, hu1⟩ := mz_re_0 mz_GG hre rfl
      obtain ⟨M', z', u'⟩ := S
      cases hz1
      cases hu1
      obtain ⟨f0, hf⟩ := hb_unc hf
      have f0 : 0 ≤ 0 + (1 * res + 0) := f0
      rw [← hr] at f0
      obtain ⟨f1, hf⟩ := hb_unc hf
      have f1 : 0 ≤ 0 + ((-1) * res + 0) := f1
      rw [← hr] at f1
      obtain ⟨f2, hf⟩ := hb_unc hf
      have f2 : 0 ≤ 0 + ((-1) * hv M 91 3 + (1 * hv M' 91 3 + 0)) := f2
      obtain ⟨f3, hf⟩ := hb_unc hf
      have f3 : 0 ≤ 0 + (1 * hv M 91 3 + ((-1) * hv M' 91 3 + 0)) := f3
      obtain ⟨f4, hf⟩ := hb_unc hf
      have f4 : 0 ≤ 0 + ((-1) * hv M 96 3 + (1 * hv M' 96 3 + 0)) := f4
      obtain ⟨f5, hf⟩ := hb_unc hf
      have f5 : 0 ≤ 0 + (1 * hv M 96 3 + ((-1) * hv M' 96 3 + 0)) := f5
      obtain ⟨f6, hf⟩ := hb_unc hf
      have f6 : 0 ≤ 0 + ((-1) * hv M 101 3 + (1 * hv M' 101 3 + 0)) := f6
      obtain ⟨f7, hf⟩ := hb_unc hf
      have f7 : 0 ≤ 0 + (1 * hv M 101 3 + ((-1) * hv M' 101 3 + 0)) := f7
      obtain ⟨f8, hf⟩ := hb_unc hf
      have f8 : 0 ≤ 0 + ((-1) * hv M 106 3 + (1 * hv M' 106 3 + 0)) := f8
      obtain ⟨f9, hf⟩ := hb_unc hf
      have f9 : 0 ≤ 0 + (1 * hv M 106 3 + ((-1) * hv M' 106 3 + 0)) := f9
      obtain ⟨f10, hf⟩ := hb_unc hf
      have f10 : 0 ≤ -1 + ((-1) * x2.toInt + 0) := f10
      exact w2 M' x b1 b2 b3 b4 b5 (by have h1 := f0; have h2 := f1; omega) (by have h1 := f2; have h2 := f3; omega) (by have h1 := f4; have h2 := f5; omega) (by have h1 := f6; have h2 := f7; omega) (by have h1 := f8; have h2 := f9; omega) (by have h1 := f10; omega)
    rcases List.mem_cons.mp hp with rfl | hp
    · obtain ⟨x, rfl, hr, hz1, hu1⟩ := mz_re_0 mz_GG hre rfl
      obtain ⟨M', z', u'⟩ := S
      cases hz1
      cases hu1
      obtain ⟨f0, hf⟩ := hb_unc hf
      have f0 : 0 ≤ 0 + (1 * res + 0) := f0
      rw [← hr] at f0
      obtain ⟨f1, hf⟩ := hb_unc hf
      have f1 : 0 ≤ 0 + ((-1) * res + 0) := f1
      rw [← hr] at f1
      obtain ⟨f2, hf⟩ := hb_unc hf
      have f2 : 0 ≤ 0 + ((-1) * hv M 91 3 + (1 * hv M' 91 3 + 0)) := f2
      obtain ⟨f3, hf⟩ := hb_unc hf
      have f3 : 0 ≤ 0 + (1 * hv M 91 3 + ((-1) * hv M' 91 3 + 0)) := f3
      obtain ⟨f4, hf⟩ := hb_unc hf
      have f4 : 0 ≤ 0 + ((-1) * hv M 96 3 + (1 * hv M' 96 3 + 0)) := f4
      obtain ⟨f5, hf⟩ := hb_unc hf
      have f5 : 0 ≤ 0 + (1 * hv M 96 3 + ((-1) * hv M' 96 3 + 0)) := f5
      obtain ⟨f6, hf⟩ := hb_unc hf
      have f6 : 0 ≤ 0 + ((-1) * hv M 101 3 + (1 * hv M' 101 3 + 0)) := f6
      obtain ⟨f7, hf⟩ := hb_unc hf
      have f7 : 0 ≤ 0 + (1 * hv M 101 3 + ((-1) * hv M' 101 3 + 0)) := f7
      obtain ⟨f8, hf⟩ := hb_unc hf
      have f8 : 0 ≤ 0 + ((-1) * hv M 106 3 + (1 * hv M' 106 3 + 0)) := f8
      obtain ⟨f9, hf⟩ := hb_unc hf
      have f9 : 0 ≤ 0 + (1 * hv M 106 3 + ((-1) * hv M' 106 3 + 0)) := f9
      obtain ⟨f10, hf⟩ := hb_unc hf
      have f10 : 0 ≤ -4 + (1 * x2.toInt + 0) := f10
      exact w3 M' x b1 b2 b3 b4 b5 (by have h1 := f0; have h2 := f1; omega) (by have h1 := f2; have h2 := f3; omega) (by have h1 := f4; have h2 := f5; omega) (by have h1 := f6; have h2 := f7; omega) (by have h1 := f8; have h2 := f9; omega) (by have h1 := f10; omega)
    rcases List.mem_cons.mp hp with rfl | hp
    · obtain ⟨x, rfl, hr, hz1, hu1⟩ := mz_re_0 mz_GG hre rfl
      obtain ⟨M', z', u'⟩ := S
      cases hz1
      cases hu1
      obtain ⟨f0, hf⟩ := hb_unc hf
      have f0 : 0 ≤ -1 + (1 * res + 0) := f0
      rw [← hr] at f0
      obtain ⟨f1, hf⟩ := hb_unc hf
      have f1 : 0 ≤ 1 + ((-1) * res + 0) := f1
      rw [← hr] at f1
      obtain ⟨f2, hf⟩ := hb_unc hf
      have f2 : 0 ≤ 0 + (1 * x1.toInt + 0) := f2
      obtain ⟨f3, hf⟩ := hb_unc hf
      have f3 : 0 ≤ 0 + ((-1) * x1.toInt + 0) := f3
      obtain ⟨f4, hf⟩ := hb_unc hf
      have f4 : 0 ≤ -1 + (1 * hv M 8 4 + 0) := f4
      obtain ⟨f5, hf⟩ := hb_unc hf
      have f5 : 0 ≤ 0 + (1 * x2.toInt + 0) := f5
      obtain ⟨f6, hf⟩ := hb_unc hf
      have f6 : 0 ≤ 3 + ((-1) * x2.toInt + 0) := f6
      obtain ⟨f7, hf⟩ := hb_unc hf
      have f7 : 0 ≤ 0 + (1 * hv M 91 1 + 0) := f7
      obtain ⟨f8, hf⟩ := hb_unc hf
      have f8 : 0 ≤ 0 + ((-1) * hv M 91 1 + 0) := f8
      obtain ⟨f9, hf⟩ := hb_unc hf
      have f9 : 0 ≤ 3 + ((-1) * hv M 91 3 + 0) := f9
      obtain ⟨f10, hf⟩ := hb_unc hf
      have f10 : 0 ≤ -1 + ((-1) * hv M 91 3 + (1 * hv M' 91 3 + 0)) := f10
      obtain ⟨f11, hf⟩ := hb_unc hf
      have f11 : 0 ≤ 1 + (1 * hv M 91 3 + ((-1) * hv M' 91 3 + 0)) := f11
      obtain ⟨f12, hf⟩ := hb_unc hf
      have f12 : 0 ≤ 0 + ((-1) * hv M 96 3 + (1 * hv M' 96 3 + 0)) := f12
      obtain ⟨f13, hf⟩ := hb_unc hf
      have f13 : 0 ≤ 0 + (1 * hv M 96 3 + ((-1) * hv M' 96 3 + 0)) := f13
      obtain ⟨f14, hf⟩ := hb_unc hf
      have f14 : 0 ≤ 0 + ((-1) * hv M 101 3 + (1 * hv M' 101 3 + 0)) := f14
      obtain ⟨f15, hf⟩ := hb_unc hf
      have f15 : 0 ≤ 0 + (1 * hv M 101 3 + ((-1) * hv M' 101 3 + 0)) := f15
      obtain ⟨f16, hf⟩ := hb_unc hf
      have f16 : 0 ≤ 0 + ((-1) * hv M 106 3 + (1 * hv M' 106 3 + 0)) := f16
      obtain ⟨f17, hf⟩ := hb_unc hf
      have f17 : 0 ≤ 0 + (1 * hv M 106 3 + ((-1) * hv M' 106 3 + 0)) := f17
      exact w4 M' x b1 b2 b3 b4 b5 (by have h1 := f0; have h2 := f1; omega) (by have h1 := f2; have h2 := f3; omega) (by have h1 := f4; omega) (by have h1 := f5; omega) (by have h1 := f6; omega) (by have h1 := f7; have h2 := f8; omega) (by have h1 := f9; omega) (by have h1 := f10; have h2 := f11; omega) (by have h1 := f12; have h2 := f13; omega) (by have h1 := f14; have h2 := f15; omega) (by have h1 := f16; have h2 := f17; omega)
    rcases List.mem_cons.mp hp with rfl | hp
    · obtain ⟨x, rfl, hr, hz1, hu1⟩ := mz_re_0 mz_GG hre rfl
      obtain ⟨M', z', u'⟩ := S
      cases hz1
      cases hu1
      obtain ⟨f0, hf⟩ := hb_unc hf
      have f0 : 0 ≤ 0 + (1 * res + 0) := f0
      rw [← hr] at f0
      obtain ⟨f1, hf⟩ := hb_unc hf
      have f1 : 0 ≤ 0 + ((-1) * res + 0) := f1
      rw [← hr] at f1
      obtain ⟨f2, hf⟩ := hb_unc hf
      have f2 : 0 ≤ 0 + ((-1) * hv M 91 3 + (1 * hv M' 91 3 + 0)) := f2
      obtain ⟨f3, hf⟩ := hb_unc hf
      have f3 : 0 ≤ 0 + (1 * hv M 91 3 + ((-1) * hv M' 91 3 + 0)) := f3
      obtain ⟨f4, hf⟩ := hb_unc hf
      have f4 : 0 ≤ 0 + ((-1) * hv M 96 3 + (1 * hv M' 96 3 + 0)) := f4
      obtain ⟨f5, hf⟩ := hb_unc hf
      have f5 : 0 ≤ 0 + (1 * hv M 96 3 + ((-1) * hv M' 96 3 + 0)) := f5
      obtain ⟨f6, hf⟩ := hb_unc hf
      have f6 : 0 ≤ 0 + ((-1) * hv M 101 3 + (1 * hv M' 101 3 + 0)) := f6
      obtain ⟨f7, hf⟩ := hb_unc hf
      have f7 : 0 ≤ 0 + (1 * hv M 101 3 + ((-1) * hv M' 101 3 + 0)) := f7
      obtain ⟨f8, hf⟩ := hb_unc hf
      have f8 : 0 ≤ 0 + ((-1) * hv M 106 3 + (1 * hv M' 106 3 + 0)) := f8
      obtain ⟨f9, hf⟩ := hb_unc hf
      have f9 : 0 ≤ 0 + (1 * hv M 106 3 + ((-1) * hv M' 106 3 + 0)) := f9
      obtain ⟨f10, hf⟩ := hb_unc hf
      have f10 : 0 ≤ 0 + (1 * x1.toInt + 0) := f10
      obtain ⟨f11, hf⟩ := hb_unc hf
      have f11 : 0 ≤ 0 + ((-1) * x1.toInt + 0) := f11
      obtain ⟨f12, hf⟩ := hb_unc hf
      have f12 : 0 ≤ -1 + (1 * hv M 8 4 + 0) := f12
      obtain ⟨f13, hf⟩ := hb_unc hf
      have f13 : 0 ≤ 0 + (1 * x2.toInt + 0) := f13
      obtain ⟨f14, hf⟩ := hb_unc hf
      have f14 : 0 ≤ 3 + ((-1) * x2.toInt + 0) := f14
      obtain ⟨f15, hf⟩ := hb_unc hf
      have f15 : 0 ≤ -1 + (1 * hv M 91 1 + 0) := f15
      exact w5 M' x b1 b2 b3 b4 b5 (by have h1 := f0; have h2 := f1; omega) (by have h1 := f2; have h2 := f3; omega) (by have h1 := f4; have h2 := f5; omega) (by have h1 := f6; have h2 := f7; omega) (by have h1 := f8; have h2 := f9; omega) (by have h1 := f10; have h2 := f11; omega) (by have h1 := f12; omega) (by have h1 := f13; omega) (by have h1 := f14; omega) (by have h1 := f15; omega)
    rcases List.mem_cons.mp hp with rfl | hp
    · obtain ⟨x, rfl, hr, hz1, hu1⟩ := mz_re_0 mz_GG hre rfl
      obtain ⟨M', z', u'⟩ := S
      cases hz1
      cases hu1
      obtain ⟨f0, hf⟩ := hb_unc hf
      have f0 : 0 ≤ 0 + (1 * res + 0) := f0
      rw [← hr] at f0
      obtain ⟨f1, hf⟩ := hb_unc hf
      have f1 : 0 ≤ 0 + ((-1) * res + 0) := f1
      rw [← hr] at f1
      obtain ⟨f2, hf⟩ := hb_unc hf
      have f2 : 0 ≤ 0 + ((-1) * hv M 91 3 + (1 * hv M' 91 3 + 0)) := f2
      obtain ⟨f3, hf⟩ := hb_unc hf
      have f3 : 0 ≤ 0 + (1 * hv M 91 3 + ((-1) * hv M' 91 3 + 0)) := f3
      obtain ⟨f4, hf⟩ := hb_unc hf
      have f4 : 0 ≤ 0 + ((-1) * hv M 96 3 + (1 * hv M' 96 3 + 0)) := f4
      obtain ⟨f5, hf⟩ := hb_unc hf
      have f5 : 0 ≤ 0 + (1 * hv M 96 3 + ((-1) * hv M' 96 3 + 0)) := f5
      obtain ⟨f6, hf⟩ := hb_unc hf
      have f6 : 0 ≤ 0 + ((-1) * hv M 101 3 + (1 * hv M' 101 3 + 0)) := f6
      obtain ⟨f7, hf⟩ := hb_unc hf
      have f7 : 0 ≤ 0 + (1 * hv M 101 3 + ((-1) * hv M' 101 3 + 0)) := f7
      obtain ⟨f8, hf⟩ := hb_unc hf
      have f8 : 0 ≤ 0 + ((-1) * hv M 106 3 + (1 * hv M' 106 3 + 0)) := f8
      obtain ⟨f9, hf⟩ := hb_unc hf
      have f9 : 0 ≤ 0 + (1 * hv M 106 3 + ((-1) * hv M' 106 3 + 0)) := f9
      obtain ⟨f10, hf⟩ := hb_unc hf
      have f10 : 0 ≤ 0 + (1 * x1.toInt + 0) := f10
      obtain ⟨f11, hf⟩ := hb_unc hf
      have f11 : 0 ≤ 0 + ((-1) * x1.toInt + 0) := f11
      obtain ⟨f12, hf⟩ := hb_unc hf
      have f12 : 0 ≤ -1 + (1 * hv M 8 4 + 0) := f12
      obtain ⟨f13, hf⟩ := hb_unc hf
      have f13 : 0 ≤ 0 + (1 * x2.toInt + 0) := f13
      obtain ⟨f14, hf⟩ := hb_unc hf
      have f14 : 0 ≤ 3 + ((-1) * x2.toInt + 0) := f14
      obtain ⟨f15, hf⟩ := hb_unc hf
      have f15 : 0 ≤ -4 + (1 * hv M 91 3 + 0) := f15
      exact w6 M' x b1 b2 b3 b4 b5 (by have h1 := f0; have h2 := f1; omega) (by have h1 := f2; have h2 := f3; omega) (by have h1 := f4; have h2 := f5; omega) (by have h1 := f6; have h2 := f7; omega) (by have h1 := f8; have h2 := f9; omega) (by have h1 := f10; have h2 := f11; omega) (by have h1 := f12; omega) (by have h1 := f13; omega) (by have h1 := f14; omega) (by have h1 := f15; omega)
    rcases List.mem_cons.mp hp with rfl | hp
    · obtain ⟨x, rfl, hr, hz1, hu1⟩ := mz_re_0 mz_GG hre rfl
      obtain ⟨M', z', u'⟩ := S
      cases hz1
      cases hu1
      obtain ⟨f0, hf⟩ := hb_unc hf
      have f0 : 0 ≤ -1 + (1 * res + 0) := f0
      rw [← hr] at f0
      obtain ⟨f1, hf⟩ := hb_unc hf
      have f1 : 0 ≤ 1 + ((-1) * res + 0) := f1
      rw [← hr] at f1
      obtain ⟨f2, hf⟩ := hb_unc hf
      have f2 : 0 ≤ -1 + (1 * x1.toInt + 0) := f2
      obtain ⟨f3, hf⟩ := hb_unc hf
      have f3 : 0 ≤ 1 + ((-1) * x1.toInt + 0) := f3
      obtain ⟨f4, hf⟩ := hb_unc hf
      have f4 : 0 ≤ -2 + (1 * hv M 8 4 + 0) := f4
      obtain ⟨f5, hf⟩ := hb_unc hf
      have f5 : 0 ≤ 0 + (1 * x2.toInt + 0) := f5
      obtain ⟨f6, hf⟩ := hb_unc hf
      have f6 : 0 ≤ 3 + ((-1) * x2.toInt + 0) := f6
      obtain ⟨f7, hf⟩ := hb_unc hf
      have f7 : 0 ≤ 0 + (1 * hv M 96 1 + 0) := f7
      obtain ⟨f8, hf⟩ := hb_unc hf
      have f8 : 0 ≤ 0 + ((-1) * hv M 96 1 + 0) := f8
      obtain ⟨f9, hf⟩ := hb_unc hf
      have f9 : 0 ≤ 3 + ((-1) * hv M 96 3 + 0) := f9
      obtain ⟨f10, hf⟩ := hb_unc hf
      have f10 : 0 ≤ -1 + ((-1) * hv M 96 3 + (1 * hv M' 96 3 + 0)) := f10
      obtain ⟨f11, hf⟩ := hb_unc hf
      have f11 : 0 ≤ 1 + (1 * hv M 96 3 + ((-1) * hv M' 96 3 + 0)) := f11
      obtain ⟨f12, hf⟩ := hb_unc hf
      have f12 : 0 ≤ 0 + ((-1) * hv M 91 3 + (1 * hv M' 91 3 + 0)) := f12
      obtain ⟨f13, hf⟩ := hb_unc hf
      have f13 : 0 ≤ 0 + (1 * hv M 91 3 + ((-1) * hv M' 91 3 + 0)) := f13
      obtain ⟨f14, hf⟩ := hb_unc hf
      have f14 : 0 ≤ 0 + ((-1) * hv M 101 3 + (1 * hv M' 101 3 + 0)) := f14
      obtain ⟨f15, hf⟩ := hb_unc hf
      have f15 : 0 ≤ 0 + (1 * hv M 101 3 + ((-1) * hv M' 101 3 + 0)) := f15
      obtain ⟨f16, hf⟩ := hb_unc hf
      have f16 : 0 ≤ 0 + ((-1) * hv M 106 3 + (1 * hv M' 106 3 + 0)) := f16
      obtain ⟨f17, hf⟩ := hb_unc hf
      have f17 : 0 ≤ 0 + (1 * hv M 106 3 + ((-1) * hv M' 106 3 + 0)) := f17
      exact w7 M' x b1 b2 b3 b4 b5 (by have h1 := f0; have h2 := f1; omega) (by have h1 := f2; have h2 := f3; omega) (by have h1 := f4; omega) (by have h1 := f5; omega) (by have h1 := f6; omega) (by have h1 := f7; have h2 := f8; omega) (by have h1 := f9; omega) (by have h1 := f10; have h2 := f11; omega) (by have h1 := f12; have h2 := f13; omega) (by have h1 := f14; have h2 := f15; omega) (by have h1 := f16; have h2 := f17; omega)
    rcases List.mem_cons.mp hp with rfl | hp
    · obtain ⟨x, rfl, hr, hz1, hu1⟩ := mz_re_0 mz_GG hre rfl
      obtain ⟨M', z', u'⟩ := S
      cases hz1
      cases hu1
      obtain ⟨f0, hf⟩ := hb_unc hf
      have f0 : 0 ≤ 0 + (1 * res + 0) := f0
      rw [← hr] at f0
      obtain ⟨f1, hf⟩ := hb_unc hf
      have f1 : 0 ≤ 0 + ((-1) * res + 0) := f1
      rw [← hr] at f1
      obtain ⟨f2, hf⟩ := hb_unc hf
      have f2 : 0 ≤ 0 + ((-1) * hv M 91 3 + (1 * hv M' 91 3 + 0)) := f2
      obtain ⟨f3, hf⟩ := hb_unc hf
      have f3 : 0 ≤ 0 + (1 * hv M 91 3 + ((-1) * hv M' 91 3 + 0)) := f3
      obtain ⟨f4, hf⟩ := hb_unc hf
      have f4 : 0 ≤ 0 + ((-1) * hv M 96 3 + (1 * hv M' 96 3 + 0)) := f4
      obtain ⟨f5, hf⟩ := hb_unc hf
      have f5 : 0 ≤ 0 + (1 * hv M 96 3 + ((-1) * hv M' 96 3 + 0)) := f5
      obtain ⟨f6, hf⟩ := hb_unc hf
      have f6 : 0 ≤ 0 + ((-1) * hv M 101 3 + (1 * hv M' 101 3 + 0)) := f6
      obtain ⟨f7, hf⟩ := hb_unc hf
      have f7 : 0 ≤ 0 + (1 * hv M 101 3 + ((-1) * hv M' 101 3 + 0)) := f7
      obtain ⟨f8, hf⟩ := hb_unc hf
      have f8 : 0 ≤ 0 + ((-1) * hv M 106 3 + (1 * hv M' 106 3 + 0)) := f8
      obtain ⟨f9, hf⟩ := hb_unc hf
      have f9 : 0 ≤ 0 + (1 * hv M 106 3 + ((-1) * hv M' 106 3 + 0)) := f9
      obtain ⟨f10, hf⟩ := hb_unc hf
      have f10 : 0 ≤ -1 + (1 * x1.toInt + 0) := f10
      obtain ⟨f11, hf⟩ := hb_unc hf
      have f11 : 0 ≤ 1 + ((-1) * x1.toInt + 0) := f11
      obtain ⟨f12, hf⟩ := hb_unc hf
      have f12 : 0 ≤ -2 + (1 * hv M 8 4 + 0) := f12
      obtain ⟨f13, hf⟩ := hb_unc hf
      have f13 : 0 ≤ 0 + (1 * x2.toInt + 0) := f13
      obtain ⟨f14, hf⟩ := hb_unc hf
      have f14 : 0 ≤ 3 + ((-1) * x2.toInt + 0) := f14
      obtain ⟨f15, hf⟩ := hb_unc hf
      have f15 : 0 ≤ -1 + (1 * hv M 96 1 + 0) := f15
      exact w8 M' x b1 b2 b3 b4 b5 (by have h1 := f0; have h2 := f1; omega) (by have h1 := f2; have h2 := f3; omega) (by have h1 := f4; have h2 := f5; omega) (by have h1 := f6; have h2 := f7; omega) (by have h1 := f8; have h2 := f9; omega) (by have h1 := f10; have h2 := f11; omega) (by have h1 := f12; omega) (by have h1 := f13; omega) (by have h1 := f14; omega) (by have h1 := f15; omega)
    rcases List.mem_cons.mp hp with rfl | hp
    · obtain ⟨x, rfl, hr, hz1, hu1⟩ := mz_re_0 mz_GG hre rfl
      obtain ⟨M', z', u'⟩ := S
      cases hz1
      cases hu1
      obtain ⟨f0, hf⟩ := hb_unc hf
      have f0 : 0 ≤ 0 + (1 * res + 0) := f0
      rw [← hr] at f0
      obtain ⟨f1, hf⟩ := hb_unc hf
      have f1 : 0 ≤ 0 + ((-1) * res + 0) := f1
      rw [← hr] at f1
      obtain ⟨f2, hf⟩ := hb_unc hf
      have f2 : 0 ≤ 0 + ((-1) * hv M 91 3 + (1 * hv M' 91 3 + 0)) := f2
      obtain ⟨f3, hf⟩ := hb_unc hf
      have f3 : 0 ≤ 0 + (1 * hv M 91 3 + ((-1) * hv M' 91 3 + 0)) := f3
      obtain ⟨f4, hf⟩ := hb_unc hf
      have f4 : 0 ≤ 0 + ((-1) * hv M 96 3 + (1 * hv M' 96 3 + 0)) := f4
      obtain ⟨f5, hf⟩ := hb_unc hf
      have f5 : 0 ≤ 0 + (1 * hv M 96 3 + ((-1) * hv M' 96 3 + 0)) := f5
      obtain ⟨f6, hf⟩ := hb_unc hf
      have f6 : 0 ≤ 0 + ((-1) * hv M 101 3 + (1 * hv M' 101 3 + 0)) := f6
      obtain ⟨f7, hf⟩ := hb_unc hf
      have f7 : 0 ≤ 0 + (1 * hv M 101 3 + ((-1) * hv M' 101 3 + 0)) := f7
      obtain ⟨f8, hf⟩ := hb_unc hf
      have f8 : 0 ≤ 0 + ((-1) * hv M 106 3 + (1 * hv M' 106 3 + 0)) := f8
      obtain ⟨f9, hf⟩ := hb_unc hf
      have f9 : 0 ≤ 0 + (1 * hv M 106 3 + ((-1) * hv M' 106 3 + 0)) := f9
      obtain ⟨f10, hf⟩ := hb_unc hf
      have f10 : 0 ≤ -1 + (1 * x1.toInt + 0) := f10
      obtain ⟨f11, hf⟩ := hb_unc hf
      have f11 : 0 ≤ 1 + ((-1) * x1.toInt + 0) := f11
      obtain ⟨f12, hf⟩ := hb_unc hf
      have f12 : 0 ≤ -2 + (1 * hv M 8 4 + 0) := f12
      obtain ⟨f13, hf⟩ := hb_unc hf
      have f13 : 0 ≤ 0 + (1 * x2.toInt + 0) := f13
      obtain ⟨f14, hf⟩ := hb_unc hf
      have f14 : 0 ≤ 3 + ((-1) * x2.toInt + 0) := f14
      obtain ⟨f15, hf⟩ := hb_unc hf
      have f15 : 0 ≤ -4 + (1 * hv M 96 3 + 0) := f15
      exact w9 M' x b1 b2 b3 b4 b5 (by have h1 := f0; have h2 := f1; omega) (by have h1 := f2; have h2 := f3; omega) (by have h1 := f4; have h2 := f5; omega) (by have h1 := f6; have h2 := f7; omega) (by have h1 := f8; have h2 := f9; omega) (by have h1 := f10; have h2 := f11; omega) (by have h1 := f12; omega) (by have h1 := f13; omega) (by have h1 := f14; omega) (by have h1 := f15; omega)
    rcases List.mem_cons.mp hp with rfl | hp
    · obtain ⟨x, rfl, hr, hz1, hu1⟩ := mz_re_0 mz_GG hre rfl
      obtain ⟨M', z', u'⟩ := S
      cases hz1
      cases hu1
      obtain ⟨f0, hf⟩ := hb_unc hf
      have f0 : 0 ≤ -1 + (1 * res + 0) := f0
      rw [← hr] at f0
      obtain ⟨f1, hf⟩ := hb_unc hf
      have f1 : 0 ≤ 1 + ((-1) * res + 0) := f1
      rw [← hr] at f1
      obtain ⟨f2, hf⟩ := hb_unc hf
      have f2 : 0 ≤ -2 + (1 * x1.toInt + 0) := f2
      obtain ⟨f3, hf⟩ := hb_unc hf
      have f3 : 0 ≤ 2 + ((-1) * x1.toInt + 0) := f3
      obtain ⟨f4, hf⟩ := hb_unc hf
      have f4 : 0 ≤ -3 + (1 * hv M 8 4 + 0) := f4
      obtain ⟨f5, hf⟩ := hb_unc hf
      have f5 : 0 ≤ 0 + (1 * x2.toInt + 0) := f5
      obtain ⟨f6, hf⟩ := hb_unc hf
      have f6 : 0 ≤ 3 + ((-1) * x2.toInt + 0) := f6
      obtain ⟨f7, hf⟩ := hb_unc hf
      have f7 : 0 ≤ 0 + (1 * hv M 101 1 + 0) := f7
      obtain ⟨f8, hf⟩ := hb_unc hf
      have f8 : 0 ≤ 0 + ((-1) * hv M 101 1 + 0) := f8
      obtain ⟨f9, hf⟩ := hb_unc hf
      have f9 : 0 ≤ 3 + ((-1) * hv M 101 3 + 0) := f9
      obtain ⟨f10, hf⟩ := hb_unc hf
      have f10 : 0 ≤ -1 + ((-1) * hv M 101 3 + (1 * hv M' 101 3 + 0)) := f10
      obtain ⟨f11, hf⟩ := hb_unc hf
      have f11 : 0 ≤ 1 + (1 * hv M 101 3 + ((-1) * hv M' 101 3 + 0)) := f11
      obtain ⟨f12, hf⟩ := hb_unc hf
      have f12 : 0 ≤ 0 + ((-1) * hv M 91 3 + (1 * hv M' 91 3 + 0)) := f12
      obtain ⟨f13, hf⟩ := hb_unc hf
      have f13 : 0 ≤ 0 + (1 * hv M 91 3 + ((-1) * hv M' 91 3 + 0)) := f13
      obtain ⟨f14, hf⟩ := hb_unc hf
      have f14 : 0 ≤ 0 + ((-1) * hv M 96 3 + (1 * hv M' 96 3 + 0)) := f14
      obtain ⟨f15, hf⟩ := hb_unc hf
      have f15 : 0 ≤ 0 + (1 * hv M 96 3 + ((-1) * hv M' 96 3 + 0)) := f15
      obtain ⟨f16, hf⟩ := hb_unc hf
      have f16 : 0 ≤ 0 + ((-1) * hv M 106 3 + (1 * hv M' 106 3 + 0)) := f16
      obtain ⟨f17, hf⟩ := hb_unc hf
      have f17 : 0 ≤ 0 + (1 * hv M 106 3 + ((-1) * hv M' 106 3 + 0)) := f17
      exact w10 M' x b1 b2 b3 b4 b5 (by have h1 := f0; have h2 := f1; omega) (by have h1 := f2; have h2 := f3; omega) (by have h1 := f4; omega) (by have h1 := f5; omega) (by have h1 := f6; omega) (by have h1 := f7; have h2 := f8; omega) (by have h1 := f9; omega) (by have h1 := f10; have h2 := f11; omega) (by have h1 := f12; have h2 := f13; omega) (by have h1 := f14; have h2 := f15; omega) (by have h1 := f16; have h2 := f17; omega)
    rcases List.mem_cons.mp hp with rfl | hp
    · obtain ⟨x, rfl, hr, hz1, hu1⟩ := mz_re_0 mz_GG hre rfl
      obtain ⟨M', z', u'⟩ := S
      cases hz1
      cases hu1
      obtain ⟨f0, hf⟩ := hb_unc hf
      have f0 : 0 ≤ 0 + (1 * res + 0) := f0
      rw [← hr] at f0
      obtain ⟨f1, hf⟩ := hb_unc hf
      have f1 : 0 ≤ 0 + ((-1) * res + 0) := f1
      rw [← hr] at f1
      obtain ⟨f2, hf⟩ := hb_unc hf
      have f2 : 0 ≤ 0 + ((-1) * hv M 91 3 + (1 * hv M' 91 3 + 0)) := f2
      obtain ⟨f3, hf⟩ := hb_unc hf
      have f3 : 0 ≤ 0 + (1 * hv M 91 3 + ((-1) * hv M' 91 3 + 0)) := f3
      obtain ⟨f4, hf⟩ := hb_unc hf
      have f4 : 0 ≤ 0 + ((-1) * hv M 96 3 + (1 * hv M' 96 3 + 0)) := f4
      obtain ⟨f5, hf⟩ := hb_unc hf
      have f5 : 0 ≤ 0 + (1 * hv M 96 3 + ((-1) * hv M' 96 3 + 0)) := f5
      obtain ⟨f6, hf⟩ := hb_unc hf
      have f6 : 0 ≤ 0 + ((-1) * hv M 101 3 + (1 * hv M' 101 3 + 0)) := f6
      obtain ⟨f7, hf⟩ := hb_unc hf
      have f7 : 0 ≤ 0 + (1 * hv M 101 3 + ((-1) * hv M' 101 3 + 0)) := f7
      obtain ⟨f8, hf⟩ := hb_unc hf
      have f8 : 0 ≤ 0 + ((-1) * hv M 106 3 + (1 * hv M' 106 3 + 0)) := f8
      obtain ⟨f9, hf⟩ := hb_unc hf
      have f9 : 0 ≤ 0 + (1 * hv M 106 3 + ((-1) * hv M' 106 3 + 0)) := f9
      obtain ⟨f10, hf⟩ := hb_unc hf
      have f10 : 0 ≤ -2 + (1 * x1.toInt + 0) := f10
      obtain ⟨f11, hf⟩ := hb_unc hf
      have f11 : 0 ≤ 2 + ((-1) * x1.toInt + 0) := f11
      obtain ⟨f12, hf⟩ := hb_unc hf
      have f12 : 0 ≤ -3 + (1 * hv M 8 4 + 0) := f12
      obtain ⟨f13, hf⟩ := hb_unc hf
      have f13 : 0 ≤ 0 + (1 * x2.toInt + 0) := f13
      obtain ⟨f14, hf⟩ := hb_unc hf
      have f14 : 0 ≤ 3 + ((-1) * x2.toInt + 0) := f14
      obtain ⟨f15, hf⟩ := hb_unc hf
      have f15 : 0 ≤ -1 + (1 * hv M 101 1 + 0) := f15
      exact w11 M' x b1 b2 b3 b4 b5 (by have h1 := f0; have h2 := f1; omega) (by have h1 := f2; have h2 := f3; omega) (by have h1 := f4; have h2 := f5; omega) (by have h1 := f6; have h2 := f7; omega) (by have h1 := f8; have h2 := f9; omega) (by have h1 := f10; have h2 := f11; omega) (by have h1 := f12; omega) (by have h1 := f13; omega) (by have h1 := f14; omega) (by have h1 := f15; omega)
    rcases List.mem_cons.mp hp with rfl | hp
    · obtain ⟨x, rfl, hr, hz1, hu1⟩ := mz_re_0 mz_GG hre rfl
      obtain ⟨M', z', u'⟩ := S
      cases hz1
      cases hu1
      obtain ⟨f0, hf⟩ := hb_unc hf
      have f0 : 0 ≤ 0 + (1 * res + 0) := f0
      rw [← hr] at f0
      obtain ⟨f1, hf⟩ := hb_unc hf
      have f1 : 0 ≤ 0 + ((-1) * res + 0) := f1
      rw [← hr] at f1
      obtain ⟨f2, hf⟩ := hb_unc hf
      have f2 : 0 ≤ 0 + ((-1) * hv M 91 3 + (1 * hv M' 91 3 + 0)) := f2
      obtain ⟨f3, hf⟩ := hb_unc hf
      have f3 : 0 ≤ 0 + (1 * hv M 91 3 + ((-1) * hv M' 91 3 + 0)) := f3
      obtain ⟨f4, hf⟩ := hb_unc hf
      have f4 : 0 ≤ 0 + ((-1) * hv M 96 3 + (1 * hv M' 96 3 + 0)) := f4
      obtain ⟨f5, hf⟩ := hb_unc hf
      have f5 : 0 ≤ 0 + (1 * hv M 96 3 + ((-1) * hv M' 96 3 + 0)) := f5
      obtain ⟨f6, hf⟩ := hb_unc hf
      have f6 : 0 ≤ 0 + ((-1) * hv M 101 3 + (1 * hv M' 101 3 + 0)) := f6
      obtain ⟨f7, hf⟩ := hb_unc hf
      have f7 : 0 ≤ 0 + (1 * hv M 101 3 + ((-1) * hv M' 101 3 + 0)) := f7
      obtain ⟨f8, hf⟩ := hb_unc hf
      have f8 : 0 ≤ 0 + ((-1) * hv M 106 3 + (1 * hv M' 106 3 + 0)) := f8
      obtain ⟨f9, hf⟩ := hb_unc hf
      have f9 : 0 ≤ 0 + (1 * hv M 106 3 + ((-1) * hv M' 106 3 + 0)) := f9
      obtain ⟨f10, hf⟩ := hb_unc hf
      have f10 : 0 ≤ -2 + (1 * x1.toInt + 0) := f10
      obtain ⟨f11, hf⟩ := hb_unc hf
      have f11 : 0 ≤ 2 + ((-1) * x1.toInt + 0) := f11
      obtain ⟨f12, hf⟩ := hb_unc hf
      have f12 : 0 ≤ -3 + (1 * hv M 8 4 + 0) := f12
      obtain ⟨f13, hf⟩ := hb_unc hf
      have f13 : 0 ≤ 0 + (1 * x2.toInt + 0) := f13
      obtain ⟨f14, hf⟩ := hb_unc hf
      have f14 : 0 ≤ 3 + ((-1) * x2.toInt + 0) := f14
      obtain ⟨f15, hf⟩ := hb_unc hf
      have f15 : 0 ≤ -4 + (1 * hv M 101 3 + 0) := f15
      exact w12 M' x b1 b2 b3 b4 b5 (by have h1 := f0; have h2 := f1; omega) (by have h1 := f2; have h2 := f3; omega) (by have h1 := f4; have h2 := f5; omega) (by have h1 := f6; have h2 := f7; omega) (by have h1 := f8; have h2 := f9; omega) (by have h1 := f10; have h2 := f11; omega) (by have h1 := f12; omega) (by have h1 := f13; omega) (by have h1 := f14; omega) (by have h1 := f15; omega)
    rcases List.mem_cons.mp hp with rfl | hp
    · obtain ⟨x, rfl, hr, hz1, hu1⟩ := mz_re_0 mz_GG hre rfl
      obtain ⟨M', z', u'⟩ := S
      cases hz1
      cases hu1
      obtain ⟨f0, hf⟩ := hb_unc hf
      have f0 : 0 ≤ -1 + (1 * res + 0) := f0
      rw [← hr] at f0
      obtain ⟨f1, hf⟩ := hb_unc hf
      have f1 : 0 ≤ 1 + ((-1) * res + 0) := f1
      rw [← hr] at f1
      obtain ⟨f2, hf⟩ := hb_unc hf
      have f2 : 0 ≤ -3 + (1 * x1.toInt + 0) := f2
      obtain ⟨f3, hf⟩ := hb_unc hf
      have f3 : 0 ≤ 3 + ((-1) * x1.toInt + 0) := f3
      obtain ⟨f4, hf⟩ := hb_unc hf
      have f4 : 0 ≤ -4 + (1 * hv M 8 4 + 0) := f4
      obtain ⟨f5, hf⟩ := hb_unc hf
      have f5 : 0 ≤ 0 + (1 * x2.toInt + 0) := f5
      obtain ⟨f6, hf⟩ := hb_unc hf
      have f6 : 0 ≤ 3 + ((-1) * x2.toInt + 0) := f6
      obtain ⟨f7, hf⟩ := hb_unc hf
      have f7 : 0 ≤ 0 + (1 * hv M 106 1 + 0) := f7
      obtain ⟨f8, hf⟩ := hb_unc hf
      have f8 : 0 ≤ 0 + ((-1) * hv M 106 1 + 0) := f8
      obtain ⟨f9, hf⟩ := hb_unc hf
      have f9 : 0 ≤ 3 + ((-1) * hv M 106 3 + 0) := f9
      obtain ⟨f10, hf⟩ := hb_unc hf
      have f10 : 0 ≤ -1 + ((-1) * hv M 106 3 + (1 * hv M' 106 3 + 0)) := f10
      obtain ⟨f11, hf⟩ := hb_unc hf
      have f11 : 0 ≤ 1 + (1 * hv M 106 3 + ((-1) * hv M' 106 3 + 0)) := f11
      obtain ⟨f12, hf⟩ := hb_unc hf
      have f12 : 0 ≤ 0 + ((-1) * hv M 91 3 + (1 * hv M' 91 3 + 0)) := f12
      obtain ⟨f13, hf⟩ := hb_unc hf
      have f13 : 0 ≤ 0 + (1 * hv M 91 3 + ((-1) * hv M' 91 3 + 0)) := f13
      obtain ⟨f14, hf⟩ := hb_unc hf
      have f14 : 0 ≤ 0 + ((-1) * hv M 96 3 + (1 * hv M' 96 3 + 0)) := f14
      obtain ⟨f15, hf⟩ := hb_unc hf
      have f15 : 0 ≤ 0 + (1 * hv M 96 3 + ((-1) * hv M' 96 3 + 0)) := f15
      obtain ⟨f16, hf⟩ := hb_unc hf
      have f16 : 0 ≤ 0 + ((-1) * hv M 101 3 + (1 * hv M' 101 3 + 0)) := f16
      obtain ⟨f17, hf⟩ := hb_unc hf
      have f17 : 0 ≤ 0 + (1 * hv M 101 3 + ((-1) * hv M' 101 3 + 0)) := f17
      exact w13 M' x b1 b2 b3 b4 b5 (by have h1 := f0; have h2 := f1; omega) (by have h1 := f2; have h2 := f3; omega) (by have h1 := f4; omega) (by have h1 := f5; omega) (by have h1 := f6; omega) (by have h1 := f7; have h2 := f8; omega) (by have h1 := f9; omega) (by have h1 := f10; have h2 := f11; omega) (by have h1 := f12; have h2 := f13; omega) (by have h1 := f14; have h2 := f15; omega) (by have h1 := f16; have h2 := f17; omega)
    rcases List.mem_cons.mp hp with rfl | hp
    · obtain ⟨x, rfl, hr, hz1, hu1⟩ := mz_re_0 mz_GG hre rfl
      obtain ⟨M', z', u'⟩ := S
      cases hz1
      cases hu1
      obtain ⟨f0, hf⟩ := hb_unc hf
      have f0 : 0 ≤ 0 + (1 * res + 0) := f0
      rw [← hr] at f0
      obtain ⟨f1, hf⟩ := hb_unc hf
      have f1 : 0 ≤ 0 + ((-1) * res + 0) := f1
      rw [← hr] at f1
      obtain ⟨f2, hf⟩ := hb_unc hf
      have f2 : 0 ≤ 0 + ((-1) * hv M 91 3 + (1 * hv M' 91 3 + 0)) := f2
      obtain ⟨f3, hf⟩ := hb_unc hf
      have f3 : 0 ≤ 0 + (1 * hv M 91 3 + ((-1) * hv M' 91 3 + 0)) := f3
      obtain ⟨f4, hf⟩ := hb_unc hf
      have f4 : 0 ≤ 0 + ((-1) * hv M 96 3 + (1 * hv M' 96 3 + 0)) := f4
      obtain ⟨f5, hf⟩ := hb_unc hf
      have f5 : 0 ≤ 0 + (1 * hv M 96 3 + ((-1) * hv M' 96 3 + 0)) := f5
      obtain ⟨f6, hf⟩ := hb_unc hf
      have f6 : 0 ≤ 0 + ((-1) * hv M 101 3 + (1 * hv M' 101 3 + 0)) := f6
      obtain ⟨f7, hf⟩ := hb_unc hf
      have f7 : 0 ≤ 0 + (1 * hv M 101 3 + ((-1) * hv M' 101 3 + 0)) := f7
      obtain ⟨f8, hf⟩ := hb_unc hf
      have f8 : 0 ≤ 0 + ((-1) * hv M 106 3 + (1 * hv M' 106 3 + 0)) := f8
      obtain ⟨f9, hf⟩ := hb_unc hf
      have f9 : 0 ≤ 0 + (1 * hv M 106 3 + ((-1) * hv M' 106 3 + 0)) := f9
      obtain ⟨f10, hf⟩ := hb_unc hf
      have f10 : 0 ≤ -3 + (1 * x1.toInt + 0) := f10
      obtain ⟨f11, hf⟩ := hb_unc hf
      have f11 : 0 ≤ 3 + ((-1) * x1.toInt + 0) := f11
      obtain ⟨f12, hf⟩ := hb_unc hf
      have f12 : 0 ≤ -4 + (1 * hv M 8 4 + 0) := f12
      obtain ⟨f13, hf⟩ := hb_unc hf
      have f13 : 0 ≤ 0 + (1 * x2.toInt + 0) := f13
      obtain ⟨f14, hf⟩ := hb_unc hf
      have f14 : 0 ≤ 3 + ((-1) * x2.toInt + 0) := f14
      obtain ⟨f15, hf⟩ := hb_unc hf
      have f15 : 0 ≤ -1 + (1 * hv M 106 1 + 0) := f15
      exact w14 M' x b1 b2 b3 b4 b5 (by have h1 := f0; have h2 := f1; omega) (by have h1 := f2; have h2 := f3; omega) (by have h1 := f4; have h2 := f5; omega) (by have h1 := f6; have h2 := f7; omega) (by have h1 := f8; have h2 := f9; omega) (by have h1 := f10; have h2 := f11; omega) (by have h1 := f12; omega) (by have h1 := f13; omega) (by have h1 := f14; omega) (by have h1 := f15; omega)
    rcases List.mem_cons.mp hp with rfl | hp
    · obtain ⟨x, rfl, hr, hz1, hu1⟩ := mz_re_0 mz_GG hre rfl
      obtain ⟨M', z', u'⟩ := S
      cases hz1
      cases hu1
      obtain ⟨f0, hf⟩ := hb_unc hf
      have f0 : 0 ≤ 0 + (1 * res + 0) := f0
      rw [← hr] at f0
      obtain ⟨f1, hf⟩ := hb_unc hf
      have f1 : 0 ≤ 0 + ((-1) * res + 0) := f1
      rw [← hr] at f1
      obtain ⟨f2, hf⟩ := hb_unc hf
      have f2 : 0 ≤ 0 + ((-1) * hv M 91 3 + (1 * hv M' 91 3 + 0)) := f2
      obtain ⟨f3, hf⟩ := hb_unc hf
      have f3 : 0 ≤ 0 + (1 * hv M 91 3 + ((-1) * hv M' 91 3 + 0)) := f3
      obtain ⟨f4, hf⟩ := hb_unc hf
      have f4 : 0 ≤ 0 + ((-1) * hv M 96 3 + (1 * hv M' 96 3 + 0)) := f4
      obtain ⟨f5, hf⟩ := hb_unc hf
      have f5 : 0 ≤ 0 + (1 * hv M 96 3 + ((-1) * hv M' 96 3 + 0)) := f5
      obtain ⟨f6, hf⟩ := hb_unc hf
      have f6 : 0 ≤ 0 + ((-1) * hv M 101 3 + (1 * hv M' 101 3 + 0)) := f6
      obtain ⟨f7, hf⟩ := hb_unc hf
      have f7 : 0 ≤ 0 + (1 * hv M 101 3 + ((-1) * hv M' 101 3 + 0)) := f7
      obtain ⟨f8, hf⟩ := hb_unc hf
      have f8 : 0 ≤ 0 + ((-1) * hv M 106 3 + (1 * hv M' 106 3 + 0)) := f8
      obtain ⟨f9, hf⟩ := hb_unc hf
      have f9 : 0 ≤ 0 + (1 * hv M 106 3 + ((-1) * hv M' 106 3 + 0)) := f9
      obtain ⟨f10, hf⟩ := hb_unc hf
      have f10 : 0 ≤ -3 + (1 * x1.toInt + 0) := f10
      obtain ⟨f11, hf⟩ := hb_unc hf
      have f11 : 0 ≤ 3 + ((-1) * x1.toInt + 0) := f11
      obtain ⟨f12, hf⟩ := hb_unc hf
      have f12 : 0 ≤ -4 + (1 * hv M 8 4 + 0) := f12
      obtain ⟨f13, hf⟩ := hb_unc hf
      have f13 : 0 ≤ 0 + (1 * x2.toInt + 0) := f13
      obtain ⟨f14, hf⟩ := hb_unc hf
      have f14 : 0 ≤ 3 + ((-1) * x2.toInt + 0) := f14
      obtain ⟨f15, hf⟩ := hb_unc hf
      have f15 : 0 ≤ -4 + (1 * hv M 106 3 + 0) := f15
      exact w15 M' x b1 b2 b3 b4 b5 (by have h1 := f0; have h2 := f1; omega) (by have h1 := f2; have h2 := f3; omega) (by have h1 := f4; have h2 := f5; omega) (by have h1 := f6; have h2 := f7; omega) (by have h1 := f8; have h2 := f9; omega) (by have h1 := f10; have h2 := f11; omega) (by have h1 := f12; omega) (by have h1 := f13; omega) (by have h1 := f14; omega) (by have h1 := f15; omega)
    cases hp
theorem lu_append {d z u : Nat} {M : Nat → mq_C} {Q : (Option Value ⊕ Nat) → mq_S → Prop} {x1 : Int32} {x2 : Int32} (hd : 9 ≤ d) (hz : 272 ≤ z) (hm : mz_sh mz_GG M) (hx : HX M) (hl : lw M)
    (k : ∀ (M' : Nat → mq_C) (r : Int32), mz_sh mz_GG M' → HX M' → lw M' → (∀ a, a < 8 → M' a = M a) → M' 271 = M 271 → (∀ a, 234 ≤ a → a < 271 → M' a = M a) → lcs M M' → (c6_kp M M' ∧ c6_al M M') → x47 M M' → Q (.inl (some (.int r))) (M', z, u)) : mq_R mq_PP d 7 0 [some (.ref 8), some (.int x1), some (.int x2)] [] (M, z, u) Q := by
  obtain ⟨l0, l1, l2, l3, l4, l5⟩ := hl
  have hW : ∀ b ∈ mz_q106.2.2.2.2.2, b < 234 := by decide +kernel
  have hW7 : ∀ b ∈ mz_q106.2.2.2.2.2, b < 47 ∨ 90 < b := by decide +kernel
  refine ly_append (ha_all (mz_q106, 2) (List.mem_of_getElem? (show mz_Cs[106]? = _ from rfl))) (by omega) hz hm hx ?_ ?_ ?_ ?_ ?_ ?_ ?_ ?_ ?_ ?_ ?_ ?_ ?_ ?_ ?_ ?_
  · intro M' r b1 b2 b3 b4 b5 f0 f1 f2 f3 f4 f5
    have e9 : hv M' 33 3 = hv M 33 3 := b5 9 (33, 3) rfl rfl
    have e10 : hv M' 33 5 = hv M 33 5 := b5 10 (33, 5) rfl rfl
    have e24 : hv M' 234 30 = hv M 234 30 := b5 24 (234, 30) rfl rfl
    have e33 : hv M' 257 0 = hv M 257 0 := b5 33 (257, 0) rfl rfl
    have e0 : hv M' 8 4 = hv M 8 4 := b5 0 (8, 4) rfl rfl
    have e12 : hv M' 44 0 = hv M 44 0 := b5 12 (44, 0) rfl rfl
    have e13 : hv M' 44 1 = hv M 44 1 := b5 13 (44, 1) rfl rfl
    have e14 : hv M' 44 3 = hv M 44 3 := b5 14 (44, 3) rfl rfl
    have e28 : hv M' 234 57 = hv M 234 57 := b5 28 (234, 57) rfl rfl
    have e8 : hv M' 33 1 = hv M 33 1 := b5 8 (33, 1) rfl rfl
    have e11 : hv M' 33 6 = hv M 33 6 := b5 11 (33, 6) rfl rfl
    exact k M' r b1 b2 ⟨by omega, by omega, by omega, by omega, by omega, by omega⟩ b4 (b3 271 (by decide) (by decide +kernel)) (fun a h1 h2 => b3 a (by omega) (lx_el (fun h => by have := hW a h; omega))) ⟨⟨e8, e9, e10, e11⟩, ⟨hb_vc (b3 47 (by decide) (by decide +kernel)) 1, hb_vc (b3 58 (by decide) (by decide +kernel)) 1, hb_vc (b3 69 (by decide) (by decide +kernel)) 1, hb_vc (b3 80 (by decide) (by decide +kernel)) 1⟩⟩ ⟨⟨b3 34 (by decide) (by decide +kernel), b3 35 (by decide) (by decide +kernel), b3 36 (by decide) (by decide +kernel)⟩, (fun s hs => by
      have h4 : s = 0 ∨ s = 1 ∨ s = 2 ∨ s = 3 := by omega
      rcases h4 with rfl | rfl | rfl | rfl
      · exact b3 48 (by decide) (by decide +kernel)
      · exact b3 59 (by decide) (by decide +kernel)
      · exact b3 70 (by decide) (by decide +kernel)
      · exact b3 81 (by decide) (by decide +kernel))⟩ (fun b p q => b3 b (by omega) (lx_el (fun h => by have := hW7 b h; omega)))
  · intro M' r b1 b2 b3 b4 b5 f0 f1 f2 f3 f4 f5
    have e9 : hv M' 33 3 = hv M 33 3 := b5 9 (33, 3) rfl rfl
    have e10 : hv M' 33 5 = hv M 33 5 := b5 10 (33, 5) rfl rfl
    have e24 : hv M' 234 30 = hv M 234 30 := b5 24 (234, 30) rfl rfl
    have e33 : hv M' 257 0 = hv M 257 0 := b5 33 (257, 0) rfl rfl
    have e0 : hv M' 8 4 = hv M 8 4 := b5 0 (8, 4) rfl rfl
    have e12 : hv M' 44 0 = hv M 44 0 := b5 12 (44, 0) rfl rfl
    have e13 : hv M' 44 1 = hv M 44 1 := b5 13 (44, 1) rfl rfl
    have e14 : hv M' 44 3 = hv M 44 3 := b5 14 (44, 3) rfl rfl
    have e28 : hv M' 234 57 = hv M 234 57 := b5 28 (234, 57) rfl rfl
    have e8 : hv M' 33 1 = hv M 33 1 := b5 8 (33, 1) rfl rfl
    have e11 : hv M' 33 6 = hv M 33 6 := b5 11 (33, 6) rfl rfl
    exact k M' r b1 b2 ⟨by omega, by omega, by omega, by omega, by omega, by omega⟩ b4 (b3 271 (by decide) (by decide +kernel)) (fun a h1 h2 => b3 a (by omega) (lx_el (fun h => by have := hW a h; omega))) ⟨⟨e8, e9, e10, e11⟩, ⟨hb_vc (b3 47 (by decide) (by decide +kernel)) 1, hb_vc (b3 58 (by decide) (by decide +kernel)) 1, hb_vc (b3 69 (by decide) (by decide +kernel)) 1, hb_vc (b3 80 (by decide) (by decide +kernel)) 1⟩⟩ ⟨⟨b3 34 (by decide) (by decide +kernel), b3 35 (by decide) (by decide +kernel), b3 36 (by decide) (by decide +kernel)⟩, (fun s hs => by
      have h4 : s = 0 ∨ s = 1 ∨ s = 2 ∨ s = 3 := by omega
      rcases h4 with rfl | rfl | rfl | rfl
      · exact b3 48 (by decide) (by decide +kernel)
      · exact b3 59 (by decide) (by decide +kernel)
      · exact b3 70 (by decide) (by decide +kernel)
      · exact b3 81 (by decide) (by decide +kernel))⟩ (fun b p q => b3 b (by omega) (lx_el (fun h => by have := hW7 b h; omega)))
  · intro M' r b1 b2 b3 b4 b5 f0 f1 f2 f3 f4 f5
    have e9 : hv M' 33 3 = hv M 33 3 := b5 9 (33, 3) rfl rfl
    have e10 : hv M' 33 5 = hv M 33 5 := b5 10 (33, 5) rfl rfl
    have e24 : hv M' 234 30 = hv M 234 30 := b5 24 (234, 30) rfl rfl
    have e33 : hv M' 257 0 = hv M 257 0 := b5 33 (257, 0) rfl rfl
    have e0 : hv M' 8 4 = hv M 8 4 := b5 0 (8, 4) rfl rfl
    have e12 : hv M' 44 0 = hv M 44 0 := b5 12 (44, 0) rfl rfl
    have e13 : hv M' 44 1 = hv M 44 1 := b5 13 (44, 1) rfl rfl
    have e14 : hv M' 44 3 = hv M 44 3 := b5 14 (44, 3) rfl rfl
    have e28 : hv M' 234 57 = hv M 234 57 := b5 28 (234, 57) rfl rfl
    have e8 : hv M' 33 1 = hv M 33 1 := b5 8 (33, 1) rfl rfl
    have e11 : hv M' 33 6 = hv M 33 6 := b5 11 (33, 6) rfl rfl
    exact k M' r b1 b2 ⟨by omega, by omega, by omega, by omega, by omega, by omega⟩ b4 (b3 271 (by decide) (by decide +kernel)) (fun a h1 h2 => b3 a (by omega) (lx_el (fun h => by have := hW a h; omega))) ⟨⟨e8, e9, e10, e11⟩, ⟨hb_vc (b3 47 (by decide) (by decide +kernel)) 1, hb_vc (b3 58 (by decide) (by decide +kernel)) 1, hb_vc (b3 69 (by decide) (by decide +kernel)) 1, hb_vc (b3 80 (by decide) (by decide +kernel)) 1⟩⟩ ⟨⟨b3 34 (by decide) (by decide +kernel), b3 35 (by decide) (by decide +kernel), b3 36 (by decide) (by decide +kernel)⟩, (fun s hs => by
      have h4 : s = 0 ∨ s = 1 ∨ s = 2 ∨ s = 3 := by omega
      rcases h4 with rfl | rfl | rfl | rfl
      · exact b3 48 (by decide) (by decide +kernel)
      · exact b3 59 (by decide) (by decide +kernel)
      · exact b3 70 (by decide) (by decide +kernel)
      · exact b3 81 (by decide) (by decide +kernel))⟩ (fun b p q => b3 b (by omega) (lx_el (fun h => by have := hW7 b h; omega)))
  · intro M' r b1 b2 b3 b4 b5 f0 f1 f2 f3 f4 f5
    have e9 : hv M' 33 3 = hv M 33 3 := b5 9 (33, 3) rfl rfl
    have e10 : hv M' 33 5 = hv M 33 5 := b5 10 (33, 5) rfl rfl
    have e24 : hv M' 234 30 = hv M 234 30 := b5 24 (234, 30) rfl rfl
    have e33 : hv M' 257 0 = hv M 257 0 := b5 33 (257, 0) rfl rfl
    have e0 : hv M' 8 4 = hv M 8 4 := b5 0 (8, 4) rfl rfl
    have e12 : hv M' 44 0 = hv M 44 0 := b5 12 (44, 0) rfl rfl
    have e13 : hv M' 44 1 = hv M 44 1 := b5 13 (44, 1) rfl rfl
    have e14 : hv M' 44 3 = hv M 44 3 := b5 14 (44, 3) rfl rfl
    have e28 : hv M' 234 57 = hv M 234 57 := b5 28 (234, 57) rfl rfl
    have e8 : hv M' 33 1 = hv M 33 1 := b5 8 (33, 1) rfl rfl
    have e11 : hv M' 33 6 = hv M 33 6 := b5 11 (33, 6) rfl rfl
    exact k M' r b1 b2 ⟨by omega, by omega, by omega, by omega, by omega, by omega⟩ b4 (b3 271 (by decide) (by decide +kernel)) (fun a h1 h2 => b3 a (by omega) (lx_el (fun h => by have := hW a h; omega))) ⟨⟨e8, e9, e10, e11⟩, ⟨hb_vc (b3 47 (by decide) (by decide +kernel)) 1, hb_vc (b3 58 (by decide) (by decide +kernel)) 1, hb_vc (b3 69 (by decide) (by decide +kernel)) 1, hb_vc (b3 80 (by decide) (by decide +kernel)) 1⟩⟩ ⟨⟨b3 34 (by decide) (by decide +kernel), b3 35 (by decide) (by decide +kernel), b3 36 (by decide) (by decide +kernel)⟩, (fun s hs => by
      have h4 : s = 0 ∨ s = 1 ∨ s = 2 ∨ s = 3 := by omega
      rcases h4 with rfl | rfl | rfl | rfl
      · exact b3 48 (by decide) (by decide +kernel)
      · exact b3 59 (by decide) (by decide +kernel)
      · exact b3 70 (by decide) (by decide +kernel)
      · exact b3 81 (by decide) (by decide +kernel))⟩ (fun b p q => b3 b (by omega) (lx_el (fun h => by have := hW7 b h; omega)))
  · intro M' r b1 b2 b3 b4 b5 f0 f1 f2 f3 f4 f5 f6 f7 f8 f9 f10
    have e9 : hv M' 33 3 = hv M 33 3 := b5 9 (33, 3) rfl rfl
    have e10 : hv M' 33 5 = hv M 33 5 := b5 10 (33, 5) rfl rfl
    have e24 : hv M' 234 30 = hv M 234 30 := b5 24 (234, 30) rfl rfl
    have e33 : hv M' 257 0 = hv M 257 0 := b5 33 (257, 0) rfl rfl
    have e0 : hv M' 8 4 = hv M 8 4 := b5 0 (8, 4) rfl rfl
    have e12 : hv M' 44 0 = hv M 44 0 := b5 12 (44, 0) rfl rfl
    have e13 : hv M' 44 1 = hv M 44 1 := b5 13 (44, 1) rfl rfl
    have e14 : hv M' 44 3 = hv M 44 3 := b5 14 (44, 3) rfl rfl
    have e28 : hv M' 234 57 = hv M 234 57 := b5 28 (234, 57) rfl rfl
    have e8 : hv M' 33 1 = hv M 33 1 := b5 8 (33, 1) rfl rfl
    have e11 : hv M' 33 6 = hv M 33 6 := b5 11 (33, 6) rfl rfl
    exact k M' r b1 b2 ⟨by omega, by omega, by omega, by omega, by omega, by omega⟩ b4 (b3 271 (by decide) (by decide +kernel)) (fun a h1 h2 => b3 a (by omega) (lx_el (fun h => by have := hW a h; omega))) ⟨⟨e8, e9, e10, e11⟩, ⟨hb_vc (b3 47 (by decide) (by decide +kernel)) 1, hb_vc (b3 58 (by decide) (by decide +kernel)) 1, hb_vc (b3 69 (by decide) (by decide +kernel)) 1, hb_vc (b3 80 (by decide) (by decide +kernel)) 1⟩⟩ ⟨⟨b3 34 (by decide) (by decide +kernel), b3 35 (by decide) (by decide +kernel), b3 36 (by decide) (by decide +kernel)⟩, (fun s hs => by
      have h4 : s = 0 ∨ s = 1 ∨ s = 2 ∨ s = 3 := by omega
      rcases h4 with rfl | rfl | rfl | rfl
      · exact b3 48 (by decide) (by decide +kernel)
      · exact b3 59 (by decide) (by decide +kernel)
      · exact b3 70 (by decide) (by decide +kernel)
      · exact b3 81 (by decide) (by decide +kernel))⟩ (fun b p q => b3 b (by omega) (lx_el (fun h => by have := hW7 b h; omega)))
  · intro M' r b1 b2 b3 b4 b5 f0 f1 f2 f3 f4 f5 f6 f7 f8 f9
    have e9 : hv M' 33 3 = hv M 33 3 := b5 9 (33, 3) rfl rfl
    have e10 : hv M' 33 5 = hv M 33 5 := b5 10 (33, 5) rfl rfl
    have e24 : hv M' 234 30 = hv M 234 30 := b5 24 (234, 30) rfl rfl
    have e33 : hv M' 257 0 = hv M 257 0 := b5 33 (257, 0) rfl rfl
    have e0 : hv M' 8 4 = hv M 8 4 := b5 0 (8, 4) rfl rfl
    have e12 : hv M' 44 0 = hv M 44 0 := b5 12 (44, 0) rfl rfl
    have e13 : hv M' 44 1 = hv M 44 1 := b5 13 (44, 1) rfl rfl
    have e14 : hv M' 44 3 = hv M 44 3 := b5 14 (44, 3) rfl rfl
    have e28 : hv M' 234 57 = hv M 234 57 := b5 28 (234, 57) rfl rfl
    have e8 : hv M' 33 1 = hv M 33 1 := b5 8 (33, 1) rfl rfl
    have e11 : hv M' 33 6 = hv M 33 6 := b5 11 (33, 6) rfl rfl
    exact k M' r b1 b2 ⟨by omega, by omega, by omega, by omega, by omega, by omega⟩ b4 (b3 271 (by decide) (by decide +kernel)) (fun a h1 h2 => b3 a (by omega) (lx_el (fun h => by have := hW a h; omega))) ⟨⟨e8, e9, e10, e11⟩, ⟨hb_vc (b3 47 (by decide) (by decide +kernel)) 1, hb_vc (b3 58 (by decide) (by decide +kernel)) 1, hb_vc (b3 69 (by decide) (by decide +kernel)) 1, hb_vc (b3 80 (by decide) (by decide +kernel)) 1⟩⟩ ⟨⟨b3 34 (by decide) (by decide +kernel), b3 35 (by decide) (by decide +kernel), b3 36 (by decide) (by decide +kernel)⟩, (fun s hs => by
      have h4 : s = 0 ∨ s = 1 ∨ s = 2 ∨ s = 3 := by omega
      rcases h4 with rfl | rfl | rfl | rfl
      · exact b3 48 (by decide) (by decide +kernel)
      · exact b3 59 (by decide) (by decide +kernel)
      · exact b3 70 (by decide) (by decide +kernel)
      · exact b3 81 (by decide) (by decide +kernel))⟩ (fun b p q => b3 b (by omega) (lx_el (fun h => by have := hW7 b h; omega)))
  · intro M' r b1 b2 b3 b4 b5 f0 f1 f2 f3 f4 f5 f6 f7 f8 f9
    have e9 : hv M' 33 3 = hv M 33 3 := b5 9 (33, 3) rfl rfl
    have e10 : hv M' 33 5 = hv M 33 5 := b5 10 (33, 5) rfl rfl
    have e24 : hv M' 234 30 = hv M 234 30 := b5 24 (234, 30) rfl rfl
    have e33 : hv M' 257 0 = hv M 257 0 := b5 33 (257, 0) rfl rfl
    have e0 : hv M' 8 4 = hv M 8 4 := b5 0 (8, 4) rfl rfl
    have e12 : hv M' 44 0 = hv M 44 0 := b5 12 (44, 0) rfl rfl
    have e13 : hv M' 44 1 = hv M 44 1 := b5 13 (44, 1) rfl rfl
    have e14 : hv M' 44 3 = hv M 44 3 := b5 14 (44, 3) rfl rfl
    have e28 : hv M' 234 57 = hv M 234 57 := b5 28 (234, 57) rfl rfl
    have e8 : hv M' 33 1 = hv M 33 1 := b5 8 (33, 1) rfl rfl
    have e11 : hv M' 33 6 = hv M 33 6 := b5 11 (33, 6) rfl rfl
    exact k M' r b1 b2 ⟨by omega, by omega, by omega, by omega, by omega, by omega⟩ b4 (b3 271 (by decide) (by decide +kernel)) (fun a h1 h2 => b3 a (by omega) (lx_el (fun h => by have := hW a h; omega))) ⟨⟨e8, e9, e10, e11⟩, ⟨hb_vc (b3 47 (by decide) (by decide +kernel)) 1, hb_vc (b3 58 (by decide) (by decide +kernel)) 1, hb_vc (b3 69 (by decide) (by decide +kernel)) 1, hb_vc (b3 80 (by decide) (by decide +kernel)) 1⟩⟩ ⟨⟨b3 34 (by decide) (by decide +kernel), b3 35 (by decide) (by decide +kernel), b3 36 (by decide) (by decide +kernel)⟩, (fun s hs => by
      have h4 : s = 0 ∨ s = 1 ∨ s = 2 ∨ s = 3 := by omega
      rcases h4 with rfl | rfl | rfl | rfl
      · exact b3 48 (by decide) (by decide +kernel)
      · exact b3 59 (by decide) (by decide +kernel)
      · exact b3 70 (by decide) (by decide +kernel)
      · exact b3 81 (by decide) (by decide +kernel))⟩ (fun b p q => b3 b (by omega) (lx_el (fun h => by have := hW7 b h; omega)))
  · intro M' r b1 b2 b3 b4 b5 f0 f1 f2 f3 f4 f5 f6 f7 f8 f9 f10
    have e9 : hv M' 33 3 = hv M 33 3 := b5 9 (33, 3) rfl rfl
    have e10 : hv M' 33 5 = hv M 33 5 := b5 10 (33, 5) rfl rfl
    have e24 : hv M' 234 30 = hv M 234 30 := b5 24 (234, 30) rfl rfl
    have e33 : hv M' 257 0 = hv M 257 0 := b5 33 (257, 0) rfl rfl
    have e0 : hv M' 8 4 = hv M 8 4 := b5 0 (8, 4) rfl rfl
    have e12 : hv M' 44 0 = hv M 44 0 := b5 12 (44, 0) rfl rfl
    have e13 : hv M' 44 1 = hv M 44 1 := b5 13 (44, 1) rfl rfl
    have e14 : hv M' 44 3 = hv M 44 3 := b5 14 (44, 3) rfl rfl
    have e28 : hv M' 234 57 = hv M 234 57 := b5 28 (234, 57) rfl rfl
    have e8 : hv M' 33 1 = hv M 33 1 := b5 8 (33, 1) rfl rfl
    have e11 : hv M' 33 6 = hv M 33 6 := b5 11 (33, 6) rfl rfl
    exact k M' r b1 b2 ⟨by omega, by omega, by omega, by omega, by omega, by omega⟩ b4 (b3 271 (by decide) (by decide +kernel)) (fun a h1 h2 => b3 a (by omega) (lx_el (fun h => by have := hW a h; omega))) ⟨⟨e8, e9, e10, e11⟩, ⟨hb_vc (b3 47 (by decide) (by decide +kernel)) 1, hb_vc (b3 58 (by decide) (by decide +kernel)) 1, hb_vc (b3 69 (by decide) (by decide +kernel)) 1, hb_vc (b3 80 (by decide) (by decide +kernel)) 1⟩⟩ ⟨⟨b3 34 (by decide) (by decide +kernel), b3 35 (by decide) (by decide +kernel), b3 36 (by decide) (by decide +kernel)⟩, (fun s hs => by
      have h4 : s = 0 ∨ s = 1 ∨ s = 2 ∨ s = 3 := by omega
      rcases h4 with rfl | rfl | rfl | rfl
      · exact b3 48 (by decide) (by decide +kernel)
      · exact b3 59 (by decide) (by decide +kernel)
      · exact b3 70 (by decide) (by decide +kernel)
      · exact b3 81 (by decide) (by decide +kernel))⟩ (fun b p q => b3 b (by omega) (lx_el (fun h => by have := hW7 b h; omega)))
  · intro M' r b1 b2 b3 b4 b5 f0 f1 f2 f3 f4 f5 f6 f7 f8 f9
    have e9 : hv M' 33 3 = hv M 33 3 := b5 9 (33, 3) rfl rfl
    have e10 : hv M' 33 5 = hv M 33 5 := b5 10 (33, 5) rfl rfl
    have e24 : hv M' 234 30 = hv M 234 30 := b5 24 (234, 30) rfl rfl
    have e33 : hv M' 257 0 = hv M 257 0 := b5 33 (257, 0) rfl rfl
    have e0 : hv M' 8 4 = hv M 8 4 := b5 0 (8, 4) rfl rfl
    have e12 : hv M' 44 0 = hv M 44 0 := b5 12 (44, 0) rfl rfl
    have e13 : hv M' 44 1 = hv M 44 1 := b5 13 (44, 1) rfl rfl
    have e14 : hv M' 44 3 = hv M 44 3 := b5 14 (44, 3) rfl rfl
    have e28 : hv M' 234 57 = hv M 234 57 := b5 28 (234, 57) rfl rfl
    have e8 : hv M' 33 1 = hv M 33 1 := b5 8 (33, 1) rfl rfl
    have e11 : hv M' 33 6 = hv M 33 6 := b5 11 (33, 6) rfl rfl
    exact k M' r b1 b2 ⟨by omega, by omega, by omega, by omega, by omega, by omega⟩ b4 (b3 271 (by decide) (by decide +kernel)) (fun a h1 h2 => b3 a (by omega) (lx_el (fun h => by have := hW a h; omega))) ⟨⟨e8, e9, e10, e11⟩, ⟨hb_vc (b3 47 (by decide) (by decide +kernel)) 1, hb_vc (b3 58 (by decide) (by decide +kernel)) 1, hb_vc (b3 69 (by decide) (by decide +kernel)) 1, hb_vc (b3 80 (by decide) (by decide +kernel)) 1⟩⟩ ⟨⟨b3 34 (by decide) (by decide +kernel), b3 35 (by decide) (by decide +kernel), b3 36 (by decide) (by decide +kernel)⟩, (fun s hs => by
      have h4 : s = 0 ∨ s = 1 ∨ s = 2 ∨ s = 3 := by omega
      rcases h4 with rfl | rfl | rfl | rfl
      · exact b3 48 (by decide) (by decide +kernel)
      · exact b3 59 (by decide) (by decide +kernel)
      · exact b3 70 (by decide) (by decide +kernel)
      · exact b3 81 (by decide) (by decide +kernel))⟩ (fun b p q => b3 b (by omega) (lx_el (fun h => by have := hW7 b h; omega)))
  · intro M' r b1 b2 b3 b4 b5 f0 f1 f2 f3 f4 f5 f6 f7 f8 f9
    have e9 : hv M' 33 3 = hv M 33 3 := b5 9 (33, 3) rfl rfl
    have e10 : hv M' 33 5 = hv M 33 5 := b5 10 (33, 5) rfl rfl
    have e24 : hv M' 234 30 = hv M 234 30 := b5 24 (234, 30) rfl rfl
    have e33 : hv M' 257 0 = hv M 257 0 := b5 33 (257, 0) rfl rfl
    have e0 : hv M' 8 4 = hv M 8 4 := b5 0 (8, 4) rfl rfl
    have e12 : hv M' 44 0 = hv M 44 0 := b5 12 (44, 0) rfl rfl
    have e13 : hv M' 44 1 = hv M 44 1 := b5 13 (44, 1) rfl rfl
    have e14 : hv M' 44 3 = hv M 44 3 := b5 14 (44, 3) rfl rfl
    have e28 : hv M' 234 57 = hv M 234 57 := b5 28 (234, 57) rfl rfl
    have e8 : hv M' 33 1 = hv M 33 1 := b5 8 (33, 1) rfl rfl
    have e11 : hv M' 33 6 = hv M 33 6 := b5 11 (33, 6) rfl rfl
    exact k M' r b1 b2 ⟨by omega, by omega, by omega, by omega, by omega, by omega⟩ b4 (b3 271 (by decide) (by decide +kernel)) (fun a h1 h2 => b3 a (by omega) (lx_el (fun h => by have := hW a h; omega))) ⟨⟨e8, e9, e10, e11⟩, ⟨hb_vc (b3 47 (by decide) (by decide +kernel)) 1, hb_vc (b3 58 (by decide) (by decide +kernel)) 1, hb_vc (b3 69 (by decide) (by decide +kernel)) 1, hb_vc (b3 80 (by decide) (by decide +kernel)) 1⟩⟩ ⟨⟨b3 34 (by decide) (by decide +kernel), b3 35 (by decide) (by decide +kernel), b3 36 (by decide) (by decide +kernel)⟩, (fun s hs => by
      have h4 : s = 0 ∨ s = 1 ∨ s = 2 ∨ s = 3 := by omega
      rcases h4 with rfl | rfl | rfl | rfl
      · exact b3 48 (by decide) (by decide +kernel)
      · exact b3 59 (by decide) (by decide +kernel)
      · exact b3 70 (by decide) (by decide +kernel)
      · exact b3 81 (by decide) (by decide +kernel))⟩ (fun b p q => b3 b (by omega) (lx_el (fun h => by have := hW7 b h; omega)))
  · intro M' r b1 b2 b3 b4 b5 f0 f1 f2 f3 f4 f5 f6 f7 f8 f9 f10
    have e9 : hv M' 33 3 = hv M 33 3 := b5 9 (33, 3) rfl rfl
    have e10 : hv M' 33 5 = hv M 33 5 := b5 10 (33, 5) rfl rfl
    have e24 : hv M' 234 30 = hv M 234 30 := b5 24 (234, 30) rfl rfl
    have e33 : hv M' 257 0 = hv M 257 0 := b5 33 (257, 0) rfl rfl
    have e0 : hv M' 8 4 = hv M 8 4 := b5 0 (8, 4) rfl rfl
    have e12 : hv M' 44 0 = hv M 44 0 := b5 12 (44, 0) rfl rfl
    have e13 : hv M' 44 1 = hv M 44 1 := b5 13 (44, 1) rfl rfl
    have e14 : hv M' 44 3 = hv M 44 3 := b5 14 (44, 3) rfl rfl
    have e28 : hv M' 234 57 = hv M 234 57 := b5 28 (234, 57) rfl rfl
    have e8 : hv M' 33 1 = hv M 33 1 := b5 8 (33, 1) rfl rfl
    have e11 : hv M' 33 6 = hv M 33 6 := b5 11 (33, 6) rfl rfl
    exact k M' r b1 b2 ⟨by omega, by omega, by omega, by omega, by omega, by omega⟩ b4 (b3 271 (by decide) (by decide +kernel)) (fun a h1 h2 => b3 a (by omega) (lx_el (fun h => by have := hW a h; omega))) ⟨⟨e8, e9, e10, e11⟩, ⟨hb_vc (b3 47 (by decide) (by decide +kernel)) 1, hb_vc (b3 58 (by decide) (by decide +kernel)) 1, hb_vc (b3 69 (by decide) (by decide +kernel)) 1, hb_vc (b3 80 (by decide) (by decide +kernel)) 1⟩⟩ ⟨⟨b3 34 (by decide) (by decide +kernel), b3 35 (by decide) (by decide +kernel), b3 36 (by decide) (by decide +kernel)⟩, (fun s hs => by
      have h4 : s = 0 ∨ s = 1 ∨ s = 2 ∨ s = 3 := by omega
      rcases h4 with rfl | rfl | rfl | rfl
      · exact b3 48 (by decide) (by decide +kernel)
      · exact b3 59 (by decide) (by decide +kernel)
      · exact b3 70 (by decide) (by decide +kernel)
      · exact b3 81 (by decide) (by decide +kernel))⟩ (fun b p q => b3 b (by omega) (lx_el (fun h => by have := hW7 b h; omega)))
  · intro M' r b1 b2 b3 b4 b5 f0 f1 f2 f3 f4 f5 f6 f7 f8 f9
    have e9 : hv M' 33 3 = hv M 33 3 := b5 9 (33, 3) rfl rfl
    have e10 : hv M' 33 5 = hv M 33 5 := b5 10 (33, 5) rfl rfl
    have e24 : hv M' 234 30 = hv M 234 30 := b5 24 (234, 30) rfl rfl
    have e33 : hv M' 257 0 = hv M 257 0 := b5 33 (257, 0) rfl rfl
    have e0 : hv M' 8 4 = hv M 8 4 := b5 0 (8, 4) rfl rfl
    have e12 : hv M' 44 0 = hv M 44 0 := b5 12 (44, 0) rfl rfl
    have e13 : hv M' 44 1 = hv M 44 1 := b5 13 (44, 1) rfl rfl
    have e14 : hv M' 44 3 = hv M 44 3 := b5 14 (44, 3) rfl rfl
    have e28 : hv M' 234 57 = hv M 234 57 := b5 28 (234, 57) rfl rfl
    have e8 : hv M' 33 1 = hv M 33 1 := b5 8 (33, 1) rfl rfl
    have e11 : hv M' 33 6 = hv M 33 6 := b5 11 (33, 6) rfl rfl
    exact k M' r b1 b2 ⟨by omega, by omega, by omega, by omega, by omega, by omega⟩ b4 (b3 271 (by decide) (by decide +kernel)) (fun a h1 h2 => b3 a (by omega) (lx_el (fun h => by have := hW a h; omega))) ⟨⟨e8, e9, e10, e11⟩, ⟨hb_vc (b3 47 (by decide) (by decide +kernel)) 1, hb_vc (b3 58 (by decide) (by decide +kernel)) 1, hb_vc (b3 69 (by decide) (by decide +kernel)) 1, hb_vc (b3 80 (by decide) (by decide +kernel)) 1⟩⟩ ⟨⟨b3 34 (by decide) (by decide +kernel), b3 35 (by decide) (by decide +kernel), b3 36 (by decide) (by decide +kernel)⟩, (fun s hs => by
      have h4 : s = 0 ∨ s = 1 ∨ s = 2 ∨ s = 3 := by omega
      rcases h4 with rfl | rfl | rfl | rfl
      · exact b3 48 (by decide) (by decide +kernel)
      · exact b3 59 (by decide) (by decide +kernel)
      · exact b3 70 (by decide) (by decide +kernel)
      · exact b3 81 (by decide) (by decide +kernel))⟩ (fun b p q => b3 b (by omega) (lx_el (fun h => by have := hW7 b h; omega)))
  · intro M' r b1 b2 b3 b4 b5 f0 f1 f2 f3 f4 f5 f6 f7 f8 f9
    have e9 : hv M' 33 3 = hv M 33 3 := b5 9 (33, 3) rfl rfl
    have e10 : hv M' 33 5 = hv M 33 5 := b5 10 (33, 5) rfl rfl
    have e24 : hv M' 234 30 = hv M 234 30 := b5 24 (234, 30) rfl rfl
    have e33 : hv M' 257 0 = hv M 257 0 := b5 33 (257, 0) rfl rfl
    have e0 : hv M' 8 4 = hv M 8 4 := b5 0 (8, 4) rfl rfl
    have e12 : hv M' 44 0 = hv M 44 0 := b5 12 (44, 0) rfl rfl
    have e13 : hv M' 44 1 = hv M 44 1 := b5 13 (44, 1) rfl rfl
    have e14 : hv M' 44 3 = hv M 44 3 := b5 14 (44, 3) rfl rfl
    have e28 : hv M' 234 57 = hv M 234 57 := b5 28 (234, 57) rfl rfl
    have e8 : hv M' 33 1 = hv M 33 1 := b5 8 (33, 1) rfl rfl
    have e11 : hv M' 33 6 = hv M 33 6 := b5 11 (33, 6) rfl rfl
    exact k M' r b1 b2 ⟨by omega, by omega, by omega, by omega, by omega, by omega⟩ b4 (b3 271 (by decide) (by decide +kernel)) (fun a h1 h2 => b3 a (by omega) (lx_el (fun h => by have := hW a h; omega))) ⟨⟨e8, e9, e10, e11⟩, ⟨hb_vc (b3 47 (by decide) (by decide +kernel)) 1, hb_vc (b3 58 (by decide) (by decide +kernel)) 1, hb_vc (b3 69 (by decide) (by decide +kernel)) 1, hb_vc (b3 80 (by decide) (by decide +kernel)) 1⟩⟩ ⟨⟨b3 34 (by decide) (by decide +kernel), b3 35 (by decide) (by decide +kernel), b3 36 (by decide) (by decide +kernel)⟩, (fun s hs => by
      have h4 : s = 0 ∨ s = 1 ∨ s = 2 ∨ s = 3 := by omega
      rcases h4 with rfl | rfl | rfl | rfl
      · exact b3 48 (by decide) (by decide +kernel)
      · exact b3 59 (by decide) (by decide +kernel)
      · exact b3 70 (by decide) (by decide +kernel)
      · exact b3 81 (by decide) (by decide +kernel))⟩ (fun b p q => b3 b (by omega) (lx_el (fun h => by have := hW7 b h; omega)))
  · intro M' r b1 b2 b3 b4 b5 f0 f1 f2 f3 f4 f5 f6 f7 f8 f9 f10
    have e9 : hv M' 33 3 = hv M 33 3 := b5 9 (33, 3) rfl rfl
    have e10 : hv M' 33 5 = hv M 33 5 := b5 10 (33, 5) rfl rfl
    have e24 : hv M' 234 30 = hv M 234 30 := b5 24 (234, 30) rfl rfl
    have e33 : hv M' 257 0 = hv M 257 0 := b5 33 (257, 0) rfl rfl
    have e0 : hv M' 8 4 = hv M 8 4 := b5 0 (8, 4) rfl rfl
    have e12 : hv M' 44 0 = hv M 44 0 := b5 12 (44, 0) rfl rfl
    have e13 : hv M' 44 1 = hv M 44 1 := b5 13 (44, 1) rfl rfl
    have e14 : hv M' 44 3 = hv M 44 3 := b5 14 (44, 3) rfl rfl
    have e28 : hv M' 234 57 = hv M 234 57 := b5 28 (234, 57) rfl rfl
    have e8 : hv M' 33 1 = hv M 33 1 := b5 8 (33, 1) rfl rfl
    have e11 : hv M' 33 6 = hv M 33 6 := b5 11 (33, 6) rfl rfl
    exact k M' r b1 b2 ⟨by omega, by omega, by omega, by omega, by omega, by omega⟩ b4 (b3 271 (by decide) (by decide +kernel)) (fun a h1 h2 => b3 a (by omega) (lx_el (fun h => by have := hW a h; omega))) ⟨⟨e8, e9, e10, e11⟩, ⟨hb_vc (b3 47 (by decide) (by decide +kernel)) 1, hb_vc (b3 58 (by decide) (by decide +kernel)) 1, hb_vc (b3 69 (by decide) (by decide +kernel)) 1, hb_vc (b3 80 (by decide) (by decide +kernel)) 1⟩⟩ ⟨⟨b3 34 (by decide) (by decide +kernel), b3 35 (by decide) (by decide +kernel), b3 36 (by decide) (by decide +kernel)⟩, (fun s hs => by
      have h4 : s = 0 ∨ s = 1 ∨ s = 2 ∨ s = 3 := by omega
      rcases h4 with rfl | rfl | rfl | rfl
      · exact b3 48 (by decide) (by decide +kernel)
      · exact b3 59 (by decide) (by decide +kernel)
      · exact b3 70 (by decide) (by decide +kernel)
      · exact b3 81 (by decide) (by decide +kernel))⟩ (fun b p q => b3 b (by omega) (lx_el (fun h => by have := hW7 b h; omega)))
  · intro M' r b1 b2 b3 b4 b5 f0 f1 f2 f3 f4 f5 f6 f7 f8 f9
    have e9 : hv M' 33 3 = hv M 33 3 := b5 9 (33, 3) rfl rfl
    have e10 : hv M' 33 5 = hv M 33 5 := b5 10 (33, 5) rfl rfl
    have e24 : hv M' 234 30 = hv M 234 30 := b5 24 (234, 30) rfl rfl
    have e33 : hv M' 257 0 = hv M 257 0 := b5 33 (257, 0) rfl rfl
    have e0 : hv M' 8 4 = hv M 8 4 := b5 0 (8, 4) rfl rfl
    have e12 : hv M' 44 0 = hv M 44 0 := b5 12 (44, 0) rfl rfl
    have e13 : hv M' 44 1 = hv M 44 1 := b5 13 (44, 1) rfl rfl
    have e14 : hv M' 44 3 = hv M 44 3 := b5 14 (44, 3) rfl rfl
    have e28 : hv M' 234 57 = hv M 234 57 := b5 28 (234, 57) rfl rfl
    have e8 : hv M' 33 1 = hv M 33 1 := b5 8 (33, 1) rfl rfl
    have e11 : hv M' 33 6 = hv M 33 6 := b5 11 (33, 6) rfl rfl
    exact k M' r b1 b2 ⟨by omega, by omega, by omega, by omega, by omega, by omega⟩ b4 (b3 271 (by decide) (by decide +kernel)) (fun a h1 h2 => b3 a (by omega) (lx_el (fun h => by have := hW a h; omega))) ⟨⟨e8, e9, e10, e11⟩, ⟨hb_vc (b3 47 (by decide) (by decide +kernel)) 1, hb_vc (b3 58 (by decide) (by decide +kernel)) 1, hb_vc (b3 69 (by decide) (by decide +kernel)) 1, hb_vc (b3 80 (by decide) (by decide +kernel)) 1⟩⟩ ⟨⟨b3 34 (by decide) (by decide +kernel), b3 35 (by decide) (by decide +kernel), b3 36 (by decide) (by decide +kernel)⟩, (fun s hs => by
      have h4 : s = 0 ∨ s = 1 ∨ s = 2 ∨ s = 3 := by omega
      rcases h4 with rfl | rfl | rfl | rfl
      · exact b3 48 (by decide) (by decide +kernel)
      · exact b3 59 (by decide) (by decide +kernel)
      · exact b3 70 (by decide) (by decide +kernel)
      · exact b3 81 (by decide) (by decide +kernel))⟩ (fun b p q => b3 b (by omega) (lx_el (fun h => by have := hW7 b h; omega)))
  · intro M' r b1 b2 b3 b4 b5 f0 f1 f2 f3 f4 f5 f6 f7 f8 f9
    have e9 : hv M' 33 3 = hv M 33 3 := b5 9 (33, 3) rfl rfl
    have e10 : hv M' 33 5 = hv M 33 5 := b5 10 (33, 5) rfl rfl
    have e24 : hv M' 234 30 = hv M 234 30 := b5 24 (234, 30) rfl rfl
    have e33 : hv M' 257 0 = hv M 257 0 := b5 33 (257, 0) rfl rfl
    have e0 : hv M' 8 4 = hv M 8 4 := b5 0 (8, 4) rfl rfl
    have e12 : hv M' 44 0 = hv M 44 0 := b5 12 (44, 0) rfl rfl
    have e13 : hv M' 44 1 = hv M 44 1 := b5 13 (44, 1) rfl rfl
    have e14 : hv M' 44 3 = hv M 44 3 := b5 14 (44, 3) rfl rfl
    have e28 : hv M' 234 57 = hv M 234 57 := b5 28 (234, 57) rfl rfl
    have e8 : hv M' 33 1 = hv M 33 1 := b5 8 (33, 1) rfl rfl
    have e11 : hv M' 33 6 = hv M 33 6 := b5 11 (33, 6) rfl rfl
    exact k M' r b1 b2 ⟨by omega, by omega, by omega, by omega, by omega, by omega⟩ b4 (b3 271 (by decide) (by decide +kernel)) (fun a h1 h2 => b3 a (by omega) (lx_el (fun h => by have := hW a h; omega))) ⟨⟨e8, e9, e10, e11⟩, ⟨hb_vc (b3 47 (by decide) (by decide +kernel)) 1, hb_vc (b3 58 (by decide) (by decide +kernel)) 1, hb_vc (b3 69 (by decide) (by decide +kernel)) 1, hb_vc (b3 80 (by decide) (by decide +kernel)) 1⟩⟩ ⟨⟨b3 34 (by decide) (by decide +kernel), b3 35 (by decide) (by decide +kernel), b3 36 (by decide) (by decide +kernel)⟩, (fun s hs => by
      have h4 : s = 0 ∨ s = 1 ∨ s = 2 ∨ s = 3 := by omega
      rcases h4 with rfl | rfl | rfl | rfl
      · exact b3 48 (by decide) (by decide +kernel)
      · exact b3 59 (by decide) (by decide +kernel)
      · exact b3 70 (by decide) (by decide +kernel)
      · exact b3 81 (by decide) (by decide +kernel))⟩ (fun b p q => b3 b (by omega) (lx_el (fun h => by have := hW7 b h; omega)))
