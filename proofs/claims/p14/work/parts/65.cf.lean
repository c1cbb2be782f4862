/-! The plain forms of the contracts that are proved by hand (printed by gen_cf.py). -/
def hc_sign_P : Prop := ∀ {d z u : Nat} {M : Nat → mq_C} {Q : (Option Value ⊕ Nat) → mq_S → Prop} {b1 : Nat}, 1 ≤ d → 272 ≤ z → mz_sh mz_GG M → HX M → b1 ∈ [12, 16, 20, 24, 28] → 0 ≤ 8 * hv M 9 2 - hv M 9 4 → 
    (∀ (M' : Nat → mq_C) (r : Int32), mz_sh mz_GG M' → HX M' → mz_fr mz_q23 M M' → (∀ a, a < 8 → M' a = M a) → hb_same mz_GG mz_q23 M M' → 0 ≤ r.toInt → 0 ≤ 287 - r.toInt → 0 ≤ (-1) - hv M 9 3 + hv M' 9 3 → hv M' 9 5 = hv M 9 5 → Q (.inl (some (.int r))) (M', z, u)) → 
    (∀ (M' : Nat → mq_C) (r : Int32), mz_sh mz_GG M' → HX M' → mz_fr mz_q23 M M' → (∀ a, a < 8 → M' a = M a) → hb_same mz_GG mz_q23 M M' → r.toInt = 0 → 0 ≤ 0 - hv M 9 3 + hv M' 9 3 → hv M' 9 5 = 1 → Q (.inl (some (.int r))) (M', z, u)) → mq_R mq_PP d 100 0 [some (.ref 9), some (.ref b1), none, none, none, none, none] [] (M, z, u) Q
theorem hc_sign (h : hc_sign_P) : mz_Ct mz_GG mq_PP HX mz_q23 1 := by
  refine hb_ct mz_GG mq_PP HX hb_tkG ?_
  intro d hd ρ vs M z u hgp hsl hpre hm hx hz
  obtain ⟨b0, vs, rfl, hb0, hgp0⟩ := hb_p1 mz_GG hgp
  obtain rfl : b0 = 9 := List.mem_singleton.mp hb0
  obtain ⟨b1, vs, rfl, hb1, hgp1⟩ := hb_p1 mz_GG hgp0
  obtain rfl := hb_pn mz_GG hgp1
  have s6 : ρ 6 = hv M 9 2 := hsl 4 (9, 2) rfl
  have s7 : ρ 7 = hv M 9 3 := hsl 5 (9, 3) rfl
  have s8 : ρ 8 = hv M 9 4 := hsl 6 (9, 4) rfl
  have s9 : ρ 9 = hv M 9 5 := hsl 7 (9, 5) rfl
  obtain ⟨f0, g0⟩ := hb_unc hpre
  have f0 : 0 ≤ 0 + (8 * ρ 6 + ((-1) * ρ 8 + 0)) := f0
  rw [s6, s8] at f0
  refine h hd hz hm hx hb1 (by have := f0; omega) ?_ ?_
  · intro M' r k1 k2 k3 k4 k5 l0 l1 l2 l3
    refine ⟨k1, k2, k3, k4, k5, _, List.mem_cons_self .., r.toInt, ?_, ⟨rfl, rfl, rfl⟩⟩
    exact hb_cons (show 0 ≤ 0 + (1 * r.toInt + 0) by omega) (hb_cons (show 0 ≤ 287 + ((-1) * r.toInt + 0) by omega) (hb_cons (show 0 ≤ -1 + ((-1) * ρ 7 + (1 * hv M' 9 3 + 0)) by rw [s7]; omega) (hb_cons (show 0 ≤ 0 + ((-1) * ρ 9 + (1 * hv M' 9 5 + 0)) by rw [s9]; omega) (hb_cons (show 0 ≤ 0 + (1 * ρ 9 + ((-1) * hv M' 9 5 + 0)) by rw [s9]; omega) (hb_nil)))))
  · intro M' r k1 k2 k3 k4 k5 l0 l1 l2
    refine ⟨k1, k2, k3, k4, k5, _, List.mem_cons_of_mem _ (List.mem_cons_self ..), r.toInt, ?_, ⟨rfl, rfl, rfl⟩⟩
    exact hb_cons (show 0 ≤ 0 + (1 * r.toInt + 0) by omega) (hb_cons (show 0 ≤ 0 + ((-1) * r.toInt + 0) by omega) (hb_cons (show 0 ≤ 0 + ((-1) * ρ 7 + (1 * hv M' 9 3 + 0)) by rw [s7]; omega) (hb_cons (show 0 ≤ -1 + (1 * hv M' 9 5 + 0) by omega) (hb_cons (show 0 ≤ 1 + ((-1) * hv M' 9 5 + 0) by omega) (hb_nil)))))

def hc_build12_P : Prop := ∀ {d z u : Nat} {M : Nat → mq_C} {Q : (Option Value ⊕ Nat) → mq_S → Prop} {x2 : Int32} {x3 : Int32}, 1 ≤ d → 272 ≤ z → mz_sh mz_GG M → HX M → 0 ≤ x2.toInt → 0 ≤ x3.toInt → 0 ≤ 316 - x2.toInt - x3.toInt → 0 ≤ 19 - x3.toInt → 
    (∀ (M' : Nat → mq_C), mz_sh mz_GG M' → HX M' → mz_fr mz_q24 M M' → (∀ a, a < 8 → M' a = M a) → hb_same mz_GG mz_q24 M M' → Q (.inl none) (M', z, u)) → mq_R mq_PP d 63 0 [some (.ref 12), some (.ref 11), some (.int x2), some (.int x3), none, none] [] (M, z, u) Q
theorem hc_build12 (h : hc_build12_P) : mz_Ct mz_GG mq_PP HX mz_q24 1 := by
  refine hb_ct mz_GG mq_PP HX hb_tkG ?_
  intro d hd ρ vs M z u hgp hsl hpre hm hx hz
  obtain ⟨b0, vs, rfl, hb0, hgp0⟩ := hb_p1 mz_GG hgp
  obtain rfl : b0 = 12 := List.mem_singleton.mp hb0
  obtain ⟨b1, vs, rfl, hb1, hgp1⟩ := hb_p1 mz_GG hgp0
  obtain rfl : b1 = 11 := List.mem_singleton.mp hb1
  obtain ⟨x2, vs, rfl, r2, hgp2⟩ := hb_p0 mz_GG hgp1
  obtain ⟨x3, vs, rfl, r3, hgp3⟩ := hb_p0 mz_GG hgp2
  obtain rfl := hb_pn mz_GG hgp3
  have s2 : ρ 2 = x2.toInt := r2
  have s3 : ρ 3 = x3.toInt := r3
  obtain ⟨f0, g0⟩ := hb_unc hpre
  have f0 : 0 ≤ 0 + (1 * ρ 2 + 0) := f0
  rw [s2] at f0
  obtain ⟨f1, g1⟩ := hb_unc g0
  have f1 : 0 ≤ 0 + (1 * ρ 3 + 0) := f1
  rw [s3] at f1
  obtain ⟨f2, g2⟩ := hb_unc g1
  have f2 : 0 ≤ 316 + ((-1) * ρ 2 + ((-1) * ρ 3 + 0)) := f2
  rw [s2, s3] at f2
  obtain ⟨f3, g3⟩ := hb_unc g2
  have f3 : 0 ≤ 19 + ((-1) * ρ 3 + 0) := f3
  rw [s3] at f3
  refine h hd hz hm hx  (by have := f0; omega) (by have := f1; omega) (by have := f2; omega) (by have := f3; omega) ?_
  · intro M' k1 k2 k3 k4 k5 
    refine ⟨k1, k2, k3, k4, k5, _, List.mem_cons_self .., 0, ?_, ⟨rfl, rfl⟩⟩
    exact hb_nil

def hc_build16_P : Prop := ∀ {d z u : Nat} {M : Nat → mq_C} {Q : (Option Value ⊕ Nat) → mq_S → Prop} {x2 : Int32} {x3 : Int32}, 1 ≤ d → 272 ≤ z → mz_sh mz_GG M → HX M → 0 ≤ x2.toInt → 0 ≤ x3.toInt → 0 ≤ 316 - x2.toInt - x3.toInt → 0 ≤ 286 - x3.toInt → 
    (∀ (M' : Nat → mq_C), mz_sh mz_GG M' → HX M' → mz_fr mz_q25 M M' → (∀ a, a < 8 → M' a = M a) → hb_same mz_GG mz_q25 M M' → Q (.inl none) (M', z, u)) → mq_R mq_PP d 63 0 [some (.ref 16), some (.ref 11), some (.int x2), some (.int x3), none, none] [] (M, z, u) Q
theorem hc_build16 (h : hc_build16_P) : mz_Ct mz_GG mq_PP HX mz_q25 1 := by
  refine hb_ct mz_GG mq_PP HX hb_tkG ?_
  intro d hd ρ vs M z u hgp hsl hpre hm hx hz
  obtain ⟨b0, vs, rfl, hb0, hgp0⟩ := hb_p1 mz_GG hgp
  obtain rfl : b0 = 16 := List.mem_singleton.mp hb0
  obtain ⟨b1, vs, rfl, hb1, hgp1⟩ := hb_p1 mz_GG hgp0
  obtain rfl : b1 = 11 := List.mem_singleton.mp hb1
  obtain ⟨x2, vs, rfl, r2, hgp2⟩ := hb_p0 mz_GG hgp1
  obtain ⟨x3, vs, rfl, r3, hgp3⟩ := hb_p0 mz_GG hgp2
  obtain rfl := hb_pn mz_GG hgp3
  have s2 : ρ 2 = x2.toInt := r2
  have s3 : ρ 3 = x3.toInt := r3
  obtain ⟨f0, g0⟩ := hb_unc hpre
  have f0 : 0 ≤ 0 + (1 * ρ 2 + 0) := f0
  rw [s2] at f0
  obtain ⟨f1, g1⟩ := hb_unc g0
  have f1 : 0 ≤ 0 + (1 * ρ 3 + 0) := f1
  rw [s3] at f1
  obtain ⟨f2, g2⟩ := hb_unc g1
  have f2 : 0 ≤ 316 + ((-1) * ρ 2 + ((-1) * ρ 3 + 0)) := f2
  rw [s2, s3] at f2
  obtain ⟨f3, g3⟩ := hb_unc g2
  have f3 : 0 ≤ 286 + ((-1) * ρ 3 + 0) := f3
  rw [s3] at f3
  refine h hd hz hm hx  (by have := f0; omega) (by have := f1; omega) (by have := f2; omega) (by have := f3; omega) ?_
  · intro M' k1 k2 k3 k4 k5 
    refine ⟨k1, k2, k3, k4, k5, _, List.mem_cons_self .., 0, ?_, ⟨rfl, rfl⟩⟩
    exact hb_nil

def hc_build20_P : Prop := ∀ {d z u : Nat} {M : Nat → mq_C} {Q : (Option Value ⊕ Nat) → mq_S → Prop} {x2 : Int32} {x3 : Int32}, 1 ≤ d → 272 ≤ z → mz_sh mz_GG M → HX M → 0 ≤ x2.toInt → 0 ≤ x3.toInt → 0 ≤ 316 - x2.toInt - x3.toInt → 0 ≤ 30 - x3.toInt → 
    (∀ (M' : Nat → mq_C), mz_sh mz_GG M' → HX M' → mz_fr mz_q26 M M' → (∀ a, a < 8 → M' a = M a) → hb_same mz_GG mz_q26 M M' → Q (.inl none) (M', z, u)) → mq_R mq_PP d 63 0 [some (.ref 20), some (.ref 11), some (.int x2), some (.int x3), none, none] [] (M, z, u) Q
theorem hc_build20 (h : hc_build20_P) : mz_Ct mz_GG mq_PP HX mz_q26 1 := by
  refine hb_ct mz_GG mq_PP HX hb_tkG ?_
  intro d hd ρ vs M z u hgp hsl hpre hm hx hz
  obtain ⟨b0, vs, rfl, hb0, hgp0⟩ := hb_p1 mz_GG hgp
  obtain rfl : b0 = 20 := List.mem_singleton.mp hb0
  obtain ⟨b1, vs, rfl, hb1, hgp1⟩ := hb_p1 mz_GG hgp0
  obtain rfl : b1 = 11 := List.mem_singleton.mp hb1
  obtain ⟨x2, vs, rfl, r2, hgp2⟩ := hb_p0 mz_GG hgp1
  obtain ⟨x3, vs, rfl, r3, hgp3⟩ := hb_p0 mz_GG hgp2
  obtain rfl := hb_pn mz_GG hgp3
  have s2 : ρ 2 = x2.toInt := r2
  have s3 : ρ 3 = x3.toInt := r3
  obtain ⟨f0, g0⟩ := hb_unc hpre
  have f0 : 0 ≤ 0 + (1 * ρ 2 + 0) := f0
  rw [s2] at f0
  obtain ⟨f1, g1⟩ := hb_unc g0
  have f1 : 0 ≤ 0 + (1 * ρ 3 + 0) := f1
  rw [s3] at f1
  obtain ⟨f2, g2⟩ := hb_unc g1
  have f2 : 0 ≤ 316 + ((-1) * ρ 2 + ((-1) * ρ 3 + 0)) := f2
  rw [s2, s3] at f2
  obtain ⟨f3, g3⟩ := hb_unc g2
  have f3 : 0 ≤ 30 + ((-1) * ρ 3 + 0) := f3
  rw [s3] at f3
  refine h hd hz hm hx  (by have := f0; omega) (by have := f1; omega) (by have := f2; omega) (by have := f3; omega) ?_
  · intro M' k1 k2 k3 k4 k5 
    refine ⟨k1, k2, k3, k4, k5, _, List.mem_cons_self .., 0, ?_, ⟨rfl, rfl⟩⟩
    exact hb_nil

def hc_arrange_P : Prop := ∀ {d z u : Nat} {M : Nat → mq_C} {Q : (Option Value ⊕ Nat) → mq_S → Prop} {x1 : Int32} {x2 : Int32} {x3 : Int32}, 1 ≤ d → 272 ≤ z → mz_sh mz_GG M → HX M → 0 ≤ x1.toInt → 0 ≤ 1 - x1.toInt → 0 ≤ x2.toInt → 0 ≤ x3.toInt → 0 ≤ 320 - x2.toInt - x3.toInt → 0 ≤ 288 - x3.toInt → 
    (∀ (M' : Nat → mq_C) (r : Int32), mz_sh mz_GG M' → HX M' → mz_fr mz_q57 M M' → (∀ a, a < 8 → M' a = M a) → hb_same mz_GG mz_q57 M M' → 0 ≤ r.toInt → 0 ≤ 1 - r.toInt → Q (.inl (some (.int r))) (M', z, u)) → mq_R mq_PP d 112 0 [some (.ref 234), some (.int x1), some (.int x2), some (.int x3), none, none, none, none] [] (M, z, u) Q
theorem hc_arrange (h : hc_arrange_P) : mz_Ct mz_GG mq_PP HX mz_q57 1 := by
  refine hb_ct mz_GG mq_PP HX hb_tkG ?_
  intro d hd ρ vs M z u hgp hsl hpre hm hx hz
  obtain ⟨b0, vs, rfl, hb0, hgp0⟩ := hb_p1 mz_GG hgp
  obtain rfl : b0 = 234 := List.mem_singleton.mp hb0
  obtain ⟨x1, vs, rfl, r1, hgp1⟩ := hb_p0 mz_GG hgp0
  obtain ⟨x2, vs, rfl, r2, hgp2⟩ := hb_p0 mz_GG hgp1
  obtain ⟨x3, vs, rfl, r3, hgp3⟩ := hb_p0 mz_GG hgp2
  obtain rfl := hb_pn mz_GG hgp3
  have s1 : ρ 1 = x1.toInt := r1
  have s2 : ρ 2 = x2.toInt := r2
  have s3 : ρ 3 = x3.toInt := r3
  obtain ⟨f0, g0⟩ := hb_unc hpre
  have f0 : 0 ≤ 0 + (1 * ρ 1 + 0) := f0
  rw [s1] at f0
  obtain ⟨f1, g1⟩ := hb_unc g0
  have f1 : 0 ≤ 1 + ((-1) * ρ 1 + 0) := f1
  rw [s1] at f1
  obtain ⟨f2, g2⟩ := hb_unc g1
  have f2 : 0 ≤ 0 + (1 * ρ 2 + 0) := f2
  rw [s2] at f2
  obtain ⟨f3, g3⟩ := hb_unc g2
  have f3 : 0 ≤ 0 + (1 * ρ 3 + 0) := f3
  rw [s3] at f3
  obtain ⟨f4, g4⟩ := hb_unc g3
  have f4 : 0 ≤ 320 + ((-1) * ρ 2 + ((-1) * ρ 3 + 0)) := f4
  rw [s2, s3] at f4
  obtain ⟨f5, g5⟩ := hb_unc g4
  have f5 : 0 ≤ 288 + ((-1) * ρ 3 + 0) := f5
  rw [s3] at f5
  refine h hd hz hm hx  (by have := f0; omega) (by have := f1; omega) (by have := f2; omega) (by have := f3; omega) (by have := f4; omega) (by have := f5; omega) ?_
  · intro M' r k1 k2 k3 k4 k5 l0 l1
    refine ⟨k1, k2, k3, k4, k5, _, List.mem_cons_self .., r.toInt, ?_, ⟨rfl, rfl, rfl⟩⟩
    exact hb_cons (show 0 ≤ 0 + (1 * r.toInt + 0) by omega) (hb_cons (show 0 ≤ 1 + ((-1) * r.toInt + 0) by omega) (hb_nil))

def hc_msign_P : Prop := ∀ {d z u : Nat} {M : Nat → mq_C} {Q : (Option Value ⊕ Nat) → mq_S → Prop} {x1 : Int32}, 2 ≤ d → 272 ≤ z → mz_sh mz_GG M → HX M → 0 ≤ x1.toInt → 0 ≤ 1 - x1.toInt → 
    (∀ (M' : Nat → mq_C) (r : Int32), mz_sh mz_GG M' → HX M' → mz_fr mz_q58 M M' → (∀ a, a < 8 → M' a = M a) → hb_same mz_GG mz_q58 M M' → 0 ≤ 1 + r.toInt → 0 ≤ 287 - r.toInt → 0 ≤ 0 - hv M 234 23 + hv M' 234 23 → 0 ≤ 0 - hv M 234 24 + hv M' 234 24 → 0 ≤ (-1) - hv M 234 23 + hv M' 234 23 + hv M' 234 24 → Q (.inl (some (.int r))) (M', z, u)) → mq_R mq_PP d 113 0 [some (.ref 234), some (.int x1), none, none, none, none, none] [] (M, z, u) Q
theorem hc_msign (h : hc_msign_P) : mz_Ct mz_GG mq_PP HX mz_q58 2 := by
  refine hb_ct mz_GG mq_PP HX hb_tkG ?_
  intro d hd ρ vs M z u hgp hsl hpre hm hx hz
  obtain ⟨b0, vs, rfl, hb0, hgp0⟩ := hb_p1 mz_GG hgp
  obtain rfl : b0 = 234 := List.mem_singleton.mp hb0
  obtain ⟨x1, vs, rfl, r1, hgp1⟩ := hb_p0 mz_GG hgp0
  obtain rfl := hb_pn mz_GG hgp1
  have s1 : ρ 1 = x1.toInt := r1
  have s23 : ρ 23 = hv M 234 23 := hsl 21 (234, 23) rfl
  have s24 : ρ 24 = hv M 234 24 := hsl 22 (234, 24) rfl
  obtain ⟨f0, g0⟩ := hb_unc hpre
  have f0 : 0 ≤ 0 + (1 * ρ 1 + 0) := f0
  rw [s1] at f0
  obtain ⟨f1, g1⟩ := hb_unc g0
  have f1 : 0 ≤ 1 + ((-1) * ρ 1 + 0) := f1
  rw [s1] at f1
  refine h hd hz hm hx  (by have := f0; omega) (by have := f1; omega) ?_
  · intro M' r k1 k2 k3 k4 k5 l0 l1 l2 l3 l4
    refine ⟨k1, k2, k3, k4, k5, _, List.mem_cons_self .., r.toInt, ?_, ⟨rfl, rfl, rfl⟩⟩
    exact hb_cons (show 0 ≤ 1 + (1 * r.toInt + 0) by omega) (hb_cons (show 0 ≤ 287 + ((-1) * r.toInt + 0) by omega) (hb_cons (show 0 ≤ 0 + ((-1) * ρ 23 + (1 * hv M' 234 23 + 0)) by rw [s23]; omega) (hb_cons (show 0 ≤ 0 + ((-1) * ρ 24 + (1 * hv M' 234 24 + 0)) by rw [s24]; omega) (hb_cons (show 0 ≤ -1 + ((-1) * ρ 23 + (1 * hv M' 234 23 + (1 * hv M' 234 24 + 0))) by rw [s23]; omega) (hb_nil)))))

def hc_aunpack_P : Prop := ∀ {d z u : Nat} {M : Nat → mq_C} {Q : (Option Value ⊕ Nat) → mq_S → Prop} {b0 : Nat} {x1 : Int32}, 6 ≤ d → 272 ≤ z → mz_sh mz_GG M → HX M → b0 ∈ [47, 58, 69, 80] → 
    (∀ (M' : Nat → mq_C) (r : Int32), mz_sh mz_GG M' → HX M' → mz_fr mz_q84 M M' → (∀ a, a < 8 → M' a = M a) → hb_same mz_GG mz_q84 M M' → 0 ≤ r.toInt → 0 ≤ 1 - r.toInt → Q (.inl (some (.int r))) (M', z, u)) → mq_R mq_PP d 49 0 [some (.ref b0), some (.int x1), some (.ref 9), none] [] (M, z, u) Q
theorem hc_aunpack (h : hc_aunpack_P) : mz_Ct mz_GG mq_PP HX mz_q84 6 := by
  refine hb_ct mz_GG mq_PP HX hb_tkG ?_
  intro d hd ρ vs M z u hgp hsl hpre hm hx hz
  obtain ⟨b0, vs, rfl, hb0, hgp0⟩ := hb_p1 mz_GG hgp
  obtain ⟨x1, vs, rfl, r1, hgp1⟩ := hb_p0 mz_GG hgp0
  obtain ⟨b2, vs, rfl, hb2, hgp2⟩ := hb_p1 mz_GG hgp1
  obtain rfl : b2 = 9 := List.mem_singleton.mp hb2
  obtain rfl := hb_pn mz_GG hgp2
  refine h hd hz hm hx hb0  ?_
  · intro M' r k1 k2 k3 k4 k5 l0 l1
    refine ⟨k1, k2, k3, k4, k5, _, List.mem_cons_self .., r.toInt, ?_, ⟨rfl, rfl, rfl⟩⟩
    exact hb_cons (show 0 ≤ 0 + (1 * r.toInt + 0) by omega) (hb_cons (show 0 ≤ 1 + ((-1) * r.toInt + 0) by omega) (hb_nil))

def hc_clear_P : Prop := ∀ {d z u : Nat} {M : Nat → mq_C} {Q : (Option Value ⊕ Nat) → mq_S → Prop} {b0 : Nat}, 1 ≤ d → 272 ≤ z → mz_sh mz_GG M → HX M → b0 ∈ [49, 60, 71, 82] → 
    (∀ (M' : Nat → mq_C), mz_sh mz_GG M' → HX M' → mz_fr mz_q86 M M' → (∀ a, a < 8 → M' a = M a) → hb_same mz_GG mz_q86 M M' → Q (.inl none) (M', z, u)) → mq_R mq_PP d 82 0 [some (.ref b0), none] [] (M, z, u) Q
theorem hc_clear (h : hc_clear_P) : mz_Ct mz_GG mq_PP HX mz_q86 1 := by
  refine hb_ct mz_GG mq_PP HX hb_tkG ?_
  intro d hd ρ vs M z u hgp hsl hpre hm hx hz
  obtain ⟨b0, vs, rfl, hb0, hgp0⟩ := hb_p1 mz_GG hgp
  obtain rfl := hb_pn mz_GG hgp0
  refine h hd hz hm hx hb0  ?_
  · intro M' k1 k2 k3 k4 k5 
    refine ⟨k1, k2, k3, k4, k5, _, List.mem_cons_self .., 0, ?_, ⟨rfl, rfl⟩⟩
    exact hb_nil

def hc_maddToPath_P : Prop := ∀ {d z u : Nat} {M : Nat → mq_C} {Q : (Option Value ⊕ Nat) → mq_S → Prop} {b0 : Nat} {x1 : Int32}, 1 ≤ d → 272 ≤ z → mz_sh mz_GG M → HX M → b0 ∈ [49, 60, 71, 82] → 0 ≤ x1.toInt → 0 ≤ 3 - x1.toInt → 
    (∀ (M' : Nat → mq_C) (r : Int32), mz_sh mz_GG M' → HX M' → mz_fr mz_q87 M M' → (∀ a, a < 8 → M' a = M a) → hb_same mz_GG mz_q87 M M' → r.toInt = 1 → Q (.inl (some (.int r))) (M', z, u)) → mq_R mq_PP d 88 0 [some (.ref b0), some (.int x1), none] [] (M, z, u) Q
theorem hc_maddToPath (h : hc_maddToPath_P) : mz_Ct mz_GG mq_PP HX mz_q87 1 := by
  refine hb_ct mz_GG mq_PP HX hb_tkG ?_
  intro d hd ρ vs M z u hgp hsl hpre hm hx hz
  obtain ⟨b0, vs, rfl, hb0, hgp0⟩ := hb_p1 mz_GG hgp
  obtain ⟨x1, vs, rfl, r1, hgp1⟩ := hb_p0 mz_GG hgp0
  obtain rfl := hb_pn mz_GG hgp1
  have s1 : ρ 1 = x1.toInt := r1
  obtain ⟨f0, g0⟩ := hb_unc hpre
  have f0 : 0 ≤ 0 + (1 * ρ 1 + 0) := f0
  rw [s1] at f0
  obtain ⟨f1, g1⟩ := hb_unc g0
  have f1 : 0 ≤ 3 + ((-1) * ρ 1 + 0) := f1
  rw [s1] at f1
  refine h hd hz hm hx hb0 (by have := f0; omega) (by have := f1; omega) ?_
  · intro M' r k1 k2 k3 k4 k5 l0
    refine ⟨k1, k2, k3, k4, k5, _, List.mem_cons_self .., r.toInt, ?_, ⟨rfl, rfl, rfl⟩⟩
    exact hb_cons (show 0 ≤ -1 + (1 * r.toInt + 0) by omega) (hb_cons (show 0 ≤ 1 + ((-1) * r.toInt + 0) by omega) (hb_nil))

def hc_aisSound_P : Prop := ∀ {d z u : Nat} {M : Nat → mq_C} {Q : (Option Value ⊕ Nat) → mq_S → Prop} {b0 : Nat}, 3 ≤ d → 272 ≤ z → mz_sh mz_GG M → HX M → b0 ∈ [47, 58, 69, 80] → 
    (∀ (M' : Nat → mq_C) (r : Int32), mz_sh mz_GG M' → HX M' → mz_fr mz_q94 M M' → (∀ a, a < 8 → M' a = M a) → hb_same mz_GG mz_q94 M M' → 0 ≤ r.toInt → 0 ≤ 1 - r.toInt → Q (.inl (some (.int r))) (M', z, u)) → mq_R mq_PP d 52 0 [some (.ref b0), none, none, none, none] [] (M, z, u) Q
theorem hc_aisSound (h : hc_aisSound_P) : mz_Ct mz_GG mq_PP HX mz_q94 3 := by
  refine hb_ct mz_GG mq_PP HX hb_tkG ?_
  intro d hd ρ vs M z u hgp hsl hpre hm hx hz
  obtain ⟨b0, vs, rfl, hb0, hgp0⟩ := hb_p1 mz_GG hgp
  obtain rfl := hb_pn mz_GG hgp0
  refine h hd hz hm hx hb0  ?_
  · intro M' r k1 k2 k3 k4 k5 l0 l1
    refine ⟨k1, k2, k3, k4, k5, _, List.mem_cons_self .., r.toInt, ?_, ⟨rfl, rfl, rfl⟩⟩
    exact hb_cons (show 0 ≤ 0 + (1 * r.toInt + 0) by omega) (hb_cons (show 0 ≤ 1 + ((-1) * r.toInt + 0) by omega) (hb_nil))

def hc_followPath_P : Prop := ∀ {d z u : Nat} {M : Nat → mq_C} {Q : (Option Value ⊕ Nat) → mq_S → Prop} {b1 : Nat}, 8 ≤ d → 272 ≤ z → mz_sh mz_GG M → HX M → b1 ∈ [91, 96, 101, 106] → 
    (∀ (M' : Nat → mq_C), mz_sh mz_GG M' → HX M' → mz_fr mz_q113 M M' → (∀ a, a < 8 → M' a = M a) → hb_same mz_GG mz_q113 M M' → Q (.inl none) (M', z, u)) → mq_R mq_PP d 28 0 [some (.ref 8), some (.ref b1), none] [] (M, z, u) Q
theorem hc_followPath (h : hc_followPath_P) : mz_Ct mz_GG mq_PP HX mz_q113 8 := by
  refine hb_ct mz_GG mq_PP HX hb_tkG ?_
  intro d hd ρ vs M z u hgp hsl hpre hm hx hz
  obtain ⟨b0, vs, rfl, hb0, hgp0⟩ := hb_p1 mz_GG hgp
  obtain rfl : b0 = 8 := List.mem_singleton.mp hb0
  obtain ⟨b1, vs, rfl, hb1, hgp1⟩ := hb_p1 mz_GG hgp0
  obtain rfl := hb_pn mz_GG hgp1
  refine h hd hz hm hx hb1  ?_
  · intro M' k1 k2 k3 k4 k5 
    refine ⟨k1, k2, k3, k4, k5, _, List.mem_cons_self .., 0, ?_, ⟨rfl, rfl⟩⟩
    exact hb_nil

def hc_menter_P : Prop := ∀ {d z u : Nat} {M : Nat → mq_C} {Q : (Option Value ⊕ Nat) → mq_S → Prop} {x1 : Int32} {x2 : Int32}, 8 ≤ d → 272 ≤ z → mz_sh mz_GG M → HX M → 
    (∀ (M' : Nat → mq_C) (r : Int32), mz_sh mz_GG M' → HX M' → mz_fr mz_q139 M M' → (∀ a, a < 8 → M' a = M a) → hb_same mz_GG mz_q139 M M' → 0 ≤ r.toInt → 0 ≤ 1 - r.toInt → Q (.inl (some (.int r))) (M', z, u)) → mq_R mq_PP d 124 0 [some (.ref 234), some (.int x1), some (.int x2), none, none, none, none] [] (M, z, u) Q
theorem hc_menter (h : hc_menter_P) : mz_Ct mz_GG mq_PP HX mz_q139 8 := by
  refine hb_ct mz_GG mq_PP HX hb_tkG ?_
  intro d hd ρ vs M z u hgp hsl hpre hm hx hz
  obtain ⟨b0, vs, rfl, hb0, hgp0⟩ := hb_p1 mz_GG hgp
  obtain rfl : b0 = 234 := List.mem_singleton.mp hb0
  obtain ⟨x1, vs, rfl, r1, hgp1⟩ := hb_p0 mz_GG hgp0
  obtain ⟨x2, vs, rfl, r2, hgp2⟩ := hb_p0 mz_GG hgp1
  obtain rfl := hb_pn mz_GG hgp2
  refine h hd hz hm hx   ?_
  · intro M' r k1 k2 k3 k4 k5 l0 l1
    refine ⟨k1, k2, k3, k4, k5, _, List.mem_cons_self .., r.toInt, ?_, ⟨rfl, rfl, rfl⟩⟩
    exact hb_cons (show 0 ≤ 0 + (1 * r.toInt + 0) by omega) (hb_cons (show 0 ≤ 1 + ((-1) * r.toInt + 0) by omega) (hb_nil))

def hc_mfinish_P : Prop := ∀ {d z u : Nat} {M : Nat → mq_C} {Q : (Option Value ⊕ Nat) → mq_S → Prop} {x1 : Int32}, 4 ≤ d → 272 ≤ z → mz_sh mz_GG M → HX M → 
    (∀ (M' : Nat → mq_C) (r : Int32), mz_sh mz_GG M' → HX M' → mz_fr mz_q140 M M' → (∀ a, a < 8 → M' a = M a) → hb_same mz_GG mz_q140 M M' → 0 ≤ r.toInt → 0 ≤ 1 - r.toInt → Q (.inl (some (.int r))) (M', z, u)) → mq_R mq_PP d 127 0 [some (.ref 234), some (.int x1), none, none, none] [] (M, z, u) Q
theorem hc_mfinish (h : hc_mfinish_P) : mz_Ct mz_GG mq_PP HX mz_q140 4 := by
  refine hb_ct mz_GG mq_PP HX hb_tkG ?_
  intro d hd ρ vs M z u hgp hsl hpre hm hx hz
  obtain ⟨b0, vs, rfl, hb0, hgp0⟩ := hb_p1 mz_GG hgp
  obtain rfl : b0 = 234 := List.mem_singleton.mp hb0
  obtain ⟨x1, vs, rfl, r1, hgp1⟩ := hb_p0 mz_GG hgp0
  obtain rfl := hb_pn mz_GG hgp1
  refine h hd hz hm hx   ?_
  · intro M' r k1 k2 k3 k4 k5 l0 l1
    refine ⟨k1, k2, k3, k4, k5, _, List.mem_cons_self .., r.toInt, ?_, ⟨rfl, rfl, rfl⟩⟩
    exact hb_cons (show 0 ≤ 0 + (1 * r.toInt + 0) by omega) (hb_cons (show 0 ≤ 1 + ((-1) * r.toInt + 0) by omega) (hb_nil))

def hc_misSound0_P : Prop := ∀ {d z u : Nat} {M : Nat → mq_C} {Q : (Option Value ⊕ Nat) → mq_S → Prop} {x1 : Int32}, 4 ≤ d → 272 ≤ z → mz_sh mz_GG M → HX M → 0 ≤ x1.toInt → 0 ≤ 0 - x1.toInt → 
    (∀ (M' : Nat → mq_C) (r : Int32), mz_sh mz_GG M' → HX M' → mz_fr mz_q143 M M' → (∀ a, a < 8 → M' a = M a) → hb_same mz_GG mz_q143 M M' → 0 ≤ r.toInt → 0 ≤ 1 - r.toInt → Q (.inl (some (.int r))) (M', z, u)) → mq_R mq_PP d 133 0 [some (.ref 234), some (.int x1), none, none, none, none, none] [] (M, z, u) Q
theorem hc_misSound0 (h : hc_misSound0_P) : mz_Ct mz_GG mq_PP HX mz_q143 4 := by
  refine hb_ct mz_GG mq_PP HX hb_tkG ?_
  intro d hd ρ vs M z u hgp hsl hpre hm hx hz
  obtain ⟨b0, vs, rfl, hb0, hgp0⟩ := hb_p1 mz_GG hgp
  obtain rfl : b0 = 234 := List.mem_singleton.mp hb0
  obtain ⟨x1, vs, rfl, r1, hgp1⟩ := hb_p0 mz_GG hgp0
  obtain rfl := hb_pn mz_GG hgp1
  have s1 : ρ 1 = x1.toInt := r1
  obtain ⟨f0, g0⟩ := hb_unc hpre
  have f0 : 0 ≤ 0 + (1 * ρ 1 + 0) := f0
  rw [s1] at f0
  obtain ⟨f1, g1⟩ := hb_unc g0
  have f1 : 0 ≤ 0 + ((-1) * ρ 1 + 0) := f1
  rw [s1] at f1
  refine h hd hz hm hx  (by have := f0; omega) (by have := f1; omega) ?_
  · intro M' r k1 k2 k3 k4 k5 l0 l1
    refine ⟨k1, k2, k3, k4, k5, _, List.mem_cons_self .., r.toInt, ?_, ⟨rfl, rfl, rfl⟩⟩
    exact hb_cons (show 0 ≤ 0 + (1 * r.toInt + 0) by omega) (hb_cons (show 0 ≤ 1 + ((-1) * r.toInt + 0) by omega) (hb_nil))

def hc_unpacked0_P : Prop := ∀ {d z u : Nat} {M : Nat → mq_C} {Q : (Option Value ⊕ Nat) → mq_S → Prop} {x1 : Int32} {x2 : Int32}, 7 ≤ d → 272 ≤ z → mz_sh mz_GG M → HX M → 0 ≤ x1.toInt → 0 ≤ 0 - x1.toInt → 0 ≤ x2.toInt → 0 ≤ (-1) - x2.toInt + hv M 238 0 → 
    (∀ (M' : Nat → mq_C) (r : Int32), mz_sh mz_GG M' → HX M' → mz_fr mz_q145 M M' → (∀ a, a < 8 → M' a = M a) → hb_same mz_GG mz_q145 M M' → 0 ≤ r.toInt → 0 ≤ 1 - r.toInt → Q (.inl (some (.int r))) (M', z, u)) → mq_R mq_PP d 135 0 [some (.ref 234), some (.int x1), some (.int x2), none, none] [] (M, z, u) Q
theorem hc_unpacked0 (h : hc_unpacked0_P) : mz_Ct mz_GG mq_PP HX mz_q145 7 := by
  refine hb_ct mz_GG mq_PP HX hb_tkG ?_
  intro d hd ρ vs M z u hgp hsl hpre hm hx hz
  obtain ⟨b0, vs, rfl, hb0, hgp0⟩ := hb_p1 mz_GG hgp
  obtain rfl : b0 = 234 := List.mem_singleton.mp hb0
  obtain ⟨x1, vs, rfl, r1, hgp1⟩ := hb_p0 mz_GG hgp0
  obtain ⟨x2, vs, rfl, r2, hgp2⟩ := hb_p0 mz_GG hgp1
  obtain rfl := hb_pn mz_GG hgp2
  have s1 : ρ 1 = x1.toInt := r1
  have s2 : ρ 2 = x2.toInt := r2
  have s49 : ρ 49 = hv M 238 0 := hsl 46 (238, 0) rfl
  obtain ⟨f0, g0⟩ := hb_unc hpre
  have f0 : 0 ≤ 0 + (1 * ρ 1 + 0) := f0
  rw [s1] at f0
  obtain ⟨f1, g1⟩ := hb_unc g0
  have f1 : 0 ≤ 0 + ((-1) * ρ 1 + 0) := f1
  rw [s1] at f1
  obtain ⟨f2, g2⟩ := hb_unc g1
  have f2 : 0 ≤ 0 + (1 * ρ 2 + 0) := f2
  rw [s2] at f2
  obtain ⟨f3, g3⟩ := hb_unc g2
  have f3 : 0 ≤ -1 + ((-1) * ρ 2 + (1 * ρ 49 + 0)) := f3
  rw [s2, s49] at f3
  refine h hd hz hm hx  (by have := f0; omega) (by have := f1; omega) (by have := f2; omega) (by have := f3; omega) ?_
  · intro M' r k1 k2 k3 k4 k5 l0 l1
    refine ⟨k1, k2, k3, k4, k5, _, List.mem_cons_self .., r.toInt, ?_, ⟨rfl, rfl, rfl⟩⟩
    exact hb_cons (show 0 ≤ 0 + (1 * r.toInt + 0) by omega) (hb_cons (show 0 ≤ 1 + ((-1) * r.toInt + 0) by omega) (hb_nil))

def hc_detail0_P : Prop := ∀ {d z u : Nat} {M : Nat → mq_C} {Q : (Option Value ⊕ Nat) → mq_S → Prop} {x1 : Int32} {x2 : Int32} {x3 : Int32}, 1 ≤ d → 272 ≤ z → mz_sh mz_GG M → HX M → 0 ≤ x1.toInt → 0 ≤ 0 - x1.toInt → 
    (∀ (M' : Nat → mq_C) (r : Int32), mz_sh mz_GG M' → HX M' → mz_fr mz_q146 M M' → (∀ a, a < 8 → M' a = M a) → hb_same mz_GG mz_q146 M M' → 0 ≤ r.toInt → 0 ≤ 1 - r.toInt → Q (.inl (some (.int r))) (M', z, u)) → mq_R mq_PP d 136 0 [some (.ref 234), some (.int x1), some (.int x2), some (.int x3), none, none] [] (M, z, u) Q
theorem hc_detail0 (h : hc_detail0_P) : mz_Ct mz_GG mq_PP HX mz_q146 1 := by
  refine hb_ct mz_GG mq_PP HX hb_tkG ?_
  intro d hd ρ vs M z u hgp hsl hpre hm hx hz
  obtain ⟨b0, vs, rfl, hb0, hgp0⟩ := hb_p1 mz_GG hgp
  obtain rfl : b0 = 234 := List.mem_singleton.mp hb0
  obtain ⟨x1, vs, rfl, r1, hgp1⟩ := hb_p0 mz_GG hgp0
  obtain ⟨x2, vs, rfl, r2, hgp2⟩ := hb_p0 mz_GG hgp1
  obtain ⟨x3, vs, rfl, r3, hgp3⟩ := hb_p0 mz_GG hgp2
  obtain rfl := hb_pn mz_GG hgp3
  have s1 : ρ 1 = x1.toInt := r1
  obtain ⟨f0, g0⟩ := hb_unc hpre
  have f0 : 0 ≤ 0 + (1 * ρ 1 + 0) := f0
  rw [s1] at f0
  obtain ⟨f1, g1⟩ := hb_unc g0
  have f1 : 0 ≤ 0 + ((-1) * ρ 1 + 0) := f1
  rw [s1] at f1
  refine h hd hz hm hx  (by have := f0; omega) (by have := f1; omega) ?_
  · intro M' r k1 k2 k3 k4 k5 l0 l1
    refine ⟨k1, k2, k3, k4, k5, _, List.mem_cons_self .., r.toInt, ?_, ⟨rfl, rfl, rfl⟩⟩
    exact hb_cons (show 0 ≤ 0 + (1 * r.toInt + 0) by omega) (hb_cons (show 0 ≤ 1 + ((-1) * r.toInt + 0) by omega) (hb_nil))

def hc_isReadable0_P : Prop := ∀ {d z u : Nat} {M : Nat → mq_C} {Q : (Option Value ⊕ Nat) → mq_S → Prop} {x1 : Int32}, 9 ≤ d → 272 ≤ z → mz_sh mz_GG M → HX M → 0 ≤ x1.toInt → 0 ≤ 0 - x1.toInt → 
    (∀ (M' : Nat → mq_C) (r : Int32), mz_sh mz_GG M' → HX M' → mz_fr mz_q148 M M' → (∀ a, a < 8 → M' a = M a) → hb_same mz_GG mz_q148 M M' → 0 ≤ r.toInt → 0 ≤ 1 - r.toInt → Q (.inl (some (.int r))) (M', z, u)) → mq_R mq_PP d 138 0 [some (.ref 234), some (.int x1), none] [] (M, z, u) Q
theorem hc_isReadable0 (h : hc_isReadable0_P) : mz_Ct mz_GG mq_PP HX mz_q148 9 := by
  refine hb_ct mz_GG mq_PP HX hb_tkG ?_
  intro d hd ρ vs M z u hgp hsl hpre hm hx hz
  obtain ⟨b0, vs, rfl, hb0, hgp0⟩ := hb_p1 mz_GG hgp
  obtain rfl : b0 = 234 := List.mem_singleton.mp hb0
  obtain ⟨x1, vs, rfl, r1, hgp1⟩ := hb_p0 mz_GG hgp0
  obtain rfl := hb_pn mz_GG hgp1
  have s1 : ρ 1 = x1.toInt := r1
  obtain ⟨f0, g0⟩ := hb_unc hpre
  have f0 : 0 ≤ 0 + (1 * ρ 1 + 0) := f0
  rw [s1] at f0
  obtain ⟨f1, g1⟩ := hb_unc g0
  have f1 : 0 ≤ 0 + ((-1) * ρ 1 + 0) := f1
  rw [s1] at f1
  refine h hd hz hm hx  (by have := f0; omega) (by have := f1; omega) ?_
  · intro M' r k1 k2 k3 k4 k5 l0 l1
    refine ⟨k1, k2, k3, k4, k5, _, List.mem_cons_self .., r.toInt, ?_, ⟨rfl, rfl, rfl⟩⟩
    exact hb_cons (show 0 ≤ 0 + (1 * r.toInt + 0) by omega) (hb_cons (show 0 ≤ 1 + ((-1) * r.toInt + 0) by omega) (hb_nil))

def hc_misSound1_P : Prop := ∀ {d z u : Nat} {M : Nat → mq_C} {Q : (Option Value ⊕ Nat) → mq_S → Prop} {x1 : Int32}, 4 ≤ d → 272 ≤ z → mz_sh mz_GG M → HX M → 0 ≤ (-1) + x1.toInt → 0 ≤ 1 - x1.toInt → 
    (∀ (M' : Nat → mq_C) (r : Int32), mz_sh mz_GG M' → HX M' → mz_fr mz_q150 M M' → (∀ a, a < 8 → M' a = M a) → hb_same mz_GG mz_q150 M M' → 0 ≤ r.toInt → 0 ≤ 1 - r.toInt → Q (.inl (some (.int r))) (M', z, u)) → mq_R mq_PP d 133 0 [some (.ref 234), some (.int x1), none, none, none, none, none] [] (M, z, u) Q
theorem hc_misSound1 (h : hc_misSound1_P) : mz_Ct mz_GG mq_PP HX mz_q150 4 := by
  refine hb_ct mz_GG mq_PP HX hb_tkG ?_
  intro d hd ρ vs M z u hgp hsl hpre hm hx hz
  obtain ⟨b0, vs, rfl, hb0, hgp0⟩ := hb_p1 mz_GG hgp
  obtain rfl : b0 = 234 := List.mem_singleton.mp hb0
  obtain ⟨x1, vs, rfl, r1, hgp1⟩ := hb_p0 mz_GG hgp0
  obtain rfl := hb_pn mz_GG hgp1
  have s1 : ρ 1 = x1.toInt := r1
  obtain ⟨f0, g0⟩ := hb_unc hpre
  have f0 : 0 ≤ -1 + (1 * ρ 1 + 0) := f0
  rw [s1] at f0
  obtain ⟨f1, g1⟩ := hb_unc g0
  have f1 : 0 ≤ 1 + ((-1) * ρ 1 + 0) := f1
  rw [s1] at f1
  refine h hd hz hm hx  (by have := f0; omega) (by have := f1; omega) ?_
  · intro M' r k1 k2 k3 k4 k5 l0 l1
    refine ⟨k1, k2, k3, k4, k5, _, List.mem_cons_self .., r.toInt, ?_, ⟨rfl, rfl, rfl⟩⟩
    exact hb_cons (show 0 ≤ 0 + (1 * r.toInt + 0) by omega) (hb_cons (show 0 ≤ 1 + ((-1) * r.toInt + 0) by omega) (hb_nil))

def hc_unpacked1_P : Prop := ∀ {d z u : Nat} {M : Nat → mq_C} {Q : (Option Value ⊕ Nat) → mq_S → Prop} {x1 : Int32} {x2 : Int32}, 7 ≤ d → 272 ≤ z → mz_sh mz_GG M → HX M → 0 ≤ (-1) + x1.toInt → 0 ≤ 1 - x1.toInt → 0 ≤ x2.toInt → 0 ≤ (-1) - x2.toInt + hv M 238 1 → 
    (∀ (M' : Nat → mq_C) (r : Int32), mz_sh mz_GG M' → HX M' → mz_fr mz_q152 M M' → (∀ a, a < 8 → M' a = M a) → hb_same mz_GG mz_q152 M M' → 0 ≤ r.toInt → 0 ≤ 1 - r.toInt → Q (.inl (some (.int r))) (M', z, u)) → mq_R mq_PP d 135 0 [some (.ref 234), some (.int x1), some (.int x2), none, none] [] (M, z, u) Q
theorem hc_unpacked1 (h : hc_unpacked1_P) : mz_Ct mz_GG mq_PP HX mz_q152 7 := by
  refine hb_ct mz_GG mq_PP HX hb_tkG ?_
  intro d hd ρ vs M z u hgp hsl hpre hm hx hz
  obtain ⟨b0, vs, rfl, hb0, hgp0⟩ := hb_p1 mz_GG hgp
  obtain rfl : b0 = 234 := List.mem_singleton.mp hb0
  obtain ⟨x1, vs, rfl, r1, hgp1⟩ := hb_p0 mz_GG hgp0
  obtain ⟨x2, vs, rfl, r2, hgp2⟩ := hb_p0 mz_GG hgp1
  obtain rfl := hb_pn mz_GG hgp2
  have s1 : ρ 1 = x1.toInt := r1
  have s2 : ρ 2 = x2.toInt := r2
  have s53 : ρ 53 = hv M 238 1 := hsl 50 (238, 1) rfl
  obtain ⟨f0, g0⟩ := hb_unc hpre
  have f0 : 0 ≤ -1 + (1 * ρ 1 + 0) := f0
  rw [s1] at f0
  obtain ⟨f1, g1⟩ := hb_unc g0
  have f1 : 0 ≤ 1 + ((-1) * ρ 1 + 0) := f1
  rw [s1] at f1
  obtain ⟨f2, g2⟩ := hb_unc g1
  have f2 : 0 ≤ 0 + (1 * ρ 2 + 0) := f2
  rw [s2] at f2
  obtain ⟨f3, g3⟩ := hb_unc g2
  have f3 : 0 ≤ -1 + ((-1) * ρ 2 + (1 * ρ 53 + 0)) := f3
  rw [s2, s53] at f3
  refine h hd hz hm hx  (by have := f0; omega) (by have := f1; omega) (by have := f2; omega) (by have := f3; omega) ?_
  · intro M' r k1 k2 k3 k4 k5 l0 l1
    refine ⟨k1, k2, k3, k4, k5, _, List.mem_cons_self .., r.toInt, ?_, ⟨rfl, rfl, rfl⟩⟩
    exact hb_cons (show 0 ≤ 0 + (1 * r.toInt + 0) by omega) (hb_cons (show 0 ≤ 1 + ((-1) * r.toInt + 0) by omega) (hb_nil))

def hc_detail1_P : Prop := ∀ {d z u : Nat} {M : Nat → mq_C} {Q : (Option Value ⊕ Nat) → mq_S → Prop} {x1 : Int32} {x2 : Int32} {x3 : Int32}, 1 ≤ d → 272 ≤ z → mz_sh mz_GG M → HX M → 0 ≤ (-1) + x1.toInt → 0 ≤ 1 - x1.toInt → 
    (∀ (M' : Nat → mq_C) (r : Int32), mz_sh mz_GG M' → HX M' → mz_fr mz_q153 M M' → (∀ a, a < 8 → M' a = M a) → hb_same mz_GG mz_q153 M M' → 0 ≤ r.toInt → 0 ≤ 1 - r.toInt → Q (.inl (some (.int r))) (M', z, u)) → mq_R mq_PP d 136 0 [some (.ref 234), some (.int x1), some (.int x2), some (.int x3), none, none] [] (M, z, u) Q
theorem hc_detail1 (h : hc_detail1_P) : mz_Ct mz_GG mq_PP HX mz_q153 1 := by
  refine hb_ct mz_GG mq_PP HX hb_tkG ?_
  intro d hd ρ vs M z u hgp hsl hpre hm hx hz
  obtain ⟨b0, vs, rfl, hb0, hgp0⟩ := hb_p1 mz_GG hgp
  obtain rfl : b0 = 234 := List.mem_singleton.mp hb0
  obtain ⟨x1, vs, rfl, r1, hgp1⟩ := hb_p0 mz_GG hgp0
  obtain ⟨x2, vs, rfl, r2, hgp2⟩ := hb_p0 mz_GG hgp1
  obtain ⟨x3, vs, rfl, r3, hgp3⟩ := hb_p0 mz_GG hgp2
  obtain rfl := hb_pn mz_GG hgp3
  have s1 : ρ 1 = x1.toInt := r1
  obtain ⟨f0, g0⟩ := hb_unc hpre
  have f0 : 0 ≤ -1 + (1 * ρ 1 + 0) := f0
  rw [s1] at f0
  obtain ⟨f1, g1⟩ := hb_unc g0
  have f1 : 0 ≤ 1 + ((-1) * ρ 1 + 0) := f1
  rw [s1] at f1
  refine h hd hz hm hx  (by have := f0; omega) (by have := f1; omega) ?_
  · intro M' r k1 k2 k3 k4 k5 l0 l1
    refine ⟨k1, k2, k3, k4, k5, _, List.mem_cons_self .., r.toInt, ?_, ⟨rfl, rfl, rfl⟩⟩
    exact hb_cons (show 0 ≤ 0 + (1 * r.toInt + 0) by omega) (hb_cons (show 0 ≤ 1 + ((-1) * r.toInt + 0) by omega) (hb_nil))

def hc_isReadable1_P : Prop := ∀ {d z u : Nat} {M : Nat → mq_C} {Q : (Option Value ⊕ Nat) → mq_S → Prop} {x1 : Int32}, 9 ≤ d → 272 ≤ z → mz_sh mz_GG M → HX M → 0 ≤ (-1) + x1.toInt → 0 ≤ 1 - x1.toInt → 
    (∀ (M' : Nat → mq_C) (r : Int32), mz_sh mz_GG M' → HX M' → mz_fr mz_q155 M M' → (∀ a, a < 8 → M' a = M a) → hb_same mz_GG mz_q155 M M' → 0 ≤ r.toInt → 0 ≤ 1 - r.toInt → Q (.inl (some (.int r))) (M', z, u)) → mq_R mq_PP d 138 0 [some (.ref 234), some (.int x1), none] [] (M, z, u) Q
theorem hc_isReadable1 (h : hc_isReadable1_P) : mz_Ct mz_GG mq_PP HX mz_q155 9 := by
  refine hb_ct mz_GG mq_PP HX hb_tkG ?_
  intro d hd ρ vs M z u hgp hsl hpre hm hx hz
  obtain ⟨b0, vs, rfl, hb0, hgp0⟩ := hb_p1 mz_GG hgp
  obtain rfl : b0 = 234 := List.mem_singleton.mp hb0
  obtain ⟨x1, vs, rfl, r1, hgp1⟩ := hb_p0 mz_GG hgp0
  obtain rfl := hb_pn mz_GG hgp1
  have s1 : ρ 1 = x1.toInt := r1
  obtain ⟨f0, g0⟩ := hb_unc hpre
  have f0 : 0 ≤ -1 + (1 * ρ 1 + 0) := f0
  rw [s1] at f0
  obtain ⟨f1, g1⟩ := hb_unc g0
  have f1 : 0 ≤ 1 + ((-1) * ρ 1 + 0) := f1
  rw [s1] at f1
  refine h hd hz hm hx  (by have := f0; omega) (by have := f1; omega) ?_
  · intro M' r k1 k2 k3 k4 k5 l0 l1
    refine ⟨k1, k2, k3, k4, k5, _, List.mem_cons_self .., r.toInt, ?_, ⟨rfl, rfl, rfl⟩⟩
    exact hb_cons (show 0 ≤ 0 + (1 * r.toInt + 0) by omega) (hb_cons (show 0 ≤ 1 + ((-1) * r.toInt + 0) by omega) (hb_nil))

def hc_misSound2_P : Prop := ∀ {d z u : Nat} {M : Nat → mq_C} {Q : (Option Value ⊕ Nat) → mq_S → Prop} {x1 : Int32}, 4 ≤ d → 272 ≤ z → mz_sh mz_GG M → HX M → 0 ≤ (-2) + x1.toInt → 0 ≤ 2 - x1.toInt → 
    (∀ (M' : Nat → mq_C) (r : Int32), mz_sh mz_GG M' → HX M' → mz_fr mz_q157 M M' → (∀ a, a < 8 → M' a = M a) → hb_same mz_GG mz_q157 M M' → 0 ≤ r.toInt → 0 ≤ 1 - r.toInt → Q (.inl (some (.int r))) (M', z, u)) → mq_R mq_PP d 133 0 [some (.ref 234), some (.int x1), none, none, none, none, none] [] (M, z, u) Q
theorem hc_misSound2 (h : hc_misSound2_P) : mz_Ct mz_GG mq_PP HX mz_q157 4 := by
  refine hb_ct mz_GG mq_PP HX hb_tkG ?_
  intro d hd ρ vs M z u hgp hsl hpre hm hx hz
  obtain ⟨b0, vs, rfl, hb0, hgp0⟩ := hb_p1 mz_GG hgp
  obtain rfl : b0 = 234 := List.mem_singleton.mp hb0
  obtain ⟨x1, vs, rfl, r1, hgp1⟩ := hb_p0 mz_GG hgp0
  obtain rfl := hb_pn mz_GG hgp1
  have s1 : ρ 1 = x1.toInt := r1
  obtain ⟨f0, g0⟩ := hb_unc hpre
  have f0 : 0 ≤ -2 + (1 * ρ 1 + 0) := f0
  rw [s1] at f0
  obtain ⟨f1, g1⟩ := hb_unc g0
  have f1 : 0 ≤ 2 + ((-1) * ρ 1 + 0) := f1
  rw [s1] at f1
  refine h hd hz hm hx  (by have := f0; omega) (by have := f1; omega) ?_
  · intro M' r k1 k2 k3 k4 k5 l0 l1
    refine ⟨k1, k2, k3, k4, k5, _, List.mem_cons_self .., r.toInt, ?_, ⟨rfl, rfl, rfl⟩⟩
    exact hb_cons (show 0 ≤ 0 + (1 * r.toInt + 0) by omega) (hb_cons (show 0 ≤ 1 + ((-1) * r.toInt + 0) by omega) (hb_nil))

def hc_unpacked2_P : Prop := ∀ {d z u : Nat} {M : Nat → mq_C} {Q : (Option Value ⊕ Nat) → mq_S → Prop} {x1 : Int32} {x2 : Int32}, 7 ≤ d → 272 ≤ z → mz_sh mz_GG M → HX M → 0 ≤ (-2) + x1.toInt → 0 ≤ 2 - x1.toInt → 0 ≤ x2.toInt → 0 ≤ (-1) - x2.toInt + hv M 238 2 → 
    (∀ (M' : Nat → mq_C) (r : Int32), mz_sh mz_GG M' → HX M' → mz_fr mz_q159 M M' → (∀ a, a < 8 → M' a = M a) → hb_same mz_GG mz_q159 M M' → 0 ≤ r.toInt → 0 ≤ 1 - r.toInt → Q (.inl (some (.int r))) (M', z, u)) → mq_R mq_PP d 135 0 [some (.ref 234), some (.int x1), some (.int x2), none, none] [] (M, z, u) Q
theorem hc_unpacked2 (h : hc_unpacked2_P) : mz_Ct mz_GG mq_PP HX mz_q159 7 := by
  refine hb_ct mz_GG mq_PP HX hb_tkG ?_
  intro d hd ρ vs M z u hgp hsl hpre hm hx hz
  obtain ⟨b0, vs, rfl, hb0, hgp0⟩ := hb_p1 mz_GG hgp
  obtain rfl : b0 = 234 := List.mem_singleton.mp hb0
  obtain ⟨x1, vs, rfl, r1, hgp1⟩ := hb_p0 mz_GG hgp0
  obtain ⟨x2, vs, rfl, r2, hgp2⟩ := hb_p0 mz_GG hgp1
  obtain rfl := hb_pn mz_GG hgp2
  have s1 : ρ 1 = x1.toInt := r1
  have s2 : ρ 2 = x2.toInt := r2
  have s57 : ρ 57 = hv M 238 2 := hsl 54 (238, 2) rfl
  obtain ⟨f0, g0⟩ := hb_unc hpre
  have f0 : 0 ≤ -2 + (1 * ρ 1 + 0) := f0
  rw [s1] at f0
  obtain ⟨f1, g1⟩ := hb_unc g0
  have f1 : 0 ≤ 2 + ((-1) * ρ 1 + 0) := f1
  rw [s1] at f1
  obtain ⟨f2, g2⟩ := hb_unc g1
  have f2 : 0 ≤ 0 + (1 * ρ 2 + 0) := f2
  rw [s2] at f2
  obtain ⟨f3, g3⟩ := hb_unc g2
  have f3 : 0 ≤ -1 + ((-1) * ρ 2 + (1 * ρ 57 + 0)) := f3
  rw [s2, s57] at f3
  refine h hd hz hm hx  (by have := f0; omega) (by have := f1; omega) (by have := f2; omega) (by have := f3; omega) ?_
  · intro M' r k1 k2 k3 k4 k5 l0 l1
    refine ⟨k1, k2, k3, k4, k5, _, List.mem_cons_self .., r.toInt, ?_, ⟨rfl, rfl, rfl⟩⟩
    exact hb_cons (show 0 ≤ 0 + (1 * r.toInt + 0) by omega) (hb_cons (show 0 ≤ 1 + ((-1) * r.toInt + 0) by omega) (hb_nil))

def hc_detail2_P : Prop := ∀ {d z u : Nat} {M : Nat → mq_C} {Q : (Option Value ⊕ Nat) → mq_S → Prop} {x1 : Int32} {x2 : Int32} {x3 : Int32}, 1 ≤ d → 272 ≤ z → mz_sh mz_GG M → HX M → 0 ≤ (-2) + x1.toInt → 0 ≤ 2 - x1.toInt → 
    (∀ (M' : Nat → mq_C) (r : Int32), mz_sh mz_GG M' → HX M' → mz_fr mz_q160 M M' → (∀ a, a < 8 → M' a = M a) → hb_same mz_GG mz_q160 M M' → 0 ≤ r.toInt → 0 ≤ 1 - r.toInt → Q (.inl (some (.int r))) (M', z, u)) → mq_R mq_PP d 136 0 [some (.ref 234), some (.int x1), some (.int x2), some (.int x3), none, none] [] (M, z, u) Q
theorem hc_detail2 (h : hc_detail2_P) : mz_Ct mz_GG mq_PP HX mz_q160 1 := by
  refine hb_ct mz_GG mq_PP HX hb_tkG ?_
  intro d hd ρ vs M z u hgp hsl hpre hm hx hz
  obtain ⟨b0, vs, rfl, hb0, hgp0⟩ := hb_p1 mz_GG hgp
  obtain rfl : b0 = 234 := List.mem_singleton.mp hb0
  obtain ⟨x1, vs, rfl, r1, hgp1⟩ := hb_p0 mz_GG hgp0
  obtain ⟨x2, vs, rfl, r2, hgp2⟩ := hb_p0 mz_GG hgp1
  obtain ⟨x3, vs, rfl, r3, hgp3⟩ := hb_p0 mz_GG hgp2
  obtain rfl := hb_pn mz_GG hgp3
  have s1 : ρ 1 = x1.toInt := r1
  obtain ⟨f0, g0⟩ := hb_unc hpre
  have f0 : 0 ≤ -2 + (1 * ρ 1 + 0) := f0
  rw [s1] at f0
  obtain ⟨f1, g1⟩ := hb_unc g0
  have f1 : 0 ≤ 2 + ((-1) * ρ 1 + 0) := f1
  rw [s1] at f1
  refine h hd hz hm hx  (by have := f0; omega) (by have := f1; omega) ?_
  · intro M' r k1 k2 k3 k4 k5 l0 l1
    refine ⟨k1, k2, k3, k4, k5, _, List.mem_cons_self .., r.toInt, ?_, ⟨rfl, rfl, rfl⟩⟩
    exact hb_cons (show 0 ≤ 0 + (1 * r.toInt + 0) by omega) (hb_cons (show 0 ≤ 1 + ((-1) * r.toInt + 0) by omega) (hb_nil))

def hc_isReadable2_P : Prop := ∀ {d z u : Nat} {M : Nat → mq_C} {Q : (Option Value ⊕ Nat) → mq_S → Prop} {x1 : Int32}, 9 ≤ d → 272 ≤ z → mz_sh mz_GG M → HX M → 0 ≤ (-2) + x1.toInt → 0 ≤ 2 - x1.toInt → 
    (∀ (M' : Nat → mq_C) (r : Int32), mz_sh mz_GG M' → HX M' → mz_fr mz_q162 M M' → (∀ a, a < 8 → M' a = M a) → hb_same mz_GG mz_q162 M M' → 0 ≤ r.toInt → 0 ≤ 1 - r.toInt → Q (.inl (some (.int r))) (M', z, u)) → mq_R mq_PP d 138 0 [some (.ref 234), some (.int x1), none] [] (M, z, u) Q
theorem hc_isReadable2 (h : hc_isReadable2_P) : mz_Ct mz_GG mq_PP HX mz_q162 9 := by
  refine hb_ct mz_GG mq_PP HX hb_tkG ?_
  intro d hd ρ vs M z u hgp hsl hpre hm hx hz
  obtain ⟨b0, vs, rfl, hb0, hgp0⟩ := hb_p1 mz_GG hgp
  obtain rfl : b0 = 234 := List.mem_singleton.mp hb0
  obtain ⟨x1, vs, rfl, r1, hgp1⟩ := hb_p0 mz_GG hgp0
  obtain rfl := hb_pn mz_GG hgp1
  have s1 : ρ 1 = x1.toInt := r1
  obtain ⟨f0, g0⟩ := hb_unc hpre
  have f0 : 0 ≤ -2 + (1 * ρ 1 + 0) := f0
  rw [s1] at f0
  obtain ⟨f1, g1⟩ := hb_unc g0
  have f1 : 0 ≤ 2 + ((-1) * ρ 1 + 0) := f1
  rw [s1] at f1
  refine h hd hz hm hx  (by have := f0; omega) (by have := f1; omega) ?_
  · intro M' r k1 k2 k3 k4 k5 l0 l1
    refine ⟨k1, k2, k3, k4, k5, _, List.mem_cons_self .., r.toInt, ?_, ⟨rfl, rfl, rfl⟩⟩
    exact hb_cons (show 0 ≤ 0 + (1 * r.toInt + 0) by omega) (hb_cons (show 0 ≤ 1 + ((-1) * r.toInt + 0) by omega) (hb_nil))

def hc_misSound3_P : Prop := ∀ {d z u : Nat} {M : Nat → mq_C} {Q : (Option Value ⊕ Nat) → mq_S → Prop} {x1 : Int32}, 4 ≤ d → 272 ≤ z → mz_sh mz_GG M → HX M → 0 ≤ (-3) + x1.toInt → 0 ≤ 3 - x1.toInt → 
    (∀ (M' : Nat → mq_C) (r : Int32), mz_sh mz_GG M' → HX M' → mz_fr mz_q164 M M' → (∀ a, a < 8 → M' a = M a) → hb_same mz_GG mz_q164 M M' → 0 ≤ r.toInt → 0 ≤ 1 - r.toInt → Q (.inl (some (.int r))) (M', z, u)) → mq_R mq_PP d 133 0 [some (.ref 234), some (.int x1), none, none, none, none, none] [] (M, z, u) Q
theorem hc_misSound3 (h : hc_misSound3_P) : mz_Ct mz_GG mq_PP HX mz_q164 4 := by
  refine hb_ct mz_GG mq_PP HX hb_tkG ?_
  intro d hd ρ vs M z u hgp hsl hpre hm hx hz
  obtain ⟨b0, vs, rfl, hb0, hgp0⟩ := hb_p1 mz_GG hgp
  obtain rfl : b0 = 234 := List.mem_singleton.mp hb0
  obtain ⟨x1, vs, rfl, r1, hgp1⟩ := hb_p0 mz_GG hgp0
  obtain rfl := hb_pn mz_GG hgp1
  have s1 : ρ 1 = x1.toInt := r1
  obtain ⟨f0, g0⟩ := hb_unc hpre
  have f0 : 0 ≤ -3 + (1 * ρ 1 + 0) := f0
  rw [s1] at f0
  obtain ⟨f1, g1⟩ := hb_unc g0
  have f1 : 0 ≤ 3 + ((-1) * ρ 1 + 0) := f1
  rw [s1] at f1
  refine h hd hz hm hx  (by have := f0; omega) (by have := f1; omega) ?_
  · intro M' r k1 k2 k3 k4 k5 l0 l1
    refine ⟨k1, k2, k3, k4, k5, _, List.mem_cons_self .., r.toInt, ?_, ⟨rfl, rfl, rfl⟩⟩
    exact hb_cons (show 0 ≤ 0 + (1 * r.toInt + 0) by omega) (hb_cons (show 0 ≤ 1 + ((-1) * r.toInt + 0) by omega) (hb_nil))

def hc_unpacked3_P : Prop := ∀ {d z u : Nat} {M : Nat → mq_C} {Q : (Option Value ⊕ Nat) → mq_S → Prop} {x1 : Int32} {x2 : Int32}, 7 ≤ d → 272 ≤ z → mz_sh mz_GG M → HX M → 0 ≤ (-3) + x1.toInt → 0 ≤ 3 - x1.toInt → 0 ≤ x2.toInt → 0 ≤ (-1) - x2.toInt + hv M 238 3 → 
    (∀ (M' : Nat → mq_C) (r : Int32), mz_sh mz_GG M' → HX M' → mz_fr mz_q166 M M' → (∀ a, a < 8 → M' a = M a) → hb_same mz_GG mz_q166 M M' → 0 ≤ r.toInt → 0 ≤ 1 - r.toInt → Q (.inl (some (.int r))) (M', z, u)) → mq_R mq_PP d 135 0 [some (.ref 234), some (.int x1), some (.int x2), none, none] [] (M, z, u) Q
theorem hc_unpacked3 (h : hc_unpacked3_P) : mz_Ct mz_GG mq_PP HX mz_q166 7 := by
  refine hb_ct mz_GG mq_PP HX hb_tkG ?_
  intro d hd ρ vs M z u hgp hsl hpre hm hx hz
  obtain ⟨b0, vs, rfl, hb0, hgp0⟩ := hb_p1 mz_GG hgp
  obtain rfl : b0 = 234 := List.mem_singleton.mp hb0
  obtain ⟨x1, vs, rfl, r1, hgp1⟩ := hb_p0 mz_GG hgp0
  obtain ⟨x2, vs, rfl, r2, hgp2⟩ := hb_p0 mz_GG hgp1
  obtain rfl := hb_pn mz_GG hgp2
  have s1 : ρ 1 = x1.toInt := r1
  have s2 : ρ 2 = x2.toInt := r2
  have s61 : ρ 61 = hv M 238 3 := hsl 58 (238, 3) rfl
  obtain ⟨f0, g0⟩ := hb_unc hpre
  have f0 : 0 ≤ -3 + (1 * ρ 1 + 0) := f0
  rw [s1] at f0
  obtain ⟨f1, g1⟩ := hb_unc g0
  have f1 : 0 ≤ 3 + ((-1) * ρ 1 + 0) := f1
  rw [s1] at f1
  obtain ⟨f2, g2⟩ := hb_unc g1
  have f2 : 0 ≤ 0 + (1 * ρ 2 + 0) := f2
  rw [s2] at f2
  obtain ⟨f3, g3⟩ := hb_unc g2
  have f3 : 0 ≤ -1 + ((-1) * ρ 2 + (1 * ρ 61 + 0)) := f3
  rw [s2, s61] at f3
  refine h hd hz hm hx  (by have := f0; omega) (by have := f1; omega) (by have := f2; omega) (by have := f3; omega) ?_
  · intro M' r k1 k2 k3 k4 k5 l0 l1
    refine ⟨k1, k2, k3, k4, k5, _, List.mem_cons_self .., r.toInt, ?_, ⟨rfl, rfl, rfl⟩⟩
    exact hb_cons (show 0 ≤ 0 + (1 * r.toInt + 0) by omega) (hb_cons (show 0 ≤ 1 + ((-1) * r.toInt + 0) by omega) (hb_nil))

def hc_detail3_P : Prop := ∀ {d z u : Nat} {M : Nat → mq_C} {Q : (Option Value ⊕ Nat) → mq_S → Prop} {x1 : Int32} {x2 : Int32} {x3 : Int32}, 1 ≤ d → 272 ≤ z → mz_sh mz_GG M → HX M → 0 ≤ (-3) + x1.toInt → 0 ≤ 3 - x1.toInt → 
    (∀ (M' : Nat → mq_C) (r : Int32), mz_sh mz_GG M' → HX M' → mz_fr mz_q167 M M' → (∀ a, a < 8 → M' a = M a) → hb_same mz_GG mz_q167 M M' → 0 ≤ r.toInt → 0 ≤ 1 - r.toInt → Q (.inl (some (.int r))) (M', z, u)) → mq_R mq_PP d 136 0 [some (.ref 234), some (.int x1), some (.int x2), some (.int x3), none, none] [] (M, z, u) Q
theorem hc_detail3 (h : hc_detail3_P) : mz_Ct mz_GG mq_PP HX mz_q167 1 := by
  refine hb_ct mz_GG mq_PP HX hb_tkG ?_
  intro d hd ρ vs M z u hgp hsl hpre hm hx hz
  obtain ⟨b0, vs, rfl, hb0, hgp0⟩ := hb_p1 mz_GG hgp
  obtain rfl : b0 = 234 := List.mem_singleton.mp hb0
  obtain ⟨x1, vs, rfl, r1, hgp1⟩ := hb_p0 mz_GG hgp0
  obtain ⟨x2, vs, rfl, r2, hgp2⟩ := hb_p0 mz_GG hgp1
  obtain ⟨x3, vs, rfl, r3, hgp3⟩ := hb_p0 mz_GG hgp2
  obtain rfl := hb_pn mz_GG hgp3
  have s1 : ρ 1 = x1.toInt := r1
  obtain ⟨f0, g0⟩ := hb_unc hpre
  have f0 : 0 ≤ -3 + (1 * ρ 1 + 0) := f0
  rw [s1] at f0
  obtain ⟨f1, g1⟩ := hb_unc g0
  have f1 : 0 ≤ 3 + ((-1) * ρ 1 + 0) := f1
  rw [s1] at f1
  refine h hd hz hm hx  (by have := f0; omega) (by have := f1; omega) ?_
  · intro M' r k1 k2 k3 k4 k5 l0 l1
    refine ⟨k1, k2, k3, k4, k5, _, List.mem_cons_self .., r.toInt, ?_, ⟨rfl, rfl, rfl⟩⟩
    exact hb_cons (show 0 ≤ 0 + (1 * r.toInt + 0) by omega) (hb_cons (show 0 ≤ 1 + ((-1) * r.toInt + 0) by omega) (hb_nil))

def hc_isReadable3_P : Prop := ∀ {d z u : Nat} {M : Nat → mq_C} {Q : (Option Value ⊕ Nat) → mq_S → Prop} {x1 : Int32}, 9 ≤ d → 272 ≤ z → mz_sh mz_GG M → HX M → 0 ≤ (-3) + x1.toInt → 0 ≤ 3 - x1.toInt → 
    (∀ (M' : Nat → mq_C) (r : Int32), mz_sh mz_GG M' → HX M' → mz_fr mz_q169 M M' → (∀ a, a < 8 → M' a = M a) → hb_same mz_GG mz_q169 M M' → 0 ≤ r.toInt → 0 ≤ 1 - r.toInt → Q (.inl (some (.int r))) (M', z, u)) → mq_R mq_PP d 138 0 [some (.ref 234), some (.int x1), none] [] (M, z, u) Q
theorem hc_isReadable3 (h : hc_isReadable3_P) : mz_Ct mz_GG mq_PP HX mz_q169 9 := by
  refine hb_ct mz_GG mq_PP HX hb_tkG ?_
  intro d hd ρ vs M z u hgp hsl hpre hm hx hz
  obtain ⟨b0, vs, rfl, hb0, hgp0⟩ := hb_p1 mz_GG hgp
  obtain rfl : b0 = 234 := List.mem_singleton.mp hb0
  obtain ⟨x1, vs, rfl, r1, hgp1⟩ := hb_p0 mz_GG hgp0
  obtain rfl := hb_pn mz_GG hgp1
  have s1 : ρ 1 = x1.toInt := r1
  obtain ⟨f0, g0⟩ := hb_unc hpre
  have f0 : 0 ≤ -3 + (1 * ρ 1 + 0) := f0
  rw [s1] at f0
  obtain ⟨f1, g1⟩ := hb_unc g0
  have f1 : 0 ≤ 3 + ((-1) * ρ 1 + 0) := f1
  rw [s1] at f1
  refine h hd hz hm hx  (by have := f0; omega) (by have := f1; omega) ?_
  · intro M' r k1 k2 k3 k4 k5 l0 l1
    refine ⟨k1, k2, k3, k4, k5, _, List.mem_cons_self .., r.toInt, ?_, ⟨rfl, rfl, rfl⟩⟩
    exact hb_cons (show 0 ≤ 0 + (1 * r.toInt + 0) by omega) (hb_cons (show 0 ≤ 1 + ((-1) * r.toInt + 0) by omega) (hb_nil))

def hc_mfindPath_P : Prop := ∀ {d z u : Nat} {M : Nat → mq_C} {Q : (Option Value ⊕ Nat) → mq_S → Prop} {x1 : Int32}, 10 ≤ d → 272 ≤ z → mz_sh mz_GG M → HX M → 0 ≤ x1.toInt → 0 ≤ 3 - x1.toInt → 
    (∀ (M' : Nat → mq_C), mz_sh mz_GG M' → HX M' → mz_fr mz_q174 M M' → (∀ a, a < 8 → M' a = M a) → hb_same mz_GG mz_q174 M M' → Q (.inl none) (M', z, u)) → mq_R mq_PP d 143 0 [some (.ref 234), some (.int x1), none, none, none, none] [] (M, z, u) Q
theorem hc_mfindPath (h : hc_mfindPath_P) : mz_Ct mz_GG mq_PP HX mz_q174 10 := by
  refine hb_ct mz_GG mq_PP HX hb_tkG ?_
  intro d hd ρ vs M z u hgp hsl hpre hm hx hz
  obtain ⟨b0, vs, rfl, hb0, hgp0⟩ := hb_p1 mz_GG hgp
  obtain rfl : b0 = 234 := List.mem_singleton.mp hb0
  obtain ⟨x1, vs, rfl, r1, hgp1⟩ := hb_p0 mz_GG hgp0
  obtain rfl := hb_pn mz_GG hgp1
  have s1 : ρ 1 = x1.toInt := r1
  obtain ⟨f0, g0⟩ := hb_unc hpre
  have f0 : 0 ≤ 0 + (1 * ρ 1 + 0) := f0
  rw [s1] at f0
  obtain ⟨f1, g1⟩ := hb_unc g0
  have f1 : 0 ≤ 3 + ((-1) * ρ 1 + 0) := f1
  rw [s1] at f1
  refine h hd hz hm hx  (by have := f0; omega) (by have := f1; omega) ?_
  · intro M' k1 k2 k3 k4 k5 
    refine ⟨k1, k2, k3, k4, k5, _, List.mem_cons_self .., 0, ?_, ⟨rfl, rfl⟩⟩
    exact hb_nil

def hc_mloads_P : Prop := ∀ {d z u : Nat} {M : Nat → mq_C} {Q : (Option Value ⊕ Nat) → mq_S → Prop} {x1 : Int32} {x2 : Int32}, 14 ≤ d → 272 ≤ z → mz_sh mz_GG M → HX M → 0 ≤ x1.toInt → 0 ≤ (-1) - x1.toInt + hv M 234 30 → 0 ≤ x2.toInt → 0 ≤ 31 - x2.toInt → 0 ≤ 0 - hv M 234 30 - 4 * hv M 257 0 → 
    (∀ (M' : Nat → mq_C), mz_sh mz_GG M' → HX M' → mz_fr mz_q178 M M' → (∀ a, a < 8 → M' a = M a) → hb_same mz_GG mz_q178 M M' → hv M' 234 51 = 0 → 0 ≤ hv M' 234 50 → Q (.inl none) (M', z, u)) → 
    (∀ (M' : Nat → mq_C), mz_sh mz_GG M' → HX M' → mz_fr mz_q178 M M' → (∀ a, a < 8 → M' a = M a) → hb_same mz_GG mz_q178 M M' → 0 ≤ (-1) + hv M' 234 51 → Q (.inl none) (M', z, u)) → mq_R mq_PP d 150 0 [some (.ref 234), some (.int x1), some (.int x2), none] [] (M, z, u) Q
theorem hc_mloads (h : hc_mloads_P) : mz_Ct mz_GG mq_PP HX mz_q178 14 := by
  refine hb_ct mz_GG mq_PP HX hb_tkG ?_
  intro d hd ρ vs M z u hgp hsl hpre hm hx hz
  obtain ⟨b0, vs, rfl, hb0, hgp0⟩ := hb_p1 mz_GG hgp
  obtain rfl : b0 = 234 := List.mem_singleton.mp hb0
  obtain ⟨x1, vs, rfl, r1, hgp1⟩ := hb_p0 mz_GG hgp0
  obtain ⟨x2, vs, rfl, r2, hgp2⟩ := hb_p0 mz_GG hgp1
  obtain rfl := hb_pn mz_GG hgp2
  have s1 : ρ 1 = x1.toInt := r1
  have s2 : ρ 2 = x2.toInt := r2
  have s27 : ρ 27 = hv M 234 30 := hsl 24 (234, 30) rfl
  have s36 : ρ 36 = hv M 257 0 := hsl 33 (257, 0) rfl
  obtain ⟨f0, g0⟩ := hb_unc hpre
  have f0 : 0 ≤ 0 + (1 * ρ 1 + 0) := f0
  rw [s1] at f0
  obtain ⟨f1, g1⟩ := hb_unc g0
  have f1 : 0 ≤ -1 + ((-1) * ρ 1 + (1 * ρ 27 + 0)) := f1
  rw [s1, s27] at f1
  obtain ⟨f2, g2⟩ := hb_unc g1
  have f2 : 0 ≤ 0 + (1 * ρ 2 + 0) := f2
  rw [s2] at f2
  obtain ⟨f3, g3⟩ := hb_unc g2
  have f3 : 0 ≤ 31 + ((-1) * ρ 2 + 0) := f3
  rw [s2] at f3
  obtain ⟨f4, g4⟩ := hb_unc g3
  have f4 : 0 ≤ 0 + ((-1) * ρ 27 + ((-4) * ρ 36 + 0)) := f4
  rw [s27, s36] at f4
  refine h hd hz hm hx  (by have := f0; omega) (by have := f1; omega) (by have := f2; omega) (by have := f3; omega) (by have := f4; omega) ?_ ?_
  · intro M' k1 k2 k3 k4 k5 l0 l1
    refine ⟨k1, k2, k3, k4, k5, _, List.mem_cons_self .., 0, ?_, ⟨rfl, rfl⟩⟩
    exact hb_cons (show 0 ≤ 0 + (1 * hv M' 234 51 + 0) by omega) (hb_cons (show 0 ≤ 0 + ((-1) * hv M' 234 51 + 0) by omega) (hb_cons (show 0 ≤ 0 + (1 * hv M' 234 50 + 0) by omega) (hb_nil)))
  · intro M' k1 k2 k3 k4 k5 l0
    refine ⟨k1, k2, k3, k4, k5, _, List.mem_cons_of_mem _ (List.mem_cons_self ..), 0, ?_, ⟨rfl, rfl⟩⟩
    exact hb_cons (show 0 ≤ -1 + (1 * hv M' 234 51 + 0) by omega) (hb_nil)

def hc_derives_P : Prop := ∀ {d z u : Nat} {M : Nat → mq_C} {Q : (Option Value ⊕ Nat) → mq_S → Prop} {x1 : Int32} {x2 : Int32}, 1 ≤ d → 272 ≤ z → mz_sh mz_GG M → HX M → 0 ≤ x1.toInt → 0 ≤ 127 - x1.toInt → 
    (∀ (M' : Nat → mq_C) (r : Int32), mz_sh mz_GG M' → HX M' → mz_fr mz_q192 M M' → (∀ a, a < 8 → M' a = M a) → hb_same mz_GG mz_q192 M M' → 0 ≤ r.toInt → 0 ≤ 1 - r.toInt → Q (.inl (some (.int r))) (M', z, u)) → mq_R mq_PP d 168 0 [some (.ref 234), some (.int x1), some (.int x2), none, none, none, none, none, none] [] (M, z, u) Q
theorem hc_derives (h : hc_derives_P) : mz_Ct mz_GG mq_PP HX mz_q192 1 := by
  refine hb_ct mz_GG mq_PP HX hb_tkG ?_
  intro d hd ρ vs M z u hgp hsl hpre hm hx hz
  obtain ⟨b0, vs, rfl, hb0, hgp0⟩ := hb_p1 mz_GG hgp
  obtain rfl : b0 = 234 := List.mem_singleton.mp hb0
  obtain ⟨x1, vs, rfl, r1, hgp1⟩ := hb_p0 mz_GG hgp0
  obtain ⟨x2, vs, rfl, r2, hgp2⟩ := hb_p0 mz_GG hgp1
  obtain rfl := hb_pn mz_GG hgp2
  have s1 : ρ 1 = x1.toInt := r1
  obtain ⟨f0, g0⟩ := hb_unc hpre
  have f0 : 0 ≤ 0 + (1 * ρ 1 + 0) := f0
  rw [s1] at f0
  obtain ⟨f1, g1⟩ := hb_unc g0
  have f1 : 0 ≤ 127 + ((-1) * ρ 1 + 0) := f1
  rw [s1] at f1
  refine h hd hz hm hx  (by have := f0; omega) (by have := f1; omega) ?_
  · intro M' r k1 k2 k3 k4 k5 l0 l1
    refine ⟨k1, k2, k3, k4, k5, _, List.mem_cons_self .., r.toInt, ?_, ⟨rfl, rfl, rfl⟩⟩
    exact hb_cons (show 0 ≤ 0 + (1 * r.toInt + 0) by omega) (hb_cons (show 0 ≤ 1 + ((-1) * r.toInt + 0) by omega) (hb_nil))

def hc_loadClass_P : Prop := ∀ {d z u : Nat} {M : Nat → mq_C} {Q : (Option Value ⊕ Nat) → mq_S → Prop} {x1 : Int32} {x2 : Int32} {x3 : Int32}, 160 ≤ d → 272 ≤ z → mz_sh mz_GG M → HX M → 0 ≤ x1.toInt → 0 ≤ (-1) - x1.toInt + hv M 8 4 → 0 ≤ x2.toInt → 0 ≤ 31 - x2.toInt → 0 ≤ x3.toInt → 0 ≤ 0 - x3.toInt → 
    (∀ (M' : Nat → mq_C) (r : Int32), mz_sh mz_GG M' → HX M' → mz_fr mz_q194 M M' → (∀ a, a < 8 → M' a = M a) → hb_same mz_GG mz_q194 M M' → 0 ≤ 1 + r.toInt → 0 ≤ 127 - r.toInt → Q (.inl (some (.int r))) (M', z, u)) → mq_R mq_PP d 37 0 [some (.ref 8), some (.int x1), some (.int x2), some (.int x3), none, none] [] (M, z, u) Q
theorem hc_loadClass (h : hc_loadClass_P) : mz_Ct mz_GG mq_PP HX mz_q194 160 := by
  refine hb_ct mz_GG mq_PP HX hb_tkG ?_
  intro d hd ρ vs M z u hgp hsl hpre hm hx hz
  obtain ⟨b0, vs, rfl, hb0, hgp0⟩ := hb_p1 mz_GG hgp
  obtain rfl : b0 = 8 := List.mem_singleton.mp hb0
  obtain ⟨x1, vs, rfl, r1, hgp1⟩ := hb_p0 mz_GG hgp0
  obtain ⟨x2, vs, rfl, r2, hgp2⟩ := hb_p0 mz_GG hgp1
  obtain ⟨x3, vs, rfl, r3, hgp3⟩ := hb_p0 mz_GG hgp2
  obtain rfl := hb_pn mz_GG hgp3
  have s1 : ρ 1 = x1.toInt := r1
  have s2 : ρ 2 = x2.toInt := r2
  have s3 : ρ 3 = x3.toInt := r3
  have s4 : ρ 4 = hv M 8 4 := hsl 0 (8, 4) rfl
  obtain ⟨f0, g0⟩ := hb_unc hpre
  have f0 : 0 ≤ 0 + (1 * ρ 1 + 0) := f0
  rw [s1] at f0
  obtain ⟨f1, g1⟩ := hb_unc g0
  have f1 : 0 ≤ -1 + ((-1) * ρ 1 + (1 * ρ 4 + 0)) := f1
  rw [s1, s4] at f1
  obtain ⟨f2, g2⟩ := hb_unc g1
  have f2 : 0 ≤ 0 + (1 * ρ 2 + 0) := f2
  rw [s2] at f2
  obtain ⟨f3, g3⟩ := hb_unc g2
  have f3 : 0 ≤ 31 + ((-1) * ρ 2 + 0) := f3
  rw [s2] at f3
  obtain ⟨f4, g4⟩ := hb_unc g3
  have f4 : 0 ≤ 0 + (1 * ρ 3 + 0) := f4
  rw [s3] at f4
  obtain ⟨f5, g5⟩ := hb_unc g4
  have f5 : 0 ≤ 0 + ((-1) * ρ 3 + 0) := f5
  rw [s3] at f5
  refine h hd hz hm hx  (by have := f0; omega) (by have := f1; omega) (by have := f2; omega) (by have := f3; omega) (by have := f4; omega) (by have := f5; omega) ?_
  · intro M' r k1 k2 k3 k4 k5 l0 l1
    refine ⟨k1, k2, k3, k4, k5, _, List.mem_cons_self .., r.toInt, ?_, ⟨rfl, rfl, rfl⟩⟩
    exact hb_cons (show 0 ≤ 1 + (1 * r.toInt + 0) by omega) (hb_cons (show 0 ≤ 127 + ((-1) * r.toInt + 0) by omega) (hb_nil))

