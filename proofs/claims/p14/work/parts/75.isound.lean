/-! isSound of an archive. -/
def hi_q_anumber2 : mz_Q := (56, [(1, 1000), (0, 0), (0, 0)], [(0, [(1, 1)]), (238, [(1, -1)]), (-2, [(2, 1)]), (2, [(2, -1)])], [], [(0, 0, [(0, [(64, 1)]), (65535, [(64, -1)])])], [])
def hi_y_anumber2 : mz_Ck := (50, [], [], [(1, 0, []), (0, 0, [(2, 1)]), (0, 0, []), (1001, 0, []), (0, 0, []), (0, 0, [(1, 1)]), (0, 0, [(2, 1)]), (0, 0, [(1, 1)]), (0, 0, [(2, 1)]), (0, 0, []), (0, 0, [(0, 1)]), (0, 0, [(1, 1)]), (1, 8, []), (0, 0, [(0, 1)]), (0, 0, [(1, 1)]), (0, 0, []), (0, 0, []), (0, 0, [(0, 1)]), (0, 0, [(1, 1)]), (1, 0, []), (0, 0, [(5, 1)]), (0, 0, []), (1001, 0, []), (0, 0, []), (0, 0, [(4, 1)]), (0, 0, [(5, 1)]), (0, 0, [(4, 1)]), (0, 0, [(5, 1)]), (0, 0, []), (0, 0, [(0, 256)]), (0, 0, [(1, 256)]), (2, 8, []), (0, 0, [(3, 1)]), (0, 0, [(4, 1)]), (0, 0, [(0, 256)]), (0, 0, []), (0, 0, [(0, 256), (3, 1)]), (0, 0, [(1, 256), (4, 1)]), (0, 0, []), (1, 0, []), (0, 0, [(9, 1)]), (0, 0, []), (0, 0, [(1, 256), (4, 1)]), (0, 0, [(2, 256), (5, 1)])], [])
set_option maxRecDepth 100000 in
theorem hi_c_anumber2 : mz_chk mz_GG mq_PP mz_Cs hi_q_anumber2 1 hi_y_anumber2 = true := by decide +kernel
def hi_q_isApart : mz_Q := (55, [(1, 1000), (0, 0)], [(0, [(1, 1)]), (5, [(1, -1)])], [], [(0, 0, [(0, [(63, 1)]), (1, [(63, -1)])])], [])
def hi_y_isApart : mz_Ck := (124, [(21, [(1, 1000), (0, 0), (0, 0), (0, 0), (0, 0), (3, 0), (3, 0)], [(0, [(64, 1)]), (0, [(1, 1), (64, -1)]), (1, [(67, 1)]), (0, [(67, 1)]), (0, [(1, 1)]), (5, [(1, -1)])], (16999480557568, [(64, 1), (67, -1)]))], [], [(1010, 0, []), (0, 0, [(0, 1)]), (0, 0, [(1, 1)]), (0, 0, []), (0, 0, [(0, 1)]), (0, 0, [(1, 1)]), (1009, 0, []), (0, 0, [(2, 1)]), (0, 0, [(3, 1)]), (0, 0, []), (0, 0, [(0, 1), (2, 1)]), (0, 0, [(1, 1), (3, 1)]), (0, 0, []), (0, 0, [(4, 1)]), (0, 0, []), (0, 0, []), (0, 0, []), (0, 0, [(4, 1)]), (0, 0, [(5, 1)]), (0, 0, [(4, 1)])], [[(0, 0, []), (0, 0, []), (0, 0, []), (0, 0, []), (0, 0, []), (0, 0, []), (0, 0, []), (1010, 0, []), (0, 0, [(4, 1)]), (0, 0, [(0, 1), (2, 1), (6, 1)]), (0, 0, []), (0, 0, []), (1010, 0, []), (0, 0, [(7, 1)]), (0, 0, [(3, 1), (5, 1), (9, 1)]), (0, 0, []), (0, 0, [(0, 1)]), (0, 0, [(1, 1)]), (1009, 0, []), (0, 0, [(9, 1)]), (0, 0, [(5, 1), (7, 1), (11, 1)]), (0, 0, []), (0, 0, [(0, 1), (2, 1)]), (0, 0, [(1, 1), (3, 1)]), (0, 0, []), (0, 0, []), (1005, 0, []), (0, 0, [(12, 1)]), (0, 0, [(8, 1), (10, 1), (14, 1)]), (1005, 0, []), (0, 0, [(11, 1)]), (0, 0, [(12, 1), (16, 1)]), (0, 0, []), (0, 0, []), (0, 0, []), (0, 0, []), (0, 0, []), (0, 0, []), (0, 0, []), (1, 0, []), (0, 0, []), (0, 0, []), (0, 0, []), (1, 0, []), (0, 0, []), (0, 0, []), (0, 0, []), (0, 0, []), (0, 0, []), (0, 0, []), (0, 0, []), (0, 0, []), (1005, 0, []), (0, 0, [(12, 1)]), (0, 0, [(8, 1), (10, 1), (14, 1)]), (1005, 0, []), (0, 0, [(11, 1)]), (0, 0, [(12, 1), (16, 1)]), (0, 0, []), (0, 0, []), (0, 0, []), (0, 0, []), (0, 0, []), (0, 0, []), (0, 0, []), (1, 0, []), (0, 0, []), (0, 0, []), (0, 0, []), (3, 0, []), (0, 0, []), (1, 1, []), (0, 0, []), (0, 0, []), (0, 0, [(18, 1)]), (0, 0, [(15, 1), (17, 1), (21, 1)]), (0, 0, []), (0, 0, [(16, 1)]), (0, 0, [(17, 1)]), (0, 0, [(18, 1)]), (0, 0, [(18, 1)]), (0, 0, [(20, 1)]), (0, 0, [(21, 1)]), (0, 0, [(15, 1)]), (0, 0, []), (1010, 0, []), (0, 0, [(7, 1)]), (0, 0, [(3, 1), (5, 1), (9, 1)]), (0, 0, []), (0, 0, [(0, 1)]), (0, 0, [(1, 1)]), (1009, 0, []), (0, 0, [(9, 1)]), (0, 0, [(5, 1), (7, 1), (11, 1)]), (0, 0, []), (0, 0, [(0, 1), (2, 1)]), (0, 0, [(1, 1), (3, 1)]), (0, 0, []), (0, 0, []), (1005, 0, []), (0, 0, [(12, 1)]), (0, 0, [(8, 1), (10, 1), (14, 1)]), (1005, 0, []), (0, 0, [(11, 1)]), (0, 0, [(12, 1), (16, 1)]), (0, 0, []), (0, 0, []), (0, 0, []), (0, 0, []), (0, 0, []), (0, 0, []), (0, 0, []), (3, 0, []), (0, 0, []), (1, 1, []), (0, 0, []), (0, 0, []), (0, 0, [(16, 1)]), (0, 0, [(13, 1), (15, 1), (19, 1)]), (0, 0, []), (0, 0, [(14, 1)]), (0, 0, [(15, 1)]), (0, 0, [(16, 1)]), (0, 0, [(16, 1)]), (0, 0, [(18, 1)]), (0, 0, [(19, 1)]), (0, 0, [(13, 1)]), (0, 0, []), (1005, 0, []), (0, 0, [(12, 1)]), (0, 0, [(8, 1), (10, 1), (14, 1)]), (1005, 0, []), (0, 0, [(11, 1)]), (0, 0, [(12, 1), (16, 1)]), (0, 0, []), (0, 0, []), (0, 0, []), (0, 0, []), (0, 0, []), (0, 0, []), (0, 0, []), (3, 0, []), (0, 0, []), (1, 1, []), (0, 0, []), (0, 0, []), (0, 0, [(16, 1)]), (0, 0, [(13, 1), (15, 1), (19, 1)]), (0, 0, []), (0, 0, [(14, 1)]), (0, 0, [(15, 1)]), (0, 0, [(16, 1)]), (0, 0, [(16, 1)]), (0, 0, [(18, 1)]), (0, 0, [(19, 1)]), (0, 0, [(13, 1)]), (0, 0, [])]])
set_option maxRecDepth 100000 in
theorem hi_c_isApart : mz_chk mz_GG mq_PP mz_Cs hi_q_isApart 1 hi_y_isApart = true := by decide +kernel
def hi_Cs : List (mz_Q × Nat) := [(hi_q_anumber2, 1), (mz_q85, 1), (hi_q_isApart, 1), (mz_q68, 1)]
theorem hb_leaf {X : (Nat → mq_C) → Prop} (hX : ∀ M M' : Nat → mq_C, mz_same mz_GG M M' → X M → X M') {q : mz_Q} {y : mz_Ck} (h : mz_chk mz_GG mq_PP mz_Cs q 1 y = true) : mz_Ct mz_GG mq_PP X q 1 := mz_chk_ok mz_GG mq_PP X hX hb_okG.1 hb_okG.2.1 hb_okG.2.2.1 hb_okG.2.2.2.1 hb_okG.2.2.2.2 hb_C1 h
theorem hi_C {X : (Nat → mq_C) → Prop} (hX : ∀ M M' : Nat → mq_C, mz_same mz_GG M M' → X M → X M') : ∀ c ∈ hi_Cs, c.2 < 2 → mz_Ct mz_GG mq_PP X c.1 c.2 := by
  intro c hc _
  simp only [hi_Cs, List.mem_cons, List.not_mem_nil, or_false] at hc
  rcases hc with rfl | rfl | rfl | rfl
  · exact hb_leaf hX hi_c_anumber2
  · exact hb_leaf hX mz_c85
  · exact hb_leaf hX hi_c_isApart
  · exact hb_leaf hX mz_c68
/-- while no entries are told -/
def hi_X (a : Nat) (M : Nat → mq_C) : Prop := HX M ∧ hv M a 4 = 0
theorem hi_Xs {a : Nat} (ha : mz_frzl.elem (a, 4) = true) : ∀ M M' : Nat → mq_C, mz_same mz_GG M M' → hi_X a M → hi_X a M' := by
  intro M M' h hx
  refine ⟨HX_same M M' h hx.1, ?_⟩
  have h1 := h.2 (a, 4) (List.elem_iff.mp ha)
  show hb_w mz_GG ((M' a).2[4]?) = 0
  rw [h1]
  exact hx.2
def hi_R (M0 M : Nat → mq_C) : Prop := mz_fr mz_q94 M0 M ∧ (∀ a, a < 8 → M a = M0 a) ∧ hb_same mz_GG mz_q94 M0 M
theorem hi_Rt {M0 M M' : Nat → mq_C} (h : hi_R M0 M) (h' : hi_R M M') : hi_R M0 M' := ⟨hb_fr_t (q' := mz_q94) (fun a ha => ha) h.1 h'.1, fun a ha => (h'.2.1 a ha).trans (h.2.1 a ha), hb_same_t (q' := mz_q94) (fun j hj => hj) h.2.2 h'.2.2⟩
theorem hi_Ro {W : List Nat} {M M' : Nat → mq_C} (h : hb_only W M M') (hW : ∀ a ∈ W, a ∈ mz_q94.2.2.2.2.2) : hi_R M M' := by
  have h1 : ∀ a ∈ mz_q94.2.2.2.2.2, 8 ≤ a := by decide
  have h2 : ∀ t ∈ mz_GG.2.2.1, mz_q94.2.2.2.2.2.elem t.1 = false := by decide +kernel
  exact ⟨hb_only_fr h hW, hb_low h (fun a ha => h1 a (hW a ha)), hb_only_same (hb_only_w hW h) h2⟩
theorem hi_Rb {q' : mz_Q} {M M' : Nat → mq_C} (hW : ∀ a ∈ q'.2.2.2.2.2, a ∈ mz_q94.2.2.2.2.2) (hm : q'.2.2.2.1 = []) (h1 : mz_fr q' M M') (h2 : ∀ a, a < 8 → M' a = M a) (h3 : hb_same mz_GG q' M M') : hi_R M M' := ⟨hb_fr_t (hb_wsub hW) hb_fr_r h1, h2, hb_same_t (fun j _ => by rw [hm]; rfl) hb_same_r h3⟩
theorem hi_sp47 (k : Nat) (hk : k ≠ 5) (b i : Nat) (hb : b = 56 ∨ b = 57 ∨ b = 47 ∧ i = 4) : hsp k b i = false := by
  match k with
  | 0 | 1 | 2 | 3 | 4 | 5 | 6 | 7 | 8 | 9 | 10 | 11 | 12 | 13 | 14 | 15 | 16 | 17 | 18 | 19 | 20 | 21 | 22 | 23 | 24 | 25 | 26 | 27 | 28 | 29 => first | exact absurd rfl hk | (exact decide_eq_false (by omega))
  | n + 30 => rfl
theorem hi_xs47 {M : Nat → mq_C} {b i : Nat} {v : Int32} (hx : hi_X 47 M) (hb : b = 56 ∨ b = 57) : hi_X 47 (hb_set M b i v) := by
  have h4 : hv (hb_set M b i v) 47 4 = 0 := by rw [show hv (hb_set M b i v) 47 4 = hv M 47 4 from hb_set_n (.inl (by omega))]; exact hx.2
  refine ⟨fun k => ?_, h4⟩
  by_cases e : k = 5
  · subst e
    intro j h1 h2
    have h2 : (j : Int) < hv (hb_set M b i v) 47 4 := h2
    omega
  · exact hxk_s (hi_sp47 k e b i (by omega)) (hx.1 k)
def hi_a47_q : mz_Q := (53, [(1, 47), (0, 0), (0, 0), (0, 0), (3, 0), (3, 0), (3, 0), (3, 0)], [(0, [(1, 1)]), (5, [(1, -1)]), (0, [(2, 1)]), (236, [(3, -1)])], [], [(0, 0, [(1, [(69, 1)]), (-1, [(69, -1)])])], [52, 53, 54, 55])
def hi_a47_s : List mz_Sp2 := [(125, [(1, 47), (0, 0), (0, 0), (0, 0), (0, 0), (0, 0), (0, 0), (3, 0)], [(0, 0), (0, 0), (1, 56)], [(0, [(1, -1), (70, 1)]), (0, [(1, 1), (70, -1)]), (0, [(2, -1), (71, 1)]), (0, [(2, 1), (71, -1)]), (0, [(3, -1), (72, 1)]), (0, [(3, 1), (72, -1)]), (-12, [(2, -1), (73, -1), (74, 1)]), (12, [(2, 1), (73, 1), (74, -1)]), (-1, [(2, -1), (73, -1), (75, 1)]), (1, [(2, 1), (73, 1), (75, -1)]), (0, [(1, -1), (78, 1)]), (0, [(1, 1), (78, -1)]), (-1, [(2, -1), (3, 1)]), (255, [(73, -1)]), (0, [(73, 1)]), (-1, [(73, 1)]), (4, [(73, -1)]), (-12, [(2, -1), (3, 1), (73, -1)]), (0, [(77, 1)]), (65535, [(77, -1)])])]
def hi_a47_h : List mz_H := [(0, 0, []), (0, 0, []), (48, 0, []), (0, 0, [(3, 1)]), (0, 0, [(0, 1), (4, 1)]), (0, 0, []), (0, 0, [(5, 1)]), (0, 0, [(2, 1), (6, 1)]), (0, 0, []), (0, 0, [(0, 1), (5, 1)]), (0, 0, [(1, 1), (2, 1), (6, 1)]), (0, 0, []), (0, 0, []), (0, 0, []), (0, 0, []), (0, 0, []), (0, 0, []), (0, 0, []), (0, 0, []), (0, 0, []), (0, 0, []), (0, 0, []), (0, 0, []), (0, 0, []), (0, 0, [(8, 1)]), (0, 0, [(0, 1), (2, 1), (9, 1)]), (0, 0, []), (0, 0, [(2, 1), (8, 1)]), (0, 0, [(0, 1), (9, 1)]), (52, 0, []), (0, 0, []), (0, 0, [(8, 1)]), (0, 0, [(0, 1), (2, 1), (9, 1)]), (1, 0, []), (0, 0, [(8, 1)]), (0, 0, [(2, 1)]), (0, 0, [(0, 1), (9, 1)]), (0, 0, [(2, 1)]), (0, 0, [(1, 1)]), (0, 0, []), (0, 0, [(8, 1)]), (0, 0, [(9, 1)]), (0, 0, [(0, 1)]), (0, 0, [(1, 1)]), (53, 0, []), (48, 0, []), (0, 0, [(4, 1), (10, 1)]), (0, 0, [(2, 1), (11, 1)]), (0, 0, [(10, 1)]), (0, 0, [(11, 1)]), (0, 0, [(0, 1)]), (0, 0, [(1, 1)]), (54, 0, []), (0, 0, []), (0, 0, [(6, 1), (12, 1)]), (0, 0, [(4, 1), (13, 1)]), (1, 0, []), (0, 0, [(6, 1), (12, 1)]), (0, 0, []), (0, 0, [(4, 1), (13, 1)]), (0, 0, []), (0, 0, []), (0, 0, []), (0, 0, [(12, 1)]), (0, 0, [(13, 1)]), (0, 0, [(0, 1)]), (0, 0, [(1, 1)]), (55, 0, []), (0, 0, []), (0, 0, [(8, 1), (14, 1)]), (0, 0, [(6, 1), (15, 1)]), (0, 0, []), (0, 0, [(8, 1), (14, 1)]), (0, 0, [(6, 1), (15, 1)]), (0, 0, []), (0, 0, []), (0, 0, []), (0, 0, [(16, 1)]), (0, 0, [(17, 1)]), (0, 0, [(1, 1)]), (0, 0, [(0, 1)]), (56, 0, []), (0, 0, []), (0, 0, [(12, 1), (18, 1)]), (0, 0, [(10, 1), (19, 1)]), (0, 0, []), (0, 0, [(12, 1), (18, 1)]), (0, 0, [(10, 1), (19, 1)]), (0, 0, []), (0, 0, []), (0, 0, []), (0, 0, []), (0, 0, []), (0, 0, []), (0, 0, []), (0, 0, []), (0, 0, []), (0, 0, []), (0, 0, []), (0, 0, []), (0, 0, []), (0, 0, []), (0, 0, []), (0, 0, []), (0, 0, [(19, 1)]), (0, 0, [(15, 1)]), (0, 0, [(16, 1)]), (0, 0, [(16, 1)]), (0, 0, [(15, 1)]), (0, 0, [(14, 1)]), (0, 0, [(1, 1)]), (0, 0, [(0, 1)]), (0, 0, []), (0, 0, []), (0, 0, []), (0, 0, []), (0, 0, []), (0, 0, [])]
set_option maxRecDepth 100000 in
theorem hi_a47_c : mz_blk mz_GG mq_PP hi_Cs hi_a47_q 8 2 0 hi_a47_s [] 90 hi_a47_h = true := by decide +kernel
theorem hi_a47 {X : (Nat → mq_C) → Prop} (hX : ∀ M M' : Nat → mq_C, mz_same mz_GG M M' → X M → X M') (hC : ∀ c ∈ hi_Cs, c.2 < 2 → mz_Ct mz_GG mq_PP X c.1 c.2) {d z u : Nat} {M : Nat → mq_C} {Q : (Option Value ⊕ Nat) → mq_S → Prop} {x1 : Int32} {x2 : Int32} {x3 : Int32} {o4 : Option Value} {o5 : Option Value} {o6 : Option Value} {o7 : Option Value} (hd : 2 ≤ d) (hz : 272 ≤ z) (hm : mz_sh mz_GG M) (hx : X M) (h0 : mq_nl o4 = true) (h1 : mq_nl o5 = true) (h2 : mq_nl o6 = true) (h3 : mq_nl o7 = true) (p0 : 0 ≤ x1.toInt) (p1 : 0 ≤ 5 - x1.toInt) (p2 : 0 ≤ x2.toInt) (p3 : 0 ≤ 236 - x3.toInt)
    (k0 : ∀ (M' : Nat → mq_C) (y4 : Int32) (y5 : Int32) (y6 : Int32) (w7 : Option Value) (y8 : Int32), mz_sh mz_GG M' → X M' → mz_fr hi_a47_q M M' → (∀ a, a < 8 → M' a = M a) → hb_same mz_GG hi_a47_q M M' → mq_nl w7 = true → y5.toInt = 12 + x2.toInt + y4.toInt → y6.toInt = 1 + x2.toInt + y4.toInt → 0 ≤ (-1) - x2.toInt + x3.toInt → 0 ≤ 255 - y4.toInt → 0 ≤ y4.toInt → 0 ≤ (-1) + y4.toInt → 0 ≤ 4 - y4.toInt → 0 ≤ (-12) - x2.toInt + x3.toInt - y4.toInt → 0 ≤ y8.toInt → 0 ≤ 65535 - y8.toInt → mq_R mq_PP d 53 125 [some (.ref 47), some (.int x1), some (.int x2), some (.int x3), some (.int y4), some (.int y5), some (.int y6), w7] [.int y8, .int x1, .ref 56] (M', z, u) Q)
    (w0 : ∀ (M' : Nat → mq_C) (r : Int32), mz_sh mz_GG M' → X M' → mz_fr hi_a47_q M M' → (∀ a, a < 8 → M' a = M a) → hb_same mz_GG hi_a47_q M M' → 0 ≤ 1 + r.toInt → 0 ≤ (-1) - r.toInt → Q (.inl (some (.int r))) (M', z, u)) : mq_R mq_PP d 53 0 [some (.ref 47), some (.int x1), some (.int x2), some (.int x3), o4, o5, o6, o7] [] (M, z, u) Q := by
  refine hb_blk mz_GG mq_PP X (q := hi_a47_q) (nl := 8) (M := M) hb_okG hX hC hi_a47_c hz hd (L := [some (.ref 47), some (.int x1), some (.int x2), some (.int x3), o4, o5, o6, o7]) (st := []) (show hb_lk mz_GG ([(1, 47), (0, 0), (0, 0), (0, 0), (3, 0), (3, 0), (3, 0), (3, 0)]) _ from ⟨⟨List.mem_singleton.mpr rfl, rfl⟩, trivial, trivial, trivial, h0, h1, h2, h3, trivial⟩) (show hb_pk mz_GG ([]) _ from trivial) hm hx ?_ ?_ ?_
  · exact hb_cons (show 0 ≤ mz_ev _ _ from (show 0 ≤ 0 + (1 * x1.toInt + 0) by omega)) (hb_cons (show 0 ≤ mz_ev _ _ from (show 0 ≤ 5 + ((-1) * x1.toInt + 0) by omega)) (hb_cons (show 0 ≤ mz_ev _ _ from (show 0 ≤ 0 + (1 * x2.toInt + 0) by omega)) (hb_cons (show 0 ≤ mz_ev _ _ from (show 0 ≤ 236 + ((-1) * x3.toInt + 0) by omega)) (hb_nil))))
  · intro s hs
    rcases List.mem_cons.mp hs with rfl | hs
    · intro ρ1 L' st' M' g1 g2 gm gr gf gs gx gw g8 ge
      obtain ⟨e0, L1, rfl, n0, gg0⟩ := hb_l1 mz_GG g1
      obtain rfl : e0 = 47 := List.mem_singleton.mp n0
      obtain ⟨y1, L1, rfl, qr70, gg1⟩ := hb_l0 mz_GG gg0
      have r70 : ρ1 70 = y1.toInt := qr70
      obtain ⟨y2, L1, rfl, qr71, gg2⟩ := hb_l0 mz_GG gg1
      have r71 : ρ1 71 = y2.toInt := qr71
      obtain ⟨y3, L1, rfl, qr72, gg3⟩ := hb_l0 mz_GG gg2
      have r72 : ρ1 72 = y3.toInt := qr72
      obtain ⟨y4, L1, rfl, qr73, gg4⟩ := hb_l0 mz_GG gg3
      have r73 : ρ1 73 = y4.toInt := qr73
      obtain ⟨y5, L1, rfl, qr74, gg5⟩ := hb_l0 mz_GG gg4
      have r74 : ρ1 74 = y5.toInt := qr74
      obtain ⟨y6, L1, rfl, qr75, gg6⟩ := hb_l0 mz_GG gg5
      have r75 : ρ1 75 = y6.toInt := qr75
      obtain ⟨w7, L1, rfl, n7, gg7⟩ := hb_l3 mz_GG gg6
      obtain ⟨y8, s1, rfl, qr77, gg8⟩ := hb_p0 mz_GG g2
      have r77 : ρ1 77 = y8.toInt := qr77
      obtain ⟨y9, s1, rfl, qr78, gg9⟩ := hb_p0 mz_GG gg8
      have r78 : ρ1 78 = y9.toInt := qr78
      obtain ⟨e10, s1, rfl, n10, gg10⟩ := hb_p1 mz_GG gg9
      obtain rfl : e10 = 56 := List.mem_singleton.mp n10
      obtain rfl := hb_ln mz_GG gg7
      obtain rfl := hb_pn mz_GG gg10
      have r1 : ρ1 1 = x1.toInt := gr 1 (by decide +kernel)
      have r2 : ρ1 2 = x2.toInt := gr 2 (by decide +kernel)
      have r3 : ρ1 3 = x3.toInt := gr 3 (by decide +kernel)
      obtain ⟨f0, gf⟩ := hb_unc gf
      have f0 : 0 ≤ 0 + ((-1) * ρ1 1 + (1 * ρ1 70 + 0)) := f0
      rw [r1, r70] at f0
      obtain ⟨f1, gf⟩ := hb_unc gf
      have f1 : 0 ≤ 0 + (1 * ρ1 1 + ((-1) * ρ1 70 + 0)) := f1
      rw [r1, r70] at f1
      obtain ⟨f2, gf⟩ := hb_unc gf
      have f2 : 0 ≤ 0 + ((-1) * ρ1 2 + (1 * ρ1 71 + 0)) := f2
      rw [r2, r71] at f2
      obtain ⟨f3, gf⟩ := hb_unc gf
      have f3 : 0 ≤ 0 + (1 * ρ1 2 + ((-1) * ρ1 71 + 0)) := f3
      rw [r2, r71] at f3
      obtain ⟨f4, gf⟩ := hb_unc gf
      have f4 : 0 ≤ 0 + ((-1) * ρ1 3 + (1 * ρ1 72 + 0)) := f4
      rw [r3, r72] at f4
      obtain ⟨f5, gf⟩ := hb_unc gf
      have f5 : 0 ≤ 0 + (1 * ρ1 3 + ((-1) * ρ1 72 + 0)) := f5
      rw [r3, r72] at f5
      obtain ⟨f6, gf⟩ := hb_unc gf
      have f6 : 0 ≤ -12 + ((-1) * ρ1 2 + ((-1) * ρ1 73 + (1 * ρ1 74 + 0))) := f6
      rw [r2, r73, r74] at f6
      obtain ⟨f7, gf⟩ := hb_unc gf
      have f7 : 0 ≤ 12 + (1 * ρ1 2 + (1 * ρ1 73 + ((-1) * ρ1 74 + 0))) := f7
      rw [r2, r73, r74] at f7
      obtain ⟨f8, gf⟩ := hb_unc gf
      have f8 : 0 ≤ -1 + ((-1) * ρ1 2 + ((-1) * ρ1 73 + (1 * ρ1 75 + 0))) := f8
      rw [r2, r73, r75] at f8
      obtain ⟨f9, gf⟩ := hb_unc gf
      have f9 : 0 ≤ 1 + (1 * ρ1 2 + (1 * ρ1 73 + ((-1) * ρ1 75 + 0))) := f9
      rw [r2, r73, r75] at f9
      obtain ⟨f10, gf⟩ := hb_unc gf
      have f10 : 0 ≤ 0 + ((-1) * ρ1 1 + (1 * ρ1 78 + 0)) := f10
      rw [r1, r78] at f10
      obtain ⟨f11, gf⟩ := hb_unc gf
      have f11 : 0 ≤ 0 + (1 * ρ1 1 + ((-1) * ρ1 78 + 0)) := f11
      rw [r1, r78] at f11
      obtain ⟨f12, gf⟩ := hb_unc gf
      have f12 : 0 ≤ -1 + ((-1) * ρ1 2 + (1 * ρ1 3 + 0)) := f12
      rw [r2, r3] at f12
      obtain ⟨f13, gf⟩ := hb_unc gf
      have f13 : 0 ≤ 255 + ((-1) * ρ1 73 + 0) := f13
      rw [r73] at f13
      obtain ⟨f14, gf⟩ := hb_unc gf
      have f14 : 0 ≤ 0 + (1 * ρ1 73 + 0) := f14
      rw [r73] at f14
      obtain ⟨f15, gf⟩ := hb_unc gf
      have f15 : 0 ≤ -1 + (1 * ρ1 73 + 0) := f15
      rw [r73] at f15
      obtain ⟨f16, gf⟩ := hb_unc gf
      have f16 : 0 ≤ 4 + ((-1) * ρ1 73 + 0) := f16
      rw [r73] at f16
      obtain ⟨f17, gf⟩ := hb_unc gf
      have f17 : 0 ≤ -12 + ((-1) * ρ1 2 + (1 * ρ1 3 + ((-1) * ρ1 73 + 0))) := f17
      rw [r2, r3, r73] at f17
      obtain ⟨f18, gf⟩ := hb_unc gf
      have f18 : 0 ≤ 0 + (1 * ρ1 77 + 0) := f18
      rw [r77] at f18
      obtain ⟨f19, gf⟩ := hb_unc gf
      have f19 : 0 ≤ 65535 + ((-1) * ρ1 77 + 0) := f19
      rw [r77] at f19
      have hy1 : y1 = x1 := hb_inj f0 f1
      subst y1
      have hy2 : y2 = x2 := hb_inj f2 f3
      subst y2
      have hy3 : y3 = x3 := hb_inj f4 f5
      subst y3
      have hy9 : y9 = x1 := hb_inj f10 f11
      subst y9
      exact k0 M' y4 y5 y6 w7 y8 gs gx gw g8 ge n7 (by have h1 := f6; have h2 := f7; omega) (by have h1 := f8; have h2 := f9; omega) (by have h1 := f12; omega) (by have h1 := f13; omega) (by have h1 := f14; omega) (by have h1 := f15; omega) (by have h1 := f16; omega) (by have h1 := f17; omega) (by have h1 := f18; omega) (by have h1 := f19; omega)
    cases hs
  · intro r S hpo
    obtain ⟨b1, b2, b3, b4, b5, p, hp, res, hf, hre⟩ := hpo
    rcases List.mem_cons.mp hp with rfl | hp
    · obtain ⟨x, rfl, hr, hz1, hu1⟩ := mz_re_0 mz_GG hre rfl
      obtain ⟨M', z', u'⟩ := S
      cases hz1
      cases hu1
      have r69 : hb_r1 mz_GG hi_a47_q (hb_rb mz_GG hi_a47_q 8 [some (.ref 47), some (.int x1), some (.int x2), some (.int x3), o4, o5, o6, o7] [] M) M' res 69 = res := rfl
      obtain ⟨f0, hf⟩ := hb_unc hf
      have f0 : 0 ≤ 1 + (1 * res + 0) := f0
      rw [← hr] at f0
      obtain ⟨f1, hf⟩ := hb_unc hf
      have f1 : 0 ≤ -1 + ((-1) * res + 0) := f1
      rw [← hr] at f1
      exact w0 M' x b1 b2 b3 b4 b5 (by have h1 := f0; omega) (by have h1 := f1; omega)
    cases hp

def hi_b47_q : mz_Q := (53, [(1, 47), (0, 0), (0, 0), (0, 0), (0, 0), (0, 0), (0, 0), (3, 0)], [(0, [(1, 1)]), (5, [(1, -1)]), (0, [(6, 1)]), (226, [(6, -1)])], [], [], [])
def hi_b47_s : List mz_Sp2 := [(141, [(1, 47), (0, 0), (0, 0), (0, 0), (0, 0), (0, 0), (0, 0), (3, 0)], [(0, 0), (0, 0), (1, 57)], [(0, [(1, -1), (70, 1)]), (0, [(1, 1), (70, -1)]), (0, [(2, -1), (71, 1)]), (0, [(2, 1), (71, -1)]), (0, [(3, -1), (72, 1)]), (0, [(3, 1), (72, -1)]), (0, [(4, -1), (73, 1)]), (0, [(4, 1), (73, -1)]), (0, [(5, -1), (74, 1)]), (0, [(5, 1), (74, -1)]), (0, [(6, -1), (75, 1)]), (0, [(6, 1), (75, -1)]), (0, [(1, -1), (78, 1)]), (0, [(1, 1), (78, -1)]), (0, [(77, 1)]), (65535, [(77, -1)])])]
def hi_b47_h : List mz_H := [(57, 0, []), (0, 0, []), (0, 0, [(2, 1)]), (0, 0, [(3, 1)]), (0, 0, []), (0, 0, [(2, 1)]), (0, 0, [(3, 1)]), (0, 0, []), (0, 0, []), (0, 0, []), (0, 0, []), (0, 0, []), (0, 0, []), (0, 0, []), (0, 0, []), (0, 0, []), (0, 0, []), (0, 0, []), (0, 0, []), (0, 0, []), (0, 0, []), (0, 0, []), (0, 0, []), (0, 0, []), (0, 0, []), (0, 0, [(1, 1)]), (0, 0, [(0, 1)])]
set_option maxRecDepth 100000 in
theorem hi_b47_c : mz_blk mz_GG mq_PP hi_Cs hi_b47_q 8 2 126 hi_b47_s [] 15 hi_b47_h = true := by decide +kernel
theorem hi_b47 {X : (Nat → mq_C) → Prop} (hX : ∀ M M' : Nat → mq_C, mz_same mz_GG M M' → X M → X M') (hC : ∀ c ∈ hi_Cs, c.2 < 2 → mz_Ct mz_GG mq_PP X c.1 c.2) {d z u : Nat} {M : Nat → mq_C} {Q : (Option Value ⊕ Nat) → mq_S → Prop} {x1 : Int32} {x2 : Int32} {x3 : Int32} {x4 : Int32} {x5 : Int32} {x6 : Int32} {o7 : Option Value} (hd : 2 ≤ d) (hz : 272 ≤ z) (hm : mz_sh mz_GG M) (hx : X M) (h0 : mq_nl o7 = true) (p0 : 0 ≤ x1.toInt) (p1 : 0 ≤ 5 - x1.toInt) (p2 : 0 ≤ x6.toInt) (p3 : 0 ≤ 226 - x6.toInt)
    (k0 : ∀ (M' : Nat → mq_C) (w7 : Option Value) (y8 : Int32), mz_sh mz_GG M' → X M' → mz_fr hi_b47_q M M' → (∀ a, a < 8 → M' a = M a) → hb_same mz_GG hi_b47_q M M' → mq_nl w7 = true → 0 ≤ y8.toInt → 0 ≤ 65535 - y8.toInt → mq_R mq_PP d 53 141 [some (.ref 47), some (.int x1), some (.int x2), some (.int x3), some (.int x4), some (.int x5), some (.int x6), w7] [.int y8, .int x1, .ref 57] (M', z, u) Q) : mq_R mq_PP d 53 126 [some (.ref 47), some (.int x1), some (.int x2), some (.int x3), some (.int x4), some (.int x5), some (.int x6), o7] [] (M, z, u) Q := by
  refine hb_blk mz_GG mq_PP X (q := hi_b47_q) (nl := 8) (M := M) hb_okG hX hC hi_b47_c hz hd (L := [some (.ref 47), some (.int x1), some (.int x2), some (.int x3), some (.int x4), some (.int x5), some (.int x6), o7]) (st := []) (show hb_lk mz_GG ([(1, 47), (0, 0), (0, 0), (0, 0), (0, 0), (0, 0), (0, 0), (3, 0)]) _ from ⟨⟨List.mem_singleton.mpr rfl, rfl⟩, trivial, trivial, trivial, trivial, trivial, trivial, h0, trivial⟩) (show hb_pk mz_GG ([]) _ from trivial) hm hx ?_ ?_ ?_
  · exact hb_cons (show 0 ≤ mz_ev _ _ from (show 0 ≤ 0 + (1 * x1.toInt + 0) by omega)) (hb_cons (show 0 ≤ mz_ev _ _ from (show 0 ≤ 5 + ((-1) * x1.toInt + 0) by omega)) (hb_cons (show 0 ≤ mz_ev _ _ from (show 0 ≤ 0 + (1 * x6.toInt + 0) by omega)) (hb_cons (show 0 ≤ mz_ev _ _ from (show 0 ≤ 226 + ((-1) * x6.toInt + 0) by omega)) (hb_nil))))
  · intro s hs
    rcases List.mem_cons.mp hs with rfl | hs
    · intro ρ1 L' st' M' g1 g2 gm gr gf gs gx gw g8 ge
      obtain ⟨e0, L1, rfl, n0, gg0⟩ := hb_l1 mz_GG g1
      obtain rfl : e0 = 47 := List.mem_singleton.mp n0
      obtain ⟨y1, L1, rfl, qr70, gg1⟩ := hb_l0 mz_GG gg0
      have r70 : ρ1 70 = y1.toInt := qr70
      obtain ⟨y2, L1, rfl, qr71, gg2⟩ := hb_l0 mz_GG gg1
      have r71 : ρ1 71 = y2.toInt := qr71
      obtain ⟨y3, L1, rfl, qr72, gg3⟩ := hb_l0 mz_GG gg2
      have r72 : ρ1 72 = y3.toInt := qr72
      obtain ⟨y4, L1, rfl, qr73, gg4⟩ := hb_l0 mz_GG gg3
      have r73 : ρ1 73 = y4.toInt := qr73
      obtain ⟨y5, L1, rfl, qr74, gg5⟩ := hb_l0 mz_GG gg4
      have r74 : ρ1 74 = y5.toInt := qr74
      obtain ⟨y6, L1, rfl, qr75, gg6⟩ := hb_l0 mz_GG gg5
      have r75 : ρ1 75 = y6.toInt := qr75
      obtain ⟨w7, L1, rfl, n7, gg7⟩ := hb_l3 mz_GG gg6
      obtain ⟨y8, s1, rfl, qr77, gg8⟩ := hb_p0 mz_GG g2
      have r77 : ρ1 77 = y8.toInt := qr77
      obtain ⟨y9, s1, rfl, qr78, gg9⟩ := hb_p0 mz_GG gg8
      have r78 : ρ1 78 = y9.toInt := qr78
      obtain ⟨e10, s1, rfl, n10, gg10⟩ := hb_p1 mz_GG gg9
      obtain rfl : e10 = 57 := List.mem_singleton.mp n10
      obtain rfl := hb_ln mz_GG gg7
      obtain rfl := hb_pn mz_GG gg10
      have r1 : ρ1 1 = x1.toInt := gr 1 (by decide +kernel)
      have r2 : ρ1 2 = x2.toInt := gr 2 (by decide +kernel)
      have r3 : ρ1 3 = x3.toInt := gr 3 (by decide +kernel)
      have r4 : ρ1 4 = x4.toInt := gr 4 (by decide +kernel)
      have r5 : ρ1 5 = x5.toInt := gr 5 (by decide +kernel)
      have r6 : ρ1 6 = x6.toInt := gr 6 (by decide +kernel)
      obtain ⟨f0, gf⟩ := hb_unc gf
      have f0 : 0 ≤ 0 + ((-1) * ρ1 1 + (1 * ρ1 70 + 0)) := f0
      rw [r1, r70] at f0
      obtain ⟨f1, gf⟩ := hb_unc gf
      have f1 : 0 ≤ 0 + (1 * ρ1 1 + ((-1) * ρ1 70 + 0)) := f1
      rw [r1, r70] at f1
      obtain ⟨f2, gf⟩ := hb_unc gf
      have f2 : 0 ≤ 0 + ((-1) * ρ1 2 + (1 * ρ1 71 + 0)) := f2
      rw [r2, r71] at f2
      obtain ⟨f3, gf⟩ := hb_unc gf
      have f3 : 0 ≤ 0 + (1 * ρ1 2 + ((-1) * ρ1 71 + 0)) := f3
      rw [r2, r71] at f3
      obtain ⟨f4, gf⟩ := hb_unc gf
      have f4 : 0 ≤ 0 + ((-1) * ρ1 3 + (1 * ρ1 72 + 0)) := f4
      rw [r3, r72] at f4
      obtain ⟨f5, gf⟩ := hb_unc gf
      have f5 : 0 ≤ 0 + (1 * ρ1 3 + ((-1) * ρ1 72 + 0)) := f5
      rw [r3, r72] at f5
      obtain ⟨f6, gf⟩ := hb_unc gf
      have f6 : 0 ≤ 0 + ((-1) * ρ1 4 + (1 * ρ1 73 + 0)) := f6
      rw [r4, r73] at f6
      obtain ⟨f7, gf⟩ := hb_unc gf
      have f7 : 0 ≤ 0 + (1 * ρ1 4 + ((-1) * ρ1 73 + 0)) := f7
      rw [r4, r73] at f7
      obtain ⟨f8, gf⟩ := hb_unc gf
      have f8 : 0 ≤ 0 + ((-1) * ρ1 5 + (1 * ρ1 74 + 0)) := f8
      rw [r5, r74] at f8
      obtain ⟨f9, gf⟩ := hb_unc gf
      have f9 : 0 ≤ 0 + (1 * ρ1 5 + ((-1) * ρ1 74 + 0)) := f9
      rw [r5, r74] at f9
      obtain ⟨f10, gf⟩ := hb_unc gf
      have f10 : 0 ≤ 0 + ((-1) * ρ1 6 + (1 * ρ1 75 + 0)) := f10
      rw [r6, r75] at f10
      obtain ⟨f11, gf⟩ := hb_unc gf
      have f11 : 0 ≤ 0 + (1 * ρ1 6 + ((-1) * ρ1 75 + 0)) := f11
      rw [r6, r75] at f11
      obtain ⟨f12, gf⟩ := hb_unc gf
      have f12 : 0 ≤ 0 + ((-1) * ρ1 1 + (1 * ρ1 78 + 0)) := f12
      rw [r1, r78] at f12
      obtain ⟨f13, gf⟩ := hb_unc gf
      have f13 : 0 ≤ 0 + (1 * ρ1 1 + ((-1) * ρ1 78 + 0)) := f13
      rw [r1, r78] at f13
      obtain ⟨f14, gf⟩ := hb_unc gf
      have f14 : 0 ≤ 0 + (1 * ρ1 77 + 0) := f14
      rw [r77] at f14
      obtain ⟨f15, gf⟩ := hb_unc gf
      have f15 : 0 ≤ 65535 + ((-1) * ρ1 77 + 0) := f15
      rw [r77] at f15
      have hy1 : y1 = x1 := hb_inj f0 f1
      subst y1
      have hy2 : y2 = x2 := hb_inj f2 f3
      subst y2
      have hy3 : y3 = x3 := hb_inj f4 f5
      subst y3
      have hy4 : y4 = x4 := hb_inj f6 f7
      subst y4
      have hy5 : y5 = x5 := hb_inj f8 f9
      subst y5
      have hy6 : y6 = x6 := hb_inj f10 f11
      subst y6
      have hy9 : y9 = x1 := hb_inj f12 f13
      subst y9
      exact k0 M' w7 y8 gs gx gw g8 ge n7 (by have h1 := f14; omega) (by have h1 := f15; omega)
    cases hs
  · intro r S hpo
    obtain ⟨b1, b2, b3, b4, b5, p, hp, res, hf, hre⟩ := hpo
    cases hp

def hi_d47_q : mz_Q := (53, [(1, 47), (0, 0), (0, 0), (0, 0), (0, 0), (0, 0), (0, 0), (3, 0)], [(0, [(1, 1)]), (5, [(1, -1)])], [], [(0, 0, [(1, [(69, 1)]), (-1, [(69, -1)])]), (0, 0, [(0, [(5, -1), (69, 1)]), (0, [(5, 1), (69, -1)])])], [])
def hi_d47_s : List mz_Sp2 := []
def hi_d47_h : List mz_H := [(52, 0, []), (0, 0, [(0, 1)]), (0, 0, [(1, 1)]), (3, 0, []), (0, 0, []), (0, 0, []), (0, 0, []), (0, 0, []), (1, 0, []), (0, 0, []), (0, 0, []), (0, 0, []), (0, 0, []), (0, 0, []), (55, 0, []), (0, 0, [(8, 1)]), (0, 0, [(9, 1)]), (0, 0, []), (0, 0, []), (0, 0, []), (1, 0, []), (0, 0, []), (0, 0, []), (0, 0, []), (0, 0, []), (0, 0, []), (53, 0, []), (0, 0, [(11, 1)]), (0, 0, [(12, 1)]), (0, 0, []), (3, 0, []), (0, 0, [(0, 1)]), (1, 1, []), (0, 0, []), (3, 0, []), (0, 0, []), (1, 0, []), (0, 0, []), (0, 0, []), (53, 0, []), (0, 0, [(14, 1)]), (0, 0, [(15, 1)]), (0, 0, []), (0, 0, []), (0, 0, []), (1, 0, []), (0, 0, []), (0, 0, []), (0, 0, []), (0, 0, []), (0, 0, []), (1, 1, []), (0, 0, []), (3, 0, []), (0, 0, []), (1, 0, []), (0, 0, []), (0, 0, [])]
set_option maxRecDepth 100000 in
theorem hi_d47_c : mz_blk mz_GG mq_PP hi_Cs hi_d47_q 8 2 142 hi_d47_s [] 63 hi_d47_h = true := by decide +kernel
theorem hi_d47 {X : (Nat → mq_C) → Prop} (hX : ∀ M M' : Nat → mq_C, mz_same mz_GG M M' → X M → X M') (hC : ∀ c ∈ hi_Cs, c.2 < 2 → mz_Ct mz_GG mq_PP X c.1 c.2) {d z u : Nat} {M : Nat → mq_C} {Q : (Option Value ⊕ Nat) → mq_S → Prop} {x1 : Int32} {x2 : Int32} {x3 : Int32} {x4 : Int32} {x5 : Int32} {x6 : Int32} {o7 : Option Value} (hd : 2 ≤ d) (hz : 272 ≤ z) (hm : mz_sh mz_GG M) (hx : X M) (h0 : mq_nl o7 = true) (p0 : 0 ≤ x1.toInt) (p1 : 0 ≤ 5 - x1.toInt)
    (w0 : ∀ (M' : Nat → mq_C) (r : Int32), mz_sh mz_GG M' → X M' → mz_fr hi_d47_q M M' → (∀ a, a < 8 → M' a = M a) → hb_same mz_GG hi_d47_q M M' → 0 ≤ 1 + r.toInt → 0 ≤ (-1) - r.toInt → Q (.inl (some (.int r))) (M', z, u))
    (w1 : ∀ (M' : Nat → mq_C) (r : Int32), mz_sh mz_GG M' → X M' → mz_fr hi_d47_q M M' → (∀ a, a < 8 → M' a = M a) → hb_same mz_GG hi_d47_q M M' → 0 ≤ 0 - x5.toInt + r.toInt → 0 ≤ x5.toInt - r.toInt → Q (.inl (some (.int r))) (M', z, u)) : mq_R mq_PP d 53 142 [some (.ref 47), some (.int x1), some (.int x2), some (.int x3), some (.int x4), some (.int x5), some (.int x6), o7] [] (M, z, u) Q := by
  refine hb_blk mz_GG mq_PP X (q := hi_d47_q) (nl := 8) (M := M) hb_okG hX hC hi_d47_c hz hd (L := [some (.ref 47), some (.int x1), some (.int x2), some (.int x3), some (.int x4), some (.int x5), some (.int x6), o7]) (st := []) (show hb_lk mz_GG ([(1, 47), (0, 0), (0, 0), (0, 0), (0, 0), (0, 0), (0, 0), (3, 0)]) _ from ⟨⟨List.mem_singleton.mpr rfl, rfl⟩, trivial, trivial, trivial, trivial, trivial, trivial, h0, trivial⟩) (show hb_pk mz_GG ([]) _ from trivial) hm hx ?_ ?_ ?_
  · exact hb_cons (show 0 ≤ mz_ev _ _ from (show 0 ≤ 0 + (1 * x1.toInt + 0) by omega)) (hb_cons (show 0 ≤ mz_ev _ _ from (show 0 ≤ 5 + ((-1) * x1.toInt + 0) by omega)) (hb_nil))
  · intro s hs
    cases hs
  · intro r S hpo
    obtain ⟨b1, b2, b3, b4, b5, p, hp, res, hf, hre⟩ := hpo
    rcases List.mem_cons.mp hp with rfl | hp
    · obtain ⟨x, rfl, hr, hz1, hu1⟩ := mz_re_0 mz_GG hre rfl
      obtain ⟨M', z', u'⟩ := S
      cases hz1
      cases hu1
      have r69 : hb_r1 mz_GG hi_d47_q (hb_rb mz_GG hi_d47_q 8 [some (.ref 47), some (.int x1), some (.int x2), some (.int x3), some (.int x4), some (.int x5), some (.int x6), o7] [] M) M' res 69 = res := rfl
      obtain ⟨f0, hf⟩ := hb_unc hf
      have f0 : 0 ≤ 1 + (1 * res + 0) := f0
      rw [← hr] at f0
      obtain ⟨f1, hf⟩ := hb_unc hf
      have f1 : 0 ≤ -1 + ((-1) * res + 0) := f1
      rw [← hr] at f1
      exact w0 M' x b1 b2 b3 b4 b5 (by have h1 := f0; omega) (by have h1 := f1; omega)
    rcases List.mem_cons.mp hp with rfl | hp
    · obtain ⟨x, rfl, hr, hz1, hu1⟩ := mz_re_0 mz_GG hre rfl
      obtain ⟨M', z', u'⟩ := S
      cases hz1
      cases hu1
      have r5 : hb_r1 mz_GG hi_d47_q (hb_rb mz_GG hi_d47_q 8 [some (.ref 47), some (.int x1), some (.int x2), some (.int x3), some (.int x4), some (.int x5), some (.int x6), o7] [] M) M' res 5 = x5.toInt := rfl
      have r69 : hb_r1 mz_GG hi_d47_q (hb_rb mz_GG hi_d47_q 8 [some (.ref 47), some (.int x1), some (.int x2), some (.int x3), some (.int x4), some (.int x5), some (.int x6), o7] [] M) M' res 69 = res := rfl
      obtain ⟨f0, hf⟩ := hb_unc hf
      have f0 : 0 ≤ 0 + ((-1) * x5.toInt + (1 * res + 0)) := f0
      rw [← hr] at f0
      obtain ⟨f1, hf⟩ := hb_unc hf
      have f1 : 0 ≤ 0 + (1 * x5.toInt + ((-1) * res + 0)) := f1
      rw [← hr] at f1
      exact w1 M' x b1 b2 b3 b4 b5 (by have h1 := f0; omega) (by have h1 := f1; omega)
    cases hp

theorem hi_r47 {d z u : Nat} {Q : (Option Value ⊕ Nat) → mq_S → Prop} {M : Nat → mq_C} {x1 x2 x3 : Int32} (hd : 2 ≤ d) (hz : 272 ≤ z) (hm : mz_sh mz_GG M) (hx : hi_X 47 M) (p1 : 0 ≤ x1.toInt) (p2 : x1.toInt ≤ 5) (p3 : 0 ≤ x2.toInt) (p4 : x3.toInt ≤ 236)
    (K : ∀ (M' : Nat → mq_C) (r : Int32), mz_sh mz_GG M' → hi_X 47 M' → hi_R M M' → (∀ j, j ≠ x1.toInt.toNat → hv M' 56 j = hv M 56 j ∧ hv M' 57 j = hv M 57 j) → (∀ j, hv M' 48 j = hv M 48 j) → (r.toInt = -1 ∨ x2.toInt < x3.toInt ∧ x2.toInt ≤ r.toInt ∧ r.toInt ≤ x3.toInt) → Q (.inl (some (.int r))) (M', z, u)) : mq_R mq_PP d 53 0 [some (.ref 47), some (.int x1), some (.int x2), some (.int x3), none, none, none, none] [] (M, z, u) Q := by
  refine hi_a47 (hi_Xs (a := 47) (by decide)) (hi_C (hi_Xs (a := 47) (by decide))) hd hz hm hx rfl rfl rfl rfl (by omega) (by omega) (by omega) (by omega) ?_ ?_
  · intro M1 y4 y5 y6 w7 y8 gs gx gw g8 ge hw
    intros
    have R1 : hi_R M M1 := hi_Rb (by decide) rfl gw g8 ge
    refine hb_sta (n := 126) (kind := 64) gs (by decide +kernel) rfl rfl (.inl rfl) (by omega) (show _ < (6 : Int) by omega) ?_
    generalize hM2 : hb_set M1 56 x1.toInt.toNat y8 = M2
    have hm2 : mz_sh mz_GG M2 := by rw [← hM2]; exact hb_set_sh gs rfl hb_at1 (by omega) (by omega)
    have hx2 : hi_X 47 M2 := by rw [← hM2]; exact hi_xs47 gx (by omega)
    have w2 : ∀ b, b ≠ 56 → M2 b = M1 b := by intro b h; rw [← hM2]; exact hb_set_c h
    have n2 : ∀ j, j ≠ x1.toInt.toNat → hv M2 56 j = hv M1 56 j := by intro j h; rw [← hM2]; exact hb_set_n (.inr h)
    have R2 : hi_R M1 M2 := hi_Ro (W := [56]) (hb_only_s hb_only_r (by decide) w2) (by decide)
    refine hi_b47 (hi_Xs (a := 47) (by decide)) (hi_C (hi_Xs (a := 47) (by decide))) hd hz hm2 hx2 hw (by omega) (by omega) (by omega) (by omega) ?_
    intro M3 w7' y8' gs3 gx3 gw3 g83 ge3 hw3
    intros
    have R3 : hi_R M2 M3 := hi_Rb (by decide) rfl gw3 g83 ge3
    refine hb_sta (n := 142) (kind := 64) gs3 (by decide +kernel) rfl rfl (.inl rfl) (by omega) (show _ < (6 : Int) by omega) ?_
    generalize hM4 : hb_set M3 57 x1.toInt.toNat y8' = M4
    have hm4 : mz_sh mz_GG M4 := by rw [← hM4]; exact hb_set_sh gs3 rfl hb_at1 (by omega) (by omega)
    have hx4 : hi_X 47 M4 := by rw [← hM4]; exact hi_xs47 gx3 (by omega)
    have w4 : ∀ b, b ≠ 57 → M4 b = M3 b := by intro b h; rw [← hM4]; exact hb_set_c h
    have n4 : ∀ j, j ≠ x1.toInt.toNat → hv M4 57 j = hv M3 57 j := by intro j h; rw [← hM4]; exact hb_set_n (.inr h)
    have R4 : hi_R M3 M4 := hi_Ro (W := [57]) (hb_only_s hb_only_r (by decide) w4) (by decide)
    have R04 := hi_Rt (hi_Rt (hi_Rt R1 R2) R3) R4
    have hn : ∀ j, j ≠ x1.toInt.toNat → hv M4 56 j = hv M 56 j ∧ hv M4 57 j = hv M 57 j := by
      intro j hj
      constructor
      · rw [hb_vc (w4 _ (by decide)), hb_vc (gw3 _ (by decide) rfl), n2 j hj, hb_vc (gw _ (by decide) rfl)]
      · rw [n4 j hj, hb_vc (gw3 _ (by decide) rfl), hb_vc (w2 _ (by decide)), hb_vc (gw _ (by decide) rfl)]
    have hb4 : ∀ j, hv M4 48 j = hv M 48 j := by
      intro j
      rw [hb_vc (w4 _ (by decide)), hb_vc (gw3 _ (by decide) rfl), hb_vc (w2 _ (by decide)), hb_vc (gw _ (by decide) rfl)]
    refine hi_d47 (hi_Xs (a := 47) (by decide)) (hi_C (hi_Xs (a := 47) (by decide))) hd hz hm4 hx4 hw3 (by omega) (by omega) ?_ ?_
    · intro M5 r k1 k2 k3 k4 k5 l1 l2
      refine K M5 r k1 k2 (hi_Rt R04 (hi_Rb (by decide) rfl k3 k4 k5)) (fun j hj => ?_) (fun j => ?_) (.inl (by omega))
      · rw [hb_vc (k3 _ (by decide) rfl), hb_vc (k3 _ (by decide) rfl)]
        exact hn j hj
      · rw [hb_vc (k3 _ (by decide) rfl)]
        exact hb4 j
    · intro M5 r k1 k2 k3 k4 k5 l1 l2
      refine K M5 r k1 k2 (hi_Rt R04 (hi_Rb (by decide) rfl k3 k4 k5)) (fun j hj => ?_) (fun j => ?_) (.inr (by omega))
      · rw [hb_vc (k3 _ (by decide) rfl), hb_vc (k3 _ (by decide) rfl)]
        exact hn j hj
      · rw [hb_vc (k3 _ (by decide) rfl)]
        exact hb4 j
  · intro M' r gs gx gw g8 ge l1 l2
    exact K M' r gs gx (hi_Rb (by decide) rfl gw g8 ge) (fun j _ => ⟨hb_vc (gw _ (by decide) rfl) j, hb_vc (gw _ (by decide) rfl) j⟩) (fun j => hb_vc (gw _ (by decide) rfl) j) (.inl (by omega))
theorem hi_y47 {d z u : Nat} {Q : (Option Value ⊕ Nat) → mq_S → Prop} {M : Nat → mq_C} {x1 x2 : Int32} (hm : mz_sh mz_GG M) (p1 : 0 ≤ x1.toInt) (p2 : x1.toInt ≤ 5) (p3 : x2.toInt ≤ 240)
    (K0 : ∀ r : Int32, r.toInt = 0 → Q (.inl (some (.int r))) (M, z, u)) (K1 : ∀ r : Int32, r.toInt = 1 → hv M 57 x1.toInt.toNat + hv M 56 x1.toInt.toNat + 2 ≤ x2.toInt → Q (.inl (some (.int r))) (M, z, u)) : mq_R mq_PP d 54 0 [some (.ref 47), some (.int x1), some (.int x2), none] [] (M, z, u) Q := by
  refine he_aload (n := 1) (i := 0) (by decide +kernel) rfl ?_
  refine he_getr (n := 4) (ci := 1) (j := 10) (ns := [1230, 48]) (b := 57) hm (by decide +kernel) rfl rfl (by decide +kernel) ?_
  refine he_iload (n := 5) (i := 1) (by decide +kernel) rfl ?_
  refine hb_ld (n := 6) (kind := 64) hm (by decide +kernel) rfl rfl (.inl rfl) (by omega) (show _ < (6 : Int) by omega) hb_at1 ?_
  intro v5 hv5 lv5 uv5
  refine he_istore (n := 7) (i := 3) (by decide +kernel) rfl ?_
  refine he_iload (n := 8) (i := 3) (by decide +kernel) rfl ?_
  refine he_iconst (n := 9) (c := 2) (by decide +kernel) (by decide) ?_
  intro c8 hc8
  refine he_iadd (n := 10) (by decide +kernel) (by omega) (by omega) ?_
  intro v9 hv9
  refine he_aload (n := 11) (i := 0) (by decide +kernel) rfl ?_
  refine he_getr (n := 14) (ci := 1) (j := 9) (ns := [1229, 45]) (b := 56) hm (by decide +kernel) rfl rfl (by decide +kernel) ?_
  refine he_iload (n := 15) (i := 1) (by decide +kernel) rfl ?_
  refine hb_ld (n := 16) (kind := 64) hm (by decide +kernel) rfl rfl (.inl rfl) (by omega) (show _ < (6 : Int) by omega) hb_at1 ?_
  intro v15 hv15 lv15 uv15
  refine he_iadd (n := 17) (by decide +kernel) (by omega) (by omega) ?_
  intro v16 hv16
  refine he_iload (n := 18) (i := 2) (by decide +kernel) rfl ?_
  by_cases h18 : x2.toInt < v16.toInt
  · skip
    refine he_cmpgt_t (n := 21) (t := 53) (by decide +kernel) (by omega) ?_
    refine he_iconst (n := 54) (c := 0) (by decide +kernel) (by decide) ?_
    intro c53 hc53
    refine he_retz (by decide +kernel) (by omega) ?_
    exact K0 _ (by omega)
  · skip
    refine he_cmpgt_f (n := 21) (t := 53) (by decide +kernel) (by omega) ?_
    refine he_aload (n := 22) (i := 0) (by decide +kernel) rfl ?_
    refine he_getr (n := 25) (ci := 1) (j := 0) (ns := [1214, 9]) (b := 48) hm (by decide +kernel) rfl rfl (by decide +kernel) ?_
    refine he_iload (n := 26) (i := 3) (by decide +kernel) rfl ?_
    refine hb_ld (n := 27) (kind := 64) hm (by decide +kernel) rfl rfl (.inl rfl) (by omega) (show _ < (240 : Int) by omega) hb_at1 ?_
    intro v26 hv26 lv26 uv26
    refine he_iconst (n := 29) (c := 75) (by decide +kernel) (by decide) ?_
    intro c27 hc27
    by_cases h29 : v26.toInt = c27.toInt
    · skip
      refine he_cmpne_f (n := 32) (t := 53) (by decide +kernel) (by omega) ?_
      refine he_aload (n := 33) (i := 0) (by decide +kernel) rfl ?_
      refine he_getr (n := 36) (ci := 1) (j := 0) (ns := [1214, 9]) (b := 48) hm (by decide +kernel) rfl rfl (by decide +kernel) ?_
      refine he_iload (n := 37) (i := 3) (by decide +kernel) rfl ?_
      refine he_iconst (n := 38) (c := 1) (by decide +kernel) (by decide) ?_
      intro c37 hc37
      refine he_iadd (n := 39) (by decide +kernel) (by omega) (by omega) ?_
      intro v38 hv38
      refine hb_ld (n := 40) (kind := 64) hm (by decide +kernel) rfl rfl (.inl rfl) (by omega) (show _ < (240 : Int) by omega) hb_at1 ?_
      intro v39 hv39 lv39 uv39
      refine he_aload (n := 41) (i := 0) (by decide +kernel) rfl ?_
      refine he_getr (n := 44) (ci := 1) (j := 6) (ns := [1226, 36]) (b := 53) hm (by decide +kernel) rfl rfl (by decide +kernel) ?_
      refine he_iload (n := 45) (i := 1) (by decide +kernel) rfl ?_
      refine hb_ld (n := 46) (kind := 64) hm (by decide +kernel) rfl rfl (.inl rfl) (by omega) (show _ < (6 : Int) by omega) hb_at1 ?_
      intro v45 hv45 lv45 uv45
      by_cases h46 : v39.toInt = v45.toInt
      · skip
        refine he_cmpne_f (n := 49) (t := 53) (by decide +kernel) (by omega) ?_
        refine he_iconst (n := 50) (c := 1) (by decide +kernel) (by decide) ?_
        intro c49 hc49
        refine he_goto (t := 54) (by decide +kernel) ?_
        refine he_retz (by decide +kernel) (by omega) ?_
        exact K1 _ (by omega) (by omega)
      · skip
        refine he_cmpne_t (n := 49) (t := 53) (by decide +kernel) (by omega) ?_
        refine he_iconst (n := 54) (c := 0) (by decide +kernel) (by decide) ?_
        intro c53 hc53
        refine he_retz (by decide +kernel) (by omega) ?_
        exact K0 _ (by omega)
    · skip
      refine he_cmpne_t (n := 32) (t := 53) (by decide +kernel) (by omega) ?_
      refine he_iconst (n := 54) (c := 0) (by decide +kernel) (by decide) ?_
      intro c53 hc53
      refine he_retz (by decide +kernel) (by omega) ?_
      exact K0 _ (by omega)
def hi_m47_q : mz_Q := (52, [(1, 47), (0, 0), (3, 0), (3, 0), (3, 0)], [(0, [(1, 1)]), (236, [(1, -1)])], [], [], [])
def hi_m47_s : List mz_Sp2 := [(56, [(1, 47), (0, 0), (0, 0), (0, 0), (0, 0)], [], [(0, [(1, -1), (67, 1)]), (0, [(1, 1), (67, -1)]), (0, [(68, -1), (69, 1)]), (0, [(68, 1), (69, -1)]), (0, [(70, 1)]), (0, [(70, -1)]), (0, [(68, 1)]), (65535, [(68, -1)])])]
def hi_m47_h : List mz_H := [(0, 0, []), (0, 0, [(0, 1)]), (0, 0, [(1, 1)]), (0, 0, []), (0, 0, [(0, 1)]), (0, 0, [(1, 1)]), (0, 0, []), (0, 0, []), (0, 0, []), (0, 0, []), (0, 0, []), (0, 0, []), (0, 0, []), (0, 0, []), (0, 0, []), (0, 0, []), (0, 0, [(1, 1)]), (0, 0, [(0, 1)])]
set_option maxRecDepth 100000 in
theorem hi_m47_c : mz_blk mz_GG mq_PP hi_Cs hi_m47_q 5 2 42 hi_m47_s [] 17 hi_m47_h = true := by decide +kernel
theorem hi_m47 {X : (Nat → mq_C) → Prop} (hX : ∀ M M' : Nat → mq_C, mz_same mz_GG M M' → X M → X M') (hC : ∀ c ∈ hi_Cs, c.2 < 2 → mz_Ct mz_GG mq_PP X c.1 c.2) {d z u : Nat} {M : Nat → mq_C} {Q : (Option Value ⊕ Nat) → mq_S → Prop} {x1 : Int32} {o2 : Option Value} {o3 : Option Value} {o4 : Option Value} (hd : 2 ≤ d) (hz : 272 ≤ z) (hm : mz_sh mz_GG M) (hx : X M) (h0 : mq_nl o2 = true) (h1 : mq_nl o3 = true) (h2 : mq_nl o4 = true) (p0 : 0 ≤ x1.toInt) (p1 : 0 ≤ 236 - x1.toInt)
    (k0 : ∀ (M' : Nat → mq_C) (y2 : Int32) (y4 : Int32), mz_sh mz_GG M' → X M' → mz_fr hi_m47_q M M' → (∀ a, a < 8 → M' a = M a) → hb_same mz_GG hi_m47_q M M' → y4.toInt = 0 → 0 ≤ y2.toInt → 0 ≤ 65535 - y2.toInt → mq_R mq_PP d 52 56 [some (.ref 47), some (.int x1), some (.int y2), some (.int y2), some (.int y4)] [] (M', z, u) Q) : mq_R mq_PP d 52 42 [some (.ref 47), some (.int x1), o2, o3, o4] [] (M, z, u) Q := by
  refine hb_blk mz_GG mq_PP X (q := hi_m47_q) (nl := 5) (M := M) hb_okG hX hC hi_m47_c hz hd (L := [some (.ref 47), some (.int x1), o2, o3, o4]) (st := []) (show hb_lk mz_GG ([(1, 47), (0, 0), (3, 0), (3, 0), (3, 0)]) _ from ⟨⟨List.mem_singleton.mpr rfl, rfl⟩, trivial, h0, h1, h2, trivial⟩) (show hb_pk mz_GG ([]) _ from trivial) hm hx ?_ ?_ ?_
  · exact hb_cons (show 0 ≤ mz_ev _ _ from (show 0 ≤ 0 + (1 * x1.toInt + 0) by omega)) (hb_cons (show 0 ≤ mz_ev _ _ from (show 0 ≤ 236 + ((-1) * x1.toInt + 0) by omega)) (hb_nil))
  · intro s hs
    rcases List.mem_cons.mp hs with rfl | hs
    · intro ρ1 L' st' M' g1 g2 gm gr gf gs gx gw g8 ge
      obtain ⟨e0, L1, rfl, n0, gg0⟩ := hb_l1 mz_GG g1
      obtain rfl : e0 = 47 := List.mem_singleton.mp n0
      obtain ⟨y1, L1, rfl, qr67, gg1⟩ := hb_l0 mz_GG gg0
      have r67 : ρ1 67 = y1.toInt := qr67
      obtain ⟨y2, L1, rfl, qr68, gg2⟩ := hb_l0 mz_GG gg1
      have r68 : ρ1 68 = y2.toInt := qr68
      obtain ⟨y3, L1, rfl, qr69, gg3⟩ := hb_l0 mz_GG gg2
      have r69 : ρ1 69 = y3.toInt := qr69
      obtain ⟨y4, L1, rfl, qr70, gg4⟩ := hb_l0 mz_GG gg3
      have r70 : ρ1 70 = y4.toInt := qr70
      obtain rfl := hb_ln mz_GG gg4
      obtain rfl := hb_pn mz_GG g2
      have r1 : ρ1 1 = x1.toInt := gr 1 (by decide +kernel)
      obtain ⟨f0, gf⟩ := hb_unc gf
      have f0 : 0 ≤ 0 + ((-1) * ρ1 1 + (1 * ρ1 67 + 0)) := f0
      rw [r1, r67] at f0
      obtain ⟨f1, gf⟩ := hb_unc gf
      have f1 : 0 ≤ 0 + (1 * ρ1 1 + ((-1) * ρ1 67 + 0)) := f1
      rw [r1, r67] at f1
      obtain ⟨f2, gf⟩ := hb_unc gf
      have f2 : 0 ≤ 0 + ((-1) * ρ1 68 + (1 * ρ1 69 + 0)) := f2
      rw [r68, r69] at f2
      obtain ⟨f3, gf⟩ := hb_unc gf
      have f3 : 0 ≤ 0 + (1 * ρ1 68 + ((-1) * ρ1 69 + 0)) := f3
      rw [r68, r69] at f3
      obtain ⟨f4, gf⟩ := hb_unc gf
      have f4 : 0 ≤ 0 + (1 * ρ1 70 + 0) := f4
      rw [r70] at f4
      obtain ⟨f5, gf⟩ := hb_unc gf
      have f5 : 0 ≤ 0 + ((-1) * ρ1 70 + 0) := f5
      rw [r70] at f5
      obtain ⟨f6, gf⟩ := hb_unc gf
      have f6 : 0 ≤ 0 + (1 * ρ1 68 + 0) := f6
      rw [r68] at f6
      obtain ⟨f7, gf⟩ := hb_unc gf
      have f7 : 0 ≤ 65535 + ((-1) * ρ1 68 + 0) := f7
      rw [r68] at f7
      have hy1 : y1 = x1 := hb_inj f0 f1
      subst y1
      have hy3 : y3 = y2 := hb_inj f2 f3
      subst y3
      exact k0 M' y2 y4 gs gx gw g8 ge  (by have h1 := f4; have h2 := f5; omega) (by have h1 := f6; omega) (by have h1 := f7; omega)
    cases hs
  · intro r S hpo
    obtain ⟨b1, b2, b3, b4, b5, p, hp, res, hf, hre⟩ := hpo
    cases hp

def hi_n47_q : mz_Q := (52, [(1, 47), (0, 0), (0, 0), (0, 0), (0, 0)], [(0, [(4, 1)]), (5, [(4, -1)])], [], [(0, 0, [(0, [(66, 1)]), (0, [(66, -1)])])], [])
def hi_n47_s : List mz_Sp2 := [(56, [(1, 47), (0, 0), (0, 0), (0, 0), (0, 0)], [], [(0, [(1, -1), (67, 1)]), (0, [(1, 1), (67, -1)]), (0, [(2, -1), (68, 1)]), (0, [(2, 1), (68, -1)]), (0, [(3, -1), (69, 1)]), (0, [(3, 1), (69, -1)]), (-1, [(4, -1), (70, 1)]), (1, [(4, 1), (70, -1)])])]
def hi_n47_h : List mz_H := [(2, 0, []), (0, 0, [(0, 1)]), (0, 0, [(1, 1)]), (0, 0, []), (3, 0, []), (0, 0, [(1, 1)]), (0, 0, []), (0, 0, []), (0, 0, [(5, 1)]), (0, 0, [(6, 1)]), (0, 0, []), (0, 0, []), (0, 0, []), (0, 0, []), (0, 0, []), (0, 0, []), (0, 0, []), (0, 0, []), (0, 0, []), (0, 0, []), (0, 0, []), (0, 0, []), (0, 0, []), (0, 0, [])]
set_option maxRecDepth 100000 in
theorem hi_n47_c : mz_blk mz_GG mq_PP hi_Cs hi_n47_q 5 2 93 hi_n47_s [] 14 hi_n47_h = true := by decide +kernel
theorem hi_n47 {X : (Nat → mq_C) → Prop} (hX : ∀ M M' : Nat → mq_C, mz_same mz_GG M M' → X M → X M') (hC : ∀ c ∈ hi_Cs, c.2 < 2 → mz_Ct mz_GG mq_PP X c.1 c.2) {d z u : Nat} {M : Nat → mq_C} {Q : (Option Value ⊕ Nat) → mq_S → Prop} {x1 : Int32} {x2 : Int32} {x3 : Int32} {x4 : Int32} (hd : 2 ≤ d) (hz : 272 ≤ z) (hm : mz_sh mz_GG M) (hx : X M) (p0 : 0 ≤ x4.toInt) (p1 : 0 ≤ 5 - x4.toInt)
    (k0 : ∀ (M' : Nat → mq_C) (y4 : Int32), mz_sh mz_GG M' → X M' → mz_fr hi_n47_q M M' → (∀ a, a < 8 → M' a = M a) → hb_same mz_GG hi_n47_q M M' → y4.toInt = 1 + x4.toInt → mq_R mq_PP d 52 56 [some (.ref 47), some (.int x1), some (.int x2), some (.int x3), some (.int y4)] [] (M', z, u) Q)
    (w0 : ∀ (M' : Nat → mq_C) (r : Int32), mz_sh mz_GG M' → X M' → mz_fr hi_n47_q M M' → (∀ a, a < 8 → M' a = M a) → hb_same mz_GG hi_n47_q M M' → 0 ≤ r.toInt → 0 ≤ 0 - r.toInt → Q (.inl (some (.int r))) (M', z, u)) : mq_R mq_PP d 52 93 [some (.ref 47), some (.int x1), some (.int x2), some (.int x3), some (.int x4)] [] (M, z, u) Q := by
  refine hb_blk mz_GG mq_PP X (q := hi_n47_q) (nl := 5) (M := M) hb_okG hX hC hi_n47_c hz hd (L := [some (.ref 47), some (.int x1), some (.int x2), some (.int x3), some (.int x4)]) (st := []) (show hb_lk mz_GG ([(1, 47), (0, 0), (0, 0), (0, 0), (0, 0)]) _ from ⟨⟨List.mem_singleton.mpr rfl, rfl⟩, trivial, trivial, trivial, trivial, trivial⟩) (show hb_pk mz_GG ([]) _ from trivial) hm hx ?_ ?_ ?_
  · exact hb_cons (show 0 ≤ mz_ev _ _ from (show 0 ≤ 0 + (1 * x4.toInt + 0) by omega)) (hb_cons (show 0 ≤ mz_ev _ _ from (show 0 ≤ 5 + ((-1) * x4.toInt + 0) by omega)) (hb_nil))
  · intro s hs
    rcases List.mem_cons.mp hs with rfl | hs
    · intro ρ1 L' st' M' g1 g2 gm gr gf gs gx gw g8 ge
      obtain ⟨e0, L1, rfl, n0, gg0⟩ := hb_l1 mz_GG g1
      obtain rfl : e0 = 47 := List.mem_singleton.mp n0
      obtain ⟨y1, L1, rfl, qr67, gg1⟩ := hb_l0 mz_GG gg0
      have r67 : ρ1 67 = y1.toInt := qr67
      obtain ⟨y2, L1, rfl, qr68, gg2⟩ := hb_l0 mz_GG gg1
      have r68 : ρ1 68 = y2.toInt := qr68
      obtain ⟨y3, L1, rfl, qr69, gg3⟩ := hb_l0 mz_GG gg2
      have r69 : ρ1 69 = y3.toInt := qr69
      obtain ⟨y4, L1, rfl, qr70, gg4⟩ := hb_l0 mz_GG gg3
      have r70 : ρ1 70 = y4.toInt := qr70
      obtain rfl := hb_ln mz_GG gg4
      obtain rfl := hb_pn mz_GG g2
      have r1 : ρ1 1 = x1.toInt := gr 1 (by decide +kernel)
      have r2 : ρ1 2 = x2.toInt := gr 2 (by decide +kernel)
      have r3 : ρ1 3 = x3.toInt := gr 3 (by decide +kernel)
      have r4 : ρ1 4 = x4.toInt := gr 4 (by decide +kernel)
      obtain ⟨f0, gf⟩ := hb_unc gf
      have f0 : 0 ≤ 0 + ((-1) * ρ1 1 + (1 * ρ1 67 + 0)) := f0
      rw [r1, r67] at f0
      obtain ⟨f1, gf⟩ := hb_unc gf
      have f1 : 0 ≤ 0 + (1 * ρ1 1 + ((-1) * ρ1 67 + 0)) := f1
      rw [r1, r67] at f1
      obtain ⟨f2, gf⟩ := hb_unc gf
      have f2 : 0 ≤ 0 + ((-1) * ρ1 2 + (1 * ρ1 68 + 0)) := f2
      rw [r2, r68] at f2
      obtain ⟨f3, gf⟩ := hb_unc gf
      have f3 : 0 ≤ 0 + (1 * ρ1 2 + ((-1) * ρ1 68 + 0)) := f3
      rw [r2, r68] at f3
      obtain ⟨f4, gf⟩ := hb_unc gf
      have f4 : 0 ≤ 0 + ((-1) * ρ1 3 + (1 * ρ1 69 + 0)) := f4
      rw [r3, r69] at f4
      obtain ⟨f5, gf⟩ := hb_unc gf
      have f5 : 0 ≤ 0 + (1 * ρ1 3 + ((-1) * ρ1 69 + 0)) := f5
      rw [r3, r69] at f5
      obtain ⟨f6, gf⟩ := hb_unc gf
      have f6 : 0 ≤ -1 + ((-1) * ρ1 4 + (1 * ρ1 70 + 0)) := f6
      rw [r4, r70] at f6
      obtain ⟨f7, gf⟩ := hb_unc gf
      have f7 : 0 ≤ 1 + (1 * ρ1 4 + ((-1) * ρ1 70 + 0)) := f7
      rw [r4, r70] at f7
      have hy1 : y1 = x1 := hb_inj f0 f1
      subst y1
      have hy2 : y2 = x2 := hb_inj f2 f3
      subst y2
      have hy3 : y3 = x3 := hb_inj f4 f5
      subst y3
      exact k0 M' y4 gs gx gw g8 ge  (by have h1 := f6; have h2 := f7; omega)
    cases hs
  · intro r S hpo
    obtain ⟨b1, b2, b3, b4, b5, p, hp, res, hf, hre⟩ := hpo
    rcases List.mem_cons.mp hp with rfl | hp
    · obtain ⟨x, rfl, hr, hz1, hu1⟩ := mz_re_0 mz_GG hre rfl
      obtain ⟨M', z', u'⟩ := S
      cases hz1
      cases hu1
      have r66 : hb_r1 mz_GG hi_n47_q (hb_rb mz_GG hi_n47_q 5 [some (.ref 47), some (.int x1), some (.int x2), some (.int x3), some (.int x4)] [] M) M' res 66 = res := rfl
      obtain ⟨f0, hf⟩ := hb_unc hf
      have f0 : 0 ≤ 0 + (1 * res + 0) := f0
      rw [← hr] at f0
      obtain ⟨f1, hf⟩ := hb_unc hf
      have f1 : 0 ≤ 0 + ((-1) * res + 0) := f1
      rw [← hr] at f1
      exact w0 M' x b1 b2 b3 b4 b5 (by have h1 := f0; omega) (by have h1 := f1; omega)
    cases hp

theorem hi_l47 {d z u : Nat} {Q : (Option Value ⊕ Nat) → mq_S → Prop} {M0 : Nat → mq_C} {x1 x2 : Int32} {N : Int} (hd : 3 ≤ d) (hz : 272 ≤ z) (p1 : 0 ≤ x1.toInt) (p2 : x1.toInt ≤ 236) (p3 : 0 ≤ x2.toInt) (p4 : 0 ≤ N) (p5 : N ≤ 6)
    (K : ∀ (M' : Nat → mq_C) (r : Int32), mz_sh mz_GG M' → HX M' → hi_R M0 M' → 0 ≤ r.toInt → 0 ≤ 1 - r.toInt → Q (.inl (some (.int r))) (M', z, u)) :
    ∀ (m : Nat) (M : Nat → mq_C) (x3 x4 : Int32), (m : Int) + x4.toInt = 7 → 0 ≤ x4.toInt → mz_sh mz_GG M → hi_X 47 M → hi_R M0 M → hv M 48 (x1.toInt.toNat + 1) = N → x2.toInt ≤ x3.toInt → x4.toInt ≤ N → (∀ j : Nat, (j : Int) < x4.toInt → hv M 57 j + hv M 56 j + 2 ≤ 240) → mq_R mq_PP d 52 56 [some (.ref 47), some (.int x1), some (.int x2), some (.int x3), some (.int x4)] [] (M, z, u) Q := by
  intro m
  induction m with
  | zero =>
    intro M x3 x4 e1 e2 hm hx hR hN q1 q2 hI
    omega
  | succ m ih =>
    intro M x3 x4 e1 e2 hm hx hR hN q1 q2 hI
    obtain ⟨d, rfl⟩ : ∃ d', d = d' + 1 := ⟨d - 1, by omega⟩
    refine he_iload (n := 58) (i := 4) (by decide +kernel) rfl ?_
    refine he_aload (n := 59) (i := 0) (by decide +kernel) rfl ?_
    refine he_getr (n := 62) (ci := 1) (j := 0) (ns := [1214, 9]) (b := 48) hm (by decide +kernel) rfl rfl (by decide +kernel) ?_
    refine he_iload (n := 63) (i := 1) (by decide +kernel) rfl ?_
    refine he_iconst (n := 64) (c := 1) (by decide +kernel) (by decide) ?_
    intro c63 hc63
    refine he_iadd (n := 65) (by decide +kernel) (by omega) (by omega) ?_
    intro v64 hv64
    refine hb_ld (n := 66) (kind := 64) hm (by decide +kernel) rfl rfl (.inl rfl) (by omega) (show _ < (240 : Int) by omega) hb_at1 ?_
    intro v65 hv65 lv65 uv65
    have hv65' : v65.toInt = N := by
      rw [← hv65, show v64.toInt.toNat = x1.toInt.toNat + 1 by omega]
      exact hN
    by_cases h66 : v65.toInt ≤ x4.toInt
    · skip
      refine he_cmpge_t (n := 69) (t := 110) (by decide +kernel) (by omega) ?_
      refine he_aload (n := 111) (i := 0) (by decide +kernel) rfl ?_
      refine he_aload (n := 112) (i := 0) (by decide +kernel) rfl ?_
      refine he_getr (n := 115) (ci := 1) (j := 0) (ns := [1214, 9]) (b := 48) hm (by decide +kernel) rfl rfl (by decide +kernel) ?_
      refine he_iload (n := 116) (i := 1) (by decide +kernel) rfl ?_
      refine he_iconst (n := 117) (c := 1) (by decide +kernel) (by decide) ?_
      intro c116 hc116
      refine he_iadd (n := 118) (by decide +kernel) (by omega) (by omega) ?_
      intro v117 hv117
      refine hb_ld (n := 119) (kind := 64) hm (by decide +kernel) rfl rfl (.inl rfl) (by omega) (show _ < (240 : Int) by omega) hb_at1 ?_
      intro v118 hv118 lv118 uv118
      have hv118' : v118.toInt = N := by
        rw [← hv118, show v117.toInt.toNat = x1.toInt.toNat + 1 by omega]
        exact hN
      refine hb_pfd (n := 122) (ci := 1) (j := 4) (t := 0) (ns := [1224, 30]) hm (by decide +kernel) rfl rfl (by decide) (.inl rfl) ?_
      generalize hM1 : hb_set M 47 4 v118 = M1
      have hm1 : mz_sh mz_GG M1 := by rw [← hM1]; exact hb_set_sh hm rfl rfl (by omega) (by omega)
      have eM1 : ∀ b j, b ≠ 47 ∨ j ≠ 4 → hv M1 b j = hv M b j := by intro b j h; rw [← hM1]; exact hb_set_n h
      have sM1 : hv M1 47 4 = v118.toInt := by rw [← hM1]; exact hb_set_v hm rfl (by decide)
      have wM1 : ∀ b, b ≠ 47 → M1 b = M b := by intro b h; rw [← hM1]; exact hb_set_c h
      refine he_iload (n := 123) (i := 3) (by decide +kernel) rfl ?_
      refine he_iload (n := 124) (i := 1) (by decide +kernel) rfl ?_
      have hxn : HX M1 := by
        intro k
        by_cases e : k = 5
        · subst e
          intro j h1 h2
          have h2 : (j : Int) < hv M1 47 4 := h2
          rw [sM1] at h2
          have h3 := hI j (by omega)
          show hv M1 (47 + 10) j + hv M1 (47 + 9) j + 2 ≤ 240
          rw [eM1 _ _ (.inl (by decide)), eM1 _ _ (.inl (by decide))]
          omega
        · rw [← hM1]
          exact hxk_s (hi_sp47 k e _ _ (by omega)) (hx.1 k)
      have R1 : hi_R M M1 := hi_Ro (W := [47]) (hb_only_s hb_only_r (by decide) wM1) (by decide)
      have R01 := hi_Rt hR R1
      by_cases h124 : x3.toInt = x1.toInt
      · skip
        refine he_cmpne_f (n := 127) (t := 131) (by decide +kernel) (by omega) ?_
        refine he_iconst (n := 128) (c := 1) (by decide +kernel) (by decide) ?_
        intro c127 hc127
        refine he_goto (t := 132) (by decide +kernel) ?_
        refine he_retz (by decide +kernel) (by omega) ?_
        exact K M1 _ hm1 hxn R01 (by omega) (by omega)
      · skip
        refine he_cmpne_t (n := 127) (t := 131) (by decide +kernel) (by omega) ?_
        refine he_iconst (n := 132) (c := 0) (by decide +kernel) (by decide) ?_
        intro c131 hc131
        refine he_retz (by decide +kernel) (by omega) ?_
        exact K M1 _ hm1 hxn R01 (by omega) (by omega)
    · skip
      refine he_cmpge_f (n := 69) (t := 110) (by decide +kernel) (by omega) ?_
      refine he_aload (n := 70) (i := 0) (by decide +kernel) rfl ?_
      refine he_iload (n := 72) (i := 4) (by decide +kernel) rfl ?_
      refine he_iload (n := 73) (i := 3) (by decide +kernel) rfl ?_
      refine he_iload (n := 74) (i := 1) (by decide +kernel) rfl ?_
      refine he_v3 (n := 77) (j := 53) (ci := 1) (mx := 8) (ns := [3017, 3019, 15, 90]) (by decide +kernel) ((hb_kd (a := 47) hm rfl).trans rfl) (by decide) (by show 4 ≤ 8; omega) ?_
      rw [mq_e53]
      refine hi_r47 (x1 := x4) (x2 := x3) (x3 := x1) (by omega) hz hm hx (by omega) (by omega) (by omega) (by omega) ?_
      intro M2 r hm2 hx2 hR2 hn2 hb2 hr
      have R02 := hi_Rt hR hR2
      show mq_R mq_PP (d + 1) 52 77 _ [.int r] (M2, z, u) Q
      refine he_istore (n := 78) (i := 3) (by decide +kernel) rfl ?_
      refine he_iload (n := 79) (i := 3) (by decide +kernel) rfl ?_
      refine he_iconst (n := 80) (c := -1) (by decide +kernel) (by decide) ?_
      intro c79 hc79
      by_cases h80 : r.toInt = -1
      · skip
        refine he_cmpeq_t (n := 83) (t := 102) (by decide +kernel) (by omega) ?_
        refine he_iconst (n := 103) (c := 0) (by decide +kernel) (by decide) ?_
        intro c102 hc102
        refine he_retz (by decide +kernel) (by omega) ?_
        exact K M2 _ hm2 hx2.1 R02 (by omega) (by omega)
      · skip
        refine he_cmpeq_f (n := 83) (t := 102) (by decide +kernel) (by omega) ?_
        refine he_aload (n := 84) (i := 0) (by decide +kernel) rfl ?_
        refine he_iload (n := 86) (i := 4) (by decide +kernel) rfl ?_
        refine he_iload (n := 87) (i := 2) (by decide +kernel) rfl ?_
        refine he_v2 (n := 90) (j := 54) (ci := 1) (mx := 4) (ns := [3022, 3024, 16, 94]) (by decide +kernel) ((hb_kd (a := 47) hm2 rfl).trans rfl) (by decide) (by show 3 ≤ 4; omega) ?_
        rw [mq_e54]
        refine hi_y47 hm2 (by omega) (by omega) (by omega) (fun r2 hr2 => ?_) (fun r2 hr2 hI2 => ?_)
        · show mq_R mq_PP (d + 1) 52 90 _ [.int r2] (M2, z, u) Q
          refine he_ifeq_t (n := 93) (t := 102) (by decide +kernel) (by omega) ?_
          refine he_iconst (n := 103) (c := 0) (by decide +kernel) (by decide) ?_
          intro c102 hc102
          refine he_retz (by decide +kernel) (by omega) ?_
          exact K M2 _ hm2 hx2.1 R02 (by omega) (by omega)
        · show mq_R mq_PP (d + 1) 52 90 _ [.int r2] (M2, z, u) Q
          refine he_ifeq_f (n := 93) (t := 102) (by decide +kernel) (by omega) ?_
          refine hi_n47 (hi_Xs (a := 47) (by decide)) (hi_C (hi_Xs (a := 47) (by decide))) (by omega) hz hm2 hx2 (by omega) (by omega) ?_ ?_
          · intro M3 y4 k1 k2 k3 k4 k5
            intros
            refine ih M3 r y4 (by omega) (by omega) k1 k2 (hi_Rt R02 (hi_Rb (by decide) rfl k3 k4 k5)) ?_ (by omega) (by omega) ?_
            · rw [hb_vc (k3 _ (by decide) rfl), hb2]
              exact hN
            · intro j hj
              rw [hb_vc (k3 _ (by decide) rfl), hb_vc (k3 _ (by decide) rfl)]
              by_cases e : j = x4.toInt.toNat
              · rw [e]
                omega
              · rw [(hn2 j e).1, (hn2 j e).2]
                exact hI j (by omega)
          · intro M3 r3 k1 k2 k3 k4 k5 l1 l2
            exact K M3 r3 k1 k2.1 (hi_Rt R02 (hi_Rb (by decide) rfl k3 k4 k5)) (by omega) (by omega)
theorem hi_s47 {d z u : Nat} {Q : (Option Value ⊕ Nat) → mq_S → Prop} {M : Nat → mq_C} (hd : 3 ≤ d) (hz : 272 ≤ z) (hm : mz_sh mz_GG M) (hx : HX M)
    (K : ∀ (M' : Nat → mq_C) (r : Int32), mz_sh mz_GG M' → HX M' → hi_R M M' → 0 ≤ r.toInt → 0 ≤ 1 - r.toInt → Q (.inl (some (.int r))) (M', z, u)) : mq_R mq_PP d 52 0 [some (.ref 47), none, none, none, none] [] (M, z, u) Q := by
  refine he_aload (n := 1) (i := 0) (by decide +kernel) rfl ?_
  refine hb_gfd (n := 4) (ci := 1) (j := 1) (ns := [1217, 15]) hm (by decide +kernel) rfl rfl (by decide) rfl ?_
  intro v1 hv1 lv1 uv1
  refine he_iconst (n := 5) (c := 4) (by decide +kernel) (by decide) ?_
  intro c4 hc4
  refine he_isub (n := 6) (by decide +kernel) (by omega) (by omega) ?_
  intro v5 hv5
  refine he_istore (n := 7) (i := 1) (by decide +kernel) rfl ?_
  refine he_aload (n := 8) (i := 0) (by decide +kernel) rfl ?_
  refine he_iconst (n := 9) (c := 0) (by decide +kernel) (by decide) ?_
  intro c8 hc8
  refine hb_pfd (n := 12) (ci := 1) (j := 4) (t := 0) (ns := [1224, 30]) hm (by decide +kernel) rfl rfl (by decide) (.inl rfl) ?_
  generalize hM1 : hb_set M 47 4 c8 = M1
  have hm1 : mz_sh mz_GG M1 := by rw [← hM1]; exact hb_set_sh hm rfl rfl (by omega) (by omega)
  have eM1 : ∀ b j, b ≠ 47 ∨ j ≠ 4 → hv M1 b j = hv M b j := by intro b j h; rw [← hM1]; exact hb_set_n h
  have sM1 : hv M1 47 4 = c8.toInt := by rw [← hM1]; exact hb_set_v hm rfl (by decide)
  have wM1 : ∀ b, b ≠ 47 → M1 b = M b := by intro b h; rw [← hM1]; exact hb_set_c h
  refine he_iload (n := 13) (i := 1) (by decide +kernel) rfl ?_
  have h4 : hv M1 47 4 = 0 := by rw [sM1]; omega
  have hx1 : hi_X 47 M1 := by
    refine ⟨fun k => ?_, h4⟩
    by_cases e : k = 5
    · subst e
      intro j h1 h2
      have h2 : (j : Int) < hv M1 47 4 := h2
      omega
    · rw [← hM1]
      exact hxk_s (hi_sp47 k e _ _ (by omega)) (hx k)
  have R1 : hi_R M M1 := hi_Ro (W := [47]) (hb_only_s hb_only_r (by decide) wM1) (by decide)
  by_cases h13 : v5.toInt < 0
  · skip
    refine he_iflt_t (n := 16) (t := 40) (by decide +kernel) (by omega) ?_
    refine he_iconst (n := 41) (c := 0) (by decide +kernel) (by decide) ?_
    intro c40 hc40
    refine he_retz (by decide +kernel) (by omega) ?_
    exact K M1 _ hm1 hx1.1 R1 (by omega) (by omega)
  · skip
    refine he_iflt_f (n := 16) (t := 40) (by decide +kernel) (by omega) ?_
    refine he_aload (n := 17) (i := 0) (by decide +kernel) rfl ?_
    refine he_getr (n := 20) (ci := 1) (j := 0) (ns := [1214, 9]) (b := 48) hm1 (by decide +kernel) rfl rfl (by decide +kernel) ?_
    refine he_iload (n := 21) (i := 1) (by decide +kernel) rfl ?_
    refine hb_ld (n := 22) (kind := 64) hm1 (by decide +kernel) rfl rfl (.inl rfl) (by omega) (show _ < (240 : Int) by omega) hb_at1 ?_
    intro v21 hv21 lv21 uv21
    refine he_iconst (n := 24) (c := 80) (by decide +kernel) (by decide) ?_
    intro c22 hc22
    by_cases h24 : v21.toInt = c22.toInt
    · skip
      refine he_cmpne_f (n := 27) (t := 40) (by decide +kernel) (by omega) ?_
      refine he_aload (n := 28) (i := 0) (by decide +kernel) rfl ?_
      refine he_getr (n := 31) (ci := 1) (j := 0) (ns := [1214, 9]) (b := 48) hm1 (by decide +kernel) rfl rfl (by decide +kernel) ?_
      refine he_iload (n := 32) (i := 1) (by decide +kernel) rfl ?_
      refine he_iconst (n := 33) (c := 1) (by decide +kernel) (by decide) ?_
      intro c32 hc32
      refine he_iadd (n := 34) (by decide +kernel) (by omega) (by omega) ?_
      intro v33 hv33
      refine hb_ld (n := 35) (kind := 64) hm1 (by decide +kernel) rfl rfl (.inl rfl) (by omega) (show _ < (240 : Int) by omega) hb_at1 ?_
      intro v34 hv34 lv34 uv34
      refine he_iconst (n := 37) (c := 6) (by decide +kernel) (by decide) ?_
      intro c35 hc35
      by_cases h37 : v34.toInt ≤ c35.toInt
      · skip
        refine he_cmple_t (n := 40) (t := 42) (by decide +kernel) (by omega) ?_
        refine hi_m47 (hi_Xs (a := 47) (by decide)) (hi_C (hi_Xs (a := 47) (by decide))) (by omega) hz hm1 hx1 rfl rfl rfl (by omega) (by omega) ?_
        intro M2 y2 y4 k1 k2 k3 k4 k5
        intros
        refine hi_l47 (M0 := M) (x2 := y2) (N := v34.toInt) hd hz (by omega) (by omega) (by omega) (by omega) (by omega) K 7 M2 y2 y4 (by omega) (by omega) k1 k2 (hi_Rt R1 (hi_Rb (by decide) rfl k3 k4 k5)) ?_ (by omega) (by omega) (fun j hj => by omega)
        rw [hb_vc (k3 _ (by decide) rfl), ← hv34, show v33.toInt.toNat = v5.toInt.toNat + 1 by omega]
      · skip
        refine he_cmple_f (n := 40) (t := 42) (by decide +kernel) (by omega) ?_
        refine he_iconst (n := 41) (c := 0) (by decide +kernel) (by decide) ?_
        intro c40 hc40
        refine he_retz (by decide +kernel) (by omega) ?_
        exact K M1 _ hm1 hx1.1 R1 (by omega) (by omega)
    · skip
      refine he_cmpne_t (n := 27) (t := 40) (by decide +kernel) (by omega) ?_
      refine he_iconst (n := 41) (c := 0) (by decide +kernel) (by decide) ?_
      intro c40 hc40
      refine he_retz (by decide +kernel) (by omega) ?_
      exact K M1 _ hm1 hx1.1 R1 (by omega) (by omega)
theorem hi_sp58 (k : Nat) (hk : k ≠ 6) (b i : Nat) (hb : b = 67 ∨ b = 68 ∨ b = 58 ∧ i = 4) : hsp k b i = false := by
  match k with
  | 0 | 1 | 2 | 3 | 4 | 5 | 6 | 7 | 8 | 9 | 10 | 11 | 12 | 13 | 14 | 15 | 16 | 17 | 18 | 19 | 20 | 21 | 22 | 23 | 24 | 25 | 26 | 27 | 28 | 29 => first | exact absurd rfl hk | (exact decide_eq_false (by omega))
  | n + 30 => rfl
theorem hi_xs58 {M : Nat → mq_C} {b i : Nat} {v : Int32} (hx : hi_X 58 M) (hb : b = 67 ∨ b = 68) : hi_X 58 (hb_set M b i v) := by
  have h4 : hv (hb_set M b i v) 58 4 = 0 := by rw [show hv (hb_set M b i v) 58 4 = hv M 58 4 from hb_set_n (.inl (by omega))]; exact hx.2
  refine ⟨fun k => ?_, h4⟩
  by_cases e : k = 6
  · subst e
    intro j h1 h2
    have h2 : (j : Int) < hv (hb_set M b i v) 58 4 := h2
    omega
  · exact hxk_s (hi_sp58 k e b i (by omega)) (hx.1 k)
def hi_a58_q : mz_Q := (53, [(1, 58), (0, 0), (0, 0), (0, 0), (3, 0), (3, 0), (3, 0), (3, 0)], [(0, [(1, 1)]), (5, [(1, -1)]), (0, [(2, 1)]), (236, [(3, -1)])], [], [(0, 0, [(1, [(69, 1)]), (-1, [(69, -1)])])], [63, 64, 65, 66])
def hi_a58_s : List mz_Sp2 := [(125, [(1, 58), (0, 0), (0, 0), (0, 0), (0, 0), (0, 0), (0, 0), (3, 0)], [(0, 0), (0, 0), (1, 67)], [(0, [(1, -1), (70, 1)]), (0, [(1, 1), (70, -1)]), (0, [(2, -1), (71, 1)]), (0, [(2, 1), (71, -1)]), (0, [(3, -1), (72, 1)]), (0, [(3, 1), (72, -1)]), (-12, [(2, -1), (73, -1), (74, 1)]), (12, [(2, 1), (73, 1), (74, -1)]), (-1, [(2, -1), (73, -1), (75, 1)]), (1, [(2, 1), (73, 1), (75, -1)]), (0, [(1, -1), (78, 1)]), (0, [(1, 1), (78, -1)]), (-1, [(2, -1), (3, 1)]), (255, [(73, -1)]), (0, [(73, 1)]), (-1, [(73, 1)]), (4, [(73, -1)]), (-12, [(2, -1), (3, 1), (73, -1)]), (0, [(77, 1)]), (65535, [(77, -1)])])]
def hi_a58_h : List mz_H := [(0, 0, []), (0, 0, []), (59, 0, []), (0, 0, [(3, 1)]), (0, 0, [(0, 1), (4, 1)]), (0, 0, []), (0, 0, [(5, 1)]), (0, 0, [(2, 1), (6, 1)]), (0, 0, []), (0, 0, [(0, 1), (5, 1)]), (0, 0, [(1, 1), (2, 1), (6, 1)]), (0, 0, []), (0, 0, []), (0, 0, []), (0, 0, []), (0, 0, []), (0, 0, []), (0, 0, []), (0, 0, []), (0, 0, []), (0, 0, []), (0, 0, []), (0, 0, []), (0, 0, []), (0, 0, [(8, 1)]), (0, 0, [(0, 1), (2, 1), (9, 1)]), (0, 0, []), (0, 0, [(2, 1), (8, 1)]), (0, 0, [(0, 1), (9, 1)]), (63, 0, []), (0, 0, []), (0, 0, [(8, 1)]), (0, 0, [(0, 1), (2, 1), (9, 1)]), (1, 0, []), (0, 0, [(8, 1)]), (0, 0, [(2, 1)]), (0, 0, [(0, 1), (9, 1)]), (0, 0, [(2, 1)]), (0, 0, [(1, 1)]), (0, 0, []), (0, 0, [(8, 1)]), (0, 0, [(9, 1)]), (0, 0, [(0, 1)]), (0, 0, [(1, 1)]), (64, 0, []), (59, 0, []), (0, 0, [(4, 1), (10, 1)]), (0, 0, [(2, 1), (11, 1)]), (0, 0, [(10, 1)]), (0, 0, [(11, 1)]), (0, 0, [(0, 1)]), (0, 0, [(1, 1)]), (65, 0, []), (0, 0, []), (0, 0, [(6, 1), (12, 1)]), (0, 0, [(4, 1), (13, 1)]), (1, 0, []), (0, 0, [(6, 1), (12, 1)]), (0, 0, []), (0, 0, [(4, 1), (13, 1)]), (0, 0, []), (0, 0, []), (0, 0, []), (0, 0, [(12, 1)]), (0, 0, [(13, 1)]), (0, 0, [(0, 1)]), (0, 0, [(1, 1)]), (66, 0, []), (0, 0, []), (0, 0, [(8, 1), (14, 1)]), (0, 0, [(6, 1), (15, 1)]), (0, 0, []), (0, 0, [(8, 1), (14, 1)]), (0, 0, [(6, 1), (15, 1)]), (0, 0, []), (0, 0, []), (0, 0, []), (0, 0, [(16, 1)]), (0, 0, [(17, 1)]), (0, 0, [(1, 1)]), (0, 0, [(0, 1)]), (67, 0, []), (0, 0, []), (0, 0, [(12, 1), (18, 1)]), (0, 0, [(10, 1), (19, 1)]), (0, 0, []), (0, 0, [(12, 1), (18, 1)]), (0, 0, [(10, 1), (19, 1)]), (0, 0, []), (0, 0, []), (0, 0, []), (0, 0, []), (0, 0, []), (0, 0, []), (0, 0, []), (0, 0, []), (0, 0, []), (0, 0, []), (0, 0, []), (0, 0, []), (0, 0, []), (0, 0, []), (0, 0, []), (0, 0, []), (0, 0, [(19, 1)]), (0, 0, [(15, 1)]), (0, 0, [(16, 1)]), (0, 0, [(16, 1)]), (0, 0, [(15, 1)]), (0, 0, [(14, 1)]), (0, 0, [(1, 1)]), (0, 0, [(0, 1)]), (0, 0, []), (0, 0, []), (0, 0, []), (0, 0, []), (0, 0, []), (0, 0, [])]
set_option maxRecDepth 100000 in
theorem hi_a58_c : mz_blk mz_GG mq_PP hi_Cs hi_a58_q 8 2 0 hi_a58_s [] 90 hi_a58_h = true := by decide +kernel
theorem hi_a58 {X : (Nat → mq_C) → Prop} (hX : ∀ M M' : Nat → mq_C, mz_same mz_GG M M' → X M → X M') (hC : ∀ c ∈ hi_Cs, c.2 < 2 → mz_Ct mz_GG mq_PP X c.1 c.2) {d z u : Nat} {M : Nat → mq_C} {Q : (Option Value ⊕ Nat) → mq_S → Prop} {x1 : Int32} {x2 : Int32} {x3 : Int32} {o4 : Option Value} {o5 : Option Value} {o6 : Option Value} {o7 : Option Value} (hd : 2 ≤ d) (hz : 272 ≤ z) (hm : mz_sh mz_GG M) (hx : X M) (h0 : mq_nl o4 = true) (h1 : mq_nl o5 = true) (h2 : mq_nl o6 = true) (h3 : mq_nl o7 = true) (p0 : 0 ≤ x1.toInt) (p1 : 0 ≤ 5 - x1.toInt) (p2 : 0 ≤ x2.toInt) (p3 : 0 ≤ 236 - x3.toInt)
    (k0 : ∀ (M' : Nat → mq_C) (y4 : Int32) (y5 : Int32) (y6 : Int32) (w7 : Option Value) (y8 : Int32), mz_sh mz_GG M' → X M' → mz_fr hi_a58_q M M' → (∀ a, a < 8 → M' a = M a) → hb_same mz_GG hi_a58_q M M' → mq_nl w7 = true → y5.toInt = 12 + x2.toInt + y4.toInt → y6.toInt = 1 + x2.toInt + y4.toInt → 0 ≤ (-1) - x2.toInt + x3.toInt → 0 ≤ 255 - y4.toInt → 0 ≤ y4.toInt → 0 ≤ (-1) + y4.toInt → 0 ≤ 4 - y4.toInt → 0 ≤ (-12) - x2.toInt + x3.toInt - y4.toInt → 0 ≤ y8.toInt → 0 ≤ 65535 - y8.toInt → mq_R mq_PP d 53 125 [some (.ref 58), some (.int x1), some (.int x2), some (.int x3), some (.int y4), some (.int y5), some (.int y6), w7] [.int y8, .int x1, .ref 67] (M', z, u) Q)
    (w0 : ∀ (M' : Nat → mq_C) (r : Int32), mz_sh mz_GG M' → X M' → mz_fr hi_a58_q M M' → (∀ a, a < 8 → M' a = M a) → hb_same mz_GG hi_a58_q M M' → 0 ≤ 1 + r.toInt → 0 ≤ (-1) - r.toInt → Q (.inl (some (.int r))) (M', z, u)) : mq_R mq_PP d 53 0 [some (.ref 58), some (.int x1), some (.int x2), some (.int x3), o4, o5, o6, o7] [] (M, z, u) Q := by
  refine hb_blk mz_GG mq_PP X (q := hi_a58_q) (nl := 8) (M := M) hb_okG hX hC hi_a58_c hz hd (L := [some (.ref 58), some (.int x1), some (.int x2), some (.int x3), o4, o5, o6, o7]) (st := []) (show hb_lk mz_GG ([(1, 58), (0, 0), (0, 0), (0, 0), (3, 0), (3, 0), (3, 0), (3, 0)]) _ from ⟨⟨List.mem_singleton.mpr rfl, rfl⟩, trivial, trivial, trivial, h0, h1, h2, h3, trivial⟩) (show hb_pk mz_GG ([]) _ from trivial) hm hx ?_ ?_ ?_
  · exact hb_cons (show 0 ≤ mz_ev _ _ from (show 0 ≤ 0 + (1 * x1.toInt + 0) by omega)) (hb_cons (show 0 ≤ mz_ev _ _ from (show 0 ≤ 5 + ((-1) * x1.toInt + 0) by omega)) (hb_cons (show 0 ≤ mz_ev _ _ from (show 0 ≤ 0 + (1 * x2.toInt + 0) by omega)) (hb_cons (show 0 ≤ mz_ev _ _ from (show 0 ≤ 236 + ((-1) * x3.toInt + 0) by omega)) (hb_nil))))
  · intro s hs
    rcases List.mem_cons.mp hs with rfl | hs
    · intro ρ1 L' st' M' g1 g2 gm gr gf gs gx gw g8 ge
      obtain ⟨e0, L1, rfl, n0, gg0⟩ := hb_l1 mz_GG g1
      obtain rfl : e0 = 58 := List.mem_singleton.mp n0
      obtain ⟨y1, L1, rfl, qr70, gg1⟩ := hb_l0 mz_GG gg0
      have r70 : ρ1 70 = y1.toInt := qr70
      obtain ⟨y2, L1, rfl, qr71, gg2⟩ := hb_l0 mz_GG gg1
      have r71 : ρ1 71 = y2.toInt := qr71
      obtain ⟨y3, L1, rfl, qr72, gg3⟩ := hb_l0 mz_GG gg2
      have r72 : ρ1 72 = y3.toInt := qr72
      obtain ⟨y4, L1, rfl, qr73, gg4⟩ := hb_l0 mz_GG gg3
      have r73 : ρ1 73 = y4.toInt := qr73
      obtain ⟨y5, L1, rfl, qr74, gg5⟩ := hb_l0 mz_GG gg4
      have r74 : ρ1 74 = y5.toInt := qr74
      obtain ⟨y6, L1, rfl, qr75, gg6⟩ := hb_l0 mz_GG gg5
      have r75 : ρ1 75 = y6.toInt := qr75
      obtain ⟨w7, L1, rfl, n7, gg7⟩ := hb_l3 mz_GG gg6
      obtain ⟨y8, s1, rfl, qr77, gg8⟩ := hb_p0 mz_GG g2
      have r77 : ρ1 77 = y8.toInt := qr77
      obtain ⟨y9, s1, rfl, qr78, gg9⟩ := hb_p0 mz_GG gg8
      have r78 : ρ1 78 = y9.toInt := qr78
      obtain ⟨e10, s1, rfl, n10, gg10⟩ := hb_p1 mz_GG gg9
      obtain rfl : e10 = 67 := List.mem_singleton.mp n10
      obtain rfl := hb_ln mz_GG gg7
      obtain rfl := hb_pn mz_GG gg10
      have r1 : ρ1 1 = x1.toInt := gr 1 (by decide +kernel)
      have r2 : ρ1 2 = x2.toInt := gr 2 (by decide +kernel)
      have r3 : ρ1 3 = x3.toInt := gr 3 (by decide +kernel)
      obtain ⟨f0, gf⟩ := hb_unc gf
      have f0 : 0 ≤ 0 + ((-1) * ρ1 1 + (1 * ρ1 70 + 0)) := f0
      rw [r1, r70] at f0
      obtain ⟨f1, gf⟩ := hb_unc gf
      have f1 : 0 ≤ 0 + (1 * ρ1 1 + ((-1) * ρ1 70 + 0)) := f1
      rw [r1, r70] at f1
      obtain ⟨f2, gf⟩ := hb_unc gf
      have f2 : 0 ≤ 0 + ((-1) * ρ1 2 + (1 * ρ1 71 + 0)) := f2
      rw [r2, r71] at f2
      obtain ⟨f3, gf⟩ := hb_unc gf
      have f3 : 0 ≤ 0 + (1 * ρ1 2 + ((-1) * ρ1 71 + 0)) := f3
      rw [r2, r71] at f3
      obtain ⟨f4, gf⟩ := hb_unc gf
      have f4 : 0 ≤ 0 + ((-1) * ρ1 3 + (1 * ρ1 72 + 0)) := f4
      rw [r3, r72] at f4
      obtain ⟨f5, gf⟩ := hb_unc gf
      have f5 : 0 ≤ 0 + (1 * ρ1 3 + ((-1) * ρ1 72 + 0)) := f5
      rw [r3, r72] at f5
      obtain ⟨f6, gf⟩ := hb_unc gf
      have f6 : 0 ≤ -12 + ((-1) * ρ1 2 + ((-1) * ρ1 73 + (1 * ρ1 74 + 0))) := f6
      rw [r2, r73, r74] at f6
      obtain ⟨f7, gf⟩ := hb_unc gf
      have f7 : 0 ≤ 12 + (1 * ρ1 2 + (1 * ρ1 73 + ((-1) * ρ1 74 + 0))) := f7
      rw [r2, r73, r74] at f7
      obtain ⟨f8, gf⟩ := hb_unc gf
      have f8 : 0 ≤ -1 + ((-1) * ρ1 2 + ((-1) * ρ1 73 + (1 * ρ1 75 + 0))) := f8
      rw [r2, r73, r75] at f8
      obtain ⟨f9, gf⟩ := hb_unc gf
      have f9 : 0 ≤ 1 + (1 * ρ1 2 + (1 * ρ1 73 + ((-1) * ρ1 75 + 0))) := f9
      rw [r2, r73, r75] at f9
      obtain ⟨f10, gf⟩ := hb_unc gf
      have f10 : 0 ≤ 0 + ((-1) * ρ1 1 + (1 * ρ1 78 + 0)) := f10
      rw [r1, r78] at f10
      obtain ⟨f11, gf⟩ := hb_unc gf
      have f11 : 0 ≤ 0 + (1 * ρ1 1 + ((-1) * ρ1 78 + 0)) := f11
      rw [r1, r78] at f11
      obtain ⟨f12, gf⟩ := hb_unc gf
      have f12 : 0 ≤ -1 + ((-1) * ρ1 2 + (1 * ρ1 3 + 0)) := f12
      rw [r2, r3] at f12
      obtain ⟨f13, gf⟩ := hb_unc gf
      have f13 : 0 ≤ 255 + ((-1) * ρ1 73 + 0) := f13
      rw [r73] at f13
      obtain ⟨f14, gf⟩ := hb_unc gf
      have f14 : 0 ≤ 0 + (1 * ρ1 73 + 0) := f14
      rw [r73] at f14
      obtain ⟨f15, gf⟩ := hb_unc gf
      have f15 : 0 ≤ -1 + (1 * ρ1 73 + 0) := f15
      rw [r73] at f15
      obtain ⟨f16, gf⟩ := hb_unc gf
      have f16 : 0 ≤ 4 + ((-1) * ρ1 73 + 0) := f16
      rw [r73] at f16
      obtain ⟨f17, gf⟩ := hb_unc gf
      have f17 : 0 ≤ -12 + ((-1) * ρ1 2 + (1 * ρ1 3 + ((-1) * ρ1 73 + 0))) := f17
      rw [r2, r3, r73] at f17
      obtain ⟨f18, gf⟩ := hb_unc gf
      have f18 : 0 ≤ 0 + (1 * ρ1 77 + 0) := f18
      rw [r77] at f18
      obtain ⟨f19, gf⟩ := hb_unc gf
      have f19 : 0 ≤ 65535 + ((-1) * ρ1 77 + 0) := f19
      rw [r77] at f19
      have hy1 : y1 = x1 := hb_inj f0 f1
      subst y1
      have hy2 : y2 = x2 := hb_inj f2 f3
      subst y2
      have hy3 : y3 = x3 := hb_inj f4 f5
      subst y3
      have hy9 : y9 = x1 := hb_inj f10 f11
      subst y9
      exact k0 M' y4 y5 y6 w7 y8 gs gx gw g8 ge n7 (by have h1 := f6; have h2 := f7; omega) (by have h1 := f8; have h2 := f9; omega) (by have h1 := f12; omega) (by have h1 := f13; omega) (by have h1 := f14; omega) (by have h1 := f15; omega) (by have h1 := f16; omega) (by have h1 := f17; omega) (by have h1 := f18; omega) (by have h1 := f19; omega)
    cases hs
  · intro r S hpo
    obtain ⟨b1, b2, b3, b4, b5, p, hp, res, hf, hre⟩ := hpo
    rcases List.mem_cons.mp hp with rfl | hp
    · obtain ⟨x, rfl, hr, hz1, hu1⟩ := mz_re_0 mz_GG hre rfl
      obtain ⟨M', z', u'⟩ := S
      cases hz1
      cases hu1
      have r69 : hb_r1 mz_GG hi_a58_q (hb_rb mz_GG hi_a58_q 8 [some (.ref 58), some (.int x1), some (.int x2), some (.int x3), o4, o5, o6, o7] [] M) M' res 69 = res := rfl
      obtain ⟨f0, hf⟩ := hb_unc hf
      have f0 : 0 ≤ 1 + (1 * res + 0) := f0
      rw [← hr] at f0
      obtain ⟨f1, hf⟩ := hb_unc hf
      have f1 : 0 ≤ -1 + ((-1) * res + 0) := f1
      rw [← hr] at f1
      exact w0 M' x b1 b2 b3 b4 b5 (by have h1 := f0; omega) (by have h1 := f1; omega)
    cases hp

def hi_b58_q : mz_Q := (53, [(1, 58), (0, 0), (0, 0), (0, 0), (0, 0), (0, 0), (0, 0), (3, 0)], [(0, [(1, 1)]), (5, [(1, -1)]), (0, [(6, 1)]), (226, [(6, -1)])], [], [], [])
def hi_b58_s : List mz_Sp2 := [(141, [(1, 58), (0, 0), (0, 0), (0, 0), (0, 0), (0, 0), (0, 0), (3, 0)], [(0, 0), (0, 0), (1, 68)], [(0, [(1, -1), (70, 1)]), (0, [(1, 1), (70, -1)]), (0, [(2, -1), (71, 1)]), (0, [(2, 1), (71, -1)]), (0, [(3, -1), (72, 1)]), (0, [(3, 1), (72, -1)]), (0, [(4, -1), (73, 1)]), (0, [(4, 1), (73, -1)]), (0, [(5, -1), (74, 1)]), (0, [(5, 1), (74, -1)]), (0, [(6, -1), (75, 1)]), (0, [(6, 1), (75, -1)]), (0, [(1, -1), (78, 1)]), (0, [(1, 1), (78, -1)]), (0, [(77, 1)]), (65535, [(77, -1)])])]
def hi_b58_h : List mz_H := [(68, 0, []), (0, 0, []), (0, 0, [(2, 1)]), (0, 0, [(3, 1)]), (0, 0, []), (0, 0, [(2, 1)]), (0, 0, [(3, 1)]), (0, 0, []), (0, 0, []), (0, 0, []), (0, 0, []), (0, 0, []), (0, 0, []), (0, 0, []), (0, 0, []), (0, 0, []), (0, 0, []), (0, 0, []), (0, 0, []), (0, 0, []), (0, 0, []), (0, 0, []), (0, 0, []), (0, 0, []), (0, 0, []), (0, 0, [(1, 1)]), (0, 0, [(0, 1)])]
set_option maxRecDepth 100000 in
theorem hi_b58_c : mz_blk mz_GG mq_PP hi_Cs hi_b58_q 8 2 126 hi_b58_s [] 15 hi_b58_h = true := by decide +kernel
theorem hi_b58 {X : (Nat → mq_C) → Prop} (hX : ∀ M M' : Nat → mq_C, mz_same mz_GG M M' → X M → X M') (hC : ∀ c ∈ hi_Cs, c.2 < 2 → mz_Ct mz_GG mq_PP X c.1 c.2) {d z u : Nat} {M : Nat → mq_C} {Q : (Option Value ⊕ Nat) → mq_S → Prop} {x1 : Int32} {x2 : Int32} {x3 : Int32} {x4 : Int32} {x5 : Int32} {x6 : Int32} {o7 : Option Value} (hd : 2 ≤ d) (hz : 272 ≤ z) (hm : mz_sh mz_GG M) (hx : X M) (h0 : mq_nl o7 = true) (p0 : 0 ≤ x1.toInt) (p1 : 0 ≤ 5 - x1.toInt) (p2 : 0 ≤ x6.toInt) (p3 : 0 ≤ 226 - x6.toInt)
    (k0 : ∀ (M' : Nat → mq_C) (w7 : Option Value) (y8 : Int32), mz_sh mz_GG M' → X M' → mz_fr hi_b58_q M M' → (∀ a, a < 8 → M' a = M a) → hb_same mz_GG hi_b58_q M M' → mq_nl w7 = true → 0 ≤ y8.toInt → 0 ≤ 65535 - y8.toInt → mq_R mq_PP d 53 141 [some (.ref 58), some (.int x1), some (.int x2), some (.int x3), some (.int x4), some (.int x5), some (.int x6), w7] [.int y8, .int x1, .ref 68] (M', z, u) Q) : mq_R mq_PP d 53 126 [some (.ref 58), some (.int x1), some (.int x2), some (.int x3), some (.int x4), some (.int x5), some (.int x6), o7] [] (M, z, u) Q := by
  refine hb_blk mz_GG mq_PP X (q := hi_b58_q) (nl := 8) (M := M) hb_okG hX hC hi_b58_c hz hd (L := [some (.ref 58), some (.int x1), some (.int x2), some (.int x3), some (.int x4), some (.int x5), some (.int x6), o7]) (st := []) (show hb_lk mz_GG ([(1, 58), (0, 0), (0, 0), (0, 0), (0, 0), (0, 0), (0, 0), (3, 0)]) _ from ⟨⟨List.mem_singleton.mpr rfl, rfl⟩, trivial, trivial, trivial, trivial, trivial, trivial, h0, trivial⟩) (show hb_pk mz_GG ([]) _ from trivial) hm hx ?_ ?_ ?_
  · exact hb_cons (show 0 ≤ mz_ev _ _ from (show 0 ≤ 0 + (1 * x1.toInt + 0) by omega)) (hb_cons (show 0 ≤ mz_ev _ _ from (show 0 ≤ 5 + ((-1) * x1.toInt + 0) by omega)) (hb_cons (show 0 ≤ mz_ev _ _ from (show 0 ≤ 0 + (1 * x6.toInt + 0) by omega)) (hb_cons (show 0 ≤ mz_ev _ _ from (show 0 ≤ 226 + ((-1) * x6.toInt + 0) by omega)) (hb_nil))))
  · intro s hs
    rcases List.mem_cons.mp hs with rfl | hs
    · intro ρ1 L' st' M' g1 g2 gm gr gf gs gx gw g8 ge
      obtain ⟨e0, L1, rfl, n0, gg0⟩ := hb_l1 mz_GG g1
      obtain rfl : e0 = 58 := List.mem_singleton.mp n0
      obtain ⟨y1, L1, rfl, qr70, gg1⟩ := hb_l0 mz_GG gg0
      have r70 : ρ1 70 = y1.toInt := qr70
      obtain ⟨y2, L1, rfl, qr71, gg2⟩ := hb_l0 mz_GG gg1
      have r71 : ρ1 71 = y2.toInt := qr71
      obtain ⟨y3, L1, rfl, qr72, gg3⟩ := hb_l0 mz_GG gg2
      have r72 : ρ1 72 = y3.toInt := qr72
      obtain ⟨y4, L1, rfl, qr73, gg4⟩ := hb_l0 mz_GG gg3
      have r73 : ρ1 73 = y4.toInt := qr73
      obtain ⟨y5, L1, rfl, qr74, gg5⟩ := hb_l0 mz_GG gg4
      have r74 : ρ1 74 = y5.toInt := qr74
      obtain ⟨y6, L1, rfl, qr75, gg6⟩ := hb_l0 mz_GG gg5
      have r75 : ρ1 75 = y6.toInt := qr75
      obtain ⟨w7, L1, rfl, n7, gg7⟩ := hb_l3 mz_GG gg6
      obtain ⟨y8, s1, rfl, qr77, gg8⟩ := hb_p0 mz_GG g2
      have r77 : ρ1 77 = y8.toInt := qr77
      obtain ⟨y9, s1, rfl, qr78, gg9⟩ := hb_p0 mz_GG gg8
      have r78 : ρ1 78 = y9.toInt := qr78
      obtain ⟨e10, s1, rfl, n10, gg10⟩ := hb_p1 mz_GG gg9
      obtain rfl : e10 = 68 := List.mem_singleton.mp n10
      obtain rfl := hb_ln mz_GG gg7
      obtain rfl := hb_pn mz_GG gg10
      have r1 : ρ1 1 = x1.toInt := gr 1 (by decide +kernel)
      have r2 : ρ1 2 = x2.toInt := gr 2 (by decide +kernel)
      have r3 : ρ1 3 = x3.toInt := gr 3 (by decide +kernel)
      have r4 : ρ1 4 = x4.toInt := gr 4 (by decide +kernel)
      have r5 : ρ1 5 = x5.toInt := gr 5 (by decide +kernel)
      have r6 : ρ1 6 = x6.toInt := gr 6 (by decide +kernel)
      obtain ⟨f0, gf⟩ := hb_unc gf
      have f0 : 0 ≤ 0 + ((-1) * ρ1 1 + (1 * ρ1 70 + 0)) := f0
      rw [r1, r70] at f0
      obtain ⟨f1, gf⟩ := hb_unc gf
      have f1 : 0 ≤ 0 + (1 * ρ1 1 + ((-1) * ρ1 70 + 0)) := f1
      rw [r1, r70] at f1
      obtain ⟨f2, gf⟩ := hb_unc gf
      have f2 : 0 ≤ 0 + ((-1) * ρ1 2 + (1 * ρ1 71 + 0)) := f2
      rw [r2, r71] at f2
      obtain ⟨f3, gf⟩ := hb_unc gf
      have f3 : 0 ≤ 0 + (1 * ρ1 2 + ((-1) * ρ1 71 + 0)) := f3
      rw [r2, r71] at f3
      obtain ⟨f4, gf⟩ := hb_unc gf
      have f4 : 0 ≤ 0 + ((-1) * ρ1 3 + (1 * ρ1 72 + 0)) := f4
      rw [r3, r72] at f4
      obtain ⟨f5, gf⟩ := hb_unc gf
      have f5 : 0 ≤ 0 + (1 * ρ1 3 + ((-1) * ρ1 72 + 0)) := f5
      rw [r3, r72] at f5
      obtain ⟨f6, gf⟩ := hb_unc gf
      have f6 : 0 ≤ 0 + ((-1) * ρ1 4 + (1 * ρ1 73 + 0)) := f6
      rw [r4, r73] at f6
      obtain ⟨f7, gf⟩ := hb_unc gf
      have f7 : 0 ≤ 0 + (1 * ρ1 4 + ((-1) * ρ1 73 + 0)) := f7
      rw [r4, r73] at f7
      obtain ⟨f8, gf⟩ := hb_unc gf
      have f8 : 0 ≤ 0 + ((-1) * ρ1 5 + (1 * ρ1 74 + 0)) := f8
      rw [r5, r74] at f8
      obtain ⟨f9, gf⟩ := hb_unc gf
      have f9 : 0 ≤ 0 + (1 * ρ1 5 + ((-1) * ρ1 74 + 0)) := f9
      rw [r5, r74] at f9
      obtain ⟨f10, gf⟩ := hb_unc gf
      have f10 : 0 ≤ 0 + ((-1) * ρ1 6 + (1 * ρ1 75 + 0)) := f10
      rw [r6, r75] at f10
      obtain ⟨f11, gf⟩ := hb_unc gf
      have f11 : 0 ≤ 0 + (1 * ρ1 6 + ((-1) * ρ1 75 + 0)) := f11
      rw [r6, r75] at f11
      obtain ⟨f12, gf⟩ := hb_unc gf
      have f12 : 0 ≤ 0 + ((-1) * ρ1 1 + (1 * ρ1 78 + 0)) := f12
      rw [r1, r78] at f12
      obtain ⟨f13, gf⟩ := hb_unc gf
      have f13 : 0 ≤ 0 + (1 * ρ1 1 + ((-1) * ρ1 78 + 0)) := f13
      rw [r1, r78] at f13
      obtain ⟨f14, gf⟩ := hb_unc gf
      have f14 : 0 ≤ 0 + (1 * ρ1 77 + 0) := f14
      rw [r77] at f14
      obtain ⟨f15, gf⟩ := hb_unc gf
      have f15 : 0 ≤ 65535 + ((-1) * ρ1 77 + 0) := f15
      rw [r77] at f15
      have hy1 : y1 = x1 := hb_inj f0 f1
      subst y1
      have hy2 : y2 = x2 := hb_inj f2 f3
      subst y2
      have hy3 : y3 = x3 := hb_inj f4 f5
      subst y3
      have hy4 : y4 = x4 := hb_inj f6 f7
      subst y4
      have hy5 : y5 = x5 := hb_inj f8 f9
      subst y5
      have hy6 : y6 = x6 := hb_inj f10 f11
      subst y6
      have hy9 : y9 = x1 := hb_inj f12 f13
      subst y9
      exact k0 M' w7 y8 gs gx gw g8 ge n7 (by have h1 := f14; omega) (by have h1 := f15; omega)
    cases hs
  · intro r S hpo
    obtain ⟨b1, b2, b3, b4, b5, p, hp, res, hf, hre⟩ := hpo
    cases hp

def hi_d58_q : mz_Q := (53, [(1, 58), (0, 0), (0, 0), (0, 0), (0, 0), (0, 0), (0, 0), (3, 0)], [(0, [(1, 1)]), (5, [(1, -1)])], [], [(0, 0, [(1, [(69, 1)]), (-1, [(69, -1)])]), (0, 0, [(0, [(5, -1), (69, 1)]), (0, [(5, 1), (69, -1)])])], [])
def hi_d58_s : List mz_Sp2 := []
def hi_d58_h : List mz_H := [(63, 0, []), (0, 0, [(0, 1)]), (0, 0, [(1, 1)]), (3, 0, []), (0, 0, []), (0, 0, []), (0, 0, []), (0, 0, []), (1, 0, []), (0, 0, []), (0, 0, []), (0, 0, []), (0, 0, []), (0, 0, []), (66, 0, []), (0, 0, [(8, 1)]), (0, 0, [(9, 1)]), (0, 0, []), (0, 0, []), (0, 0, []), (1, 0, []), (0, 0, []), (0, 0, []), (0, 0, []), (0, 0, []), (0, 0, []), (64, 0, []), (0, 0, [(11, 1)]), (0, 0, [(12, 1)]), (0, 0, []), (3, 0, []), (0, 0, [(0, 1)]), (1, 1, []), (0, 0, []), (3, 0, []), (0, 0, []), (1, 0, []), (0, 0, []), (0, 0, []), (64, 0, []), (0, 0, [(14, 1)]), (0, 0, [(15, 1)]), (0, 0, []), (0, 0, []), (0, 0, []), (1, 0, []), (0, 0, []), (0, 0, []), (0, 0, []), (0, 0, []), (0, 0, []), (1, 1, []), (0, 0, []), (3, 0, []), (0, 0, []), (1, 0, []), (0, 0, []), (0, 0, [])]
set_option maxRecDepth 100000 in
theorem hi_d58_c : mz_blk mz_GG mq_PP hi_Cs hi_d58_q 8 2 142 hi_d58_s [] 63 hi_d58_h = true := by decide +kernel
theorem hi_d58 {X : (Nat → mq_C) → Prop} (hX : ∀ M M' : Nat → mq_C, mz_same mz_GG M M' → X M → X M') (hC : ∀ c ∈ hi_Cs, c.2 < 2 → mz_Ct mz_GG mq_PP X c.1 c.2) {d z u : Nat} {M : Nat → mq_C} {Q : (Option Value ⊕ Nat) → mq_S → Prop} {x1 : Int32} {x2 : Int32} {x3 : Int32} {x4 : Int32} {x5 : Int32} {x6 : Int32} {o7 : Option Value} (hd : 2 ≤ d) (hz : 272 ≤ z) (hm : mz_sh mz_GG M) (hx : X M) (h0 : mq_nl o7 = true) (p0 : 0 ≤ x1.toInt) (p1 : 0 ≤ 5 - x1.toInt)
    (w0 : ∀ (M' : Nat → mq_C) (r : Int32), mz_sh mz_GG M' → X M' → mz_fr hi_d58_q M M' → (∀ a, a < 8 → M' a = M a) → hb_same mz_GG hi_d58_q M M' → 0 ≤ 1 + r.toInt → 0 ≤ (-1) - r.toInt → Q (.inl (some (.int r))) (M', z, u))
    (w1 : ∀ (M' : Nat → mq_C) (r : Int32), mz_sh mz_GG M' → X M' → mz_fr hi_d58_q M M' → (∀ a, a < 8 → M' a = M a) → hb_same mz_GG hi_d58_q M M' → 0 ≤ 0 - x5.toInt + r.toInt → 0 ≤ x5.toInt - r.toInt → Q (.inl (some (.int r))) (M', z, u)) : mq_R mq_PP d 53 142 [some (.ref 58), some (.int x1), some (.int x2), some (.int x3), some (.int x4), some (.int x5), some (.int x6), o7] [] (M, z, u) Q := by
  refine hb_blk mz_GG mq_PP X (q := hi_d58_q) (nl := 8) (M := M) hb_okG hX hC hi_d58_c hz hd (L := [some (.ref 58), some (.int x1), some (.int x2), some (.int x3), some (.int x4), some (.int x5), some (.int x6), o7]) (st := []) (show hb_lk mz_GG ([(1, 58), (0, 0), (0, 0), (0, 0), (0, 0), (0, 0), (0, 0), (3, 0)]) _ from ⟨⟨List.mem_singleton.mpr rfl, rfl⟩, trivial, trivial, trivial, trivial, trivial, trivial, h0, trivial⟩) (show hb_pk mz_GG ([]) _ from trivial) hm hx ?_ ?_ ?_
  · exact hb_cons (show 0 ≤ mz_ev _ _ from (show 0 ≤ 0 + (1 * x1.toInt + 0) by omega)) (hb_cons (show 0 ≤ mz_ev _ _ from (show 0 ≤ 5 + ((-1) * x1.toInt + 0) by omega)) (hb_nil))
  · intro s hs
    cases hs
  · intro r S hpo
    obtain ⟨b1, b2, b3, b4, b5, p, hp, res, hf, hre⟩ := hpo
    rcases List.mem_cons.mp hp with rfl | hp
    · obtain ⟨x, rfl, hr, hz1, hu1⟩ := mz_re_0 mz_GG hre rfl
      obtain ⟨M', z', u'⟩ := S
      cases hz1
      cases hu1
      have r69 : hb_r1 mz_GG hi_d58_q (hb_rb mz_GG hi_d58_q 8 [some (.ref 58), some (.int x1), some (.int x2), some (.int x3), some (.int x4), some (.int x5), some (.int x6), o7] [] M) M' res 69 = res := rfl
      obtain ⟨f0, hf⟩ := hb_unc hf
      have f0 : 0 ≤ 1 + (1 * res + 0) := f0
      rw [← hr] at f0
      obtain ⟨f1, hf⟩ := hb_unc hf
      have f1 : 0 ≤ -1 + ((-1) * res + 0) := f1
      rw [← hr] at f1
      exact w0 M' x b1 b2 b3 b4 b5 (by have h1 := f0; omega) (by have h1 := f1; omega)
    rcases List.mem_cons.mp hp with rfl | hp
    · obtain ⟨x, rfl, hr, hz1, hu1⟩ := mz_re_0 mz_GG hre rfl
      obtain ⟨M', z', u'⟩ := S
      cases hz1
      cases hu1
      have r5 : hb_r1 mz_GG hi_d58_q (hb_rb mz_GG hi_d58_q 8 [some (.ref 58), some (.int x1), some (.int x2), some (.int x3), some (.int x4), some (.int x5), some (.int x6), o7] [] M) M' res 5 = x5.toInt := rfl
      have r69 : hb_r1 mz_GG hi_d58_q (hb_rb mz_GG hi_d58_q 8 [some (.ref 58), some (.int x1), some (.int x2), some (.int x3), some (.int x4), some (.int x5), some (.int x6), o7] [] M) M' res 69 = res := rfl
      obtain ⟨f0, hf⟩ := hb_unc hf
      have f0 : 0 ≤ 0 + ((-1) * x5.toInt + (1 * res + 0)) := f0
      rw [← hr] at f0
      obtain ⟨f1, hf⟩ := hb_unc hf
      have f1 : 0 ≤ 0 + (1 * x5.toInt + ((-1) * res + 0)) := f1
      rw [← hr] at f1
      exact w1 M' x b1 b2 b3 b4 b5 (by have h1 := f0; omega) (by have h1 := f1; omega)
    cases hp

theorem hi_r58 {d z u : Nat} {Q : (Option Value ⊕ Nat) → mq_S → Prop} {M : Nat → mq_C} {x1 x2 x3 : Int32} (hd : 2 ≤ d) (hz : 272 ≤ z) (hm : mz_sh mz_GG M) (hx : hi_X 58 M) (p1 : 0 ≤ x1.toInt) (p2 : x1.toInt ≤ 5) (p3 : 0 ≤ x2.toInt) (p4 : x3.toInt ≤ 236)
    (K : ∀ (M' : Nat → mq_C) (r : Int32), mz_sh mz_GG M' → hi_X 58 M' → hi_R M M' → (∀ j, j ≠ x1.toInt.toNat → hv M' 67 j = hv M 67 j ∧ hv M' 68 j = hv M 68 j) → (∀ j, hv M' 59 j = hv M 59 j) → (r.toInt = -1 ∨ x2.toInt < x3.toInt ∧ x2.toInt ≤ r.toInt ∧ r.toInt ≤ x3.toInt) → Q (.inl (some (.int r))) (M', z, u)) : mq_R mq_PP d 53 0 [some (.ref 58), some (.int x1), some (.int x2), some (.int x3), none, none, none, none] [] (M, z, u) Q := by
  refine hi_a58 (hi_Xs (a := 58) (by decide)) (hi_C (hi_Xs (a := 58) (by decide))) hd hz hm hx rfl rfl rfl rfl (by omega) (by omega) (by omega) (by omega) ?_ ?_
  · intro M1 y4 y5 y6 w7 y8 gs gx gw g8 ge hw
    intros
    have R1 : hi_R M M1 := hi_Rb (by decide) rfl gw g8 ge
    refine hb_sta (n := 126) (kind := 64) gs (by decide +kernel) rfl rfl (.inl rfl) (by omega) (show _ < (6 : Int) by omega) ?_
    generalize hM2 : hb_set M1 67 x1.toInt.toNat y8 = M2
    have hm2 : mz_sh mz_GG M2 := by rw [← hM2]; exact hb_set_sh gs rfl hb_at1 (by omega) (by omega)
    have hx2 : hi_X 58 M2 := by rw [← hM2]; exact hi_xs58 gx (by omega)
    have w2 : ∀ b, b ≠ 67 → M2 b = M1 b := by intro b h; rw [← hM2]; exact hb_set_c h
    have n2 : ∀ j, j ≠ x1.toInt.toNat → hv M2 67 j = hv M1 67 j := by intro j h; rw [← hM2]; exact hb_set_n (.inr h)
    have R2 : hi_R M1 M2 := hi_Ro (W := [67]) (hb_only_s hb_only_r (by decide) w2) (by decide)
    refine hi_b58 (hi_Xs (a := 58) (by decide)) (hi_C (hi_Xs (a := 58) (by decide))) hd hz hm2 hx2 hw (by omega) (by omega) (by omega) (by omega) ?_
    intro M3 w7' y8' gs3 gx3 gw3 g83 ge3 hw3
    intros
    have R3 : hi_R M2 M3 := hi_Rb (by decide) rfl gw3 g83 ge3
    refine hb_sta (n := 142) (kind := 64) gs3 (by decide +kernel) rfl rfl (.inl rfl) (by omega) (show _ < (6 : Int) by omega) ?_
    generalize hM4 : hb_set M3 68 x1.toInt.toNat y8' = M4
    have hm4 : mz_sh mz_GG M4 := by rw [← hM4]; exact hb_set_sh gs3 rfl hb_at1 (by omega) (by omega)
    have hx4 : hi_X 58 M4 := by rw [← hM4]; exact hi_xs58 gx3 (by omega)
    have w4 : ∀ b, b ≠ 68 → M4 b = M3 b := by intro b h; rw [← hM4]; exact hb_set_c h
    have n4 : ∀ j, j ≠ x1.toInt.toNat → hv M4 68 j = hv M3 68 j := by intro j h; rw [← hM4]; exact hb_set_n (.inr h)
    have R4 : hi_R M3 M4 := hi_Ro (W := [68]) (hb_only_s hb_only_r (by decide) w4) (by decide)
    have R04 := hi_Rt (hi_Rt (hi_Rt R1 R2) R3) R4
    have hn : ∀ j, j ≠ x1.toInt.toNat → hv M4 67 j = hv M 67 j ∧ hv M4 68 j = hv M 68 j := by
      intro j hj
      constructor
      · rw [hb_vc (w4 _ (by decide)), hb_vc (gw3 _ (by decide) rfl), n2 j hj, hb_vc (gw _ (by decide) rfl)]
      · rw [n4 j hj, hb_vc (gw3 _ (by decide) rfl), hb_vc (w2 _ (by decide)), hb_vc (gw _ (by decide) rfl)]
    have hb4 : ∀ j, hv M4 59 j = hv M 59 j := by
      intro j
      rw [hb_vc (w4 _ (by decide)), hb_vc (gw3 _ (by decide) rfl), hb_vc (w2 _ (by decide)), hb_vc (gw _ (by decide) rfl)]
    refine hi_d58 (hi_Xs (a := 58) (by decide)) (hi_C (hi_Xs (a := 58) (by decide))) hd hz hm4 hx4 hw3 (by omega) (by omega) ?_ ?_
    · intro M5 r k1 k2 k3 k4 k5 l1 l2
      refine K M5 r k1 k2 (hi_Rt R04 (hi_Rb (by decide) rfl k3 k4 k5)) (fun j hj => ?_) (fun j => ?_) (.inl (by omega))
      · rw [hb_vc (k3 _ (by decide) rfl), hb_vc (k3 _ (by decide) rfl)]
        exact hn j hj
      · rw [hb_vc (k3 _ (by decide) rfl)]
        exact hb4 j
    · intro M5 r k1 k2 k3 k4 k5 l1 l2
      refine K M5 r k1 k2 (hi_Rt R04 (hi_Rb (by decide) rfl k3 k4 k5)) (fun j hj => ?_) (fun j => ?_) (.inr (by omega))
      · rw [hb_vc (k3 _ (by decide) rfl), hb_vc (k3 _ (by decide) rfl)]
        exact hn j hj
      · rw [hb_vc (k3 _ (by decide) rfl)]
        exact hb4 j
  · intro M' r gs gx gw g8 ge l1 l2
    exact K M' r gs gx (hi_Rb (by decide) rfl gw g8 ge) (fun j _ => ⟨hb_vc (gw _ (by decide) rfl) j, hb_vc (gw _ (by decide) rfl) j⟩) (fun j => hb_vc (gw _ (by decide) rfl) j) (.inl (by omega))
theorem hi_y58 {d z u : Nat} {Q : (Option Value ⊕ Nat) → mq_S → Prop} {M : Nat → mq_C} {x1 x2 : Int32} (hm : mz_sh mz_GG M) (p1 : 0 ≤ x1.toInt) (p2 : x1.toInt ≤ 5) (p3 : x2.toInt ≤ 240)
    (K0 : ∀ r : Int32, r.toInt = 0 → Q (.inl (some (.int r))) (M, z, u)) (K1 : ∀ r : Int32, r.toInt = 1 → hv M 68 x1.toInt.toNat + hv M 67 x1.toInt.toNat + 2 ≤ x2.toInt → Q (.inl (some (.int r))) (M, z, u)) : mq_R mq_PP d 54 0 [some (.ref 58), some (.int x1), some (.int x2), none] [] (M, z, u) Q := by
  refine he_aload (n := 1) (i := 0) (by decide +kernel) rfl ?_
  refine he_getr (n := 4) (ci := 1) (j := 10) (ns := [1230, 48]) (b := 68) hm (by decide +kernel) rfl rfl (by decide +kernel) ?_
  refine he_iload (n := 5) (i := 1) (by decide +kernel) rfl ?_
  refine hb_ld (n := 6) (kind := 64) hm (by decide +kernel) rfl rfl (.inl rfl) (by omega) (show _ < (6 : Int) by omega) hb_at1 ?_
  intro v5 hv5 lv5 uv5
  refine he_istore (n := 7) (i := 3) (by decide +kernel) rfl ?_
  refine he_iload (n := 8) (i := 3) (by decide +kernel) rfl ?_
  refine he_iconst (n := 9) (c := 2) (by decide +kernel) (by decide) ?_
  intro c8 hc8
  refine he_iadd (n := 10) (by decide +kernel) (by omega) (by omega) ?_
  intro v9 hv9
  refine he_aload (n := 11) (i := 0) (by decide +kernel) rfl ?_
  refine he_getr (n := 14) (ci := 1) (j := 9) (ns := [1229, 45]) (b := 67) hm (by decide +kernel) rfl rfl (by decide +kernel) ?_
  refine he_iload (n := 15) (i := 1) (by decide +kernel) rfl ?_
  refine hb_ld (n := 16) (kind := 64) hm (by decide +kernel) rfl rfl (.inl rfl) (by omega) (show _ < (6 : Int) by omega) hb_at1 ?_
  intro v15 hv15 lv15 uv15
  refine he_iadd (n := 17) (by decide +kernel) (by omega) (by omega) ?_
  intro v16 hv16
  refine he_iload (n := 18) (i := 2) (by decide +kernel) rfl ?_
  by_cases h18 : x2.toInt < v16.toInt
  · skip
    refine he_cmpgt_t (n := 21) (t := 53) (by decide +kernel) (by omega) ?_
    refine he_iconst (n := 54) (c := 0) (by decide +kernel) (by decide) ?_
    intro c53 hc53
    refine he_retz (by decide +kernel) (by omega) ?_
    exact K0 _ (by omega)
  · skip
    refine he_cmpgt_f (n := 21) (t := 53) (by decide +kernel) (by omega) ?_
    refine he_aload (n := 22) (i := 0) (by decide +kernel) rfl ?_
    refine he_getr (n := 25) (ci := 1) (j := 0) (ns := [1214, 9]) (b := 59) hm (by decide +kernel) rfl rfl (by decide +kernel) ?_
    refine he_iload (n := 26) (i := 3) (by decide +kernel) rfl ?_
    refine hb_ld (n := 27) (kind := 64) hm (by decide +kernel) rfl rfl (.inl rfl) (by omega) (show _ < (240 : Int) by omega) hb_at1 ?_
    intro v26 hv26 lv26 uv26
    refine he_iconst (n := 29) (c := 75) (by decide +kernel) (by decide) ?_
    intro c27 hc27
    by_cases h29 : v26.toInt = c27.toInt
    · skip
      refine he_cmpne_f (n := 32) (t := 53) (by decide +kernel) (by omega) ?_
      refine he_aload (n := 33) (i := 0) (by decide +kernel) rfl ?_
      refine he_getr (n := 36) (ci := 1) (j := 0) (ns := [1214, 9]) (b := 59) hm (by decide +kernel) rfl rfl (by decide +kernel) ?_
      refine he_iload (n := 37) (i := 3) (by decide +kernel) rfl ?_
      refine he_iconst (n := 38) (c := 1) (by decide +kernel) (by decide) ?_
      intro c37 hc37
      refine he_iadd (n := 39) (by decide +kernel) (by omega) (by omega) ?_
      intro v38 hv38
      refine hb_ld (n := 40) (kind := 64) hm (by decide +kernel) rfl rfl (.inl rfl) (by omega) (show _ < (240 : Int) by omega) hb_at1 ?_
      intro v39 hv39 lv39 uv39
      refine he_aload (n := 41) (i := 0) (by decide +kernel) rfl ?_
      refine he_getr (n := 44) (ci := 1) (j := 6) (ns := [1226, 36]) (b := 64) hm (by decide +kernel) rfl rfl (by decide +kernel) ?_
      refine he_iload (n := 45) (i := 1) (by decide +kernel) rfl ?_
      refine hb_ld (n := 46) (kind := 64) hm (by decide +kernel) rfl rfl (.inl rfl) (by omega) (show _ < (6 : Int) by omega) hb_at1 ?_
      intro v45 hv45 lv45 uv45
      by_cases h46 : v39.toInt = v45.toInt
      · skip
        refine he_cmpne_f (n := 49) (t := 53) (by decide +kernel) (by omega) ?_
        refine he_iconst (n := 50) (c := 1) (by decide +kernel) (by decide) ?_
        intro c49 hc49
        refine he_goto (t := 54) (by decide +kernel) ?_
        refine he_retz (by decide +kernel) (by omega) ?_
        exact K1 _ (by omega) (by omega)
      · skip
        refine he_cmpne_t (n := 49) (t := 53) (by decide +kernel) (by omega) ?_
        refine he_iconst (n := 54) (c := 0) (by decide +kernel) (by decide) ?_
        intro c53 hc53
        refine he_retz (by decide +kernel) (by omega) ?_
        exact K0 _ (by omega)
    · skip
      refine he_cmpne_t (n := 32) (t := 53) (by decide +kernel) (by omega) ?_
      refine he_iconst (n := 54) (c := 0) (by decide +kernel) (by decide) ?_
      intro c53 hc53
      refine he_retz (by decide +kernel) (by omega) ?_
      exact K0 _ (by omega)
def hi_m58_q : mz_Q := (52, [(1, 58), (0, 0), (3, 0), (3, 0), (3, 0)], [(0, [(1, 1)]), (236, [(1, -1)])], [], [], [])
def hi_m58_s : List mz_Sp2 := [(56, [(1, 58), (0, 0), (0, 0), (0, 0), (0, 0)], [], [(0, [(1, -1), (67, 1)]), (0, [(1, 1), (67, -1)]), (0, [(68, -1), (69, 1)]), (0, [(68, 1), (69, -1)]), (0, [(70, 1)]), (0, [(70, -1)]), (0, [(68, 1)]), (65535, [(68, -1)])])]
def hi_m58_h : List mz_H := [(0, 0, []), (0, 0, [(0, 1)]), (0, 0, [(1, 1)]), (0, 0, []), (0, 0, [(0, 1)]), (0, 0, [(1, 1)]), (0, 0, []), (0, 0, []), (0, 0, []), (0, 0, []), (0, 0, []), (0, 0, []), (0, 0, []), (0, 0, []), (0, 0, []), (0, 0, []), (0, 0, [(1, 1)]), (0, 0, [(0, 1)])]
set_option maxRecDepth 100000 in
theorem hi_m58_c : mz_blk mz_GG mq_PP hi_Cs hi_m58_q 5 2 42 hi_m58_s [] 17 hi_m58_h = true := by decide +kernel
theorem hi_m58 {X : (Nat → mq_C) → Prop} (hX : ∀ M M' : Nat → mq_C, mz_same mz_GG M M' → X M → X M') (hC : ∀ c ∈ hi_Cs, c.2 < 2 → mz_Ct mz_GG mq_PP X c.1 c.2) {d z u : Nat} {M : Nat → mq_C} {Q : (Option Value ⊕ Nat) → mq_S → Prop} {x1 : Int32} {o2 : Option Value} {o3 : Option Value} {o4 : Option Value} (hd : 2 ≤ d) (hz : 272 ≤ z) (hm : mz_sh mz_GG M) (hx : X M) (h0 : mq_nl o2 = true) (h1 : mq_nl o3 = true) (h2 : mq_nl o4 = true) (p0 : 0 ≤ x1.toInt) (p1 : 0 ≤ 236 - x1.toInt)
    (k0 : ∀ (M' : Nat → mq_C) (y2 : Int32) (y4 : Int32), mz_sh mz_GG M' → X M' → mz_fr hi_m58_q M M' → (∀ a, a < 8 → M' a = M a) → hb_same mz_GG hi_m58_q M M' → y4.toInt = 0 → 0 ≤ y2.toInt → 0 ≤ 65535 - y2.toInt → mq_R mq_PP d 52 56 [some (.ref 58), some (.int x1), some (.int y2), some (.int y2), some (.int y4)] [] (M', z, u) Q) : mq_R mq_PP d 52 42 [some (.ref 58), some (.int x1), o2, o3, o4] [] (M, z, u) Q := by
  refine hb_blk mz_GG mq_PP X (q := hi_m58_q) (nl := 5) (M := M) hb_okG hX hC hi_m58_c hz hd (L := [some (.ref 58), some (.int x1), o2, o3, o4]) (st := []) (show hb_lk mz_GG ([(1, 58), (0, 0), (3, 0), (3, 0), (3, 0)]) _ from ⟨⟨List.mem_singleton.mpr rfl, rfl⟩, trivial, h0, h1, h2, trivial⟩) (show hb_pk mz_GG ([]) _ from trivial) hm hx ?_ ?_ ?_
  · exact hb_cons (show 0 ≤ mz_ev _ _ from (show 0 ≤ 0 + (1 * x1.toInt + 0) by omega)) (hb_cons (show 0 ≤ mz_ev _ _ from (show 0 ≤ 236 + ((-1) * x1.toInt + 0) by omega)) (hb_nil))
  · intro s hs
    rcases List.mem_cons.mp hs with rfl | hs
    · intro ρ1 L' st' M' g1 g2 gm gr gf gs gx gw g8 ge
      obtain ⟨e0, L1, rfl, n0, gg0⟩ := hb_l1 mz_GG g1
      obtain rfl : e0 = 58 := List.mem_singleton.mp n0
      obtain ⟨y1, L1, rfl, qr67, gg1⟩ := hb_l0 mz_GG gg0
      have r67 : ρ1 67 = y1.toInt := qr67
      obtain ⟨y2, L1, rfl, qr68, gg2⟩ := hb_l0 mz_GG gg1
      have r68 : ρ1 68 = y2.toInt := qr68
      obtain ⟨y3, L1, rfl, qr69, gg3⟩ := hb_l0 mz_GG gg2
      have r69 : ρ1 69 = y3.toInt := qr69
      obtain ⟨y4, L1, rfl, qr70, gg4⟩ := hb_l0 mz_GG gg3
      have r70 : ρ1 70 = y4.toInt := qr70
      obtain rfl := hb_ln mz_GG gg4
      obtain rfl := hb_pn mz_GG g2
      have r1 : ρ1 1 = x1.toInt := gr 1 (by decide +kernel)
      obtain ⟨f0, gf⟩ := hb_unc gf
      have f0 : 0 ≤ 0 + ((-1) * ρ1 1 + (1 * ρ1 67 + 0)) := f0
      rw [r1, r67] at f0
      obtain ⟨f1, gf⟩ := hb_unc gf
      have f1 : 0 ≤ 0 + (1 * ρ1 1 + ((-1) * ρ1 67 + 0)) := f1
      rw [r1, r67] at f1
      obtain ⟨f2, gf⟩ := hb_unc gf
      have f2 : 0 ≤ 0 + ((-1) * ρ1 68 + (1 * ρ1 69 + 0)) := f2
      rw [r68, r69] at f2
      obtain ⟨f3, gf⟩ := hb_unc gf
      have f3 : 0 ≤ 0 + (1 * ρ1 68 + ((-1) * ρ1 69 + 0)) := f3
      rw [r68, r69] at f3
      obtain ⟨f4, gf⟩ := hb_unc gf
      have f4 : 0 ≤ 0 + (1 * ρ1 70 + 0) := f4
      rw [r70] at f4
      obtain ⟨f5, gf⟩ := hb_unc gf
      have f5 : 0 ≤ 0 + ((-1) * ρ1 70 + 0) := f5
      rw [r70] at f5
      obtain ⟨f6, gf⟩ := hb_unc gf
      have f6 : 0 ≤ 0 + (1 * ρ1 68 + 0) := f6
      rw [r68] at f6
      obtain ⟨f7, gf⟩ := hb_unc gf
      have f7 : 0 ≤ 65535 + ((-1) * ρ1 68 + 0) := f7
      rw [r68] at f7
      have hy1 : y1 = x1 := hb_inj f0 f1
      subst y1
      have hy3 : y3 = y2 := hb_inj f2 f3
      subst y3
      exact k0 M' y2 y4 gs gx gw g8 ge  (by have h1 := f4; have h2 := f5; omega) (by have h1 := f6; omega) (by have h1 := f7; omega)
    cases hs
  · intro r S hpo
    obtain ⟨b1, b2, b3, b4, b5, p, hp, res, hf, hre⟩ := hpo
    cases hp

def hi_n58_q : mz_Q := (52, [(1, 58), (0, 0), (0, 0), (0, 0), (0, 0)], [(0, [(4, 1)]), (5, [(4, -1)])], [], [(0, 0, [(0, [(66, 1)]), (0, [(66, -1)])])], [])
def hi_n58_s : List mz_Sp2 := [(56, [(1, 58), (0, 0), (0, 0), (0, 0), (0, 0)], [], [(0, [(1, -1), (67, 1)]), (0, [(1, 1), (67, -1)]), (0, [(2, -1), (68, 1)]), (0, [(2, 1), (68, -1)]), (0, [(3, -1), (69, 1)]), (0, [(3, 1), (69, -1)]), (-1, [(4, -1), (70, 1)]), (1, [(4, 1), (70, -1)])])]
def hi_n58_h : List mz_H := [(2, 0, []), (0, 0, [(0, 1)]), (0, 0, [(1, 1)]), (0, 0, []), (3, 0, []), (0, 0, [(1, 1)]), (0, 0, []), (0, 0, []), (0, 0, [(5, 1)]), (0, 0, [(6, 1)]), (0, 0, []), (0, 0, []), (0, 0, []), (0, 0, []), (0, 0, []), (0, 0, []), (0, 0, []), (0, 0, []), (0, 0, []), (0, 0, []), (0, 0, []), (0, 0, []), (0, 0, []), (0, 0, [])]
set_option maxRecDepth 100000 in
theorem hi_n58_c : mz_blk mz_GG mq_PP hi_Cs hi_n58_q 5 2 93 hi_n58_s [] 14 hi_n58_h = true := by decide +kernel
theorem hi_n58 {X : (Nat → mq_C) → Prop} (hX : ∀ M M' : Nat → mq_C, mz_same mz_GG M M' → X M → X M') (hC : ∀ c ∈ hi_Cs, c.2 < 2 → mz_Ct mz_GG mq_PP X c.1 c.2) {d z u : Nat} {M : Nat → mq_C} {Q : (Option Value ⊕ Nat) → mq_S → Prop} {x1 : Int32} {x2 : Int32} {x3 : Int32} {x4 : Int32} (hd : 2 ≤ d) (hz : 272 ≤ z) (hm : mz_sh mz_GG M) (hx : X M) (p0 : 0 ≤ x4.toInt) (p1 : 0 ≤ 5 - x4.toInt)
    (k0 : ∀ (M' : Nat → mq_C) (y4 : Int32), mz_sh mz_GG M' → X M' → mz_fr hi_n58_q M M' → (∀ a, a < 8 → M' a = M a) → hb_same mz_GG hi_n58_q M M' → y4.toInt = 1 + x4.toInt → mq_R mq_PP d 52 56 [some (.ref 58), some (.int x1), some (.int x2), some (.int x3), some (.int y4)] [] (M', z, u) Q)
    (w0 : ∀ (M' : Nat → mq_C) (r : Int32), mz_sh mz_GG M' → X M' → mz_fr hi_n58_q M M' → (∀ a, a < 8 → M' a = M a) → hb_same mz_GG hi_n58_q M M' → 0 ≤ r.toInt → 0 ≤ 0 - r.toInt → Q (.inl (some (.int r))) (M', z, u)) : mq_R mq_PP d 52 93 [some (.ref 58), some (.int x1), some (.int x2), some (.int x3), some (.int x4)] [] (M, z, u) Q := by
  refine hb_blk mz_GG mq_PP X (q := hi_n58_q) (nl := 5) (M := M) hb_okG hX hC hi_n58_c hz hd (L := [some (.ref 58), some (.int x1), some (.int x2), some (.int x3), some (.int x4)]) (st := []) (show hb_lk mz_GG ([(1, 58), (0, 0), (0, 0), (0, 0), (0, 0)]) _ from ⟨⟨List.mem_singleton.mpr rfl, rfl⟩, trivial, trivial, trivial, trivial, trivial⟩) (show hb_pk mz_GG ([]) _ from trivial) hm hx ?_ ?_ ?_
  · exact hb_cons (show 0 ≤ mz_ev _ _ from (show 0 ≤ 0 + (1 * x4.toInt + 0) by omega)) (hb_cons (show 0 ≤ mz_ev _ _ from (show 0 ≤ 5 + ((-1) * x4.toInt + 0) by omega)) (hb_nil))
  · intro s hs
    rcases List.mem_cons.mp hs with rfl | hs
    · intro ρ1 L' st' M' g1 g2 gm gr gf gs gx gw g8 ge
      obtain ⟨e0, L1, rfl, n0, gg0⟩ := hb_l1 mz_GG g1
      obtain rfl : e0 = 58 := List.mem_singleton.mp n0
      obtain ⟨y1, L1, rfl, qr67, gg1⟩ := hb_l0 mz_GG gg0
      have r67 : ρ1 67 = y1.toInt := qr67
      obtain ⟨y2, L1, rfl, qr68, gg2⟩ := hb_l0 mz_GG gg1
      have r68 : ρ1 68 = y2.toInt := qr68
      obtain ⟨y3, L1, rfl, qr69, gg3⟩ := hb_l0 mz_GG gg2
      have r69 : ρ1 69 = y3.toInt := qr69
      obtain ⟨y4, L1, rfl, qr70, gg4⟩ := hb_l0 mz_GG gg3
      have r70 : ρ1 70 = y4.toInt := qr70
      obtain rfl := hb_ln mz_GG gg4
      obtain rfl := hb_pn mz_GG g2
      have r1 : ρ1 1 = x1.toInt := gr 1 (by decide +kernel)
      have r2 : ρ1 2 = x2.toInt := gr 2 (by decide +kernel)
      have r3 : ρ1 3 = x3.toInt := gr 3 (by decide +kernel)
      have r4 : ρ1 4 = x4.toInt := gr 4 (by decide +kernel)
      obtain ⟨f0, gf⟩ := hb_unc gf
      have f0 : 0 ≤ 0 + ((-1) * ρ1 1 + (1 * ρ1 67 + 0)) := f0
      rw [r1, r67] at f0
      obtain ⟨f1, gf⟩ := hb_unc gf
      have f1 : 0 ≤ 0 + (1 * ρ1 1 + ((-1) * ρ1 67 + 0)) := f1
      rw [r1, r67] at f1
      obtain ⟨f2, gf⟩ := hb_unc gf
      have f2 : 0 ≤ 0 + ((-1) * ρ1 2 + (1 * ρ1 68 + 0)) := f2
      rw [r2, r68] at f2
      obtain ⟨f3, gf⟩ := hb_unc gf
      have f3 : 0 ≤ 0 + (1 * ρ1 2 + ((-1) * ρ1 68 + 0)) := f3
      rw [r2, r68] at f3
      obtain ⟨f4, gf⟩ := hb_unc gf
      have f4 : 0 ≤ 0 + ((-1) * ρ1 3 + (1 * ρ1 69 + 0)) := f4
      rw [r3, r69] at f4
      obtain ⟨f5, gf⟩ := hb_unc gf
      have f5 : 0 ≤ 0 + (1 * ρ1 3 + ((-1) * ρ1 69 + 0)) := f5
      rw [r3, r69] at f5
      obtain ⟨f6, gf⟩ := hb_unc gf
      have f6 : 0 ≤ -1 + ((-1) * ρ1 4 + (1 * ρ1 70 + 0)) := f6
      rw [r4, r70] at f6
      obtain ⟨f7, gf⟩ := hb_unc gf
      have f7 : 0 ≤ 1 + (1 * ρ1 4 + ((-1) * ρ1 70 + 0)) := f7
      rw [r4, r70] at f7
      have hy1 : y1 = x1 := hb_inj f0 f1
      subst y1
      have hy2 : y2 = x2 := hb_inj f2 f3
      subst y2
      have hy3 : y3 = x3 := hb_inj f4 f5
      subst y3
      exact k0 M' y4 gs gx gw g8 ge  (by have h1 := f6; have h2 := f7; omega)
    cases hs
  · intro r S hpo
    obtain ⟨b1, b2, b3, b4, b5, p, hp, res, hf, hre⟩ := hpo
    rcases List.mem_cons.mp hp with rfl | hp
    · obtain ⟨x, rfl, hr, hz1, hu1⟩ := mz_re_0 mz_GG hre rfl
      obtain ⟨M', z', u'⟩ := S
      cases hz1
      cases hu1
      have r66 : hb_r1 mz_GG hi_n58_q (hb_rb mz_GG hi_n58_q 5 [some (.ref 58), some (.int x1), some (.int x2), some (.int x3), some (.int x4)] [] M) M' res 66 = res := rfl
      obtain ⟨f0, hf⟩ := hb_unc hf
      have f0 : 0 ≤ 0 + (1 * res + 0) := f0
      rw [← hr] at f0
      obtain ⟨f1, hf⟩ := hb_unc hf
      have f1 : 0 ≤ 0 + ((-1) * res + 0) := f1
      rw [← hr] at f1
      exact w0 M' x b1 b2 b3 b4 b5 (by have h1 := f0; omega) (by have h1 := f1; omega)
    cases hp

theorem hi_l58 {d z u : Nat} {Q : (Option Value ⊕ Nat) → mq_S → Prop} {M0 : Nat → mq_C} {x1 x2 : Int32} {N : Int} (hd : 3 ≤ d) (hz : 272 ≤ z) (p1 : 0 ≤ x1.toInt) (p2 : x1.toInt ≤ 236) (p3 : 0 ≤ x2.toInt) (p4 : 0 ≤ N) (p5 : N ≤ 6)
    (K : ∀ (M' : Nat → mq_C) (r : Int32), mz_sh mz_GG M' → HX M' → hi_R M0 M' → 0 ≤ r.toInt → 0 ≤ 1 - r.toInt → Q (.inl (some (.int r))) (M', z, u)) :
    ∀ (m : Nat) (M : Nat → mq_C) (x3 x4 : Int32), (m : Int) + x4.toInt = 7 → 0 ≤ x4.toInt → mz_sh mz_GG M → hi_X 58 M → hi_R M0 M → hv M 59 (x1.toInt.toNat + 1) = N → x2.toInt ≤ x3.toInt → x4.toInt ≤ N → (∀ j : Nat, (j : Int) < x4.toInt → hv M 68 j + hv M 67 j + 2 ≤ 240) → mq_R mq_PP d 52 56 [some (.ref 58), some (.int x1), some (.int x2), some (.int x3), some (.int x4)] [] (M, z, u) Q := by
  intro m
  induction m with
  | zero =>
    intro M x3 x4 e1 e2 hm hx hR hN q1 q2 hI
    omega
  | succ m ih =>
    intro M x3 x4 e1 e2 hm hx hR hN q1 q2 hI
    obtain ⟨d, rfl⟩ : ∃ d', d = d' + 1 := ⟨d - 1, by omega⟩
    refine he_iload (n := 58) (i := 4) (by decide +kernel) rfl ?_
    refine he_aload (n := 59) (i := 0) (by decide +kernel) rfl ?_
    refine he_getr (n := 62) (ci := 1) (j := 0) (ns := [1214, 9]) (b := 59) hm (by decide +kernel) rfl rfl (by decide +kernel) ?_
    refine he_iload (n := 63) (i := 1) (by decide +kernel) rfl ?_
    refine he_iconst (n := 64) (c := 1) (by decide +kernel) (by decide) ?_
    intro c63 hc63
    refine he_iadd (n := 65) (by decide +kernel) (by omega) (by omega) ?_
    intro v64 hv64
    refine hb_ld (n := 66) (kind := 64) hm (by decide +kernel) rfl rfl (.inl rfl) (by omega) (show _ < (240 : Int) by omega) hb_at1 ?_
    intro v65 hv65 lv65 uv65
    have hv65' : v65.toInt = N := by
      rw [← hv65, show v64.toInt.toNat = x1.toInt.toNat + 1 by omega]
      exact hN
    by_cases h66 : v65.toInt ≤ x4.toInt
    · skip
      refine he_cmpge_t (n := 69) (t := 110) (by decide +kernel) (by omega) ?_
      refine he_aload (n := 111) (i := 0) (by decide +kernel) rfl ?_
      refine he_aload (n := 112) (i := 0) (by decide +kernel) rfl ?_
      refine he_getr (n := 115) (ci := 1) (j := 0) (ns := [1214, 9]) (b := 59) hm (by decide +kernel) rfl rfl (by decide +kernel) ?_
      refine he_iload (n := 116) (i := 1) (by decide +kernel) rfl ?_
      refine he_iconst (n := 117) (c := 1) (by decide +kernel) (by decide) ?_
      intro c116 hc116
      refine he_iadd (n := 118) (by decide +kernel) (by omega) (by omega) ?_
      intro v117 hv117
      refine hb_ld (n := 119) (kind := 64) hm (by decide +kernel) rfl rfl (.inl rfl) (by omega) (show _ < (240 : Int) by omega) hb_at1 ?_
      intro v118 hv118 lv118 uv118
      have hv118' : v118.toInt = N := by
        rw [← hv118, show v117.toInt.toNat = x1.toInt.toNat + 1 by omega]
        exact hN
      refine hb_pfd (n := 122) (ci := 1) (j := 4) (t := 0) (ns := [1224, 30]) hm (by decide +kernel) rfl rfl (by decide) (.inl rfl) ?_
      generalize hM1 : hb_set M 58 4 v118 = M1
      have hm1 : mz_sh mz_GG M1 := by rw [← hM1]; exact hb_set_sh hm rfl rfl (by omega) (by omega)
      have eM1 : ∀ b j, b ≠ 58 ∨ j ≠ 4 → hv M1 b j = hv M b j := by intro b j h; rw [← hM1]; exact hb_set_n h
      have sM1 : hv M1 58 4 = v118.toInt := by rw [← hM1]; exact hb_set_v hm rfl (by decide)
      have wM1 : ∀ b, b ≠ 58 → M1 b = M b := by intro b h; rw [← hM1]; exact hb_set_c h
      refine he_iload (n := 123) (i := 3) (by decide +kernel) rfl ?_
      refine he_iload (n := 124) (i := 1) (by decide +kernel) rfl ?_
      have hxn : HX M1 := by
        intro k
        by_cases e : k = 6
        · subst e
          intro j h1 h2
          have h2 : (j : Int) < hv M1 58 4 := h2
          rw [sM1] at h2
          have h3 := hI j (by omega)
          show hv M1 (58 + 10) j + hv M1 (58 + 9) j + 2 ≤ 240
          rw [eM1 _ _ (.inl (by decide)), eM1 _ _ (.inl (by decide))]
          omega
        · rw [← hM1]
          exact hxk_s (hi_sp58 k e _ _ (by omega)) (hx.1 k)
      have R1 : hi_R M M1 := hi_Ro (W := [58]) (hb_only_s hb_only_r (by decide) wM1) (by decide)
      have R01 := hi_Rt hR R1
      by_cases h124 : x3.toInt = x1.toInt
      · skip
        refine he_cmpne_f (n := 127) (t := 131) (by decide +kernel) (by omega) ?_
        refine he_iconst (n := 128) (c := 1) (by decide +kernel) (by decide) ?_
        intro c127 hc127
        refine he_goto (t := 132) (by decide +kernel) ?_
        refine he_retz (by decide +kernel) (by omega) ?_
        exact K M1 _ hm1 hxn R01 (by omega) (by omega)
      · skip
        refine he_cmpne_t (n := 127) (t := 131) (by decide +kernel) (by omega) ?_
        refine he_iconst (n := 132) (c := 0) (by decide +kernel) (by decide) ?_
        intro c131 hc131
        refine he_retz (by decide +kernel) (by omega) ?_
        exact K M1 _ hm1 hxn R01 (by omega) (by omega)
    · skip
      refine he_cmpge_f (n := 69) (t := 110) (by decide +kernel) (by omega) ?_
      refine he_aload (n := 70) (i := 0) (by decide +kernel) rfl ?_
      refine he_iload (n := 72) (i := 4) (by decide +kernel) rfl ?_
      refine he_iload (n := 73) (i := 3) (by decide +kernel) rfl ?_
      refine he_iload (n := 74) (i := 1) (by decide +kernel) rfl ?_
      refine he_v3 (n := 77) (j := 53) (ci := 1) (mx := 8) (ns := [3017, 3019, 15, 90]) (by decide +kernel) ((hb_kd (a := 58) hm rfl).trans rfl) (by decide) (by show 4 ≤ 8; omega) ?_
      rw [mq_e53]
      refine hi_r58 (x1 := x4) (x2 := x3) (x3 := x1) (by omega) hz hm hx (by omega) (by omega) (by omega) (by omega) ?_
      intro M2 r hm2 hx2 hR2 hn2 hb2 hr
      have R02 := hi_Rt hR hR2
      show mq_R mq_PP (d + 1) 52 77 _ [.int r] (M2, z, u) Q
      refine he_istore (n := 78) (i := 3) (by decide +kernel) rfl ?_
      refine he_iload (n := 79) (i := 3) (by decide +kernel) rfl ?_
      refine he_iconst (n := 80) (c := -1) (by decide +kernel) (by decide) ?_
      intro c79 hc79
      by_cases h80 : r.toInt = -1
      · skip
        refine he_cmpeq_t (n := 83) (t := 102) (by decide +kernel) (by omega) ?_
        refine he_iconst (n := 103) (c := 0) (by decide +kernel) (by decide) ?_
        intro c102 hc102
        refine he_retz (by decide +kernel) (by omega) ?_
        exact K M2 _ hm2 hx2.1 R02 (by omega) (by omega)
      · skip
        refine he_cmpeq_f (n := 83) (t := 102) (by decide +kernel) (by omega) ?_
        refine he_aload (n := 84) (i := 0) (by decide +kernel) rfl ?_
        refine he_iload (n := 86) (i := 4) (by decide +kernel) rfl ?_
        refine he_iload (n := 87) (i := 2) (by decide +kernel) rfl ?_
        refine he_v2 (n := 90) (j := 54) (ci := 1) (mx := 4) (ns := [3022, 3024, 16, 94]) (by decide +kernel) ((hb_kd (a := 58) hm2 rfl).trans rfl) (by decide) (by show 3 ≤ 4; omega) ?_
        rw [mq_e54]
        refine hi_y58 hm2 (by omega) (by omega) (by omega) (fun r2 hr2 => ?_) (fun r2 hr2 hI2 => ?_)
        · show mq_R mq_PP (d + 1) 52 90 _ [.int r2] (M2, z, u) Q
          refine he_ifeq_t (n := 93) (t := 102) (by decide +kernel) (by omega) ?_
          refine he_iconst (n := 103) (c := 0) (by decide +kernel) (by decide) ?_
          intro c102 hc102
          refine he_retz (by decide +kernel) (by omega) ?_
          exact K M2 _ hm2 hx2.1 R02 (by omega) (by omega)
        · show mq_R mq_PP (d + 1) 52 90 _ [.int r2] (M2, z, u) Q
          refine he_ifeq_f (n := 93) (t := 102) (by decide +kernel) (by omega) ?_
          refine hi_n58 (hi_Xs (a := 58) (by decide)) (hi_C (hi_Xs (a := 58) (by decide))) (by omega) hz hm2 hx2 (by omega) (by omega) ?_ ?_
          · intro M3 y4 k1 k2 k3 k4 k5
            intros
            refine ih M3 r y4 (by omega) (by omega) k1 k2 (hi_Rt R02 (hi_Rb (by decide) rfl k3 k4 k5)) ?_ (by omega) (by omega) ?_
            · rw [hb_vc (k3 _ (by decide) rfl), hb2]
              exact hN
            · intro j hj
              rw [hb_vc (k3 _ (by decide) rfl), hb_vc (k3 _ (by decide) rfl)]
              by_cases e : j = x4.toInt.toNat
              · rw [e]
                omega
              · rw [(hn2 j e).1, (hn2 j e).2]
                exact hI j (by omega)
          · intro M3 r3 k1 k2 k3 k4 k5 l1 l2
            exact K M3 r3 k1 k2.1 (hi_Rt R02 (hi_Rb (by decide) rfl k3 k4 k5)) (by omega) (by omega)
theorem hi_s58 {d z u : Nat} {Q : (Option Value ⊕ Nat) → mq_S → Prop} {M : Nat → mq_C} (hd : 3 ≤ d) (hz : 272 ≤ z) (hm : mz_sh mz_GG M) (hx : HX M)
    (K : ∀ (M' : Nat → mq_C) (r : Int32), mz_sh mz_GG M' → HX M' → hi_R M M' → 0 ≤ r.toInt → 0 ≤ 1 - r.toInt → Q (.inl (some (.int r))) (M', z, u)) : mq_R mq_PP d 52 0 [some (.ref 58), none, none, none, none] [] (M, z, u) Q := by
  refine he_aload (n := 1) (i := 0) (by decide +kernel) rfl ?_
  refine hb_gfd (n := 4) (ci := 1) (j := 1) (ns := [1217, 15]) hm (by decide +kernel) rfl rfl (by decide) rfl ?_
  intro v1 hv1 lv1 uv1
  refine he_iconst (n := 5) (c := 4) (by decide +kernel) (by decide) ?_
  intro c4 hc4
  refine he_isub (n := 6) (by decide +kernel) (by omega) (by omega) ?_
  intro v5 hv5
  refine he_istore (n := 7) (i := 1) (by decide +kernel) rfl ?_
  refine he_aload (n := 8) (i := 0) (by decide +kernel) rfl ?_
  refine he_iconst (n := 9) (c := 0) (by decide +kernel) (by decide) ?_
  intro c8 hc8
  refine hb_pfd (n := 12) (ci := 1) (j := 4) (t := 0) (ns := [1224, 30]) hm (by decide +kernel) rfl rfl (by decide) (.inl rfl) ?_
  generalize hM1 : hb_set M 58 4 c8 = M1
  have hm1 : mz_sh mz_GG M1 := by rw [← hM1]; exact hb_set_sh hm rfl rfl (by omega) (by omega)
  have eM1 : ∀ b j, b ≠ 58 ∨ j ≠ 4 → hv M1 b j = hv M b j := by intro b j h; rw [← hM1]; exact hb_set_n h
  have sM1 : hv M1 58 4 = c8.toInt := by rw [← hM1]; exact hb_set_v hm rfl (by decide)
  have wM1 : ∀ b, b ≠ 58 → M1 b = M b := by intro b h; rw [← hM1]; exact hb_set_c h
  refine he_iload (n := 13) (i := 1) (by decide +kernel) rfl ?_
  have h4 : hv M1 58 4 = 0 := by rw [sM1]; omega
  have hx1 : hi_X 58 M1 := by
    refine ⟨fun k => ?_, h4⟩
    by_cases e : k = 6
    · subst e
      intro j h1 h2
      have h2 : (j : Int) < hv M1 58 4 := h2
      omega
    · rw [← hM1]
      exact hxk_s (hi_sp58 k e _ _ (by omega)) (hx k)
  have R1 : hi_R M M1 := hi_Ro (W := [58]) (hb_only_s hb_only_r (by decide) wM1) (by decide)
  by_cases h13 : v5.toInt < 0
  · skip
    refine he_iflt_t (n := 16) (t := 40) (by decide +kernel) (by omega) ?_
    refine he_iconst (n := 41) (c := 0) (by decide +kernel) (by decide) ?_
    intro c40 hc40
    refine he_retz (by decide +kernel) (by omega) ?_
    exact K M1 _ hm1 hx1.1 R1 (by omega) (by omega)
  · skip
    refine he_iflt_f (n := 16) (t := 40) (by decide +kernel) (by omega) ?_
    refine he_aload (n := 17) (i := 0) (by decide +kernel) rfl ?_
    refine he_getr (n := 20) (ci := 1) (j := 0) (ns := [1214, 9]) (b := 59) hm1 (by decide +kernel) rfl rfl (by decide +kernel) ?_
    refine he_iload (n := 21) (i := 1) (by decide +kernel) rfl ?_
    refine hb_ld (n := 22) (kind := 64) hm1 (by decide +kernel) rfl rfl (.inl rfl) (by omega) (show _ < (240 : Int) by omega) hb_at1 ?_
    intro v21 hv21 lv21 uv21
    refine he_iconst (n := 24) (c := 80) (by decide +kernel) (by decide) ?_
    intro c22 hc22
    by_cases h24 : v21.toInt = c22.toInt
    · skip
      refine he_cmpne_f (n := 27) (t := 40) (by decide +kernel) (by omega) ?_
      refine he_aload (n := 28) (i := 0) (by decide +kernel) rfl ?_
      refine he_getr (n := 31) (ci := 1) (j := 0) (ns := [1214, 9]) (b := 59) hm1 (by decide +kernel) rfl rfl (by decide +kernel) ?_
      refine he_iload (n := 32) (i := 1) (by decide +kernel) rfl ?_
      refine he_iconst (n := 33) (c := 1) (by decide +kernel) (by decide) ?_
      intro c32 hc32
      refine he_iadd (n := 34) (by decide +kernel) (by omega) (by omega) ?_
      intro v33 hv33
      refine hb_ld (n := 35) (kind := 64) hm1 (by decide +kernel) rfl rfl (.inl rfl) (by omega) (show _ < (240 : Int) by omega) hb_at1 ?_
      intro v34 hv34 lv34 uv34
      refine he_iconst (n := 37) (c := 6) (by decide +kernel) (by decide) ?_
      intro c35 hc35
      by_cases h37 : v34.toInt ≤ c35.toInt
      · skip
        refine he_cmple_t (n := 40) (t := 42) (by decide +kernel) (by omega) ?_
        refine hi_m58 (hi_Xs (a := 58) (by decide)) (hi_C (hi_Xs (a := 58) (by decide))) (by omega) hz hm1 hx1 rfl rfl rfl (by omega) (by omega) ?_
        intro M2 y2 y4 k1 k2 k3 k4 k5
        intros
        refine hi_l58 (M0 := M) (x2 := y2) (N := v34.toInt) hd hz (by omega) (by omega) (by omega) (by omega) (by omega) K 7 M2 y2 y4 (by omega) (by omega) k1 k2 (hi_Rt R1 (hi_Rb (by decide) rfl k3 k4 k5)) ?_ (by omega) (by omega) (fun j hj => by omega)
        rw [hb_vc (k3 _ (by decide) rfl), ← hv34, show v33.toInt.toNat = v5.toInt.toNat + 1 by omega]
      · skip
        refine he_cmple_f (n := 40) (t := 42) (by decide +kernel) (by omega) ?_
        refine he_iconst (n := 41) (c := 0) (by decide +kernel) (by decide) ?_
        intro c40 hc40
        refine he_retz (by decide +kernel) (by omega) ?_
        exact K M1 _ hm1 hx1.1 R1 (by omega) (by omega)
    · skip
      refine he_cmpne_t (n := 27) (t := 40) (by decide +kernel) (by omega) ?_
      refine he_iconst (n := 41) (c := 0) (by decide +kernel) (by decide) ?_
      intro c40 hc40
      refine he_retz (by decide +kernel) (by omega) ?_
      exact K M1 _ hm1 hx1.1 R1 (by omega) (by omega)
theorem hi_sp69 (k : Nat) (hk : k ≠ 7) (b i : Nat) (hb : b = 78 ∨ b = 79 ∨ b = 69 ∧ i = 4) : hsp k b i = false := by
  match k with
  | 0 | 1 | 2 | 3 | 4 | 5 | 6 | 7 | 8 | 9 | 10 | 11 | 12 | 13 | 14 | 15 | 16 | 17 | 18 | 19 | 20 | 21 | 22 | 23 | 24 | 25 | 26 | 27 | 28 | 29 => first | exact absurd rfl hk | (exact decide_eq_false (by omega))
  | n + 30 => rfl
theorem hi_xs69 {M : Nat → mq_C} {b i : Nat} {v : Int32} (hx : hi_X 69 M) (hb : b = 78 ∨ b = 79) : hi_X 69 (hb_set M b i v) := by
  have h4 : hv (hb_set M b i v) 69 4 = 0 := by rw [show hv (hb_set M b i v) 69 4 = hv M 69 4 from hb_set_n (.inl (by omega))]; exact hx.2
  refine ⟨fun k => ?_, h4⟩
  by_cases e : k = 7
  · subst e
    intro j h1 h2
    have h2 : (j : Int) < hv (hb_set M b i v) 69 4 := h2
    omega
  · exact hxk_s (hi_sp69 k e b i (by omega)) (hx.1 k)
def hi_a69_q : mz_Q := (53, [(1, 69), (0, 0), (0, 0), (0, 0), (3, 0), (3, 0), (3, 0), (3, 0)], [(0, [(1, 1)]), (5, [(1, -1)]), (0, [(2, 1)]), (236, [(3, -1)])], [], [(0, 0, [(1, [(69, 1)]), (-1, [(69, -1)])])], [74, 75, 76, 77])
def hi_a69_s : List mz_Sp2 := [(125, [(1, 69), (0, 0), (0, 0), (0, 0), (0, 0), (0, 0), (0, 0), (3, 0)], [(0, 0), (0, 0), (1, 78)], [(0, [(1, -1), (70, 1)]), (0, [(1, 1), (70, -1)]), (0, [(2, -1), (71, 1)]), (0, [(2, 1), (71, -1)]), (0, [(3, -1), (72, 1)]), (0, [(3, 1), (72, -1)]), (-12, [(2, -1), (73, -1), (74, 1)]), (12, [(2, 1), (73, 1), (74, -1)]), (-1, [(2, -1), (73, -1), (75, 1)]), (1, [(2, 1), (73, 1), (75, -1)]), (0, [(1, -1), (78, 1)]), (0, [(1, 1), (78, -1)]), (-1, [(2, -1), (3, 1)]), (255, [(73, -1)]), (0, [(73, 1)]), (-1, [(73, 1)]), (4, [(73, -1)]), (-12, [(2, -1), (3, 1), (73, -1)]), (0, [(77, 1)]), (65535, [(77, -1)])])]
def hi_a69_h : List mz_H := [(0, 0, []), (0, 0, []), (70, 0, []), (0, 0, [(3, 1)]), (0, 0, [(0, 1), (4, 1)]), (0, 0, []), (0, 0, [(5, 1)]), (0, 0, [(2, 1), (6, 1)]), (0, 0, []), (0, 0, [(0, 1), (5, 1)]), (0, 0, [(1, 1), (2, 1), (6, 1)]), (0, 0, []), (0, 0, []), (0, 0, []), (0, 0, []), (0, 0, []), (0, 0, []), (0, 0, []), (0, 0, []), (0, 0, []), (0, 0, []), (0, 0, []), (0, 0, []), (0, 0, []), (0, 0, [(8, 1)]), (0, 0, [(0, 1), (2, 1), (9, 1)]), (0, 0, []), (0, 0, [(2, 1), (8, 1)]), (0, 0, [(0, 1), (9, 1)]), (74, 0, []), (0, 0, []), (0, 0, [(8, 1)]), (0, 0, [(0, 1), (2, 1), (9, 1)]), (1, 0, []), (0, 0, [(8, 1)]), (0, 0, [(2, 1)]), (0, 0, [(0, 1), (9, 1)]), (0, 0, [(2, 1)]), (0, 0, [(1, 1)]), (0, 0, []), (0, 0, [(8, 1)]), (0, 0, [(9, 1)]), (0, 0, [(0, 1)]), (0, 0, [(1, 1)]), (75, 0, []), (70, 0, []), (0, 0, [(4, 1), (10, 1)]), (0, 0, [(2, 1), (11, 1)]), (0, 0, [(10, 1)]), (0, 0, [(11, 1)]), (0, 0, [(0, 1)]), (0, 0, [(1, 1)]), (76, 0, []), (0, 0, []), (0, 0, [(6, 1), (12, 1)]), (0, 0, [(4, 1), (13, 1)]), (1, 0, []), (0, 0, [(6, 1), (12, 1)]), (0, 0, []), (0, 0, [(4, 1), (13, 1)]), (0, 0, []), (0, 0, []), (0, 0, []), (0, 0, [(12, 1)]), (0, 0, [(13, 1)]), (0, 0, [(0, 1)]), (0, 0, [(1, 1)]), (77, 0, []), (0, 0, []), (0, 0, [(8, 1), (14, 1)]), (0, 0, [(6, 1), (15, 1)]), (0, 0, []), (0, 0, [(8, 1), (14, 1)]), (0, 0, [(6, 1), (15, 1)]), (0, 0, []), (0, 0, []), (0, 0, []), (0, 0, [(16, 1)]), (0, 0, [(17, 1)]), (0, 0, [(1, 1)]), (0, 0, [(0, 1)]), (78, 0, []), (0, 0, []), (0, 0, [(12, 1), (18, 1)]), (0, 0, [(10, 1), (19, 1)]), (0, 0, []), (0, 0, [(12, 1), (18, 1)]), (0, 0, [(10, 1), (19, 1)]), (0, 0, []), (0, 0, []), (0, 0, []), (0, 0, []), (0, 0, []), (0, 0, []), (0, 0, []), (0, 0, []), (0, 0, []), (0, 0, []), (0, 0, []), (0, 0, []), (0, 0, []), (0, 0, []), (0, 0, []), (0, 0, []), (0, 0, [(19, 1)]), (0, 0, [(15, 1)]), (0, 0, [(16, 1)]), (0, 0, [(16, 1)]), (0, 0, [(15, 1)]), (0, 0, [(14, 1)]), (0, 0, [(1, 1)]), (0, 0, [(0, 1)]), (0, 0, []), (0, 0, []), (0, 0, []), (0, 0, []), (0, 0, []), (0, 0, [])]
set_option maxRecDepth 100000 in
theorem hi_a69_c : mz_blk mz_GG mq_PP hi_Cs hi_a69_q 8 2 0 hi_a69_s [] 90 hi_a69_h = true := by decide +kernel
theorem hi_a69 {X : (Nat → mq_C) → Prop} (hX : ∀ M M' : Nat → mq_C, mz_same mz_GG M M' → X M → X M') (hC : ∀ c ∈ hi_Cs, c.2 < 2 → mz_Ct mz_GG mq_PP X c.1 c.2) {d z u : Nat} {M : Nat → mq_C} {Q : (Option Value ⊕ Nat) → mq_S → Prop} {x1 : Int32} {x2 : Int32} {x3 : Int32} {o4 : Option Value} {o5 : Option Value} {o6 : Option Value} {o7 : Option Value} (hd : 2 ≤ d) (hz : 272 ≤ z) (hm : mz_sh mz_GG M) (hx : X M) (h0 : mq_nl o4 = true) (h1 : mq_nl o5 = true) (h2 : mq_nl o6 = true) (h3 : mq_nl o7 = true) (p0 : 0 ≤ x1.toInt) (p1 : 0 ≤ 5 - x1.toInt) (p2 : 0 ≤ x2.toInt) (p3 : 0 ≤ 236 - x3.toInt)
    (k0 : ∀ (M' : Nat → mq_C) (y4 : Int32) (y5 : Int32) (y6 : Int32) (w7 : Option Value) (y8 : Int32), mz_sh mz_GG M' → X M' → mz_fr hi_a69_q M M' → (∀ a, a < 8 → M' a = M a) → hb_same mz_GG hi_a69_q M M' → mq_nl w7 = true → y5.toInt = 12 + x2.toInt + y4.toInt → y6.toInt = 1 + x2.toInt + y4.toInt → 0 ≤ (-1) - x2.toInt + x3.toInt → 0 ≤ 255 - y4.toInt → 0 ≤ y4.toInt → 0 ≤ (-1) + y4.toInt → 0 ≤ 4 - y4.toInt → 0 ≤ (-12) - x2.toInt + x3.toInt - y4.toInt → 0 ≤ y8.toInt → 0 ≤ 65535 - y8.toInt → mq_R mq_PP d 53 125 [some (.ref 69), some (.int x1), some (.int x2), some (.int x3), some (.int y4), some (.int y5), some (.int y6), w7] [.int y8, .int x1, .ref 78] (M', z, u) Q)
    (w0 : ∀ (M' : Nat → mq_C) (r : Int32), mz_sh mz_GG M' → X M' → mz_fr hi_a69_q M M' → (∀ a, a < 8 → M' a = M a) → hb_same mz_GG hi_a69_q M M' → 0 ≤ 1 + r.toInt → 0 ≤ (-1) - r.toInt → Q (.inl (some (.int r))) (M', z, u)) : mq_R mq_PP d 53 0 [some (.ref 69), some (.int x1), some (.int x2), some (.int x3), o4, o5, o6, o7] [] (M, z, u) Q := by
  refine hb_blk mz_GG mq_PP X (q := hi_a69_q) (nl := 8) (M := M) hb_okG hX hC hi_a69_c hz hd (L := [some (.ref 69), some (.int x1), some (.int x2), some (.int x3), o4, o5, o6, o7]) (st := []) (show hb_lk mz_GG ([(1, 69), (0, 0), (0, 0), (0, 0), (3, 0), (3, 0), (3, 0), (3, 0)]) _ from ⟨⟨List.mem_singleton.mpr rfl, rfl⟩, trivial, trivial, trivial, h0, h1, h2, h3, trivial⟩) (show hb_pk mz_GG ([]) _ from trivial) hm hx ?_ ?_ ?_
  · exact hb_cons (show 0 ≤ mz_ev _ _ from (show 0 ≤ 0 + (1 * x1.toInt + 0) by omega)) (hb_cons (show 0 ≤ mz_ev _ _ from (show 0 ≤ 5 + ((-1) * x1.toInt + 0) by omega)) (hb_cons (show 0 ≤ mz_ev _ _ from (show 0 ≤ 0 + (1 * x2.toInt + 0) by omega)) (hb_cons (show 0 ≤ mz_ev _ _ from (show 0 ≤ 236 + ((-1) * x3.toInt + 0) by omega)) (hb_nil))))
  · intro s hs
    rcases List.mem_cons.mp hs with rfl | hs
    · intro ρ1 L' st' M' g1 g2 gm gr gf gs gx gw g8 ge
      obtain ⟨e0, L1, rfl, n0, gg0⟩ := hb_l1 mz_GG g1
      obtain rfl : e0 = 69 := List.mem_singleton.mp n0
      obtain ⟨y1, L1, rfl, qr70, gg1⟩ := hb_l0 mz_GG gg0
      have r70 : ρ1 70 = y1.toInt := qr70
      obtain ⟨y2, L1, rfl, qr71, gg2⟩ := hb_l0 mz_GG gg1
      have r71 : ρ1 71 = y2.toInt := qr71
      obtain ⟨y3, L1, rfl, qr72, gg3⟩ := hb_l0 mz_GG gg2
      have r72 : ρ1 72 = y3.toInt := qr72
      obtain ⟨y4, L1, rfl, qr73, gg4⟩ := hb_l0 mz_GG gg3
      have r73 : ρ1 73 = y4.toInt := qr73
      obtain ⟨y5, L1, rfl, qr74, gg5⟩ := hb_l0 mz_GG gg4
      have r74 : ρ1 74 = y5.toInt := qr74
      obtain ⟨y6, L1, rfl, qr75, gg6⟩ := hb_l0 mz_GG gg5
      have r75 : ρ1 75 = y6.toInt := qr75
      obtain ⟨w7, L1, rfl, n7, gg7⟩ := hb_l3 mz_GG gg6
      obtain ⟨y8, s1, rfl, qr77, gg8⟩ := hb_p0 mz_GG g2
      have r77 : ρ1 77 = y8.toInt := qr77
      obtain ⟨y9, s1, rfl, qr78, gg9⟩ := hb_p0 mz_GG gg8
      have r78 : ρ1 78 = y9.toInt := qr78
      obtain ⟨e10, s1, rfl, n10, gg10⟩ := hb_p1 mz_GG gg9
      obtain rfl : e10 = 78 := List.mem_singleton.mp n10
      obtain rfl := hb_ln mz_GG gg7
      obtain rfl := hb_pn mz_GG gg10
      have r1 : ρ1 1 = x1.toInt := gr 1 (by decide +kernel)
      have r2 : ρ1 2 = x2.toInt := gr 2 (by decide +kernel)
      have r3 : ρ1 3 = x3.toInt := gr 3 (by decide +kernel)
      obtain ⟨f0, gf⟩ := hb_unc gf
      have f0 : 0 ≤ 0 + ((-1) * ρ1 1 + (1 * ρ1 70 + 0)) := f0
      rw [r1, r70] at f0
      obtain ⟨f1, gf⟩ := hb_unc gf
      have f1 : 0 ≤ 0 + (1 * ρ1 1 + ((-1) * ρ1 70 + 0)) := f1
      rw [r1, r70] at f1
      obtain ⟨f2, gf⟩ := hb_unc gf
      have f2 : 0 ≤ 0 + ((-1) * ρ1 2 + (1 * ρ1 71 + 0)) := f2
      rw [r2, r71] at f2
      obtain ⟨f3, gf⟩ := hb_unc gf
      have f3 : 0 ≤ 0 + (1 * ρ1 2 + ((-1) * ρ1 71 + 0)) := f3
      rw [r2, r71] at f3
      obtain ⟨f4, gf⟩ := hb_unc gf
      have f4 : 0 ≤ 0 + ((-1) * ρ1 3 + (1 * ρ1 72 + 0)) := f4
      rw [r3, r72] at f4
      obtain ⟨f5, gf⟩ := hb_unc gf
      have f5 : 0 ≤ 0 + (1 * ρ1 3 + ((-1) * ρ1 72 + 0)) := f5
      rw [r3, r72] at f5
      obtain ⟨f6, gf⟩ := hb_unc gf
      have f6 : 0 ≤ -12 + ((-1) * ρ1 2 + ((-1) * ρ1 73 + (1 * ρ1 74 + 0))) := f6
      rw [r2, r73, r74] at f6
      obtain ⟨f7, gf⟩ := hb_unc gf
      have f7 : 0 ≤ 12 + (1 * ρ1 2 + (1 * ρ1 73 + ((-1) * ρ1 74 + 0))) := f7
      rw [r2, r73, r74] at f7
      obtain ⟨f8, gf⟩ := hb_unc gf
      have f8 : 0 ≤ -1 + ((-1) * ρ1 2 + ((-1) * ρ1 73 + (1 * ρ1 75 + 0))) := f8
      rw [r2, r73, r75] at f8
      obtain ⟨f9, gf⟩ := hb_unc gf
      have f9 : 0 ≤ 1 + (1 * ρ1 2 + (1 * ρ1 73 + ((-1) * ρ1 75 + 0))) := f9
      rw [r2, r73, r75] at f9
      obtain ⟨f10, gf⟩ := hb_unc gf
      have f10 : 0 ≤ 0 + ((-1) * ρ1 1 + (1 * ρ1 78 + 0)) := f10
      rw [r1, r78] at f10
      obtain ⟨f11, gf⟩ := hb_unc gf
      have f11 : 0 ≤ 0 + (1 * ρ1 1 + ((-1) * ρ1 78 + 0)) := f11
      rw [r1, r78] at f11
      obtain ⟨f12, gf⟩ := hb_unc gf
      have f12 : 0 ≤ -1 + ((-1) * ρ1 2 + (1 * ρ1 3 + 0)) := f12
      rw [r2, r3] at f12
      obtain ⟨f13, gf⟩ := hb_unc gf
      have f13 : 0 ≤ 255 + ((-1) * ρ1 73 + 0) := f13
      rw [r73] at f13
      obtain ⟨f14, gf⟩ := hb_unc gf
      have f14 : 0 ≤ 0 + (1 * ρ1 73 + 0) := f14
      rw [r73] at f14
      obtain ⟨f15, gf⟩ := hb_unc gf
      have f15 : 0 ≤ -1 + (1 * ρ1 73 + 0) := f15
      rw [r73] at f15
      obtain ⟨f16, gf⟩ := hb_unc gf
      have f16 : 0 ≤ 4 + ((-1) * ρ1 73 + 0) := f16
      rw [r73] at f16
      obtain ⟨f17, gf⟩ := hb_unc gf
      have f17 : 0 ≤ -12 + ((-1) * ρ1 2 + (1 * ρ1 3 + ((-1) * ρ1 73 + 0))) := f17
      rw [r2, r3, r73] at f17
      obtain ⟨f18, gf⟩ := hb_unc gf
      have f18 : 0 ≤ 0 + (1 * ρ1 77 + 0) := f18
      rw [r77] at f18
      obtain ⟨f19, gf⟩ := hb_unc gf
      have f19 : 0 ≤ 65535 + ((-1) * ρ1 77 + 0) := f19
      rw [r77] at f19
      have hy1 : y1 = x1 := hb_inj f0 f1
      subst y1
      have hy2 : y2 = x2 := hb_inj f2 f3
      subst y2
      have hy3 : y3 = x3 := hb_inj f4 f5
      subst y3
      have hy9 : y9 = x1 := hb_inj f10 f11
      subst y9
      exact k0 M' y4 y5 y6 w7 y8 gs gx gw g8 ge n7 (by have h1 := f6; have h2 := f7; omega) (by have h1 := f8; have h2 := f9; omega) (by have h1 := f12; omega) (by have h1 := f13; omega) (by have h1 := f14; omega) (by have h1 := f15; omega) (by have h1 := f16; omega) (by have h1 := f17; omega) (by have h1 := f18; omega) (by have h1 := f19; omega)
    cases hs
  · intro r S hpo
    obtain ⟨b1, b2, b3, b4, b5, p, hp, res, hf, hre⟩ := hpo
    rcases List.mem_cons.mp hp with rfl | hp
    · obtain ⟨x, rfl, hr, hz1, hu1⟩ := mz_re_0 mz_GG hre rfl
      obtain ⟨M', z', u'⟩ := S
      cases hz1
      cases hu1
      have r69 : hb_r1 mz_GG hi_a69_q (hb_rb mz_GG hi_a69_q 8 [some (.ref 69), some (.int x1), some (.int x2), some (.int x3), o4, o5, o6, o7] [] M) M' res 69 = res := rfl
      obtain ⟨f0, hf⟩ := hb_unc hf
      have f0 : 0 ≤ 1 + (1 * res + 0) := f0
      rw [← hr] at f0
      obtain ⟨f1, hf⟩ := hb_unc hf
      have f1 : 0 ≤ -1 + ((-1) * res + 0) := f1
      rw [← hr] at f1
      exact w0 M' x b1 b2 b3 b4 b5 (by have h1 := f0; omega) (by have h1 := f1; omega)
    cases hp

def hi_b69_q : mz_Q := (53, [(1, 69), (0, 0), (0, 0), (0, 0), (0, 0), (0, 0), (0, 0), (3, 0)], [(0, [(1, 1)]), (5, [(1, -1)]), (0, [(6, 1)]), (226, [(6, -1)])], [], [], [])
def hi_b69_s : List mz_Sp2 := [(141, [(1, 69), (0, 0), (0, 0), (0, 0), (0, 0), (0, 0), (0, 0), (3, 0)], [(0, 0), (0, 0), (1, 79)], [(0, [(1, -1), (70, 1)]), (0, [(1, 1), (70, -1)]), (0, [(2, -1), (71, 1)]), (0, [(2, 1), (71, -1)]), (0, [(3, -1), (72, 1)]), (0, [(3, 1), (72, -1)]), (0, [(4, -1), (73, 1)]), (0, [(4, 1), (73, -1)]), (0, [(5, -1), (74, 1)]), (0, [(5, 1), (74, -1)]), (0, [(6, -1), (75, 1)]), (0, [(6, 1), (75, -1)]), (0, [(1, -1), (78, 1)]), (0, [(1, 1), (78, -1)]), (0, [(77, 1)]), (65535, [(77, -1)])])]
def hi_b69_h : List mz_H := [(79, 0, []), (0, 0, []), (0, 0, [(2, 1)]), (0, 0, [(3, 1)]), (0, 0, []), (0, 0, [(2, 1)]), (0, 0, [(3, 1)]), (0, 0, []), (0, 0, []), (0, 0, []), (0, 0, []), (0, 0, []), (0, 0, []), (0, 0, []), (0, 0, []), (0, 0, []), (0, 0, []), (0, 0, []), (0, 0, []), (0, 0, []), (0, 0, []), (0, 0, []), (0, 0, []), (0, 0, []), (0, 0, []), (0, 0, [(1, 1)]), (0, 0, [(0, 1)])]
set_option maxRecDepth 100000 in
theorem hi_b69_c : mz_blk mz_GG mq_PP hi_Cs hi_b69_q 8 2 126 hi_b69_s [] 15 hi_b69_h = true := by decide +kernel
theorem hi_b69 {X : (Nat → mq_C) → Prop} (hX : ∀ M M' : Nat → mq_C, mz_same mz_GG M M' → X M → X M') (hC : ∀ c ∈ hi_Cs, c.2 < 2 → mz_Ct mz_GG mq_PP X c.1 c.2) {d z u : Nat} {M : Nat → mq_C} {Q : (Option Value ⊕ Nat) → mq_S → Prop} {x1 : Int32} {x2 : Int32} {x3 : Int32} {x4 : Int32} {x5 : Int32} {x6 : Int32} {o7 : Option Value} (hd : 2 ≤ d) (hz : 272 ≤ z) (hm : mz_sh mz_GG M) (hx : X M) (h0 : mq_nl o7 = true) (p0 : 0 ≤ x1.toInt) (p1 : 0 ≤ 5 - x1.toInt) (p2 : 0 ≤ x6.toInt) (p3 : 0 ≤ 226 - x6.toInt)
    (k0 : ∀ (M' : Nat → mq_C) (w7 : Option Value) (y8 : Int32), mz_sh mz_GG M' → X M' → mz_fr hi_b69_q M M' → (∀ a, a < 8 → M' a = M a) → hb_same mz_GG hi_b69_q M M' → mq_nl w7 = true → 0 ≤ y8.toInt → 0 ≤ 65535 - y8.toInt → mq_R mq_PP d 53 141 [some (.ref 69), some (.int x1), some (.int x2), some (.int x3), some (.int x4), some (.int x5), some (.int x6), w7] [.int y8, .int x1, .ref 79] (M', z, u) Q) : mq_R mq_PP d 53 126 [some (.ref 69), some (.int x1), some (.int x2), some (.int x3), some (.int x4), some (.int x5), some (.int x6), o7] [] (M, z, u) Q := by
  refine hb_blk mz_GG mq_PP X (q := hi_b69_q) (nl := 8) (M := M) hb_okG hX hC hi_b69_c hz hd (L := [some (.ref 69), some (.int x1), some (.int x2), some (.int x3), some (.int x4), some (.int x5), some (.int x6), o7]) (st := []) (show hb_lk mz_GG ([(1, 69), (0, 0), (0, 0), (0, 0), (0, 0), (0, 0), (0, 0), (3, 0)]) _ from ⟨⟨List.mem_singleton.mpr rfl, rfl⟩, trivial, trivial, trivial, trivial, trivial, trivial, h0, trivial⟩) (show hb_pk mz_GG ([]) _ from trivial) hm hx ?_ ?_ ?_
  · exact hb_cons (show 0 ≤ mz_ev _ _ from (show 0 ≤ 0 + (1 * x1.toInt + 0) by omega)) (hb_cons (show 0 ≤ mz_ev _ _ from (show 0 ≤ 5 + ((-1) * x1.toInt + 0) by omega)) (hb_cons (show 0 ≤ mz_ev _ _ from (show 0 ≤ 0 + (1 * x6.toInt + 0) by omega)) (hb_cons (show 0 ≤ mz_ev _ _ from (show 0 ≤ 226 + ((-1) * x6.toInt + 0) by omega)) (hb_nil))))
  · intro s hs
    rcases List.mem_cons.mp hs with rfl | hs
    · intro ρ1 L' st' M' g1 g2 gm gr gf gs gx gw g8 ge
      obtain ⟨e0, L1, rfl, n0, gg0⟩ := hb_l1 mz_GG g1
      obtain rfl : e0 = 69 := List.mem_singleton.mp n0
      obtain ⟨y1, L1, rfl, qr70, gg1⟩ := hb_l0 mz_GG gg0
      have r70 : ρ1 70 = y1.toInt := qr70
      obtain ⟨y2, L1, rfl, qr71, gg2⟩ := hb_l0 mz_GG gg1
      have r71 : ρ1 71 = y2.toInt := qr71
      obtain ⟨y3, L1, rfl, qr72, gg3⟩ := hb_l0 mz_GG gg2
      have r72 : ρ1 72 = y3.toInt := qr72
      obtain ⟨y4, L1, rfl, qr73, gg4⟩ := hb_l0 mz_GG gg3
      have r73 : ρ1 73 = y4.toInt := qr73
      obtain ⟨y5, L1, rfl, qr74, gg5⟩ := hb_l0 mz_GG gg4
      have r74 : ρ1 74 = y5.toInt := qr74
      obtain ⟨y6, L1, rfl, qr75, gg6⟩ := hb_l0 mz_GG gg5
      have r75 : ρ1 75 = y6.toInt := qr75
      obtain ⟨w7, L1, rfl, n7, gg7⟩ := hb_l3 mz_GG gg6
      obtain ⟨y8, s1, rfl, qr77, gg8⟩ := hb_p0 mz_GG g2
      have r77 : ρ1 77 = y8.toInt := qr77
      obtain ⟨y9, s1, rfl, qr78, gg9⟩ := hb_p0 mz_GG gg8
      have r78 : ρ1 78 = y9.toInt := qr78
      obtain ⟨e10, s1, rfl, n10, gg10⟩ := hb_p1 mz_GG gg9
      obtain rfl : e10 = 79 := List.mem_singleton.mp n10
      obtain rfl := hb_ln mz_GG gg7
      obtain rfl := hb_pn mz_GG gg10
      have r1 : ρ1 1 = x1.toInt := gr 1 (by decide +kernel)
      have r2 : ρ1 2 = x2.toInt := gr 2 (by decide +kernel)
      have r3 : ρ1 3 = x3.toInt := gr 3 (by decide +kernel)
      have r4 : ρ1 4 = x4.toInt := gr 4 (by decide +kernel)
      have r5 : ρ1 5 = x5.toInt := gr 5 (by decide +kernel)
      have r6 : ρ1 6 = x6.toInt := gr 6 (by decide +kernel)
      obtain ⟨f0, gf⟩ := hb_unc gf
      have f0 : 0 ≤ 0 + ((-1) * ρ1 1 + (1 * ρ1 70 + 0)) := f0
      rw [r1, r70] at f0
      obtain ⟨f1, gf⟩ := hb_unc gf
      have f1 : 0 ≤ 0 + (1 * ρ1 1 + ((-1) * ρ1 70 + 0)) := f1
      rw [r1, r70] at f1
      obtain ⟨f2, gf⟩ := hb_unc gf
      have f2 : 0 ≤ 0 + ((-1) * ρ1 2 + (1 * ρ1 71 + 0)) := f2
      rw [r2, r71] at f2
      obtain ⟨f3, gf⟩ := hb_unc gf
      have f3 : 0 ≤ 0 + (1 * ρ1 2 + ((-1) * ρ1 71 + 0)) := f3
      rw [r2, r71] at f3
      obtain ⟨f4, gf⟩ := hb_unc gf
      have f4 : 0 ≤ 0 + ((-1) * ρ1 3 + (1 * ρ1 72 + 0)) := f4
      rw [r3, r72] at f4
      obtain ⟨f5, gf⟩ := hb_unc gf
      have f5 : 0 ≤ 0 + (1 * ρ1 3 + ((-1) * ρ1 72 + 0)) := f5
      rw [r3, r72] at f5
      obtain ⟨f6, gf⟩ := hb_unc gf
      have f6 : 0 ≤ 0 + ((-1) * ρ1 4 + (1 * ρ1 73 + 0)) := f6
      rw [r4, r73] at f6
      obtain ⟨f7, gf⟩ := hb_unc gf
      have f7 : 0 ≤ 0 + (1 * ρ1 4 + ((-1) * ρ1 73 + 0)) := f7
      rw [r4, r73] at f7
      obtain ⟨f8, gf⟩ := hb_unc gf
      have f8 : 0 ≤ 0 + ((-1) * ρ1 5 + (1 * ρ1 74 + 0)) := f8
      rw [r5, r74] at f8
      obtain ⟨f9, gf⟩ := hb_unc gf
      have f9 : 0 ≤ 0 + (1 * ρ1 5 + ((-1) * ρ1 74 + 0)) := f9
      rw [r5, r74] at f9
      obtain ⟨f10, gf⟩ := hb_unc gf
      have f10 : 0 ≤ 0 + ((-1) * ρ1 6 + (1 * ρ1 75 + 0)) := f10
      rw [r6, r75] at f10
      obtain ⟨f11, gf⟩ := hb_unc gf
      have f11 : 0 ≤ 0 + (1 * ρ1 6 + ((-1) * ρ1 75 + 0)) := f11
      rw [r6, r75] at f11
      obtain ⟨f12, gf⟩ := hb_unc gf
      have f12 : 0 ≤ 0 + ((-1) * ρ1 1 + (1 * ρ1 78 + 0)) := f12
      rw [r1, r78] at f12
      obtain ⟨f13, gf⟩ := hb_unc gf
      have f13 : 0 ≤ 0 + (1 * ρ1 1 + ((-1) * ρ1 78 + 0)) := f13
      rw [r1, r78] at f13
      obtain ⟨f14, gf⟩ := hb_unc gf
      have f14 : 0 ≤ 0 + (1 * ρ1 77 + 0) := f14
      rw [r77] at f14
      obtain ⟨f15, gf⟩ := hb_unc gf
      have f15 : 0 ≤ 65535 + ((-1) * ρ1 77 + 0) := f15
      rw [r77] at f15
      have hy1 : y1 = x1 := hb_inj f0 f1
      subst y1
      have hy2 : y2 = x2 := hb_inj f2 f3
      subst y2
      have hy3 : y3 = x3 := hb_inj f4 f5
      subst y3
      have hy4 : y4 = x4 := hb_inj f6 f7
      subst y4
      have hy5 : y5 = x5 := hb_inj f8 f9
      subst y5
      have hy6 : y6 = x6 := hb_inj f10 f11
      subst y6
      have hy9 : y9 = x1 := hb_inj f12 f13
      subst y9
      exact k0 M' w7 y8 gs gx gw g8 ge n7 (by have h1 := f14; omega) (by have h1 := f15; omega)
    cases hs
  · intro r S hpo
    obtain ⟨b1, b2, b3, b4, b5, p, hp, res, hf, hre⟩ := hpo
    cases hp

def hi_d69_q : mz_Q := (53, [(1, 69), (0, 0), (0, 0), (0, 0), (0, 0), (0, 0), (0, 0), (3, 0)], [(0, [(1, 1)]), (5, [(1, -1)])], [], [(0, 0, [(1, [(69, 1)]), (-1, [(69, -1)])]), (0, 0, [(0, [(5, -1), (69, 1)]), (0, [(5, 1), (69, -1)])])], [])
def hi_d69_s : List mz_Sp2 := []
def hi_d69_h : List mz_H := [(74, 0, []), (0, 0, [(0, 1)]), (0, 0, [(1, 1)]), (3, 0, []), (0, 0, []), (0, 0, []), (0, 0, []), (0, 0, []), (1, 0, []), (0, 0, []), (0, 0, []), (0, 0, []), (0, 0, []), (0, 0, []), (77, 0, []), (0, 0, [(8, 1)]), (0, 0, [(9, 1)]), (0, 0, []), (0, 0, []), (0, 0, []), (1, 0, []), (0, 0, []), (0, 0, []), (0, 0, []), (0, 0, []), (0, 0, []), (75, 0, []), (0, 0, [(11, 1)]), (0, 0, [(12, 1)]), (0, 0, []), (3, 0, []), (0, 0, [(0, 1)]), (1, 1, []), (0, 0, []), (3, 0, []), (0, 0, []), (1, 0, []), (0, 0, []), (0, 0, []), (75, 0, []), (0, 0, [(14, 1)]), (0, 0, [(15, 1)]), (0, 0, []), (0, 0, []), (0, 0, []), (1, 0, []), (0, 0, []), (0, 0, []), (0, 0, []), (0, 0, []), (0, 0, []), (1, 1, []), (0, 0, []), (3, 0, []), (0, 0, []), (1, 0, []), (0, 0, []), (0, 0, [])]
set_option maxRecDepth 100000 in
theorem hi_d69_c : mz_blk mz_GG mq_PP hi_Cs hi_d69_q 8 2 142 hi_d69_s [] 63 hi_d69_h = true := by decide +kernel
theorem hi_d69 {X : (Nat → mq_C) → Prop} (hX : ∀ M M' : Nat → mq_C, mz_same mz_GG M M' → X M → X M') (hC : ∀ c ∈ hi_Cs, c.2 < 2 → mz_Ct mz_GG mq_PP X c.1 c.2) {d z u : Nat} {M : Nat → mq_C} {Q : (Option Value ⊕ Nat) → mq_S → Prop} {x1 : Int32} {x2 : Int32} {x3 : Int32} {x4 : Int32} {x5 : Int32} {x6 : Int32} {o7 : Option Value} (hd : 2 ≤ d) (hz : 272 ≤ z) (hm : mz_sh mz_GG M) (hx : X M) (h0 : mq_nl o7 = true) (p0 : 0 ≤ x1.toInt) (p1 : 0 ≤ 5 - x1.toInt)
    (w0 : ∀ (M' : Nat → mq_C) (r : Int32), mz_sh mz_GG M' → X M' → mz_fr hi_d69_q M M' → (∀ a, a < 8 → M' a = M a) → hb_same mz_GG hi_d69_q M M' → 0 ≤ 1 + r.toInt → 0 ≤ (-1) - r.toInt → Q (.inl (some (.int r))) (M', z, u))
    (w1 : ∀ (M' : Nat → mq_C) (r : Int32), mz_sh mz_GG M' → X M' → mz_fr hi_d69_q M M' → (∀ a, a < 8 → M' a = M a) → hb_same mz_GG hi_d69_q M M' → 0 ≤ 0 - x5.toInt + r.toInt → 0 ≤ x5.toInt - r.toInt → Q (.inl (some (.int r))) (M', z, u)) : mq_R mq_PP d 53 142 [some (.ref 69), some (.int x1), some (.int x2), some (.int x3), some (.int x4), some (.int x5), some (.int x6), o7] [] (M, z, u) Q := by
  refine hb_blk mz_GG mq_PP X (q := hi_d69_q) (nl := 8) (M := M) hb_okG hX hC hi_d69_c hz hd (L := [some (.ref 69), some (.int x1), some (.int x2), some (.int x3), some (.int x4), some (.int x5), some (.int x6), o7]) (st := []) (show hb_lk mz_GG ([(1, 69), (0, 0), (0, 0), (0, 0), (0, 0), (0, 0), (0, 0), (3, 0)]) _ from ⟨⟨List.mem_singleton.mpr rfl, rfl⟩, trivial, trivial, trivial, trivial, trivial, trivial, h0, trivial⟩) (show hb_pk mz_GG ([]) _ from trivial) hm hx ?_ ?_ ?_
  · exact hb_cons (show 0 ≤ mz_ev _ _ from (show 0 ≤ 0 + (1 * x1.toInt + 0) by omega)) (hb_cons (show 0 ≤ mz_ev _ _ from (show 0 ≤ 5 + ((-1) * x1.toInt + 0) by omega)) (hb_nil))
  · intro s hs
    cases hs
  · intro r S hpo
    obtain ⟨b1, b2, b3, b4, b5, p, hp, res, hf, hre⟩ := hpo
    rcases List.mem_cons.mp hp with rfl | hp
    · obtain ⟨x, rfl, hr, hz1, hu1⟩ := mz_re_0 mz_GG hre rfl
      obtain ⟨M', z', u'⟩ := S
      cases hz1
      cases hu1
      have r69 : hb_r1 mz_GG hi_d69_q (hb_rb mz_GG hi_d69_q 8 [some (.ref 69), some (.int x1), some (.int x2), some (.int x3), some (.int x4), some (.int x5), some (.int x6), o7] [] M) M' res 69 = res := rfl
      obtain ⟨f0, hf⟩ := hb_unc hf
      have f0 : 0 ≤ 1 + (1 * res + 0) := f0
      rw [← hr] at f0
      obtain ⟨f1, hf⟩ := hb_unc hf
      have f1 : 0 ≤ -1 + ((-1) * res + 0) := f1
      rw [← hr] at f1
      exact w0 M' x b1 b2 b3 b4 b5 (by have h1 := f0; omega) (by have h1 := f1; omega)
    rcases List.mem_cons.mp hp with rfl | hp
    · obtain ⟨x, rfl, hr, hz1, hu1⟩ := mz_re_0 mz_GG hre rfl
      obtain ⟨M', z', u'⟩ := S
      cases hz1
      cases hu1
      have r5 : hb_r1 mz_GG hi_d69_q (hb_rb mz_GG hi_d69_q 8 [some (.ref 69), some (.int x1), some (.int x2), some (.int x3), some (.int x4), some (.int x5), some (.int x6), o7] [] M) M' res 5 = x5.toInt := rfl
      have r69 : hb_r1 mz_GG hi_d69_q (hb_rb mz_GG hi_d69_q 8 [some (.ref 69), some (.int x1), some (.int x2), some (.int x3), some (.int x4), some (.int x5), some (.int x6), o7] [] M) M' res 69 = res := rfl
      obtain ⟨f0, hf⟩ := hb_unc hf
      have f0 : 0 ≤ 0 + ((-1) * x5.toInt + (1 * res + 0)) := f0
      rw [← hr] at f0
      obtain ⟨f1, hf⟩ := hb_unc hf
      have f1 : 0 ≤ 0 + (1 * x5.toInt + ((-1) * res + 0)) := f1
      rw [← hr] at f1
      exact w1 M' x b1 b2 b3 b4 b5 (by have h1 := f0; omega) (by have h1 := f1; omega)
    cases hp

theorem hi_r69 {d z u : Nat} {Q : (Option Value ⊕ Nat) → mq_S → Prop} {M : Nat → mq_C} {x1 x2 x3 : Int32} (hd : 2 ≤ d) (hz : 272 ≤ z) (hm : mz_sh mz_GG M) (hx : hi_X 69 M) (p1 : 0 ≤ x1.toInt) (p2 : x1.toInt ≤ 5) (p3 : 0 ≤ x2.toInt) (p4 : x3.toInt ≤ 236)
    (K : ∀ (M' : Nat → mq_C) (r : Int32), mz_sh mz_GG M' → hi_X 69 M' → hi_R M M' → (∀ j, j ≠ x1.toInt.toNat → hv M' 78 j = hv M 78 j ∧ hv M' 79 j = hv M 79 j) → (∀ j, hv M' 70 j = hv M 70 j) → (r.toInt = -1 ∨ x2.toInt < x3.toInt ∧ x2.toInt ≤ r.toInt ∧ r.toInt ≤ x3.toInt) → Q (.inl (some (.int r))) (M', z, u)) : mq_R mq_PP d 53 0 [some (.ref 69), some (.int x1), some (.int x2), some (.int x3), none, none, none, none] [] (M, z, u) Q := by
  refine hi_a69 (hi_Xs (a := 69) (by decide)) (hi_C (hi_Xs (a := 69) (by decide))) hd hz hm hx rfl rfl rfl rfl (by omega) (by omega) (by omega) (by omega) ?_ ?_
  · intro M1 y4 y5 y6 w7 y8 gs gx gw g8 ge hw
    intros
    have R1 : hi_R M M1 := hi_Rb (by decide) rfl gw g8 ge
    refine hb_sta (n := 126) (kind := 64) gs (by decide +kernel) rfl rfl (.inl rfl) (by omega) (show _ < (6 : Int) by omega) ?_
    generalize hM2 : hb_set M1 78 x1.toInt.toNat y8 = M2
    have hm2 : mz_sh mz_GG M2 := by rw [← hM2]; exact hb_set_sh gs rfl hb_at1 (by omega) (by omega)
    have hx2 : hi_X 69 M2 := by rw [← hM2]; exact hi_xs69 gx (by omega)
    have w2 : ∀ b, b ≠ 78 → M2 b = M1 b := by intro b h; rw [← hM2]; exact hb_set_c h
    have n2 : ∀ j, j ≠ x1.toInt.toNat → hv M2 78 j = hv M1 78 j := by intro j h; rw [← hM2]; exact hb_set_n (.inr h)
    have R2 : hi_R M1 M2 := hi_Ro (W := [78]) (hb_only_s hb_only_r (by decide) w2) (by decide)
    refine hi_b69 (hi_Xs (a := 69) (by decide)) (hi_C (hi_Xs (a := 69) (by decide))) hd hz hm2 hx2 hw (by omega) (by omega) (by omega) (by omega) ?_
    intro M3 w7' y8' gs3 gx3 gw3 g83 ge3 hw3
    intros
    have R3 : hi_R M2 M3 := hi_Rb (by decide) rfl gw3 g83 ge3
    refine hb_sta (n := 142) (kind := 64) gs3 (by decide +kernel) rfl rfl (.inl rfl) (by omega) (show _ < (6 : Int) by omega) ?_
    generalize hM4 : hb_set M3 79 x1.toInt.toNat y8' = M4
    have hm4 : mz_sh mz_GG M4 := by rw [← hM4]; exact hb_set_sh gs3 rfl hb_at1 (by omega) (by omega)
    have hx4 : hi_X 69 M4 := by rw [← hM4]; exact hi_xs69 gx3 (by omega)
    have w4 : ∀ b, b ≠ 79 → M4 b = M3 b := by intro b h; rw [← hM4]; exact hb_set_c h
    have n4 : ∀ j, j ≠ x1.toInt.toNat → hv M4 79 j = hv M3 79 j := by intro j h; rw [← hM4]; exact hb_set_n (.inr h)
    have R4 : hi_R M3 M4 := hi_Ro (W := [79]) (hb_only_s hb_only_r (by decide) w4) (by decide)
    have R04 := hi_Rt (hi_Rt (hi_Rt R1 R2) R3) R4
    have hn : ∀ j, j ≠ x1.toInt.toNat → hv M4 78 j = hv M 78 j ∧ hv M4 79 j = hv M 79 j := by
      intro j hj
      constructor
      · rw [hb_vc (w4 _ (by decide)), hb_vc (gw3 _ (by decide) rfl), n2 j hj, hb_vc (gw _ (by decide) rfl)]
      · rw [n4 j hj, hb_vc (gw3 _ (by decide) rfl), hb_vc (w2 _ (by decide)), hb_vc (gw _ (by decide) rfl)]
    have hb4 : ∀ j, hv M4 70 j = hv M 70 j := by
      intro j
      rw [hb_vc (w4 _ (by decide)), hb_vc (gw3 _ (by decide) rfl), hb_vc (w2 _ (by decide)), hb_vc (gw _ (by decide) rfl)]
    refine hi_d69 (hi_Xs (a := 69) (by decide)) (hi_C (hi_Xs (a := 69) (by decide))) hd hz hm4 hx4 hw3 (by omega) (by omega) ?_ ?_
    · intro M5 r k1 k2 k3 k4 k5 l1 l2
      refine K M5 r k1 k2 (hi_Rt R04 (hi_Rb (by decide) rfl k3 k4 k5)) (fun j hj => ?_) (fun j => ?_) (.inl (by omega))
      · rw [hb_vc (k3 _ (by decide) rfl), hb_vc (k3 _ (by decide) rfl)]
        exact hn j hj
      · rw [hb_vc (k3 _ (by decide) rfl)]
        exact hb4 j
    · intro M5 r k1 k2 k3 k4 k5 l1 l2
      refine K M5 r k1 k2 (hi_Rt R04 (hi_Rb (by decide) rfl k3 k4 k5)) (fun j hj => ?_) (fun j => ?_) (.inr (by omega))
      · rw [hb_vc (k3 _ (by decide) rfl), hb_vc (k3 _ (by decide) rfl)]
        exact hn j hj
      · rw [hb_vc (k3 _ (by decide) rfl)]
        exact hb4 j
  · intro M' r gs gx gw g8 ge l1 l2
    exact K M' r gs gx (hi_Rb (by decide) rfl gw g8 ge) (fun j _ => ⟨hb_vc (gw _ (by decide) rfl) j, hb_vc (gw _ (by decide) rfl) j⟩) (fun j => hb_vc (gw _ (by decide) rfl) j) (.inl (by omega))
theorem hi_y69 {d z u : Nat} {Q : (Option Value ⊕ Nat) → mq_S → Prop} {M : Nat → mq_C} {x1 x2 : Int32} (hm : mz_sh mz_GG M) (p1 : 0 ≤ x1.toInt) (p2 : x1.toInt ≤ 5) (p3 : x2.toInt ≤ 240)
    (K0 : ∀ r : Int32, r.toInt = 0 → Q (.inl (some (.int r))) (M, z, u)) (K1 : ∀ r : Int32, r.toInt = 1 → hv M 79 x1.toInt.toNat + hv M 78 x1.toInt.toNat + 2 ≤ x2.toInt → Q (.inl (some (.int r))) (M, z, u)) : mq_R mq_PP d 54 0 [some (.ref 69), some (.int x1), some (.int x2), none] [] (M, z, u) Q := by
  refine he_aload (n := 1) (i := 0) (by decide +kernel) rfl ?_
  refine he_getr (n := 4) (ci := 1) (j := 10) (ns := [1230, 48]) (b := 79) hm (by decide +kernel) rfl rfl (by decide +kernel) ?_
  refine he_iload (n := 5) (i := 1) (by decide +kernel) rfl ?_
  refine hb_ld (n := 6) (kind := 64) hm (by decide +kernel) rfl rfl (.inl rfl) (by omega) (show _ < (6 : Int) by omega) hb_at1 ?_
  intro v5 hv5 lv5 uv5
  refine he_istore (n := 7) (i := 3) (by decide +kernel) rfl ?_
  refine he_iload (n := 8) (i := 3) (by decide +kernel) rfl ?_
  refine he_iconst (n := 9) (c := 2) (by decide +kernel) (by decide) ?_
  intro c8 hc8
  refine he_iadd (n := 10) (by decide +kernel) (by omega) (by omega) ?_
  intro v9 hv9
  refine he_aload (n := 11) (i := 0) (by decide +kernel) rfl ?_
  refine he_getr (n := 14) (ci := 1) (j := 9) (ns := [1229, 45]) (b := 78) hm (by decide +kernel) rfl rfl (by decide +kernel) ?_
  refine he_iload (n := 15) (i := 1) (by decide +kernel) rfl ?_
  refine hb_ld (n := 16) (kind := 64) hm (by decide +kernel) rfl rfl (.inl rfl) (by omega) (show _ < (6 : Int) by omega) hb_at1 ?_
  intro v15 hv15 lv15 uv15
  refine he_iadd (n := 17) (by decide +kernel) (by omega) (by omega) ?_
  intro v16 hv16
  refine he_iload (n := 18) (i := 2) (by decide +kernel) rfl ?_
  by_cases h18 : x2.toInt < v16.toInt
  · skip
    refine he_cmpgt_t (n := 21) (t := 53) (by decide +kernel) (by omega) ?_
    refine he_iconst (n := 54) (c := 0) (by decide +kernel) (by decide) ?_
    intro c53 hc53
    refine he_retz (by decide +kernel) (by omega) ?_
    exact K0 _ (by omega)
  · skip
    refine he_cmpgt_f (n := 21) (t := 53) (by decide +kernel) (by omega) ?_
    refine he_aload (n := 22) (i := 0) (by decide +kernel) rfl ?_
    refine he_getr (n := 25) (ci := 1) (j := 0) (ns := [1214, 9]) (b := 70) hm (by decide +kernel) rfl rfl (by decide +kernel) ?_
    refine he_iload (n := 26) (i := 3) (by decide +kernel) rfl ?_
    refine hb_ld (n := 27) (kind := 64) hm (by decide +kernel) rfl rfl (.inl rfl) (by omega) (show _ < (240 : Int) by omega) hb_at1 ?_
    intro v26 hv26 lv26 uv26
    refine he_iconst (n := 29) (c := 75) (by decide +kernel) (by decide) ?_
    intro c27 hc27
    by_cases h29 : v26.toInt = c27.toInt
    · skip
      refine he_cmpne_f (n := 32) (t := 53) (by decide +kernel) (by omega) ?_
      refine he_aload (n := 33) (i := 0) (by decide +kernel) rfl ?_
      refine he_getr (n := 36) (ci := 1) (j := 0) (ns := [1214, 9]) (b := 70) hm (by decide +kernel) rfl rfl (by decide +kernel) ?_
      refine he_iload (n := 37) (i := 3) (by decide +kernel) rfl ?_
      refine he_iconst (n := 38) (c := 1) (by decide +kernel) (by decide) ?_
      intro c37 hc37
      refine he_iadd (n := 39) (by decide +kernel) (by omega) (by omega) ?_
      intro v38 hv38
      refine hb_ld (n := 40) (kind := 64) hm (by decide +kernel) rfl rfl (.inl rfl) (by omega) (show _ < (240 : Int) by omega) hb_at1 ?_
      intro v39 hv39 lv39 uv39
      refine he_aload (n := 41) (i := 0) (by decide +kernel) rfl ?_
      refine he_getr (n := 44) (ci := 1) (j := 6) (ns := [1226, 36]) (b := 75) hm (by decide +kernel) rfl rfl (by decide +kernel) ?_
      refine he_iload (n := 45) (i := 1) (by decide +kernel) rfl ?_
      refine hb_ld (n := 46) (kind := 64) hm (by decide +kernel) rfl rfl (.inl rfl) (by omega) (show _ < (6 : Int) by omega) hb_at1 ?_
      intro v45 hv45 lv45 uv45
      by_cases h46 : v39.toInt = v45.toInt
      · skip
        refine he_cmpne_f (n := 49) (t := 53) (by decide +kernel) (by omega) ?_
        refine he_iconst (n := 50) (c := 1) (by decide +kernel) (by decide) ?_
        intro c49 hc49
        refine he_goto (t := 54) (by decide +kernel) ?_
        refine he_retz (by decide +kernel) (by omega) ?_
        exact K1 _ (by omega) (by omega)
      · skip
        refine he_cmpne_t (n := 49) (t := 53) (by decide +kernel) (by omega) ?_
        refine he_iconst (n := 54) (c := 0) (by decide +kernel) (by decide) ?_
        intro c53 hc53
        refine he_retz (by decide +kernel) (by omega) ?_
        exact K0 _ (by omega)
    · skip
      refine he_cmpne_t (n := 32) (t := 53) (by decide +kernel) (by omega) ?_
      refine he_iconst (n := 54) (c := 0) (by decide +kernel) (by decide) ?_
      intro c53 hc53
      refine he_retz (by decide +kernel) (by omega) ?_
      exact K0 _ (by omega)
def hi_m69_q : mz_Q := (52, [(1, 69), (0, 0), (3, 0), (3, 0), (3, 0)], [(0, [(1, 1)]), (236, [(1, -1)])], [], [], [])
def hi_m69_s : List mz_Sp2 := [(56, [(1, 69), (0, 0), (0, 0), (0, 0), (0, 0)], [], [(0, [(1, -1), (67, 1)]), (0, [(1, 1), (67, -1)]), (0, [(68, -1), (69, 1)]), (0, [(68, 1), (69, -1)]), (0, [(70, 1)]), (0, [(70, -1)]), (0, [(68, 1)]), (65535, [(68, -1)])])]
def hi_m69_h : List mz_H := [(0, 0, []), (0, 0, [(0, 1)]), (0, 0, [(1, 1)]), (0, 0, []), (0, 0, [(0, 1)]), (0, 0, [(1, 1)]), (0, 0, []), (0, 0, []), (0, 0, []), (0, 0, []), (0, 0, []), (0, 0, []), (0, 0, []), (0, 0, []), (0, 0, []), (0, 0, []), (0, 0, [(1, 1)]), (0, 0, [(0, 1)])]
set_option maxRecDepth 100000 in
theorem hi_m69_c : mz_blk mz_GG mq_PP hi_Cs hi_m69_q 5 2 42 hi_m69_s [] 17 hi_m69_h = true := by decide +kernel
theorem hi_m69 {X : (Nat → mq_C) → Prop} (hX : ∀ M M' : Nat → mq_C, mz_same mz_GG M M' → X M → X M') (hC : ∀ c ∈ hi_Cs, c.2 < 2 → mz_Ct mz_GG mq_PP X c.1 c.2) {d z u : Nat} {M : Nat → mq_C} {Q : (Option Value ⊕ Nat) → mq_S → Prop} {x1 : Int32} {o2 : Option Value} {o3 : Option Value} {o4 : Option Value} (hd : 2 ≤ d) (hz : 272 ≤ z) (hm : mz_sh mz_GG M) (hx : X M) (h0 : mq_nl o2 = true) (h1 : mq_nl o3 = true) (h2 : mq_nl o4 = true) (p0 : 0 ≤ x1.toInt) (p1 : 0 ≤ 236 - x1.toInt)
    (k0 : ∀ (M' : Nat → mq_C) (y2 : Int32) (y4 : Int32), mz_sh mz_GG M' → X M' → mz_fr hi_m69_q M M' → (∀ a, a < 8 → M' a = M a) → hb_same mz_GG hi_m69_q M M' → y4.toInt = 0 → 0 ≤ y2.toInt → 0 ≤ 65535 - y2.toInt → mq_R mq_PP d 52 56 [some (.ref 69), some (.int x1), some (.int y2), some (.int y2), some (.int y4)] [] (M', z, u) Q) : mq_R mq_PP d 52 42 [some (.ref 69), some (.int x1), o2, o3, o4] [] (M, z, u) Q := by
  refine hb_blk mz_GG mq_PP X (q := hi_m69_q) (nl := 5) (M := M) hb_okG hX hC hi_m69_c hz hd (L := [some (.ref 69), some (.int x1), o2, o3, o4]) (st := []) (show hb_lk mz_GG ([(1, 69), (0, 0), (3, 0), (3, 0), (3, 0)]) _ from ⟨⟨List.mem_singleton.mpr rfl, rfl⟩, trivial, h0, h1, h2, trivial⟩) (show hb_pk mz_GG ([]) _ from trivial) hm hx ?_ ?_ ?_
  · exact hb_cons (show 0 ≤ mz_ev _ _ from (show 0 ≤ 0 + (1 * x1.toInt + 0) by omega)) (hb_cons (show 0 ≤ mz_ev _ _ from (show 0 ≤ 236 + ((-1) * x1.toInt + 0) by omega)) (hb_nil))
  · intro s hs
    rcases List.mem_cons.mp hs with rfl | hs
    · intro ρ1 L' st' M' g1 g2 gm gr gf gs gx gw g8 ge
      obtain ⟨e0, L1, rfl, n0, gg0⟩ := hb_l1 mz_GG g1
      obtain rfl : e0 = 69 := List.mem_singleton.mp n0
      obtain ⟨y1, L1, rfl, qr67, gg1⟩ := hb_l0 mz_GG gg0
      have r67 : ρ1 67 = y1.toInt := qr67
      obtain ⟨y2, L1, rfl, qr68, gg2⟩ := hb_l0 mz_GG gg1
      have r68 : ρ1 68 = y2.toInt := qr68
      obtain ⟨y3, L1, rfl, qr69, gg3⟩ := hb_l0 mz_GG gg2
      have r69 : ρ1 69 = y3.toInt := qr69
      obtain ⟨y4, L1, rfl, qr70, gg4⟩ := hb_l0 mz_GG gg3
      have r70 : ρ1 70 = y4.toInt := qr70
      obtain rfl := hb_ln mz_GG gg4
      obtain rfl := hb_pn mz_GG g2
      have r1 : ρ1 1 = x1.toInt := gr 1 (by decide +kernel)
      obtain ⟨f0, gf⟩ := hb_unc gf
      have f0 : 0 ≤ 0 + ((-1) * ρ1 1 + (1 * ρ1 67 + 0)) := f0
      rw [r1, r67] at f0
      obtain ⟨f1, gf⟩ := hb_unc gf
      have f1 : 0 ≤ 0 + (1 * ρ1 1 + ((-1) * ρ1 67 + 0)) := f1
      rw [r1, r67] at f1
      obtain ⟨f2, gf⟩ := hb_unc gf
      have f2 : 0 ≤ 0 + ((-1) * ρ1 68 + (1 * ρ1 69 + 0)) := f2
      rw [r68, r69] at f2
      obtain ⟨f3, gf⟩ := hb_unc gf
      have f3 : 0 ≤ 0 + (1 * ρ1 68 + ((-1) * ρ1 69 + 0)) := f3
      rw [r68, r69] at f3
      obtain ⟨f4, gf⟩ := hb_unc gf
      have f4 : 0 ≤ 0 + (1 * ρ1 70 + 0) := f4
      rw [r70] at f4
      obtain ⟨f5, gf⟩ := hb_unc gf
      have f5 : 0 ≤ 0 + ((-1) * ρ1 70 + 0) := f5
      rw [r70] at f5
      obtain ⟨f6, gf⟩ := hb_unc gf
      have f6 : 0 ≤ 0 + (1 * ρ1 68 + 0) := f6
      rw [r68] at f6
      obtain ⟨f7, gf⟩ := hb_unc gf
      have f7 : 0 ≤ 65535 + ((-1) * ρ1 68 + 0) := f7
      rw [r68] at f7
      have hy1 : y1 = x1 := hb_inj f0 f1
      subst y1
      have hy3 : y3 = y2 := hb_inj f2 f3
      subst y3
      exact k0 M' y2 y4 gs gx gw g8 ge  (by have h1 := f4; have h2 := f5; omega) (by have h1 := f6; omega) (by have h1 := f7; omega)
    cases hs
  · intro r S hpo
    obtain ⟨b1, b2, b3, b4, b5, p, hp, res, hf, hre⟩ := hpo
    cases hp

def hi_n69_q : mz_Q := (52, [(1, 69), (0, 0), (0, 0), (0, 0), (0, 0)], [(0, [(4, 1)]), (5, [(4, -1)])], [], [(0, 0, [(0, [(66, 1)]), (0, [(66, -1)])])], [])
def hi_n69_s : List mz_Sp2 := [(56, [(1, 69), (0, 0), (0, 0), (0, 0), (0, 0)], [], [(0, [(1, -1), (67, 1)]), (0, [(1, 1), (67, -1)]), (0, [(2, -1), (68, 1)]), (0, [(2, 1), (68, -1)]), (0, [(3, -1), (69, 1)]), (0, [(3, 1), (69, -1)]), (-1, [(4, -1), (70, 1)]), (1, [(4, 1), (70, -1)])])]
def hi_n69_h : List mz_H := [(2, 0, []), (0, 0, [(0, 1)]), (0, 0, [(1, 1)]), (0, 0, []), (3, 0, []), (0, 0, [(1, 1)]), (0, 0, []), (0, 0, []), (0, 0, [(5, 1)]), (0, 0, [(6, 1)]), (0, 0, []), (0, 0, []), (0, 0, []), (0, 0, []), (0, 0, []), (0, 0, []), (0, 0, []), (0, 0, []), (0, 0, []), (0, 0, []), (0, 0, []), (0, 0, []), (0, 0, []), (0, 0, [])]
set_option maxRecDepth 100000 in
theorem hi_n69_c : mz_blk mz_GG mq_PP hi_Cs hi_n69_q 5 2 93 hi_n69_s [] 14 hi_n69_h = true := by decide +kernel
theorem hi_n69 {X : (Nat → mq_C) → Prop} (hX : ∀ M M' : Nat → mq_C, mz_same mz_GG M M' → X M → X M') (hC : ∀ c ∈ hi_Cs, c.2 < 2 → mz_Ct mz_GG mq_PP X c.1 c.2) {d z u : Nat} {M : Nat → mq_C} {Q : (Option Value ⊕ Nat) → mq_S → Prop} {x1 : Int32} {x2 : Int32} {x3 : Int32} {x4 : Int32} (hd : 2 ≤ d) (hz : 272 ≤ z) (hm : mz_sh mz_GG M) (hx : X M) (p0 : 0 ≤ x4.toInt) (p1 : 0 ≤ 5 - x4.toInt)
    (k0 : ∀ (M' : Nat → mq_C) (y4 : Int32), mz_sh mz_GG M' → X M' → mz_fr hi_n69_q M M' → (∀ a, a < 8 → M' a = M a) → hb_same mz_GG hi_n69_q M M' → y4.toInt = 1 + x4.toInt → mq_R mq_PP d 52 56 [some (.ref 69), some (.int x1), some (.int x2), some (.int x3), some (.int y4)] [] (M', z, u) Q)
    (w0 : ∀ (M' : Nat → mq_C) (r : Int32), mz_sh mz_GG M' → X M' → mz_fr hi_n69_q M M' → (∀ a, a < 8 → M' a = M a) → hb_same mz_GG hi_n69_q M M' → 0 ≤ r.toInt → 0 ≤ 0 - r.toInt → Q (.inl (some (.int r))) (M', z, u)) : mq_R mq_PP d 52 93 [some (.ref 69), some (.int x1), some (.int x2), some (.int x3), some (.int x4)] [] (M, z, u) Q := by
  refine hb_blk mz_GG mq_PP X (q := hi_n69_q) (nl := 5) (M := M) hb_okG hX hC hi_n69_c hz hd (L := [some (.ref 69), some (.int x1), some (.int x2), some (.int x3), some (.int x4)]) (st := []) (show hb_lk mz_GG ([(1, 69), (0, 0), (0, 0), (0, 0), (0, 0)]) _ from ⟨⟨List.mem_singleton.mpr rfl, rfl⟩, trivial, trivial, trivial, trivial, trivial⟩) (show hb_pk mz_GG ([]) _ from trivial) hm hx ?_ ?_ ?_
  · exact hb_cons (show 0 ≤ mz_ev _ _ from (show 0 ≤ 0 + (1 * x4.toInt + 0) by omega)) (hb_cons (show 0 ≤ mz_ev _ _ from (show 0 ≤ 5 + ((-1) * x4.toInt + 0) by omega)) (hb_nil))
  · intro s hs
    rcases List.mem_cons.mp hs with rfl | hs
    · intro ρ1 L' st' M' g1 g2 gm gr gf gs gx gw g8 ge
      obtain ⟨e0, L1, rfl, n0, gg0⟩ := hb_l1 mz_GG g1
      obtain rfl : e0 = 69 := List.mem_singleton.mp n0
      obtain ⟨y1, L1, rfl, qr67, gg1⟩ := hb_l0 mz_GG gg0
      have r67 : ρ1 67 = y1.toInt := qr67
      obtain ⟨y2, L1, rfl, qr68, gg2⟩ := hb_l0 mz_GG gg1
      have r68 : ρ1 68 = y2.toInt := qr68
      obtain ⟨y3, L1, rfl, qr69, gg3⟩ := hb_l0 mz_GG gg2
      have r69 : ρ1 69 = y3.toInt := qr69
      obtain ⟨y4, L1, rfl, qr70, gg4⟩ := hb_l0 mz_GG gg3
      have r70 : ρ1 70 = y4.toInt := qr70
      obtain rfl := hb_ln mz_GG gg4
      obtain rfl := hb_pn mz_GG g2
      have r1 : ρ1 1 = x1.toInt := gr 1 (by decide +kernel)
      have r2 : ρ1 2 = x2.toInt := gr 2 (by decide +kernel)
      have r3 : ρ1 3 = x3.toInt := gr 3 (by decide +kernel)
      have r4 : ρ1 4 = x4.toInt := gr 4 (by decide +kernel)
      obtain ⟨f0, gf⟩ := hb_unc gf
      have f0 : 0 ≤ 0 + ((-1) * ρ1 1 + (1 * ρ1 67 + 0)) := f0
      rw [r1, r67] at f0
      obtain ⟨f1, gf⟩ := hb_unc gf
      have f1 : 0 ≤ 0 + (1 * ρ1 1 + ((-1) * ρ1 67 + 0)) := f1
      rw [r1, r67] at f1
      obtain ⟨f2, gf⟩ := hb_unc gf
      have f2 : 0 ≤ 0 + ((-1) * ρ1 2 + (1 * ρ1 68 + 0)) := f2
      rw [r2, r68] at f2
      obtain ⟨f3, gf⟩ := hb_unc gf
      have f3 : 0 ≤ 0 + (1 * ρ1 2 + ((-1) * ρ1 68 + 0)) := f3
      rw [r2, r68] at f3
      obtain ⟨f4, gf⟩ := hb_unc gf
      have f4 : 0 ≤ 0 + ((-1) * ρ1 3 + (1 * ρ1 69 + 0)) := f4
      rw [r3, r69] at f4
      obtain ⟨f5, gf⟩ := hb_unc gf
      have f5 : 0 ≤ 0 + (1 * ρ1 3 + ((-1) * ρ1 69 + 0)) := f5
      rw [r3, r69] at f5
      obtain ⟨f6, gf⟩ := hb_unc gf
      have f6 : 0 ≤ -1 + ((-1) * ρ1 4 + (1 * ρ1 70 + 0)) := f6
      rw [r4, r70] at f6
      obtain ⟨f7, gf⟩ := hb_unc gf
      have f7 : 0 ≤ 1 + (1 * ρ1 4 + ((-1) * ρ1 70 + 0)) := f7
      rw [r4, r70] at f7
      have hy1 : y1 = x1 := hb_inj f0 f1
      subst y1
      have hy2 : y2 = x2 := hb_inj f2 f3
      subst y2
      have hy3 : y3 = x3 := hb_inj f4 f5
      subst y3
      exact k0 M' y4 gs gx gw g8 ge  (by have h1 := f6; have h2 := f7; omega)
    cases hs
  · intro r S hpo
    obtain ⟨b1, b2, b3, b4, b5, p, hp, res, hf, hre⟩ := hpo
    rcases List.mem_cons.mp hp with rfl | hp
    · obtain ⟨x, rfl, hr, hz1, hu1⟩ := mz_re_0 mz_GG hre rfl
      obtain ⟨M', z', u'⟩ := S
      cases hz1
      cases hu1
      have r66 : hb_r1 mz_GG hi_n69_q (hb_rb mz_GG hi_n69_q 5 [some (.ref 69), some (.int x1), some (.int x2), some (.int x3), some (.int x4)] [] M) M' res 66 = res := rfl
      obtain ⟨f0, hf⟩ := hb_unc hf
      have f0 : 0 ≤ 0 + (1 * res + 0) := f0
      rw [← hr] at f0
      obtain ⟨f1, hf⟩ := hb_unc hf
      have f1 : 0 ≤ 0 + ((-1) * res + 0) := f1
      rw [← hr] at f1
      exact w0 M' x b1 b2 b3 b4 b5 (by have h1 := f0; omega) (by have h1 := f1; omega)
    cases hp

theorem hi_l69 {d z u : Nat} {Q : (Option Value ⊕ Nat) → mq_S → Prop} {M0 : Nat → mq_C} {x1 x2 : Int32} {N : Int} (hd : 3 ≤ d) (hz : 272 ≤ z) (p1 : 0 ≤ x1.toInt) (p2 : x1.toInt ≤ 236) (p3 : 0 ≤ x2.toInt) (p4 : 0 ≤ N) (p5 : N ≤ 6)
    (K : ∀ (M' : Nat → mq_C) (r : Int32), mz_sh mz_GG M' → HX M' → hi_R M0 M' → 0 ≤ r.toInt → 0 ≤ 1 - r.toInt → Q (.inl (some (.int r))) (M', z, u)) :
    ∀ (m : Nat) (M : Nat → mq_C) (x3 x4 : Int32), (m : Int) + x4.toInt = 7 → 0 ≤ x4.toInt → mz_sh mz_GG M → hi_X 69 M → hi_R M0 M → hv M 70 (x1.toInt.toNat + 1) = N → x2.toInt ≤ x3.toInt → x4.toInt ≤ N → (∀ j : Nat, (j : Int) < x4.toInt → hv M 79 j + hv M 78 j + 2 ≤ 240) → mq_R mq_PP d 52 56 [some (.ref 69), some (.int x1), some (.int x2), some (.int x3), some (.int x4)] [] (M, z, u) Q := by
  intro m
  induction m with
  | zero =>
    intro M x3 x4 e1 e2 hm hx hR hN q1 q2 hI
    omega
  | succ m ih =>
    intro M x3 x4 e1 e2 hm hx hR hN q1 q2 hI
    obtain ⟨d, rfl⟩ : ∃ d', d = d' + 1 := ⟨d - 1, by omega⟩
    refine he_iload (n := 58) (i := 4) (by decide +kernel) rfl ?_
    refine he_aload (n := 59) (i := 0) (by decide +kernel) rfl ?_
    refine he_getr (n := 62) (ci := 1) (j := 0) (ns := [1214, 9]) (b := 70) hm (by decide +kernel) rfl rfl (by decide +kernel) ?_
    refine he_iload (n := 63) (i := 1) (by decide +kernel) rfl ?_
    refine he_iconst (n := 64) (c := 1) (by decide +kernel) (by decide) ?_
    intro c63 hc63
    refine he_iadd (n := 65) (by decide +kernel) (by omega) (by omega) ?_
    intro v64 hv64
    refine hb_ld (n := 66) (kind := 64) hm (by decide +kernel) rfl rfl (.inl rfl) (by omega) (show _ < (240 : Int) by omega) hb_at1 ?_
    intro v65 hv65 lv65 uv65
    have hv65' : v65.toInt = N := by
      rw [← hv65, show v64.toInt.toNat = x1.toInt.toNat + 1 by omega]
      exact hN
    by_cases h66 : v65.toInt ≤ x4.toInt
    · skip
      refine he_cmpge_t (n := 69) (t := 110) (by decide +kernel) (by omega) ?_
      refine he_aload (n := 111) (i := 0) (by decide +kernel) rfl ?_
      refine he_aload (n := 112) (i := 0) (by decide +kernel) rfl ?_
      refine he_getr (n := 115) (ci := 1) (j := 0) (ns := [1214, 9]) (b := 70) hm (by decide +kernel) rfl rfl (by decide +kernel) ?_
      refine he_iload (n := 116) (i := 1) (by decide +kernel) rfl ?_
      refine he_iconst (n := 117) (c := 1) (by decide +kernel) (by decide) ?_
      intro c116 hc116
      refine he_iadd (n := 118) (by decide +kernel) (by omega) (by omega) ?_
      intro v117 hv117
      refine hb_ld (n := 119) (kind := 64) hm (by decide +kernel) rfl rfl (.inl rfl) (by omega) (show _ < (240 : Int) by omega) hb_at1 ?_
      intro v118 hv118 lv118 uv118
      have hv118' : v118.toInt = N := by
        rw [← hv118, show v117.toInt.toNat = x1.toInt.toNat + 1 by omega]
        exact hN
      refine hb_pfd (n := 122) (ci := 1) (j := 4) (t := 0) (ns := [1224, 30]) hm (by decide +kernel) rfl rfl (by decide) (.inl rfl) ?_
      generalize hM1 : hb_set M 69 4 v118 = M1
      have hm1 : mz_sh mz_GG M1 := by rw [← hM1]; exact hb_set_sh hm rfl rfl (by omega) (by omega)
      have eM1 : ∀ b j, b ≠ 69 ∨ j ≠ 4 → hv M1 b j = hv M b j := by intro b j h; rw [← hM1]; exact hb_set_n h
      have sM1 : hv M1 69 4 = v118.toInt := by rw [← hM1]; exact hb_set_v hm rfl (by decide)
      have wM1 : ∀ b, b ≠ 69 → M1 b = M b := by intro b h; rw [← hM1]; exact hb_set_c h
      refine he_iload (n := 123) (i := 3) (by decide +kernel) rfl ?_
      refine he_iload (n := 124) (i := 1) (by decide +kernel) rfl ?_
      have hxn : HX M1 := by
        intro k
        by_cases e : k = 7
        · subst e
          intro j h1 h2
          have h2 : (j : Int) < hv M1 69 4 := h2
          rw [sM1] at h2
          have h3 := hI j (by omega)
          show hv M1 (69 + 10) j + hv M1 (69 + 9) j + 2 ≤ 240
          rw [eM1 _ _ (.inl (by decide)), eM1 _ _ (.inl (by decide))]
          omega
        · rw [← hM1]
          exact hxk_s (hi_sp69 k e _ _ (by omega)) (hx.1 k)
      have R1 : hi_R M M1 := hi_Ro (W := [69]) (hb_only_s hb_only_r (by decide) wM1) (by decide)
      have R01 := hi_Rt hR R1
      by_cases h124 : x3.toInt = x1.toInt
      · skip
        refine he_cmpne_f (n := 127) (t := 131) (by decide +kernel) (by omega) ?_
        refine he_iconst (n := 128) (c := 1) (by decide +kernel) (by decide) ?_
        intro c127 hc127
        refine he_goto (t := 132) (by decide +kernel) ?_
        refine he_retz (by decide +kernel) (by omega) ?_
        exact K M1 _ hm1 hxn R01 (by omega) (by omega)
      · skip
        refine he_cmpne_t (n := 127) (t := 131) (by decide +kernel) (by omega) ?_
        refine he_iconst (n := 132) (c := 0) (by decide +kernel) (by decide) ?_
        intro c131 hc131
        refine he_retz (by decide +kernel) (by omega) ?_
        exact K M1 _ hm1 hxn R01 (by omega) (by omega)
    · skip
      refine he_cmpge_f (n := 69) (t := 110) (by decide +kernel) (by omega) ?_
      refine he_aload (n := 70) (i := 0) (by decide +kernel) rfl ?_
      refine he_iload (n := 72) (i := 4) (by decide +kernel) rfl ?_
      refine he_iload (n := 73) (i := 3) (by decide +kernel) rfl ?_
      refine he_iload (n := 74) (i := 1) (by decide +kernel) rfl ?_
      refine he_v3 (n := 77) (j := 53) (ci := 1) (mx := 8) (ns := [3017, 3019, 15, 90]) (by decide +kernel) ((hb_kd (a := 69) hm rfl).trans rfl) (by decide) (by show 4 ≤ 8; omega) ?_
      rw [mq_e53]
      refine hi_r69 (x1 := x4) (x2 := x3) (x3 := x1) (by omega) hz hm hx (by omega) (by omega) (by omega) (by omega) ?_
      intro M2 r hm2 hx2 hR2 hn2 hb2 hr
      have R02 := hi_Rt hR hR2
      show mq_R mq_PP (d + 1) 52 77 _ [.int r] (M2, z, u) Q
      refine he_istore (n := 78) (i := 3) (by decide +kernel) rfl ?_
      refine he_iload (n := 79) (i := 3) (by decide +kernel) rfl ?_
      refine he_iconst (n := 80) (c := -1) (by decide +kernel) (by decide) ?_
      intro c79 hc79
      by_cases h80 : r.toInt = -1
      · skip
        refine he_cmpeq_t (n := 83) (t := 102) (by decide +kernel) (by omega) ?_
        refine he_iconst (n := 103) (c := 0) (by decide +kernel) (by decide) ?_
        intro c102 hc102
        refine he_retz (by decide +kernel) (by omega) ?_
        exact K M2 _ hm2 hx2.1 R02 (by omega) (by omega)
      · skip
        refine he_cmpeq_f (n := 83) (t := 102) (by decide +kernel) (by omega) ?_
        refine he_aload (n := 84) (i := 0) (by decide +kernel) rfl ?_
        refine he_iload (n := 86) (i := 4) (by decide +kernel) rfl ?_
        refine he_iload (n := 87) (i := 2) (by decide +kernel) rfl ?_
        refine he_v2 (n := 90) (j := 54) (ci := 1) (mx := 4) (ns := [3022, 3024, 16, 94]) (by decide +kernel) ((hb_kd (a := 69) hm2 rfl).trans rfl) (by decide) (by show 3 ≤ 4; omega) ?_
        rw [mq_e54]
        refine hi_y69 hm2 (by omega) (by omega) (by omega) (fun r2 hr2 => ?_) (fun r2 hr2 hI2 => ?_)
        · show mq_R mq_PP (d + 1) 52 90 _ [.int r2] (M2, z, u) Q
          refine he_ifeq_t (n := 93) (t := 102) (by decide +kernel) (by omega) ?_
          refine he_iconst (n := 103) (c := 0) (by decide +kernel) (by decide) ?_
          intro c102 hc102
          refine he_retz (by decide +kernel) (by omega) ?_
          exact K M2 _ hm2 hx2.1 R02 (by omega) (by omega)
        · show mq_R mq_PP (d + 1) 52 90 _ [.int r2] (M2, z, u) Q
          refine he_ifeq_f (n := 93) (t := 102) (by decide +kernel) (by omega) ?_
          refine hi_n69 (hi_Xs (a := 69) (by decide)) (hi_C (hi_Xs (a := 69) (by decide))) (by omega) hz hm2 hx2 (by omega) (by omega) ?_ ?_
          · intro M3 y4 k1 k2 k3 k4 k5
            intros
            refine ih M3 r y4 (by omega) (by omega) k1 k2 (hi_Rt R02 (hi_Rb (by decide) rfl k3 k4 k5)) ?_ (by omega) (by omega) ?_
            · rw [hb_vc (k3 _ (by decide) rfl), hb2]
              exact hN
            · intro j hj
              rw [hb_vc (k3 _ (by decide) rfl), hb_vc (k3 _ (by decide) rfl)]
              by_cases e : j = x4.toInt.toNat
              · rw [e]
                omega
              · rw [(hn2 j e).1, (hn2 j e).2]
                exact hI j (by omega)
          · intro M3 r3 k1 k2 k3 k4 k5 l1 l2
            exact K M3 r3 k1 k2.1 (hi_Rt R02 (hi_Rb (by decide) rfl k3 k4 k5)) (by omega) (by omega)
theorem hi_s69 {d z u : Nat} {Q : (Option Value ⊕ Nat) → mq_S → Prop} {M : Nat → mq_C} (hd : 3 ≤ d) (hz : 272 ≤ z) (hm : mz_sh mz_GG M) (hx : HX M)
    (K : ∀ (M' : Nat → mq_C) (r : Int32), mz_sh mz_GG M' → HX M' → hi_R M M' → 0 ≤ r.toInt → 0 ≤ 1 - r.toInt → Q (.inl (some (.int r))) (M', z, u)) : mq_R mq_PP d 52 0 [some (.ref 69), none, none, none, none] [] (M, z, u) Q := by
  refine he_aload (n := 1) (i := 0) (by decide +kernel) rfl ?_
  refine hb_gfd (n := 4) (ci := 1) (j := 1) (ns := [1217, 15]) hm (by decide +kernel) rfl rfl (by decide) rfl ?_
  intro v1 hv1 lv1 uv1
  refine he_iconst (n := 5) (c := 4) (by decide +kernel) (by decide) ?_
  intro c4 hc4
  refine he_isub (n := 6) (by decide +kernel) (by omega) (by omega) ?_
  intro v5 hv5
  refine he_istore (n := 7) (i := 1) (by decide +kernel) rfl ?_
  refine he_aload (n := 8) (i := 0) (by decide +kernel) rfl ?_
  refine he_iconst (n := 9) (c := 0) (by decide +kernel) (by decide) ?_
  intro c8 hc8
  refine hb_pfd (n := 12) (ci := 1) (j := 4) (t := 0) (ns := [1224, 30]) hm (by decide +kernel) rfl rfl (by decide) (.inl rfl) ?_
  generalize hM1 : hb_set M 69 4 c8 = M1
  have hm1 : mz_sh mz_GG M1 := by rw [← hM1]; exact hb_set_sh hm rfl rfl (by omega) (by omega)
  have eM1 : ∀ b j, b ≠ 69 ∨ j ≠ 4 → hv M1 b j = hv M b j := by intro b j h; rw [← hM1]; exact hb_set_n h
  have sM1 : hv M1 69 4 = c8.toInt := by rw [← hM1]; exact hb_set_v hm rfl (by decide)
  have wM1 : ∀ b, b ≠ 69 → M1 b = M b := by intro b h; rw [← hM1]; exact hb_set_c h
  refine he_iload (n := 13) (i := 1) (by decide +kernel) rfl ?_
  have h4 : hv M1 69 4 = 0 := by rw [sM1]; omega
  have hx1 : hi_X 69 M1 := by
    refine ⟨fun k => ?_, h4⟩
    by_cases e : k = 7
    · subst e
      intro j h1 h2
      have h2 : (j : Int) < hv M1 69 4 := h2
      omega
    · rw [← hM1]
      exact hxk_s (hi_sp69 k e _ _ (by omega)) (hx k)
  have R1 : hi_R M M1 := hi_Ro (W := [69]) (hb_only_s hb_only_r (by decide) wM1) (by decide)
  by_cases h13 : v5.toInt < 0
  · skip
    refine he_iflt_t (n := 16) (t := 40) (by decide +kernel) (by omega) ?_
    refine he_iconst (n := 41) (c := 0) (by decide +kernel) (by decide) ?_
    intro c40 hc40
    refine he_retz (by decide +kernel) (by omega) ?_
    exact K M1 _ hm1 hx1.1 R1 (by omega) (by omega)
  · skip
    refine he_iflt_f (n := 16) (t := 40) (by decide +kernel) (by omega) ?_
    refine he_aload (n := 17) (i := 0) (by decide +kernel) rfl ?_
    refine he_getr (n := 20) (ci := 1) (j := 0) (ns := [1214, 9]) (b := 70) hm1 (by decide +kernel) rfl rfl (by decide +kernel) ?_
    refine he_iload (n := 21) (i := 1) (by decide +kernel) rfl ?_
    refine hb_ld (n := 22) (kind := 64) hm1 (by decide +kernel) rfl rfl (.inl rfl) (by omega) (show _ < (240 : Int) by omega) hb_at1 ?_
    intro v21 hv21 lv21 uv21
    refine he_iconst (n := 24) (c := 80) (by decide +kernel) (by decide) ?_
    intro c22 hc22
    by_cases h24 : v21.toInt = c22.toInt
    · skip
      refine he_cmpne_f (n := 27) (t := 40) (by decide +kernel) (by omega) ?_
      refine he_aload (n := 28) (i := 0) (by decide +kernel) rfl ?_
      refine he_getr (n := 31) (ci := 1) (j := 0) (ns := [1214, 9]) (b := 70) hm1 (by decide +kernel) rfl rfl (by decide +kernel) ?_
      refine he_iload (n := 32) (i := 1) (by decide +kernel) rfl ?_
      refine he_iconst (n := 33) (c := 1) (by decide +kernel) (by decide) ?_
      intro c32 hc32
      refine he_iadd (n := 34) (by decide +kernel) (by omega) (by omega) ?_
      intro v33 hv33
      refine hb_ld (n := 35) (kind := 64) hm1 (by decide +kernel) rfl rfl (.inl rfl) (by omega) (show _ < (240 : Int) by omega) hb_at1 ?_
      intro v34 hv34 lv34 uv34
      refine he_iconst (n := 37) (c := 6) (by decide +kernel) (by decide) ?_
      intro c35 hc35
      by_cases h37 : v34.toInt ≤ c35.toInt
      · skip
        refine he_cmple_t (n := 40) (t := 42) (by decide +kernel) (by omega) ?_
        refine hi_m69 (hi_Xs (a := 69) (by decide)) (hi_C (hi_Xs (a := 69) (by decide))) (by omega) hz hm1 hx1 rfl rfl rfl (by omega) (by omega) ?_
        intro M2 y2 y4 k1 k2 k3 k4 k5
        intros
        refine hi_l69 (M0 := M) (x2 := y2) (N := v34.toInt) hd hz (by omega) (by omega) (by omega) (by omega) (by omega) K 7 M2 y2 y4 (by omega) (by omega) k1 k2 (hi_Rt R1 (hi_Rb (by decide) rfl k3 k4 k5)) ?_ (by omega) (by omega) (fun j hj => by omega)
        rw [hb_vc (k3 _ (by decide) rfl), ← hv34, show v33.toInt.toNat = v5.toInt.toNat + 1 by omega]
      · skip
        refine he_cmple_f (n := 40) (t := 42) (by decide +kernel) (by omega) ?_
        refine he_iconst (n := 41) (c := 0) (by decide +kernel) (by decide) ?_
        intro c40 hc40
        refine he_retz (by decide +kernel) (by omega) ?_
        exact K M1 _ hm1 hx1.1 R1 (by omega) (by omega)
    · skip
      refine he_cmpne_t (n := 27) (t := 40) (by decide +kernel) (by omega) ?_
      refine he_iconst (n := 41) (c := 0) (by decide +kernel) (by decide) ?_
      intro c40 hc40
      refine he_retz (by decide +kernel) (by omega) ?_
      exact K M1 _ hm1 hx1.1 R1 (by omega) (by omega)
theorem hi_sp80 (k : Nat) (hk : k ≠ 8) (b i : Nat) (hb : b = 89 ∨ b = 90 ∨ b = 80 ∧ i = 4) : hsp k b i = false := by
  match k with
  | 0 | 1 | 2 | 3 | 4 | 5 | 6 | 7 | 8 | 9 | 10 | 11 | 12 | 13 | 14 | 15 | 16 | 17 | 18 | 19 | 20 | 21 | 22 | 23 | 24 | 25 | 26 | 27 | 28 | 29 => first | exact absurd rfl hk | (exact decide_eq_false (by omega))
  | n + 30 => rfl
theorem hi_xs80 {M : Nat → mq_C} {b i : Nat} {v : Int32} (hx : hi_X 80 M) (hb : b = 89 ∨ b = 90) : hi_X 80 (hb_set M b i v) := by
  have h4 : hv (hb_set M b i v) 80 4 = 0 := by rw [show hv (hb_set M b i v) 80 4 = hv M 80 4 from hb_set_n (.inl (by omega))]; exact hx.2
  refine ⟨fun k => ?_, h4⟩
  by_cases e : k = 8
  · subst e
    intro j h1 h2
    have h2 : (j : Int) < hv (hb_set M b i v) 80 4 := h2
    omega
  · exact hxk_s (hi_sp80 k e b i (by omega)) (hx.1 k)
def hi_a80_q : mz_Q := (53, [(1, 80), (0, 0), (0, 0), (0, 0), (3, 0), (3, 0), (3, 0), (3, 0)], [(0, [(1, 1)]), (5, [(1, -1)]), (0, [(2, 1)]), (236, [(3, -1)])], [], [(0, 0, [(1, [(69, 1)]), (-1, [(69, -1)])])], [85, 86, 87, 88])
def hi_a80_s : List mz_Sp2 := [(125, [(1, 80), (0, 0), (0, 0), (0, 0), (0, 0), (0, 0), (0, 0), (3, 0)], [(0, 0), (0, 0), (1, 89)], [(0, [(1, -1), (70, 1)]), (0, [(1, 1), (70, -1)]), (0, [(2, -1), (71, 1)]), (0, [(2, 1), (71, -1)]), (0, [(3, -1), (72, 1)]), (0, [(3, 1), (72, -1)]), (-12, [(2, -1), (73, -1), (74, 1)]), (12, [(2, 1), (73, 1), (74, -1)]), (-1, [(2, -1), (73, -1), (75, 1)]), (1, [(2, 1), (73, 1), (75, -1)]), (0, [(1, -1), (78, 1)]), (0, [(1, 1), (78, -1)]), (-1, [(2, -1), (3, 1)]), (255, [(73, -1)]), (0, [(73, 1)]), (-1, [(73, 1)]), (4, [(73, -1)]), (-12, [(2, -1), (3, 1), (73, -1)]), (0, [(77, 1)]), (65535, [(77, -1)])])]
def hi_a80_h : List mz_H := [(0, 0, []), (0, 0, []), (81, 0, []), (0, 0, [(3, 1)]), (0, 0, [(0, 1), (4, 1)]), (0, 0, []), (0, 0, [(5, 1)]), (0, 0, [(2, 1), (6, 1)]), (0, 0, []), (0, 0, [(0, 1), (5, 1)]), (0, 0, [(1, 1), (2, 1), (6, 1)]), (0, 0, []), (0, 0, []), (0, 0, []), (0, 0, []), (0, 0, []), (0, 0, []), (0, 0, []), (0, 0, []), (0, 0, []), (0, 0, []), (0, 0, []), (0, 0, []), (0, 0, []), (0, 0, [(8, 1)]), (0, 0, [(0, 1), (2, 1), (9, 1)]), (0, 0, []), (0, 0, [(2, 1), (8, 1)]), (0, 0, [(0, 1), (9, 1)]), (85, 0, []), (0, 0, []), (0, 0, [(8, 1)]), (0, 0, [(0, 1), (2, 1), (9, 1)]), (1, 0, []), (0, 0, [(8, 1)]), (0, 0, [(2, 1)]), (0, 0, [(0, 1), (9, 1)]), (0, 0, [(2, 1)]), (0, 0, [(1, 1)]), (0, 0, []), (0, 0, [(8, 1)]), (0, 0, [(9, 1)]), (0, 0, [(0, 1)]), (0, 0, [(1, 1)]), (86, 0, []), (81, 0, []), (0, 0, [(4, 1), (10, 1)]), (0, 0, [(2, 1), (11, 1)]), (0, 0, [(10, 1)]), (0, 0, [(11, 1)]), (0, 0, [(0, 1)]), (0, 0, [(1, 1)]), (87, 0, []), (0, 0, []), (0, 0, [(6, 1), (12, 1)]), (0, 0, [(4, 1), (13, 1)]), (1, 0, []), (0, 0, [(6, 1), (12, 1)]), (0, 0, []), (0, 0, [(4, 1), (13, 1)]), (0, 0, []), (0, 0, []), (0, 0, []), (0, 0, [(12, 1)]), (0, 0, [(13, 1)]), (0, 0, [(0, 1)]), (0, 0, [(1, 1)]), (88, 0, []), (0, 0, []), (0, 0, [(8, 1), (14, 1)]), (0, 0, [(6, 1), (15, 1)]), (0, 0, []), (0, 0, [(8, 1), (14, 1)]), (0, 0, [(6, 1), (15, 1)]), (0, 0, []), (0, 0, []), (0, 0, []), (0, 0, [(16, 1)]), (0, 0, [(17, 1)]), (0, 0, [(1, 1)]), (0, 0, [(0, 1)]), (89, 0, []), (0, 0, []), (0, 0, [(12, 1), (18, 1)]), (0, 0, [(10, 1), (19, 1)]), (0, 0, []), (0, 0, [(12, 1), (18, 1)]), (0, 0, [(10, 1), (19, 1)]), (0, 0, []), (0, 0, []), (0, 0, []), (0, 0, []), (0, 0, []), (0, 0, []), (0, 0, []), (0, 0, []), (0, 0, []), (0, 0, []), (0, 0, []), (0, 0, []), (0, 0, []), (0, 0, []), (0, 0, []), (0, 0, []), (0, 0, [(19, 1)]), (0, 0, [(15, 1)]), (0, 0, [(16, 1)]), (0, 0, [(16, 1)]), (0, 0, [(15, 1)]), (0, 0, [(14, 1)]), (0, 0, [(1, 1)]), (0, 0, [(0, 1)]), (0, 0, []), (0, 0, []), (0, 0, []), (0, 0, []), (0, 0, []), (0, 0, [])]
set_option maxRecDepth 100000 in
theorem hi_a80_c : mz_blk mz_GG mq_PP hi_Cs hi_a80_q 8 2 0 hi_a80_s [] 90 hi_a80_h = true := by decide +kernel
theorem hi_a80 {X : (Nat → mq_C) → Prop} (hX : ∀ M M' : Nat → mq_C, mz_same mz_GG M M' → X M → X M') (hC : ∀ c ∈ hi_Cs, c.2 < 2 → mz_Ct mz_GG mq_PP X c.1 c.2) {d z u : Nat} {M : Nat → mq_C} {Q : (Option Value ⊕ Nat) → mq_S → Prop} {x1 : Int32} {x2 : Int32} {x3 : Int32} {o4 : Option Value} {o5 : Option Value} {o6 : Option Value} {o7 : Option Value} (hd : 2 ≤ d) (hz : 272 ≤ z) (hm : mz_sh mz_GG M) (hx : X M) (h0 : mq_nl o4 = true) (h1 : mq_nl o5 = true) (h2 : mq_nl o6 = true) (h3 : mq_nl o7 = true) (p0 : 0 ≤ x1.toInt) (p1 : 0 ≤ 5 - x1.toInt) (p2 : 0 ≤ x2.toInt) (p3 : 0 ≤ 236 - x3.toInt)
    (k0 : ∀ (M' : Nat → mq_C) (y4 : Int32) (y5 : Int32) (y6 : Int32) (w7 : Option Value) (y8 : Int32), mz_sh mz_GG M' → X M' → mz_fr hi_a80_q M M' → (∀ a, a < 8 → M' a = M a) → hb_same mz_GG hi_a80_q M M' → mq_nl w7 = true → y5.toInt = 12 + x2.toInt + y4.toInt → y6.toInt = 1 + x2.toInt + y4.toInt → 0 ≤ (-1) - x2.toInt + x3.toInt → 0 ≤ 255 - y4.toInt → 0 ≤ y4.toInt → 0 ≤ (-1) + y4.toInt → 0 ≤ 4 - y4.toInt → 0 ≤ (-12) - x2.toInt + x3.toInt - y4.toInt → 0 ≤ y8.toInt → 0 ≤ 65535 - y8.toInt → mq_R mq_PP d 53 125 [some (.ref 80), some (.int x1), some (.int x2), some (.int x3), some (.int y4), some (.int y5), some (.int y6), w7] [.int y8, .int x1, .ref 89] (M', z, u) Q)
    (w0 : ∀ (M' : Nat → mq_C) (r : Int32), mz_sh mz_GG M' → X M' → mz_fr hi_a80_q M M' → (∀ a, a < 8 → M' a = M a) → hb_same mz_GG hi_a80_q M M' → 0 ≤ 1 + r.toInt → 0 ≤ (-1) - r.toInt → Q (.inl (some (.int r))) (M', z, u)) : mq_R mq_PP d 53 0 [some (.ref 80), some (.int x1), some (.int x2), some (.int x3), o4, o5, o6, o7] [] (M, z, u) Q := by
  refine hb_blk mz_GG mq_PP X (q := hi_a80_q) (nl := 8) (M := M) hb_okG hX hC hi_a80_c hz hd (L := [some (.ref 80), some (.int x1), some (.int x2), some (.int x3), o4, o5, o6, o7]) (st := []) (show hb_lk mz_GG ([(1, 80), (0, 0), (0, 0), (0, 0), (3, 0), (3, 0), (3, 0), (3, 0)]) _ from ⟨⟨List.mem_singleton.mpr rfl, rfl⟩, trivial, trivial, trivial, h0, h1, h2, h3, trivial⟩) (show hb_pk mz_GG ([]) _ from trivial) hm hx ?_ ?_ ?_
  · exact hb_cons (show 0 ≤ mz_ev _ _ from (show 0 ≤ 0 + (1 * x1.toInt + 0) by omega)) (hb_cons (show 0 ≤ mz_ev _ _ from (show 0 ≤ 5 + ((-1) * x1.toInt + 0) by omega)) (hb_cons (show 0 ≤ mz_ev _ _ from (show 0 ≤ 0 + (1 * x2.toInt + 0) by omega)) (hb_cons (show 0 ≤ mz_ev _ _ from (show 0 ≤ 236 + ((-1) * x3.toInt + 0) by omega)) (hb_nil))))
  · intro s hs
    rcases List.mem_cons.mp hs with rfl | hs
    · intro ρ1 L' st' M' g1 g2 gm gr gf gs gx gw g8 ge
      obtain ⟨e0, L1, rfl, n0, gg0⟩ := hb_l1 mz_GG g1
      obtain rfl : e0 = 80 := List.mem_singleton.mp n0
      obtain ⟨y1, L1, rfl, qr70, gg1⟩ := hb_l0 mz_GG gg0
      have r70 : ρ1 70 = y1.toInt := qr70
      obtain ⟨y2, L1, rfl, qr71, gg2⟩ := hb_l0 mz_GG gg1
      have r71 : ρ1 71 = y2.toInt := qr71
      obtain ⟨y3, L1, rfl, qr72, gg3⟩ := hb_l0 mz_GG gg2
      have r72 : ρ1 72 = y3.toInt := qr72
      obtain ⟨y4, L1, rfl, qr73, gg4⟩ := hb_l0 mz_GG gg3
      have r73 : ρ1 73 = y4.toInt := qr73
      obtain ⟨y5, L1, rfl, qr74, gg5⟩ := hb_l0 mz_GG gg4
      have r74 : ρ1 74 = y5.toInt := qr74
      obtain ⟨y6, L1, rfl, qr75, gg6⟩ := hb_l0 mz_GG gg5
      have r75 : ρ1 75 = y6.toInt := qr75
      obtain ⟨w7, L1, rfl, n7, gg7⟩ := hb_l3 mz_GG gg6
      obtain ⟨y8, s1, rfl, qr77, gg8⟩ := hb_p0 mz_GG g2
      have r77 : ρ1 77 = y8.toInt := qr77
      obtain ⟨y9, s1, rfl, qr78, gg9⟩ := hb_p0 mz_GG gg8
      have r78 : ρ1 78 = y9.toInt := qr78
      obtain ⟨e10, s1, rfl, n10, gg10⟩ := hb_p1 mz_GG gg9
      obtain rfl : e10 = 89 := List.mem_singleton.mp n10
      obtain rfl := hb_ln mz_GG gg7
      obtain rfl := hb_pn mz_GG gg10
      have r1 : ρ1 1 = x1.toInt := gr 1 (by decide +kernel)
      have r2 : ρ1 2 = x2.toInt := gr 2 (by decide +kernel)
      have r3 : ρ1 3 = x3.toInt := gr 3 (by decide +kernel)
      obtain ⟨f0, gf⟩ := hb_unc gf
      have f0 : 0 ≤ 0 + ((-1) * ρ1 1 + (1 * ρ1 70 + 0)) := f0
      rw [r1, r70] at f0
      obtain ⟨f1, gf⟩ := hb_unc gf
      have f1 : 0 ≤ 0 + (1 * ρ1 1 + ((-1) * ρ1 70 + 0)) := f1
      rw [r1, r70] at f1
      obtain ⟨f2, gf⟩ := hb_unc gf
      have f2 : 0 ≤ 0 + ((-1) * ρ1 2 + (1 * ρ1 71 + 0)) := f2
      rw [r2, r71] at f2
      obtain ⟨f3, gf⟩ := hb_unc gf
      have f3 : 0 ≤ 0 + (1 * ρ1 2 + ((-1) * ρ1 71 + 0)) := f3
      rw [r2, r71] at f3
      obtain ⟨f4, gf⟩ := hb_unc gf
      have f4 : 0 ≤ 0 + ((-1) * ρ1 3 + (1 * ρ1 72 + 0)) := f4
      rw [r3, r72] at f4
      obtain ⟨f5, gf⟩ := hb_unc gf
      have f5 : 0 ≤ 0 + (1 * ρ1 3 + ((-1) * ρ1 72 + 0)) := f5
      rw [r3, r72] at f5
      obtain ⟨f6, gf⟩ := hb_unc gf
      have f6 : 0 ≤ -12 + ((-1) * ρ1 2 + ((-1) * ρ1 73 + (1 * ρ1 74 + 0))) := f6
      rw [r2, r73, r74] at f6
      obtain ⟨f7, gf⟩ := hb_unc gf
      have f7 : 0 ≤ 12 + (1 * ρ1 2 + (1 * ρ1 73 + ((-1) * ρ1 74 + 0))) := f7
      rw [r2, r73, r74] at f7
      obtain ⟨f8, gf⟩ := hb_unc gf
      have f8 : 0 ≤ -1 + ((-1) * ρ1 2 + ((-1) * ρ1 73 + (1 * ρ1 75 + 0))) := f8
      rw [r2, r73, r75] at f8
      obtain ⟨f9, gf⟩ := hb_unc gf
      have f9 : 0 ≤ 1 + (1 * ρ1 2 + (1 * ρ1 73 + ((-1) * ρ1 75 + 0))) := f9
      rw [r2, r73, r75] at f9
      obtain ⟨f10, gf⟩ := hb_unc gf
      have f10 : 0 ≤ 0 + ((-1) * ρ1 1 + (1 * ρ1 78 + 0)) := f10
      rw [r1, r78] at f10
      obtain ⟨f11, gf⟩ := hb_unc gf
      have f11 : 0 ≤ 0 + (1 * ρ1 1 + ((-1) * ρ1 78 + 0)) := f11
      rw [r1, r78] at f11
      obtain ⟨f12, gf⟩ := hb_unc gf
      have f12 : 0 ≤ -1 + ((-1) * ρ1 2 + (1 * ρ1 3 + 0)) := f12
      rw [r2, r3] at f12
      obtain ⟨f13, gf⟩ := hb_unc gf
      have f13 : 0 ≤ 255 + ((-1) * ρ1 73 + 0) := f13
      rw [r73] at f13
      obtain ⟨f14, gf⟩ := hb_unc gf
      have f14 : 0 ≤ 0 + (1 * ρ1 73 + 0) := f14
      rw [r73] at f14
      obtain ⟨f15, gf⟩ := hb_unc gf
      have f15 : 0 ≤ -1 + (1 * ρ1 73 + 0) := f15
      rw [r73] at f15
      obtain ⟨f16, gf⟩ := hb_unc gf
      have f16 : 0 ≤ 4 + ((-1) * ρ1 73 + 0) := f16
      rw [r73] at f16
      obtain ⟨f17, gf⟩ := hb_unc gf
      have f17 : 0 ≤ -12 + ((-1) * ρ1 2 + (1 * ρ1 3 + ((-1) * ρ1 73 + 0))) := f17
      rw [r2, r3, r73] at f17
      obtain ⟨f18, gf⟩ := hb_unc gf
      have f18 : 0 ≤ 0 + (1 * ρ1 77 + 0) := f18
      rw [r77] at f18
      obtain ⟨f19, gf⟩ := hb_unc gf
      have f19 : 0 ≤ 65535 + ((-1) * ρ1 77 + 0) := f19
      rw [r77] at f19
      have hy1 : y1 = x1 := hb_inj f0 f1
      subst y1
      have hy2 : y2 = x2 := hb_inj f2 f3
      subst y2
      have hy3 : y3 = x3 := hb_inj f4 f5
      subst y3
      have hy9 : y9 = x1 := hb_inj f10 f11
      subst y9
      exact k0 M' y4 y5 y6 w7 y8 gs gx gw g8 ge n7 (by have h1 := f6; have h2 := f7; omega) (by have h1 := f8; have h2 := f9; omega) (by have h1 := f12; omega) (by have h1 := f13; omega) (by have h1 := f14; omega) (by have h1 := f15; omega) (by have h1 := f16; omega) (by have h1 := f17; omega) (by have h1 := f18; omega) (by have h1 := f19; omega)
    cases hs
  · intro r S hpo
    obtain ⟨b1, b2, b3, b4, b5, p, hp, res, hf, hre⟩ := hpo
    rcases List.mem_cons.mp hp with rfl | hp
    · obtain ⟨x, rfl, hr, hz1, hu1⟩ := mz_re_0 mz_GG hre rfl
      obtain ⟨M', z', u'⟩ := S
      cases hz1
      cases hu1
      have r69 : hb_r1 mz_GG hi_a80_q (hb_rb mz_GG hi_a80_q 8 [some (.ref 80), some (.int x1), some (.int x2), some (.int x3), o4, o5, o6, o7] [] M) M' res 69 = res := rfl
      obtain ⟨f0, hf⟩ := hb_unc hf
      have f0 : 0 ≤ 1 + (1 * res + 0) := f0
      rw [← hr] at f0
      obtain ⟨f1, hf⟩ := hb_unc hf
      have f1 : 0 ≤ -1 + ((-1) * res + 0) := f1
      rw [← hr] at f1
      exact w0 M' x b1 b2 b3 b4 b5 (by have h1 := f0; omega) (by have h1 := f1; omega)
    cases hp

def hi_b80_q : mz_Q := (53, [(1, 80), (0, 0), (0, 0), (0, 0), (0, 0), (0, 0), (0, 0), (3, 0)], [(0, [(1, 1)]), (5, [(1, -1)]), (0, [(6, 1)]), (226, [(6, -1)])], [], [], [])
def hi_b80_s : List mz_Sp2 := [(141, [(1, 80), (0, 0), (0, 0), (0, 0), (0, 0), (0, 0), (0, 0), (3, 0)], [(0, 0), (0, 0), (1, 90)], [(0, [(1, -1), (70, 1)]), (0, [(1, 1), (70, -1)]), (0, [(2, -1), (71, 1)]), (0, [(2, 1), (71, -1)]), (0, [(3, -1), (72, 1)]), (0, [(3, 1), (72, -1)]), (0, [(4, -1), (73, 1)]), (0, [(4, 1), (73, -1)]), (0, [(5, -1), (74, 1)]), (0, [(5, 1), (74, -1)]), (0, [(6, -1), (75, 1)]), (0, [(6, 1), (75, -1)]), (0, [(1, -1), (78, 1)]), (0, [(1, 1), (78, -1)]), (0, [(77, 1)]), (65535, [(77, -1)])])]
def hi_b80_h : List mz_H := [(90, 0, []), (0, 0, []), (0, 0, [(2, 1)]), (0, 0, [(3, 1)]), (0, 0, []), (0, 0, [(2, 1)]), (0, 0, [(3, 1)]), (0, 0, []), (0, 0, []), (0, 0, []), (0, 0, []), (0, 0, []), (0, 0, []), (0, 0, []), (0, 0, []), (0, 0, []), (0, 0, []), (0, 0, []), (0, 0, []), (0, 0, []), (0, 0, []), (0, 0, []), (0, 0, []), (0, 0, []), (0, 0, []), (0, 0, [(1, 1)]), (0, 0, [(0, 1)])]
set_option maxRecDepth 100000 in
theorem hi_b80_c : mz_blk mz_GG mq_PP hi_Cs hi_b80_q 8 2 126 hi_b80_s [] 15 hi_b80_h = true := by decide +kernel
theorem hi_b80 {X : (Nat → mq_C) → Prop} (hX : ∀ M M' : Nat → mq_C, mz_same mz_GG M M' → X M → X M') (hC : ∀ c ∈ hi_Cs, c.2 < 2 → mz_Ct mz_GG mq_PP X c.1 c.2) {d z u : Nat} {M : Nat → mq_C} {Q : (Option Value ⊕ Nat) → mq_S → Prop} {x1 : Int32} {x2 : Int32} {x3 : Int32} {x4 : Int32} {x5 : Int32} {x6 : Int32} {o7 : Option Value} (hd : 2 ≤ d) (hz : 272 ≤ z) (hm : mz_sh mz_GG M) (hx : X M) (h0 : mq_nl o7 = true) (p0 : 0 ≤ x1.toInt) (p1 : 0 ≤ 5 - x1.toInt) (p2 : 0 ≤ x6.toInt) (p3 : 0 ≤ 226 - x6.toInt)
    (k0 : ∀ (M' : Nat → mq_C) (w7 : Option Value) (y8 : Int32), mz_sh mz_GG M' → X M' → mz_fr hi_b80_q M M' → (∀ a, a < 8 → M' a = M a) → hb_same mz_GG hi_b80_q M M' → mq_nl w7 = true → 0 ≤ y8.toInt → 0 ≤ 65535 - y8.toInt → mq_R mq_PP d 53 141 [some (.ref 80), some (.int x1), some (.int x2), some (.int x3), some (.int x4), some (.int x5), some (.int x6), w7] [.int y8, .int x1, .ref 90] (M', z, u) Q) : mq_R mq_PP d 53 126 [some (.ref 80), some (.int x1), some (.int x2), some (.int x3), some (.int x4), some (.int x5), some (.int x6), o7] [] (M, z, u) Q := by
  refine hb_blk mz_GG mq_PP X (q := hi_b80_q) (nl := 8) (M := M) hb_okG hX hC hi_b80_c hz hd (L := [some (.ref 80), some (.int x1), some (.int x2), some (.int x3), some (.int x4), some (.int x5), some (.int x6), o7]) (st := []) (show hb_lk mz_GG ([(1, 80), (0, 0), (0, 0), (0, 0), (0, 0), (0, 0), (0, 0), (3, 0)]) _ from ⟨⟨List.mem_singleton.mpr rfl, rfl⟩, trivial, trivial, trivial, trivial, trivial, trivial, h0, trivial⟩) (show hb_pk mz_GG ([]) _ from trivial) hm hx ?_ ?_ ?_
  · exact hb_cons (show 0 ≤ mz_ev _ _ from (show 0 ≤ 0 + (1 * x1.toInt + 0) by omega)) (hb_cons (show 0 ≤ mz_ev _ _ from (show 0 ≤ 5 + ((-1) * x1.toInt + 0) by omega)) (hb_cons (show 0 ≤ mz_ev _ _ from (show 0 ≤ 0 + (1 * x6.toInt + 0) by omega)) (hb_cons (show 0 ≤ mz_ev _ _ from (show 0 ≤ 226 + ((-1) * x6.toInt + 0) by omega)) (hb_nil))))
  · intro s hs
    rcases List.mem_cons.mp hs with rfl | hs
    · intro ρ1 L' st' M' g1 g2 gm gr gf gs gx gw g8 ge
      obtain ⟨e0, L1, rfl, n0, gg0⟩ := hb_l1 mz_GG g1
      obtain rfl : e0 = 80 := List.mem_singleton.mp n0
      obtain ⟨y1, L1, rfl, qr70, gg1⟩ := hb_l0 mz_GG gg0
      have r70 : ρ1 70 = y1.toInt := qr70
      obtain ⟨y2, L1, rfl, qr71, gg2⟩ := hb_l0 mz_GG gg1
      have r71 : ρ1 71 = y2.toInt := qr71
      obtain ⟨y3, L1, rfl, qr72, gg3⟩ := hb_l0 mz_GG gg2
      have r72 : ρ1 72 = y3.toInt := qr72
      obtain ⟨y4, L1, rfl, qr73, gg4⟩ := hb_l0 mz_GG gg3
      have r73 : ρ1 73 = y4.toInt := qr73
      obtain ⟨y5, L1, rfl, qr74, gg5⟩ := hb_l0 mz_GG gg4
      have r74 : ρ1 74 = y5.toInt := qr74
      obtain ⟨y6, L1, rfl, qr75, gg6⟩ := hb_l0 mz_GG gg5
      have r75 : ρ1 75 = y6.toInt := qr75
      obtain ⟨w7, L1, rfl, n7, gg7⟩ := hb_l3 mz_GG gg6
      obtain ⟨y8, s1, rfl, qr77, gg8⟩ := hb_p0 mz_GG g2
      have r77 : ρ1 77 = y8.toInt := qr77
      obtain ⟨y9, s1, rfl, qr78, gg9⟩ := hb_p0 mz_GG gg8
      have r78 : ρ1 78 = y9.toInt := qr78
      obtain ⟨e10, s1, rfl, n10, gg10⟩ := hb_p1 mz_GG gg9
      obtain rfl : e10 = 90 := List.mem_singleton.mp n10
      obtain rfl := hb_ln mz_GG gg7
      obtain rfl := hb_pn mz_GG gg10
      have r1 : ρ1 1 = x1.toInt := gr 1 (by decide +kernel)
      have r2 : ρ1 2 = x2.toInt := gr 2 (by decide +kernel)
      have r3 : ρ1 3 = x3.toInt := gr 3 (by decide +kernel)
      have r4 : ρ1 4 = x4.toInt := gr 4 (by decide +kernel)
      have r5 : ρ1 5 = x5.toInt := gr 5 (by decide +kernel)
      have r6 : ρ1 6 = x6.toInt := gr 6 (by decide +kernel)
      obtain ⟨f0, gf⟩ := hb_unc gf
      have f0 : 0 ≤ 0 + ((-1) * ρ1 1 + (1 * ρ1 70 + 0)) := f0
      rw [r1, r70] at f0
      obtain ⟨f1, gf⟩ := hb_unc gf
      have f1 : 0 ≤ 0 + (1 * ρ1 1 + ((-1) * ρ1 70 + 0)) := f1
      rw [r1, r70] at f1
      obtain ⟨f2, gf⟩ := hb_unc gf
      have f2 : 0 ≤ 0 + ((-1) * ρ1 2 + (1 * ρ1 71 + 0)) := f2
      rw [r2, r71] at f2
      obtain ⟨f3, gf⟩ := hb_unc gf
      have f3 : 0 ≤ 0 + (1 * ρ1 2 + ((-1) * ρ1 71 + 0)) := f3
      rw [r2, r71] at f3
      obtain ⟨f4, gf⟩ := hb_unc gf
      have f4 : 0 ≤ 0 + ((-1) * ρ1 3 + (1 * ρ1 72 + 0)) := f4
      rw [r3, r72] at f4
      obtain ⟨f5, gf⟩ := hb_unc gf
      have f5 : 0 ≤ 0 + (1 * ρ1 3 + ((-1) * ρ1 72 + 0)) := f5
      rw [r3, r72] at f5
      obtain ⟨f6, gf⟩ := hb_unc gf
      have f6 : 0 ≤ 0 + ((-1) * ρ1 4 + (1 * ρ1 73 + 0)) := f6
      rw [r4, r73] at f6
      obtain ⟨f7, gf⟩ := hb_unc gf
      have f7 : 0 ≤ 0 + (1 * ρ1 4 + ((-1) * ρ1 73 + 0)) := f7
      rw [r4, r73] at f7
      obtain ⟨f8, gf⟩ := hb_unc gf
      have f8 : 0 ≤ 0 + ((-1) * ρ1 5 + (1 * ρ1 74 + 0)) := f8
      rw [r5, r74] at f8
      obtain ⟨f9, gf⟩ := hb_unc gf
      have f9 : 0 ≤ 0 + (1 * ρ1 5 + ((-1) * ρ1 74 + 0)) := f9
      rw [r5, r74] at f9
      obtain ⟨f10, gf⟩ := hb_unc gf
      have f10 : 0 ≤ 0 + ((-1) * ρ1 6 + (1 * ρ1 75 + 0)) := f10
      rw [r6, r75] at f10
      obtain ⟨f11, gf⟩ := hb_unc gf
      have f11 : 0 ≤ 0 + (1 * ρ1 6 + ((-1) * ρ1 75 + 0)) := f11
      rw [r6, r75] at f11
      obtain ⟨f12, gf⟩ := hb_unc gf
      have f12 : 0 ≤ 0 + ((-1) * ρ1 1 + (1 * ρ1 78 + 0)) := f12
      rw [r1, r78] at f12
      obtain ⟨f13, gf⟩ := hb_unc gf
      have f13 : 0 ≤ 0 + (1 * ρ1 1 + ((-1) * ρ1 78 + 0)) := f13
      rw [r1, r78] at f13
      obtain ⟨f14, gf⟩ := hb_unc gf
      have f14 : 0 ≤ 0 + (1 * ρ1 77 + 0) := f14
      rw [r77] at f14
      obtain ⟨f15, gf⟩ := hb_unc gf
      have f15 : 0 ≤ 65535 + ((-1) * ρ1 77 + 0) := f15
      rw [r77] at f15
      have hy1 : y1 = x1 := hb_inj f0 f1
      subst y1
      have hy2 : y2 = x2 := hb_inj f2 f3
      subst y2
      have hy3 : y3 = x3 := hb_inj f4 f5
      subst y3
      have hy4 : y4 = x4 := hb_inj f6 f7
      subst y4
      have hy5 : y5 = x5 := hb_inj f8 f9
      subst y5
      have hy6 : y6 = x6 := hb_inj f10 f11
      subst y6
      have hy9 : y9 = x1 := hb_inj f12 f13
      subst y9
      exact k0 M' w7 y8 gs gx gw g8 ge n7 (by have h1 := f14; omega) (by have h1 := f15; omega)
    cases hs
  · intro r S hpo
    obtain ⟨b1, b2, b3, b4, b5, p, hp, res, hf, hre⟩ := hpo
    cases hp

def hi_d80_q : mz_Q := (53, [(1, 80), (0, 0), (0, 0), (0, 0), (0, 0), (0, 0), (0, 0), (3, 0)], [(0, [(1, 1)]), (5, [(1, -1)])], [], [(0, 0, [(1, [(69, 1)]), (-1, [(69, -1)])]), (0, 0, [(0, [(5, -1), (69, 1)]), (0, [(5, 1), (69, -1)])])], [])
def hi_d80_s : List mz_Sp2 := []
def hi_d80_h : List mz_H := [(85, 0, []), (0, 0, [(0, 1)]), (0, 0, [(1, 1)]), (3, 0, []), (0, 0, []), (0, 0, []), (0, 0, []), (0, 0, []), (1, 0, []), (0, 0, []), (0, 0, []), (0, 0, []), (0, 0, []), (0, 0, []), (88, 0, []), (0, 0, [(8, 1)]), (0, 0, [(9, 1)]), (0, 0, []), (0, 0, []), (0, 0, []), (1, 0, []), (0, 0, []), (0, 0, []), (0, 0, []), (0, 0, []), (0, 0, []), (86, 0, []), (0, 0, [(11, 1)]), (0, 0, [(12, 1)]), (0, 0, []), (3, 0, []), (0, 0, [(0, 1)]), (1, 1, []), (0, 0, []), (3, 0, []), (0, 0, []), (1, 0, []), (0, 0, []), (0, 0, []), (86, 0, []), (0, 0, [(14, 1)]), (0, 0, [(15, 1)]), (0, 0, []), (0, 0, []), (0, 0, []), (1, 0, []), (0, 0, []), (0, 0, []), (0, 0, []), (0, 0, []), (0, 0, []), (1, 1, []), (0, 0, []), (3, 0, []), (0, 0, []), (1, 0, []), (0, 0, []), (0, 0, [])]
set_option maxRecDepth 100000 in
theorem hi_d80_c : mz_blk mz_GG mq_PP hi_Cs hi_d80_q 8 2 142 hi_d80_s [] 63 hi_d80_h = true := by decide +kernel
theorem hi_d80 {X : (Nat → mq_C) → Prop} (hX : ∀ M M' : Nat → mq_C, mz_same mz_GG M M' → X M → X M') (hC : ∀ c ∈ hi_Cs, c.2 < 2 → mz_Ct mz_GG mq_PP X c.1 c.2) {d z u : Nat} {M : Nat → mq_C} {Q : (Option Value ⊕ Nat) → mq_S → Prop} {x1 : Int32} {x2 : Int32} {x3 : Int32} {x4 : Int32} {x5 : Int32} {x6 : Int32} {o7 : Option Value} (hd : 2 ≤ d) (hz : 272 ≤ z) (hm : mz_sh mz_GG M) (hx : X M) (h0 : mq_nl o7 = true) (p0 : 0 ≤ x1.toInt) (p1 : 0 ≤ 5 - x1.toInt)
    (w0 : ∀ (M' : Nat → mq_C) (r : Int32), mz_sh mz_GG M' → X M' → mz_fr hi_d80_q M M' → (∀ a, a < 8 → M' a = M a) → hb_same mz_GG hi_d80_q M M' → 0 ≤ 1 + r.toInt → 0 ≤ (-1) - r.toInt → Q (.inl (some (.int r))) (M', z, u))
    (w1 : ∀ (M' : Nat → mq_C) (r : Int32), mz_sh mz_GG M' → X M' → mz_fr hi_d80_q M M' → (∀ a, a < 8 → M' a = M a) → hb_same mz_GG hi_d80_q M M' → 0 ≤ 0 - x5.toInt + r.toInt → 0 ≤ x5.toInt - r.toInt → Q (.inl (some (.int r))) (M', z, u)) : mq_R mq_PP d 53 142 [some (.ref 80), some (.int x1), some (.int x2), some (.int x3), some (.int x4), some (.int x5), some (.int x6), o7] [] (M, z, u) Q := by
  refine hb_blk mz_GG mq_PP X (q := hi_d80_q) (nl := 8) (M := M) hb_okG hX hC hi_d80_c hz hd (L := [some (.ref 80), some (.int x1), some (.int x2), some (.int x3), some (.int x4), some (.int x5), some (.int x6), o7]) (st := []) (show hb_lk mz_GG ([(1, 80), (0, 0), (0, 0), (0, 0), (0, 0), (0, 0), (0, 0), (3, 0)]) _ from ⟨⟨List.mem_singleton.mpr rfl, rfl⟩, trivial, trivial, trivial, trivial, trivial, trivial, h0, trivial⟩) (show hb_pk mz_GG ([]) _ from trivial) hm hx ?_ ?_ ?_
  · exact hb_cons (show 0 ≤ mz_ev _ _ from (show 0 ≤ 0 + (1 * x1.toInt + 0) by omega)) (hb_cons (show 0 ≤ mz_ev _ _ from (show 0 ≤ 5 + ((-1) * x1.toInt + 0) by omega)) (hb_nil))
  · intro s hs
    cases hs
  · intro r S hpo
    obtain ⟨b1, b2, b3, b4, b5, p, hp, res, hf, hre⟩ := hpo
    rcases List.mem_cons.mp hp with rfl | hp
    · obtain ⟨x, rfl, hr, hz1, hu1⟩ := mz_re_0 mz_GG hre rfl
      obtain ⟨M', z', u'⟩ := S
      cases hz1
      cases hu1
      have r69 : hb_r1 mz_GG hi_d80_q (hb_rb mz_GG hi_d80_q 8 [some (.ref 80), some (.int x1), some (.int x2), some (.int x3), some (.int x4), some (.int x5), some (.int x6), o7] [] M) M' res 69 = res := rfl
      obtain ⟨f0, hf⟩ := hb_unc hf
      have f0 : 0 ≤ 1 + (1 * res + 0) := f0
      rw [← hr] at f0
      obtain ⟨f1, hf⟩ := hb_unc hf
      have f1 : 0 ≤ -1 + ((-1) * res + 0) := f1
      rw [← hr] at f1
      exact w0 M' x b1 b2 b3 b4 b5 (by have h1 := f0; omega) (by have h1 := f1; omega)
    rcases List.mem_cons.mp hp with rfl | hp
    · obtain ⟨x, rfl, hr, hz1, hu1⟩ := mz_re_0 mz_GG hre rfl
      obtain ⟨M', z', u'⟩ := S
      cases hz1
      cases hu1
      have r5 : hb_r1 mz_GG hi_d80_q (hb_rb mz_GG hi_d80_q 8 [some (.ref 80), some (.int x1), some (.int x2), some (.int x3), some (.int x4), some (.int x5), some (.int x6), o7] [] M) M' res 5 = x5.toInt := rfl
      have r69 : hb_r1 mz_GG hi_d80_q (hb_rb mz_GG hi_d80_q 8 [some (.ref 80), some (.int x1), some (.int x2), some (.int x3), some (.int x4), some (.int x5), some (.int x6), o7] [] M) M' res 69 = res := rfl
      obtain ⟨f0, hf⟩ := hb_unc hf
      have f0 : 0 ≤ 0 + ((-1) * x5.toInt + (1 * res + 0)) := f0
      rw [← hr] at f0
      obtain ⟨f1, hf⟩ := hb_unc hf
      have f1 : 0 ≤ 0 + (1 * x5.toInt + ((-1) * res + 0)) := f1
      rw [← hr] at f1
      exact w1 M' x b1 b2 b3 b4 b5 (by have h1 := f0; omega) (by have h1 := f1; omega)
    cases hp

theorem hi_r80 {d z u : Nat} {Q : (Option Value ⊕ Nat) → mq_S → Prop} {M : Nat → mq_C} {x1 x2 x3 : Int32} (hd : 2 ≤ d) (hz : 272 ≤ z) (hm : mz_sh mz_GG M) (hx : hi_X 80 M) (p1 : 0 ≤ x1.toInt) (p2 : x1.toInt ≤ 5) (p3 : 0 ≤ x2.toInt) (p4 : x3.toInt ≤ 236)
    (K : ∀ (M' : Nat → mq_C) (r : Int32), mz_sh mz_GG M' → hi_X 80 M' → hi_R M M' → (∀ j, j ≠ x1.toInt.toNat → hv M' 89 j = hv M 89 j ∧ hv M' 90 j = hv M 90 j) → (∀ j, hv M' 81 j = hv M 81 j) → (r.toInt = -1 ∨ x2.toInt < x3.toInt ∧ x2.toInt ≤ r.toInt ∧ r.toInt ≤ x3.toInt) → Q (.inl (some (.int r))) (M', z, u)) : mq_R mq_PP d 53 0 [some (.ref 80), some (.int x1), some (.int x2), some (.int x3), none, none, none, none] [] (M, z, u) Q := by
  refine hi_a80 (hi_Xs (a := 80) (by decide)) (hi_C (hi_Xs (a := 80) (by decide))) hd hz hm hx rfl rfl rfl rfl (by omega) (by omega) (by omega) (by omega) ?_ ?_
  · intro M1 y4 y5 y6 w7 y8 gs gx gw g8 ge hw
    intros
    have R1 : hi_R M M1 := hi_Rb (by decide) rfl gw g8 ge
    refine hb_sta (n := 126) (kind := 64) gs (by decide +kernel) rfl rfl (.inl rfl) (by omega) (show _ < (6 : Int) by omega) ?_
    generalize hM2 : hb_set M1 89 x1.toInt.toNat y8 = M2
    have hm2 : mz_sh mz_GG M2 := by rw [← hM2]; exact hb_set_sh gs rfl hb_at1 (by omega) (by omega)
    have hx2 : hi_X 80 M2 := by rw [← hM2]; exact hi_xs80 gx (by omega)
    have w2 : ∀ b, b ≠ 89 → M2 b = M1 b := by intro b h; rw [← hM2]; exact hb_set_c h
    have n2 : ∀ j, j ≠ x1.toInt.toNat → hv M2 89 j = hv M1 89 j := by intro j h; rw [← hM2]; exact hb_set_n (.inr h)
    have R2 : hi_R M1 M2 := hi_Ro (W := [89]) (hb_only_s hb_only_r (by decide) w2) (by decide)
    refine hi_b80 (hi_Xs (a := 80) (by decide)) (hi_C (hi_Xs (a := 80) (by decide))) hd hz hm2 hx2 hw (by omega) (by omega) (by omega) (by omega) ?_
    intro M3 w7' y8' gs3 gx3 gw3 g83 ge3 hw3
    intros
    have R3 : hi_R M2 M3 := hi_Rb (by decide) rfl gw3 g83 ge3
    refine hb_sta (n := 142) (kind := 64) gs3 (by decide +kernel) rfl rfl (.inl rfl) (by omega) (show _ < (6 : Int) by omega) ?_
    generalize hM4 : hb_set M3 90 x1.toInt.toNat y8' = M4
    have hm4 : mz_sh mz_GG M4 := by rw [← hM4]; exact hb_set_sh gs3 rfl hb_at1 (by omega) (by omega)
    have hx4 : hi_X 80 M4 := by rw [← hM4]; exact hi_xs80 gx3 (by omega)
    have w4 : ∀ b, b ≠ 90 → M4 b = M3 b := by intro b h; rw [← hM4]; exact hb_set_c h
    have n4 : ∀ j, j ≠ x1.toInt.toNat → hv M4 90 j = hv M3 90 j := by intro j h; rw [← hM4]; exact hb_set_n (.inr h)
    have R4 : hi_R M3 M4 := hi_Ro (W := [90]) (hb_only_s hb_only_r (by decide) w4) (by decide)
    have R04 := hi_Rt (hi_Rt (hi_Rt R1 R2) R3) R4
    have hn : ∀ j, j ≠ x1.toInt.toNat → hv M4 89 j = hv M 89 j ∧ hv M4 90 j = hv M 90 j := by
      intro j hj
      constructor
      · rw [hb_vc (w4 _ (by decide)), hb_vc (gw3 _ (by decide) rfl), n2 j hj, hb_vc (gw _ (by decide) rfl)]
      · rw [n4 j hj, hb_vc (gw3 _ (by decide) rfl), hb_vc (w2 _ (by decide)), hb_vc (gw _ (by decide) rfl)]
    have hb4 : ∀ j, hv M4 81 j = hv M 81 j := by
      intro j
      rw [hb_vc (w4 _ (by decide)), hb_vc (gw3 _ (by decide) rfl), hb_vc (w2 _ (by decide)), hb_vc (gw _ (by decide) rfl)]
    refine hi_d80 (hi_Xs (a := 80) (by decide)) (hi_C (hi_Xs (a := 80) (by decide))) hd hz hm4 hx4 hw3 (by omega) (by omega) ?_ ?_
    · intro M5 r k1 k2 k3 k4 k5 l1 l2
      refine K M5 r k1 k2 (hi_Rt R04 (hi_Rb (by decide) rfl k3 k4 k5)) (fun j hj => ?_) (fun j => ?_) (.inl (by omega))
      · rw [hb_vc (k3 _ (by decide) rfl), hb_vc (k3 _ (by decide) rfl)]
        exact hn j hj
      · rw [hb_vc (k3 _ (by decide) rfl)]
        exact hb4 j
    · intro M5 r k1 k2 k3 k4 k5 l1 l2
      refine K M5 r k1 k2 (hi_Rt R04 (hi_Rb (by decide) rfl k3 k4 k5)) (fun j hj => ?_) (fun j => ?_) (.inr (by omega))
      · rw [hb_vc (k3 _ (by decide) rfl), hb_vc (k3 _ (by decide) rfl)]
        exact hn j hj
      · rw [hb_vc (k3 _ (by decide) rfl)]
        exact hb4 j
  · intro M' r gs gx gw g8 ge l1 l2
    exact K M' r gs gx (hi_Rb (by decide) rfl gw g8 ge) (fun j _ => ⟨hb_vc (gw _ (by decide) rfl) j, hb_vc (gw _ (by decide) rfl) j⟩) (fun j => hb_vc (gw _ (by decide) rfl) j) (.inl (by omega))
theorem hi_y80 {d z u : Nat} {Q : (Option Value ⊕ Nat) → mq_S → Prop} {M : Nat → mq_C} {x1 x2 : Int32} (hm : mz_sh mz_GG M) (p1 : 0 ≤ x1.toInt) (p2 : x1.toInt ≤ 5) (p3 : x2.toInt ≤ 240)
    (K0 : ∀ r : Int32, r.toInt = 0 → Q (.inl (some (.int r))) (M, z, u)) (K1 : ∀ r : Int32, r.toInt = 1 → hv M 90 x1.toInt.toNat + hv M 89 x1.toInt.toNat + 2 ≤ x2.toInt → Q (.inl (some (.int r))) (M, z, u)) : mq_R mq_PP d 54 0 [some (.ref 80), some (.int x1), some (.int x2), none] [] (M, z, u) Q := by
  refine he_aload (n := 1) (i := 0) (by decide +kernel) rfl ?_
  refine he_getr (n := 4) (ci := 1) (j := 10) (ns := [1230, 48]) (b := 90) hm (by decide +kernel) rfl rfl (by decide +kernel) ?_
  refine he_iload (n := 5) (i := 1) (by decide +kernel) rfl ?_
  refine hb_ld (n := 6) (kind := 64) hm (by decide +kernel) rfl rfl (.inl rfl) (by omega) (show _ < (6 : Int) by omega) hb_at1 ?_
  intro v5 hv5 lv5 uv5
  refine he_istore (n := 7) (i := 3) (by decide +kernel) rfl ?_
  refine he_iload (n := 8) (i := 3) (by decide +kernel) rfl ?_
  refine he_iconst (n := 9) (c := 2) (by decide +kernel) (by decide) ?_
  intro c8 hc8
  refine he_iadd (n := 10) (by decide +kernel) (by omega) (by omega) ?_
  intro v9 hv9
  refine he_aload (n := 11) (i := 0) (by decide +kernel) rfl ?_
  refine he_getr (n := 14) (ci := 1) (j := 9) (ns := [1229, 45]) (b := 89) hm (by decide +kernel) rfl rfl (by decide +kernel) ?_
  refine he_iload (n := 15) (i := 1) (by decide +kernel) rfl ?_
  refine hb_ld (n := 16) (kind := 64) hm (by decide +kernel) rfl rfl (.inl rfl) (by omega) (show _ < (6 : Int) by omega) hb_at1 ?_
  intro v15 hv15 lv15 uv15
  refine he_iadd (n := 17) (by decide +kernel) (by omega) (by omega) ?_
  intro v16 hv16
  refine he_iload (n := 18) (i := 2) (by decide +kernel) rfl ?_
  by_cases h18 : x2.toInt < v16.toInt
  · skip
    refine he_cmpgt_t (n := 21) (t := 53) (by decide +kernel) (by omega) ?_
    refine he_iconst (n := 54) (c := 0) (by decide +kernel) (by decide) ?_
    intro c53 hc53
    refine he_retz (by decide +kernel) (by omega) ?_
    exact K0 _ (by omega)
  · skip
    refine he_cmpgt_f (n := 21) (t := 53) (by decide +kernel) (by omega) ?_
    refine he_aload (n := 22) (i := 0) (by decide +kernel) rfl ?_
    refine he_getr (n := 25) (ci := 1) (j := 0) (ns := [1214, 9]) (b := 81) hm (by decide +kernel) rfl rfl (by decide +kernel) ?_
    refine he_iload (n := 26) (i := 3) (by decide +kernel) rfl ?_
    refine hb_ld (n := 27) (kind := 64) hm (by decide +kernel) rfl rfl (.inl rfl) (by omega) (show _ < (240 : Int) by omega) hb_at1 ?_
    intro v26 hv26 lv26 uv26
    refine he_iconst (n := 29) (c := 75) (by decide +kernel) (by decide) ?_
    intro c27 hc27
    by_cases h29 : v26.toInt = c27.toInt
    · skip
      refine he_cmpne_f (n := 32) (t := 53) (by decide +kernel) (by omega) ?_
      refine he_aload (n := 33) (i := 0) (by decide +kernel) rfl ?_
      refine he_getr (n := 36) (ci := 1) (j := 0) (ns := [1214, 9]) (b := 81) hm (by decide +kernel) rfl rfl (by decide +kernel) ?_
      refine he_iload (n := 37) (i := 3) (by decide +kernel) rfl ?_
      refine he_iconst (n := 38) (c := 1) (by decide +kernel) (by decide) ?_
      intro c37 hc37
      refine he_iadd (n := 39) (by decide +kernel) (by omega) (by omega) ?_
      intro v38 hv38
      refine hb_ld (n := 40) (kind := 64) hm (by decide +kernel) rfl rfl (.inl rfl) (by omega) (show _ < (240 : Int) by omega) hb_at1 ?_
      intro v39 hv39 lv39 uv39
      refine he_aload (n := 41) (i := 0) (by decide +kernel) rfl ?_
      refine he_getr (n := 44) (ci := 1) (j := 6) (ns := [1226, 36]) (b := 86) hm (by decide +kernel) rfl rfl (by decide +kernel) ?_
      refine he_iload (n := 45) (i := 1) (by decide +kernel) rfl ?_
      refine hb_ld (n := 46) (kind := 64) hm (by decide +kernel) rfl rfl (.inl rfl) (by omega) (show _ < (6 : Int) by omega) hb_at1 ?_
      intro v45 hv45 lv45 uv45
      by_cases h46 : v39.toInt = v45.toInt
      · skip
        refine he_cmpne_f (n := 49) (t := 53) (by decide +kernel) (by omega) ?_
        refine he_iconst (n := 50) (c := 1) (by decide +kernel) (by decide) ?_
        intro c49 hc49
        refine he_goto (t := 54) (by decide +kernel) ?_
        refine he_retz (by decide +kernel) (by omega) ?_
        exact K1 _ (by omega) (by omega)
      · skip
        refine he_cmpne_t (n := 49) (t := 53) (by decide +kernel) (by omega) ?_
        refine he_iconst (n := 54) (c := 0) (by decide +kernel) (by decide) ?_
        intro c53 hc53
        refine he_retz (by decide +kernel) (by omega) ?_
        exact K0 _ (by omega)
    · skip
      refine he_cmpne_t (n := 32) (t := 53) (by decide +kernel) (by omega) ?_
      refine he_iconst (n := 54) (c := 0) (by decide +kernel) (by decide) ?_
      intro c53 hc53
      refine he_retz (by decide +kernel) (by omega) ?_
      exact K0 _ (by omega)
def hi_m80_q : mz_Q := (52, [(1, 80), (0, 0), (3, 0), (3, 0), (3, 0)], [(0, [(1, 1)]), (236, [(1, -1)])], [], [], [])
def hi_m80_s : List mz_Sp2 := [(56, [(1, 80), (0, 0), (0, 0), (0, 0), (0, 0)], [], [(0, [(1, -1), (67, 1)]), (0, [(1, 1), (67, -1)]), (0, [(68, -1), (69, 1)]), (0, [(68, 1), (69, -1)]), (0, [(70, 1)]), (0, [(70, -1)]), (0, [(68, 1)]), (65535, [(68, -1)])])]
def hi_m80_h : List mz_H := [(0, 0, []), (0, 0, [(0, 1)]), (0, 0, [(1, 1)]), (0, 0, []), (0, 0, [(0, 1)]), (0, 0, [(1, 1)]), (0, 0, []), (0, 0, []), (0, 0, []), (0, 0, []), (0, 0, []), (0, 0, []), (0, 0, []), (0, 0, []), (0, 0, []), (0, 0, []), (0, 0, [(1, 1)]), (0, 0, [(0, 1)])]
set_option maxRecDepth 100000 in
theorem hi_m80_c : mz_blk mz_GG mq_PP hi_Cs hi_m80_q 5 2 42 hi_m80_s [] 17 hi_m80_h = true := by decide +kernel
theorem hi_m80 {X : (Nat → mq_C) → Prop} (hX : ∀ M M' : Nat → mq_C, mz_same mz_GG M M' → X M → X M') (hC : ∀ c ∈ hi_Cs, c.2 < 2 → mz_Ct mz_GG mq_PP X c.1 c.2) {d z u : Nat} {M : Nat → mq_C} {Q : (Option Value ⊕ Nat) → mq_S → Prop} {x1 : Int32} {o2 : Option Value} {o3 : Option Value} {o4 : Option Value} (hd : 2 ≤ d) (hz : 272 ≤ z) (hm : mz_sh mz_GG M) (hx : X M) (h0 : mq_nl o2 = true) (h1 : mq_nl o3 = true) (h2 : mq_nl o4 = true) (p0 : 0 ≤ x1.toInt) (p1 : 0 ≤ 236 - x1.toInt)
    (k0 : ∀ (M' : Nat → mq_C) (y2 : Int32) (y4 : Int32), mz_sh mz_GG M' → X M' → mz_fr hi_m80_q M M' → (∀ a, a < 8 → M' a = M a) → hb_same mz_GG hi_m80_q M M' → y4.toInt = 0 → 0 ≤ y2.toInt → 0 ≤ 65535 - y2.toInt → mq_R mq_PP d 52 56 [some (.ref 80), some (.int x1), some (.int y2), some (.int y2), some (.int y4)] [] (M', z, u) Q) : mq_R mq_PP d 52 42 [some (.ref 80), some (.int x1), o2, o3, o4] [] (M, z, u) Q := by
  refine hb_blk mz_GG mq_PP X (q := hi_m80_q) (nl := 5) (M := M) hb_okG hX hC hi_m80_c hz hd (L := [some (.ref 80), some (.int x1), o2, o3, o4]) (st := []) (show hb_lk mz_GG ([(1, 80), (0, 0), (3, 0), (3, 0), (3, 0)]) _ from ⟨⟨List.mem_singleton.mpr rfl, rfl⟩, trivial, h0, h1, h2, trivial⟩) (show hb_pk mz_GG ([]) _ from trivial) hm hx ?_ ?_ ?_
  · exact hb_cons (show 0 ≤ mz_ev _ _ from (show 0 ≤ 0 + (1 * x1.toInt + 0) by omega)) (hb_cons (show 0 ≤ mz_ev _ _ from (show 0 ≤ 236 + ((-1) * x1.toInt + 0) by omega)) (hb_nil))
  · intro s hs
    rcases List.mem_cons.mp hs with rfl | hs
    · intro ρ1 L' st' M' g1 g2 gm gr gf gs gx gw g8 ge
      obtain ⟨e0, L1, rfl, n0, gg0⟩ := hb_l1 mz_GG g1
      obtain rfl : e0 = 80 := List.mem_singleton.mp n0
      obtain ⟨y1, L1, rfl, qr67, gg1⟩ := hb_l0 mz_GG gg0
      have r67 : ρ1 67 = y1.toInt := qr67
      obtain ⟨y2, L1, rfl, qr68, gg2⟩ := hb_l0 mz_GG gg1
      have r68 : ρ1 68 = y2.toInt := qr68
      obtain ⟨y3, L1, rfl, qr69, gg3⟩ := hb_l0 mz_GG gg2
      have r69 : ρ1 69 = y3.toInt := qr69
      obtain ⟨y4, L1, rfl, qr70, gg4⟩ := hb_l0 mz_GG gg3
      have r70 : ρ1 70 = y4.toInt := qr70
      obtain rfl := hb_ln mz_GG gg4
      obtain rfl := hb_pn mz_GG g2
      have r1 : ρ1 1 = x1.toInt := gr 1 (by decide +kernel)
      obtain ⟨f0, gf⟩ := hb_unc gf
      have f0 : 0 ≤ 0 + ((-1) * ρ1 1 + (1 * ρ1 67 + 0)) := f0
      rw [r1, r67] at f0
      obtain ⟨f1, gf⟩ := hb_unc gf
      have f1 : 0 ≤ 0 + (1 * ρ1 1 + ((-1) * ρ1 67 + 0)) := f1
      rw [r1, r67] at f1
      obtain ⟨f2, gf⟩ := hb_unc gf
      have f2 : 0 ≤ 0 + ((-1) * ρ1 68 + (1 * ρ1 69 + 0)) := f2
      rw [r68, r69] at f2
      obtain ⟨f3, gf⟩ := hb_unc gf
      have f3 : 0 ≤ 0 + (1 * ρ1 68 + ((-1) * ρ1 69 + 0)) := f3
      rw [r68, r69] at f3
      obtain ⟨f4, gf⟩ := hb_unc gf
      have f4 : 0 ≤ 0 + (1 * ρ1 70 + 0) := f4
      rw [r70] at f4
      obtain ⟨f5, gf⟩ := hb_unc gf
      have f5 : 0 ≤ 0 + ((-1) * ρ1 70 + 0) := f5
      rw [r70] at f5
      obtain ⟨f6, gf⟩ := hb_unc gf
      have f6 : 0 ≤ 0 + (1 * ρ1 68 + 0) := f6
      rw [r68] at f6
      obtain ⟨f7, gf⟩ := hb_unc gf
      have f7 : 0 ≤ 65535 + ((-1) * ρ1 68 + 0) := f7
      rw [r68] at f7
      have hy1 : y1 = x1 := hb_inj f0 f1
      subst y1
      have hy3 : y3 = y2 := hb_inj f2 f3
      subst y3
      exact k0 M' y2 y4 gs gx gw g8 ge  (by have h1 := f4; have h2 := f5; omega) (by have h1 := f6; omega) (by have h1 := f7; omega)
    cases hs
  · intro r S hpo
    obtain ⟨b1, b2, b3, b4, b5, p, hp, res, hf, hre⟩ := hpo
    cases hp

def hi_n80_q : mz_Q := (52, [(1, 80), (0, 0), (0, 0), (0, 0), (0, 0)], [(0, [(4, 1)]), (5, [(4, -1)])], [], [(0, 0, [(0, [(66, 1)]), (0, [(66, -1)])])], [])
def hi_n80_s : List mz_Sp2 := [(56, [(1, 80), (0, 0), (0, 0), (0, 0), (0, 0)], [], [(0, [(1, -1), (67, 1)]), (0, [(1, 1), (67, -1)]), (0, [(2, -1), (68, 1)]), (0, [(2, 1), (68, -1)]), (0, [(3, -1), (69, 1)]), (0, [(3, 1), (69, -1)]), (-1, [(4, -1), (70, 1)]), (1, [(4, 1), (70, -1)])])]
def hi_n80_h : List mz_H := [(2, 0, []), (0, 0, [(0, 1)]), (0, 0, [(1, 1)]), (0, 0, []), (3, 0, []), (0, 0, [(1, 1)]), (0, 0, []), (0, 0, []), (0, 0, [(5, 1)]), (0, 0, [(6, 1)]), (0, 0, []), (0, 0, []), (0, 0, []), (0, 0, []), (0, 0, []), (0, 0, []), (0, 0, []), (0, 0, []), (0, 0, []), (0, 0, []), (0, 0, []), (0, 0, []), (0, 0, []), (0, 0, [])]
set_option maxRecDepth 100000 in
theorem hi_n80_c : mz_blk mz_GG mq_PP hi_Cs hi_n80_q 5 2 93 hi_n80_s [] 14 hi_n80_h = true := by decide +kernel
theorem hi_n80 {X : (Nat → mq_C) → Prop} (hX : ∀ M M' : Nat → mq_C, mz_same mz_GG M M' → X M → X M') (hC : ∀ c ∈ hi_Cs, c.2 < 2 → mz_Ct mz_GG mq_PP X c.1 c.2) {d z u : Nat} {M : Nat → mq_C} {Q : (Option Value ⊕ Nat) → mq_S → Prop} {x1 : Int32} {x2 : Int32} {x3 : Int32} {x4 : Int32} (hd : 2 ≤ d) (hz : 272 ≤ z) (hm : mz_sh mz_GG M) (hx : X M) (p0 : 0 ≤ x4.toInt) (p1 : 0 ≤ 5 - x4.toInt)
    (k0 : ∀ (M' : Nat → mq_C) (y4 : Int32), mz_sh mz_GG M' → X M' → mz_fr hi_n80_q M M' → (∀ a, a < 8 → M' a = M a) → hb_same mz_GG hi_n80_q M M' → y4.toInt = 1 + x4.toInt → mq_R mq_PP d 52 56 [some (.ref 80), some (.int x1), some (.int x2), some (.int x3), some (.int y4)] [] (M', z, u) Q)
    (w0 : ∀ (M' : Nat → mq_C) (r : Int32), mz_sh mz_GG M' → X M' → mz_fr hi_n80_q M M' → (∀ a, a < 8 → M' a = M a) → hb_same mz_GG hi_n80_q M M' → 0 ≤ r.toInt → 0 ≤ 0 - r.toInt → Q (.inl (some (.int r))) (M', z, u)) : mq_R mq_PP d 52 93 [some (.ref 80), some (.int x1), some (.int x2), some (.int x3), some (.int x4)] [] (M, z, u) Q := by
  refine hb_blk mz_GG mq_PP X (q := hi_n80_q) (nl := 5) (M := M) hb_okG hX hC hi_n80_c hz hd (L := [some (.ref 80), some (.int x1), some (.int x2), some (.int x3), some (.int x4)]) (st := []) (show hb_lk mz_GG ([(1, 80), (0, 0), (0, 0), (0, 0), (0, 0)]) _ from ⟨⟨List.mem_singleton.mpr rfl, rfl⟩, trivial, trivial, trivial, trivial, trivial⟩) (show hb_pk mz_GG ([]) _ from trivial) hm hx ?_ ?_ ?_
  · exact hb_cons (show 0 ≤ mz_ev _ _ from (show 0 ≤ 0 + (1 * x4.toInt + 0) by omega)) (hb_cons (show 0 ≤ mz_ev _ _ from (show 0 ≤ 5 + ((-1) * x4.toInt + 0) by omega)) (hb_nil))
  · intro s hs
    rcases List.mem_cons.mp hs with rfl | hs
    · intro ρ1 L' st' M' g1 g2 gm gr gf gs gx gw g8 ge
      obtain ⟨e0, L1, rfl, n0, gg0⟩ := hb_l1 mz_GG g1
      obtain rfl : e0 = 80 := List.mem_singleton.mp n0
      obtain ⟨y1, L1, rfl, qr67, gg1⟩ := hb_l0 mz_GG gg0
      have r67 : ρ1 67 = y1.toInt := qr67
      obtain ⟨y2, L1, rfl, qr68, gg2⟩ := hb_l0 mz_GG gg1
      have r68 : ρ1 68 = y2.toInt := qr68
      obtain ⟨y3, L1, rfl, qr69, gg3⟩ := hb_l0 mz_GG gg2
      have r69 : ρ1 69 = y3.toInt := qr69
      obtain ⟨y4, L1, rfl, qr70, gg4⟩ := hb_l0 mz_GG gg3
      have r70 : ρ1 70 = y4.toInt := qr70
      obtain rfl := hb_ln mz_GG gg4
      obtain rfl := hb_pn mz_GG g2
      have r1 : ρ1 1 = x1.toInt := gr 1 (by decide +kernel)
      have r2 : ρ1 2 = x2.toInt := gr 2 (by decide +kernel)
      have r3 : ρ1 3 = x3.toInt := gr 3 (by decide +kernel)
      have r4 : ρ1 4 = x4.toInt := gr 4 (by decide +kernel)
      obtain ⟨f0, gf⟩ := hb_unc gf
      have f0 : 0 ≤ 0 + ((-1) * ρ1 1 + (1 * ρ1 67 + 0)) := f0
      rw [r1, r67] at f0
      obtain ⟨f1, gf⟩ := hb_unc gf
      have f1 : 0 ≤ 0 + (1 * ρ1 1 + ((-1) * ρ1 67 + 0)) := f1
      rw [r1, r67] at f1
      obtain ⟨f2, gf⟩ := hb_unc gf
      have f2 : 0 ≤ 0 + ((-1) * ρ1 2 + (1 * ρ1 68 + 0)) := f2
      rw [r2, r68] at f2
      obtain ⟨f3, gf⟩ := hb_unc gf
      have f3 : 0 ≤ 0 + (1 * ρ1 2 + ((-1) * ρ1 68 + 0)) := f3
      rw [r2, r68] at f3
      obtain ⟨f4, gf⟩ := hb_unc gf
      have f4 : 0 ≤ 0 + ((-1) * ρ1 3 + (1 * ρ1 69 + 0)) := f4
      rw [r3, r69] at f4
      obtain ⟨f5, gf⟩ := hb_unc gf
      have f5 : 0 ≤ 0 + (1 * ρ1 3 + ((-1) * ρ1 69 + 0)) := f5
      rw [r3, r69] at f5
      obtain ⟨f6, gf⟩ := hb_unc gf
      have f6 : 0 ≤ -1 + ((-1) * ρ1 4 + (1 * ρ1 70 + 0)) := f6
      rw [r4, r70] at f6
      obtain ⟨f7, gf⟩ := hb_unc gf
      have f7 : 0 ≤ 1 + (1 * ρ1 4 + ((-1) * ρ1 70 + 0)) := f7
      rw [r4, r70] at f7
      have hy1 : y1 = x1 := hb_inj f0 f1
      subst y1
      have hy2 : y2 = x2 := hb_inj f2 f3
      subst y2
      have hy3 : y3 = x3 := hb_inj f4 f5
      subst y3
      exact k0 M' y4 gs gx gw g8 ge  (by have h1 := f6; have h2 := f7; omega)
    cases hs
  · intro r S hpo
    obtain ⟨b1, b2, b3, b4, b5, p, hp, res, hf, hre⟩ := hpo
    rcases List.mem_cons.mp hp with rfl | hp
    · obtain ⟨x, rfl, hr, hz1, hu1⟩ := mz_re_0 mz_GG hre rfl
      obtain ⟨M', z', u'⟩ := S
      cases hz1
      cases hu1
      have r66 : hb_r1 mz_GG hi_n80_q (hb_rb mz_GG hi_n80_q 5 [some (.ref 80), some (.int x1), some (.int x2), some (.int x3), some (.int x4)] [] M) M' res 66 = res := rfl
      obtain ⟨f0, hf⟩ := hb_unc hf
      have f0 : 0 ≤ 0 + (1 * res + 0) := f0
      rw [← hr] at f0
      obtain ⟨f1, hf⟩ := hb_unc hf
      have f1 : 0 ≤ 0 + ((-1) * res + 0) := f1
      rw [← hr] at f1
      exact w0 M' x b1 b2 b3 b4 b5 (by have h1 := f0; omega) (by have h1 := f1; omega)
    cases hp

theorem hi_l80 {d z u : Nat} {Q : (Option Value ⊕ Nat) → mq_S → Prop} {M0 : Nat → mq_C} {x1 x2 : Int32} {N : Int} (hd : 3 ≤ d) (hz : 272 ≤ z) (p1 : 0 ≤ x1.toInt) (p2 : x1.toInt ≤ 236) (p3 : 0 ≤ x2.toInt) (p4 : 0 ≤ N) (p5 : N ≤ 6)
    (K : ∀ (M' : Nat → mq_C) (r : Int32), mz_sh mz_GG M' → HX M' → hi_R M0 M' → 0 ≤ r.toInt → 0 ≤ 1 - r.toInt → Q (.inl (some (.int r))) (M', z, u)) :
    ∀ (m : Nat) (M : Nat → mq_C) (x3 x4 : Int32), (m : Int) + x4.toInt = 7 → 0 ≤ x4.toInt → mz_sh mz_GG M → hi_X 80 M → hi_R M0 M → hv M 81 (x1.toInt.toNat + 1) = N → x2.toInt ≤ x3.toInt → x4.toInt ≤ N → (∀ j : Nat, (j : Int) < x4.toInt → hv M 90 j + hv M 89 j + 2 ≤ 240) → mq_R mq_PP d 52 56 [some (.ref 80), some (.int x1), some (.int x2), some (.int x3), some (.int x4)] [] (M, z, u) Q := by
  intro m
  induction m with
  | zero =>
    intro M x3 x4 e1 e2 hm hx hR hN q1 q2 hI
    omega
  | succ m ih =>
    intro M x3 x4 e1 e2 hm hx hR hN q1 q2 hI
    obtain ⟨d, rfl⟩ : ∃ d', d = d' + 1 := ⟨d - 1, by omega⟩
    refine he_iload (n := 58) (i := 4) (by decide +kernel) rfl ?_
    refine he_aload (n := 59) (i := 0) (by decide +kernel) rfl ?_
    refine he_getr (n := 62) (ci := 1) (j := 0) (ns := [1214, 9]) (b := 81) hm (by decide +kernel) rfl rfl (by decide +kernel) ?_
    refine he_iload (n := 63) (i := 1) (by decide +kernel) rfl ?_
    refine he_iconst (n := 64) (c := 1) (by decide +kernel) (by decide) ?_
    intro c63 hc63
    refine he_iadd (n := 65) (by decide +kernel) (by omega) (by omega) ?_
    intro v64 hv64
    refine hb_ld (n := 66) (kind := 64) hm (by decide +kernel) rfl rfl (.inl rfl) (by omega) (show _ < (240 : Int) by omega) hb_at1 ?_
    intro v65 hv65 lv65 uv65
    have hv65' : v65.toInt = N := by
      rw [← hv65, show v64.toInt.toNat = x1.toInt.toNat + 1 by omega]
      exact hN
    by_cases h66 : v65.toInt ≤ x4.toInt
    · skip
      refine he_cmpge_t (n := 69) (t := 110) (by decide +kernel) (by omega) ?_
      refine he_aload (n := 111) (i := 0) (by decide +kernel) rfl ?_
      refine he_aload (n := 112) (i := 0) (by decide +kernel) rfl ?_
      refine he_getr (n := 115) (ci := 1) (j := 0) (ns := [1214, 9]) (b := 81) hm (by decide +kernel) rfl rfl (by decide +kernel) ?_
      refine he_iload (n := 116) (i := 1) (by decide +kernel) rfl ?_
      refine he_iconst (n := 117) (c := 1) (by decide +kernel) (by decide) ?_
      intro c116 hc116
      refine he_iadd (n := 118) (by decide +kernel) (by omega) (by omega) ?_
      intro v117 hv117
      refine hb_ld (n := 119) (kind := 64) hm (by decide +kernel) rfl rfl (.inl rfl) (by omega) (show _ < (240 : Int) by omega) hb_at1 ?_
      intro v118 hv118 lv118 uv118
      have hv118' : v118.toInt = N := by
        rw [← hv118, show v117.toInt.toNat = x1.toInt.toNat + 1 by omega]
        exact hN
      refine hb_pfd (n := 122) (ci := 1) (j := 4) (t := 0) (ns := [1224, 30]) hm (by decide +kernel) rfl rfl (by decide) (.inl rfl) ?_
      generalize hM1 : hb_set M 80 4 v118 = M1
      have hm1 : mz_sh mz_GG M1 := by rw [← hM1]; exact hb_set_sh hm rfl rfl (by omega) (by omega)
      have eM1 : ∀ b j, b ≠ 80 ∨ j ≠ 4 → hv M1 b j = hv M b j := by intro b j h; rw [← hM1]; exact hb_set_n h
      have sM1 : hv M1 80 4 = v118.toInt := by rw [← hM1]; exact hb_set_v hm rfl (by decide)
      have wM1 : ∀ b, b ≠ 80 → M1 b = M b := by intro b h; rw [← hM1]; exact hb_set_c h
      refine he_iload (n := 123) (i := 3) (by decide +kernel) rfl ?_
      refine he_iload (n := 124) (i := 1) (by decide +kernel) rfl ?_
      have hxn : HX M1 := by
        intro k
        by_cases e : k = 8
        · subst e
          intro j h1 h2
          have h2 : (j : Int) < hv M1 80 4 := h2
          rw [sM1] at h2
          have h3 := hI j (by omega)
          show hv M1 (80 + 10) j + hv M1 (80 + 9) j + 2 ≤ 240
          rw [eM1 _ _ (.inl (by decide)), eM1 _ _ (.inl (by decide))]
          omega
        · rw [← hM1]
          exact hxk_s (hi_sp80 k e _ _ (by omega)) (hx.1 k)
      have R1 : hi_R M M1 := hi_Ro (W := [80]) (hb_only_s hb_only_r (by decide) wM1) (by decide)
      have R01 := hi_Rt hR R1
      by_cases h124 : x3.toInt = x1.toInt
      · skip
        refine he_cmpne_f (n := 127) (t := 131) (by decide +kernel) (by omega) ?_
        refine he_iconst (n := 128) (c := 1) (by decide +kernel) (by decide) ?_
        intro c127 hc127
        refine he_goto (t := 132) (by decide +kernel) ?_
        refine he_retz (by decide +kernel) (by omega) ?_
        exact K M1 _ hm1 hxn R01 (by omega) (by omega)
      · skip
        refine he_cmpne_t (n := 127) (t := 131) (by decide +kernel) (by omega) ?_
        refine he_iconst (n := 132) (c := 0) (by decide +kernel) (by decide) ?_
        intro c131 hc131
        refine he_retz (by decide +kernel) (by omega) ?_
        exact K M1 _ hm1 hxn R01 (by omega) (by omega)
    · skip
      refine he_cmpge_f (n := 69) (t := 110) (by decide +kernel) (by omega) ?_
      refine he_aload (n := 70) (i := 0) (by decide +kernel) rfl ?_
      refine he_iload (n := 72) (i := 4) (by decide +kernel) rfl ?_
      refine he_iload (n := 73) (i := 3) (by decide +kernel) rfl ?_
      refine he_iload (n := 74) (i := 1) (by decide +kernel) rfl ?_
      refine he_v3 (n := 77) (j := 53) (ci := 1) (mx := 8) (ns := [3017, 3019, 15, 90]) (by decide +kernel) ((hb_kd (a := 80) hm rfl).trans rfl) (by decide) (by show 4 ≤ 8; omega) ?_
      rw [mq_e53]
      refine hi_r80 (x1 := x4) (x2 := x3) (x3 := x1) (by omega) hz hm hx (by omega) (by omega) (by omega) (by omega) ?_
      intro M2 r hm2 hx2 hR2 hn2 hb2 hr
      have R02 := hi_Rt hR hR2
      show mq_R mq_PP (d + 1) 52 77 _ [.int r] (M2, z, u) Q
      refine he_istore (n := 78) (i := 3) (by decide +kernel) rfl ?_
      refine he_iload (n := 79) (i := 3) (by decide +kernel) rfl ?_
      refine he_iconst (n := 80) (c := -1) (by decide +kernel) (by decide) ?_
      intro c79 hc79
      by_cases h80 : r.toInt = -1
      · skip
        refine he_cmpeq_t (n := 83) (t := 102) (by decide +kernel) (by omega) ?_
        refine he_iconst (n := 103) (c := 0) (by decide +kernel) (by decide) ?_
        intro c102 hc102
        refine he_retz (by decide +kernel) (by omega) ?_
        exact K M2 _ hm2 hx2.1 R02 (by omega) (by omega)
      · skip
        refine he_cmpeq_f (n := 83) (t := 102) (by decide +kernel) (by omega) ?_
        refine he_aload (n := 84) (i := 0) (by decide +kernel) rfl ?_
        refine he_iload (n := 86) (i := 4) (by decide +kernel) rfl ?_
        refine he_iload (n := 87) (i := 2) (by decide +kernel) rfl ?_
        refine he_v2 (n := 90) (j := 54) (ci := 1) (mx := 4) (ns := [3022, 3024, 16, 94]) (by decide +kernel) ((hb_kd (a := 80) hm2 rfl).trans rfl) (by decide) (by show 3 ≤ 4; omega) ?_
        rw [mq_e54]
        refine hi_y80 hm2 (by omega) (by omega) (by omega) (fun r2 hr2 => ?_) (fun r2 hr2 hI2 => ?_)
        · show mq_R mq_PP (d + 1) 52 90 _ [.int r2] (M2, z, u) Q
          refine he_ifeq_t (n := 93) (t := 102) (by decide +kernel) (by omega) ?_
          refine he_iconst (n := 103) (c := 0) (by decide +kernel) (by decide) ?_
          intro c102 hc102
          refine he_retz (by decide +kernel) (by omega) ?_
          exact K M2 _ hm2 hx2.1 R02 (by omega) (by omega)
        · show mq_R mq_PP (d + 1) 52 90 _ [.int r2] (M2, z, u) Q
          refine he_ifeq_f (n := 93) (t := 102) (by decide +kernel) (by omega) ?_
          refine hi_n80 (hi_Xs (a := 80) (by decide)) (hi_C (hi_Xs (a := 80) (by decide))) (by omega) hz hm2 hx2 (by omega) (by omega) ?_ ?_
          · intro M3 y4 k1 k2 k3 k4 k5
            intros
            refine ih M3 r y4 (by omega) (by omega) k1 k2 (hi_Rt R02 (hi_Rb (by decide) rfl k3 k4 k5)) ?_ (by omega) (by omega) ?_
            · rw [hb_vc (k3 _ (by decide) rfl), hb2]
              exact hN
            · intro j hj
              rw [hb_vc (k3 _ (by decide) rfl), hb_vc (k3 _ (by decide) rfl)]
              by_cases e : j = x4.toInt.toNat
              · rw [e]
                omega
              · rw [(hn2 j e).1, (hn2 j e).2]
                exact hI j (by omega)
          · intro M3 r3 k1 k2 k3 k4 k5 l1 l2
            exact K M3 r3 k1 k2.1 (hi_Rt R02 (hi_Rb (by decide) rfl k3 k4 k5)) (by omega) (by omega)
theorem hi_s80 {d z u : Nat} {Q : (Option Value ⊕ Nat) → mq_S → Prop} {M : Nat → mq_C} (hd : 3 ≤ d) (hz : 272 ≤ z) (hm : mz_sh mz_GG M) (hx : HX M)
    (K : ∀ (M' : Nat → mq_C) (r : Int32), mz_sh mz_GG M' → HX M' → hi_R M M' → 0 ≤ r.toInt → 0 ≤ 1 - r.toInt → Q (.inl (some (.int r))) (M', z, u)) : mq_R mq_PP d 52 0 [some (.ref 80), none, none, none, none] [] (M, z, u) Q := by
  refine he_aload (n := 1) (i := 0) (by decide +kernel) rfl ?_
  refine hb_gfd (n := 4) (ci := 1) (j := 1) (ns := [1217, 15]) hm (by decide +kernel) rfl rfl (by decide) rfl ?_
  intro v1 hv1 lv1 uv1
  refine he_iconst (n := 5) (c := 4) (by decide +kernel) (by decide) ?_
  intro c4 hc4
  refine he_isub (n := 6) (by decide +kernel) (by omega) (by omega) ?_
  intro v5 hv5
  refine he_istore (n := 7) (i := 1) (by decide +kernel) rfl ?_
  refine he_aload (n := 8) (i := 0) (by decide +kernel) rfl ?_
  refine he_iconst (n := 9) (c := 0) (by decide +kernel) (by decide) ?_
  intro c8 hc8
  refine hb_pfd (n := 12) (ci := 1) (j := 4) (t := 0) (ns := [1224, 30]) hm (by decide +kernel) rfl rfl (by decide) (.inl rfl) ?_
  generalize hM1 : hb_set M 80 4 c8 = M1
  have hm1 : mz_sh mz_GG M1 := by rw [← hM1]; exact hb_set_sh hm rfl rfl (by omega) (by omega)
  have eM1 : ∀ b j, b ≠ 80 ∨ j ≠ 4 → hv M1 b j = hv M b j := by intro b j h; rw [← hM1]; exact hb_set_n h
  have sM1 : hv M1 80 4 = c8.toInt := by rw [← hM1]; exact hb_set_v hm rfl (by decide)
  have wM1 : ∀ b, b ≠ 80 → M1 b = M b := by intro b h; rw [← hM1]; exact hb_set_c h
  refine he_iload (n := 13) (i := 1) (by decide +kernel) rfl ?_
  have h4 : hv M1 80 4 = 0 := by rw [sM1]; omega
  have hx1 : hi_X 80 M1 := by
    refine ⟨fun k => ?_, h4⟩
    by_cases e : k = 8
    · subst e
      intro j h1 h2
      have h2 : (j : Int) < hv M1 80 4 := h2
      omega
    · rw [← hM1]
      exact hxk_s (hi_sp80 k e _ _ (by omega)) (hx k)
  have R1 : hi_R M M1 := hi_Ro (W := [80]) (hb_only_s hb_only_r (by decide) wM1) (by decide)
  by_cases h13 : v5.toInt < 0
  · skip
    refine he_iflt_t (n := 16) (t := 40) (by decide +kernel) (by omega) ?_
    refine he_iconst (n := 41) (c := 0) (by decide +kernel) (by decide) ?_
    intro c40 hc40
    refine he_retz (by decide +kernel) (by omega) ?_
    exact K M1 _ hm1 hx1.1 R1 (by omega) (by omega)
  · skip
    refine he_iflt_f (n := 16) (t := 40) (by decide +kernel) (by omega) ?_
    refine he_aload (n := 17) (i := 0) (by decide +kernel) rfl ?_
    refine he_getr (n := 20) (ci := 1) (j := 0) (ns := [1214, 9]) (b := 81) hm1 (by decide +kernel) rfl rfl (by decide +kernel) ?_
    refine he_iload (n := 21) (i := 1) (by decide +kernel) rfl ?_
    refine hb_ld (n := 22) (kind := 64) hm1 (by decide +kernel) rfl rfl (.inl rfl) (by omega) (show _ < (240 : Int) by omega) hb_at1 ?_
    intro v21 hv21 lv21 uv21
    refine he_iconst (n := 24) (c := 80) (by decide +kernel) (by decide) ?_
    intro c22 hc22
    by_cases h24 : v21.toInt = c22.toInt
    · skip
      refine he_cmpne_f (n := 27) (t := 40) (by decide +kernel) (by omega) ?_
      refine he_aload (n := 28) (i := 0) (by decide +kernel) rfl ?_
      refine he_getr (n := 31) (ci := 1) (j := 0) (ns := [1214, 9]) (b := 81) hm1 (by decide +kernel) rfl rfl (by decide +kernel) ?_
      refine he_iload (n := 32) (i := 1) (by decide +kernel) rfl ?_
      refine he_iconst (n := 33) (c := 1) (by decide +kernel) (by decide) ?_
      intro c32 hc32
      refine he_iadd (n := 34) (by decide +kernel) (by omega) (by omega) ?_
      intro v33 hv33
      refine hb_ld (n := 35) (kind := 64) hm1 (by decide +kernel) rfl rfl (.inl rfl) (by omega) (show _ < (240 : Int) by omega) hb_at1 ?_
      intro v34 hv34 lv34 uv34
      refine he_iconst (n := 37) (c := 6) (by decide +kernel) (by decide) ?_
      intro c35 hc35
      by_cases h37 : v34.toInt ≤ c35.toInt
      · skip
        refine he_cmple_t (n := 40) (t := 42) (by decide +kernel) (by omega) ?_
        refine hi_m80 (hi_Xs (a := 80) (by decide)) (hi_C (hi_Xs (a := 80) (by decide))) (by omega) hz hm1 hx1 rfl rfl rfl (by omega) (by omega) ?_
        intro M2 y2 y4 k1 k2 k3 k4 k5
        intros
        refine hi_l80 (M0 := M) (x2 := y2) (N := v34.toInt) hd hz (by omega) (by omega) (by omega) (by omega) (by omega) K 7 M2 y2 y4 (by omega) (by omega) k1 k2 (hi_Rt R1 (hi_Rb (by decide) rfl k3 k4 k5)) ?_ (by omega) (by omega) (fun j hj => by omega)
        rw [hb_vc (k3 _ (by decide) rfl), ← hv34, show v33.toInt.toNat = v5.toInt.toNat + 1 by omega]
      · skip
        refine he_cmple_f (n := 40) (t := 42) (by decide +kernel) (by omega) ?_
        refine he_iconst (n := 41) (c := 0) (by decide +kernel) (by decide) ?_
        intro c40 hc40
        refine he_retz (by decide +kernel) (by omega) ?_
        exact K M1 _ hm1 hx1.1 R1 (by omega) (by omega)
    · skip
      refine he_cmpne_t (n := 27) (t := 40) (by decide +kernel) (by omega) ?_
      refine he_iconst (n := 41) (c := 0) (by decide +kernel) (by decide) ?_
      intro c40 hc40
      refine he_retz (by decide +kernel) (by omega) ?_
      exact K M1 _ hm1 hx1.1 R1 (by omega) (by omega)
theorem hs_aisSound_P : hc_aisSound_P := by
  intro d z u M Q b0 hd hz hm hx hb K
  have K' : ∀ (M' : Nat → mq_C) (r : Int32), mz_sh mz_GG M' → HX M' → hi_R M M' → 0 ≤ r.toInt → 0 ≤ 1 - r.toInt → Q (.inl (some (.int r))) (M', z, u) := fun M' r h1 h2 h3 => K M' r h1 h2 h3.1 h3.2.1 h3.2.2
  simp only [List.mem_cons, List.not_mem_nil, or_false] at hb
  rcases hb with rfl | rfl | rfl | rfl
  · exact hi_s47 hd hz hm hx K'
  · exact hi_s58 hd hz hm hx K'
  · exact hi_s69 hd hz hm hx K'
  · exact hi_s80 hd hz hm hx K'
theorem hs_aisSound : mz_Ct mz_GG mq_PP HX mz_q94 3 := hc_aisSound hs_aisSound_P
