/-! What all answers, told by the class's memory, on both sides. -/
theorem xLK_t {a b c : xLV} (h : xLK a b) (h' : xLK b c) : xLK a c := ⟨h'.1.trans h.1, fun i hi => ⟨(h'.2 i hi).1.trans (h.2 i hi).1, (h'.2 i hi).2.1.trans (h.2 i hi).2.1, (h'.2 i hi).2.2.1.trans (h.2 i hi).2.2.1, fun j hj => ((h'.2 i hi).2.2.2 j hj).trans ((h.2 i hi).2.2.2 j hj)⟩⟩
def xcf (M : Nat → mq_C) (x : Int32) (a : Int) : Int := xpla (xrd (xcbt M a.toNat) (xcl M a.toNat)) x a
def xcon (M : Nat → mq_C) (a : Int) : List Int := xono (xrd (xcbt M a.toNat) (xcl M a.toNat))
def xccl (M : Nat → mq_C) (i : Nat) : Int := hv M (91 + 5 * i) 1
def xcpr (M : Nat → mq_C) (i : Nat) : Int := hv M (91 + 5 * i) 0
def xcla (M : Nat → mq_C) (i : Nat) : List Int := if i < 4 then (List.range (hv M (91 + 5 * i) 3).toNat).map (fun j => hv M (92 + 5 * i) j) else []
def xcal (M : Nat → mq_C) (l : Int) (x : Int32) (k : Int) : Int := xal (hv M 8 4) (xcpr M) (xgg (xcf M x) (xcon M) (xccl M) (xcla M)) (hb_nm x.toInt) l k
theorem xcr_p {M : Nat → mq_C} (hm : mz_sh mz_GG M) : ∀ i : Nat, i < 4 → -1 ≤ xcpr M i ∧ xcpr M i < (i : Int) := by
  intro i hi
  have h4 : i = 0 ∨ i = 1 ∨ i = 2 ∨ i = 3 := by omega
  rcases h4 with rfl | rfl | rfl | rfl
  · have h := xx_rng (c := _) hm (a := 91) (i := 0) (lo := -1) (hi := -1) rfl (by decide) rfl
    exact ⟨h.1, by have h2 : xcpr M 0 ≤ -1 := h.2; omega⟩
  · have h := xx_rng (c := _) hm (a := 96) (i := 0) (lo := -1) (hi := 0) rfl (by decide) rfl
    exact ⟨h.1, by have h2 : xcpr M 1 ≤ 0 := h.2; omega⟩
  · have h := xx_rng (c := _) hm (a := 101) (i := 0) (lo := -1) (hi := 1) rfl (by decide) rfl
    exact ⟨h.1, by have h2 : xcpr M 2 ≤ 1 := h.2; omega⟩
  · have h := xx_rng (c := _) hm (a := 106) (i := 0) (lo := -1) (hi := 2) rfl (by decide) rfl
    exact ⟨h.1, by have h2 : xcpr M 3 ≤ 2 := h.2; omega⟩
theorem xcr_n {M : Nat → mq_C} (hm : mz_sh mz_GG M) : ∀ i : Nat, i < 4 → 0 ≤ hv M (91 + 5 * i) 3 ∧ hv M (91 + 5 * i) 3 ≤ 4 := by
  intro i hi
  have h4 : i = 0 ∨ i = 1 ∨ i = 2 ∨ i = 3 := by omega
  rcases h4 with rfl | rfl | rfl | rfl
  · exact xx_rng (c := _) hm (a := 91) (i := 3) (lo := 0) (hi := 4) rfl (by decide) rfl
  · exact xx_rng (c := _) hm (a := 96) (i := 3) (lo := 0) (hi := 4) rfl (by decide) rfl
  · exact xx_rng (c := _) hm (a := 101) (i := 3) (lo := 0) (hi := 4) rfl (by decide) rfl
  · exact xx_rng (c := _) hm (a := 106) (i := 3) (lo := 0) (hi := 4) rfl (by decide) rfl
theorem xcr_a {M : Nat → mq_C} (hm : mz_sh mz_GG M) : ∀ i j : Nat, i < 4 → j < 4 → 0 ≤ hv M (92 + 5 * i) j ∧ hv M (92 + 5 * i) j ≤ 3 := by
  intro i j hi hj
  have h4 : i = 0 ∨ i = 1 ∨ i = 2 ∨ i = 3 := by omega
  rcases h4 with rfl | rfl | rfl | rfl
  · exact xx_rng (c := _) hm (a := 92) (i := j) (lo := 0) (hi := 3) rfl (show j < 4 from hj) hb_at1
  · exact xx_rng (c := _) hm (a := 97) (i := j) (lo := 0) (hi := 3) rfl (show j < 4 from hj) hb_at1
  · exact xx_rng (c := _) hm (a := 102) (i := j) (lo := 0) (hi := 3) rfl (show j < 4 from hj) hb_at1
  · exact xx_rng (c := _) hm (a := 107) (i := j) (lo := 0) (hi := 3) rfl (show j < 4 from hj) hb_at1
theorem xcla_l {M : Nat → mq_C} {i : Nat} (hi : i < 4) : (xcla M i).length = (hv M (91 + 5 * i) 3).toNat := by
  unfold xcla
  rw [if_pos hi, List.length_map, List.length_range]
theorem xcla_g {M : Nat → mq_C} {i j : Nat} (hi : i < 4) (hj : j < (xcla M i).length) : (xcla M i).getD j 0 = hv M (92 + 5 * i) j := by
  have hl := xcla_l (M := M) hi
  unfold xcla
  rw [if_pos hi, List.getD_eq_getElem?_getD, List.getElem?_map, List.getElem?_range (by omega)]
  rfl
theorem xcla_i {M : Nat → mq_C} (hm : mz_sh mz_GG M) : ∀ i : Nat, xin (xcla M i) := by
  intro i x hx
  by_cases hi : i < 4
  · obtain ⟨j, hj, e⟩ := xo_mg (List.elem_iff.mpr hx)
    rw [xcla_g hi hj] at e
    rw [← e]
    have hl := xcla_l (M := M) hi
    have hn := xcr_n hm i hi
    exact xcr_a hm i j hi (by omega)
  · unfold xcla at hx
    rw [if_neg hi] at hx
    cases hx
theorem xcon_o {M : Nat → mq_C} (hm : mz_sh mz_GG M) (hE : xEA M) : xon (xcon M) := by
  intro a h0 h3
  have hE := hE a.toNat (by omega)
  unfold xcon
  have hs : a.toNat < 4 := by omega
  generalize a.toNat = s at hE hs ⊢
  cases hr : xrd (xcbt M s) (xcl M s) with
  | none => exact ⟨Nat.zero_le _, fun x hx => by cases hx⟩
  | some ls =>
    obtain ⟨l, st⟩ := ls
    obtain ⟨e1, e2, e3, e4, e5, e6⟩ := hE.1 l st hr
    have r1 : hv M (47 + 11 * s + 2) 2 ≤ 4 := by
      have h4 : s = 0 ∨ s = 1 ∨ s = 2 ∨ s = 3 := by omega
      rcases h4 with rfl | rfl | rfl | rfl
      · exact (xx_rng (c := _) hm (a := 49) (i := 2) (lo := 0) (hi := 4) rfl (by decide) rfl).2
      · exact (xx_rng (c := _) hm (a := 60) (i := 2) (lo := 0) (hi := 4) rfl (by decide) rfl).2
      · exact (xx_rng (c := _) hm (a := 71) (i := 2) (lo := 0) (hi := 4) rfl (by decide) rfl).2
      · exact (xx_rng (c := _) hm (a := 82) (i := 2) (lo := 0) (hi := 4) rfl (by decide) rfl).2
    have r2 : ∀ j : Nat, j < 4 → 0 ≤ hv M (47 + 11 * s + 3) j ∧ hv M (47 + 11 * s + 3) j ≤ 3 := by
      intro j hj
      have h4 : s = 0 ∨ s = 1 ∨ s = 2 ∨ s = 3 := by omega
      rcases h4 with rfl | rfl | rfl | rfl
      · exact xx_rng (c := _) hm (a := 50) (i := j) (lo := 0) (hi := 3) rfl (show j < 4 from hj) hb_at1
      · exact xx_rng (c := _) hm (a := 61) (i := j) (lo := 0) (hi := 3) rfl (show j < 4 from hj) hb_at1
      · exact xx_rng (c := _) hm (a := 72) (i := j) (lo := 0) (hi := 3) rfl (show j < 4 from hj) hb_at1
      · exact xx_rng (c := _) hm (a := 83) (i := j) (lo := 0) (hi := 3) rfl (show j < 4 from hj) hb_at1
    show st.2.2.2.length ≤ 4 ∧ xin st.2.2.2
    refine ⟨by omega, fun x hx => ?_⟩
    obtain ⟨j, hj, e⟩ := xo_mg (List.elem_iff.mpr hx)
    rw [← e, ← e6 j hj]
    exact r2 j (by omega)
theorem xcn {s : Nat} : ((s : Int)).toNat = s := by omega
theorem xn_all {d z u : Nat} {M : Nat → mq_C} {Q : (Option Value ⊕ Nat) → mq_S → Prop} {x1 x2 x3 : Int32} (hm : mz_sh mz_GG M) (hE : xEA M) (K : ∀ (M' : Nat → mq_C) (r : Int32), r.toInt = xcal M x1.toInt x2 x3.toInt → Q (.inl (some (.int r))) (M', z, u)) : mq_R mq_PP (d + 13) 13 0 [some (.ref 8), some (.int x1), some (.int x2), some (.int x3)] [] (M, z, u) Q := by
  refine xq_all (on := xcon M) (f := xcf M x2) (p := xcpr M) (cl := xccl M) (la := xcla M) hm hE ?_ (xcon_o hm hE) ?_ ?_ (xcla_i hm) (xcr_p hm) K
  · intro s hs
    unfold xcf
    rw [xcn]
  · refine xOn_E hE (fun s hs => ?_)
    unfold xcon
    rw [xcn]
  · intro i hi
    have hl := xcla_l (M := M) hi
    have hn := xcr_n hm i hi
    refine ⟨rfl, ⟨by omega, by omega, xcla_i hm i, fun j hj => ?_⟩, fun _ => rfl⟩
    rw [xcla_g hi hj, show 91 + 5 * i + 1 = 92 + 5 * i by omega]
theorem ym_all2 {d z u : Nat} {N M : Nat → mq_C} {Q : (Option Value ⊕ Nat) → mq_S → Prop} {x1 x2 x3 : Int32} (hm : mz_sh mz_GG M) (hN : mz_sh mz_GG N) (hE : xEA N) (hb : ∀ s : Nat, s < 4 → xrd (xcbt N s) (xcl N s) = xrd (ybt M s) (hv M 236 s).toNat) (hL : xLE (cvw N) (mvw M)) (K : ∀ (M' : Nat → mq_C) (r : Int32), r.toInt = xcal N x1.toInt x2 x3.toInt → Q (.inl (some (.int r))) (M', z, u)) : mq_R mq_PP (d + 10) 161 0 [some (.ref 234), some (.int x1), some (.int x2), some (.int x3)] [] (M, z, u) Q := by
  have h1 : hv N 8 4 = hv M 234 30 := hL.1
  unfold xcal at K
  rw [h1] at K
  refine ym_all (rdo := fun s => xrd (xcbt N s) (xcl N s)) (on := xcon N) (f := xcf N x2) (p := xcpr N) (cl := xccl N) (la := xcla N) hm (xcon_o hN hE) ?_ hb ?_ ?_ (xcr_p hN) (xcla_i hN) K
  · intro s hs
    unfold xcon
    rw [xcn]
  · intro s hs
    unfold xcf
    rw [xcn]
  · intro l hl i hi
    obtain ⟨p1, p2, p3, p4⟩ := hL.2 i hi
    have p2 : hv N (91 + 5 * i) 1 = hv M 260 i := p2
    have p3 : hv N (91 + 5 * i) 3 = hv M 258 i := p3
    have hll := xcla_l (M := N) hi
    have hn := xcr_n hN i hi
    refine ⟨p2.symm, ⟨by omega, by omega, xcla_i hN i, fun j hj => ?_⟩, fun h => ?_⟩
    · rw [xcla_g hi hj]
      exact (p4 j (by omega)).symm
    · exact (p1 (by show (i : Int) < hv N 8 4; omega)).symm
