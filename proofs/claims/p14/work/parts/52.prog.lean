/-! The catches of the law's helpers; the program's facts in one. -/
section MQ52
variable {p : Program} {l : Launch} {G : mq_G}
theorem mq_cr (i j : Nat) (a b : String) (ha : [mq_X0, mq_X1, mq_X2, mq_X3, mq_X4][i]? = some a) (hb : [mq_X0, mq_X1, mq_X2, mq_X3, mq_X4][j]? = some b) (hne : (a != b) = true) : Cond.not (.castable a b) ∈ mq_TT := by
  refine List.mem_append.mpr (Or.inr ?_)
  unfold mq_NC
  exact List.mem_flatMap.mpr ⟨a, List.mem_of_getElem? ha, List.mem_map.mpr ⟨b, List.mem_filter.mpr ⟨List.mem_of_getElem? hb, hne⟩, rfl⟩⟩
theorem mq_lk13 : Cond.classLink "ClassHouseLaw" 13 mq_X0 ∈ mq_TT := by decide +kernel
theorem mq_lk15 : Cond.classLink "ClassHouseLaw" 15 mq_X1 ∈ mq_TT := by decide +kernel
theorem mq_lk17 : Cond.classLink "ClassHouseLaw" 17 mq_X2 ∈ mq_TT := by decide +kernel
theorem mq_lk19 : Cond.classLink "ClassHouseLaw" 19 mq_X3 ∈ mq_TT := by decide +kernel
theorem mq_lk21 : Cond.classLink "ClassHouseLaw" 21 mq_X4 ∈ mq_TT := by decide +kernel
theorem mq_ca0 : Cond.castable mq_X0 mq_X0 ∈ mq_TT := by decide +kernel
theorem mq_ca1 : Cond.castable mq_X1 mq_X1 ∈ mq_TT := by decide +kernel
theorem mq_ca2 : Cond.castable mq_X2 mq_X2 ∈ mq_TT := by decide +kernel
theorem mq_ca3 : Cond.castable mq_X3 mq_X3 ∈ mq_TT := by decide +kernel
theorem mq_ca4 : Cond.castable mq_X4 mq_X4 ∈ mq_TT := by decide +kernel
/-- an entry that catches, one that is passed by -/
theorem mq_hit {X name : String} {pc a b h ct : Nat} (h1 : a ≤ pc ∧ pc < b) (h0 : ct ≠ 0) (hl : Cond.classLink "ClassHouseLaw" ct name ∈ mq_TT) (hc : Cond.castable X name ∈ mq_TT) : mq_hk mq_TT "ClassHouseLaw" X pc true (a, b, h, ct) := ⟨h1.1, h1.2, h0, name, hl, hc⟩
theorem mq_miss {X name : String} {pc a b h ct : Nat} (h1 : a ≤ pc ∧ pc < b) (h0 : ct ≠ 0) (hl : Cond.classLink "ClassHouseLaw" ct name ∈ mq_TT) (hc : Cond.not (.castable X name) ∈ mq_TT) : mq_hk mq_TT "ClassHouseLaw" X pc false (a, b, h, ct) := ⟨h1.1, h1.2, h0, name, hl, hc⟩
theorem mq_HC5 {N : mq_Nm} (hN : N.1.cls = "ClassHouseLaw") (hh : N.2.2.2.2 = [(0, 10, 13, 13), (0, 10, 17, 15), (0, 10, 21, 17), (0, 10, 25, 19), (0, 10, 29, 21)]) {pc kind h : Nat} (hx : mq_hx pc kind [(0, 10, 13, 10), (0, 10, 17, 11), (0, 10, 21, 12), (0, 10, 25, 13), (0, 10, 29, 14)] = some h) : mq_HC mq_cl mq_TT mq_Zs mq_ks G p l N pc kind h := by
  simp only [mq_hx] at hx
  have c10 : mq_cl[10]? = some (mq_X0, mq_fd mq_F99, 0) := rfl
  have c11 : mq_cl[11]? = some (mq_X1, mq_fd mq_F99, 0) := rfl
  have c12 : mq_cl[12]? = some (mq_X2, mq_fd mq_F99, 0) := rfl
  have c13 : mq_cl[13]? = some (mq_X3, mq_fd mq_F99, 0) := rfl
  have c14 : mq_cl[14]? = some (mq_X4, mq_fd mq_F99, 0) := rfl
  by_cases e0 : 0 ≤ pc ∧ pc < 10 ∧ kind = 10
  · rw [if_pos e0] at hx
    obtain ⟨g1, g2, rfl⟩ := e0
    refine mq_HC_of c10 (by decide) [] _ _ hh (by rw [hN]; exact mq_hit ⟨g1, g2⟩ (by decide) mq_lk13 mq_ca0) (fun w hw => by cases hw) (Option.some.inj hx)
  rw [if_neg e0] at hx
  by_cases e1 : 0 ≤ pc ∧ pc < 10 ∧ kind = 11
  · rw [if_pos e1] at hx
    obtain ⟨g1, g2, rfl⟩ := e1
    refine mq_HC_of c11 (by decide) [(0, 10, 13, 13)] _ _ hh (by rw [hN]; exact mq_hit ⟨g1, g2⟩ (by decide) mq_lk15 mq_ca1) (fun w hw => ?_) (Option.some.inj hx)
    rw [hN]
    simp only [List.mem_cons, List.not_mem_nil, or_false] at hw
    subst hw
    exact mq_miss ⟨g1, g2⟩ (by decide) mq_lk13 (mq_cr 1 0 _ _ rfl rfl (by decide))
  rw [if_neg e1] at hx
  by_cases e2 : 0 ≤ pc ∧ pc < 10 ∧ kind = 12
  · rw [if_pos e2] at hx
    obtain ⟨g1, g2, rfl⟩ := e2
    refine mq_HC_of c12 (by decide) [(0, 10, 13, 13), (0, 10, 17, 15)] _ _ hh (by rw [hN]; exact mq_hit ⟨g1, g2⟩ (by decide) mq_lk17 mq_ca2) (fun w hw => ?_) (Option.some.inj hx)
    rw [hN]
    simp only [List.mem_cons, List.not_mem_nil, or_false] at hw
    rcases hw with rfl | rfl
    · exact mq_miss ⟨g1, g2⟩ (by decide) mq_lk13 (mq_cr 2 0 _ _ rfl rfl (by decide))
    · exact mq_miss ⟨g1, g2⟩ (by decide) mq_lk15 (mq_cr 2 1 _ _ rfl rfl (by decide))
  rw [if_neg e2] at hx
  by_cases e3 : 0 ≤ pc ∧ pc < 10 ∧ kind = 13
  · rw [if_pos e3] at hx
    obtain ⟨g1, g2, rfl⟩ := e3
    refine mq_HC_of c13 (by decide) [(0, 10, 13, 13), (0, 10, 17, 15), (0, 10, 21, 17)] _ _ hh (by rw [hN]; exact mq_hit ⟨g1, g2⟩ (by decide) mq_lk19 mq_ca3) (fun w hw => ?_) (Option.some.inj hx)
    rw [hN]
    simp only [List.mem_cons, List.not_mem_nil, or_false] at hw
    rcases hw with rfl | rfl | rfl
    · exact mq_miss ⟨g1, g2⟩ (by decide) mq_lk13 (mq_cr 3 0 _ _ rfl rfl (by decide))
    · exact mq_miss ⟨g1, g2⟩ (by decide) mq_lk15 (mq_cr 3 1 _ _ rfl rfl (by decide))
    · exact mq_miss ⟨g1, g2⟩ (by decide) mq_lk17 (mq_cr 3 2 _ _ rfl rfl (by decide))
  rw [if_neg e3] at hx
  by_cases e4 : 0 ≤ pc ∧ pc < 10 ∧ kind = 14
  · rw [if_pos e4] at hx
    obtain ⟨g1, g2, rfl⟩ := e4
    refine mq_HC_of c14 (by decide) [(0, 10, 13, 13), (0, 10, 17, 15), (0, 10, 21, 17), (0, 10, 25, 19)] _ _ hh (by rw [hN]; exact mq_hit ⟨g1, g2⟩ (by decide) mq_lk21 mq_ca4) (fun w hw => ?_) (Option.some.inj hx)
    rw [hN]
    simp only [List.mem_cons, List.not_mem_nil, or_false] at hw
    rcases hw with rfl | rfl | rfl | rfl
    · exact mq_miss ⟨g1, g2⟩ (by decide) mq_lk13 (mq_cr 4 0 _ _ rfl rfl (by decide))
    · exact mq_miss ⟨g1, g2⟩ (by decide) mq_lk15 (mq_cr 4 1 _ _ rfl rfl (by decide))
    · exact mq_miss ⟨g1, g2⟩ (by decide) mq_lk17 (mq_cr 4 2 _ _ rfl rfl (by decide))
    · exact mq_miss ⟨g1, g2⟩ (by decide) mq_lk19 (mq_cr 4 3 _ _ rfl rfl (by decide))
  rw [if_neg e4] at hx
  cases hx
theorem mq_HC1 {N : mq_Nm} (hN : N.1.cls = "ClassHouseLaw") (hh : N.2.2.2.2 = [(0, 8, 11, 21)]) {pc kind h : Nat} (hx : mq_hx pc kind [(0, 8, 11, 14)] = some h) : mq_HC mq_cl mq_TT mq_Zs mq_ks G p l N pc kind h := by
  simp only [mq_hx] at hx
  have c14 : mq_cl[14]? = some (mq_X4, mq_fd mq_F99, 0) := rfl
  by_cases e0 : 0 ≤ pc ∧ pc < 8 ∧ kind = 14
  · rw [if_pos e0] at hx
    obtain ⟨g1, g2, rfl⟩ := e0
    refine mq_HC_of c14 (by decide) [] _ _ hh (by rw [hN]; exact mq_hit ⟨g1, g2⟩ (by decide) mq_lk21 mq_ca4) (fun w hw => by cases hw) (Option.some.inj hx)
  rw [if_neg e0] at hx
  cases hx
/-- which methods have handlers -/
def mq_hcs (t : mq_T) (N : mq_Nm) : Bool := t.2.1.isEmpty || (decide (N.1.cls = "ClassHouseLaw") && ((decide (t.2.1 = [(0, 10, 13, 10), (0, 10, 17, 11), (0, 10, 21, 12), (0, 10, 25, 13), (0, 10, 29, 14)]) && decide (N.2.2.2.2 = [(0, 10, 13, 13), (0, 10, 17, 15), (0, 10, 21, 17), (0, 10, 25, 19), (0, 10, 29, 21)])) || (decide (t.2.1 = [(0, 8, 11, 14)]) && decide (N.2.2.2.2 = [(0, 8, 11, 21)]))))
set_option maxRecDepth 100000 in
theorem mq_hall : (mq_ZZ.all fun q => mq_hcs q.1 q.2) = true := by decide +kernel
theorem mq_prog_ok (htr : ∀ e : Env, l.admits e → e.platform.stackTraces = false) : mq_prog mq_cl mq_TT mq_Zs mq_ks G p l mq_PP mq_NN := by
  intro k t hk
  rw [mq_PP_Z, List.getElem?_map] at hk
  cases hz : mq_ZZ[k]? with
  | none => rw [hz] at hk; cases hk
  | some q =>
    rw [hz] at hk
    cases hk
    have hmem : q ∈ mq_ZZ := List.mem_of_getElem? hz
    have hNN : mq_NN[k]? = some q.2 := by rw [mq_NN_Z, List.getElem?_map, hz]; rfl
    have hm := mq_mall q hmem
    unfold mq_mk at hm
    simp only [Bool.and_eq_true, decide_eq_true_eq] at hm
    obtain ⟨⟨⟨h1, h2⟩, h3⟩, h4⟩ := hm
    refine ⟨q.2, hNN, h1, h2, fun pc kind h hx => ?_, fun pc o hlook => ?_⟩
    · have hh := List.all_eq_true.mp mq_hall q hmem
      unfold mq_hcs at hh
      simp only [Bool.or_eq_true, Bool.and_eq_true, decide_eq_true_eq] at hh
      rcases hh with hh | ⟨hc, ⟨g1, g2⟩ | ⟨g1, g2⟩⟩
      · rw [List.isEmpty_iff.mp hh] at hx
        cases hx
      · rw [g1] at hx
        exact mq_HC5 hc g2 hx
      · rw [g1] at hx
        exact mq_HC1 hc g2 hx
    · have hin := mq_lookup_mem _ hlook
      have hck := List.all_eq_true.mp h4 _ hin
      rw [Bool.or_eq_true, decide_eq_true_eq] at hck
      have hth := List.all_eq_true.mp (List.all_eq_true.mp mq_thr q hmem) _ hin
      rw [Bool.or_eq_true] at hth
      by_cases e68 : o.1 = 68
      · rcases hth with hth | hth
        · have : (!decide (o.1 = 68)) = true := hth
          rw [decide_eq_true e68] at this
          cases this
        · exact Or.inr (Or.inr (Or.inr (mq_c68_ok htr hth)))
      · rcases hck with hck | hck
        · exact absurd hck e68
        · rcases mq_ck_ok mq_cws_ok hck with hf | hf | hf
          · exact Or.inl hf
          · refine Or.inr (Or.inl ⟨hf, fun he => ?_⟩)
            rw [Bool.or_eq_true] at h3
            rcases h3 with h3 | h3
            · rw [he] at h3
              cases h3
            · exact List.isEmpty_iff.mp h3
          · exact Or.inr (Or.inr (Or.inl hf))
end MQ52
