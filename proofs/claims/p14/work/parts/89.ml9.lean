/-! The model's loads, whole. -/
theorem hm_r30 {M : Nat → mq_C} (hm : mz_sh mz_GG M) : 0 ≤ hv M 234 30 ∧ hv M 234 30 ≤ 4 := by
  obtain ⟨m1, m2, m3⟩ := hm 234 _ rfl
  have hl : 30 < (M 234).2.length := by rw [m2]; decide
  have hw : (M 234).2[30]? = some (M 234).2[30] := List.getElem?_eq_getElem hl
  generalize (M 234).2[30] = w at hw
  have hok : mz_ok mz_GG (0, 0, 4) w := m3 _ _ hw
  have e : hv M 234 30 = hb_w mz_GG (some w) := by show hb_w mz_GG ((M 234).2[30]?) = _; rw [hw]
  rw [e]
  cases w with
  | int v => exact hok
  | _ => exact hok.elim
theorem hm_all (hC : ∀ c ∈ mz_Cs, c.2 < 14 → mz_Ct mz_GG mq_PP HX c.1 c.2) : ∀ t, hm_IH t := by
  intro t
  induction t with
  | zero => exact hm_step hC (fun t' h => by omega)
  | succ t ih => exact hm_step hC (fun t' h => by obtain rfl : t' = t := by omega
                                                  exact ih)
theorem hs_mloads (hC : ∀ c ∈ mz_Cs, c.2 < 14 → mz_Ct mz_GG mq_PP HX c.1 c.2) : mz_Ct mz_GG mq_PP HX mz_q178 14 := by
  refine hc_mloads ?_
  intro d z u M Q x1 x2 hd hz hm hx p0 p1 p2 p3 p4 K0 K1
  obtain ⟨d, rfl⟩ : ∃ d', d = d' + 4 := ⟨d - 4, by omega⟩
  have hl4 : hv M 234 30 ≤ 4 := (hm_r30 hm).2
  refine he_aload (n := 1) (i := 0) (by decide +kernel) rfl ?_
  refine he_iconst (n := 2) (c := 0) (by decide +kernel) (by decide) ?_
  intro c1 hc1
  refine hb_pfd (n := 5) (ci := 9) (j := 48) (t := 0) (ns := [4225, 271]) hm (by decide +kernel) rfl rfl (by decide) (.inl rfl) ?_
  generalize hM1 : hb_set M 234 48 c1 = M1
  have hm1 : mz_sh mz_GG M1 := by rw [← hM1]; exact hb_set_sh hm rfl rfl (by omega) (by omega)
  have eM1 : ∀ b j, b ≠ 234 ∨ j ≠ 48 → hv M1 b j = hv M b j := by intro b j h; rw [← hM1]; exact hb_set_n h
  have sM1 : hv M1 234 48 = c1.toInt := by rw [← hM1]; exact hb_set_v hm rfl (by decide)
  have wM1 : ∀ b, b ≠ 234 → M1 b = M b := by intro b h; rw [← hM1]; exact hb_set_c h
  refine he_aload (n := 6) (i := 0) (by decide +kernel) rfl ?_
  refine he_iload (n := 7) (i := 1) (by decide +kernel) rfl ?_
  refine he_iload (n := 8) (i := 2) (by decide +kernel) rfl ?_
  refine he_v2 (n := 11) (j := 147) (ci := 9) (mx := 4) (ns := [6006, 6008, 68, 287]) (by decide +kernel) ((hb_kd (a := 234) hm1 rfl).trans rfl) (by decide) (by show 3 ≤ 4; omega) ?_
  rw [mq_e147]
  refine hm_begin (j := 0) hm1 (by rw [sM1]; omega) (by omega) (by omega) (by omega) (by omega) (by omega) ?_
  intro M2 g1 g2 g3 g4 g5 g6 g7
  have hE : hm_E M M2 := ⟨fun a h1 h2 => (g2.1 a h1 h2).trans (wM1 a h1), fun i h1 h2 h3 h4 => (g2.2 i h1 h2 h3 h4).trans (eM1 _ _ (.inr h1))⟩
  show mq_R mq_PP (d + 4) 150 11 _ [] (M2, z, u) Q
  refine hm_all hC 131 (j := 0) (k := x1.toInt.toNat) (by omega) hz g1 (hm_Ex hE hx) (by omega) (by omega) (by omega) (by have := hm_un_128 (M := M2); omega) (by omega) ?_
  intro M3 o3 hm3 hx3 hR hj hw
  have hS := hm_St (hm_ES hE) hR.1
  refine he_aload (n := 12) (i := 0) (by decide +kernel) rfl ?_
  refine hb_gfd (n := 15) (ci := 9) (j := 48) (ns := [4225, 271]) hm3 (by decide +kernel) rfl rfl (by decide) rfl ?_
  intro ve12 hve12 lve12 uve12
  refine he_ifle_t (n := 18) (t := 109) (by decide +kernel) (by omega) ?_
  refine he_ret (by decide +kernel) ?_
  rcases hw with ⟨h1, h2⟩ | h1
  · exact K0 M3 hm3 hx3 hS.1 hS.2.1 hS.2.2 h1 h2
  · exact K1 M3 hm3 hx3 hS.1 hS.2.1 hS.2.2 (by omega)
