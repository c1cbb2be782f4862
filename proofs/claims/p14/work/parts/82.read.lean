/-! Loading a class: files, read. -/
theorem hl_cell : ∀ {i : Nat}, i < 41 → mz_GG.1 (111 + 3 * i) = some (2, 5, 0, [(0, -1, 31), (0, 0, 255), (0, 0, 255), (1, ((112 + 3 * i : Nat) : Int), 0), (1, ((113 + 3 * i : Nat) : Int), 0)])
  | 0, _ | 1, _ | 2, _ | 3, _ | 4, _ | 5, _ | 6, _ | 7, _ | 8, _ | 9, _ | 10, _ | 11, _ | 12, _ | 13, _ | 14, _ | 15, _ | 16, _ | 17, _ | 18, _ | 19, _ | 20, _ | 21, _ | 22, _ | 23, _ | 24, _ | 25, _ | 26, _ | 27, _ | 28, _ | 29, _ | 30, _ | 31, _ | 32, _ | 33, _ | 34, _ | 35, _ | 36, _ | 37, _ | 38, _ | 39, _ | 40, _ => rfl
  | n + 41, h => absurd h (by omega)
theorem hl_c1 : ∀ {i : Nat}, i < 41 → mz_GG.1 (112 + 3 * i) = some (64, 3, 1, [(0, -1, 31)])
  | 0, _ | 1, _ | 2, _ | 3, _ | 4, _ | 5, _ | 6, _ | 7, _ | 8, _ | 9, _ | 10, _ | 11, _ | 12, _ | 13, _ | 14, _ | 15, _ | 16, _ | 17, _ | 18, _ | 19, _ | 20, _ | 21, _ | 22, _ | 23, _ | 24, _ | 25, _ | 26, _ | 27, _ | 28, _ | 29, _ | 30, _ | 31, _ | 32, _ | 33, _ | 34, _ | 35, _ | 36, _ | 37, _ | 38, _ | 39, _ | 40, _ => rfl
  | n + 41, h => absurd h (by omega)
theorem hl_c2 : ∀ {i : Nat}, i < 41 → mz_GG.1 (113 + 3 * i) = some (64, 3, 1, [(0, -1, 127)])
  | 0, _ | 1, _ | 2, _ | 3, _ | 4, _ | 5, _ | 6, _ | 7, _ | 8, _ | 9, _ | 10, _ | 11, _ | 12, _ | 13, _ | 14, _ | 15, _ | 16, _ | 17, _ | 18, _ | 19, _ | 20, _ | 21, _ | 22, _ | 23, _ | 24, _ | 25, _ | 26, _ | 27, _ | 28, _ | 29, _ | 30, _ | 31, _ | 32, _ | 33, _ | 34, _ | 35, _ | 36, _ | 37, _ | 38, _ | 39, _ | 40, _ => rfl
  | n + 41, h => absurd h (by omega)
theorem hl_r3 {i : Nat} (hi : i < 41) : he_isr (111 + 3 * i) 3 (112 + 3 * i) = true := by
  have h : ∀ i : Fin 41, he_isr (111 + 3 * i.val) 3 (112 + 3 * i.val) = true := by decide +kernel
  exact h ⟨i, hi⟩
theorem hl_r4 {i : Nat} (hi : i < 41) : he_isr (111 + 3 * i) 4 (113 + 3 * i) = true := by
  have h : ∀ i : Fin 41, he_isr (111 + 3 * i.val) 4 (113 + 3 * i.val) = true := by decide +kernel
  exact h ⟨i, hi⟩
theorem hl_f {i : Nat} (hi : i < 41) : he_isr 39 i (111 + 3 * i) = true := by
  have h : ∀ i : Fin 41, he_isr 39 i.val (111 + 3 * i.val) = true := by decide +kernel
  exact h ⟨i, hi⟩
theorem hl_mem {i : Nat} (hi : i < 41) : 111 + 3 * i ∈ [111, 114, 117, 120, 123, 126, 129, 132, 135, 138, 141, 144, 147, 150, 153, 156, 159, 162, 165, 168, 171, 174, 177, 180, 183, 186, 189, 192, 195, 198, 201, 204, 207, 210, 213, 216, 219, 222, 225, 228, 231] := by
  have h : ∀ i : Fin 41, 111 + 3 * i.val ∈ [111, 114, 117, 120, 123, 126, 129, 132, 135, 138, 141, 144, 147, 150, 153, 156, 159, 162, 165, 168, 171, 174, 177, 180, 183, 186, 189, 192, 195, 198, 201, 204, 207, 210, 213, 216, 219, 222, 225, 228, 231] := by decide +kernel
  exact h ⟨i, hi⟩
theorem hl_sp (k a j : Nat) (ha : 111 ≤ a) (ha' : a ≤ 233) : hsp k a j = false := by
  match k with
  | 0 | 1 | 2 | 3 | 4 | 5 | 6 | 7 | 8 | 9 | 10 | 11 | 12 | 13 | 14 | 15 | 16 | 17 | 18 | 19 | 20 | 21 | 22 | 23 | 24 | 25 | 26 | 27 | 28 | 29 => exact decide_eq_false (by omega)
  | n + 30 => rfl
/-- nothing but files is changed -/
def hl_R (M M' : Nat → mq_C) : Prop := ∀ a, a < 272 → (a < 111 ∨ 234 ≤ a) → M' a = M a
theorem hl_Rt {M M' M'' : Nat → mq_C} (h : hl_R M M') (h' : hl_R M' M'') : hl_R M M'' := fun a h1 h2 => (h' a h1 h2).trans (h a h1 h2)
theorem hl_Rf {q : mz_Q} {M M' : Nat → mq_C} (hW : ∀ a ∈ q.2.2.2.2.2, 111 ≤ a ∧ a ≤ 233) (h : mz_fr q M M') : hl_R M M' := by
  intro a h1 h2
  refine h a h1 ?_
  cases hx : q.2.2.2.2.2.elem a with
  | false => rfl
  | true =>
    have := hW a (List.elem_iff.mp hx)
    omega
theorem hl_x {M M' : Nat → mq_C} (h : hl_R M M') (hx : HX M) : HX M' := by
  intro k
  refine hxk_c (fun a j hs => ?_) (hx k)
  by_cases h1 : 111 ≤ a ∧ a ≤ 233
  · rw [hl_sp k a j h1.1 h1.2] at hs
    cases hs
  · have h2 : a < 272 := by
      rcases hsp_x hs with h3 | h3
      · have h4 : ∀ a ∈ mz_exol, a < 272 := by decide +kernel
        exact h4 a (List.elem_iff.mp h3)
      · have h4 : ∀ t ∈ mz_frzl, t.1 < 272 := by decide +kernel
        exact h4 _ (List.elem_iff.mp h3)
    exact hb_vc (h a h2 (by omega)) j
theorem hl_read0 {d z u i : Nat} {Q : (Option Value ⊕ Nat) → mq_S → Prop} {M : Nat → mq_C} {x2 x3 : Int32} (hC : ∀ c ∈ mz_Cs, c.2 < 3 → mz_Ct mz_GG mq_PP HX c.1 c.2) (hd : 3 ≤ d) (hz : 272 ≤ z) (hi : i < 41) (hm : mz_sh mz_GG M) (hx : HX M) (p1 : 0 ≤ x2.toInt) (p2 : x2.toInt ≤ 200)
    (K : ∀ (M' : Nat → mq_C) (r : Int32), mz_sh mz_GG M' → hl_R M M' → 0 ≤ r.toInt → r.toInt ≤ 15 → (r.toInt = 0 → hv M' (111 + 3 * i) 0 = x3.toInt) → Q (.inl (some (.int r))) (M', z, u)) : mq_R mq_PP d 58 0 [some (.ref (111 + 3 * i)), some (.ref 10), some (.int x2), some (.int x3)] [] (M, z, u) Q := by
  obtain ⟨d, rfl⟩ : ∃ d', d = d' + 1 := ⟨d - 1, by omega⟩
  have Rr : hl_R M M := fun _ _ _ => rfl
  refine he_iload (n := 1) (i := 2) (by decide +kernel) rfl ?_
  refine he_iconst (n := 2) (c := 3) (by decide +kernel) (by decide) ?_
  intro c1 hc1
  by_cases h2 : x2.toInt < c1.toInt
  · skip
    refine he_cmplt_t (n := 5) (t := 14) (by decide +kernel) (by omega) ?_
    refine he_iconst (n := 15) (c := 3) (by decide +kernel) (by decide) ?_
    intro c14 hc14
    refine he_reti (by decide +kernel) ?_
    exact K M _ hm Rr (by omega) (by omega) (fun h => by omega)
  · skip
    refine he_cmplt_f (n := 5) (t := 14) (by decide +kernel) (by omega) ?_
    refine he_aload (n := 6) (i := 1) (by decide +kernel) rfl ?_
    refine he_iconst (n := 7) (c := 0) (by decide +kernel) (by decide) ?_
    intro c6 hc6
    refine hb_ld (n := 8) (kind := 64) hm (by decide +kernel) rfl rfl (.inl rfl) (by omega) (show _ < (200 : Int) by omega) hb_at1 ?_
    intro v7 hv7 lv7 uv7
    refine he_iconst (n := 11) (c := 202) (by decide +kernel) (by decide) ?_
    intro c8 hc8
    by_cases h11 : v7.toInt = c8.toInt
    · skip
      refine he_cmpeq_t (n := 14) (t := 16) (by decide +kernel) (by omega) ?_
      refine he_aload (n := 17) (i := 0) (by decide +kernel) rfl ?_
      refine he_aload (n := 18) (i := 1) (by decide +kernel) rfl ?_
      refine he_iconst (n := 19) (c := 1) (by decide +kernel) (by decide) ?_
      intro c18 hc18
      refine hb_ld (n := 20) (kind := 64) hm (by decide +kernel) rfl rfl (.inl rfl) (by omega) (show _ < (200 : Int) by omega) hb_at1 ?_
      intro v19 hv19 lv19 uv19
      refine hb_pfd (n := 23) (ci := 2) (j := 1) (t := 0) (ns := [2058, 15]) hm (by decide +kernel) (hl_cell hi) rfl (show 1 < 5 by decide) (.inl rfl) ?_
      generalize hM1 : hb_set M (111 + 3 * i) 1 v19 = M1
      have hm1 : mz_sh mz_GG M1 := by rw [← hM1]; exact hb_set_sh hm (hl_cell hi) rfl (by omega) (by omega)
      have eM1 : ∀ b j, b ≠ 111 + 3 * i ∨ j ≠ 1 → hv M1 b j = hv M b j := by intro b j h; rw [← hM1]; exact hb_set_n h
      have sM1 : hv M1 (111 + 3 * i) 1 = v19.toInt := by rw [← hM1]; exact hb_set_v hm (hl_cell hi) (show 1 < 5 by decide)
      have wM1 : ∀ b, b ≠ 111 + 3 * i → M1 b = M b := by intro b h; rw [← hM1]; exact hb_set_c h
      refine he_aload (n := 24) (i := 0) (by decide +kernel) rfl ?_
      refine he_aload (n := 25) (i := 1) (by decide +kernel) rfl ?_
      refine he_iconst (n := 26) (c := 2) (by decide +kernel) (by decide) ?_
      intro c25 hc25
      refine hb_ld (n := 27) (kind := 64) hm1 (by decide +kernel) rfl rfl (.inl rfl) (by omega) (show _ < (200 : Int) by omega) hb_at1 ?_
      intro v26 hv26 lv26 uv26
      refine hb_pfd (n := 30) (ci := 2) (j := 2) (t := 0) (ns := [2060, 18]) hm1 (by decide +kernel) (hl_cell hi) rfl (show 2 < 5 by decide) (.inl rfl) ?_
      generalize hM2 : hb_set M1 (111 + 3 * i) 2 v26 = M2
      have hm2 : mz_sh mz_GG M2 := by rw [← hM2]; exact hb_set_sh hm1 (hl_cell hi) rfl (by omega) (by omega)
      have eM2 : ∀ b j, b ≠ 111 + 3 * i ∨ j ≠ 2 → hv M2 b j = hv M1 b j := by intro b j h; rw [← hM2]; exact hb_set_n h
      have sM2 : hv M2 (111 + 3 * i) 2 = v26.toInt := by rw [← hM2]; exact hb_set_v hm1 (hl_cell hi) (show 2 < 5 by decide)
      have wM2 : ∀ b, b ≠ 111 + 3 * i → M2 b = M1 b := by intro b h; rw [← hM2]; exact hb_set_c h
      refine he_aload (n := 31) (i := 0) (by decide +kernel) rfl ?_
      refine hb_gfd (n := 34) (ci := 2) (j := 1) (ns := [2058, 15]) hm2 (by decide +kernel) (hl_cell hi) rfl (show 1 < 5 by decide) rfl ?_
      intro v31 hv31 lv31 uv31
      refine he_iconst (n := 35) (c := 1) (by decide +kernel) (by decide) ?_
      intro c34 hc34
      have R2 : hl_R M M2 := fun a h1 h2 => (wM2 a (by omega)).trans (wM1 a (by omega))
      by_cases h35 : v31.toInt < c34.toInt
      · skip
        refine he_cmplt_t (n := 38) (t := 46) (by decide +kernel) (by omega) ?_
        refine he_iconst (n := 47) (c := 4) (by decide +kernel) (by decide) ?_
        intro c46 hc46
        refine he_reti (by decide +kernel) ?_
        exact K M2 _ hm2 R2 (by omega) (by omega) (fun h => by omega)
      · skip
        refine he_cmplt_f (n := 38) (t := 46) (by decide +kernel) (by omega) ?_
        refine he_aload (n := 39) (i := 0) (by decide +kernel) rfl ?_
        refine hb_gfd (n := 42) (ci := 2) (j := 1) (ns := [2058, 15]) hm2 (by decide +kernel) (hl_cell hi) rfl (show 1 < 5 by decide) rfl ?_
        intro v39 hv39 lv39 uv39
        refine he_iconst (n := 43) (c := 3) (by decide +kernel) (by decide) ?_
        intro c42 hc42
        by_cases h43 : v39.toInt ≤ c42.toInt
        · skip
          refine he_cmple_t (n := 46) (t := 48) (by decide +kernel) (by omega) ?_
          refine he_aload (n := 49) (i := 0) (by decide +kernel) rfl ?_
          refine he_aload (n := 50) (i := 1) (by decide +kernel) rfl ?_
          refine he_iload (n := 51) (i := 2) (by decide +kernel) rfl ?_
          refine he_v2 (n := 54) (j := 59) (ci := 2) (mx := 5) (ns := [4035, 4037, 43, 28]) (by decide +kernel) ((hb_kd hm2 (hl_cell hi)).trans rfl) (by decide) (by show 3 ≤ 5; omega) ?_
          rw [mq_e59]
          refine hu_readNames (hC (mz_q126, 2) (List.mem_of_getElem? (show mz_Cs[126]? = _ from rfl)) (by decide)) (by omega) hz hm2 (hl_x R2 hx) (hl_mem hi) (by omega) (by omega) ?_
          intro Ma ra hma hxa ka1 ka2 ka3 la1 la2
          have Ra := hl_Rt R2 (hl_Rf (by decide +kernel) ka1)
          show mq_R mq_PP (d + 1) 58 54 _ [.int ra] (Ma, z, u) Q
          by_cases h54 : ra.toInt = 0
          · skip
            refine he_ifeq_t (n := 57) (t := 71) (by decide +kernel) (by omega) ?_
            refine he_iconst (n := 72) (c := 3) (by decide +kernel) (by decide) ?_
            intro c71 hc71
            refine he_reti (by decide +kernel) ?_
            exact K Ma _ hma Ra (by omega) (by omega) (fun h => by omega)
          · skip
            refine he_ifeq_f (n := 57) (t := 71) (by decide +kernel) (by omega) ?_
            refine he_aload (n := 58) (i := 0) (by decide +kernel) rfl ?_
            refine he_v0 (n := 61) (j := 60) (ci := 2) (mx := 2) (ns := [4042, 4044, 44, 32]) (by decide +kernel) ((hb_kd hma (hl_cell hi)).trans rfl) (by decide) (by show 1 ≤ 2; omega) ?_
            rw [mq_e60]
            refine hu_fitsFlags (hC (mz_q124, 1) (List.mem_of_getElem? (show mz_Cs[124]? = _ from rfl)) (by decide)) (by omega) hz hma (hl_x Ra hx) (hl_mem hi) ?_
            intro Mb rb hmb hxb kb1 kb2 kb3 lb1 lb2
            have Rb := hl_Rt Ra (hl_Rf (by decide +kernel) kb1)
            show mq_R mq_PP (d + 1) 58 61 _ [.int rb] (Mb, z, u) Q
            by_cases h61 : rb.toInt = 0
            · skip
              refine he_ifeq_t (n := 64) (t := 71) (by decide +kernel) (by omega) ?_
              refine he_iconst (n := 72) (c := 3) (by decide +kernel) (by decide) ?_
              intro c71 hc71
              refine he_reti (by decide +kernel) ?_
              exact K Mb _ hmb Rb (by omega) (by omega) (fun h => by omega)
            · skip
              refine he_ifeq_f (n := 64) (t := 71) (by decide +kernel) (by omega) ?_
              refine he_aload (n := 65) (i := 0) (by decide +kernel) rfl ?_
              refine he_v0 (n := 68) (j := 61) (ci := 2) (mx := 1) (ns := [4046, 4048, 45, 36]) (by decide +kernel) ((hb_kd hmb (hl_cell hi)).trans rfl) (by decide) (by show 1 ≤ 1; omega) ?_
              rw [mq_e61]
              refine hu_fitsSuper (hC (mz_q125, 1) (List.mem_of_getElem? (show mz_Cs[125]? = _ from rfl)) (by decide)) (by omega) hz hmb (hl_x Rb hx) (hl_mem hi) ?_
              intro Mc rc hmc hxc kc1 kc2 kc3 lc1 lc2
              have Rc := hl_Rt Rb (hl_Rf (by decide +kernel) kc1)
              show mq_R mq_PP (d + 1) 58 68 _ [.int rc] (Mc, z, u) Q
              by_cases h68 : rc.toInt = 0
              · skip
                refine he_ifne_f (n := 71) (t := 73) (by decide +kernel) (by omega) ?_
                refine he_iconst (n := 72) (c := 3) (by decide +kernel) (by decide) ?_
                intro c71 hc71
                refine he_reti (by decide +kernel) ?_
                exact K Mc _ hmc Rc (by omega) (by omega) (fun h => by omega)
              · skip
                refine he_ifne_t (n := 71) (t := 73) (by decide +kernel) (by omega) ?_
                refine he_aload (n := 74) (i := 0) (by decide +kernel) rfl ?_
                refine hb_gfd (n := 77) (ci := 2) (j := 0) (ns := [2056, 9]) hmc (by decide +kernel) (hl_cell hi) rfl (show 0 < 5 by decide) rfl ?_
                intro v74 hv74 lv74 uv74
                refine he_iload (n := 78) (i := 3) (by decide +kernel) rfl ?_
                by_cases h78 : v74.toInt = x3.toInt
                · skip
                  refine he_cmpne_f (n := 81) (t := 85) (by decide +kernel) (by omega) ?_
                  refine he_iconst (n := 82) (c := 0) (by decide +kernel) (by decide) ?_
                  intro c81 hc81
                  refine he_goto (t := 86) (by decide +kernel) ?_
                  refine he_reti (by decide +kernel) ?_
                  exact K Mc _ hmc Rc (by omega) (by omega) (fun _ => by rw [hv74]; exact h78)
                · skip
                  refine he_cmpne_t (n := 81) (t := 85) (by decide +kernel) (by omega) ?_
                  refine he_iconst (n := 86) (c := 5) (by decide +kernel) (by decide) ?_
                  intro c85 hc85
                  refine he_reti (by decide +kernel) ?_
                  exact K Mc _ hmc Rc (by omega) (by omega) (fun h => by omega)
        · skip
          refine he_cmple_f (n := 46) (t := 48) (by decide +kernel) (by omega) ?_
          refine he_iconst (n := 47) (c := 4) (by decide +kernel) (by decide) ?_
          intro c46 hc46
          refine he_reti (by decide +kernel) ?_
          exact K M2 _ hm2 R2 (by omega) (by omega) (fun h => by omega)
    · skip
      refine he_cmpeq_f (n := 14) (t := 16) (by decide +kernel) (by omega) ?_
      refine he_iconst (n := 15) (c := 3) (by decide +kernel) (by decide) ?_
      intro c14 hc14
      refine he_reti (by decide +kernel) ?_
      exact K M _ hm Rr (by omega) (by omega) (fun h => by omega)
theorem hl_read {d z u i : Nat} {Q : (Option Value ⊕ Nat) → mq_S → Prop} {M : Nat → mq_C} {x2 x3 : Int32} (hC : ∀ c ∈ mz_Cs, c.2 < 3 → mz_Ct mz_GG mq_PP HX c.1 c.2) (hd : 3 ≤ d) (hz : 272 ≤ z) (hi : i < 41) (hm : mz_sh mz_GG M) (hx : HX M) (p1 : 0 ≤ x2.toInt) (p2 : x2.toInt ≤ 200)
    (K : ∀ (M' : Nat → mq_C) (r : Int32), mz_sh mz_GG M' → hl_R M M' → (∀ a, a ≠ 10 → a ≠ 111 + 3 * i → a ≠ 112 + 3 * i → a ≠ 113 + 3 * i → M' a = M a) → 0 ≤ r.toInt → r.toInt ≤ 15 → (r.toInt = 0 → hv M' (111 + 3 * i) 0 = x3.toInt) → Q (.inl (some (.int r))) (M', z, u)) : mq_R mq_PP d 58 0 [some (.ref (111 + 3 * i)), some (.ref 10), some (.int x2), some (.int x3)] [] (M, z, u) Q := by
  have hcl : hy_I (fun a => a = 10 ∨ a = 111 + 3 * i ∨ a = 112 + 3 * i ∨ a = 113 + 3 * i) [some (.ref (111 + 3 * i)), some (.ref 10), some (.int x2), some (.int x3)] [] M := by
    refine ⟨?_, fun b hb => (by cases hb), ?_⟩
    · intro b hb
      rcases List.mem_cons.mp hb with h1 | hb
      · cases h1
        exact .inr (.inl rfl)
      rcases List.mem_cons.mp hb with h1 | hb
      · cases h1
        exact .inl rfl
      rcases List.mem_cons.mp hb with h1 | hb
      · cases h1
      rcases List.mem_cons.mp hb with h1 | hb
      · cases h1
      · cases hb
    · intro a ha b hb
      obtain ⟨j, hj⟩ := List.getElem?_of_mem hb
      rcases ha with rfl | rfl | rfl | rfl
      · have := (hm 10 _ rfl).2.2 j _ hj
        rw [hb_at1] at this
        exact this.elim
      · obtain ⟨m1, m2, m3⟩ := hm _ _ (hl_cell hi)
        have hlt := (List.getElem?_eq_some_iff.mp hj).1
        have m2 : (M (111 + 3 * i)).2.length = 5 := m2
        have hok := m3 j _ hj
        have hj5 : j = 0 ∨ j = 1 ∨ j = 2 ∨ j = 3 ∨ j = 4 := by omega
        rcases hj5 with rfl | rfl | rfl | rfl | rfl
        · exact hok.elim
        · exact hok.elim
        · exact hok.elim
        · have := (he_isr_ok (hl_r3 hi) hm).symm.trans hj
          cases this
          exact .inr (.inr (.inl rfl))
        · have := (he_isr_ok (hl_r4 hi) hm).symm.trans hj
          cases this
          exact .inr (.inr (.inr rfl))
      · have := (hm _ _ (hl_c1 hi)).2.2 j _ hj
        rw [hb_at1] at this
        exact this.elim
      · have := (hm _ _ (hl_c2 hi)).2.2 j _ hj
        rw [hb_at1] at this
        exact this.elim
  refine hy_R _ hy_read (by decide) hcl (hl_read0 (Q := fun r S => ∃ (M' : Nat → mq_C) (v : Int32), r = .inl (some (.int v)) ∧ S = (M', z, u) ∧ mz_sh mz_GG M' ∧ hl_R M M' ∧ 0 ≤ v.toInt ∧ v.toInt ≤ 15 ∧ (v.toInt = 0 → hv M' (111 + 3 * i) 0 = x3.toInt)) hC hd hz hi hm hx p1 p2 (fun M' r k1 k2 k3 k4 k5 => ⟨M', r, rfl, rfl, k1, k2, k3, k4, k5⟩)) ?_
  rintro r S ⟨M', v, rfl, rfl, k1, k2, k3, k4, k5⟩ hf
  exact K M' v k1 k2 (fun a h1 h2 h3 h4 => hf a (by show ¬ (a = 10 ∨ a = 111 + 3 * i ∨ a = 112 + 3 * i ∨ a = 113 + 3 * i); omega)) k3 k4 k5
