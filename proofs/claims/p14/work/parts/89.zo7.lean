/-! The class's examine, exactly. -/
/-- records of a sound archive lie in it -/
theorem xrcd_u {b : Nat → Int} {e dir a a' : Nat} {l : List xRc} {r : xRc} (h : xrcd b e dir l a = some (r, a')) : xut r ≤ (dir : Int) ∧ a < e ∧ a ≤ a' := by
  unfold xrcd at h
  by_cases c : xrk b e a ∧ xrf (xrr b a (b a).toNat) (b a).toNat ∧ xrb2 b dir (xrr b a (b a).toNat) ∧ (l.all fun k => decide (xap (xrr b a (b a).toNat) k)) = true
  · rw [if_pos c] at h
    cases h
    exact ⟨c.2.2.1.1, c.1.1, by omega⟩
  · rw [if_neg c] at h
    cases h
theorem xrcs_u {b : Nat → Int} {e dir : Nat} : ∀ (m : Nat) (l : List xRc) (a : Nat) (l' : List xRc) (a' : Nat), dir ≤ a → (∀ r ∈ l, xut r ≤ (e : Int)) → xrcs b e dir m l a = some (l', a') → ∀ r ∈ l', xut r ≤ (e : Int) := by
  intro m
  induction m with
  | zero =>
    intro l a l' a' _ h1 h2
    have h2 : some (l, a) = some (l', a') := h2
    cases h2
    exact h1
  | succ m ih =>
    intro l a l' a' hd h1 h2
    have h2 : (match xrcd b e dir l a with | some (r, a') => xrcs b e dir m (l ++ [r]) a' | none => none) = some (l', a') := h2
    cases hx : xrcd b e dir l a with
    | none => rw [hx] at h2; cases h2
    | some p =>
      obtain ⟨r, a1⟩ := p
      rw [hx] at h2
      obtain ⟨g1, g2, g3⟩ := xrcd_u hx
      refine ih (l ++ [r]) a1 l' a' (by omega) (fun r' hr' => ?_) h2
      rcases List.mem_append.mp hr' with h | h
      · exact h1 r' h
      · rw [List.mem_singleton.mp h]
        omega
theorem xsnd_u {b : Nat → Int} {len : Nat} {l : List xRc} (h : xsnd b len = some l) : ∀ r ∈ l, xut r ≤ (len : Int) := by
  unfold xsnd at h
  by_cases c : 4 ≤ len ∧ b (len - 4) = 80 ∧ b (len - 3) ≤ 6
  · rw [if_pos c] at h
    cases hx : xrcs b (len - 4) (xnN b (len - 2) 2) (b (len - 3)).toNat [] (xnN b (len - 2) 2) with
    | none => rw [hx] at h; cases h
    | some p =>
      obtain ⟨l1, a1⟩ := p
      rw [hx] at h
      have h : (if a1 = len - 4 then some l1 else none) = some l := h
      by_cases ea : a1 = len - 4
      · rw [if_pos ea] at h
        cases h
        intro r hr
        have := xrcs_u _ _ _ _ _ (Nat.le_refl _) (fun r hr => by cases hr) hx r hr
        omega
      · rw [if_neg ea] at h
        cases h
  · rw [if_neg c] at h
    cases h
theorem xo_gm {l : List xRc} {i : Nat} (h : i < l.length) : l.getD i xd0 ∈ l := by
  rw [xo_gd h]
  exact List.getElem_mem h
/-- what examine leaves behind -/
def xEX (A : Nat) (b : Nat → Int) (len : Nat) (M : Nat → mq_C) : Prop := (∀ l s, xrd b len = some (l, s) → hv M A 2 = 1 ∧ hv M A 4 = (l.length : Int) ∧ (∀ i, i < l.length → xcr M A i = l.getD i xd0) ∧ hv M (A + 2) 0 = s.2.2.1 ∧ hv M (A + 2) 2 = (s.2.2.2.length : Int) ∧ ∀ i, i < s.2.2.2.length → hv M (A + 3) i = s.2.2.2.getD i 0) ∧ (xrd b len = none → hv M A 2 = 0)
theorem xo_exam47 {d z u : Nat} {M : Nat → mq_C} {Q : (Option Value ⊕ Nat) → mq_S → Prop} {len : Nat} (hm : mz_sh mz_GG M) (hl : hv M 47 1 = (len : Int)) (hl2 : len ≤ 240) (hMO : M 1 = (60, mq_MO)) (hTL : xT M 24 288 xfL) (hTD : xT M 28 32 xfD) (K : ∀ M' : Nat → mq_C, mz_sh mz_GG M' → (∀ b, (b < 9 ∨ 24 ≤ b) → (b < 47 ∨ 57 < b ∨ b = 48) → M' b = M b) → hv M' 47 1 = (len : Int) → xEX 47 (hv M 48) len M' → Q (.inl none) (M', z, u)) : mq_R mq_PP (d + 6) 48 0 [some (.ref 47), some (.ref 9), none] [] (M, z, u) Q := by
  refine he_aload (n := 1) (i := 0) (by decide +kernel) rfl ?_
  refine he_getr (n := 4) (ci := 1) (j := 3) (ns := [1222, 26]) (b := 49) hm (by decide +kernel) rfl rfl (by decide +kernel) ?_
  refine he_v0 (n := 7) (j := 82) (ci := 7) (mx := 2) (ns := [3005, 3006, 3007, 51]) (by decide +kernel) ((hb_kd (a := 49) hm rfl).trans rfl) (by show 0 ≤ 8; omega) (by show 1 ≤ 2; omega) ?_
  rw [mq_e82]
  refine xo_clear47 (M0 := M) hm (fun _ _ => rfl) ?_
  intro M1 hV1 hz1
  show mq_R mq_PP (d + 6) 48 7 _ [] (M1, z, u) Q
  have k1 : ∀ b, b < 47 + 2 ∨ 47 + 4 < b → M1 b = M b := hV1.2.1
  refine he_aload (n := 8) (i := 0) (by decide +kernel) rfl ?_
  refine he_aload (n := 9) (i := 0) (by decide +kernel) rfl ?_
  refine he_v0 (n := 12) (j := 52) (ci := 1) (mx := 5) (ns := [3009, 3011, 13, 54]) (by decide +kernel) ((hb_kd (a := 47) hV1.1 rfl).trans rfl) (by show 1 ≤ 8; omega) (by show 1 ≤ 5; omega) ?_
  rw [mq_e52]
  refine xo_snd47 (len := len) hV1.1 ((hb_vc (k1 47 (by decide)) 1).trans hl) hl2 ?_
  intro M2 r2 hm2 w2 j2 s1 s0
  rw [show hv M1 48 = hv M 48 from funext fun t => hb_vc (k1 48 (by decide)) t] at s1 s0
  show mq_R mq_PP (d + 6) 48 12 _ [.int r2, .ref 47] (M2, z, u) Q
  have hr01 : r2.toInt = 0 ∨ r2.toInt = 1 := by
    cases hx : xsnd (hv M 48) len with
    | none => exact .inl (s0 hx)
    | some l => exact .inr (s1 l hx).1
  refine hb_pfd (n := 15) (ci := 1) (j := 2) (t := 1) (ns := [1220, 19]) hm2 (by decide +kernel) rfl rfl (by decide) (.inr ⟨rfl, he_01 (by omega)⟩) ?_
  generalize hMa1 : hb_set M2 47 2 r2 = Ma1
  have hma1 : mz_sh mz_GG Ma1 := by rw [← hMa1]; exact hb_set_sh hm2 rfl rfl (by omega) (by omega)
  have eMa1 : ∀ b j, b ≠ 47 ∨ j ≠ 2 → hv Ma1 b j = hv M2 b j := by intro b j h; rw [← hMa1]; exact hb_set_n h
  have sMa1 : hv Ma1 47 2 = r2.toInt := by rw [← hMa1]; exact hb_set_v hm2 rfl (by decide)
  have wMa1 : ∀ b, b ≠ 47 → Ma1 b = M2 b := by intro b h; rw [← hMa1]; exact hb_set_c h
  refine he_aload (n := 16) (i := 0) (by decide +kernel) rfl ?_
  refine hb_gfd (n := 19) (ci := 1) (j := 2) (ns := [1220, 19]) hma1 (by decide +kernel) rfl rfl (by decide) rfl ?_
  intro va16 hva16 lva16 uva16
  have q16 : va16.toInt = r2.toInt := hva16.symm.trans sMa1
  have c3 : ∀ b, (b < 47 ∨ 57 < b ∨ b = 48) → Ma1 b = M b := fun b hb => by rw [wMa1 b (by omega), w2 b (by omega) (by omega), k1 b (by omega)]
  have hM1 : Ma1 1 = (60, mq_MO) := (c3 1 (by decide)).trans hMO
  have hL1 : xT Ma1 24 288 xfL := ⟨fun b p q => by rw [hb_vc (c3 (24 + 1) (by decide))]; exact hTL.1 b p q, fun i p q => by rw [hb_vc (c3 (24 + 3) (by decide))]; exact hTL.2 i p q⟩
  have hD1 : xT Ma1 28 32 xfD := ⟨fun b p q => by rw [hb_vc (c3 (28 + 1) (by decide))]; exact hTD.1 b p q, fun i p q => by rw [hb_vc (c3 (28 + 3) (by decide))]; exact hTD.2 i p q⟩
  have a1 : hv Ma1 47 1 = (len : Int) := by rw [eMa1 _ _ (.inr (by decide)), j2 1 (by decide), hb_vc (k1 47 (by decide))]; exact hl
  have uP : ∀ b t, 49 ≤ b → b ≤ 51 → hv Ma1 b t = hv M1 b t := fun b t h1 h2 => by rw [hb_vc (wMa1 b (by omega)), hb_vc (w2 b (by omega) (by omega))]
  have uB : hv Ma1 48 = hv M 48 := funext fun t => hb_vc (c3 48 (by decide)) t
  cases hx : xsnd (hv M 48) len with
  | none =>
    have h0 := s0 hx
    refine he_ifeq_t (n := 22) (t := 31) (by decide +kernel) (by omega) ?_
    refine he_iconst (n := 32) (c := -1) (by decide +kernel) (by decide) ?_
    intro ca31 hca31
    refine he_istore (n := 33) (i := 2) (by decide +kernel) rfl ?_
    refine he_iload (n := 34) (i := 2) (by decide +kernel) rfl ?_
    refine he_iconst (n := 35) (c := -1) (by decide +kernel) (by decide) ?_
    intro ca34 hca34
    refine he_cmpeq_t (n := 38) (t := 74) (by decide +kernel) (by omega) ?_
    refine he_ret (by decide +kernel) ?_
    exact K Ma1 hma1 (fun b _ hb => c3 b hb) a1 ⟨fun l s h => (by unfold xrd at h; rw [hx] at h; cases h), fun _ => by rw [sMa1]; exact h0⟩
  | some l =>
    obtain ⟨h1, h4, h6, hc⟩ := s1 l hx
    have h4' : hv Ma1 47 4 = (l.length : Int) := (eMa1 _ _ (.inr (by decide))).trans h4
    have hc' : ∀ i, i < l.length → xcr Ma1 47 i = l.getD i xd0 := fun i hi => by rw [xcr_c (M := M2) (fun b _ _ => hb_vc (wMa1 b (by omega)) i)]; exact hc i hi
    refine he_ifeq_f (n := 22) (t := 31) (by decide +kernel) (by omega) ?_
    refine he_aload (n := 23) (i := 0) (by decide +kernel) rfl ?_
    refine he_iconst (n := 25) (c := 77) (by decide +kernel) (by decide) ?_
    intro ca23 hca23
    refine he_v1 (n := 28) (j := 51) (ci := 1) (mx := 3) (ns := [3030, 3032, 18, 58]) (by decide +kernel) ((hb_kd (a := 47) hma1 rfl).trans rfl) (by show 0 ≤ 8; omega) (by show 2 ≤ 3; omega) ?_
    rw [mq_e51]
    refine xo_rn47 (n := l.length) hma1 h4' ?_
    intro r3 hr3
    show mq_R mq_PP (d + 6) 48 28 _ [.int r3] (Ma1, z, u) Q
    rw [show ca23.toInt = 77 by omega] at hr3
    have hn : ∀ i, i < l.length → hv Ma1 52 i = (l.getD i xd0).1 := fun i hi => by rw [← hc' i hi]; rfl
    have dX : xrd (hv M 48) len = (match l.find? (fun r => decide (r.1 = 77)) with | none => some (l, xm0) | some r => match xcont (hv M 48) r with | none => none | some o => match xman (fun i => o.getD i 0) o.length with | none => none | some s => some (l, s)) := by
      unfold xrd
      rw [hx]
      rfl
    rcases hr3 with ⟨j, j1, j2', j3, j4⟩ | ⟨j1, j2'⟩
    rotate_left
    · rw [xo_fn l (fun i hi => by rw [← hn i hi]; exact j2' i hi)] at dX
      refine he_goto (t := 32) (by decide +kernel) ?_
      refine he_istore (n := 33) (i := 2) (by decide +kernel) rfl ?_
      refine he_iload (n := 34) (i := 2) (by decide +kernel) rfl ?_
      refine he_iconst (n := 35) (c := -1) (by decide +kernel) (by decide) ?_
      intro cb34 hcb34
      refine he_cmpeq_t (n := 38) (t := 74) (by decide +kernel) (by omega) ?_
      refine he_ret (by decide +kernel) ?_
      refine K Ma1 hma1 (fun b _ hb => c3 b hb) a1 ⟨fun l' s h => ?_, fun h => by rw [dX] at h; cases h⟩
      rw [dX] at h
      cases h
      exact ⟨by rw [sMa1]; exact h1, h4', hc', by rw [uP _ _ (by decide) (by decide)]; exact hz1, by rw [uP _ _ (by decide) (by decide)]; exact hV1.2.2.2.2.2.1, fun i hi => absurd hi (Nat.not_lt_zero i)⟩
    rw [xo_fd l j j1 (by rw [← hn j j1]; exact j3) (fun i hi => by rw [← hn i (by omega)]; exact j4 i hi)] at dX
    have dX : xrd (hv M 48) len = (match xcont (hv M 48) (l.getD j xd0) with | none => none | some o => match xman (fun i => o.getD i 0) o.length with | none => none | some s => some (l, s)) := dX
    refine he_goto (t := 32) (by decide +kernel) ?_
    refine he_istore (n := 33) (i := 2) (by decide +kernel) rfl ?_
    refine he_iload (n := 34) (i := 2) (by decide +kernel) rfl ?_
    refine he_iconst (n := 35) (c := -1) (by decide +kernel) (by decide) ?_
    intro cb34 hcb34
    refine he_cmpeq_f (n := 38) (t := 74) (by decide +kernel) (by omega) ?_
    refine he_aload (n := 39) (i := 0) (by decide +kernel) rfl ?_
    refine he_aload (n := 40) (i := 0) (by decide +kernel) rfl ?_
    refine he_iload (n := 41) (i := 2) (by decide +kernel) rfl ?_
    refine he_aload (n := 42) (i := 1) (by decide +kernel) rfl ?_
    refine he_v2 (n := 45) (j := 49) (ci := 1) (mx := 4) (ns := [3034, 3035, 3036, 62]) (by decide +kernel) ((hb_kd (a := 47) hma1 rfl).trans rfl) (by show 1 ≤ 8; omega) (by show 3 ≤ 4; omega) ?_
    rw [mq_e49]
    have hu : ∀ i, i < l.length → xut (xcr Ma1 47 i) ≤ 240 := fun i hi => by rw [hc' i hi]; have := xsnd_u hx _ (xo_gm hi); omega
    have ejj : r3.toInt.toNat = j := by omega
    refine xo_unp47 (n := l.length) hma1 h4' h6 hu hM1 hL1 hD1 (fun r hne _ => absurd ⟨by omega, by omega⟩ hne) ?_
    intro M5 r5 _ hm5 w5 t1 t0
    rw [ejj, hc' j j1, uB] at t1 t0
    show mq_R mq_PP (d + 6) 48 45 _ [.int r5, .ref 47] (M5, z, u) Q
    have c5 : ∀ b, (b < 9 ∨ 24 ≤ b) → (b < 47 ∨ 57 < b ∨ b = 48) → M5 b = M b := fun b p q => (w5 b p).trans (c3 b q)
    have fin : ∀ (M6 : Nat → mq_C) (v : Int32), mz_sh mz_GG M6 → (∀ b, (b < 9 ∨ 24 ≤ b) → (b < 49 ∨ 51 < b) → M6 b = M5 b) → (v.toInt = 0 ∨ v.toInt = 1) → (∀ M7 : Nat → mq_C, (∀ b, b ≠ 47 → M7 b = M6 b) → (∀ j, j ≠ 2 → hv M7 47 j = hv M6 47 j) → hv M7 47 2 = v.toInt → xEX 47 (hv M 48) len M7) → mq_R mq_PP (d + 6) 48 71 [some (.ref 47), some (.ref 9), some (.int r3)] [.int v, .ref 47] (M6, z, u) Q := by
      intro M6 v hm6 w6 hv01 hE
      refine hb_pfd (n := 74) (ci := 1) (j := 2) (t := 1) (ns := [1220, 19]) hm6 (by decide +kernel) rfl rfl (by decide) (.inr ⟨rfl, he_01 (by omega)⟩) ?_
      generalize hMc1 : hb_set M6 47 2 v = Mc1
      have hmc1 : mz_sh mz_GG Mc1 := by rw [← hMc1]; exact hb_set_sh hm6 rfl rfl (by omega) (by omega)
      have eMc1 : ∀ b j, b ≠ 47 ∨ j ≠ 2 → hv Mc1 b j = hv M6 b j := by intro b j h; rw [← hMc1]; exact hb_set_n h
      have sMc1 : hv Mc1 47 2 = v.toInt := by rw [← hMc1]; exact hb_set_v hm6 rfl (by decide)
      have wMc1 : ∀ b, b ≠ 47 → Mc1 b = M6 b := by intro b h; rw [← hMc1]; exact hb_set_c h
      refine he_ret (by decide +kernel) ?_
      refine K Mc1 hmc1 (fun b p q => ?_) ?_ (hE Mc1 wMc1 (fun j hj => eMc1 _ _ (.inr hj)) sMc1)
      · rw [wMc1 b (by omega), w6 b p (by omega)]
        exact c5 b p q
      · rw [eMc1 _ _ (.inr (by decide)), hb_vc (w6 47 (by decide) (by decide)), hb_vc (w5 47 (by decide))]
        exact a1
    cases hco : xcont (hv M 48) (l.getD j xd0) with
    | none =>
      have h5 := t0 hco
      rw [hco] at dX
      have dX : xrd (hv M 48) len = none := dX
      refine he_ifeq_t (n := 48) (t := 70) (by decide +kernel) (by omega) ?_
      refine he_iconst (n := 71) (c := 0) (by decide +kernel) (by decide) ?_
      intro cd70 hcd70
      refine fin M5 _ hm5 (fun _ _ _ => rfl) (by omega) (fun M7 _ _ e2 => ⟨fun l' s h => (by rw [dX] at h; cases h), fun _ => by rw [e2]; omega⟩)
    | some o =>
      obtain ⟨h5, g91, g200, g10⟩ := t1 o hco
      rw [hco] at dX
      have dX : xrd (hv M 48) len = (match xman (fun i => o.getD i 0) o.length with | none => none | some s => some (l, s)) := dX
      refine he_ifeq_f (n := 48) (t := 70) (by decide +kernel) (by omega) ?_
      refine he_aload (n := 49) (i := 0) (by decide +kernel) rfl ?_
      refine he_getr (n := 52) (ci := 1) (j := 3) (ns := [1222, 26]) (b := 49) hm5 (by decide +kernel) rfl rfl (by decide +kernel) ?_
      refine he_aload (n := 53) (i := 1) (by decide +kernel) rfl ?_
      refine he_getr (n := 56) (ci := 8) (j := 0) (ns := [1066, 66]) (b := 10) hm5 (by decide +kernel) rfl rfl (by decide +kernel) ?_
      refine he_aload (n := 57) (i := 1) (by decide +kernel) rfl ?_
      refine hb_gfd (n := 60) (ci := 8) (j := 1) (ns := [1069, 71]) hm5 (by decide +kernel) rfl rfl (by decide) rfl ?_
      intro vd57 hvd57 lvd57 uvd57
      have q57 : vd57.toInt = (o.length : Int) := by rw [← hvd57]; exact g91
      refine he_v2 (n := 63) (j := 83) (ci := 7) (mx := 5) (ns := [3040, 3041, 3042, 72]) (by decide +kernel) ((hb_kd (a := 49) hm5 rfl).trans rfl) (by show 1 ≤ 8; omega) (by show 3 ≤ 5; omega) ?_
      rw [mq_e83]
      have hV5 : xMV 47 M5 M5 xm0 := by
        obtain ⟨y1, y2, y3, y4, y5, y6, y7, y8, y9, y10⟩ := id hV1
        have uu : ∀ b t, 49 ≤ b → b ≤ 51 → hv M5 b t = hv M1 b t := fun b t p q => (hb_vc (w5 b (by omega)) t).trans (uP b t p q)
        refine ⟨hm5, fun _ _ => rfl, by rw [uu _ _ (by decide) (by decide)]; exact y3, by rw [uu _ _ (by decide) (by decide)]; exact y4, by rw [uu _ _ (by decide) (by decide)]; exact y5, by rw [uu _ _ (by decide) (by decide)]; exact y6, fun i hi => absurd hi (Nat.not_lt_zero i), ?_, y9, y10⟩
        rw [uu _ _ (by decide) (by decide), show (fun i => hv M5 (47 + 3) i) = fun i => hv M1 (47 + 3) i from funext fun i => uu _ _ (by decide) (by decide)]
        exact y8
      have eT : xman (hv M5 10) o.length = xman (fun i => o.getD i 0) o.length := xman_c (fun k hk => g10 k hk)
      refine xo_read47 (M0 := M5) (len := o.length) q57 g200 hV5 ?_ ?_
      · intro M6 r6 s hx6 hr6 hV6 hz6
        rw [eT] at hx6
        rw [hx6] at dX
        show mq_R mq_PP (d + 6) 48 63 _ [.int r6, .ref 47] (M6, z, u) Q
        refine he_ifeq_f (n := 66) (t := 70) (by decide +kernel) (by omega) ?_
        refine he_iconst (n := 67) (c := 1) (by decide +kernel) (by decide) ?_
        intro ce66 hce66
        refine he_goto (t := 71) (by decide +kernel) ?_
        refine fin M6 _ hV6.1 (fun b _ q => hV6.2.1 b (by omega)) (by omega) (fun M7 e0 e1 e2 => ⟨fun l' s' h => ?_, fun h => by rw [dX] at h; cases h⟩)
        rw [dX] at h
        cases h
        have f6 : ∀ b t, (b < 9 ∨ 24 ≤ b) → b < 47 + 2 ∨ 47 + 4 < b → hv M6 b t = hv Ma1 b t := fun b t p q => (hb_vc (hV6.2.1 b q) t).trans (hb_vc (w5 b p) t)
        refine ⟨by rw [e2]; omega, by rw [e1 4 (by decide), f6 _ _ (by decide) (by decide)]; exact h4', fun i hi => ?_, by rw [hb_vc (e0 _ (by decide))]; exact hz6, by rw [hb_vc (e0 _ (by decide))]; exact hV6.2.2.2.2.2.1, fun i hi => by rw [hb_vc (e0 _ (by decide))]; exact hV6.2.2.2.2.2.2.1 i hi⟩
        rw [xcr_c (M := Ma1) (fun b p q => by rw [hb_vc (e0 b (by omega)), f6 b i (by omega) (by omega)])]
        exact hc' i hi
      · intro M6 r6 hx6 hr6 hm6 hw6
        rw [eT] at hx6
        rw [hx6] at dX
        show mq_R mq_PP (d + 6) 48 63 _ [.int r6, .ref 47] (M6, z, u) Q
        refine he_ifeq_t (n := 66) (t := 70) (by decide +kernel) (by omega) ?_
        refine he_iconst (n := 71) (c := 0) (by decide +kernel) (by decide) ?_
        intro ce70 hce70
        exact fin M6 _ hm6 (fun b _ q => hw6 b (by omega)) (by omega) (fun M7 _ _ e2 => ⟨fun l' s h => (by rw [dX] at h; cases h), fun _ => by rw [e2]; omega⟩)
theorem xo_exam58 {d z u : Nat} {M : Nat → mq_C} {Q : (Option Value ⊕ Nat) → mq_S → Prop} {len : Nat} (hm : mz_sh mz_GG M) (hl : hv M 58 1 = (len : Int)) (hl2 : len ≤ 240) (hMO : M 1 = (60, mq_MO)) (hTL : xT M 24 288 xfL) (hTD : xT M 28 32 xfD) (K : ∀ M' : Nat → mq_C, mz_sh mz_GG M' → (∀ b, (b < 9 ∨ 24 ≤ b) → (b < 58 ∨ 68 < b ∨ b = 59) → M' b = M b) → hv M' 58 1 = (len : Int) → xEX 58 (hv M 59) len M' → Q (.inl none) (M', z, u)) : mq_R mq_PP (d + 6) 48 0 [some (.ref 58), some (.ref 9), none] [] (M, z, u) Q := by
  refine he_aload (n := 1) (i := 0) (by decide +kernel) rfl ?_
  refine he_getr (n := 4) (ci := 1) (j := 3) (ns := [1222, 26]) (b := 60) hm (by decide +kernel) rfl rfl (by decide +kernel) ?_
  refine he_v0 (n := 7) (j := 82) (ci := 7) (mx := 2) (ns := [3005, 3006, 3007, 51]) (by decide +kernel) ((hb_kd (a := 60) hm rfl).trans rfl) (by show 0 ≤ 8; omega) (by show 1 ≤ 2; omega) ?_
  rw [mq_e82]
  refine xo_clear58 (M0 := M) hm (fun _ _ => rfl) ?_
  intro M1 hV1 hz1
  show mq_R mq_PP (d + 6) 48 7 _ [] (M1, z, u) Q
  have k1 : ∀ b, b < 58 + 2 ∨ 58 + 4 < b → M1 b = M b := hV1.2.1
  refine he_aload (n := 8) (i := 0) (by decide +kernel) rfl ?_
  refine he_aload (n := 9) (i := 0) (by decide +kernel) rfl ?_
  refine he_v0 (n := 12) (j := 52) (ci := 1) (mx := 5) (ns := [3009, 3011, 13, 54]) (by decide +kernel) ((hb_kd (a := 58) hV1.1 rfl).trans rfl) (by show 1 ≤ 8; omega) (by show 1 ≤ 5; omega) ?_
  rw [mq_e52]
  refine xo_snd58 (len := len) hV1.1 ((hb_vc (k1 58 (by decide)) 1).trans hl) hl2 ?_
  intro M2 r2 hm2 w2 j2 s1 s0
  rw [show hv M1 59 = hv M 59 from funext fun t => hb_vc (k1 59 (by decide)) t] at s1 s0
  show mq_R mq_PP (d + 6) 48 12 _ [.int r2, .ref 58] (M2, z, u) Q
  have hr01 : r2.toInt = 0 ∨ r2.toInt = 1 := by
    cases hx : xsnd (hv M 59) len with
    | none => exact .inl (s0 hx)
    | some l => exact .inr (s1 l hx).1
  refine hb_pfd (n := 15) (ci := 1) (j := 2) (t := 1) (ns := [1220, 19]) hm2 (by decide +kernel) rfl rfl (by decide) (.inr ⟨rfl, he_01 (by omega)⟩) ?_
  generalize hMa1 : hb_set M2 58 2 r2 = Ma1
  have hma1 : mz_sh mz_GG Ma1 := by rw [← hMa1]; exact hb_set_sh hm2 rfl rfl (by omega) (by omega)
  have eMa1 : ∀ b j, b ≠ 58 ∨ j ≠ 2 → hv Ma1 b j = hv M2 b j := by intro b j h; rw [← hMa1]; exact hb_set_n h
  have sMa1 : hv Ma1 58 2 = r2.toInt := by rw [← hMa1]; exact hb_set_v hm2 rfl (by decide)
  have wMa1 : ∀ b, b ≠ 58 → Ma1 b = M2 b := by intro b h; rw [← hMa1]; exact hb_set_c h
  refine he_aload (n := 16) (i := 0) (by decide +kernel) rfl ?_
  refine hb_gfd (n := 19) (ci := 1) (j := 2) (ns := [1220, 19]) hma1 (by decide +kernel) rfl rfl (by decide) rfl ?_
  intro va16 hva16 lva16 uva16
  have q16 : va16.toInt = r2.toInt := hva16.symm.trans sMa1
  have c3 : ∀ b, (b < 58 ∨ 68 < b ∨ b = 59) → Ma1 b = M b := fun b hb => by rw [wMa1 b (by omega), w2 b (by omega) (by omega), k1 b (by omega)]
  have hM1 : Ma1 1 = (60, mq_MO) := (c3 1 (by decide)).trans hMO
  have hL1 : xT Ma1 24 288 xfL := ⟨fun b p q => by rw [hb_vc (c3 (24 + 1) (by decide))]; exact hTL.1 b p q, fun i p q => by rw [hb_vc (c3 (24 + 3) (by decide))]; exact hTL.2 i p q⟩
  have hD1 : xT Ma1 28 32 xfD := ⟨fun b p q => by rw [hb_vc (c3 (28 + 1) (by decide))]; exact hTD.1 b p q, fun i p q => by rw [hb_vc (c3 (28 + 3) (by decide))]; exact hTD.2 i p q⟩
  have a1 : hv Ma1 58 1 = (len : Int) := by rw [eMa1 _ _ (.inr (by decide)), j2 1 (by decide), hb_vc (k1 58 (by decide))]; exact hl
  have uP : ∀ b t, 60 ≤ b → b ≤ 62 → hv Ma1 b t = hv M1 b t := fun b t h1 h2 => by rw [hb_vc (wMa1 b (by omega)), hb_vc (w2 b (by omega) (by omega))]
  have uB : hv Ma1 59 = hv M 59 := funext fun t => hb_vc (c3 59 (by decide)) t
  cases hx : xsnd (hv M 59) len with
  | none =>
    have h0 := s0 hx
    refine he_ifeq_t (n := 22) (t := 31) (by decide +kernel) (by omega) ?_
    refine he_iconst (n := 32) (c := -1) (by decide +kernel) (by decide) ?_
    intro ca31 hca31
    refine he_istore (n := 33) (i := 2) (by decide +kernel) rfl ?_
    refine he_iload (n := 34) (i := 2) (by decide +kernel) rfl ?_
    refine he_iconst (n := 35) (c := -1) (by decide +kernel) (by decide) ?_
    intro ca34 hca34
    refine he_cmpeq_t (n := 38) (t := 74) (by decide +kernel) (by omega) ?_
    refine he_ret (by decide +kernel) ?_
    exact K Ma1 hma1 (fun b _ hb => c3 b hb) a1 ⟨fun l s h => (by unfold xrd at h; rw [hx] at h; cases h), fun _ => by rw [sMa1]; exact h0⟩
  | some l =>
    obtain ⟨h1, h4, h6, hc⟩ := s1 l hx
    have h4' : hv Ma1 58 4 = (l.length : Int) := (eMa1 _ _ (.inr (by decide))).trans h4
    have hc' : ∀ i, i < l.length → xcr Ma1 58 i = l.getD i xd0 := fun i hi => by rw [xcr_c (M := M2) (fun b _ _ => hb_vc (wMa1 b (by omega)) i)]; exact hc i hi
    refine he_ifeq_f (n := 22) (t := 31) (by decide +kernel) (by omega) ?_
    refine he_aload (n := 23) (i := 0) (by decide +kernel) rfl ?_
    refine he_iconst (n := 25) (c := 77) (by decide +kernel) (by decide) ?_
    intro ca23 hca23
    refine he_v1 (n := 28) (j := 51) (ci := 1) (mx := 3) (ns := [3030, 3032, 18, 58]) (by decide +kernel) ((hb_kd (a := 58) hma1 rfl).trans rfl) (by show 0 ≤ 8; omega) (by show 2 ≤ 3; omega) ?_
    rw [mq_e51]
    refine xo_rn58 (n := l.length) hma1 h4' ?_
    intro r3 hr3
    show mq_R mq_PP (d + 6) 48 28 _ [.int r3] (Ma1, z, u) Q
    rw [show ca23.toInt = 77 by omega] at hr3
    have hn : ∀ i, i < l.length → hv Ma1 63 i = (l.getD i xd0).1 := fun i hi => by rw [← hc' i hi]; rfl
    have dX : xrd (hv M 59) len = (match l.find? (fun r => decide (r.1 = 77)) with | none => some (l, xm0) | some r => match xcont (hv M 59) r with | none => none | some o => match xman (fun i => o.getD i 0) o.length with | none => none | some s => some (l, s)) := by
      unfold xrd
      rw [hx]
      rfl
    rcases hr3 with ⟨j, j1, j2', j3, j4⟩ | ⟨j1, j2'⟩
    rotate_left
    · rw [xo_fn l (fun i hi => by rw [← hn i hi]; exact j2' i hi)] at dX
      refine he_goto (t := 32) (by decide +kernel) ?_
      refine he_istore (n := 33) (i := 2) (by decide +kernel) rfl ?_
      refine he_iload (n := 34) (i := 2) (by decide +kernel) rfl ?_
      refine he_iconst (n := 35) (c := -1) (by decide +kernel) (by decide) ?_
      intro cb34 hcb34
      refine he_cmpeq_t (n := 38) (t := 74) (by decide +kernel) (by omega) ?_
      refine he_ret (by decide +kernel) ?_
      refine K Ma1 hma1 (fun b _ hb => c3 b hb) a1 ⟨fun l' s h => ?_, fun h => by rw [dX] at h; cases h⟩
      rw [dX] at h
      cases h
      exact ⟨by rw [sMa1]; exact h1, h4', hc', by rw [uP _ _ (by decide) (by decide)]; exact hz1, by rw [uP _ _ (by decide) (by decide)]; exact hV1.2.2.2.2.2.1, fun i hi => absurd hi (Nat.not_lt_zero i)⟩
    rw [xo_fd l j j1 (by rw [← hn j j1]; exact j3) (fun i hi => by rw [← hn i (by omega)]; exact j4 i hi)] at dX
    have dX : xrd (hv M 59) len = (match xcont (hv M 59) (l.getD j xd0) with | none => none | some o => match xman (fun i => o.getD i 0) o.length with | none => none | some s => some (l, s)) := dX
    refine he_goto (t := 32) (by decide +kernel) ?_
    refine he_istore (n := 33) (i := 2) (by decide +kernel) rfl ?_
    refine he_iload (n := 34) (i := 2) (by decide +kernel) rfl ?_
    refine he_iconst (n := 35) (c := -1) (by decide +kernel) (by decide) ?_
    intro cb34 hcb34
    refine he_cmpeq_f (n := 38) (t := 74) (by decide +kernel) (by omega) ?_
    refine he_aload (n := 39) (i := 0) (by decide +kernel) rfl ?_
    refine he_aload (n := 40) (i := 0) (by decide +kernel) rfl ?_
    refine he_iload (n := 41) (i := 2) (by decide +kernel) rfl ?_
    refine he_aload (n := 42) (i := 1) (by decide +kernel) rfl ?_
    refine he_v2 (n := 45) (j := 49) (ci := 1) (mx := 4) (ns := [3034, 3035, 3036, 62]) (by decide +kernel) ((hb_kd (a := 58) hma1 rfl).trans rfl) (by show 1 ≤ 8; omega) (by show 3 ≤ 4; omega) ?_
    rw [mq_e49]
    have hu : ∀ i, i < l.length → xut (xcr Ma1 58 i) ≤ 240 := fun i hi => by rw [hc' i hi]; have := xsnd_u hx _ (xo_gm hi); omega
    have ejj : r3.toInt.toNat = j := by omega
    refine xo_unp58 (n := l.length) hma1 h4' h6 hu hM1 hL1 hD1 (fun r hne _ => absurd ⟨by omega, by omega⟩ hne) ?_
    intro M5 r5 _ hm5 w5 t1 t0
    rw [ejj, hc' j j1, uB] at t1 t0
    show mq_R mq_PP (d + 6) 48 45 _ [.int r5, .ref 58] (M5, z, u) Q
    have c5 : ∀ b, (b < 9 ∨ 24 ≤ b) → (b < 58 ∨ 68 < b ∨ b = 59) → M5 b = M b := fun b p q => (w5 b p).trans (c3 b q)
    have fin : ∀ (M6 : Nat → mq_C) (v : Int32), mz_sh mz_GG M6 → (∀ b, (b < 9 ∨ 24 ≤ b) → (b < 60 ∨ 62 < b) → M6 b = M5 b) → (v.toInt = 0 ∨ v.toInt = 1) → (∀ M7 : Nat → mq_C, (∀ b, b ≠ 58 → M7 b = M6 b) → (∀ j, j ≠ 2 → hv M7 58 j = hv M6 58 j) → hv M7 58 2 = v.toInt → xEX 58 (hv M 59) len M7) → mq_R mq_PP (d + 6) 48 71 [some (.ref 58), some (.ref 9), some (.int r3)] [.int v, .ref 58] (M6, z, u) Q := by
      intro M6 v hm6 w6 hv01 hE
      refine hb_pfd (n := 74) (ci := 1) (j := 2) (t := 1) (ns := [1220, 19]) hm6 (by decide +kernel) rfl rfl (by decide) (.inr ⟨rfl, he_01 (by omega)⟩) ?_
      generalize hMc1 : hb_set M6 58 2 v = Mc1
      have hmc1 : mz_sh mz_GG Mc1 := by rw [← hMc1]; exact hb_set_sh hm6 rfl rfl (by omega) (by omega)
      have eMc1 : ∀ b j, b ≠ 58 ∨ j ≠ 2 → hv Mc1 b j = hv M6 b j := by intro b j h; rw [← hMc1]; exact hb_set_n h
      have sMc1 : hv Mc1 58 2 = v.toInt := by rw [← hMc1]; exact hb_set_v hm6 rfl (by decide)
      have wMc1 : ∀ b, b ≠ 58 → Mc1 b = M6 b := by intro b h; rw [← hMc1]; exact hb_set_c h
      refine he_ret (by decide +kernel) ?_
      refine K Mc1 hmc1 (fun b p q => ?_) ?_ (hE Mc1 wMc1 (fun j hj => eMc1 _ _ (.inr hj)) sMc1)
      · rw [wMc1 b (by omega), w6 b p (by omega)]
        exact c5 b p q
      · rw [eMc1 _ _ (.inr (by decide)), hb_vc (w6 58 (by decide) (by decide)), hb_vc (w5 58 (by decide))]
        exact a1
    cases hco : xcont (hv M 59) (l.getD j xd0) with
    | none =>
      have h5 := t0 hco
      rw [hco] at dX
      have dX : xrd (hv M 59) len = none := dX
      refine he_ifeq_t (n := 48) (t := 70) (by decide +kernel) (by omega) ?_
      refine he_iconst (n := 71) (c := 0) (by decide +kernel) (by decide) ?_
      intro cd70 hcd70
      refine fin M5 _ hm5 (fun _ _ _ => rfl) (by omega) (fun M7 _ _ e2 => ⟨fun l' s h => (by rw [dX] at h; cases h), fun _ => by rw [e2]; omega⟩)
    | some o =>
      obtain ⟨h5, g91, g200, g10⟩ := t1 o hco
      rw [hco] at dX
      have dX : xrd (hv M 59) len = (match xman (fun i => o.getD i 0) o.length with | none => none | some s => some (l, s)) := dX
      refine he_ifeq_f (n := 48) (t := 70) (by decide +kernel) (by omega) ?_
      refine he_aload (n := 49) (i := 0) (by decide +kernel) rfl ?_
      refine he_getr (n := 52) (ci := 1) (j := 3) (ns := [1222, 26]) (b := 60) hm5 (by decide +kernel) rfl rfl (by decide +kernel) ?_
      refine he_aload (n := 53) (i := 1) (by decide +kernel) rfl ?_
      refine he_getr (n := 56) (ci := 8) (j := 0) (ns := [1066, 66]) (b := 10) hm5 (by decide +kernel) rfl rfl (by decide +kernel) ?_
      refine he_aload (n := 57) (i := 1) (by decide +kernel) rfl ?_
      refine hb_gfd (n := 60) (ci := 8) (j := 1) (ns := [1069, 71]) hm5 (by decide +kernel) rfl rfl (by decide) rfl ?_
      intro vd57 hvd57 lvd57 uvd57
      have q57 : vd57.toInt = (o.length : Int) := by rw [← hvd57]; exact g91
      refine he_v2 (n := 63) (j := 83) (ci := 7) (mx := 5) (ns := [3040, 3041, 3042, 72]) (by decide +kernel) ((hb_kd (a := 60) hm5 rfl).trans rfl) (by show 1 ≤ 8; omega) (by show 3 ≤ 5; omega) ?_
      rw [mq_e83]
      have hV5 : xMV 58 M5 M5 xm0 := by
        obtain ⟨y1, y2, y3, y4, y5, y6, y7, y8, y9, y10⟩ := id hV1
        have uu : ∀ b t, 60 ≤ b → b ≤ 62 → hv M5 b t = hv M1 b t := fun b t p q => (hb_vc (w5 b (by omega)) t).trans (uP b t p q)
        refine ⟨hm5, fun _ _ => rfl, by rw [uu _ _ (by decide) (by decide)]; exact y3, by rw [uu _ _ (by decide) (by decide)]; exact y4, by rw [uu _ _ (by decide) (by decide)]; exact y5, by rw [uu _ _ (by decide) (by decide)]; exact y6, fun i hi => absurd hi (Nat.not_lt_zero i), ?_, y9, y10⟩
        rw [uu _ _ (by decide) (by decide), show (fun i => hv M5 (58 + 3) i) = fun i => hv M1 (58 + 3) i from funext fun i => uu _ _ (by decide) (by decide)]
        exact y8
      have eT : xman (hv M5 10) o.length = xman (fun i => o.getD i 0) o.length := xman_c (fun k hk => g10 k hk)
      refine xo_read58 (M0 := M5) (len := o.length) q57 g200 hV5 ?_ ?_
      · intro M6 r6 s hx6 hr6 hV6 hz6
        rw [eT] at hx6
        rw [hx6] at dX
        show mq_R mq_PP (d + 6) 48 63 _ [.int r6, .ref 58] (M6, z, u) Q
        refine he_ifeq_f (n := 66) (t := 70) (by decide +kernel) (by omega) ?_
        refine he_iconst (n := 67) (c := 1) (by decide +kernel) (by decide) ?_
        intro ce66 hce66
        refine he_goto (t := 71) (by decide +kernel) ?_
        refine fin M6 _ hV6.1 (fun b _ q => hV6.2.1 b (by omega)) (by omega) (fun M7 e0 e1 e2 => ⟨fun l' s' h => ?_, fun h => by rw [dX] at h; cases h⟩)
        rw [dX] at h
        cases h
        have f6 : ∀ b t, (b < 9 ∨ 24 ≤ b) → b < 58 + 2 ∨ 58 + 4 < b → hv M6 b t = hv Ma1 b t := fun b t p q => (hb_vc (hV6.2.1 b q) t).trans (hb_vc (w5 b p) t)
        refine ⟨by rw [e2]; omega, by rw [e1 4 (by decide), f6 _ _ (by decide) (by decide)]; exact h4', fun i hi => ?_, by rw [hb_vc (e0 _ (by decide))]; exact hz6, by rw [hb_vc (e0 _ (by decide))]; exact hV6.2.2.2.2.2.1, fun i hi => by rw [hb_vc (e0 _ (by decide))]; exact hV6.2.2.2.2.2.2.1 i hi⟩
        rw [xcr_c (M := Ma1) (fun b p q => by rw [hb_vc (e0 b (by omega)), f6 b i (by omega) (by omega)])]
        exact hc' i hi
      · intro M6 r6 hx6 hr6 hm6 hw6
        rw [eT] at hx6
        rw [hx6] at dX
        show mq_R mq_PP (d + 6) 48 63 _ [.int r6, .ref 58] (M6, z, u) Q
        refine he_ifeq_t (n := 66) (t := 70) (by decide +kernel) (by omega) ?_
        refine he_iconst (n := 71) (c := 0) (by decide +kernel) (by decide) ?_
        intro ce70 hce70
        exact fin M6 _ hm6 (fun b _ q => hw6 b (by omega)) (by omega) (fun M7 _ _ e2 => ⟨fun l' s h => (by rw [dX] at h; cases h), fun _ => by rw [e2]; omega⟩)
theorem xo_exam69 {d z u : Nat} {M : Nat → mq_C} {Q : (Option Value ⊕ Nat) → mq_S → Prop} {len : Nat} (hm : mz_sh mz_GG M) (hl : hv M 69 1 = (len : Int)) (hl2 : len ≤ 240) (hMO : M 1 = (60, mq_MO)) (hTL : xT M 24 288 xfL) (hTD : xT M 28 32 xfD) (K : ∀ M' : Nat → mq_C, mz_sh mz_GG M' → (∀ b, (b < 9 ∨ 24 ≤ b) → (b < 69 ∨ 79 < b ∨ b = 70) → M' b = M b) → hv M' 69 1 = (len : Int) → xEX 69 (hv M 70) len M' → Q (.inl none) (M', z, u)) : mq_R mq_PP (d + 6) 48 0 [some (.ref 69), some (.ref 9), none] [] (M, z, u) Q := by
  refine he_aload (n := 1) (i := 0) (by decide +kernel) rfl ?_
  refine he_getr (n := 4) (ci := 1) (j := 3) (ns := [1222, 26]) (b := 71) hm (by decide +kernel) rfl rfl (by decide +kernel) ?_
  refine he_v0 (n := 7) (j := 82) (ci := 7) (mx := 2) (ns := [3005, 3006, 3007, 51]) (by decide +kernel) ((hb_kd (a := 71) hm rfl).trans rfl) (by show 0 ≤ 8; omega) (by show 1 ≤ 2; omega) ?_
  rw [mq_e82]
  refine xo_clear69 (M0 := M) hm (fun _ _ => rfl) ?_
  intro M1 hV1 hz1
  show mq_R mq_PP (d + 6) 48 7 _ [] (M1, z, u) Q
  have k1 : ∀ b, b < 69 + 2 ∨ 69 + 4 < b → M1 b = M b := hV1.2.1
  refine he_aload (n := 8) (i := 0) (by decide +kernel) rfl ?_
  refine he_aload (n := 9) (i := 0) (by decide +kernel) rfl ?_
  refine he_v0 (n := 12) (j := 52) (ci := 1) (mx := 5) (ns := [3009, 3011, 13, 54]) (by decide +kernel) ((hb_kd (a := 69) hV1.1 rfl).trans rfl) (by show 1 ≤ 8; omega) (by show 1 ≤ 5; omega) ?_
  rw [mq_e52]
  refine xo_snd69 (len := len) hV1.1 ((hb_vc (k1 69 (by decide)) 1).trans hl) hl2 ?_
  intro M2 r2 hm2 w2 j2 s1 s0
  rw [show hv M1 70 = hv M 70 from funext fun t => hb_vc (k1 70 (by decide)) t] at s1 s0
  show mq_R mq_PP (d + 6) 48 12 _ [.int r2, .ref 69] (M2, z, u) Q
  have hr01 : r2.toInt = 0 ∨ r2.toInt = 1 := by
    cases hx : xsnd (hv M 70) len with
    | none => exact .inl (s0 hx)
    | some l => exact .inr (s1 l hx).1
  refine hb_pfd (n := 15) (ci := 1) (j := 2) (t := 1) (ns := [1220, 19]) hm2 (by decide +kernel) rfl rfl (by decide) (.inr ⟨rfl, he_01 (by omega)⟩) ?_
  generalize hMa1 : hb_set M2 69 2 r2 = Ma1
  have hma1 : mz_sh mz_GG Ma1 := by rw [← hMa1]; exact hb_set_sh hm2 rfl rfl (by omega) (by omega)
  have eMa1 : ∀ b j, b ≠ 69 ∨ j ≠ 2 → hv Ma1 b j = hv M2 b j := by intro b j h; rw [← hMa1]; exact hb_set_n h
  have sMa1 : hv Ma1 69 2 = r2.toInt := by rw [← hMa1]; exact hb_set_v hm2 rfl (by decide)
  have wMa1 : ∀ b, b ≠ 69 → Ma1 b = M2 b := by intro b h; rw [← hMa1]; exact hb_set_c h
  refine he_aload (n := 16) (i := 0) (by decide +kernel) rfl ?_
  refine hb_gfd (n := 19) (ci := 1) (j := 2) (ns := [1220, 19]) hma1 (by decide +kernel) rfl rfl (by decide) rfl ?_
  intro va16 hva16 lva16 uva16
  have q16 : va16.toInt = r2.toInt := hva16.symm.trans sMa1
  have c3 : ∀ b, (b < 69 ∨ 79 < b ∨ b = 70) → Ma1 b = M b := fun b hb => by rw [wMa1 b (by omega), w2 b (by omega) (by omega), k1 b (by omega)]
  have hM1 : Ma1 1 = (60, mq_MO) := (c3 1 (by decide)).trans hMO
  have hL1 : xT Ma1 24 288 xfL := ⟨fun b p q => by rw [hb_vc (c3 (24 + 1) (by decide))]; exact hTL.1 b p q, fun i p q => by rw [hb_vc (c3 (24 + 3) (by decide))]; exact hTL.2 i p q⟩
  have hD1 : xT Ma1 28 32 xfD := ⟨fun b p q => by rw [hb_vc (c3 (28 + 1) (by decide))]; exact hTD.1 b p q, fun i p q => by rw [hb_vc (c3 (28 + 3) (by decide))]; exact hTD.2 i p q⟩
  have a1 : hv Ma1 69 1 = (len : Int) := by rw [eMa1 _ _ (.inr (by decide)), j2 1 (by decide), hb_vc (k1 69 (by decide))]; exact hl
  have uP : ∀ b t, 71 ≤ b → b ≤ 73 → hv Ma1 b t = hv M1 b t := fun b t h1 h2 => by rw [hb_vc (wMa1 b (by omega)), hb_vc (w2 b (by omega) (by omega))]
  have uB : hv Ma1 70 = hv M 70 := funext fun t => hb_vc (c3 70 (by decide)) t
  cases hx : xsnd (hv M 70) len with
  | none =>
    have h0 := s0 hx
    refine he_ifeq_t (n := 22) (t := 31) (by decide +kernel) (by omega) ?_
    refine he_iconst (n := 32) (c := -1) (by decide +kernel) (by decide) ?_
    intro ca31 hca31
    refine he_istore (n := 33) (i := 2) (by decide +kernel) rfl ?_
    refine he_iload (n := 34) (i := 2) (by decide +kernel) rfl ?_
    refine he_iconst (n := 35) (c := -1) (by decide +kernel) (by decide) ?_
    intro ca34 hca34
    refine he_cmpeq_t (n := 38) (t := 74) (by decide +kernel) (by omega) ?_
    refine he_ret (by decide +kernel) ?_
    exact K Ma1 hma1 (fun b _ hb => c3 b hb) a1 ⟨fun l s h => (by unfold xrd at h; rw [hx] at h; cases h), fun _ => by rw [sMa1]; exact h0⟩
  | some l =>
    obtain ⟨h1, h4, h6, hc⟩ := s1 l hx
    have h4' : hv Ma1 69 4 = (l.length : Int) := (eMa1 _ _ (.inr (by decide))).trans h4
    have hc' : ∀ i, i < l.length → xcr Ma1 69 i = l.getD i xd0 := fun i hi => by rw [xcr_c (M := M2) (fun b _ _ => hb_vc (wMa1 b (by omega)) i)]; exact hc i hi
    refine he_ifeq_f (n := 22) (t := 31) (by decide +kernel) (by omega) ?_
    refine he_aload (n := 23) (i := 0) (by decide +kernel) rfl ?_
    refine he_iconst (n := 25) (c := 77) (by decide +kernel) (by decide) ?_
    intro ca23 hca23
    refine he_v1 (n := 28) (j := 51) (ci := 1) (mx := 3) (ns := [3030, 3032, 18, 58]) (by decide +kernel) ((hb_kd (a := 69) hma1 rfl).trans rfl) (by show 0 ≤ 8; omega) (by show 2 ≤ 3; omega) ?_
    rw [mq_e51]
    refine xo_rn69 (n := l.length) hma1 h4' ?_
    intro r3 hr3
    show mq_R mq_PP (d + 6) 48 28 _ [.int r3] (Ma1, z, u) Q
    rw [show ca23.toInt = 77 by omega] at hr3
    have hn : ∀ i, i < l.length → hv Ma1 74 i = (l.getD i xd0).1 := fun i hi => by rw [← hc' i hi]; rfl
    have dX : xrd (hv M 70) len = (match l.find? (fun r => decide (r.1 = 77)) with | none => some (l, xm0) | some r => match xcont (hv M 70) r with | none => none | some o => match xman (fun i => o.getD i 0) o.length with | none => none | some s => some (l, s)) := by
      unfold xrd
      rw [hx]
      rfl
    rcases hr3 with ⟨j, j1, j2', j3, j4⟩ | ⟨j1, j2'⟩
    rotate_left
    · rw [xo_fn l (fun i hi => by rw [← hn i hi]; exact j2' i hi)] at dX
      refine he_goto (t := 32) (by decide +kernel) ?_
      refine he_istore (n := 33) (i := 2) (by decide +kernel) rfl ?_
      refine he_iload (n := 34) (i := 2) (by decide +kernel) rfl ?_
      refine he_iconst (n := 35) (c := -1) (by decide +kernel) (by decide) ?_
      intro cb34 hcb34
      refine he_cmpeq_t (n := 38) (t := 74) (by decide +kernel) (by omega) ?_
      refine he_ret (by decide +kernel) ?_
      refine K Ma1 hma1 (fun b _ hb => c3 b hb) a1 ⟨fun l' s h => ?_, fun h => by rw [dX] at h; cases h⟩
      rw [dX] at h
      cases h
      exact ⟨by rw [sMa1]; exact h1, h4', hc', by rw [uP _ _ (by decide) (by decide)]; exact hz1, by rw [uP _ _ (by decide) (by decide)]; exact hV1.2.2.2.2.2.1, fun i hi => absurd hi (Nat.not_lt_zero i)⟩
    rw [xo_fd l j j1 (by rw [← hn j j1]; exact j3) (fun i hi => by rw [← hn i (by omega)]; exact j4 i hi)] at dX
    have dX : xrd (hv M 70) len = (match xcont (hv M 70) (l.getD j xd0) with | none => none | some o => match xman (fun i => o.getD i 0) o.length with | none => none | some s => some (l, s)) := dX
    refine he_goto (t := 32) (by decide +kernel) ?_
    refine he_istore (n := 33) (i := 2) (by decide +kernel) rfl ?_
    refine he_iload (n := 34) (i := 2) (by decide +kernel) rfl ?_
    refine he_iconst (n := 35) (c := -1) (by decide +kernel) (by decide) ?_
    intro cb34 hcb34
    refine he_cmpeq_f (n := 38) (t := 74) (by decide +kernel) (by omega) ?_
    refine he_aload (n := 39) (i := 0) (by decide +kernel) rfl ?_
    refine he_aload (n := 40) (i := 0) (by decide +kernel) rfl ?_
    refine he_iload (n := 41) (i := 2) (by decide +kernel) rfl ?_
    refine he_aload (n := 42) (i := 1) (by decide +kernel) rfl ?_
    refine he_v2 (n := 45) (j := 49) (ci := 1) (mx := 4) (ns := [3034, 3035, 3036, 62]) (by decide +kernel) ((hb_kd (a := 69) hma1 rfl).trans rfl) (by show 1 ≤ 8; omega) (by show 3 ≤ 4; omega) ?_
    rw [mq_e49]
    have hu : ∀ i, i < l.length → xut (xcr Ma1 69 i) ≤ 240 := fun i hi => by rw [hc' i hi]; have := xsnd_u hx _ (xo_gm hi); omega
    have ejj : r3.toInt.toNat = j := by omega
    refine xo_unp69 (n := l.length) hma1 h4' h6 hu hM1 hL1 hD1 (fun r hne _ => absurd ⟨by omega, by omega⟩ hne) ?_
    intro M5 r5 _ hm5 w5 t1 t0
    rw [ejj, hc' j j1, uB] at t1 t0
    show mq_R mq_PP (d + 6) 48 45 _ [.int r5, .ref 69] (M5, z, u) Q
    have c5 : ∀ b, (b < 9 ∨ 24 ≤ b) → (b < 69 ∨ 79 < b ∨ b = 70) → M5 b = M b := fun b p q => (w5 b p).trans (c3 b q)
    have fin : ∀ (M6 : Nat → mq_C) (v : Int32), mz_sh mz_GG M6 → (∀ b, (b < 9 ∨ 24 ≤ b) → (b < 71 ∨ 73 < b) → M6 b = M5 b) → (v.toInt = 0 ∨ v.toInt = 1) → (∀ M7 : Nat → mq_C, (∀ b, b ≠ 69 → M7 b = M6 b) → (∀ j, j ≠ 2 → hv M7 69 j = hv M6 69 j) → hv M7 69 2 = v.toInt → xEX 69 (hv M 70) len M7) → mq_R mq_PP (d + 6) 48 71 [some (.ref 69), some (.ref 9), some (.int r3)] [.int v, .ref 69] (M6, z, u) Q := by
      intro M6 v hm6 w6 hv01 hE
      refine hb_pfd (n := 74) (ci := 1) (j := 2) (t := 1) (ns := [1220, 19]) hm6 (by decide +kernel) rfl rfl (by decide) (.inr ⟨rfl, he_01 (by omega)⟩) ?_
      generalize hMc1 : hb_set M6 69 2 v = Mc1
      have hmc1 : mz_sh mz_GG Mc1 := by rw [← hMc1]; exact hb_set_sh hm6 rfl rfl (by omega) (by omega)
      have eMc1 : ∀ b j, b ≠ 69 ∨ j ≠ 2 → hv Mc1 b j = hv M6 b j := by intro b j h; rw [← hMc1]; exact hb_set_n h
      have sMc1 : hv Mc1 69 2 = v.toInt := by rw [← hMc1]; exact hb_set_v hm6 rfl (by decide)
      have wMc1 : ∀ b, b ≠ 69 → Mc1 b = M6 b := by intro b h; rw [← hMc1]; exact hb_set_c h
      refine he_ret (by decide +kernel) ?_
      refine K Mc1 hmc1 (fun b p q => ?_) ?_ (hE Mc1 wMc1 (fun j hj => eMc1 _ _ (.inr hj)) sMc1)
      · rw [wMc1 b (by omega), w6 b p (by omega)]
        exact c5 b p q
      · rw [eMc1 _ _ (.inr (by decide)), hb_vc (w6 69 (by decide) (by decide)), hb_vc (w5 69 (by decide))]
        exact a1
    cases hco : xcont (hv M 70) (l.getD j xd0) with
    | none =>
      have h5 := t0 hco
      rw [hco] at dX
      have dX : xrd (hv M 70) len = none := dX
      refine he_ifeq_t (n := 48) (t := 70) (by decide +kernel) (by omega) ?_
      refine he_iconst (n := 71) (c := 0) (by decide +kernel) (by decide) ?_
      intro cd70 hcd70
      refine fin M5 _ hm5 (fun _ _ _ => rfl) (by omega) (fun M7 _ _ e2 => ⟨fun l' s h => (by rw [dX] at h; cases h), fun _ => by rw [e2]; omega⟩)
    | some o =>
      obtain ⟨h5, g91, g200, g10⟩ := t1 o hco
      rw [hco] at dX
      have dX : xrd (hv M 70) len = (match xman (fun i => o.getD i 0) o.length with | none => none | some s => some (l, s)) := dX
      refine he_ifeq_f (n := 48) (t := 70) (by decide +kernel) (by omega) ?_
      refine he_aload (n := 49) (i := 0) (by decide +kernel) rfl ?_
      refine he_getr (n := 52) (ci := 1) (j := 3) (ns := [1222, 26]) (b := 71) hm5 (by decide +kernel) rfl rfl (by decide +kernel) ?_
      refine he_aload (n := 53) (i := 1) (by decide +kernel) rfl ?_
      refine he_getr (n := 56) (ci := 8) (j := 0) (ns := [1066, 66]) (b := 10) hm5 (by decide +kernel) rfl rfl (by decide +kernel) ?_
      refine he_aload (n := 57) (i := 1) (by decide +kernel) rfl ?_
      refine hb_gfd (n := 60) (ci := 8) (j := 1) (ns := [1069, 71]) hm5 (by decide +kernel) rfl rfl (by decide) rfl ?_
      intro vd57 hvd57 lvd57 uvd57
      have q57 : vd57.toInt = (o.length : Int) := by rw [← hvd57]; exact g91
      refine he_v2 (n := 63) (j := 83) (ci := 7) (mx := 5) (ns := [3040, 3041, 3042, 72]) (by decide +kernel) ((hb_kd (a := 71) hm5 rfl).trans rfl) (by show 1 ≤ 8; omega) (by show 3 ≤ 5; omega) ?_
      rw [mq_e83]
      have hV5 : xMV 69 M5 M5 xm0 := by
        obtain ⟨y1, y2, y3, y4, y5, y6, y7, y8, y9, y10⟩ := id hV1
        have uu : ∀ b t, 71 ≤ b → b ≤ 73 → hv M5 b t = hv M1 b t := fun b t p q => (hb_vc (w5 b (by omega)) t).trans (uP b t p q)
        refine ⟨hm5, fun _ _ => rfl, by rw [uu _ _ (by decide) (by decide)]; exact y3, by rw [uu _ _ (by decide) (by decide)]; exact y4, by rw [uu _ _ (by decide) (by decide)]; exact y5, by rw [uu _ _ (by decide) (by decide)]; exact y6, fun i hi => absurd hi (Nat.not_lt_zero i), ?_, y9, y10⟩
        rw [uu _ _ (by decide) (by decide), show (fun i => hv M5 (69 + 3) i) = fun i => hv M1 (69 + 3) i from funext fun i => uu _ _ (by decide) (by decide)]
        exact y8
      have eT : xman (hv M5 10) o.length = xman (fun i => o.getD i 0) o.length := xman_c (fun k hk => g10 k hk)
      refine xo_read69 (M0 := M5) (len := o.length) q57 g200 hV5 ?_ ?_
      · intro M6 r6 s hx6 hr6 hV6 hz6
        rw [eT] at hx6
        rw [hx6] at dX
        show mq_R mq_PP (d + 6) 48 63 _ [.int r6, .ref 69] (M6, z, u) Q
        refine he_ifeq_f (n := 66) (t := 70) (by decide +kernel) (by omega) ?_
        refine he_iconst (n := 67) (c := 1) (by decide +kernel) (by decide) ?_
        intro ce66 hce66
        refine he_goto (t := 71) (by decide +kernel) ?_
        refine fin M6 _ hV6.1 (fun b _ q => hV6.2.1 b (by omega)) (by omega) (fun M7 e0 e1 e2 => ⟨fun l' s' h => ?_, fun h => by rw [dX] at h; cases h⟩)
        rw [dX] at h
        cases h
        have f6 : ∀ b t, (b < 9 ∨ 24 ≤ b) → b < 69 + 2 ∨ 69 + 4 < b → hv M6 b t = hv Ma1 b t := fun b t p q => (hb_vc (hV6.2.1 b q) t).trans (hb_vc (w5 b p) t)
        refine ⟨by rw [e2]; omega, by rw [e1 4 (by decide), f6 _ _ (by decide) (by decide)]; exact h4', fun i hi => ?_, by rw [hb_vc (e0 _ (by decide))]; exact hz6, by rw [hb_vc (e0 _ (by decide))]; exact hV6.2.2.2.2.2.1, fun i hi => by rw [hb_vc (e0 _ (by decide))]; exact hV6.2.2.2.2.2.2.1 i hi⟩
        rw [xcr_c (M := Ma1) (fun b p q => by rw [hb_vc (e0 b (by omega)), f6 b i (by omega) (by omega)])]
        exact hc' i hi
      · intro M6 r6 hx6 hr6 hm6 hw6
        rw [eT] at hx6
        rw [hx6] at dX
        show mq_R mq_PP (d + 6) 48 63 _ [.int r6, .ref 69] (M6, z, u) Q
        refine he_ifeq_t (n := 66) (t := 70) (by decide +kernel) (by omega) ?_
        refine he_iconst (n := 71) (c := 0) (by decide +kernel) (by decide) ?_
        intro ce70 hce70
        exact fin M6 _ hm6 (fun b _ q => hw6 b (by omega)) (by omega) (fun M7 _ _ e2 => ⟨fun l' s h => (by rw [dX] at h; cases h), fun _ => by rw [e2]; omega⟩)
theorem xo_exam80 {d z u : Nat} {M : Nat → mq_C} {Q : (Option Value ⊕ Nat) → mq_S → Prop} {len : Nat} (hm : mz_sh mz_GG M) (hl : hv M 80 1 = (len : Int)) (hl2 : len ≤ 240) (hMO : M 1 = (60, mq_MO)) (hTL : xT M 24 288 xfL) (hTD : xT M 28 32 xfD) (K : ∀ M' : Nat → mq_C, mz_sh mz_GG M' → (∀ b, (b < 9 ∨ 24 ≤ b) → (b < 80 ∨ 90 < b ∨ b = 81) → M' b = M b) → hv M' 80 1 = (len : Int) → xEX 80 (hv M 81) len M' → Q (.inl none) (M', z, u)) : mq_R mq_PP (d + 6) 48 0 [some (.ref 80), some (.ref 9), none] [] (M, z, u) Q := by
  refine he_aload (n := 1) (i := 0) (by decide +kernel) rfl ?_
  refine he_getr (n := 4) (ci := 1) (j := 3) (ns := [1222, 26]) (b := 82) hm (by decide +kernel) rfl rfl (by decide +kernel) ?_
  refine he_v0 (n := 7) (j := 82) (ci := 7) (mx := 2) (ns := [3005, 3006, 3007, 51]) (by decide +kernel) ((hb_kd (a := 82) hm rfl).trans rfl) (by show 0 ≤ 8; omega) (by show 1 ≤ 2; omega) ?_
  rw [mq_e82]
  refine xo_clear80 (M0 := M) hm (fun _ _ => rfl) ?_
  intro M1 hV1 hz1
  show mq_R mq_PP (d + 6) 48 7 _ [] (M1, z, u) Q
  have k1 : ∀ b, b < 80 + 2 ∨ 80 + 4 < b → M1 b = M b := hV1.2.1
  refine he_aload (n := 8) (i := 0) (by decide +kernel) rfl ?_
  refine he_aload (n := 9) (i := 0) (by decide +kernel) rfl ?_
  refine he_v0 (n := 12) (j := 52) (ci := 1) (mx := 5) (ns := [3009, 3011, 13, 54]) (by decide +kernel) ((hb_kd (a := 80) hV1.1 rfl).trans rfl) (by show 1 ≤ 8; omega) (by show 1 ≤ 5; omega) ?_
  rw [mq_e52]
  refine xo_snd80 (len := len) hV1.1 ((hb_vc (k1 80 (by decide)) 1).trans hl) hl2 ?_
  intro M2 r2 hm2 w2 j2 s1 s0
  rw [show hv M1 81 = hv M 81 from funext fun t => hb_vc (k1 81 (by decide)) t] at s1 s0
  show mq_R mq_PP (d + 6) 48 12 _ [.int r2, .ref 80] (M2, z, u) Q
  have hr01 : r2.toInt = 0 ∨ r2.toInt = 1 := by
    cases hx : xsnd (hv M 81) len with
    | none => exact .inl (s0 hx)
    | some l => exact .inr (s1 l hx).1
  refine hb_pfd (n := 15) (ci := 1) (j := 2) (t := 1) (ns := [1220, 19]) hm2 (by decide +kernel) rfl rfl (by decide) (.inr ⟨rfl, he_01 (by omega)⟩) ?_
  generalize hMa1 : hb_set M2 80 2 r2 = Ma1
  have hma1 : mz_sh mz_GG Ma1 := by rw [← hMa1]; exact hb_set_sh hm2 rfl rfl (by omega) (by omega)
  have eMa1 : ∀ b j, b ≠ 80 ∨ j ≠ 2 → hv Ma1 b j = hv M2 b j := by intro b j h; rw [← hMa1]; exact hb_set_n h
  have sMa1 : hv Ma1 80 2 = r2.toInt := by rw [← hMa1]; exact hb_set_v hm2 rfl (by decide)
  have wMa1 : ∀ b, b ≠ 80 → Ma1 b = M2 b := by intro b h; rw [← hMa1]; exact hb_set_c h
  refine he_aload (n := 16) (i := 0) (by decide +kernel) rfl ?_
  refine hb_gfd (n := 19) (ci := 1) (j := 2) (ns := [1220, 19]) hma1 (by decide +kernel) rfl rfl (by decide) rfl ?_
  intro va16 hva16 lva16 uva16
  have q16 : va16.toInt = r2.toInt := hva16.symm.trans sMa1
  have c3 : ∀ b, (b < 80 ∨ 90 < b ∨ b = 81) → Ma1 b = M b := fun b hb => by rw [wMa1 b (by omega), w2 b (by omega) (by omega), k1 b (by omega)]
  have hM1 : Ma1 1 = (60, mq_MO) := (c3 1 (by decide)).trans hMO
  have hL1 : xT Ma1 24 288 xfL := ⟨fun b p q => by rw [hb_vc (c3 (24 + 1) (by decide))]; exact hTL.1 b p q, fun i p q => by rw [hb_vc (c3 (24 + 3) (by decide))]; exact hTL.2 i p q⟩
  have hD1 : xT Ma1 28 32 xfD := ⟨fun b p q => by rw [hb_vc (c3 (28 + 1) (by decide))]; exact hTD.1 b p q, fun i p q => by rw [hb_vc (c3 (28 + 3) (by decide))]; exact hTD.2 i p q⟩
  have a1 : hv Ma1 80 1 = (len : Int) := by rw [eMa1 _ _ (.inr (by decide)), j2 1 (by decide), hb_vc (k1 80 (by decide))]; exact hl
  have uP : ∀ b t, 82 ≤ b → b ≤ 84 → hv Ma1 b t = hv M1 b t := fun b t h1 h2 => by rw [hb_vc (wMa1 b (by omega)), hb_vc (w2 b (by omega) (by omega))]
  have uB : hv Ma1 81 = hv M 81 := funext fun t => hb_vc (c3 81 (by decide)) t
  cases hx : xsnd (hv M 81) len with
  | none =>
    have h0 := s0 hx
    refine he_ifeq_t (n := 22) (t := 31) (by decide +kernel) (by omega) ?_
    refine he_iconst (n := 32) (c := -1) (by decide +kernel) (by decide) ?_
    intro ca31 hca31
    refine he_istore (n := 33) (i := 2) (by decide +kernel) rfl ?_
    refine he_iload (n := 34) (i := 2) (by decide +kernel) rfl ?_
    refine he_iconst (n := 35) (c := -1) (by decide +kernel) (by decide) ?_
    intro ca34 hca34
    refine he_cmpeq_t (n := 38) (t := 74) (by decide +kernel) (by omega) ?_
    refine he_ret (by decide +kernel) ?_
    exact K Ma1 hma1 (fun b _ hb => c3 b hb) a1 ⟨fun l s h => (by unfold xrd at h; rw [hx] at h; cases h), fun _ => by rw [sMa1]; exact h0⟩
  | some l =>
    obtain ⟨h1, h4, h6, hc⟩ := s1 l hx
    have h4' : hv Ma1 80 4 = (l.length : Int) := (eMa1 _ _ (.inr (by decide))).trans h4
    have hc' : ∀ i, i < l.length → xcr Ma1 80 i = l.getD i xd0 := fun i hi => by rw [xcr_c (M := M2) (fun b _ _ => hb_vc (wMa1 b (by omega)) i)]; exact hc i hi
    refine he_ifeq_f (n := 22) (t := 31) (by decide +kernel) (by omega) ?_
    refine he_aload (n := 23) (i := 0) (by decide +kernel) rfl ?_
    refine he_iconst (n := 25) (c := 77) (by decide +kernel) (by decide) ?_
    intro ca23 hca23
    refine he_v1 (n := 28) (j := 51) (ci := 1) (mx := 3) (ns := [3030, 3032, 18, 58]) (by decide +kernel) ((hb_kd (a := 80) hma1 rfl).trans rfl) (by show 0 ≤ 8; omega) (by show 2 ≤ 3; omega) ?_
    rw [mq_e51]
    refine xo_rn80 (n := l.length) hma1 h4' ?_
    intro r3 hr3
    show mq_R mq_PP (d + 6) 48 28 _ [.int r3] (Ma1, z, u) Q
    rw [show ca23.toInt = 77 by omega] at hr3
    have hn : ∀ i, i < l.length → hv Ma1 85 i = (l.getD i xd0).1 := fun i hi => by rw [← hc' i hi]; rfl
    have dX : xrd (hv M 81) len = (match l.find? (fun r => decide (r.1 = 77)) with | none => some (l, xm0) | some r => match xcont (hv M 81) r with | none => none | some o => match xman (fun i => o.getD i 0) o.length with | none => none | some s => some (l, s)) := by
      unfold xrd
      rw [hx]
      rfl
    rcases hr3 with ⟨j, j1, j2', j3, j4⟩ | ⟨j1, j2'⟩
    rotate_left
    · rw [xo_fn l (fun i hi => by rw [← hn i hi]; exact j2' i hi)] at dX
      refine he_goto (t := 32) (by decide +kernel) ?_
      refine he_istore (n := 33) (i := 2) (by decide +kernel) rfl ?_
      refine he_iload (n := 34) (i := 2) (by decide +kernel) rfl ?_
      refine he_iconst (n := 35) (c := -1) (by decide +kernel) (by decide) ?_
      intro cb34 hcb34
      refine he_cmpeq_t (n := 38) (t := 74) (by decide +kernel) (by omega) ?_
      refine he_ret (by decide +kernel) ?_
      refine K Ma1 hma1 (fun b _ hb => c3 b hb) a1 ⟨fun l' s h => ?_, fun h => by rw [dX] at h; cases h⟩
      rw [dX] at h
      cases h
      exact ⟨by rw [sMa1]; exact h1, h4', hc', by rw [uP _ _ (by decide) (by decide)]; exact hz1, by rw [uP _ _ (by decide) (by decide)]; exact hV1.2.2.2.2.2.1, fun i hi => absurd hi (Nat.not_lt_zero i)⟩
    rw [xo_fd l j j1 (by rw [← hn j j1]; exact j3) (fun i hi => by rw [← hn i (by omega)]; exact j4 i hi)] at dX
    have dX : xrd (hv M 81) len = (match xcont (hv M 81) (l.getD j xd0) with | none => none | some o => match xman (fun i => o.getD i 0) o.length with | none => none | some s => some (l, s)) := dX
    refine he_goto (t := 32) (by decide +kernel) ?_
    refine he_istore (n := 33) (i := 2) (by decide +kernel) rfl ?_
    refine he_iload (n := 34) (i := 2) (by decide +kernel) rfl ?_
    refine he_iconst (n := 35) (c := -1) (by decide +kernel) (by decide) ?_
    intro cb34 hcb34
    refine he_cmpeq_f (n := 38) (t := 74) (by decide +kernel) (by omega) ?_
    refine he_aload (n := 39) (i := 0) (by decide +kernel) rfl ?_
    refine he_aload (n := 40) (i := 0) (by decide +kernel) rfl ?_
    refine he_iload (n := 41) (i := 2) (by decide +kernel) rfl ?_
    refine he_aload (n := 42) (i := 1) (by decide +kernel) rfl ?_
    refine he_v2 (n := 45) (j := 49) (ci := 1) (mx := 4) (ns := [3034, 3035, 3036, 62]) (by decide +kernel) ((hb_kd (a := 80) hma1 rfl).trans rfl) (by show 1 ≤ 8; omega) (by show 3 ≤ 4; omega) ?_
    rw [mq_e49]
    have hu : ∀ i, i < l.length → xut (xcr Ma1 80 i) ≤ 240 := fun i hi => by rw [hc' i hi]; have := xsnd_u hx _ (xo_gm hi); omega
    have ejj : r3.toInt.toNat = j := by omega
    refine xo_unp80 (n := l.length) hma1 h4' h6 hu hM1 hL1 hD1 (fun r hne _ => absurd ⟨by omega, by omega⟩ hne) ?_
    intro M5 r5 _ hm5 w5 t1 t0
    rw [ejj, hc' j j1, uB] at t1 t0
    show mq_R mq_PP (d + 6) 48 45 _ [.int r5, .ref 80] (M5, z, u) Q
    have c5 : ∀ b, (b < 9 ∨ 24 ≤ b) → (b < 80 ∨ 90 < b ∨ b = 81) → M5 b = M b := fun b p q => (w5 b p).trans (c3 b q)
    have fin : ∀ (M6 : Nat → mq_C) (v : Int32), mz_sh mz_GG M6 → (∀ b, (b < 9 ∨ 24 ≤ b) → (b < 82 ∨ 84 < b) → M6 b = M5 b) → (v.toInt = 0 ∨ v.toInt = 1) → (∀ M7 : Nat → mq_C, (∀ b, b ≠ 80 → M7 b = M6 b) → (∀ j, j ≠ 2 → hv M7 80 j = hv M6 80 j) → hv M7 80 2 = v.toInt → xEX 80 (hv M 81) len M7) → mq_R mq_PP (d + 6) 48 71 [some (.ref 80), some (.ref 9), some (.int r3)] [.int v, .ref 80] (M6, z, u) Q := by
      intro M6 v hm6 w6 hv01 hE
      refine hb_pfd (n := 74) (ci := 1) (j := 2) (t := 1) (ns := [1220, 19]) hm6 (by decide +kernel) rfl rfl (by decide) (.inr ⟨rfl, he_01 (by omega)⟩) ?_
      generalize hMc1 : hb_set M6 80 2 v = Mc1
      have hmc1 : mz_sh mz_GG Mc1 := by rw [← hMc1]; exact hb_set_sh hm6 rfl rfl (by omega) (by omega)
      have eMc1 : ∀ b j, b ≠ 80 ∨ j ≠ 2 → hv Mc1 b j = hv M6 b j := by intro b j h; rw [← hMc1]; exact hb_set_n h
      have sMc1 : hv Mc1 80 2 = v.toInt := by rw [← hMc1]; exact hb_set_v hm6 rfl (by decide)
      have wMc1 : ∀ b, b ≠ 80 → Mc1 b = M6 b := by intro b h; rw [← hMc1]; exact hb_set_c h
      refine he_ret (by decide +kernel) ?_
      refine K Mc1 hmc1 (fun b p q => ?_) ?_ (hE Mc1 wMc1 (fun j hj => eMc1 _ _ (.inr hj)) sMc1)
      · rw [wMc1 b (by omega), w6 b p (by omega)]
        exact c5 b p q
      · rw [eMc1 _ _ (.inr (by decide)), hb_vc (w6 80 (by decide) (by decide)), hb_vc (w5 80 (by decide))]
        exact a1
    cases hco : xcont (hv M 81) (l.getD j xd0) with
    | none =>
      have h5 := t0 hco
      rw [hco] at dX
      have dX : xrd (hv M 81) len = none := dX
      refine he_ifeq_t (n := 48) (t := 70) (by decide +kernel) (by omega) ?_
      refine he_iconst (n := 71) (c := 0) (by decide +kernel) (by decide) ?_
      intro cd70 hcd70
      refine fin M5 _ hm5 (fun _ _ _ => rfl) (by omega) (fun M7 _ _ e2 => ⟨fun l' s h => (by rw [dX] at h; cases h), fun _ => by rw [e2]; omega⟩)
    | some o =>
      obtain ⟨h5, g91, g200, g10⟩ := t1 o hco
      rw [hco] at dX
      have dX : xrd (hv M 81) len = (match xman (fun i => o.getD i 0) o.length with | none => none | some s => some (l, s)) := dX
      refine he_ifeq_f (n := 48) (t := 70) (by decide +kernel) (by omega) ?_
      refine he_aload (n := 49) (i := 0) (by decide +kernel) rfl ?_
      refine he_getr (n := 52) (ci := 1) (j := 3) (ns := [1222, 26]) (b := 82) hm5 (by decide +kernel) rfl rfl (by decide +kernel) ?_
      refine he_aload (n := 53) (i := 1) (by decide +kernel) rfl ?_
      refine he_getr (n := 56) (ci := 8) (j := 0) (ns := [1066, 66]) (b := 10) hm5 (by decide +kernel) rfl rfl (by decide +kernel) ?_
      refine he_aload (n := 57) (i := 1) (by decide +kernel) rfl ?_
      refine hb_gfd (n := 60) (ci := 8) (j := 1) (ns := [1069, 71]) hm5 (by decide +kernel) rfl rfl (by decide) rfl ?_
      intro vd57 hvd57 lvd57 uvd57
      have q57 : vd57.toInt = (o.length : Int) := by rw [← hvd57]; exact g91
      refine he_v2 (n := 63) (j := 83) (ci := 7) (mx := 5) (ns := [3040, 3041, 3042, 72]) (by decide +kernel) ((hb_kd (a := 82) hm5 rfl).trans rfl) (by show 1 ≤ 8; omega) (by show 3 ≤ 5; omega) ?_
      rw [mq_e83]
      have hV5 : xMV 80 M5 M5 xm0 := by
        obtain ⟨y1, y2, y3, y4, y5, y6, y7, y8, y9, y10⟩ := id hV1
        have uu : ∀ b t, 82 ≤ b → b ≤ 84 → hv M5 b t = hv M1 b t := fun b t p q => (hb_vc (w5 b (by omega)) t).trans (uP b t p q)
        refine ⟨hm5, fun _ _ => rfl, by rw [uu _ _ (by decide) (by decide)]; exact y3, by rw [uu _ _ (by decide) (by decide)]; exact y4, by rw [uu _ _ (by decide) (by decide)]; exact y5, by rw [uu _ _ (by decide) (by decide)]; exact y6, fun i hi => absurd hi (Nat.not_lt_zero i), ?_, y9, y10⟩
        rw [uu _ _ (by decide) (by decide), show (fun i => hv M5 (80 + 3) i) = fun i => hv M1 (80 + 3) i from funext fun i => uu _ _ (by decide) (by decide)]
        exact y8
      have eT : xman (hv M5 10) o.length = xman (fun i => o.getD i 0) o.length := xman_c (fun k hk => g10 k hk)
      refine xo_read80 (M0 := M5) (len := o.length) q57 g200 hV5 ?_ ?_
      · intro M6 r6 s hx6 hr6 hV6 hz6
        rw [eT] at hx6
        rw [hx6] at dX
        show mq_R mq_PP (d + 6) 48 63 _ [.int r6, .ref 80] (M6, z, u) Q
        refine he_ifeq_f (n := 66) (t := 70) (by decide +kernel) (by omega) ?_
        refine he_iconst (n := 67) (c := 1) (by decide +kernel) (by decide) ?_
        intro ce66 hce66
        refine he_goto (t := 71) (by decide +kernel) ?_
        refine fin M6 _ hV6.1 (fun b _ q => hV6.2.1 b (by omega)) (by omega) (fun M7 e0 e1 e2 => ⟨fun l' s' h => ?_, fun h => by rw [dX] at h; cases h⟩)
        rw [dX] at h
        cases h
        have f6 : ∀ b t, (b < 9 ∨ 24 ≤ b) → b < 80 + 2 ∨ 80 + 4 < b → hv M6 b t = hv Ma1 b t := fun b t p q => (hb_vc (hV6.2.1 b q) t).trans (hb_vc (w5 b p) t)
        refine ⟨by rw [e2]; omega, by rw [e1 4 (by decide), f6 _ _ (by decide) (by decide)]; exact h4', fun i hi => ?_, by rw [hb_vc (e0 _ (by decide))]; exact hz6, by rw [hb_vc (e0 _ (by decide))]; exact hV6.2.2.2.2.2.1, fun i hi => by rw [hb_vc (e0 _ (by decide))]; exact hV6.2.2.2.2.2.2.1 i hi⟩
        rw [xcr_c (M := Ma1) (fun b p q => by rw [hb_vc (e0 b (by omega)), f6 b i (by omega) (by omega)])]
        exact hc' i hi
      · intro M6 r6 hx6 hr6 hm6 hw6
        rw [eT] at hx6
        rw [hx6] at dX
        show mq_R mq_PP (d + 6) 48 63 _ [.int r6, .ref 80] (M6, z, u) Q
        refine he_ifeq_t (n := 66) (t := 70) (by decide +kernel) (by omega) ?_
        refine he_iconst (n := 71) (c := 0) (by decide +kernel) (by decide) ?_
        intro ce70 hce70
        exact fin M6 _ hm6 (fun b _ q => hw6 b (by omega)) (by omega) (fun M7 _ _ e2 => ⟨fun l' s h => (by rw [dX] at h; cases h), fun _ => by rw [e2]; omega⟩)
