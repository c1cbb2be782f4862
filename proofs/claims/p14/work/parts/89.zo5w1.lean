/-! Archive 1. -/
theorem xo_rl58_l {d z u : Nat} {Q : (Option Value ⊕ Nat) → mq_S → Prop} {M0 : Nat → mq_C} {x2 x3 : Int32} {e : Nat} {R : Option xMs} (h3 : x3.toInt = (e : Int)) (he : e ≤ 200) (K1 : ∀ (M' : Nat → mq_C) (r : Int32) (s' : xMs), R = some s' → r.toInt = 1 → xMV 58 M0 M' s' → Q (.inl (some (.int r))) (M', z, u)) (K0 : ∀ (M' : Nat → mq_C) (r : Int32), R = none → r.toInt = 0 → mz_sh mz_GG M' → (∀ b, b < 58 + 2 ∨ 58 + 4 < b → M' b = M0 b) → Q (.inl (some (.int r))) (M', z, u)) : ∀ (m i : Nat) (s : xMs) (M : Nat → mq_C) (x5 x4 : Int32), i + m = e → x5.toInt = (i : Int) → xmbs (hv M0 10) m i s = R → xMV 58 M0 M s → mq_R mq_PP (d + 2) 85 84 [some (.ref 60), some (.ref 10), some (.int x2), some (.int x3), some (.int x4), some (.int x5)] [] (M, z, u) Q := by
  intro m
  induction m with
  | zero =>
    intro i s M x5 x4 e1 e2 eR hV
    refine he_iload (n := 86) (i := 5) (by decide +kernel) rfl ?_
    refine he_iload (n := 87) (i := 3) (by decide +kernel) rfl ?_
    refine he_cmpge_t (n := 90) (t := 109) (by decide +kernel) (by omega) ?_
    refine he_iconst (n := 110) (c := 1) (by decide +kernel) (by decide) ?_
    intro c109 hc109
    refine he_retz (by decide +kernel) (by omega) ?_
    exact K1 M _ s eR.symm (by omega) hV
  | succ m ih =>
    intro i s M x5 x4 e1 e2 eR hV
    refine he_iload (n := 86) (i := 5) (by decide +kernel) rfl ?_
    refine he_iload (n := 87) (i := 3) (by decide +kernel) rfl ?_
    refine he_cmpge_f (n := 90) (t := 109) (by decide +kernel) (by omega) ?_
    refine he_aload (n := 91) (i := 0) (by decide +kernel) rfl ?_
    refine he_aload (n := 92) (i := 1) (by decide +kernel) rfl ?_
    refine he_iload (n := 94) (i := 5) (by decide +kernel) rfl ?_
    refine hb_ld (n := 95) (kind := 64) hV.1 (by decide +kernel) rfl rfl (.inl rfl) (by omega) (show _ < (200 : Int) by omega) hb_at1 ?_
    intro v94 hv94 lv94 uv94
    have q94 : hv M0 10 i = v94.toInt := by rw [← hv94, show x5.toInt.toNat = i by omega]; exact (hb_vc (hV.2.1 10 (by decide)) i).symm
    refine he_v1 (n := 98) (j := 87) (ci := 7) (mx := 2) (ns := [3056, 3058, 22, 47]) (by decide +kernel) ((hb_kd (a := 60) hV.1 rfl).trans rfl) (by show 0 ≤ 8; omega) (by show 2 ≤ 2; omega) ?_
    rw [mq_e87]
    have eR : (match xmb s (hv M0 10 i) with | some s' => xmbs (hv M0 10) m (i + 1) s' | none => none) = R := eR
    rw [q94] at eR
    refine xo_rb58 hV (by omega) (by omega) ?_ ?_
    · intro M' r s' hx hr hV'
      rw [hx] at eR
      show mq_R mq_PP (d + 2) 85 98 _ [.int r] (M', z, u) Q
      refine he_ifne_t (n := 101) (t := 103) (by decide +kernel) (by omega) ?_
      refine he_iinc (n := 106) (i := 5) (c := 1) (L' := fun v => [some (.ref (60)), some (.ref (10)), some (.int x2), some (.int x3), some (.int x4), some (.int v)]) (by decide +kernel) (by decide) rfl (fun _ => rfl) (by omega) (by omega) ?_
      intro i103 hi103
      refine he_goto (t := 84) (by decide +kernel) ?_
      exact ih (i + 1) s' M' _ _ (by omega) (by omega) eR hV'
    · intro M' r hx hr hm' hw'
      rw [hx] at eR
      show mq_R mq_PP (d + 2) 85 98 _ [.int r] (M', z, u) Q
      refine he_ifne_f (n := 101) (t := 103) (by decide +kernel) (by omega) ?_
      refine he_iconst (n := 102) (c := 0) (by decide +kernel) (by decide) ?_
      intro c101 hc101
      refine he_retz (by decide +kernel) (by omega) ?_
      exact K0 M' _ eR.symm (by omega) hm' hw'
theorem xo_rl58 {d z u : Nat} {Q : (Option Value ⊕ Nat) → mq_S → Prop} {M0 : Nat → mq_C} {x2 x3 : Int32} {f e : Nat} {s : xMs} {M : Nat → mq_C} (h2 : x2.toInt = (f : Int)) (h3 : x3.toInt = (e : Int)) (hfe : f ≤ e) (he : e ≤ 200) (hV : xMV 58 M0 M s) (K1 : ∀ (M' : Nat → mq_C) (r : Int32) (s' : xMs), xml (hv M0 10) s f e = some s' → r.toInt = 1 → xMV 58 M0 M' s' → Q (.inl (some (.int r))) (M', z, u)) (K0 : ∀ (M' : Nat → mq_C) (r : Int32), xml (hv M0 10) s f e = none → r.toInt = 0 → mz_sh mz_GG M' → (∀ b, b < 58 + 2 ∨ 58 + 4 < b → M' b = M0 b) → Q (.inl (some (.int r))) (M', z, u)) : mq_R mq_PP (d + 2) 85 0 [some (.ref 60), some (.ref 10), some (.int x2), some (.int x3), none, none] [] (M, z, u) Q := by
  obtain ⟨y1, y2, y3, y4, y5, y6, y7, y8, y9, y10⟩ := id hV
  have t10 : ∀ t, hv M 10 t = hv M0 10 t := fun t => hb_vc (y2 10 (by decide)) t
  have hff : x2.toInt.toNat = f := by omega
  refine he_iload (n := 1) (i := 3) (by decide +kernel) rfl ?_
  refine he_iload (n := 2) (i := 2) (by decide +kernel) rfl ?_
  by_cases g2 : x3.toInt = x2.toInt
  · skip
    refine he_cmpeq_t (n := 5) (t := 13) (by decide +kernel) (by omega) ?_
    refine he_iconst (n := 14) (c := 0) (by decide +kernel) (by decide) ?_
    intro c13 hc13
    refine he_retz (by decide +kernel) (by omega) ?_
    exact K0 M _ (if_pos (.inl (by omega))) (by omega) y1 y2
  refine he_cmpeq_f (n := 5) (t := 13) (by decide +kernel) (by omega) ?_
  refine he_iload (n := 6) (i := 3) (by decide +kernel) rfl ?_
  refine he_iload (n := 7) (i := 2) (by decide +kernel) rfl ?_
  refine he_isub (n := 8) (by decide +kernel) (by omega) (by omega) ?_
  intro v7 hv7
  refine he_iconst (n := 10) (c := 8) (by decide +kernel) (by decide) ?_
  intro c8 hc8
  by_cases g10 : v7.toInt ≤ c8.toInt
  rotate_left
  · skip
    refine he_cmple_f (n := 13) (t := 15) (by decide +kernel) (by omega) ?_
    refine he_iconst (n := 14) (c := 0) (by decide +kernel) (by decide) ?_
    intro c13 hc13
    refine he_retz (by decide +kernel) (by omega) ?_
    exact K0 M _ (if_pos (.inr (by omega))) (by omega) y1 y2
  refine he_cmple_t (n := 13) (t := 15) (by decide +kernel) (by omega) ?_
  refine he_iload (n := 16) (i := 2) (by decide +kernel) rfl ?_
  refine he_iconst (n := 17) (c := 1) (by decide +kernel) (by decide) ?_
  intro c16 hc16
  refine he_iadd (n := 18) (by decide +kernel) (by omega) (by omega) ?_
  intro v17 hv17
  refine he_istore (n := 20) (i := 4) (by decide +kernel) rfl ?_
  refine he_aload (n := 21) (i := 1) (by decide +kernel) rfl ?_
  refine he_iload (n := 22) (i := 2) (by decide +kernel) rfl ?_
  refine hb_ld (n := 23) (kind := 64) y1 (by decide +kernel) rfl rfl (.inl rfl) (by omega) (show _ < (200 : Int) by omega) hb_at1 ?_
  intro v22 hv22 lv22 uv22
  refine he_iconst (n := 25) (c := 32) (by decide +kernel) (by decide) ?_
  intro c23 hc23
  rw [hff, t10] at hv22
  have dx : xml (hv M0 10) s f e = (if hv M0 10 f = 32 then (if s.1 = -1 then none else xmbs (hv M0 10) (e - (f + 1)) (f + 1) s) else if xmc (hv M0 10) s f e then xmbs (hv M0 10) (e - (f + 2)) (f + 2) (hv M0 10 f, xmset s.2.1 (hv M0 10 f), s.2.2.1, s.2.2.2) else none) := by unfold xml; rw [if_neg (by omega)]
  rw [dx] at K1 K0
  clear dx
  have tail : ∀ (s' : xMs) (M' : Nat → mq_C) (x4 : Int32) (g : Nat) (R : Option xMs), x4.toInt = (g : Int) → g ≤ e → f ≤ g → ¬ s'.1 = -1 → xmbs (hv M0 10) (e - g) g s' = R → xMV 58 M0 M' s' → (∀ (M' : Nat → mq_C) (r : Int32) (s' : xMs), R = some s' → r.toInt = 1 → xMV 58 M0 M' s' → Q (.inl (some (.int r))) (M', z, u)) → (∀ (M' : Nat → mq_C) (r : Int32), R = none → r.toInt = 0 → mz_sh mz_GG M' → (∀ b, b < 58 + 2 ∨ 58 + 4 < b → M' b = M0 b) → Q (.inl (some (.int r))) (M', z, u)) → mq_R mq_PP (d + 2) 85 70 [some (.ref 60), some (.ref 10), some (.int x2), some (.int x3), some (.int x4), none] [] (M', z, u) Q := by
    intro s' M' x4 g R k1 k2 k3 k4 k5 kV K1 K0
    refine he_aload (n := 71) (i := 0) (by decide +kernel) rfl ?_
    refine hb_gfd (n := 74) (ci := 7) (j := 4) (ns := [1196, 27]) kV.1 (by decide +kernel) rfl rfl (by decide) rfl ?_
    intro vt71 hvt71 lvt71 uvt71
    refine he_iconst (n := 75) (c := -1) (by decide +kernel) (by decide) ?_
    intro ct74 hct74
    have q71 : vt71.toInt = s'.1 := by rw [← hvt71]; exact kV.2.2.1
    refine he_cmpne_t (n := 78) (t := 80) (by decide +kernel) (by omega) ?_
    refine he_iload (n := 82) (i := 4) (by decide +kernel) rfl ?_
    refine he_istore (n := 84) (i := 5) (by decide +kernel) rfl ?_
    exact xo_rl58_l h3 he K1 K0 (e - g) g s' M' _ _ (by omega) k1 k5 kV
  by_cases g25 : v22.toInt = c23.toInt
  · have h32 : hv M0 10 f = 32 := by omega
    rw [if_pos h32] at K1 K0
    refine he_cmpeq_t (n := 28) (t := 70) (by decide +kernel) (by omega) ?_
    by_cases gc : s.1 = -1
    · rw [if_pos gc] at K0
      refine he_aload (n := 71) (i := 0) (by decide +kernel) rfl ?_
      refine hb_gfd (n := 74) (ci := 7) (j := 4) (ns := [1196, 27]) y1 (by decide +kernel) rfl rfl (by decide) rfl ?_
      intro vs71 hvs71 lvs71 uvs71
      refine he_iconst (n := 75) (c := -1) (by decide +kernel) (by decide) ?_
      intro cs74 hcs74
      have q71 : vs71.toInt = s.1 := by rw [← hvs71]; exact y3
      refine he_cmpne_f (n := 78) (t := 80) (by decide +kernel) (by omega) ?_
      refine he_iconst (n := 79) (c := 0) (by decide +kernel) (by decide) ?_
      intro cs78 hcs78
      refine he_retz (by decide +kernel) (by omega) ?_
      exact K0 M _ rfl (by omega) y1 y2
    · rw [if_neg gc] at K1 K0
      exact tail s M _ (f + 1) _ (by omega) (by omega) (by omega) gc rfl hV K1 K0
  · have h32 : ¬ hv M0 10 f = 32 := by omega
    rw [if_neg h32] at K1 K0
    refine he_cmpeq_f (n := 28) (t := 70) (by decide +kernel) (by omega) ?_
    refine he_aload (n := 29) (i := 0) (by decide +kernel) rfl ?_
    refine he_aload (n := 30) (i := 1) (by decide +kernel) rfl ?_
    refine he_iload (n := 31) (i := 2) (by decide +kernel) rfl ?_
    refine he_iload (n := 32) (i := 3) (by decide +kernel) rfl ?_
    refine he_v3 (n := 35) (j := 86) (ci := 7) (mx := 4) (ns := [3048, 3050, 20, 44]) (by decide +kernel) ((hb_kd (a := 60) y1 rfl).trans rfl) (by show 0 ≤ 8; omega) (by show 4 ≤ 4; omega) ?_
    rw [mq_e86]
    refine xo_bwc58 (s := s) (f := f) (e := e) y1 y4 h2 h3 hfe he (by omega) ?_
    intro r1 ra rb
    rw [show hv M 10 = hv M0 10 from funext t10] at ra rb
    show mq_R mq_PP (d + 2) 85 35 _ [.int r1] (M, z, u) Q
    by_cases gx : xmc (hv M0 10) s f e
    rotate_left
    · have hr1 := rb gx
      rw [if_neg gx] at K0
      refine he_ifne_f (n := 38) (t := 40) (by decide +kernel) (by omega) ?_
      refine he_iconst (n := 39) (c := 0) (by decide +kernel) (by decide) ?_
      intro cu38 hcu38
      refine he_retz (by decide +kernel) (by omega) ?_
      exact K0 M _ rfl (by omega) y1 y2
    have hr1 := ra gx
    rw [if_pos gx] at K1 K0
    obtain ⟨z1, z2, z3, z4, z5⟩ := id gx
    refine he_ifne_t (n := 38) (t := 40) (by decide +kernel) (by omega) ?_
    refine he_aload (n := 41) (i := 0) (by decide +kernel) rfl ?_
    refine he_aload (n := 42) (i := 1) (by decide +kernel) rfl ?_
    refine he_iload (n := 43) (i := 2) (by decide +kernel) rfl ?_
    refine hb_ld (n := 44) (kind := 64) y1 (by decide +kernel) rfl rfl (.inl rfl) (by omega) (show _ < (200 : Int) by omega) hb_at1 ?_
    intro vu43 hvu43 lvu43 uvu43
    refine hb_pfd (n := 47) (ci := 7) (j := 4) (t := 0) (ns := [1196, 27]) y1 (by decide +kernel) rfl rfl (by decide) (.inl rfl) ?_
    generalize hMu1 : hb_set M 60 4 vu43 = Mu1
    have hmu1 : mz_sh mz_GG Mu1 := by rw [← hMu1]; exact hb_set_sh y1 rfl rfl (by omega) (by omega)
    have eMu1 : ∀ b j, b ≠ 60 ∨ j ≠ 4 → hv Mu1 b j = hv M b j := by intro b j h; rw [← hMu1]; exact hb_set_n h
    have sMu1 : hv Mu1 60 4 = vu43.toInt := by rw [← hMu1]; exact hb_set_v y1 rfl (by decide)
    have wMu1 : ∀ b, b ≠ 60 → Mu1 b = M b := by intro b h; rw [← hMu1]; exact hb_set_c h
    refine he_aload (n := 48) (i := 0) (by decide +kernel) rfl ?_
    refine he_dup_r (n := 49) (by decide +kernel) ?_
    refine hb_gfd (n := 52) (ci := 7) (j := 5) (ns := [1197, 30]) hmu1 (by decide +kernel) rfl rfl (by decide) rfl ?_
    intro vu49 hvu49 lvu49 uvu49
    refine he_iconst (n := 53) (c := 1) (by decide +kernel) (by decide) ?_
    intro cu52 hcu52
    refine he_aload (n := 54) (i := 0) (by decide +kernel) rfl ?_
    refine hb_gfd (n := 57) (ci := 7) (j := 4) (ns := [1196, 27]) hmu1 (by decide +kernel) rfl rfl (by decide) rfl ?_
    intro vu54 hvu54 lvu54 uvu54
    refine he_iconst (n := 59) (c := 65) (by decide +kernel) (by decide) ?_
    intro cu57 hcu57
    refine he_isub (n := 60) (by decide +kernel) (by omega) (by omega) ?_
    intro vu59 hvu59
    refine he_ex2 (o := 15) (n := 61) (by decide +kernel) rfl ?_
    intro vu60 hvu60
    have evu60 : vu60 = cu52 <<< (vu59 &&& 31) := hvu60
    have bvu60 := mz_i32 vu60
    refine he_ex2 (o := 13) (n := 62) (by decide +kernel) rfl ?_
    intro vu61 hvu61
    have evu61 : vu61 = vu49 ||| vu60 := hvu61
    have bvu61 := mz_i32 vu61
    refine hb_pfd (n := 65) (ci := 7) (j := 5) (t := 0) (ns := [1197, 30]) hmu1 (by decide +kernel) rfl rfl (by decide) (.inl rfl) ?_
    generalize hMu2 : hb_set Mu1 60 5 vu61 = Mu2
    have hmu2 : mz_sh mz_GG Mu2 := by rw [← hMu2]; exact hb_set_sh hmu1 rfl rfl (by omega) (by omega)
    have eMu2 : ∀ b j, b ≠ 60 ∨ j ≠ 5 → hv Mu2 b j = hv Mu1 b j := by intro b j h; rw [← hMu2]; exact hb_set_n h
    have sMu2 : hv Mu2 60 5 = vu61.toInt := by rw [← hMu2]; exact hb_set_v hmu1 rfl (by decide)
    have wMu2 : ∀ b, b ≠ 60 → Mu2 b = Mu1 b := by intro b h; rw [← hMu2]; exact hb_set_c h
    refine he_iload (n := 66) (i := 2) (by decide +kernel) rfl ?_
    refine he_iconst (n := 67) (c := 2) (by decide +kernel) (by decide) ?_
    intro cu66 hcu66
    refine he_iadd (n := 68) (by decide +kernel) (by omega) (by omega) ?_
    intro vu67 hvu67
    refine he_istore (n := 70) (i := 4) (by decide +kernel) rfl ?_
    rw [hff, t10] at hvu43
    have q54 : vu54.toInt = hv M0 10 f := by
      rw [← hvu54, sMu1]
      omega
    have q49 : vu49 = s.2.1 := xo_i32 (by rw [← hvu49, eMu1 _ _ (.inr (by decide))]; exact y4)
    have q61 : vu61 = xmset s.2.1 (hv M0 10 f) := by
      rw [evu61, evu60, q49, show vu59 = Int32.ofInt (hv M0 10 f - 65) from xe_oi (by omega), show cu52 = Int32.ofInt 1 from xe_oi (by omega)]
      rfl
    refine tail (hv M0 10 f, xmset s.2.1 (hv M0 10 f), s.2.2.1, s.2.2.2) Mu2 _ (f + 2) _ (by omega) (by omega) (by omega) (by show ¬ hv M0 10 f = -1; omega) rfl ⟨hmu2, fun b hb => by rw [wMu2 b (by omega), wMu1 b (by omega)]; exact y2 b hb, ?_, ?_, ?_, ?_, fun i hi => by rw [eMu2 _ _ (.inl (by decide)), eMu1 _ _ (.inl (by decide))]; exact y7 i hi, ?_, y9, .inr ⟨z2, z3⟩⟩ K1 K0
    · rw [eMu2 _ _ (.inr (by decide)), sMu1]
      show _ = hv M0 10 f
      omega
    · show hv Mu2 60 5 = (xmset s.2.1 (hv M0 10 f)).toInt
      rw [sMu2, q61]
    · rw [eMu2 _ _ (.inr (by decide)), eMu1 _ _ (.inr (by decide))]
      exact y5
    · rw [eMu2 _ _ (.inr (by decide)), eMu1 _ _ (.inr (by decide))]
      exact y6
    · rw [eMu2 _ _ (.inr (by decide)), eMu1 _ _ (.inr (by decide)), show (fun i => hv Mu2 (58 + 3) i) = fun i => hv M (58 + 3) i from funext fun i => by rw [eMu2 _ _ (.inl (by decide)), eMu1 _ _ (.inl (by decide))]]
      exact y8
theorem xo_read58_l {d z u : Nat} {Q : (Option Value ⊕ Nat) → mq_S → Prop} {M0 : Nat → mq_C} {x2 : Int32} {len : Nat} (h2 : x2.toInt = (len : Int)) (hl : len ≤ 200) (K1 : ∀ (M' : Nat → mq_C) (r : Int32) (s' : xMs), xman (hv M0 10) len = some s' → r.toInt = 1 → xMV 58 M0 M' s' → hv M' 60 0 = s'.2.2.1 → Q (.inl (some (.int r))) (M', z, u)) (K0 : ∀ (M' : Nat → mq_C) (r : Int32), xman (hv M0 10) len = none → r.toInt = 0 → mz_sh mz_GG M' → (∀ b, b < 58 + 2 ∨ 58 + 4 < b → M' b = M0 b) → Q (.inl (some (.int r))) (M', z, u)) : ∀ (m i f : Nat) (s : xMs) (M : Nat → mq_C) (x3 x4 : Int32), i + m = len → x4.toInt = (i : Int) → x3.toInt = (f : Int) → f ≤ i → xmr (hv M0 10) m i f s = xmr (hv M0 10) len 0 0 xm0 → xMV 58 M0 M s → mq_R mq_PP (d + 3) 83 5 [some (.ref 60), some (.ref 10), some (.int x2), some (.int x3), some (.int x4)] [] (M, z, u) Q := by
  intro m
  induction m with
  | zero =>
    intro i f s M x3 x4 e1 e2 e3 hfi eR hV
    obtain ⟨y1, y2, y3, y4, y5, y6, y7, y8, y9, y10⟩ := id hV
    have dx : xman (hv M0 10) len = (if f = len ∧ (s.2.2.1 = 1 ∨ ¬ xseen s.2.1 86) then some s else none) := by
      unfold xman
      rw [← eR]
      rfl
    refine he_iload (n := 7) (i := 4) (by decide +kernel) rfl ?_
    refine he_iload (n := 8) (i := 2) (by decide +kernel) rfl ?_
    refine he_cmpge_t (n := 11) (t := 44) (by decide +kernel) (by omega) ?_
    refine he_aload (n := 45) (i := 0) (by decide +kernel) rfl ?_
    refine he_aload (n := 46) (i := 0) (by decide +kernel) rfl ?_
    refine hb_gfd (n := 49) (ci := 7) (j := 6) (ns := [1198, 33]) y1 (by decide +kernel) rfl rfl (by decide) rfl ?_
    intro v46 hv46 lv46 uv46
    refine he_iconst (n := 50) (c := 1) (by decide +kernel) (by decide) ?_
    intro c49 hc49
    have q46 : v46.toInt = s.2.2.1 := by rw [← hv46]; exact y5
    have tail : ∀ (c : Int32), c.toInt = s.2.2.1 → mq_R mq_PP (d + 3) 83 58 [some (.ref 60), some (.ref 10), some (.int x2), some (.int x3), some (.int x4)] [.int c, .ref 60] (M, z, u) Q := by
      intro c hc
      refine hb_pfd (n := 61) (ci := 7) (j := 0) (t := 1) (ns := [1188, 9]) y1 (by decide +kernel) rfl rfl (by decide) (.inr ⟨rfl, he_01 (by omega)⟩) ?_
      generalize hMt1 : hb_set M 60 0 c = Mt1
      have hmt1 : mz_sh mz_GG Mt1 := by rw [← hMt1]; exact hb_set_sh y1 rfl rfl (by omega) (by omega)
      have eMt1 : ∀ b j, b ≠ 60 ∨ j ≠ 0 → hv Mt1 b j = hv M b j := by intro b j h; rw [← hMt1]; exact hb_set_n h
      have sMt1 : hv Mt1 60 0 = c.toInt := by rw [← hMt1]; exact hb_set_v y1 rfl (by decide)
      have wMt1 : ∀ b, b ≠ 60 → Mt1 b = M b := by intro b h; rw [← hMt1]; exact hb_set_c h
      refine he_iload (n := 62) (i := 3) (by decide +kernel) rfl ?_
      refine he_iload (n := 63) (i := 2) (by decide +kernel) rfl ?_
      have hV1 : xMV 58 M0 Mt1 s := ⟨hmt1, fun b hb => by rw [wMt1 b (by omega)]; exact y2 b hb, by rw [eMt1 _ _ (.inr (by decide))]; exact y3, by rw [eMt1 _ _ (.inr (by decide))]; exact y4, by rw [eMt1 _ _ (.inr (by decide))]; exact y5, by rw [eMt1 _ _ (.inr (by decide))]; exact y6, fun i hi => by rw [eMt1 _ _ (.inl (by decide))]; exact y7 i hi, by rw [eMt1 _ _ (.inr (by decide)), show (fun i => hv Mt1 (58 + 3) i) = fun i => hv M (58 + 3) i from funext fun i => eMt1 _ _ (.inl (by decide))]; exact y8, y9, y10⟩
      have hv0 : hv Mt1 60 0 = s.2.2.1 := sMt1.trans hc
      by_cases g63 : f = len
      rotate_left
      · rw [if_neg (fun h => g63 h.1)] at dx
        refine he_cmpne_t (n := 66) (t := 86) (by decide +kernel) (by omega) ?_
        refine he_iconst (n := 87) (c := 0) (by decide +kernel) (by decide) ?_
        intro ct86 hct86
        refine he_retz (by decide +kernel) (by omega) ?_
        exact K0 Mt1 _ dx (by omega) hmt1 hV1.2.1
      refine he_cmpne_f (n := 66) (t := 86) (by decide +kernel) (by omega) ?_
      refine he_aload (n := 67) (i := 0) (by decide +kernel) rfl ?_
      refine hb_gfd (n := 70) (ci := 7) (j := 0) (ns := [1188, 9]) hmt1 (by decide +kernel) rfl rfl (by decide) rfl ?_
      intro vt67 hvt67 lvt67 uvt67
      have q67 : vt67.toInt = s.2.2.1 := hvt67.symm.trans hv0
      by_cases g70 : s.2.2.1 = 1
      · rw [if_pos ⟨g63, .inl g70⟩] at dx
        refine he_ifne_t (n := 73) (t := 82) (by decide +kernel) (by omega) ?_
        refine he_iconst (n := 83) (c := 1) (by decide +kernel) (by decide) ?_
        intro ct82 hct82
        refine he_goto (t := 87) (by decide +kernel) ?_
        refine he_retz (by decide +kernel) (by omega) ?_
        exact K1 Mt1 _ s dx (by omega) hV1 hv0
      refine he_ifne_f (n := 73) (t := 82) (by decide +kernel) (by omega) ?_
      refine he_aload (n := 74) (i := 0) (by decide +kernel) rfl ?_
      refine he_iconst (n := 76) (c := 86) (by decide +kernel) (by decide) ?_
      intro ct74 hct74
      refine he_v1 (n := 79) (j := 84) (ci := 7) (mx := 2) (ns := [3052, 3054, 21, 40]) (by decide +kernel) ((hb_kd (a := 60) hmt1 rfl).trans rfl) (by show 0 ≤ 8; omega) (by show 2 ≤ 2; omega) ?_
      rw [mq_e84]
      refine xo_seen58 (mk := s.2.1) hmt1 hV1.2.2.2.1 (by omega) (by omega) ?_
      intro r1 ra rb
      rw [show ct74.toInt = 86 by omega] at ra rb
      show mq_R mq_PP (d + 3) 83 79 _ [.int r1] (Mt1, z, u) Q
      by_cases g79 : xseen s.2.1 86
      · have hr1 := ra g79
        rw [if_neg (fun h => h.2.elim g70 (fun h' => h' g79))] at dx
        refine he_ifne_t (n := 82) (t := 86) (by decide +kernel) (by omega) ?_
        refine he_iconst (n := 87) (c := 0) (by decide +kernel) (by decide) ?_
        intro cv86 hcv86
        refine he_retz (by decide +kernel) (by omega) ?_
        exact K0 Mt1 _ dx (by omega) hmt1 hV1.2.1
      · have hr1 := rb g79
        rw [if_pos ⟨g63, .inr g79⟩] at dx
        refine he_ifne_f (n := 82) (t := 86) (by decide +kernel) (by omega) ?_
        refine he_iconst (n := 83) (c := 1) (by decide +kernel) (by decide) ?_
        intro cv82 hcv82
        refine he_goto (t := 87) (by decide +kernel) ?_
        refine he_retz (by decide +kernel) (by omega) ?_
        exact K1 Mt1 _ s dx (by omega) hV1 hv0
    by_cases g50 : s.2.2.1 = 1
    · skip
      refine he_cmpne_f (n := 53) (t := 57) (by decide +kernel) (by omega) ?_
      refine he_iconst (n := 54) (c := 1) (by decide +kernel) (by decide) ?_
      intro c53 hc53
      refine he_goto (t := 58) (by decide +kernel) ?_
      exact tail _ (by omega)
    · skip
      refine he_cmpne_t (n := 53) (t := 57) (by decide +kernel) (by omega) ?_
      refine he_iconst (n := 58) (c := 0) (by decide +kernel) (by decide) ?_
      intro c57 hc57
      exact tail _ (by omega)
  | succ m ih =>
    intro i f s M x3 x4 e1 e2 e3 hfi eR hV
    obtain ⟨y1, y2, y3, y4, y5, y6, y7, y8, y9, y10⟩ := id hV
    have eR : (if hv M0 10 i = 10 then (match xml (hv M0 10) s f i with | some s' => xmr (hv M0 10) m (i + 1) (i + 1) s' | none => none) else xmr (hv M0 10) m (i + 1) f s) = xmr (hv M0 10) len 0 0 xm0 := eR
    refine he_iload (n := 7) (i := 4) (by decide +kernel) rfl ?_
    refine he_iload (n := 8) (i := 2) (by decide +kernel) rfl ?_
    refine he_cmpge_f (n := 11) (t := 44) (by decide +kernel) (by omega) ?_
    refine he_aload (n := 12) (i := 1) (by decide +kernel) rfl ?_
    refine he_iload (n := 14) (i := 4) (by decide +kernel) rfl ?_
    refine hb_ld (n := 15) (kind := 64) y1 (by decide +kernel) rfl rfl (.inl rfl) (by omega) (show _ < (200 : Int) by omega) hb_at1 ?_
    intro v14 hv14 lv14 uv14
    refine he_iconst (n := 17) (c := 10) (by decide +kernel) (by decide) ?_
    intro c15 hc15
    have q14 : hv M0 10 i = v14.toInt := by rw [← hv14, show x4.toInt.toNat = i by omega]; exact (hb_vc (y2 10 (by decide)) i).symm
    by_cases g17 : v14.toInt = c15.toInt
    rotate_left
    · rw [if_neg (by omega)] at eR
      refine he_cmpne_t (n := 20) (t := 38) (by decide +kernel) (by omega) ?_
      refine he_iinc (n := 41) (i := 4) (c := 1) (L' := fun v => [some (.ref (60)), some (.ref (10)), some (.int x2), some (.int x3), some (.int v)]) (by decide +kernel) (by decide) rfl (fun _ => rfl) (by omega) (by omega) ?_
      intro i38 hi38
      refine he_goto (t := 5) (by decide +kernel) ?_
      exact ih (i + 1) f s M _ _ (by omega) (by omega) e3 (by omega) eR hV
    rw [if_pos (by omega)] at eR
    refine he_cmpne_f (n := 20) (t := 38) (by decide +kernel) (by omega) ?_
    refine he_aload (n := 21) (i := 0) (by decide +kernel) rfl ?_
    refine he_aload (n := 22) (i := 1) (by decide +kernel) rfl ?_
    refine he_iload (n := 23) (i := 3) (by decide +kernel) rfl ?_
    refine he_iload (n := 25) (i := 4) (by decide +kernel) rfl ?_
    refine he_v3 (n := 28) (j := 85) (ci := 7) (mx := 6) (ns := [3044, 3046, 19, 36]) (by decide +kernel) ((hb_kd (a := 60) y1 rfl).trans rfl) (by show 0 ≤ 8; omega) (by show 4 ≤ 6; omega) ?_
    rw [mq_e85]
    refine xo_rl58 (s := s) (f := f) (e := i) e3 e2 hfi (by omega) hV ?_ ?_
    · intro M' r s' hx hr hV'
      rw [hx] at eR
      show mq_R mq_PP (d + 3) 83 28 _ [.int r] (M', z, u) Q
      refine he_ifne_t (n := 31) (t := 33) (by decide +kernel) (by omega) ?_
      refine he_iload (n := 35) (i := 4) (by decide +kernel) rfl ?_
      refine he_iconst (n := 36) (c := 1) (by decide +kernel) (by decide) ?_
      intro c35 hc35
      refine he_iadd (n := 37) (by decide +kernel) (by omega) (by omega) ?_
      intro v36 hv36
      refine he_istore (n := 38) (i := 3) (by decide +kernel) rfl ?_
      refine he_iinc (n := 41) (i := 4) (c := 1) (L' := fun v => [some (.ref (60)), some (.ref (10)), some (.int x2), some (.int v36), some (.int v)]) (by decide +kernel) (by decide) rfl (fun _ => rfl) (by omega) (by omega) ?_
      intro i38 hi38
      refine he_goto (t := 5) (by decide +kernel) ?_
      exact ih (i + 1) (i + 1) s' M' _ _ (by omega) (by omega) (by omega) (Nat.le_refl _) eR hV'
    · intro M' r hx hr hm' hw'
      rw [hx] at eR
      show mq_R mq_PP (d + 3) 83 28 _ [.int r] (M', z, u) Q
      refine he_ifne_f (n := 31) (t := 33) (by decide +kernel) (by omega) ?_
      refine he_iconst (n := 32) (c := 0) (by decide +kernel) (by decide) ?_
      intro c31 hc31
      refine he_retz (by decide +kernel) (by omega) ?_
      exact K0 M' _ (by unfold xman; rw [← eR]) (by omega) hm' hw'
theorem xo_read58 {d z u : Nat} {Q : (Option Value ⊕ Nat) → mq_S → Prop} {M0 : Nat → mq_C} {x2 : Int32} {len : Nat} {M : Nat → mq_C} (h2 : x2.toInt = (len : Int)) (hl : len ≤ 200) (hV : xMV 58 M0 M xm0) (K1 : ∀ (M' : Nat → mq_C) (r : Int32) (s' : xMs), xman (hv M0 10) len = some s' → r.toInt = 1 → xMV 58 M0 M' s' → hv M' 60 0 = s'.2.2.1 → Q (.inl (some (.int r))) (M', z, u)) (K0 : ∀ (M' : Nat → mq_C) (r : Int32), xman (hv M0 10) len = none → r.toInt = 0 → mz_sh mz_GG M' → (∀ b, b < 58 + 2 ∨ 58 + 4 < b → M' b = M0 b) → Q (.inl (some (.int r))) (M', z, u)) : mq_R mq_PP (d + 3) 83 0 [some (.ref 60), some (.ref 10), some (.int x2), none, none] [] (M, z, u) Q := by
  refine he_iconst (n := 1) (c := 0) (by decide +kernel) (by decide) ?_
  intro c0 hc0
  refine he_istore (n := 2) (i := 3) (by decide +kernel) rfl ?_
  refine he_iconst (n := 3) (c := 0) (by decide +kernel) (by decide) ?_
  intro c2 hc2
  refine he_istore (n := 5) (i := 4) (by decide +kernel) rfl ?_
  exact xo_read58_l h2 hl K1 K0 len 0 0 xm0 M _ _ (by omega) (by omega) (by omega) (Nat.le_refl _) rfl hV
theorem xo_clear58 {d z u : Nat} {Q : (Option Value ⊕ Nat) → mq_S → Prop} {M0 : Nat → mq_C} {M : Nat → mq_C} (hm : mz_sh mz_GG M) (hw : ∀ b, b < 58 + 2 ∨ 58 + 4 < b → M b = M0 b) (K : ∀ M' : Nat → mq_C, xMV 58 M0 M' xm0 → hv M' 60 0 = 0 → Q (.inl none) (M', z, u)) : mq_R mq_PP d 82 0 [some (.ref 60), none] [] (M, z, u) Q := by
  refine he_aload (n := 1) (i := 0) (by decide +kernel) rfl ?_
  refine he_iconst (n := 2) (c := 0) (by decide +kernel) (by decide) ?_
  intro c1 hc1
  refine hb_pfd (n := 5) (ci := 7) (j := 0) (t := 1) (ns := [1188, 9]) hm (by decide +kernel) rfl rfl (by decide) (.inr ⟨rfl, he_01 (by omega)⟩) ?_
  generalize hM1 : hb_set M 60 0 c1 = M1
  have hm1 : mz_sh mz_GG M1 := by rw [← hM1]; exact hb_set_sh hm rfl rfl (by omega) (by omega)
  have eM1 : ∀ b j, b ≠ 60 ∨ j ≠ 0 → hv M1 b j = hv M b j := by intro b j h; rw [← hM1]; exact hb_set_n h
  have sM1 : hv M1 60 0 = c1.toInt := by rw [← hM1]; exact hb_set_v hm rfl (by decide)
  have wM1 : ∀ b, b ≠ 60 → M1 b = M b := by intro b h; rw [← hM1]; exact hb_set_c h
  refine he_aload (n := 6) (i := 0) (by decide +kernel) rfl ?_
  refine he_iconst (n := 7) (c := 0) (by decide +kernel) (by decide) ?_
  intro c6 hc6
  refine hb_pfd (n := 10) (ci := 7) (j := 2) (t := 0) (ns := [1192, 19]) hm1 (by decide +kernel) rfl rfl (by decide) (.inl rfl) ?_
  generalize hM2 : hb_set M1 60 2 c6 = M2
  have hm2 : mz_sh mz_GG M2 := by rw [← hM2]; exact hb_set_sh hm1 rfl rfl (by omega) (by omega)
  have eM2 : ∀ b j, b ≠ 60 ∨ j ≠ 2 → hv M2 b j = hv M1 b j := by intro b j h; rw [← hM2]; exact hb_set_n h
  have sM2 : hv M2 60 2 = c6.toInt := by rw [← hM2]; exact hb_set_v hm1 rfl (by decide)
  have wM2 : ∀ b, b ≠ 60 → M2 b = M1 b := by intro b h; rw [← hM2]; exact hb_set_c h
  refine he_aload (n := 11) (i := 0) (by decide +kernel) rfl ?_
  refine he_iconst (n := 12) (c := -1) (by decide +kernel) (by decide) ?_
  intro c11 hc11
  refine hb_pfd (n := 15) (ci := 7) (j := 4) (t := 0) (ns := [1196, 27]) hm2 (by decide +kernel) rfl rfl (by decide) (.inl rfl) ?_
  generalize hM3 : hb_set M2 60 4 c11 = M3
  have hm3 : mz_sh mz_GG M3 := by rw [← hM3]; exact hb_set_sh hm2 rfl rfl (by omega) (by omega)
  have eM3 : ∀ b j, b ≠ 60 ∨ j ≠ 4 → hv M3 b j = hv M2 b j := by intro b j h; rw [← hM3]; exact hb_set_n h
  have sM3 : hv M3 60 4 = c11.toInt := by rw [← hM3]; exact hb_set_v hm2 rfl (by decide)
  have wM3 : ∀ b, b ≠ 60 → M3 b = M2 b := by intro b h; rw [← hM3]; exact hb_set_c h
  refine he_aload (n := 16) (i := 0) (by decide +kernel) rfl ?_
  refine he_iconst (n := 17) (c := 0) (by decide +kernel) (by decide) ?_
  intro c16 hc16
  refine hb_pfd (n := 20) (ci := 7) (j := 5) (t := 0) (ns := [1197, 30]) hm3 (by decide +kernel) rfl rfl (by decide) (.inl rfl) ?_
  generalize hM4 : hb_set M3 60 5 c16 = M4
  have hm4 : mz_sh mz_GG M4 := by rw [← hM4]; exact hb_set_sh hm3 rfl rfl (by omega) (by omega)
  have eM4 : ∀ b j, b ≠ 60 ∨ j ≠ 5 → hv M4 b j = hv M3 b j := by intro b j h; rw [← hM4]; exact hb_set_n h
  have sM4 : hv M4 60 5 = c16.toInt := by rw [← hM4]; exact hb_set_v hm3 rfl (by decide)
  have wM4 : ∀ b, b ≠ 60 → M4 b = M3 b := by intro b h; rw [← hM4]; exact hb_set_c h
  refine he_aload (n := 21) (i := 0) (by decide +kernel) rfl ?_
  refine he_iconst (n := 22) (c := 0) (by decide +kernel) (by decide) ?_
  intro c21 hc21
  refine hb_pfd (n := 25) (ci := 7) (j := 6) (t := 0) (ns := [1198, 33]) hm4 (by decide +kernel) rfl rfl (by decide) (.inl rfl) ?_
  generalize hM5 : hb_set M4 60 6 c21 = M5
  have hm5 : mz_sh mz_GG M5 := by rw [← hM5]; exact hb_set_sh hm4 rfl rfl (by omega) (by omega)
  have eM5 : ∀ b j, b ≠ 60 ∨ j ≠ 6 → hv M5 b j = hv M4 b j := by intro b j h; rw [← hM5]; exact hb_set_n h
  have sM5 : hv M5 60 6 = c21.toInt := by rw [← hM5]; exact hb_set_v hm4 rfl (by decide)
  have wM5 : ∀ b, b ≠ 60 → M5 b = M4 b := by intro b h; rw [← hM5]; exact hb_set_c h
  refine he_iconst (n := 26) (c := 0) (by decide +kernel) (by decide) ?_
  intro c25 hc25
  refine he_istore (n := 27) (i := 1) (by decide +kernel) rfl ?_
  have V5 : xMV 58 M0 M5 xm0 ∧ hv M5 60 0 = 0 := by
    refine ⟨⟨hm5, fun b hb => ?_, ?_, ?_, ?_, ?_, fun i hi => absurd hi (Nat.not_lt_zero i), fun i j h1 h2 h3 => ?_, .inl rfl, .inl rfl⟩, ?_⟩
    · rw [wM5 b (by omega), wM4 b (by omega), wM3 b (by omega), wM2 b (by omega), wM1 b (by omega)]
      exact hw b hb
    · rw [eM5 _ _ (.inr (by decide)), eM4 _ _ (.inr (by decide)), sM3]
      show _ = -1
      omega
    · rw [eM5 _ _ (.inr (by decide)), sM4]
      show _ = (0 : Int32).toInt
      rw [show (0 : Int32).toInt = 0 from rfl]
      omega
    · rw [sM5]
      show _ = 0
      omega
    · rw [eM5 _ _ (.inr (by decide)), eM4 _ _ (.inr (by decide)), eM3 _ _ (.inr (by decide)), sM2]
      show _ = 0
      omega
    · exfalso
      have h9 : hv M5 (58 + 2) 2 = 0 := by
        rw [eM5 _ _ (.inr (by decide)), eM4 _ _ (.inr (by decide)), eM3 _ _ (.inr (by decide)), sM2]
        omega
      omega
    · rw [eM5 _ _ (.inr (by decide)), eM4 _ _ (.inr (by decide)), eM3 _ _ (.inr (by decide)), eM2 _ _ (.inr (by decide)), sM1]
      omega
  have loop : ∀ (m : Nat) (M' : Nat → mq_C) (x1 : Int32), x1.toInt + (m : Int) = 4 → 0 ≤ x1.toInt → xMV 58 M0 M' xm0 → hv M' 60 0 = 0 → mq_R mq_PP d 82 27 [some (.ref 60), some (.int x1)] [] (M', z, u) Q := by
    intro m
    induction m with
    | zero =>
      intro M' x1 e1 e2 hV h0
      refine he_iload (n := 28) (i := 1) (by decide +kernel) rfl ?_
      refine he_iconst (n := 29) (c := 4) (by decide +kernel) (by decide) ?_
      intro cl28 hcl28
      refine he_cmpge_t (n := 32) (t := 45) (by decide +kernel) (by omega) ?_
      refine he_ret (by decide +kernel) ?_
      exact K M' hV h0
    | succ m ih =>
      intro M' x1 e1 e2 hV h0
      refine he_iload (n := 28) (i := 1) (by decide +kernel) rfl ?_
      refine he_iconst (n := 29) (c := 4) (by decide +kernel) (by decide) ?_
      intro cl28 hcl28
      refine he_cmpge_f (n := 32) (t := 45) (by decide +kernel) (by omega) ?_
      refine he_aload (n := 33) (i := 0) (by decide +kernel) rfl ?_
      refine he_getr (n := 36) (ci := 7) (j := 3) (ns := [1194, 23]) (b := 62) hV.1 (by decide +kernel) rfl rfl (by decide +kernel) ?_
      refine he_iload (n := 37) (i := 1) (by decide +kernel) rfl ?_
      refine he_iconst (n := 38) (c := 0) (by decide +kernel) (by decide) ?_
      intro cl37 hcl37
      refine hb_sta (n := 39) (kind := 65) hV.1 (by decide +kernel) rfl rfl (.inr ⟨rfl, he_01 (by omega)⟩) (by omega) (show _ < (4 : Int) by omega) ?_
      generalize hMl1 : hb_set M' 62 (x1.toInt.toNat) cl37 = Ml1
      have hml1 : mz_sh mz_GG Ml1 := by rw [← hMl1]; exact hb_set_sh hV.1 rfl hb_at1 (by omega) (by omega)
      have eMl1 : ∀ b j, b ≠ 62 ∨ j ≠ x1.toInt.toNat → hv Ml1 b j = hv M' b j := by intro b j h; rw [← hMl1]; exact hb_set_n h
      have sMl1 : hv Ml1 62 (x1.toInt.toNat) = cl37.toInt := by rw [← hMl1]; exact hb_set_v hV.1 rfl (show _ < 4 by omega)
      have wMl1 : ∀ b, b ≠ 62 → Ml1 b = M' b := by intro b h; rw [← hMl1]; exact hb_set_c h
      refine he_iinc (n := 42) (i := 1) (c := 1) (L' := fun v => [some (.ref (60)), some (.int v)]) (by decide +kernel) (by decide) rfl (fun _ => rfl) (by omega) (by omega) ?_
      intro il39 hil39
      refine he_goto (t := 27) (by decide +kernel) ?_
      have uu : ∀ b t, b ≠ 62 → hv Ml1 b t = hv M' b t := fun b t hb => eMl1 _ _ (.inl hb)
      obtain ⟨y1, y2, y3, y4, y5, y6, y7, y8, y9, y10⟩ := id hV
      refine ih Ml1 _ (by omega) (by omega) ⟨hml1, fun b hb => by rw [wMl1 b (by omega)]; exact y2 b hb, by rw [uu _ _ (by decide)]; exact y3, by rw [uu _ _ (by decide)]; exact y4, by rw [uu _ _ (by decide)]; exact y5, by rw [uu _ _ (by decide)]; exact y6, fun i hi => by rw [uu _ _ (by decide)]; exact y7 i hi, ?_, y9, y10⟩ (by rw [uu _ _ (by decide)]; exact h0)
      rw [uu _ _ (by decide), show (fun i => hv Ml1 (58 + 3) i) = fun i => hv M' (58 + 3) i from funext fun i => uu _ _ (by decide)]
      exact y8
  exact loop 4 M5 _ (by omega) (by omega) V5.1 V5.2
