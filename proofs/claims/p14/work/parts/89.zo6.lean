/-! Contents; the class's unpack of an entry and examine, exactly. -/
def xbit (b : Nat → Int) (i : Nat) : Int := b (i / 8) / 2 ^ (i % 8) % 2
def xcont (b : Nat → Int) (r : xRc) : Option (List Int) := match xop r.2.1 (8 * r.2.2.2.2.1.toNat) (fun i => xbit b (8 * (r.2.2.2.2.2.toNat + 2) + i)) with
  | some o => if (o.length : Int) = r.2.2.2.1 ∧ (xsum o).toInt = r.2.2.1 then some o else none
  | none => none
/-- what a readable archive holds -/
def xrd (b : Nat → Int) (len : Nat) : Option (List xRc × xMs) := match xsnd b len with
  | none => none
  | some l => match l.find? (fun r => decide (r.1 = 77)) with
    | none => some (l, xm0)
    | some r => match xcont b r with
      | none => none
      | some o => match xman (fun i => o.getD i 0) o.length with
        | none => none
        | some s => some (l, s)
theorem xo_fd {x : Int} : ∀ (l : List xRc) (j : Nat), j < l.length → (l.getD j xd0).1 = x → (∀ i, i < j → ¬ (l.getD i xd0).1 = x) → l.find? (fun r => decide (r.1 = x)) = some (l.getD j xd0) := by
  intro l
  induction l with
  | nil => intro j hj; exact absurd hj (Nat.not_lt_zero j)
  | cons a l ih =>
    intro j hj h1 h2
    rw [List.find?_cons]
    cases j with
    | zero =>
      have h1 : a.1 = x := h1
      rw [decide_eq_true h1]
      rfl
    | succ j =>
      have h3 : ¬ a.1 = x := h2 0 (by omega)
      rw [decide_eq_false h3]
      exact ih j (by have : j + 1 < l.length + 1 := hj; omega) h1 (fun i hi => h2 (i + 1) (by omega))
theorem xo_fn {x : Int} : ∀ l : List xRc, (∀ i, i < l.length → ¬ (l.getD i xd0).1 = x) → l.find? (fun r => decide (r.1 = x)) = none := by
  intro l
  induction l with
  | nil => intro _; rfl
  | cons a l ih =>
    intro h
    rw [List.find?_cons, decide_eq_false (show ¬ a.1 = x from h 0 (by show 0 < l.length + 1; omega))]
    exact ih (fun i hi => h (i + 1) (by show i + 1 < l.length + 1; omega))
theorem xmbs_c {t t' : Nat → Int} : ∀ (m i : Nat) (s : xMs), (∀ k, i ≤ k → k < i + m → t k = t' k) → xmbs t m i s = xmbs t' m i s := by
  intro m
  induction m with
  | zero => intro i s _; rfl
  | succ m ih =>
    intro i s h
    show (match xmb s (t i) with | some s' => xmbs t m (i + 1) s' | none => none) = (match xmb s (t' i) with | some s' => xmbs t' m (i + 1) s' | none => none)
    rw [h i (by omega) (by omega)]
    cases xmb s (t' i) with
    | none => rfl
    | some s' => exact ih (i + 1) s' (fun k h1 h2 => h k (by omega) (by omega))
theorem xmc_c {t t' : Nat → Int} {s : xMs} {f e : Nat} (hfe : f < e) (h : ∀ k, f ≤ k → k < e → t k = t' k) : xmc t s f e ↔ xmc t' s f e := by
  unfold xmc
  rw [h f (by omega) hfe]
  constructor
  · rintro ⟨h1, h2, h3, h4, h5⟩
    exact ⟨h1, h2, h3, by rw [← h (f + 1) (by omega) (by omega)]; exact h4, h5⟩
  · rintro ⟨h1, h2, h3, h4, h5⟩
    exact ⟨h1, h2, h3, by rw [h (f + 1) (by omega) (by omega)]; exact h4, h5⟩
theorem xml_c {t t' : Nat → Int} {s : xMs} {f e : Nat} (hfe : f ≤ e) (h : ∀ k, f ≤ k → k < e → t k = t' k) : xml t s f e = xml t' s f e := by
  unfold xml
  by_cases h1 : e = f ∨ 8 < e - f
  · rw [if_pos h1, if_pos h1]
  · rw [if_neg h1, if_neg h1]
    have hf := h f (by omega) (by omega)
    by_cases h2 : t f = 32
    · have h2' : t' f = 32 := hf ▸ h2
      rw [if_pos h2, if_pos h2']
      by_cases h4 : s.1 = -1
      · rw [if_pos h4, if_pos h4]
      · rw [if_neg h4, if_neg h4]
        exact xmbs_c _ _ _ (fun k a b => h k (by omega) (by omega))
    · have h2' : ¬ t' f = 32 := hf ▸ h2
      rw [if_neg h2, if_neg h2']
      by_cases h3 : xmc t s f e
      · have h3' : xmc t' s f e := (xmc_c (by omega) h).mp h3
        rw [if_pos h3, if_pos h3', hf]
        exact xmbs_c _ _ _ (fun k a b => h k (by omega) (by omega))
      · have h3' : ¬ xmc t' s f e := fun h4 => h3 ((xmc_c (by omega) h).mpr h4)
        rw [if_neg h3, if_neg h3']
theorem xmr_c {t t' : Nat → Int} : ∀ (m i f : Nat) (s : xMs), f ≤ i → (∀ k, f ≤ k → k < i + m → t k = t' k) → xmr t m i f s = xmr t' m i f s := by
  intro m
  induction m with
  | zero => intro i f s _ _; rfl
  | succ m ih =>
    intro i f s hf h
    show (if t i = 10 then (match xml t s f i with | some s' => xmr t m (i + 1) (i + 1) s' | none => none) else xmr t m (i + 1) f s) = (if t' i = 10 then (match xml t' s f i with | some s' => xmr t' m (i + 1) (i + 1) s' | none => none) else xmr t' m (i + 1) f s)
    rw [h i hf (by omega), xml_c hf (fun k a b => h k a (by omega)), ih (i + 1) f s (by omega) (fun k a b => h k a (by omega))]
    by_cases h1 : t' i = 10
    · rw [if_pos h1, if_pos h1]
      cases xml t' s f i with
      | none => rfl
      | some s' => exact ih (i + 1) (i + 1) s' (Nat.le_refl _) (fun k a b => h k (by omega) (by omega))
    · rw [if_neg h1, if_neg h1]
theorem xman_c {t t' : Nat → Int} {len : Nat} (h : ∀ k, k < len → t k = t' k) : xman t len = xman t' len := by
  unfold xman
  rw [xmr_c len 0 0 xm0 (Nat.le_refl _) (fun k _ b => h k (by omega))]
theorem xo_unp47 {d z u : Nat} {M : Nat → mq_C} {Q : (Option Value ⊕ Nat) → mq_S → Prop} {x1 : Int32} {n : Nat} (hm : mz_sh mz_GG M) (hn : hv M 47 4 = (n : Int)) (hn6 : n ≤ 6) (hp : ∀ i, i < n → xut (xcr M 47 i) ≤ 240) (hMO : M 1 = (60, mq_MO)) (hTL : xT M 24 288 xfL) (hTD : xT M 28 32 xfD) (K0 : ∀ r : Int32, ¬ (0 ≤ x1.toInt ∧ x1.toInt < (n : Int)) → r.toInt = 0 → Q (.inl (some (.int r))) (M, z, u)) (K : ∀ (M' : Nat → mq_C) (r : Int32), (0 ≤ x1.toInt ∧ x1.toInt < (n : Int)) → mz_sh mz_GG M' → (∀ b, b < 9 ∨ 24 ≤ b → M' b = M b) → (∀ o, xcont (hv M 48) (xcr M 47 x1.toInt.toNat) = some o → r.toInt = 1 ∧ hv M' 9 1 = (o.length : Int) ∧ o.length ≤ 200 ∧ ∀ t, t < o.length → hv M' 10 t = o.getD t 0) → (xcont (hv M 48) (xcr M 47 x1.toInt.toNat) = none → r.toInt = 0) → Q (.inl (some (.int r))) (M', z, u)) : mq_R mq_PP (d + 5) 49 0 [some (.ref 47), some (.int x1), some (.ref 9), none] [] (M, z, u) Q := by
  refine he_iload (n := 1) (i := 1) (by decide +kernel) rfl ?_
  by_cases g1 : x1.toInt < 0
  · skip
    refine he_iflt_t (n := 4) (t := 12) (by decide +kernel) (by omega) ?_
    refine he_iconst (n := 13) (c := 0) (by decide +kernel) (by decide) ?_
    intro c12 hc12
    refine he_retz (by decide +kernel) (by omega) ?_
    exact K0 _ (fun h => by omega) (by omega)
  refine he_iflt_f (n := 4) (t := 12) (by decide +kernel) (by omega) ?_
  refine he_iload (n := 5) (i := 1) (by decide +kernel) rfl ?_
  refine he_aload (n := 6) (i := 0) (by decide +kernel) rfl ?_
  refine hb_gfd (n := 9) (ci := 1) (j := 4) (ns := [1224, 30]) hm (by decide +kernel) rfl rfl (by decide) rfl ?_
  intro v6 hv6 lv6 uv6
  by_cases g9 : x1.toInt < v6.toInt
  rotate_left
  · skip
    refine he_cmplt_f (n := 12) (t := 14) (by decide +kernel) (by omega) ?_
    refine he_iconst (n := 13) (c := 0) (by decide +kernel) (by decide) ?_
    intro c12 hc12
    refine he_retz (by decide +kernel) (by omega) ?_
    exact K0 _ (fun h => by omega) (by omega)
  have hin : 0 ≤ x1.toInt ∧ x1.toInt < (n : Int) := ⟨by omega, by omega⟩
  have hp1 := hp x1.toInt.toNat (by omega)
  have hp2 : hv M 57 x1.toInt.toNat + 2 + hv M 56 x1.toInt.toNat ≤ 240 := hp1
  refine he_cmplt_t (n := 12) (t := 14) (by decide +kernel) (by omega) ?_
  refine he_aload (n := 15) (i := 0) (by decide +kernel) rfl ?_
  refine he_getr (n := 18) (ci := 1) (j := 10) (ns := [1230, 48]) (b := 57) hm (by decide +kernel) rfl rfl (by decide +kernel) ?_
  refine he_iload (n := 19) (i := 1) (by decide +kernel) rfl ?_
  refine hb_ld (n := 20) (kind := 64) hm (by decide +kernel) rfl rfl (.inl rfl) (by omega) (show _ < (6 : Int) by omega) hb_at1 ?_
  intro v19 hv19 lv19 uv19
  refine he_iconst (n := 21) (c := 2) (by decide +kernel) (by decide) ?_
  intro c20 hc20
  refine he_iadd (n := 22) (by decide +kernel) (by omega) (by omega) ?_
  intro v21 hv21
  refine he_istore (n := 23) (i := 3) (by decide +kernel) rfl ?_
  refine he_aload (n := 24) (i := 2) (by decide +kernel) rfl ?_
  refine he_aload (n := 25) (i := 0) (by decide +kernel) rfl ?_
  refine he_getr (n := 28) (ci := 1) (j := 6) (ns := [1226, 36]) (b := 53) hm (by decide +kernel) rfl rfl (by decide +kernel) ?_
  refine he_iload (n := 29) (i := 1) (by decide +kernel) rfl ?_
  refine hb_ld (n := 30) (kind := 64) hm (by decide +kernel) rfl rfl (.inl rfl) (by omega) (show _ < (6 : Int) by omega) hb_at1 ?_
  intro v29 hv29 lv29 uv29
  refine he_aload (n := 31) (i := 0) (by decide +kernel) rfl ?_
  refine he_getr (n := 34) (ci := 1) (j := 0) (ns := [1214, 9]) (b := 48) hm (by decide +kernel) rfl rfl (by decide +kernel) ?_
  refine he_iload (n := 35) (i := 3) (by decide +kernel) rfl ?_
  refine he_aload (n := 36) (i := 0) (by decide +kernel) rfl ?_
  refine he_getr (n := 39) (ci := 1) (j := 9) (ns := [1229, 45]) (b := 56) hm (by decide +kernel) rfl rfl (by decide +kernel) ?_
  refine he_iload (n := 40) (i := 1) (by decide +kernel) rfl ?_
  refine hb_ld (n := 41) (kind := 64) hm (by decide +kernel) rfl rfl (.inl rfl) (by omega) (show _ < (6 : Int) by omega) hb_at1 ?_
  intro v40 hv40 lv40 uv40
  refine he_v4 (n := 44) (j := 92) (ci := 8) (mx := 7) (ns := [3038, 2143, 2144, 76]) (by decide +kernel) ((hb_kd (a := 9) hm rfl).trans rfl) (by show 0 ≤ 8; omega) (by show 5 ≤ 7; omega) ?_
  rw [mq_e92]
  refine xj_unpack (pk := 48) (f := (hv M 57 x1.toInt.toNat).toNat + 2) (cnt := (hv M 56 x1.toInt.toNat).toNat) (ln := 240) hm rfl (by decide) (by decide) (.inr (by decide)) (by omega) (by omega) (by omega) hMO hTL hTD ?_
  intro M1 r1 hm1 w1 k1 k0
  show mq_R mq_PP (d + 5) 49 44 _ [.int r1] (M1, z, u) Q
  have u1 : ∀ b j, b < 9 ∨ 24 ≤ b → hv M1 b j = hv M b j := fun b j hb => hb_vc (w1 b hb) j
  have eX : xcont (hv M 48) (xcr M 47 x1.toInt.toNat) = (match xop v29.toInt (8 * (hv M 56 x1.toInt.toNat).toNat) (fun i => xB M 48 (8 * ((hv M 57 x1.toInt.toNat).toNat + 2) + i)) with | some o => if (o.length : Int) = hv M 55 x1.toInt.toNat ∧ (xsum o).toInt = hv M 54 x1.toInt.toNat then some o else none | none => none) := by
    rw [← hv29]
    rfl
  rw [eX] at K
  clear eX
  cases hxo : xop v29.toInt (8 * (hv M 56 x1.toInt.toNat).toNat) (fun i => xB M 48 (8 * ((hv M 57 x1.toInt.toNat).toNat + 2) + i)) with
  | none =>
    have hr1 := k0 hxo
    rw [hxo] at K
    refine he_ifeq_t (n := 47) (t := 77) (by decide +kernel) (by omega) ?_
    refine he_iconst (n := 78) (c := 0) (by decide +kernel) (by decide) ?_
    intro ca77 hca77
    refine he_retz (by decide +kernel) (by omega) ?_
    exact K M1 _ hin hm1 w1 (fun o h => by cases h) (fun _ => by omega)
  | some o' =>
    obtain ⟨hr1, g2, g3⟩ := k1 o' hxo
    have ho : o'.length ≤ 200 := by
      have h := lx_rg91 hm1
      omega
    rw [hxo] at K
    have K := fun (M' : Nat → mq_C) (r : Int32) (g1 : 0 ≤ x1.toInt ∧ x1.toInt < (n : Int)) (g2 : mz_sh mz_GG M') (g3 : ∀ b, b < 9 ∨ 24 ≤ b → M' b = M b) (g4 : ∀ o, (if (o'.length : Int) = hv M 55 x1.toInt.toNat ∧ (xsum o').toInt = hv M 54 x1.toInt.toNat then some o' else none) = some o → r.toInt = 1 ∧ hv M' 9 1 = (o.length : Int) ∧ o.length ≤ 200 ∧ ∀ t, t < o.length → hv M' 10 t = o.getD t 0) (g5 : (if (o'.length : Int) = hv M 55 x1.toInt.toNat ∧ (xsum o').toInt = hv M 54 x1.toInt.toNat then some o' else none) = none → r.toInt = 0) => K M' r g1 g2 g3 g4 g5
    refine he_ifeq_f (n := 47) (t := 77) (by decide +kernel) (by omega) ?_
    refine he_aload (n := 48) (i := 2) (by decide +kernel) rfl ?_
    refine hb_gfd (n := 51) (ci := 8) (j := 1) (ns := [1069, 71]) hm1 (by decide +kernel) rfl rfl (by decide) rfl ?_
    intro va48 hva48 lva48 uva48
    refine he_aload (n := 52) (i := 0) (by decide +kernel) rfl ?_
    refine he_getr (n := 55) (ci := 1) (j := 8) (ns := [1228, 42]) (b := 55) hm1 (by decide +kernel) rfl rfl (by decide +kernel) ?_
    refine he_iload (n := 56) (i := 1) (by decide +kernel) rfl ?_
    refine hb_ld (n := 57) (kind := 64) hm1 (by decide +kernel) rfl rfl (.inl rfl) (by omega) (show _ < (6 : Int) by omega) hb_at1 ?_
    intro va56 hva56 lva56 uva56
    have q48 : va48.toInt = (o'.length : Int) := by rw [← hva48]; exact g2
    have q56 : va56.toInt = hv M 55 x1.toInt.toNat := by rw [← hva56]; exact u1 _ _ (.inr (by decide))
    by_cases g57 : va48.toInt = va56.toInt
    rotate_left
    · have gN : ¬ ((o'.length : Int) = hv M 55 x1.toInt.toNat ∧ (xsum o').toInt = hv M 54 x1.toInt.toNat) := fun h => g57 (by have h1 := h.1; omega)
      rw [if_neg gN] at K
      refine he_cmpne_t (n := 60) (t := 77) (by decide +kernel) (by omega) ?_
      refine he_iconst (n := 78) (c := 0) (by decide +kernel) (by decide) ?_
      intro ca77 hca77
      refine he_retz (by decide +kernel) (by omega) ?_
      exact K M1 _ hin hm1 w1 (fun o h => by cases h) (fun _ => by omega)
    refine he_cmpne_f (n := 60) (t := 77) (by decide +kernel) (by omega) ?_
    refine he_aload (n := 61) (i := 2) (by decide +kernel) rfl ?_
    refine he_v0 (n := 64) (j := 93) (ci := 8) (mx := 4) (ns := [3039, 2222, 2223, 79]) (by decide +kernel) ((hb_kd (a := 9) hm1 rfl).trans rfl) (by show 0 ≤ 8; omega) (by show 1 ≤ 4; omega) ?_
    rw [mq_e93]
    refine xj_sum (o := o') hm1 g2 g3 ho ?_
    show mq_R mq_PP (d + 5) 49 64 _ [.int (xsum o')] (M1, z, u) Q
    generalize hsu : xsum o' = sv at K ⊢
    refine he_aload (n := 65) (i := 0) (by decide +kernel) rfl ?_
    refine he_getr (n := 68) (ci := 1) (j := 7) (ns := [1227, 39]) (b := 54) hm1 (by decide +kernel) rfl rfl (by decide +kernel) ?_
    refine he_iload (n := 69) (i := 1) (by decide +kernel) rfl ?_
    refine hb_ld (n := 70) (kind := 64) hm1 (by decide +kernel) rfl rfl (.inl rfl) (by omega) (show _ < (6 : Int) by omega) hb_at1 ?_
    intro vb69 hvb69 lvb69 uvb69
    have q69 : vb69.toInt = hv M 54 x1.toInt.toNat := by rw [← hvb69]; exact u1 _ _ (.inr (by decide))
    by_cases g70 : sv.toInt = vb69.toInt
    · have gN : ((o'.length : Int) = hv M 55 x1.toInt.toNat ∧ sv.toInt = hv M 54 x1.toInt.toNat) := ⟨by omega, by omega⟩
      rw [if_pos gN] at K
      refine he_cmpne_f (n := 73) (t := 77) (by decide +kernel) (by omega) ?_
      refine he_iconst (n := 74) (c := 1) (by decide +kernel) (by decide) ?_
      intro cb73 hcb73
      refine he_goto (t := 78) (by decide +kernel) ?_
      refine he_retz (by decide +kernel) (by omega) ?_
      exact K M1 _ hin hm1 w1 (fun o h => by cases h; exact ⟨by omega, g2, ho, g3⟩) (fun h => by cases h)
    · have gN : ¬ ((o'.length : Int) = hv M 55 x1.toInt.toNat ∧ sv.toInt = hv M 54 x1.toInt.toNat) := fun h => g70 (by have h1 := h.2; omega)
      rw [if_neg gN] at K
      refine he_cmpne_t (n := 73) (t := 77) (by decide +kernel) (by omega) ?_
      refine he_iconst (n := 78) (c := 0) (by decide +kernel) (by decide) ?_
      intro cb77 hcb77
      refine he_retz (by decide +kernel) (by omega) ?_
      exact K M1 _ hin hm1 w1 (fun o h => by cases h) (fun _ => by omega)
theorem xo_unp58 {d z u : Nat} {M : Nat → mq_C} {Q : (Option Value ⊕ Nat) → mq_S → Prop} {x1 : Int32} {n : Nat} (hm : mz_sh mz_GG M) (hn : hv M 58 4 = (n : Int)) (hn6 : n ≤ 6) (hp : ∀ i, i < n → xut (xcr M 58 i) ≤ 240) (hMO : M 1 = (60, mq_MO)) (hTL : xT M 24 288 xfL) (hTD : xT M 28 32 xfD) (K0 : ∀ r : Int32, ¬ (0 ≤ x1.toInt ∧ x1.toInt < (n : Int)) → r.toInt = 0 → Q (.inl (some (.int r))) (M, z, u)) (K : ∀ (M' : Nat → mq_C) (r : Int32), (0 ≤ x1.toInt ∧ x1.toInt < (n : Int)) → mz_sh mz_GG M' → (∀ b, b < 9 ∨ 24 ≤ b → M' b = M b) → (∀ o, xcont (hv M 59) (xcr M 58 x1.toInt.toNat) = some o → r.toInt = 1 ∧ hv M' 9 1 = (o.length : Int) ∧ o.length ≤ 200 ∧ ∀ t, t < o.length → hv M' 10 t = o.getD t 0) → (xcont (hv M 59) (xcr M 58 x1.toInt.toNat) = none → r.toInt = 0) → Q (.inl (some (.int r))) (M', z, u)) : mq_R mq_PP (d + 5) 49 0 [some (.ref 58), some (.int x1), some (.ref 9), none] [] (M, z, u) Q := by
  refine he_iload (n := 1) (i := 1) (by decide +kernel) rfl ?_
  by_cases g1 : x1.toInt < 0
  · skip
    refine he_iflt_t (n := 4) (t := 12) (by decide +kernel) (by omega) ?_
    refine he_iconst (n := 13) (c := 0) (by decide +kernel) (by decide) ?_
    intro c12 hc12
    refine he_retz (by decide +kernel) (by omega) ?_
    exact K0 _ (fun h => by omega) (by omega)
  refine he_iflt_f (n := 4) (t := 12) (by decide +kernel) (by omega) ?_
  refine he_iload (n := 5) (i := 1) (by decide +kernel) rfl ?_
  refine he_aload (n := 6) (i := 0) (by decide +kernel) rfl ?_
  refine hb_gfd (n := 9) (ci := 1) (j := 4) (ns := [1224, 30]) hm (by decide +kernel) rfl rfl (by decide) rfl ?_
  intro v6 hv6 lv6 uv6
  by_cases g9 : x1.toInt < v6.toInt
  rotate_left
  · skip
    refine he_cmplt_f (n := 12) (t := 14) (by decide +kernel) (by omega) ?_
    refine he_iconst (n := 13) (c := 0) (by decide +kernel) (by decide) ?_
    intro c12 hc12
    refine he_retz (by decide +kernel) (by omega) ?_
    exact K0 _ (fun h => by omega) (by omega)
  have hin : 0 ≤ x1.toInt ∧ x1.toInt < (n : Int) := ⟨by omega, by omega⟩
  have hp1 := hp x1.toInt.toNat (by omega)
  have hp2 : hv M 68 x1.toInt.toNat + 2 + hv M 67 x1.toInt.toNat ≤ 240 := hp1
  refine he_cmplt_t (n := 12) (t := 14) (by decide +kernel) (by omega) ?_
  refine he_aload (n := 15) (i := 0) (by decide +kernel) rfl ?_
  refine he_getr (n := 18) (ci := 1) (j := 10) (ns := [1230, 48]) (b := 68) hm (by decide +kernel) rfl rfl (by decide +kernel) ?_
  refine he_iload (n := 19) (i := 1) (by decide +kernel) rfl ?_
  refine hb_ld (n := 20) (kind := 64) hm (by decide +kernel) rfl rfl (.inl rfl) (by omega) (show _ < (6 : Int) by omega) hb_at1 ?_
  intro v19 hv19 lv19 uv19
  refine he_iconst (n := 21) (c := 2) (by decide +kernel) (by decide) ?_
  intro c20 hc20
  refine he_iadd (n := 22) (by decide +kernel) (by omega) (by omega) ?_
  intro v21 hv21
  refine he_istore (n := 23) (i := 3) (by decide +kernel) rfl ?_
  refine he_aload (n := 24) (i := 2) (by decide +kernel) rfl ?_
  refine he_aload (n := 25) (i := 0) (by decide +kernel) rfl ?_
  refine he_getr (n := 28) (ci := 1) (j := 6) (ns := [1226, 36]) (b := 64) hm (by decide +kernel) rfl rfl (by decide +kernel) ?_
  refine he_iload (n := 29) (i := 1) (by decide +kernel) rfl ?_
  refine hb_ld (n := 30) (kind := 64) hm (by decide +kernel) rfl rfl (.inl rfl) (by omega) (show _ < (6 : Int) by omega) hb_at1 ?_
  intro v29 hv29 lv29 uv29
  refine he_aload (n := 31) (i := 0) (by decide +kernel) rfl ?_
  refine he_getr (n := 34) (ci := 1) (j := 0) (ns := [1214, 9]) (b := 59) hm (by decide +kernel) rfl rfl (by decide +kernel) ?_
  refine he_iload (n := 35) (i := 3) (by decide +kernel) rfl ?_
  refine he_aload (n := 36) (i := 0) (by decide +kernel) rfl ?_
  refine he_getr (n := 39) (ci := 1) (j := 9) (ns := [1229, 45]) (b := 67) hm (by decide +kernel) rfl rfl (by decide +kernel) ?_
  refine he_iload (n := 40) (i := 1) (by decide +kernel) rfl ?_
  refine hb_ld (n := 41) (kind := 64) hm (by decide +kernel) rfl rfl (.inl rfl) (by omega) (show _ < (6 : Int) by omega) hb_at1 ?_
  intro v40 hv40 lv40 uv40
  refine he_v4 (n := 44) (j := 92) (ci := 8) (mx := 7) (ns := [3038, 2143, 2144, 76]) (by decide +kernel) ((hb_kd (a := 9) hm rfl).trans rfl) (by show 0 ≤ 8; omega) (by show 5 ≤ 7; omega) ?_
  rw [mq_e92]
  refine xj_unpack (pk := 59) (f := (hv M 68 x1.toInt.toNat).toNat + 2) (cnt := (hv M 67 x1.toInt.toNat).toNat) (ln := 240) hm rfl (by decide) (by decide) (.inr (by decide)) (by omega) (by omega) (by omega) hMO hTL hTD ?_
  intro M1 r1 hm1 w1 k1 k0
  show mq_R mq_PP (d + 5) 49 44 _ [.int r1] (M1, z, u) Q
  have u1 : ∀ b j, b < 9 ∨ 24 ≤ b → hv M1 b j = hv M b j := fun b j hb => hb_vc (w1 b hb) j
  have eX : xcont (hv M 59) (xcr M 58 x1.toInt.toNat) = (match xop v29.toInt (8 * (hv M 67 x1.toInt.toNat).toNat) (fun i => xB M 59 (8 * ((hv M 68 x1.toInt.toNat).toNat + 2) + i)) with | some o => if (o.length : Int) = hv M 66 x1.toInt.toNat ∧ (xsum o).toInt = hv M 65 x1.toInt.toNat then some o else none | none => none) := by
    rw [← hv29]
    rfl
  rw [eX] at K
  clear eX
  cases hxo : xop v29.toInt (8 * (hv M 67 x1.toInt.toNat).toNat) (fun i => xB M 59 (8 * ((hv M 68 x1.toInt.toNat).toNat + 2) + i)) with
  | none =>
    have hr1 := k0 hxo
    rw [hxo] at K
    refine he_ifeq_t (n := 47) (t := 77) (by decide +kernel) (by omega) ?_
    refine he_iconst (n := 78) (c := 0) (by decide +kernel) (by decide) ?_
    intro ca77 hca77
    refine he_retz (by decide +kernel) (by omega) ?_
    exact K M1 _ hin hm1 w1 (fun o h => by cases h) (fun _ => by omega)
  | some o' =>
    obtain ⟨hr1, g2, g3⟩ := k1 o' hxo
    have ho : o'.length ≤ 200 := by
      have h := lx_rg91 hm1
      omega
    rw [hxo] at K
    have K := fun (M' : Nat → mq_C) (r : Int32) (g1 : 0 ≤ x1.toInt ∧ x1.toInt < (n : Int)) (g2 : mz_sh mz_GG M') (g3 : ∀ b, b < 9 ∨ 24 ≤ b → M' b = M b) (g4 : ∀ o, (if (o'.length : Int) = hv M 66 x1.toInt.toNat ∧ (xsum o').toInt = hv M 65 x1.toInt.toNat then some o' else none) = some o → r.toInt = 1 ∧ hv M' 9 1 = (o.length : Int) ∧ o.length ≤ 200 ∧ ∀ t, t < o.length → hv M' 10 t = o.getD t 0) (g5 : (if (o'.length : Int) = hv M 66 x1.toInt.toNat ∧ (xsum o').toInt = hv M 65 x1.toInt.toNat then some o' else none) = none → r.toInt = 0) => K M' r g1 g2 g3 g4 g5
    refine he_ifeq_f (n := 47) (t := 77) (by decide +kernel) (by omega) ?_
    refine he_aload (n := 48) (i := 2) (by decide +kernel) rfl ?_
    refine hb_gfd (n := 51) (ci := 8) (j := 1) (ns := [1069, 71]) hm1 (by decide +kernel) rfl rfl (by decide) rfl ?_
    intro va48 hva48 lva48 uva48
    refine he_aload (n := 52) (i := 0) (by decide +kernel) rfl ?_
    refine he_getr (n := 55) (ci := 1) (j := 8) (ns := [1228, 42]) (b := 66) hm1 (by decide +kernel) rfl rfl (by decide +kernel) ?_
    refine he_iload (n := 56) (i := 1) (by decide +kernel) rfl ?_
    refine hb_ld (n := 57) (kind := 64) hm1 (by decide +kernel) rfl rfl (.inl rfl) (by omega) (show _ < (6 : Int) by omega) hb_at1 ?_
    intro va56 hva56 lva56 uva56
    have q48 : va48.toInt = (o'.length : Int) := by rw [← hva48]; exact g2
    have q56 : va56.toInt = hv M 66 x1.toInt.toNat := by rw [← hva56]; exact u1 _ _ (.inr (by decide))
    by_cases g57 : va48.toInt = va56.toInt
    rotate_left
    · have gN : ¬ ((o'.length : Int) = hv M 66 x1.toInt.toNat ∧ (xsum o').toInt = hv M 65 x1.toInt.toNat) := fun h => g57 (by have h1 := h.1; omega)
      rw [if_neg gN] at K
      refine he_cmpne_t (n := 60) (t := 77) (by decide +kernel) (by omega) ?_
      refine he_iconst (n := 78) (c := 0) (by decide +kernel) (by decide) ?_
      intro ca77 hca77
      refine he_retz (by decide +kernel) (by omega) ?_
      exact K M1 _ hin hm1 w1 (fun o h => by cases h) (fun _ => by omega)
    refine he_cmpne_f (n := 60) (t := 77) (by decide +kernel) (by omega) ?_
    refine he_aload (n := 61) (i := 2) (by decide +kernel) rfl ?_
    refine he_v0 (n := 64) (j := 93) (ci := 8) (mx := 4) (ns := [3039, 2222, 2223, 79]) (by decide +kernel) ((hb_kd (a := 9) hm1 rfl).trans rfl) (by show 0 ≤ 8; omega) (by show 1 ≤ 4; omega) ?_
    rw [mq_e93]
    refine xj_sum (o := o') hm1 g2 g3 ho ?_
    show mq_R mq_PP (d + 5) 49 64 _ [.int (xsum o')] (M1, z, u) Q
    generalize hsu : xsum o' = sv at K ⊢
    refine he_aload (n := 65) (i := 0) (by decide +kernel) rfl ?_
    refine he_getr (n := 68) (ci := 1) (j := 7) (ns := [1227, 39]) (b := 65) hm1 (by decide +kernel) rfl rfl (by decide +kernel) ?_
    refine he_iload (n := 69) (i := 1) (by decide +kernel) rfl ?_
    refine hb_ld (n := 70) (kind := 64) hm1 (by decide +kernel) rfl rfl (.inl rfl) (by omega) (show _ < (6 : Int) by omega) hb_at1 ?_
    intro vb69 hvb69 lvb69 uvb69
    have q69 : vb69.toInt = hv M 65 x1.toInt.toNat := by rw [← hvb69]; exact u1 _ _ (.inr (by decide))
    by_cases g70 : sv.toInt = vb69.toInt
    · have gN : ((o'.length : Int) = hv M 66 x1.toInt.toNat ∧ sv.toInt = hv M 65 x1.toInt.toNat) := ⟨by omega, by omega⟩
      rw [if_pos gN] at K
      refine he_cmpne_f (n := 73) (t := 77) (by decide +kernel) (by omega) ?_
      refine he_iconst (n := 74) (c := 1) (by decide +kernel) (by decide) ?_
      intro cb73 hcb73
      refine he_goto (t := 78) (by decide +kernel) ?_
      refine he_retz (by decide +kernel) (by omega) ?_
      exact K M1 _ hin hm1 w1 (fun o h => by cases h; exact ⟨by omega, g2, ho, g3⟩) (fun h => by cases h)
    · have gN : ¬ ((o'.length : Int) = hv M 66 x1.toInt.toNat ∧ sv.toInt = hv M 65 x1.toInt.toNat) := fun h => g70 (by have h1 := h.2; omega)
      rw [if_neg gN] at K
      refine he_cmpne_t (n := 73) (t := 77) (by decide +kernel) (by omega) ?_
      refine he_iconst (n := 78) (c := 0) (by decide +kernel) (by decide) ?_
      intro cb77 hcb77
      refine he_retz (by decide +kernel) (by omega) ?_
      exact K M1 _ hin hm1 w1 (fun o h => by cases h) (fun _ => by omega)
theorem xo_unp69 {d z u : Nat} {M : Nat → mq_C} {Q : (Option Value ⊕ Nat) → mq_S → Prop} {x1 : Int32} {n : Nat} (hm : mz_sh mz_GG M) (hn : hv M 69 4 = (n : Int)) (hn6 : n ≤ 6) (hp : ∀ i, i < n → xut (xcr M 69 i) ≤ 240) (hMO : M 1 = (60, mq_MO)) (hTL : xT M 24 288 xfL) (hTD : xT M 28 32 xfD) (K0 : ∀ r : Int32, ¬ (0 ≤ x1.toInt ∧ x1.toInt < (n : Int)) → r.toInt = 0 → Q (.inl (some (.int r))) (M, z, u)) (K : ∀ (M' : Nat → mq_C) (r : Int32), (0 ≤ x1.toInt ∧ x1.toInt < (n : Int)) → mz_sh mz_GG M' → (∀ b, b < 9 ∨ 24 ≤ b → M' b = M b) → (∀ o, xcont (hv M 70) (xcr M 69 x1.toInt.toNat) = some o → r.toInt = 1 ∧ hv M' 9 1 = (o.length : Int) ∧ o.length ≤ 200 ∧ ∀ t, t < o.length → hv M' 10 t = o.getD t 0) → (xcont (hv M 70) (xcr M 69 x1.toInt.toNat) = none → r.toInt = 0) → Q (.inl (some (.int r))) (M', z, u)) : mq_R mq_PP (d + 5) 49 0 [some (.ref 69), some (.int x1), some (.ref 9), none] [] (M, z, u) Q := by
  refine he_iload (n := 1) (i := 1) (by decide +kernel) rfl ?_
  by_cases g1 : x1.toInt < 0
  · skip
    refine he_iflt_t (n := 4) (t := 12) (by decide +kernel) (by omega) ?_
    refine he_iconst (n := 13) (c := 0) (by decide +kernel) (by decide) ?_
    intro c12 hc12
    refine he_retz (by decide +kernel) (by omega) ?_
    exact K0 _ (fun h => by omega) (by omega)
  refine he_iflt_f (n := 4) (t := 12) (by decide +kernel) (by omega) ?_
  refine he_iload (n := 5) (i := 1) (by decide +kernel) rfl ?_
  refine he_aload (n := 6) (i := 0) (by decide +kernel) rfl ?_
  refine hb_gfd (n := 9) (ci := 1) (j := 4) (ns := [1224, 30]) hm (by decide +kernel) rfl rfl (by decide) rfl ?_
  intro v6 hv6 lv6 uv6
  by_cases g9 : x1.toInt < v6.toInt
  rotate_left
  · skip
    refine he_cmplt_f (n := 12) (t := 14) (by decide +kernel) (by omega) ?_
    refine he_iconst (n := 13) (c := 0) (by decide +kernel) (by decide) ?_
    intro c12 hc12
    refine he_retz (by decide +kernel) (by omega) ?_
    exact K0 _ (fun h => by omega) (by omega)
  have hin : 0 ≤ x1.toInt ∧ x1.toInt < (n : Int) := ⟨by omega, by omega⟩
  have hp1 := hp x1.toInt.toNat (by omega)
  have hp2 : hv M 79 x1.toInt.toNat + 2 + hv M 78 x1.toInt.toNat ≤ 240 := hp1
  refine he_cmplt_t (n := 12) (t := 14) (by decide +kernel) (by omega) ?_
  refine he_aload (n := 15) (i := 0) (by decide +kernel) rfl ?_
  refine he_getr (n := 18) (ci := 1) (j := 10) (ns := [1230, 48]) (b := 79) hm (by decide +kernel) rfl rfl (by decide +kernel) ?_
  refine he_iload (n := 19) (i := 1) (by decide +kernel) rfl ?_
  refine hb_ld (n := 20) (kind := 64) hm (by decide +kernel) rfl rfl (.inl rfl) (by omega) (show _ < (6 : Int) by omega) hb_at1 ?_
  intro v19 hv19 lv19 uv19
  refine he_iconst (n := 21) (c := 2) (by decide +kernel) (by decide) ?_
  intro c20 hc20
  refine he_iadd (n := 22) (by decide +kernel) (by omega) (by omega) ?_
  intro v21 hv21
  refine he_istore (n := 23) (i := 3) (by decide +kernel) rfl ?_
  refine he_aload (n := 24) (i := 2) (by decide +kernel) rfl ?_
  refine he_aload (n := 25) (i := 0) (by decide +kernel) rfl ?_
  refine he_getr (n := 28) (ci := 1) (j := 6) (ns := [1226, 36]) (b := 75) hm (by decide +kernel) rfl rfl (by decide +kernel) ?_
  refine he_iload (n := 29) (i := 1) (by decide +kernel) rfl ?_
  refine hb_ld (n := 30) (kind := 64) hm (by decide +kernel) rfl rfl (.inl rfl) (by omega) (show _ < (6 : Int) by omega) hb_at1 ?_
  intro v29 hv29 lv29 uv29
  refine he_aload (n := 31) (i := 0) (by decide +kernel) rfl ?_
  refine he_getr (n := 34) (ci := 1) (j := 0) (ns := [1214, 9]) (b := 70) hm (by decide +kernel) rfl rfl (by decide +kernel) ?_
  refine he_iload (n := 35) (i := 3) (by decide +kernel) rfl ?_
  refine he_aload (n := 36) (i := 0) (by decide +kernel) rfl ?_
  refine he_getr (n := 39) (ci := 1) (j := 9) (ns := [1229, 45]) (b := 78) hm (by decide +kernel) rfl rfl (by decide +kernel) ?_
  refine he_iload (n := 40) (i := 1) (by decide +kernel) rfl ?_
  refine hb_ld (n := 41) (kind := 64) hm (by decide +kernel) rfl rfl (.inl rfl) (by omega) (show _ < (6 : Int) by omega) hb_at1 ?_
  intro v40 hv40 lv40 uv40
  refine he_v4 (n := 44) (j := 92) (ci := 8) (mx := 7) (ns := [3038, 2143, 2144, 76]) (by decide +kernel) ((hb_kd (a := 9) hm rfl).trans rfl) (by show 0 ≤ 8; omega) (by show 5 ≤ 7; omega) ?_
  rw [mq_e92]
  refine xj_unpack (pk := 70) (f := (hv M 79 x1.toInt.toNat).toNat + 2) (cnt := (hv M 78 x1.toInt.toNat).toNat) (ln := 240) hm rfl (by decide) (by decide) (.inr (by decide)) (by omega) (by omega) (by omega) hMO hTL hTD ?_
  intro M1 r1 hm1 w1 k1 k0
  show mq_R mq_PP (d + 5) 49 44 _ [.int r1] (M1, z, u) Q
  have u1 : ∀ b j, b < 9 ∨ 24 ≤ b → hv M1 b j = hv M b j := fun b j hb => hb_vc (w1 b hb) j
  have eX : xcont (hv M 70) (xcr M 69 x1.toInt.toNat) = (match xop v29.toInt (8 * (hv M 78 x1.toInt.toNat).toNat) (fun i => xB M 70 (8 * ((hv M 79 x1.toInt.toNat).toNat + 2) + i)) with | some o => if (o.length : Int) = hv M 77 x1.toInt.toNat ∧ (xsum o).toInt = hv M 76 x1.toInt.toNat then some o else none | none => none) := by
    rw [← hv29]
    rfl
  rw [eX] at K
  clear eX
  cases hxo : xop v29.toInt (8 * (hv M 78 x1.toInt.toNat).toNat) (fun i => xB M 70 (8 * ((hv M 79 x1.toInt.toNat).toNat + 2) + i)) with
  | none =>
    have hr1 := k0 hxo
    rw [hxo] at K
    refine he_ifeq_t (n := 47) (t := 77) (by decide +kernel) (by omega) ?_
    refine he_iconst (n := 78) (c := 0) (by decide +kernel) (by decide) ?_
    intro ca77 hca77
    refine he_retz (by decide +kernel) (by omega) ?_
    exact K M1 _ hin hm1 w1 (fun o h => by cases h) (fun _ => by omega)
  | some o' =>
    obtain ⟨hr1, g2, g3⟩ := k1 o' hxo
    have ho : o'.length ≤ 200 := by
      have h := lx_rg91 hm1
      omega
    rw [hxo] at K
    have K := fun (M' : Nat → mq_C) (r : Int32) (g1 : 0 ≤ x1.toInt ∧ x1.toInt < (n : Int)) (g2 : mz_sh mz_GG M') (g3 : ∀ b, b < 9 ∨ 24 ≤ b → M' b = M b) (g4 : ∀ o, (if (o'.length : Int) = hv M 77 x1.toInt.toNat ∧ (xsum o').toInt = hv M 76 x1.toInt.toNat then some o' else none) = some o → r.toInt = 1 ∧ hv M' 9 1 = (o.length : Int) ∧ o.length ≤ 200 ∧ ∀ t, t < o.length → hv M' 10 t = o.getD t 0) (g5 : (if (o'.length : Int) = hv M 77 x1.toInt.toNat ∧ (xsum o').toInt = hv M 76 x1.toInt.toNat then some o' else none) = none → r.toInt = 0) => K M' r g1 g2 g3 g4 g5
    refine he_ifeq_f (n := 47) (t := 77) (by decide +kernel) (by omega) ?_
    refine he_aload (n := 48) (i := 2) (by decide +kernel) rfl ?_
    refine hb_gfd (n := 51) (ci := 8) (j := 1) (ns := [1069, 71]) hm1 (by decide +kernel) rfl rfl (by decide) rfl ?_
    intro va48 hva48 lva48 uva48
    refine he_aload (n := 52) (i := 0) (by decide +kernel) rfl ?_
    refine he_getr (n := 55) (ci := 1) (j := 8) (ns := [1228, 42]) (b := 77) hm1 (by decide +kernel) rfl rfl (by decide +kernel) ?_
    refine he_iload (n := 56) (i := 1) (by decide +kernel) rfl ?_
    refine hb_ld (n := 57) (kind := 64) hm1 (by decide +kernel) rfl rfl (.inl rfl) (by omega) (show _ < (6 : Int) by omega) hb_at1 ?_
    intro va56 hva56 lva56 uva56
    have q48 : va48.toInt = (o'.length : Int) := by rw [← hva48]; exact g2
    have q56 : va56.toInt = hv M 77 x1.toInt.toNat := by rw [← hva56]; exact u1 _ _ (.inr (by decide))
    by_cases g57 : va48.toInt = va56.toInt
    rotate_left
    · have gN : ¬ ((o'.length : Int) = hv M 77 x1.toInt.toNat ∧ (xsum o').toInt = hv M 76 x1.toInt.toNat) := fun h => g57 (by have h1 := h.1; omega)
      rw [if_neg gN] at K
      refine he_cmpne_t (n := 60) (t := 77) (by decide +kernel) (by omega) ?_
      refine he_iconst (n := 78) (c := 0) (by decide +kernel) (by decide) ?_
      intro ca77 hca77
      refine he_retz (by decide +kernel) (by omega) ?_
      exact K M1 _ hin hm1 w1 (fun o h => by cases h) (fun _ => by omega)
    refine he_cmpne_f (n := 60) (t := 77) (by decide +kernel) (by omega) ?_
    refine he_aload (n := 61) (i := 2) (by decide +kernel) rfl ?_
    refine he_v0 (n := 64) (j := 93) (ci := 8) (mx := 4) (ns := [3039, 2222, 2223, 79]) (by decide +kernel) ((hb_kd (a := 9) hm1 rfl).trans rfl) (by show 0 ≤ 8; omega) (by show 1 ≤ 4; omega) ?_
    rw [mq_e93]
    refine xj_sum (o := o') hm1 g2 g3 ho ?_
    show mq_R mq_PP (d + 5) 49 64 _ [.int (xsum o')] (M1, z, u) Q
    generalize hsu : xsum o' = sv at K ⊢
    refine he_aload (n := 65) (i := 0) (by decide +kernel) rfl ?_
    refine he_getr (n := 68) (ci := 1) (j := 7) (ns := [1227, 39]) (b := 76) hm1 (by decide +kernel) rfl rfl (by decide +kernel) ?_
    refine he_iload (n := 69) (i := 1) (by decide +kernel) rfl ?_
    refine hb_ld (n := 70) (kind := 64) hm1 (by decide +kernel) rfl rfl (.inl rfl) (by omega) (show _ < (6 : Int) by omega) hb_at1 ?_
    intro vb69 hvb69 lvb69 uvb69
    have q69 : vb69.toInt = hv M 76 x1.toInt.toNat := by rw [← hvb69]; exact u1 _ _ (.inr (by decide))
    by_cases g70 : sv.toInt = vb69.toInt
    · have gN : ((o'.length : Int) = hv M 77 x1.toInt.toNat ∧ sv.toInt = hv M 76 x1.toInt.toNat) := ⟨by omega, by omega⟩
      rw [if_pos gN] at K
      refine he_cmpne_f (n := 73) (t := 77) (by decide +kernel) (by omega) ?_
      refine he_iconst (n := 74) (c := 1) (by decide +kernel) (by decide) ?_
      intro cb73 hcb73
      refine he_goto (t := 78) (by decide +kernel) ?_
      refine he_retz (by decide +kernel) (by omega) ?_
      exact K M1 _ hin hm1 w1 (fun o h => by cases h; exact ⟨by omega, g2, ho, g3⟩) (fun h => by cases h)
    · have gN : ¬ ((o'.length : Int) = hv M 77 x1.toInt.toNat ∧ sv.toInt = hv M 76 x1.toInt.toNat) := fun h => g70 (by have h1 := h.2; omega)
      rw [if_neg gN] at K
      refine he_cmpne_t (n := 73) (t := 77) (by decide +kernel) (by omega) ?_
      refine he_iconst (n := 78) (c := 0) (by decide +kernel) (by decide) ?_
      intro cb77 hcb77
      refine he_retz (by decide +kernel) (by omega) ?_
      exact K M1 _ hin hm1 w1 (fun o h => by cases h) (fun _ => by omega)
theorem xo_unp80 {d z u : Nat} {M : Nat → mq_C} {Q : (Option Value ⊕ Nat) → mq_S → Prop} {x1 : Int32} {n : Nat} (hm : mz_sh mz_GG M) (hn : hv M 80 4 = (n : Int)) (hn6 : n ≤ 6) (hp : ∀ i, i < n → xut (xcr M 80 i) ≤ 240) (hMO : M 1 = (60, mq_MO)) (hTL : xT M 24 288 xfL) (hTD : xT M 28 32 xfD) (K0 : ∀ r : Int32, ¬ (0 ≤ x1.toInt ∧ x1.toInt < (n : Int)) → r.toInt = 0 → Q (.inl (some (.int r))) (M, z, u)) (K : ∀ (M' : Nat → mq_C) (r : Int32), (0 ≤ x1.toInt ∧ x1.toInt < (n : Int)) → mz_sh mz_GG M' → (∀ b, b < 9 ∨ 24 ≤ b → M' b = M b) → (∀ o, xcont (hv M 81) (xcr M 80 x1.toInt.toNat) = some o → r.toInt = 1 ∧ hv M' 9 1 = (o.length : Int) ∧ o.length ≤ 200 ∧ ∀ t, t < o.length → hv M' 10 t = o.getD t 0) → (xcont (hv M 81) (xcr M 80 x1.toInt.toNat) = none → r.toInt = 0) → Q (.inl (some (.int r))) (M', z, u)) : mq_R mq_PP (d + 5) 49 0 [some (.ref 80), some (.int x1), some (.ref 9), none] [] (M, z, u) Q := by
  refine he_iload (n := 1) (i := 1) (by decide +kernel) rfl ?_
  by_cases g1 : x1.toInt < 0
  · skip
    refine he_iflt_t (n := 4) (t := 12) (by decide +kernel) (by omega) ?_
    refine he_iconst (n := 13) (c := 0) (by decide +kernel) (by decide) ?_
    intro c12 hc12
    refine he_retz (by decide +kernel) (by omega) ?_
    exact K0 _ (fun h => by omega) (by omega)
  refine he_iflt_f (n := 4) (t := 12) (by decide +kernel) (by omega) ?_
  refine he_iload (n := 5) (i := 1) (by decide +kernel) rfl ?_
  refine he_aload (n := 6) (i := 0) (by decide +kernel) rfl ?_
  refine hb_gfd (n := 9) (ci := 1) (j := 4) (ns := [1224, 30]) hm (by decide +kernel) rfl rfl (by decide) rfl ?_
  intro v6 hv6 lv6 uv6
  by_cases g9 : x1.toInt < v6.toInt
  rotate_left
  · skip
    refine he_cmplt_f (n := 12) (t := 14) (by decide +kernel) (by omega) ?_
    refine he_iconst (n := 13) (c := 0) (by decide +kernel) (by decide) ?_
    intro c12 hc12
    refine he_retz (by decide +kernel) (by omega) ?_
    exact K0 _ (fun h => by omega) (by omega)
  have hin : 0 ≤ x1.toInt ∧ x1.toInt < (n : Int) := ⟨by omega, by omega⟩
  have hp1 := hp x1.toInt.toNat (by omega)
  have hp2 : hv M 90 x1.toInt.toNat + 2 + hv M 89 x1.toInt.toNat ≤ 240 := hp1
  refine he_cmplt_t (n := 12) (t := 14) (by decide +kernel) (by omega) ?_
  refine he_aload (n := 15) (i := 0) (by decide +kernel) rfl ?_
  refine he_getr (n := 18) (ci := 1) (j := 10) (ns := [1230, 48]) (b := 90) hm (by decide +kernel) rfl rfl (by decide +kernel) ?_
  refine he_iload (n := 19) (i := 1) (by decide +kernel) rfl ?_
  refine hb_ld (n := 20) (kind := 64) hm (by decide +kernel) rfl rfl (.inl rfl) (by omega) (show _ < (6 : Int) by omega) hb_at1 ?_
  intro v19 hv19 lv19 uv19
  refine he_iconst (n := 21) (c := 2) (by decide +kernel) (by decide) ?_
  intro c20 hc20
  refine he_iadd (n := 22) (by decide +kernel) (by omega) (by omega) ?_
  intro v21 hv21
  refine he_istore (n := 23) (i := 3) (by decide +kernel) rfl ?_
  refine he_aload (n := 24) (i := 2) (by decide +kernel) rfl ?_
  refine he_aload (n := 25) (i := 0) (by decide +kernel) rfl ?_
  refine he_getr (n := 28) (ci := 1) (j := 6) (ns := [1226, 36]) (b := 86) hm (by decide +kernel) rfl rfl (by decide +kernel) ?_
  refine he_iload (n := 29) (i := 1) (by decide +kernel) rfl ?_
  refine hb_ld (n := 30) (kind := 64) hm (by decide +kernel) rfl rfl (.inl rfl) (by omega) (show _ < (6 : Int) by omega) hb_at1 ?_
  intro v29 hv29 lv29 uv29
  refine he_aload (n := 31) (i := 0) (by decide +kernel) rfl ?_
  refine he_getr (n := 34) (ci := 1) (j := 0) (ns := [1214, 9]) (b := 81) hm (by decide +kernel) rfl rfl (by decide +kernel) ?_
  refine he_iload (n := 35) (i := 3) (by decide +kernel) rfl ?_
  refine he_aload (n := 36) (i := 0) (by decide +kernel) rfl ?_
  refine he_getr (n := 39) (ci := 1) (j := 9) (ns := [1229, 45]) (b := 89) hm (by decide +kernel) rfl rfl (by decide +kernel) ?_
  refine he_iload (n := 40) (i := 1) (by decide +kernel) rfl ?_
  refine hb_ld (n := 41) (kind := 64) hm (by decide +kernel) rfl rfl (.inl rfl) (by omega) (show _ < (6 : Int) by omega) hb_at1 ?_
  intro v40 hv40 lv40 uv40
  refine he_v4 (n := 44) (j := 92) (ci := 8) (mx := 7) (ns := [3038, 2143, 2144, 76]) (by decide +kernel) ((hb_kd (a := 9) hm rfl).trans rfl) (by show 0 ≤ 8; omega) (by show 5 ≤ 7; omega) ?_
  rw [mq_e92]
  refine xj_unpack (pk := 81) (f := (hv M 90 x1.toInt.toNat).toNat + 2) (cnt := (hv M 89 x1.toInt.toNat).toNat) (ln := 240) hm rfl (by decide) (by decide) (.inr (by decide)) (by omega) (by omega) (by omega) hMO hTL hTD ?_
  intro M1 r1 hm1 w1 k1 k0
  show mq_R mq_PP (d + 5) 49 44 _ [.int r1] (M1, z, u) Q
  have u1 : ∀ b j, b < 9 ∨ 24 ≤ b → hv M1 b j = hv M b j := fun b j hb => hb_vc (w1 b hb) j
  have eX : xcont (hv M 81) (xcr M 80 x1.toInt.toNat) = (match xop v29.toInt (8 * (hv M 89 x1.toInt.toNat).toNat) (fun i => xB M 81 (8 * ((hv M 90 x1.toInt.toNat).toNat + 2) + i)) with | some o => if (o.length : Int) = hv M 88 x1.toInt.toNat ∧ (xsum o).toInt = hv M 87 x1.toInt.toNat then some o else none | none => none) := by
    rw [← hv29]
    rfl
  rw [eX] at K
  clear eX
  cases hxo : xop v29.toInt (8 * (hv M 89 x1.toInt.toNat).toNat) (fun i => xB M 81 (8 * ((hv M 90 x1.toInt.toNat).toNat + 2) + i)) with
  | none =>
    have hr1 := k0 hxo
    rw [hxo] at K
    refine he_ifeq_t (n := 47) (t := 77) (by decide +kernel) (by omega) ?_
    refine he_iconst (n := 78) (c := 0) (by decide +kernel) (by decide) ?_
    intro ca77 hca77
    refine he_retz (by decide +kernel) (by omega) ?_
    exact K M1 _ hin hm1 w1 (fun o h => by cases h) (fun _ => by omega)
  | some o' =>
    obtain ⟨hr1, g2, g3⟩ := k1 o' hxo
    have ho : o'.length ≤ 200 := by
      have h := lx_rg91 hm1
      omega
    rw [hxo] at K
    have K := fun (M' : Nat → mq_C) (r : Int32) (g1 : 0 ≤ x1.toInt ∧ x1.toInt < (n : Int)) (g2 : mz_sh mz_GG M') (g3 : ∀ b, b < 9 ∨ 24 ≤ b → M' b = M b) (g4 : ∀ o, (if (o'.length : Int) = hv M 88 x1.toInt.toNat ∧ (xsum o').toInt = hv M 87 x1.toInt.toNat then some o' else none) = some o → r.toInt = 1 ∧ hv M' 9 1 = (o.length : Int) ∧ o.length ≤ 200 ∧ ∀ t, t < o.length → hv M' 10 t = o.getD t 0) (g5 : (if (o'.length : Int) = hv M 88 x1.toInt.toNat ∧ (xsum o').toInt = hv M 87 x1.toInt.toNat then some o' else none) = none → r.toInt = 0) => K M' r g1 g2 g3 g4 g5
    refine he_ifeq_f (n := 47) (t := 77) (by decide +kernel) (by omega) ?_
    refine he_aload (n := 48) (i := 2) (by decide +kernel) rfl ?_
    refine hb_gfd (n := 51) (ci := 8) (j := 1) (ns := [1069, 71]) hm1 (by decide +kernel) rfl rfl (by decide) rfl ?_
    intro va48 hva48 lva48 uva48
    refine he_aload (n := 52) (i := 0) (by decide +kernel) rfl ?_
    refine he_getr (n := 55) (ci := 1) (j := 8) (ns := [1228, 42]) (b := 88) hm1 (by decide +kernel) rfl rfl (by decide +kernel) ?_
    refine he_iload (n := 56) (i := 1) (by decide +kernel) rfl ?_
    refine hb_ld (n := 57) (kind := 64) hm1 (by decide +kernel) rfl rfl (.inl rfl) (by omega) (show _ < (6 : Int) by omega) hb_at1 ?_
    intro va56 hva56 lva56 uva56
    have q48 : va48.toInt = (o'.length : Int) := by rw [← hva48]; exact g2
    have q56 : va56.toInt = hv M 88 x1.toInt.toNat := by rw [← hva56]; exact u1 _ _ (.inr (by decide))
    by_cases g57 : va48.toInt = va56.toInt
    rotate_left
    · have gN : ¬ ((o'.length : Int) = hv M 88 x1.toInt.toNat ∧ (xsum o').toInt = hv M 87 x1.toInt.toNat) := fun h => g57 (by have h1 := h.1; omega)
      rw [if_neg gN] at K
      refine he_cmpne_t (n := 60) (t := 77) (by decide +kernel) (by omega) ?_
      refine he_iconst (n := 78) (c := 0) (by decide +kernel) (by decide) ?_
      intro ca77 hca77
      refine he_retz (by decide +kernel) (by omega) ?_
      exact K M1 _ hin hm1 w1 (fun o h => by cases h) (fun _ => by omega)
    refine he_cmpne_f (n := 60) (t := 77) (by decide +kernel) (by omega) ?_
    refine he_aload (n := 61) (i := 2) (by decide +kernel) rfl ?_
    refine he_v0 (n := 64) (j := 93) (ci := 8) (mx := 4) (ns := [3039, 2222, 2223, 79]) (by decide +kernel) ((hb_kd (a := 9) hm1 rfl).trans rfl) (by show 0 ≤ 8; omega) (by show 1 ≤ 4; omega) ?_
    rw [mq_e93]
    refine xj_sum (o := o') hm1 g2 g3 ho ?_
    show mq_R mq_PP (d + 5) 49 64 _ [.int (xsum o')] (M1, z, u) Q
    generalize hsu : xsum o' = sv at K ⊢
    refine he_aload (n := 65) (i := 0) (by decide +kernel) rfl ?_
    refine he_getr (n := 68) (ci := 1) (j := 7) (ns := [1227, 39]) (b := 87) hm1 (by decide +kernel) rfl rfl (by decide +kernel) ?_
    refine he_iload (n := 69) (i := 1) (by decide +kernel) rfl ?_
    refine hb_ld (n := 70) (kind := 64) hm1 (by decide +kernel) rfl rfl (.inl rfl) (by omega) (show _ < (6 : Int) by omega) hb_at1 ?_
    intro vb69 hvb69 lvb69 uvb69
    have q69 : vb69.toInt = hv M 87 x1.toInt.toNat := by rw [← hvb69]; exact u1 _ _ (.inr (by decide))
    by_cases g70 : sv.toInt = vb69.toInt
    · have gN : ((o'.length : Int) = hv M 88 x1.toInt.toNat ∧ sv.toInt = hv M 87 x1.toInt.toNat) := ⟨by omega, by omega⟩
      rw [if_pos gN] at K
      refine he_cmpne_f (n := 73) (t := 77) (by decide +kernel) (by omega) ?_
      refine he_iconst (n := 74) (c := 1) (by decide +kernel) (by decide) ?_
      intro cb73 hcb73
      refine he_goto (t := 78) (by decide +kernel) ?_
      refine he_retz (by decide +kernel) (by omega) ?_
      exact K M1 _ hin hm1 w1 (fun o h => by cases h; exact ⟨by omega, g2, ho, g3⟩) (fun h => by cases h)
    · have gN : ¬ ((o'.length : Int) = hv M 88 x1.toInt.toNat ∧ sv.toInt = hv M 87 x1.toInt.toNat) := fun h => g70 (by have h1 := h.2; omega)
      rw [if_neg gN] at K
      refine he_cmpne_t (n := 73) (t := 77) (by decide +kernel) (by omega) ?_
      refine he_iconst (n := 78) (c := 0) (by decide +kernel) (by decide) ?_
      intro cb77 hcb77
      refine he_retz (by decide +kernel) (by omega) ?_
      exact K M1 _ hin hm1 w1 (fun o h => by cases h) (fun _ => by omega)
