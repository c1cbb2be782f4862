/-! The class's unpackPlace and content, exactly. -/
def xcbt (M : Nat → mq_C) (s : Nat) : Nat → Int := hv M (48 + 11 * s)
def xcl (M : Nat → mq_C) (s : Nat) : Nat := (hv M (47 + 11 * s) 1).toNat
def xEA (M : Nat → mq_C) : Prop := ∀ s : Nat, s < 4 → xEX (47 + 11 * s) (xcbt M s) (xcl M s) M
theorem xrd_s {b : Nat → Int} {len : Nat} {l : List xRc} {st : xMs} (hx : xrd b len = some (l, st)) : xsnd b len = some l := by
  unfold xrd at hx
  cases hy : xsnd b len with
  | none => rw [hy] at hx; cases hx
  | some l1 =>
    rw [hy] at hx
    have hx : (match l1.find? (fun r => decide (r.1 = 77)) with | none => some (l1, xm0) | some r => match xcont b r with | none => none | some o => match xman (fun i => o.getD i 0) o.length with | none => none | some s => some (l1, s)) = some (l, st) := hx
    split at hx
    · cases hx
      rfl
    · split at hx
      · cases hx
      · split at hx
        · cases hx
        · cases hx
          rfl
theorem xsnd_6 {b : Nat → Int} {len : Nat} {l : List xRc} (h : xsnd b len = some l) (h0 : 0 ≤ b (len - 3)) : l.length ≤ 6 := by
  have key : ∀ (m : Nat) (e dir : Nat) (l : List xRc) (a : Nat) (l' : List xRc) (a' : Nat), xrcs b e dir m l a = some (l', a') → l'.length = l.length + m := by
    intro m
    induction m with
    | zero =>
      intro e dir l a l' a' h2
      have h2 : some (l, a) = some (l', a') := h2
      cases h2
      rfl
    | succ m ih =>
      intro e dir l a l' a' h2
      have h2 : (match xrcd b e dir l a with | some (r, a') => xrcs b e dir m (l ++ [r]) a' | none => none) = some (l', a') := h2
      cases hx : xrcd b e dir l a with
      | none => rw [hx] at h2; cases h2
      | some q =>
        obtain ⟨r, a1⟩ := q
        rw [hx] at h2
        have := ih e dir (l ++ [r]) a1 l' a' h2
        rw [List.length_append] at this
        have : l'.length = l.length + 1 + m := this
        omega
  unfold xsnd at h
  by_cases c : 4 ≤ len ∧ b (len - 4) = 80 ∧ b (len - 3) ≤ 6
  · rw [if_pos c] at h
    cases hx : xrcs b (len - 4) (xnN b (len - 2) 2) (b (len - 3)).toNat [] (xnN b (len - 2) 2) with
    | none => rw [hx] at h; cases h
    | some q =>
      obtain ⟨l1, a1⟩ := q
      rw [hx] at h
      have h : (if a1 = len - 4 then some l1 else none) = some l := h
      by_cases ea : a1 = len - 4
      · rw [if_pos ea] at h
        cases h
        have := key _ _ _ _ _ _ _ hx
        have : l.length = 0 + (b (len - 3)).toNat := this
        omega
      · rw [if_neg ea] at h
        cases h
  · rw [if_neg c] at h
    cases h
theorem xo_place47 {d z u : Nat} {M : Nat → mq_C} {Q : (Option Value ⊕ Nat) → mq_S → Prop} {x1 : Int32} (hm : mz_sh mz_GG M) (hMO : M 1 = (60, mq_MO)) (hTL : xT M 24 288 xfL) (hTD : xT M 28 32 xfD) (hE : xEX 47 (hv M 48) (hv M 47 1).toNat M) (g : 0 ≤ x1.toInt ∧ x1.toInt < 32) (hs : x1.toInt / 8 = 0) (K : ∀ (M' : Nat → mq_C) (r : Int32), mz_sh mz_GG M' → (∀ o, xan1 (xcbt M) (xcl M) x1.toInt = some o → r.toInt = 1 ∧ hv M' 9 1 = (o.length : Int) ∧ o.length ≤ 200 ∧ ∀ t, t < o.length → hv M' 10 t = o.getD t 0) → (xan1 (xcbt M) (xcl M) x1.toInt = none → r.toInt = 0) → Q (.inl (some (.int r))) (M', z, u)) : mq_R mq_PP (d + 6) 27 0 [some (.ref 8), some (.int x1), none] [] (M, z, u) Q := by
  obtain ⟨g1, g2⟩ := id g
  have l2 := xx_rng (c := _) hm (a := 47) (i := 1) (lo := 0) (hi := 240) rfl (by decide) rfl
  unfold xan1 at K
  rw [if_pos g, show (x1.toInt / 8).toNat = 0 by omega] at K
  have K := fun (M' : Nat → mq_C) (r : Int32) (q1 : mz_sh mz_GG M') (q2 : ∀ o, (match xrd (hv M 48) (hv M 47 1).toNat with | none => none | some (l, _) => if x1.toInt % 8 < (l.length : Int) then xcont (hv M 48) (l.getD (x1.toInt % 8).toNat xd0) else none) = some o → r.toInt = 1 ∧ hv M' 9 1 = (o.length : Int) ∧ o.length ≤ 200 ∧ ∀ t, t < o.length → hv M' 10 t = o.getD t 0) (q3 : (match xrd (hv M 48) (hv M 47 1).toNat with | none => none | some (l, _) => if x1.toInt % 8 < (l.length : Int) then xcont (hv M 48) (l.getD (x1.toInt % 8).toNat xd0) else none) = none → r.toInt = 0) => K M' r q1 q2 q3
  refine he_iload (n := 1) (i := 1) (by decide +kernel) rfl ?_
  refine he_iflt_f (n := 4) (t := 10) (by decide +kernel) (by omega) ?_
  refine he_iload (n := 5) (i := 1) (by decide +kernel) rfl ?_
  refine he_iconst (n := 7) (c := 32) (by decide +kernel) (by decide) ?_
  intro c5 hc5
  refine he_cmplt_t (n := 10) (t := 12) (by decide +kernel) (by omega) ?_
  refine he_aload (n := 13) (i := 0) (by decide +kernel) rfl ?_
  refine he_getr (n := 16) (ci := 0) (j := 2) (ns := [2079, 25]) (b := 37) hm (by decide +kernel) rfl rfl (by decide +kernel) ?_
  refine he_iload (n := 17) (i := 1) (by decide +kernel) rfl ?_
  refine he_iconst (n := 19) (c := 8) (by decide +kernel) (by decide) ?_
  intro c17 hc17
  refine xe_div (c := 8) (n := 20) (by decide +kernel) hc17 (by decide) (by omega) ?_
  intro v19 hv19
  refine he_aald (n := 21) (kind := 71) (b := 47) hm (by decide +kernel) rfl rfl (by decide) (by omega) (by rw [show v19.toInt.toNat = 0 by omega]; decide +kernel) ?_
  refine he_astore (n := 22) (i := 2) (by decide +kernel) rfl ?_
  refine he_aload (n := 23) (i := 2) (by decide +kernel) rfl ?_
  refine hb_gfd (n := 26) (ci := 1) (j := 2) (ns := [1221, 220]) hm (by decide +kernel) rfl rfl (by decide) rfl ?_
  intro v23 hv23 lv23 uv23
  cases hx : xrd (hv M 48) (hv M 47 1).toNat with
  | none =>
    have h0 := hE.2 hx
    rw [hx] at K
    refine he_ifeq_t (n := 29) (t := 48) (by decide +kernel) (by omega) ?_
    refine he_iconst (n := 49) (c := 0) (by decide +kernel) (by decide) ?_
    intro c48 hc48
    refine he_retz (by decide +kernel) (by omega) ?_
    exact K M _ hm (fun o h => by cases h) (fun _ => by omega)
  | some q =>
    obtain ⟨l, st⟩ := q
    obtain ⟨e1, e2, e3, _, _, _⟩ := hE.1 l st hx
    have hsn := xrd_s hx
    have h6 : l.length ≤ 6 := by
      refine xsnd_6 hsn ?_
      exact (xx_rng (c := _) hm (a := 48) (i := (hv M 47 1).toNat - 3) (lo := 0) (hi := 255) rfl (show (hv M 47 1).toNat - 3 < 240 by omega) hb_at1).1
    rw [hx] at K
    have K := fun (M' : Nat → mq_C) (r : Int32) (q1 : mz_sh mz_GG M') (q2 : ∀ o, (if x1.toInt % 8 < (l.length : Int) then xcont (hv M 48) (l.getD (x1.toInt % 8).toNat xd0) else none) = some o → r.toInt = 1 ∧ hv M' 9 1 = (o.length : Int) ∧ o.length ≤ 200 ∧ ∀ t, t < o.length → hv M' 10 t = o.getD t 0) (q3 : (if x1.toInt % 8 < (l.length : Int) then xcont (hv M 48) (l.getD (x1.toInt % 8).toNat xd0) else none) = none → r.toInt = 0) => K M' r q1 q2 q3
    refine he_ifeq_f (n := 29) (t := 48) (by decide +kernel) (by omega) ?_
    refine he_aload (n := 30) (i := 2) (by decide +kernel) rfl ?_
    refine he_iload (n := 31) (i := 1) (by decide +kernel) rfl ?_
    refine he_iconst (n := 33) (c := 8) (by decide +kernel) (by decide) ?_
    intro c31 hc31
    refine xe_rem (c := 8) (n := 34) (by decide +kernel) hc31 (by decide) (by omega) ?_
    intro v33 hv33
    refine he_aload (n := 35) (i := 0) (by decide +kernel) rfl ?_
    refine he_getr (n := 38) (ci := 0) (j := 0) (ns := [2077, 12]) (b := 9) hm (by decide +kernel) rfl rfl (by decide +kernel) ?_
    refine he_v2 (n := 41) (j := 49) (ci := 1) (mx := 4) (ns := [3156, 3035, 3036, 223]) (by decide +kernel) ((hb_kd (a := 47) hm rfl).trans rfl) (by show 0 ≤ 8; omega) (by show 3 ≤ 4; omega) ?_
    rw [mq_e49]
    have hu : ∀ i, i < l.length → xut (xcr M 47 i) ≤ 240 := fun i hi => by rw [e3 i hi]; have := xsnd_u hsn _ (xo_gm hi); omega
    refine xo_unp47 (n := l.length) hm e2 h6 hu hMO hTL hTD ?_ ?_
    · intro r5 hne h5
      show mq_R mq_PP (d + 6) 27 41 _ [.int r5] (M, z, u) Q
      rw [if_neg (fun h => hne ⟨by omega, by omega⟩)] at K
      refine he_ifeq_t (n := 44) (t := 48) (by decide +kernel) (by omega) ?_
      refine he_iconst (n := 49) (c := 0) (by decide +kernel) (by decide) ?_
      intro cb48 hcb48
      refine he_retz (by decide +kernel) (by omega) ?_
      exact K M _ hm (fun o h => by cases h) (fun _ => by omega)
    · intro M2 r5 hin hm2 w2 t1 t0
      show mq_R mq_PP (d + 6) 27 41 _ [.int r5] (M2, z, u) Q
      rw [if_pos (by omega)] at K
      rw [show v33.toInt.toNat = (x1.toInt % 8).toNat by omega, e3 _ (by omega)] at t1 t0
      cases hco : xcont (hv M 48) (l.getD (x1.toInt % 8).toNat xd0) with
      | none =>
        have h5 := t0 hco
        rw [hco] at K
        refine he_ifeq_t (n := 44) (t := 48) (by decide +kernel) (by omega) ?_
        refine he_iconst (n := 49) (c := 0) (by decide +kernel) (by decide) ?_
        intro cc48 hcc48
        refine he_retz (by decide +kernel) (by omega) ?_
        exact K M2 _ hm2 (fun o h => by cases h) (fun _ => by omega)
      | some o =>
        obtain ⟨h5, g91, g200, g10⟩ := t1 o hco
        rw [hco] at K
        refine he_ifeq_f (n := 44) (t := 48) (by decide +kernel) (by omega) ?_
        refine he_iconst (n := 45) (c := 1) (by decide +kernel) (by decide) ?_
        intro cc44 hcc44
        refine he_goto (t := 49) (by decide +kernel) ?_
        refine he_retz (by decide +kernel) (by omega) ?_
        exact K M2 _ hm2 (fun o' h => by cases h; exact ⟨by omega, g91, g200, g10⟩) (fun h => by cases h)
theorem xo_place58 {d z u : Nat} {M : Nat → mq_C} {Q : (Option Value ⊕ Nat) → mq_S → Prop} {x1 : Int32} (hm : mz_sh mz_GG M) (hMO : M 1 = (60, mq_MO)) (hTL : xT M 24 288 xfL) (hTD : xT M 28 32 xfD) (hE : xEX 58 (hv M 59) (hv M 58 1).toNat M) (g : 0 ≤ x1.toInt ∧ x1.toInt < 32) (hs : x1.toInt / 8 = 1) (K : ∀ (M' : Nat → mq_C) (r : Int32), mz_sh mz_GG M' → (∀ o, xan1 (xcbt M) (xcl M) x1.toInt = some o → r.toInt = 1 ∧ hv M' 9 1 = (o.length : Int) ∧ o.length ≤ 200 ∧ ∀ t, t < o.length → hv M' 10 t = o.getD t 0) → (xan1 (xcbt M) (xcl M) x1.toInt = none → r.toInt = 0) → Q (.inl (some (.int r))) (M', z, u)) : mq_R mq_PP (d + 6) 27 0 [some (.ref 8), some (.int x1), none] [] (M, z, u) Q := by
  obtain ⟨g1, g2⟩ := id g
  have l2 := xx_rng (c := _) hm (a := 58) (i := 1) (lo := 0) (hi := 240) rfl (by decide) rfl
  unfold xan1 at K
  rw [if_pos g, show (x1.toInt / 8).toNat = 1 by omega] at K
  have K := fun (M' : Nat → mq_C) (r : Int32) (q1 : mz_sh mz_GG M') (q2 : ∀ o, (match xrd (hv M 59) (hv M 58 1).toNat with | none => none | some (l, _) => if x1.toInt % 8 < (l.length : Int) then xcont (hv M 59) (l.getD (x1.toInt % 8).toNat xd0) else none) = some o → r.toInt = 1 ∧ hv M' 9 1 = (o.length : Int) ∧ o.length ≤ 200 ∧ ∀ t, t < o.length → hv M' 10 t = o.getD t 0) (q3 : (match xrd (hv M 59) (hv M 58 1).toNat with | none => none | some (l, _) => if x1.toInt % 8 < (l.length : Int) then xcont (hv M 59) (l.getD (x1.toInt % 8).toNat xd0) else none) = none → r.toInt = 0) => K M' r q1 q2 q3
  refine he_iload (n := 1) (i := 1) (by decide +kernel) rfl ?_
  refine he_iflt_f (n := 4) (t := 10) (by decide +kernel) (by omega) ?_
  refine he_iload (n := 5) (i := 1) (by decide +kernel) rfl ?_
  refine he_iconst (n := 7) (c := 32) (by decide +kernel) (by decide) ?_
  intro c5 hc5
  refine he_cmplt_t (n := 10) (t := 12) (by decide +kernel) (by omega) ?_
  refine he_aload (n := 13) (i := 0) (by decide +kernel) rfl ?_
  refine he_getr (n := 16) (ci := 0) (j := 2) (ns := [2079, 25]) (b := 37) hm (by decide +kernel) rfl rfl (by decide +kernel) ?_
  refine he_iload (n := 17) (i := 1) (by decide +kernel) rfl ?_
  refine he_iconst (n := 19) (c := 8) (by decide +kernel) (by decide) ?_
  intro c17 hc17
  refine xe_div (c := 8) (n := 20) (by decide +kernel) hc17 (by decide) (by omega) ?_
  intro v19 hv19
  refine he_aald (n := 21) (kind := 71) (b := 58) hm (by decide +kernel) rfl rfl (by decide) (by omega) (by rw [show v19.toInt.toNat = 1 by omega]; decide +kernel) ?_
  refine he_astore (n := 22) (i := 2) (by decide +kernel) rfl ?_
  refine he_aload (n := 23) (i := 2) (by decide +kernel) rfl ?_
  refine hb_gfd (n := 26) (ci := 1) (j := 2) (ns := [1221, 220]) hm (by decide +kernel) rfl rfl (by decide) rfl ?_
  intro v23 hv23 lv23 uv23
  cases hx : xrd (hv M 59) (hv M 58 1).toNat with
  | none =>
    have h0 := hE.2 hx
    rw [hx] at K
    refine he_ifeq_t (n := 29) (t := 48) (by decide +kernel) (by omega) ?_
    refine he_iconst (n := 49) (c := 0) (by decide +kernel) (by decide) ?_
    intro c48 hc48
    refine he_retz (by decide +kernel) (by omega) ?_
    exact K M _ hm (fun o h => by cases h) (fun _ => by omega)
  | some q =>
    obtain ⟨l, st⟩ := q
    obtain ⟨e1, e2, e3, _, _, _⟩ := hE.1 l st hx
    have hsn := xrd_s hx
    have h6 : l.length ≤ 6 := by
      refine xsnd_6 hsn ?_
      exact (xx_rng (c := _) hm (a := 59) (i := (hv M 58 1).toNat - 3) (lo := 0) (hi := 255) rfl (show (hv M 58 1).toNat - 3 < 240 by omega) hb_at1).1
    rw [hx] at K
    have K := fun (M' : Nat → mq_C) (r : Int32) (q1 : mz_sh mz_GG M') (q2 : ∀ o, (if x1.toInt % 8 < (l.length : Int) then xcont (hv M 59) (l.getD (x1.toInt % 8).toNat xd0) else none) = some o → r.toInt = 1 ∧ hv M' 9 1 = (o.length : Int) ∧ o.length ≤ 200 ∧ ∀ t, t < o.length → hv M' 10 t = o.getD t 0) (q3 : (if x1.toInt % 8 < (l.length : Int) then xcont (hv M 59) (l.getD (x1.toInt % 8).toNat xd0) else none) = none → r.toInt = 0) => K M' r q1 q2 q3
    refine he_ifeq_f (n := 29) (t := 48) (by decide +kernel) (by omega) ?_
    refine he_aload (n := 30) (i := 2) (by decide +kernel) rfl ?_
    refine he_iload (n := 31) (i := 1) (by decide +kernel) rfl ?_
    refine he_iconst (n := 33) (c := 8) (by decide +kernel) (by decide) ?_
    intro c31 hc31
    refine xe_rem (c := 8) (n := 34) (by decide +kernel) hc31 (by decide) (by omega) ?_
    intro v33 hv33
    refine he_aload (n := 35) (i := 0) (by decide +kernel) rfl ?_
    refine he_getr (n := 38) (ci := 0) (j := 0) (ns := [2077, 12]) (b := 9) hm (by decide +kernel) rfl rfl (by decide +kernel) ?_
    refine he_v2 (n := 41) (j := 49) (ci := 1) (mx := 4) (ns := [3156, 3035, 3036, 223]) (by decide +kernel) ((hb_kd (a := 58) hm rfl).trans rfl) (by show 0 ≤ 8; omega) (by show 3 ≤ 4; omega) ?_
    rw [mq_e49]
    have hu : ∀ i, i < l.length → xut (xcr M 58 i) ≤ 240 := fun i hi => by rw [e3 i hi]; have := xsnd_u hsn _ (xo_gm hi); omega
    refine xo_unp58 (n := l.length) hm e2 h6 hu hMO hTL hTD ?_ ?_
    · intro r5 hne h5
      show mq_R mq_PP (d + 6) 27 41 _ [.int r5] (M, z, u) Q
      rw [if_neg (fun h => hne ⟨by omega, by omega⟩)] at K
      refine he_ifeq_t (n := 44) (t := 48) (by decide +kernel) (by omega) ?_
      refine he_iconst (n := 49) (c := 0) (by decide +kernel) (by decide) ?_
      intro cb48 hcb48
      refine he_retz (by decide +kernel) (by omega) ?_
      exact K M _ hm (fun o h => by cases h) (fun _ => by omega)
    · intro M2 r5 hin hm2 w2 t1 t0
      show mq_R mq_PP (d + 6) 27 41 _ [.int r5] (M2, z, u) Q
      rw [if_pos (by omega)] at K
      rw [show v33.toInt.toNat = (x1.toInt % 8).toNat by omega, e3 _ (by omega)] at t1 t0
      cases hco : xcont (hv M 59) (l.getD (x1.toInt % 8).toNat xd0) with
      | none =>
        have h5 := t0 hco
        rw [hco] at K
        refine he_ifeq_t (n := 44) (t := 48) (by decide +kernel) (by omega) ?_
        refine he_iconst (n := 49) (c := 0) (by decide +kernel) (by decide) ?_
        intro cc48 hcc48
        refine he_retz (by decide +kernel) (by omega) ?_
        exact K M2 _ hm2 (fun o h => by cases h) (fun _ => by omega)
      | some o =>
        obtain ⟨h5, g91, g200, g10⟩ := t1 o hco
        rw [hco] at K
        refine he_ifeq_f (n := 44) (t := 48) (by decide +kernel) (by omega) ?_
        refine he_iconst (n := 45) (c := 1) (by decide +kernel) (by decide) ?_
        intro cc44 hcc44
        refine he_goto (t := 49) (by decide +kernel) ?_
        refine he_retz (by decide +kernel) (by omega) ?_
        exact K M2 _ hm2 (fun o' h => by cases h; exact ⟨by omega, g91, g200, g10⟩) (fun h => by cases h)
theorem xo_place69 {d z u : Nat} {M : Nat → mq_C} {Q : (Option Value ⊕ Nat) → mq_S → Prop} {x1 : Int32} (hm : mz_sh mz_GG M) (hMO : M 1 = (60, mq_MO)) (hTL : xT M 24 288 xfL) (hTD : xT M 28 32 xfD) (hE : xEX 69 (hv M 70) (hv M 69 1).toNat M) (g : 0 ≤ x1.toInt ∧ x1.toInt < 32) (hs : x1.toInt / 8 = 2) (K : ∀ (M' : Nat → mq_C) (r : Int32), mz_sh mz_GG M' → (∀ o, xan1 (xcbt M) (xcl M) x1.toInt = some o → r.toInt = 1 ∧ hv M' 9 1 = (o.length : Int) ∧ o.length ≤ 200 ∧ ∀ t, t < o.length → hv M' 10 t = o.getD t 0) → (xan1 (xcbt M) (xcl M) x1.toInt = none → r.toInt = 0) → Q (.inl (some (.int r))) (M', z, u)) : mq_R mq_PP (d + 6) 27 0 [some (.ref 8), some (.int x1), none] [] (M, z, u) Q := by
  obtain ⟨g1, g2⟩ := id g
  have l2 := xx_rng (c := _) hm (a := 69) (i := 1) (lo := 0) (hi := 240) rfl (by decide) rfl
  unfold xan1 at K
  rw [if_pos g, show (x1.toInt / 8).toNat = 2 by omega] at K
  have K := fun (M' : Nat → mq_C) (r : Int32) (q1 : mz_sh mz_GG M') (q2 : ∀ o, (match xrd (hv M 70) (hv M 69 1).toNat with | none => none | some (l, _) => if x1.toInt % 8 < (l.length : Int) then xcont (hv M 70) (l.getD (x1.toInt % 8).toNat xd0) else none) = some o → r.toInt = 1 ∧ hv M' 9 1 = (o.length : Int) ∧ o.length ≤ 200 ∧ ∀ t, t < o.length → hv M' 10 t = o.getD t 0) (q3 : (match xrd (hv M 70) (hv M 69 1).toNat with | none => none | some (l, _) => if x1.toInt % 8 < (l.length : Int) then xcont (hv M 70) (l.getD (x1.toInt % 8).toNat xd0) else none) = none → r.toInt = 0) => K M' r q1 q2 q3
  refine he_iload (n := 1) (i := 1) (by decide +kernel) rfl ?_
  refine he_iflt_f (n := 4) (t := 10) (by decide +kernel) (by omega) ?_
  refine he_iload (n := 5) (i := 1) (by decide +kernel) rfl ?_
  refine he_iconst (n := 7) (c := 32) (by decide +kernel) (by decide) ?_
  intro c5 hc5
  refine he_cmplt_t (n := 10) (t := 12) (by decide +kernel) (by omega) ?_
  refine he_aload (n := 13) (i := 0) (by decide +kernel) rfl ?_
  refine he_getr (n := 16) (ci := 0) (j := 2) (ns := [2079, 25]) (b := 37) hm (by decide +kernel) rfl rfl (by decide +kernel) ?_
  refine he_iload (n := 17) (i := 1) (by decide +kernel) rfl ?_
  refine he_iconst (n := 19) (c := 8) (by decide +kernel) (by decide) ?_
  intro c17 hc17
  refine xe_div (c := 8) (n := 20) (by decide +kernel) hc17 (by decide) (by omega) ?_
  intro v19 hv19
  refine he_aald (n := 21) (kind := 71) (b := 69) hm (by decide +kernel) rfl rfl (by decide) (by omega) (by rw [show v19.toInt.toNat = 2 by omega]; decide +kernel) ?_
  refine he_astore (n := 22) (i := 2) (by decide +kernel) rfl ?_
  refine he_aload (n := 23) (i := 2) (by decide +kernel) rfl ?_
  refine hb_gfd (n := 26) (ci := 1) (j := 2) (ns := [1221, 220]) hm (by decide +kernel) rfl rfl (by decide) rfl ?_
  intro v23 hv23 lv23 uv23
  cases hx : xrd (hv M 70) (hv M 69 1).toNat with
  | none =>
    have h0 := hE.2 hx
    rw [hx] at K
    refine he_ifeq_t (n := 29) (t := 48) (by decide +kernel) (by omega) ?_
    refine he_iconst (n := 49) (c := 0) (by decide +kernel) (by decide) ?_
    intro c48 hc48
    refine he_retz (by decide +kernel) (by omega) ?_
    exact K M _ hm (fun o h => by cases h) (fun _ => by omega)
  | some q =>
    obtain ⟨l, st⟩ := q
    obtain ⟨e1, e2, e3, _, _, _⟩ := hE.1 l st hx
    have hsn := xrd_s hx
    have h6 : l.length ≤ 6 := by
      refine xsnd_6 hsn ?_
      exact (xx_rng (c := _) hm (a := 70) (i := (hv M 69 1).toNat - 3) (lo := 0) (hi := 255) rfl (show (hv M 69 1).toNat - 3 < 240 by omega) hb_at1).1
    rw [hx] at K
    have K := fun (M' : Nat → mq_C) (r : Int32) (q1 : mz_sh mz_GG M') (q2 : ∀ o, (if x1.toInt % 8 < (l.length : Int) then xcont (hv M 70) (l.getD (x1.toInt % 8).toNat xd0) else none) = some o → r.toInt = 1 ∧ hv M' 9 1 = (o.length : Int) ∧ o.length ≤ 200 ∧ ∀ t, t < o.length → hv M' 10 t = o.getD t 0) (q3 : (if x1.toInt % 8 < (l.length : Int) then xcont (hv M 70) (l.getD (x1.toInt % 8).toNat xd0) else none) = none → r.toInt = 0) => K M' r q1 q2 q3
    refine he_ifeq_f (n := 29) (t := 48) (by decide +kernel) (by omega) ?_
    refine he_aload (n := 30) (i := 2) (by decide +kernel) rfl ?_
    refine he_iload (n := 31) (i := 1) (by decide +kernel) rfl ?_
    refine he_iconst (n := 33) (c := 8) (by decide +kernel) (by decide) ?_
    intro c31 hc31
    refine xe_rem (c := 8) (n := 34) (by decide +kernel) hc31 (by decide) (by omega) ?_
    intro v33 hv33
    refine he_aload (n := 35) (i := 0) (by decide +kernel) rfl ?_
    refine he_getr (n := 38) (ci := 0) (j := 0) (ns := [2077, 12]) (b := 9) hm (by decide +kernel) rfl rfl (by decide +kernel) ?_
    refine he_v2 (n := 41) (j := 49) (ci := 1) (mx := 4) (ns := [3156, 3035, 3036, 223]) (by decide +kernel) ((hb_kd (a := 69) hm rfl).trans rfl) (by show 0 ≤ 8; omega) (by show 3 ≤ 4; omega) ?_
    rw [mq_e49]
    have hu : ∀ i, i < l.length → xut (xcr M 69 i) ≤ 240 := fun i hi => by rw [e3 i hi]; have := xsnd_u hsn _ (xo_gm hi); omega
    refine xo_unp69 (n := l.length) hm e2 h6 hu hMO hTL hTD ?_ ?_
    · intro r5 hne h5
      show mq_R mq_PP (d + 6) 27 41 _ [.int r5] (M, z, u) Q
      rw [if_neg (fun h => hne ⟨by omega, by omega⟩)] at K
      refine he_ifeq_t (n := 44) (t := 48) (by decide +kernel) (by omega) ?_
      refine he_iconst (n := 49) (c := 0) (by decide +kernel) (by decide) ?_
      intro cb48 hcb48
      refine he_retz (by decide +kernel) (by omega) ?_
      exact K M _ hm (fun o h => by cases h) (fun _ => by omega)
    · intro M2 r5 hin hm2 w2 t1 t0
      show mq_R mq_PP (d + 6) 27 41 _ [.int r5] (M2, z, u) Q
      rw [if_pos (by omega)] at K
      rw [show v33.toInt.toNat = (x1.toInt % 8).toNat by omega, e3 _ (by omega)] at t1 t0
      cases hco : xcont (hv M 70) (l.getD (x1.toInt % 8).toNat xd0) with
      | none =>
        have h5 := t0 hco
        rw [hco] at K
        refine he_ifeq_t (n := 44) (t := 48) (by decide +kernel) (by omega) ?_
        refine he_iconst (n := 49) (c := 0) (by decide +kernel) (by decide) ?_
        intro cc48 hcc48
        refine he_retz (by decide +kernel) (by omega) ?_
        exact K M2 _ hm2 (fun o h => by cases h) (fun _ => by omega)
      | some o =>
        obtain ⟨h5, g91, g200, g10⟩ := t1 o hco
        rw [hco] at K
        refine he_ifeq_f (n := 44) (t := 48) (by decide +kernel) (by omega) ?_
        refine he_iconst (n := 45) (c := 1) (by decide +kernel) (by decide) ?_
        intro cc44 hcc44
        refine he_goto (t := 49) (by decide +kernel) ?_
        refine he_retz (by decide +kernel) (by omega) ?_
        exact K M2 _ hm2 (fun o' h => by cases h; exact ⟨by omega, g91, g200, g10⟩) (fun h => by cases h)
theorem xo_place80 {d z u : Nat} {M : Nat → mq_C} {Q : (Option Value ⊕ Nat) → mq_S → Prop} {x1 : Int32} (hm : mz_sh mz_GG M) (hMO : M 1 = (60, mq_MO)) (hTL : xT M 24 288 xfL) (hTD : xT M 28 32 xfD) (hE : xEX 80 (hv M 81) (hv M 80 1).toNat M) (g : 0 ≤ x1.toInt ∧ x1.toInt < 32) (hs : x1.toInt / 8 = 3) (K : ∀ (M' : Nat → mq_C) (r : Int32), mz_sh mz_GG M' → (∀ o, xan1 (xcbt M) (xcl M) x1.toInt = some o → r.toInt = 1 ∧ hv M' 9 1 = (o.length : Int) ∧ o.length ≤ 200 ∧ ∀ t, t < o.length → hv M' 10 t = o.getD t 0) → (xan1 (xcbt M) (xcl M) x1.toInt = none → r.toInt = 0) → Q (.inl (some (.int r))) (M', z, u)) : mq_R mq_PP (d + 6) 27 0 [some (.ref 8), some (.int x1), none] [] (M, z, u) Q := by
  obtain ⟨g1, g2⟩ := id g
  have l2 := xx_rng (c := _) hm (a := 80) (i := 1) (lo := 0) (hi := 240) rfl (by decide) rfl
  unfold xan1 at K
  rw [if_pos g, show (x1.toInt / 8).toNat = 3 by omega] at K
  have K := fun (M' : Nat → mq_C) (r : Int32) (q1 : mz_sh mz_GG M') (q2 : ∀ o, (match xrd (hv M 81) (hv M 80 1).toNat with | none => none | some (l, _) => if x1.toInt % 8 < (l.length : Int) then xcont (hv M 81) (l.getD (x1.toInt % 8).toNat xd0) else none) = some o → r.toInt = 1 ∧ hv M' 9 1 = (o.length : Int) ∧ o.length ≤ 200 ∧ ∀ t, t < o.length → hv M' 10 t = o.getD t 0) (q3 : (match xrd (hv M 81) (hv M 80 1).toNat with | none => none | some (l, _) => if x1.toInt % 8 < (l.length : Int) then xcont (hv M 81) (l.getD (x1.toInt % 8).toNat xd0) else none) = none → r.toInt = 0) => K M' r q1 q2 q3
  refine he_iload (n := 1) (i := 1) (by decide +kernel) rfl ?_
  refine he_iflt_f (n := 4) (t := 10) (by decide +kernel) (by omega) ?_
  refine he_iload (n := 5) (i := 1) (by decide +kernel) rfl ?_
  refine he_iconst (n := 7) (c := 32) (by decide +kernel) (by decide) ?_
  intro c5 hc5
  refine he_cmplt_t (n := 10) (t := 12) (by decide +kernel) (by omega) ?_
  refine he_aload (n := 13) (i := 0) (by decide +kernel) rfl ?_
  refine he_getr (n := 16) (ci := 0) (j := 2) (ns := [2079, 25]) (b := 37) hm (by decide +kernel) rfl rfl (by decide +kernel) ?_
  refine he_iload (n := 17) (i := 1) (by decide +kernel) rfl ?_
  refine he_iconst (n := 19) (c := 8) (by decide +kernel) (by decide) ?_
  intro c17 hc17
  refine xe_div (c := 8) (n := 20) (by decide +kernel) hc17 (by decide) (by omega) ?_
  intro v19 hv19
  refine he_aald (n := 21) (kind := 71) (b := 80) hm (by decide +kernel) rfl rfl (by decide) (by omega) (by rw [show v19.toInt.toNat = 3 by omega]; decide +kernel) ?_
  refine he_astore (n := 22) (i := 2) (by decide +kernel) rfl ?_
  refine he_aload (n := 23) (i := 2) (by decide +kernel) rfl ?_
  refine hb_gfd (n := 26) (ci := 1) (j := 2) (ns := [1221, 220]) hm (by decide +kernel) rfl rfl (by decide) rfl ?_
  intro v23 hv23 lv23 uv23
  cases hx : xrd (hv M 81) (hv M 80 1).toNat with
  | none =>
    have h0 := hE.2 hx
    rw [hx] at K
    refine he_ifeq_t (n := 29) (t := 48) (by decide +kernel) (by omega) ?_
    refine he_iconst (n := 49) (c := 0) (by decide +kernel) (by decide) ?_
    intro c48 hc48
    refine he_retz (by decide +kernel) (by omega) ?_
    exact K M _ hm (fun o h => by cases h) (fun _ => by omega)
  | some q =>
    obtain ⟨l, st⟩ := q
    obtain ⟨e1, e2, e3, _, _, _⟩ := hE.1 l st hx
    have hsn := xrd_s hx
    have h6 : l.length ≤ 6 := by
      refine xsnd_6 hsn ?_
      exact (xx_rng (c := _) hm (a := 81) (i := (hv M 80 1).toNat - 3) (lo := 0) (hi := 255) rfl (show (hv M 80 1).toNat - 3 < 240 by omega) hb_at1).1
    rw [hx] at K
    have K := fun (M' : Nat → mq_C) (r : Int32) (q1 : mz_sh mz_GG M') (q2 : ∀ o, (if x1.toInt % 8 < (l.length : Int) then xcont (hv M 81) (l.getD (x1.toInt % 8).toNat xd0) else none) = some o → r.toInt = 1 ∧ hv M' 9 1 = (o.length : Int) ∧ o.length ≤ 200 ∧ ∀ t, t < o.length → hv M' 10 t = o.getD t 0) (q3 : (if x1.toInt % 8 < (l.length : Int) then xcont (hv M 81) (l.getD (x1.toInt % 8).toNat xd0) else none) = none → r.toInt = 0) => K M' r q1 q2 q3
    refine he_ifeq_f (n := 29) (t := 48) (by decide +kernel) (by omega) ?_
    refine he_aload (n := 30) (i := 2) (by decide +kernel) rfl ?_
    refine he_iload (n := 31) (i := 1) (by decide +kernel) rfl ?_
    refine he_iconst (n := 33) (c := 8) (by decide +kernel) (by decide) ?_
    intro c31 hc31
    refine xe_rem (c := 8) (n := 34) (by decide +kernel) hc31 (by decide) (by omega) ?_
    intro v33 hv33
    refine he_aload (n := 35) (i := 0) (by decide +kernel) rfl ?_
    refine he_getr (n := 38) (ci := 0) (j := 0) (ns := [2077, 12]) (b := 9) hm (by decide +kernel) rfl rfl (by decide +kernel) ?_
    refine he_v2 (n := 41) (j := 49) (ci := 1) (mx := 4) (ns := [3156, 3035, 3036, 223]) (by decide +kernel) ((hb_kd (a := 80) hm rfl).trans rfl) (by show 0 ≤ 8; omega) (by show 3 ≤ 4; omega) ?_
    rw [mq_e49]
    have hu : ∀ i, i < l.length → xut (xcr M 80 i) ≤ 240 := fun i hi => by rw [e3 i hi]; have := xsnd_u hsn _ (xo_gm hi); omega
    refine xo_unp80 (n := l.length) hm e2 h6 hu hMO hTL hTD ?_ ?_
    · intro r5 hne h5
      show mq_R mq_PP (d + 6) 27 41 _ [.int r5] (M, z, u) Q
      rw [if_neg (fun h => hne ⟨by omega, by omega⟩)] at K
      refine he_ifeq_t (n := 44) (t := 48) (by decide +kernel) (by omega) ?_
      refine he_iconst (n := 49) (c := 0) (by decide +kernel) (by decide) ?_
      intro cb48 hcb48
      refine he_retz (by decide +kernel) (by omega) ?_
      exact K M _ hm (fun o h => by cases h) (fun _ => by omega)
    · intro M2 r5 hin hm2 w2 t1 t0
      show mq_R mq_PP (d + 6) 27 41 _ [.int r5] (M2, z, u) Q
      rw [if_pos (by omega)] at K
      rw [show v33.toInt.toNat = (x1.toInt % 8).toNat by omega, e3 _ (by omega)] at t1 t0
      cases hco : xcont (hv M 81) (l.getD (x1.toInt % 8).toNat xd0) with
      | none =>
        have h5 := t0 hco
        rw [hco] at K
        refine he_ifeq_t (n := 44) (t := 48) (by decide +kernel) (by omega) ?_
        refine he_iconst (n := 49) (c := 0) (by decide +kernel) (by decide) ?_
        intro cc48 hcc48
        refine he_retz (by decide +kernel) (by omega) ?_
        exact K M2 _ hm2 (fun o h => by cases h) (fun _ => by omega)
      | some o =>
        obtain ⟨h5, g91, g200, g10⟩ := t1 o hco
        rw [hco] at K
        refine he_ifeq_f (n := 44) (t := 48) (by decide +kernel) (by omega) ?_
        refine he_iconst (n := 45) (c := 1) (by decide +kernel) (by decide) ?_
        intro cc44 hcc44
        refine he_goto (t := 49) (by decide +kernel) ?_
        refine he_retz (by decide +kernel) (by omega) ?_
        exact K M2 _ hm2 (fun o' h => by cases h; exact ⟨by omega, g91, g200, g10⟩) (fun h => by cases h)
theorem xo_place {d z u : Nat} {M : Nat → mq_C} {Q : (Option Value ⊕ Nat) → mq_S → Prop} {x1 : Int32} (hm : mz_sh mz_GG M) (hMO : M 1 = (60, mq_MO)) (hTL : xT M 24 288 xfL) (hTD : xT M 28 32 xfD) (hE : xEA M) (K : ∀ (M' : Nat → mq_C) (r : Int32), mz_sh mz_GG M' → (∀ o, xan1 (xcbt M) (xcl M) x1.toInt = some o → r.toInt = 1 ∧ hv M' 9 1 = (o.length : Int) ∧ o.length ≤ 200 ∧ ∀ t, t < o.length → hv M' 10 t = o.getD t 0) → (xan1 (xcbt M) (xcl M) x1.toInt = none → r.toInt = 0) → Q (.inl (some (.int r))) (M', z, u)) : mq_R mq_PP (d + 6) 27 0 [some (.ref 8), some (.int x1), none] [] (M, z, u) Q := by
  by_cases g : 0 ≤ x1.toInt ∧ x1.toInt < 32
  · have h4 : x1.toInt / 8 = 0 ∨ x1.toInt / 8 = 1 ∨ x1.toInt / 8 = 2 ∨ x1.toInt / 8 = 3 := by omega
    rcases h4 with hs | hs | hs | hs
    · exact xo_place47 hm hMO hTL hTD (hE 0 (by decide)) g hs K
    · exact xo_place58 hm hMO hTL hTD (hE 1 (by decide)) g hs K
    · exact xo_place69 hm hMO hTL hTD (hE 2 (by decide)) g hs K
    · exact xo_place80 hm hMO hTL hTD (hE 3 (by decide)) g hs K
  · have hno : xan1 (xcbt M) (xcl M) x1.toInt = none := by unfold xan1; rw [if_neg g]
    by_cases h0 : x1.toInt < 0
    · skip
      refine he_iload (n := 1) (i := 1) (by decide +kernel) rfl ?_
      refine he_iflt_t (n := 4) (t := 10) (by decide +kernel) (by omega) ?_
      refine he_iconst (n := 11) (c := 0) (by decide +kernel) (by decide) ?_
      intro c10 hc10
      refine he_retz (by decide +kernel) (by omega) ?_
      exact K M _ hm (fun o h => by rw [hno] at h; cases h) (fun _ => by omega)
    · skip
      refine he_iload (n := 1) (i := 1) (by decide +kernel) rfl ?_
      refine he_iflt_f (n := 4) (t := 10) (by decide +kernel) (by omega) ?_
      refine he_iload (n := 5) (i := 1) (by decide +kernel) rfl ?_
      refine he_iconst (n := 7) (c := 32) (by decide +kernel) (by decide) ?_
      intro c5 hc5
      refine he_cmplt_f (n := 10) (t := 12) (by decide +kernel) (by omega) ?_
      refine he_iconst (n := 11) (c := 0) (by decide +kernel) (by decide) ?_
      intro c10 hc10
      refine he_retz (by decide +kernel) (by omega) ?_
      exact K M _ hm (fun o h => by rw [hno] at h; cases h) (fun _ => by omega)
theorem xn_cont {d z u : Nat} {M : Nat → mq_C} {Q : (Option Value ⊕ Nat) → mq_S → Prop} {x1 x2 : Int32} (hm : mz_sh mz_GG M) (hMO : M 1 = (60, mq_MO)) (hTL : xT M 24 288 xfL) (hTD : xT M 28 32 xfD) (hE : xEA M) (K : ∀ (M' : Nat → mq_C) (r : Int32), r.toInt = xans (xcbt M) (xcl M) x1.toInt x2.toInt → Q (.inl (some (.int r))) (M', z, u)) : mq_R mq_PP (d + 7) 14 0 [some (.ref 8), some (.int x1), some (.int x2)] [] (M, z, u) Q := by
  refine he_aload (n := 1) (i := 0) (by decide +kernel) rfl ?_
  refine he_iload (n := 2) (i := 1) (by decide +kernel) rfl ?_
  refine he_v1 (n := 5) (j := 27) (ci := 0) (mx := 3) (ns := [3152, 3154, 34, 174]) (by decide +kernel) ((hb_kd (a := 8) hm rfl).trans rfl) (by show 0 ≤ 8; omega) (by show 2 ≤ 3; omega) ?_
  rw [mq_e27]
  refine xo_place hm hMO hTL hTD hE ?_
  intro M2 r2 hm2 k1 k0
  rw [xan1_a] at K
  show mq_R mq_PP (d + 7) 14 5 _ [.int r2] (M2, z, u) Q
  cases hx : xan1 (xcbt M) (xcl M) x1.toInt with
  | none =>
    have h0 := k0 hx
    rw [hx] at K
    refine he_ifne_f (n := 8) (t := 11) (by decide +kernel) (by omega) ?_
    refine he_iconst (n := 10) (c := -2) (by decide +kernel) (by decide) ?_
    intro cb8 hcb8
    refine he_reti (by decide +kernel) ?_
    exact K M2 _ (by show _ = (-2 : Int); omega)
  | some o =>
    obtain ⟨h1, g91, g200, g10⟩ := k1 o hx
    rw [hx] at K
    have K := fun (M' : Nat → mq_C) (r : Int32) (q : r.toInt = (if 0 ≤ x2.toInt ∧ x2.toInt < (o.length : Int) then o.getD x2.toInt.toNat 0 else -1)) => K M' r q
    refine he_ifne_t (n := 8) (t := 11) (by decide +kernel) (by omega) ?_
    refine he_iload (n := 12) (i := 2) (by decide +kernel) rfl ?_
    by_cases g12 : x2.toInt < 0
    · rw [if_neg (by omega)] at K
      refine he_iflt_t (n := 15) (t := 38) (by decide +kernel) (by omega) ?_
      refine he_iconst (n := 39) (c := -1) (by decide +kernel) (by decide) ?_
      intro cb38 hcb38
      refine he_reti (by decide +kernel) ?_
      exact K M2 _ (by omega)
    refine he_iflt_f (n := 15) (t := 38) (by decide +kernel) (by omega) ?_
    refine he_iload (n := 16) (i := 2) (by decide +kernel) rfl ?_
    refine he_aload (n := 17) (i := 0) (by decide +kernel) rfl ?_
    refine he_getr (n := 20) (ci := 0) (j := 0) (ns := [2077, 12]) (b := 9) hm2 (by decide +kernel) rfl rfl (by decide +kernel) ?_
    refine hb_gfd (n := 23) (ci := 8) (j := 1) (ns := [1070, 114]) hm2 (by decide +kernel) rfl rfl (by decide) rfl ?_
    intro vb20 hvb20 lvb20 uvb20
    have q20 : vb20.toInt = (o.length : Int) := by rw [← hvb20]; exact g91
    by_cases g23 : vb20.toInt ≤ x2.toInt
    · rw [if_neg (by omega)] at K
      refine he_cmpge_t (n := 26) (t := 38) (by decide +kernel) (by omega) ?_
      refine he_iconst (n := 39) (c := -1) (by decide +kernel) (by decide) ?_
      intro cb38 hcb38
      refine he_reti (by decide +kernel) ?_
      exact K M2 _ (by omega)
    rw [if_pos ⟨by omega, by omega⟩] at K
    refine he_cmpge_f (n := 26) (t := 38) (by decide +kernel) (by omega) ?_
    refine he_aload (n := 27) (i := 0) (by decide +kernel) rfl ?_
    refine he_getr (n := 30) (ci := 0) (j := 0) (ns := [2077, 12]) (b := 9) hm2 (by decide +kernel) rfl rfl (by decide +kernel) ?_
    refine he_getr (n := 33) (ci := 8) (j := 0) (ns := [1067, 177]) (b := 10) hm2 (by decide +kernel) rfl rfl (by decide +kernel) ?_
    refine he_iload (n := 34) (i := 2) (by decide +kernel) rfl ?_
    refine hb_ld (n := 35) (kind := 64) hm2 (by decide +kernel) rfl rfl (.inl rfl) (by omega) (show _ < (200 : Int) by omega) hb_at1 ?_
    intro vb34 hvb34 lvb34 uvb34
    refine he_goto (t := 39) (by decide +kernel) ?_
    refine he_reti (by decide +kernel) ?_
    exact K M2 _ (by rw [← g10 x2.toInt.toNat (by omega)]; exact hvb34.symm)
