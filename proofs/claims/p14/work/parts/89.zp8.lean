/-! What is read of an archive depends on its bytes alone. -/
theorem xrr_c {b b' : Nat → Int} {a n : Nat} (h : ∀ t, a < t → t < a + 12 + n → b t = b' t) : xrr b a n = xrr b' a n := by
  unfold xrr
  rw [xnN_c n (a' := a + 1) (b' := b') (fun i hi => h _ (by omega) (by omega)), xnN_c 4 (a' := a + 1 + n + 1) (b' := b') (fun i hi => h _ (by omega) (by omega)), xnN_c 2 (a := a + 1 + n + 5) (a' := a + 1 + n + 5) (b' := b') (fun i hi => h _ (by omega) (by omega)), xnN_c 2 (a := a + 1 + n + 7) (a' := a + 1 + n + 7) (b' := b') (fun i hi => h _ (by omega) (by omega)), xnN_c 2 (a := a + 1 + n + 9) (a' := a + 1 + n + 9) (b' := b') (fun i hi => h _ (by omega) (by omega)), h (a + 1 + n) (by omega) (by omega)]
theorem xrcd_d {b b' : Nat → Int} {e dir a : Nat} {l : List xRc} (hd : dir ≤ a) (h : ∀ t, t < e → b t = b' t) (g : xrk b e a ∧ xrf (xrr b a (b a).toNat) (b a).toNat ∧ xrb2 b dir (xrr b a (b a).toNat) ∧ (l.all fun k => decide (xap (xrr b a (b a).toNat) k)) = true) : b a = b' a ∧ xrr b a (b a).toNat = xrr b' a (b' a).toNat ∧ (xrk b' e a ∧ xrf (xrr b' a (b' a).toNat) (b' a).toNat ∧ xrb2 b' dir (xrr b' a (b' a).toNat) ∧ (l.all fun k => decide (xap (xrr b' a (b' a).toNat) k)) = true) := by
  obtain ⟨k1, k2, k3, k4⟩ := g
  obtain ⟨ka, kb, kc, kd⟩ := id k1
  have e0 := h a ka
  have er : xrr b a (b a).toNat = xrr b' a (b' a).toNat := by
    rw [← e0]
    exact xrr_c (fun t p q => h t (by omega))
  have k5 : xrk b' e a := ⟨ka, e0 ▸ kb, e0 ▸ kc, e0 ▸ kd⟩
  refine ⟨e0, er, k5, ?_⟩
  rw [← er, ← e0]
  refine ⟨k2, ?_, k4⟩
  generalize hr : xrr b a (b a).toNat = r at k3
  have p0 : 0 ≤ r.2.2.2.2.2 ∧ 0 ≤ r.2.2.2.2.1 := by
    rw [← hr]
    exact ⟨Int.natCast_nonneg _, Int.natCast_nonneg _⟩
  obtain ⟨q1, q2, q3⟩ := k3
  have q1' : r.2.2.2.2.2 + 2 + r.2.2.2.2.1 ≤ (dir : Int) := q1
  exact ⟨q1, by rw [← h _ (by omega)]; exact q2, by rw [← h _ (by omega)]; exact q3⟩
theorem xrcd_c {b b' : Nat → Int} {e dir a : Nat} {l : List xRc} (hd : dir ≤ a) (h : ∀ t, t < e → b t = b' t) : xrcd b e dir l a = xrcd b' e dir l a := by
  unfold xrcd
  by_cases c : xrk b e a ∧ xrf (xrr b a (b a).toNat) (b a).toNat ∧ xrb2 b dir (xrr b a (b a).toNat) ∧ (l.all fun k => decide (xap (xrr b a (b a).toNat) k)) = true
  · obtain ⟨e0, er, c'⟩ := xrcd_d hd h c
    rw [if_pos c, if_pos c', er, e0]
  · have c' : ¬ (xrk b' e a ∧ xrf (xrr b' a (b' a).toNat) (b' a).toNat ∧ xrb2 b' dir (xrr b' a (b' a).toNat) ∧ (l.all fun k => decide (xap (xrr b' a (b' a).toNat) k)) = true) := fun g => c (xrcd_d hd (fun t ht => (h t ht).symm) g).2.2
    rw [if_neg c, if_neg c']
theorem xrcs_c {b b' : Nat → Int} {e dir : Nat} (h : ∀ t, t < e → b t = b' t) : ∀ (m : Nat) (l : List xRc) (a : Nat), dir ≤ a → xrcs b e dir m l a = xrcs b' e dir m l a := by
  intro m
  induction m with
  | zero => intro l a _; rfl
  | succ m ih =>
    intro l a hd
    show (match xrcd b e dir l a with | some (r, a') => xrcs b e dir m (l ++ [r]) a' | none => none) = (match xrcd b' e dir l a with | some (r, a') => xrcs b' e dir m (l ++ [r]) a' | none => none)
    rw [xrcd_c hd h]
    cases hx : xrcd b' e dir l a with
    | none => rfl
    | some q =>
      obtain ⟨r, a1⟩ := q
      exact ih (l ++ [r]) a1 (by have := xrcd_u hx; omega)
theorem xsnd_c {b b' : Nat → Int} {len : Nat} (h : ∀ t, t < len → b t = b' t) : xsnd b len = xsnd b' len := by
  unfold xsnd
  by_cases c : 4 ≤ len
  · rw [h (len - 4) (by omega), h (len - 3) (by omega), xnN_c 2 (b' := b') (a' := len - 2) (fun i hi => h _ (by omega)), xrcs_c (b' := b') (fun t ht => h t (by omega)) _ _ _ (Nat.le_refl _)]
  · rw [if_neg (fun g => c g.1), if_neg (fun g => c g.1)]
theorem xcont_c {b b' : Nat → Int} {len : Nat} {r : xRc} (h : ∀ t, t < len → b t = b' t) (hu : xut r ≤ (len : Int)) (p0 : 0 ≤ r.2.2.2.2.2) (k0 : 0 ≤ r.2.2.2.2.1) : xcont b r = xcont b' r := by
  have hu : r.2.2.2.2.2 + 2 + r.2.2.2.2.1 ≤ (len : Int) := hu
  unfold xcont
  rw [xop_e (B' := fun i => xbit b' (8 * (r.2.2.2.2.2.toNat + 2) + i)) (fun i hi => ?_) (by omega)]
  show xbit b _ = xbit b' _
  unfold xbit
  rw [h _ (by omega)]
theorem xrcd_n {b : Nat → Int} {e dir a a' : Nat} {l : List xRc} {r : xRc} (h : xrcd b e dir l a = some (r, a')) : 0 ≤ r.2.2.2.2.2 ∧ 0 ≤ r.2.2.2.2.1 := by
  unfold xrcd at h
  by_cases c : xrk b e a ∧ xrf (xrr b a (b a).toNat) (b a).toNat ∧ xrb2 b dir (xrr b a (b a).toNat) ∧ (l.all fun k => decide (xap (xrr b a (b a).toNat) k)) = true
  · rw [if_pos c] at h
    cases h
    exact ⟨Int.natCast_nonneg _, Int.natCast_nonneg _⟩
  · rw [if_neg c] at h
    cases h
theorem xsnd_n {b : Nat → Int} {len : Nat} {l : List xRc} (h : xsnd b len = some l) : ∀ r ∈ l, 0 ≤ r.2.2.2.2.2 ∧ 0 ≤ r.2.2.2.2.1 := by
  unfold xsnd at h
  by_cases c : 4 ≤ len ∧ b (len - 4) = 80 ∧ b (len - 3) ≤ 6
  · rw [if_pos c] at h
    cases hx : xrcs b (len - 4) (xnN b (len - 2) 2) (b (len - 3)).toNat [] (xnN b (len - 2) 2) with
    | none => rw [hx] at h; cases h
    | some q =>
      obtain ⟨l1, a1⟩ := q
      rw [hx] at h
      have h : (if a1 = len - 4 then some l1 else none) = some l := h
      by_cases ea : a1 = len - 4
      · rw [if_pos ea] at h
        cases h
        exact xrcs_p (fun l a r a' hh => xrcd_n hh) _ _ _ _ _ (fun r hr => by cases hr) hx
      · rw [if_neg ea] at h
        cases h
  · rw [if_neg c] at h
    cases h
theorem xrd_c {b b' : Nat → Int} {len : Nat} (h : ∀ t, t < len → b t = b' t) : xrd b len = xrd b' len := by
  unfold xrd
  rw [xsnd_c h]
  cases hx : xsnd b' len with
  | none => rfl
  | some l =>
    dsimp only
    cases hf : l.find? (fun r => decide (r.1 = 77)) with
    | none => rfl
    | some r =>
      have hr : r ∈ l := List.mem_of_find?_eq_some hf
      have hn := xsnd_n hx r hr
      dsimp only
      rw [xcont_c h (xsnd_u hx r hr) hn.1 hn.2]
theorem xan1_c {b b' : Nat → Nat → Int} {len len' : Nat → Nat} {p : Int} (hl : ∀ s, s < 4 → len s = len' s) (h : ∀ s, s < 4 → ∀ t, t < len s → b s t = b' s t) : xan1 b len p = xan1 b' len' p := by
  unfold xan1
  by_cases g : 0 ≤ p ∧ p < 32
  · rw [if_pos g, if_pos g]
    generalize hs' : (p / 8).toNat = s
    have hs : s < 4 := by omega
    rw [← hl s hs, xrd_c (h s hs)]
    cases hx : xrd (b' s) (len s) with
    | none => rfl
    | some q =>
      obtain ⟨l, st⟩ := q
      dsimp only
      by_cases c : p % 8 < (l.length : Int)
      · rw [if_pos c, if_pos c]
        have hsn := xrd_s hx
        have hm := xo_gm (l := l) (i := (p % 8).toNat) (by omega)
        have hn := xsnd_n hsn _ hm
        exact xcont_c (h s hs) (xsnd_u hsn _ hm) hn.1 hn.2
      · rw [if_neg c, if_neg c]
  · rw [if_neg g, if_neg g]
theorem xans_c {b b' : Nat → Nat → Int} {len len' : Nat → Nat} {p i : Int} (hl : ∀ s, s < 4 → len s = len' s) (h : ∀ s, s < 4 → ∀ t, t < len s → b s t = b' s t) : xans b len p i = xans b' len' p i := by
  rw [xan1_a, xan1_a, xan1_c hl h]
