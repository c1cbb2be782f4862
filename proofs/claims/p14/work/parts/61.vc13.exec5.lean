/-! THE CHECKER: the run of a method, its contract. -/
section VCR
variable (G : mz_G) (P : List mq_T) (X : (Nat → mq_C) → Prop)
/-- the ways behind a call -/
def mz_ps (q q2 : mz_Q) (pc n : Nat) (k : mz_K) (av : List mz_E) : List (Nat × Nat × List mz_E) → List mz_H → mz_R
  | [], hs => some ([], hs)
  | p :: ps, (0, _) :: hs => bif mz_wfl (mz_n0 G q2 + q2.2.2.2.1.length + 1) p.2.2 then (match p.1 with
    | 0 => match mz_ps q q2 pc n k av ps hs with
      | some (ss, hs) => some ((n, ((mz_pk G q2 p k av).1, (0, 0, mz_vr (k.2.2.2.2 + q2.2.2.2.1.length)) :: k.2.1, (mz_pk G q2 p k av).2.2)) :: ss, hs)
      | none => none
    | 1 => match mz_ln G p.2.1 with
      | some e => match mz_ps q q2 pc n k av ps hs with
        | some (ss, hs) => some ((n, ((mz_pk G q2 p k av).1, (1, p.2.1, e) :: k.2.1, (mz_pk G q2 p k av).2.2)) :: ss, hs)
        | none => none
      | none => none
    | 3 => match mz_ps q q2 pc n k av ps hs with
      | some (ss, hs) => some ((n, mz_pk G q2 p k av) :: ss, hs)
      | none => none
    | 5 => match mq_hd P q.1 pc p.2.1 with
      | some h => match mz_ps q q2 pc n k av ps hs with
        | some (ss, hs) => some ((h, ((mz_pk G q2 p k av).1, [(4, 0, (0, []))], (mz_pk G q2 p k av).2.2)) :: ss, hs)
        | none => none
      | none => bif mq_nh P q.1 then (match mz_exit G q (mz_pk G q2 p k av) none 5 p.2.1 hs with
        | some hs => mz_ps q q2 pc n k av ps hs
        | none => none) else none
    | _ => none) else none
  | p :: ps, _ :: h :: hs => bif mz_wfl (mz_n0 G q2 + q2.2.2.2.1.length + 1) p.2.2 then bif mz_pv (mz_pk G q2 p k av).2.2.2.1 h (-1, []) then mz_ps q q2 pc n k av ps hs else none else none
  | _, _ => none
/-- what a way behind a call comes to -/
def mz_cov (q : mz_Q) (pc n : Nat) (ss : List (Nat × mz_K)) (ρ0 : Nat → Int) (M0 : Nat → mq_C) (z u : Nat) (ρ : Nat → Int) (L : mq_L) (st : List Value) (r : Option Value ⊕ Nat) (S : mq_S) : Prop := match r with
  | .inl v => S.2.1 = z ∧ S.2.2 = u ∧ ∃ k', (n, k') ∈ ss ∧ mz_g G ρ k' L (v.toList ++ st) S.1
  | .inr a => (∃ h k', mq_hd P q.1 pc (S.1 a).1 = some h ∧ (h, k') ∈ ss ∧ mz_g G ρ k' L [.ref a] S.1 ∧ S.2.1 = z + 1 ∧ S.2.2 = u + 6) ∨ (mq_hd P q.1 pc (S.1 a).1 = none ∧ mq_nh P q.1 = true ∧ mz_po G X q ρ0 M0 z u (.inr a) S)
theorem mz_cov_mono {q : mz_Q} {pc n : Nat} {ss ss' : List (Nat × mz_K)} {ρ0 : Nat → Int} {M0 : Nat → mq_C} {z u : Nat} {ρ : Nat → Int} {L : mq_L} {st : List Value} {r : Option Value ⊕ Nat} {S : mq_S} (hs : ∀ x ∈ ss, x ∈ ss') (h : mz_cov G P X q pc n ss ρ0 M0 z u ρ L st r S) : mz_cov G P X q pc n ss' ρ0 M0 z u ρ L st r S := by
  unfold mz_cov at h ⊢
  split
  · obtain ⟨h1, h2, k', hk, hg⟩ := h
    exact ⟨h1, h2, k', hs _ hk, hg⟩
  · rcases h with ⟨h, k', a, b, c⟩ | h
    · exact .inl ⟨h, k', a, hs _ b, c⟩
    · exact .inr h
theorem mz_re_0 {ρ : Nat → Int} {p : Nat × Nat × List mz_E} {v z u : Nat} {r : Option Value ⊕ Nat} {S : mq_S} (h : mz_re G ρ p v z u r S) (h0 : p.1 = 0) : ∃ x, r = .inl (some (.int x)) ∧ x.toInt = ρ v ∧ S.2.1 = z ∧ S.2.2 = u := by
  obtain ⟨p1, p2⟩ := p
  cases h0
  rcases r with (_ | w) | a
  · exact h.elim
  · cases w with
    | int x => exact ⟨x, rfl, h⟩
    | _ => exact h.elim
  · exact h.elim
theorem mz_re_1 {ρ : Nat → Int} {p : Nat × Nat × List mz_E} {v z u : Nat} {r : Option Value ⊕ Nat} {S : mq_S} (h : mz_re G ρ p v z u r S) (h0 : p.1 = 1) : ∃ b, r = .inl (some (.ref b)) ∧ b ∈ G.2.1 p.2.1 ∧ S.2.1 = z ∧ S.2.2 = u := by
  obtain ⟨p1, p2⟩ := p
  cases h0
  rcases r with (_ | w) | a
  · exact h.elim
  · cases w with
    | ref x => exact ⟨x, rfl, h⟩
    | _ => exact h.elim
  · exact h.elim
theorem mz_re_3 {ρ : Nat → Int} {p : Nat × Nat × List mz_E} {v z u : Nat} {r : Option Value ⊕ Nat} {S : mq_S} (h : mz_re G ρ p v z u r S) (h0 : p.1 = 3) : r = .inl none ∧ S.2.1 = z ∧ S.2.2 = u := by
  obtain ⟨p1, p2⟩ := p
  cases h0
  rcases r with (_ | w) | a
  · exact ⟨rfl, h⟩
  · exact h.elim
  · exact h.elim
theorem mz_re_5 {ρ : Nat → Int} {p : Nat × Nat × List mz_E} {v z u : Nat} {r : Option Value ⊕ Nat} {S : mq_S} (h : mz_re G ρ p v z u r S) (h0 : p.1 = 5) : r = .inr z ∧ (S.1 z).1 = p.2.1 ∧ S.2.1 = z + 1 ∧ S.2.2 = u + 6 := by
  obtain ⟨p1, p2⟩ := p
  cases h0
  rcases r with (_ | w) | a
  · exact h.elim
  · exact h.elim
  · obtain ⟨rfl, h1, h2, h3⟩ := h
    exact ⟨rfl, h1, h2, h3⟩
theorem mz_ps_ok {q q2 : mz_Q} {pc n : Nat} {k : mz_K} {av : List mz_E} {ρ0 : Nat → Int} {M0 : Nat → mq_C} {z u : Nat} {L : mq_L} {st : List Value} {ρ2 ρ3 : Nat → Int} {S : mq_S} {r : Option Value ⊕ Nat} (htr : ∀ t ∈ G.2.2.1, t.1 < 272) (hi : mz_iv G X q ρ0 M0 ρ3 S.1) (h3 : ρ3 (k.2.2.2.2 + q2.2.2.2.1.length) = ρ2 (mz_n0 G q2 + q2.2.2.2.1.length)) : ∀ (ps : List (Nat × Nat × List mz_E)) (hs hs' : List mz_H) (ss : List (Nat × mz_K)), mz_ps G P q q2 pc n k av ps hs = some (ss, hs') → ∀ p ∈ ps, (mz_wfl (mz_n0 G q2 + q2.2.2.2.1.length + 1) p.2.2 = true → mz_g G ρ3 (mz_pk G q2 p k av) L st S.1) → mz_re G ρ2 p (mz_n0 G q2 + q2.2.2.2.1.length) z u r S → mz_cov G P X q pc n ss ρ0 M0 z u ρ3 L st r S := by
  intro ps
  induction ps with
  | nil => intro hs hs' ss _ p hp; cases hp
  | cons p0 ps ih =>
    intro hs hs' ss h p hp hg hre
    unfold mz_ps at h
    split at h
    · next hx => cases hx
    · next p1 ps1 w hs1 hx =>
      cases hx
      obtain ⟨hw, h⟩ := mz_bif4 h
      split at h
      · next ht =>
        split at h
        · next ss1 hs2 hrec =>
          cases h
          rcases List.mem_cons.mp hp with rfl | hp
          · have hg := hg hw
            obtain ⟨x, rfl, hx, hz, hu⟩ := mz_re_0 G hre ht
            refine ⟨hz, hu, _, List.mem_cons_self .., hg.1, ⟨?_, hg.2.1⟩, hg.2.2⟩
            show x.toInt = mz_ev ρ3 (mz_vr _)
            rw [mz_vr_ev, h3, hx]
          · exact mz_cov_mono G P X (fun x hx => List.mem_cons_of_mem _ hx) (ih _ _ _ hrec p hp hg hre)
        · cases h
      · next ht =>
        split at h
        · next e he =>
          split at h
          · next ss1 hs2 hrec =>
            cases h
            rcases List.mem_cons.mp hp with rfl | hp
            · have hg := hg hw
              obtain ⟨b, rfl, hb, hz, hu⟩ := mz_re_1 G hre ht
              exact ⟨hz, hu, _, List.mem_cons_self .., hg.1, ⟨⟨hb, mz_ln_ok G he hb⟩, hg.2.1⟩, hg.2.2⟩
            · exact mz_cov_mono G P X (fun x hx => List.mem_cons_of_mem _ hx) (ih _ _ _ hrec p hp hg hre)
          · cases h
        · cases h
      · next ht =>
        split at h
        · next ss1 hs2 hrec =>
          cases h
          rcases List.mem_cons.mp hp with rfl | hp
          · have hg := hg hw
            obtain ⟨rfl, hz, hu⟩ := mz_re_3 G hre ht
            exact ⟨hz, hu, _, List.mem_cons_self .., hg⟩
          · exact mz_cov_mono G P X (fun x hx => List.mem_cons_of_mem _ hx) (ih _ _ _ hrec p hp hg hre)
        · cases h
      · next ht =>
        split at h
        · next hh hhd =>
          split at h
          · next ss1 hs2 hrec =>
            cases h
            rcases List.mem_cons.mp hp with rfl | hp
            · have hg := hg hw
              obtain ⟨rfl, hk, hz, hu⟩ := mz_re_5 G hre ht
              exact .inl ⟨hh, _, by rw [hk]; exact hhd, List.mem_cons_self .., ⟨hg.1, ⟨trivial, trivial⟩, hg.2.2⟩, hz, hu⟩
            · exact mz_cov_mono G P X (fun x hx => List.mem_cons_of_mem _ hx) (ih _ _ _ hrec p hp hg hre)
          · cases h
        · next hhd =>
          obtain ⟨hnh, h⟩ := mz_bif4 h
          split at h
          · next hs2 hexit =>
            rcases List.mem_cons.mp hp with rfl | hp
            · have hg := hg hw
              obtain ⟨rfl, hk, hz, hu⟩ := mz_re_5 G hre ht
              refine .inr ⟨by rw [hk]; exact hhd, hnh, ?_⟩
              exact mz_exit_ok G hexit hg hi hi.2.1 hi.2.2.1 (fun _ _ => rfl) htr ⟨rfl, hk, hz, hu⟩
            · exact ih _ _ _ h p hp hg hre
          · cases h
      · cases h
    · next p1 ps1 w h1 hs1 hne hx =>
      cases hx
      obtain ⟨hw, h⟩ := mz_bif4 h
      obtain ⟨hpv, h⟩ := mz_bif4 h
      rcases List.mem_cons.mp hp with rfl | hp
      · exfalso
        have := mz_pv_spec (hg hw).2.2.2 hpv
        have e1 : mz_ev ρ3 ((-1 : Int), []) = -1 := Int.add_zero _
        rw [e1] at this
        omega
      · exact ih _ _ _ h p hp hg hre
    · cases h
end VCR
