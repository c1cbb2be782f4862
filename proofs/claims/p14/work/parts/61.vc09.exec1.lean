/-! THE CHECKER: contracts, calls, loops. -/
section VCX
variable (G : mz_G)
/-- method; parameters (shape, group); what is asked; slots that change; ways out (shape, group or exception, facts); the cells that may change -/
abbrev mz_Q : Type := Nat × List (Nat × Nat) × List mz_E × List Nat × List (Nat × Nat × List mz_E) × List Nat
/-- the other cells are the same -/
def mz_fr (q : mz_Q) (M M' : Nat → mq_C) : Prop := ∀ a, a < 272 → q.2.2.2.2.2.elem a = false → M' a = M a
/-- what the instructions of q leave alone: the cells that may not change, and those of X -/
abbrev mz_GS (q : mz_Q) : mz_G := (G.1, G.2.1, G.2.2.1, fun a => bif Nat.blt a 272 then (bif q.2.2.2.2.2.elem a then G.2.2.2.1 a else true) else false, G.2.2.2.2)
def mz_vr (n : Nat) : mz_E := (0, [(n, 1)])
theorem mz_vr_ev {ρ : Nat → Int} {n : Nat} : mz_ev ρ (mz_vr n) = ρ n := by show 0 + (1 * ρ n + 0) = ρ n; omega
/-- the value of shape p that has the variable i -/
def mz_pa (i : Nat) (p : Nat × Nat) : mz_V := match p.1 with
  | 0 => (0, 0, mz_vr i)
  | 1 => match mz_ln G p.2 with
    | some e => (1, p.2, e)
    | none => (1, p.2, mz_vr i)
  | 2 => (2, 0, mz_vr i)
  | 4 => (4, 0, (0, []))
  | _ => (3, 0, (0, []))
def mz_gp (ρ : Nat → Int) : Nat → List (Nat × Nat) → List Value → Prop
  | _, [], [] => True
  | i, p :: ps, v :: vs => (p.1 < 3 ∧ mz_gv G ρ (mz_pa G i p) v) ∧ mz_gp ρ (i + 1) ps vs
  | _, _, _ => False
def mz_vs (n : Nat) : Nat → List mz_E
  | 0 => []
  | m + 1 => mz_vr n :: mz_vs (n + 1) m
/-- the place of j in the list -/
def mz_pos (j : Nat) : List Nat → Option Nat
  | [] => none
  | i :: r => bif Nat.beq i j then some 0 else (mz_pos j r).map (fun n => n + 1)
/-- the tracked slots: those of the list are new variables from b on -/
def mz_nt (ms : List Nat) (np b : Nat) : Nat → Nat → List mz_E
  | _, 0 => []
  | j, m + 1 => (match mz_pos j ms with
    | some i => mz_vr (b + i)
    | none => mz_vr (np + j)) :: mz_nt ms np b (j + 1) m
abbrev mz_np (q : mz_Q) : Nat := q.2.1.length
abbrev mz_n0 (q : mz_Q) : Nat := q.2.1.length + G.2.2.1.length
/-- what came out -/
def mz_re (ρ : Nat → Int) (p : Nat × Nat × List mz_E) (v : Nat) (z u : Nat) (r : Option Value ⊕ Nat) (S : mq_S) : Prop := match p.1, r with
  | 0, .inl (some (.int x)) => x.toInt = ρ v ∧ S.2.1 = z ∧ S.2.2 = u
  | 1, .inl (some (.ref b)) => b ∈ G.2.1 p.2.1 ∧ S.2.1 = z ∧ S.2.2 = u
  | 3, .inl none => S.2.1 = z ∧ S.2.2 = u
  | 5, .inr a => a = z ∧ (S.1 a).1 = p.2.1 ∧ S.2.1 = z + 1 ∧ S.2.2 = u + 6
  | _, _ => False
/-- what holds of a call behind it -/
def mz_po (X : (Nat → mq_C) → Prop) (q : mz_Q) (ρ : Nat → Int) (M : Nat → mq_C) (z u : Nat) (r : Option Value ⊕ Nat) (S : mq_S) : Prop := ∃ ρ' : Nat → Int, (∀ i, i < mz_n0 G q → ρ' i = ρ i) ∧ mz_sh G S.1 ∧ X S.1 ∧ mz_fr q M S.1 ∧ (∀ a, a < 8 → S.1 a = M a) ∧ mz_gt G ρ' S.1 G.2.2.1 (mz_nt q.2.2.2.1 (mz_np q) (mz_n0 G q) 0 G.2.2.1.length) ∧ ∃ p ∈ q.2.2.2.2.1, (∀ f ∈ p.2.2, 0 ≤ mz_ev ρ' f) ∧ mz_re G ρ' p (mz_n0 G q + q.2.2.2.1.length) z u r S
/-- the contract holds, with so many frames below -/
def mz_Ct (P : List mq_T) (X : (Nat → mq_C) → Prop) (q : mz_Q) (dep : Nat) : Prop := ∀ d, dep ≤ d → ∀ (ρ : Nat → Int) (vs : List Value) (M : Nat → mq_C) (z u : Nat), mz_gp G ρ 0 q.2.1 vs → mz_gt G ρ M G.2.2.1 (mz_vs (mz_np q) G.2.2.1.length) → (∀ f ∈ q.2.2.1, 0 ≤ mz_ev ρ f) → mz_sh G M → X M → 272 ≤ z → mq_R P d q.1 0 (mq_en P q.1 vs) [] (M, z, u) (mz_po G X q ρ M z u)
/-! variables for expressions -/
def mz_sb (th : Nat → mz_E) : List (Nat × Int) → mz_E
  | [] => (0, [])
  | t :: r => mz_add (mz_mul t.2 (th t.1)) (mz_sb th r)
def mz_sbs (th : Nat → mz_E) (e : mz_E) : mz_E := mz_add (e.1, []) (mz_sb th e.2)
theorem mz_sb_ev {ρ : Nat → Int} {th : Nat → mz_E} : ∀ l, mz_ev ρ (mz_sb th l) = mz_ev1 (fun v => mz_ev ρ (th v)) l := by
  intro l
  induction l with
  | nil => rfl
  | cons t r ih =>
    show mz_ev ρ (mz_add (mz_mul t.2 (th t.1)) (mz_sb th r)) = t.2 * mz_ev ρ (th t.1) + mz_ev1 _ r
    rw [mz_add_ev, mz_mul_ev, ih]
theorem mz_sbs_ev {ρ : Nat → Int} {th : Nat → mz_E} {e : mz_E} : mz_ev ρ (mz_sbs th e) = mz_ev (fun v => mz_ev ρ (th v)) e := by
  show mz_ev ρ (mz_add (e.1, []) (mz_sb th e.2)) = e.1 + mz_ev1 _ e.2
  rw [mz_add_ev, mz_sb_ev]
  have e1 : mz_ev ρ (e.1, []) = e.1 := Int.add_zero _
  rw [e1]
/-- facts, one by one -/
def mz_pvs (fs : List mz_E) (th : Nat → mz_E) : List mz_E → List mz_H → Option (List mz_H)
  | [], hs => some hs
  | f :: r, h :: hs => bif mz_pv fs h (mz_sbs th f) then mz_pvs fs th r hs else none
  | _ :: _, [] => none
theorem mz_pvs_ok {ρ : Nat → Int} {fs : List mz_E} (hf : ∀ f ∈ fs, 0 ≤ mz_ev ρ f) {th : Nat → mz_E} : ∀ (r : List mz_E) (hs hs' : List mz_H), mz_pvs fs th r hs = some hs' → ∀ f ∈ r, 0 ≤ mz_ev (fun v => mz_ev ρ (th v)) f := by
  intro r
  induction r with
  | nil => intro hs hs' _ f hf; cases hf
  | cons g r ih =>
    intro hs hs' h f hfm
    cases hs with
    | nil => cases h
    | cons x hs =>
      obtain ⟨p, h⟩ := mz_bif4 (show (bif mz_pv fs x (mz_sbs th g) then mz_pvs fs th r hs else none) = some hs' from h)
      rcases List.mem_cons.mp hfm with rfl | hfm
      · have := mz_pv_spec hf p
        rw [mz_sbs_ev] at this
        exact this
      · exact ih hs hs' h f hfm
/-- variables below n0 stay; the others by the list -/
def mz_th (n0 : Nat) (l : List mz_E) (v : Nat) : mz_E := bif Nat.blt v n0 then mz_vr v else l.getD (v - n0) (0, [])
theorem mz_th_lo {ρ : Nat → Int} {n0 v : Nat} {l : List mz_E} (h : v < n0) : mz_ev ρ (mz_th n0 l v) = ρ v := by
  unfold mz_th
  rw [show Nat.blt v n0 = true from Nat.ble_eq.mpr h]
  exact mz_vr_ev
theorem mz_th_hi {ρ : Nat → Int} {n0 i : Nat} {l : List mz_E} {e : mz_E} (h : l[i]? = some e) : mz_ev ρ (mz_th n0 l (n0 + i)) = mz_ev ρ e := by
  unfold mz_th
  have hb : Nat.blt (n0 + i) n0 = false := by
    cases hx : Nat.blt (n0 + i) n0 with
    | false => rfl
    | true => have := Nat.le_of_ble_eq_true hx; omega
  rw [hb]
  show mz_ev ρ (l.getD (n0 + i - n0) (0, [])) = _
  rw [Nat.add_sub_cancel_left, List.getD_eq_getElem?_getD, h]
  rfl
/-- the slots that don't change are the variables that they were -/
def mz_eqE (a b : mz_E) : Bool := bif decide (a.1 = b.1) then decide (a.2 = b.2) else false
theorem mz_eqE_ok {a b : mz_E} (h : mz_eqE a b = true) : a = b := by
  obtain ⟨h1, h2⟩ := mz_bif h
  obtain ⟨a1, a2⟩ := a
  obtain ⟨b1, b2⟩ := b
  have e1 : a1 = b1 := of_decide_eq_true h1
  have e2 : a2 = b2 := of_decide_eq_true h2
  rw [e1, e2]
def mz_un1 (ms : List Nat) (np : Nat) : Nat → List mz_E → Bool
  | _, [] => true
  | j, e :: es => bif (match mz_pos j ms with
      | some _ => true
      | none => mz_eqE e (mz_vr (np + j))) then mz_un1 ms np (j + 1) es else false
/-- the exprs of the slots that change, in the order of the list -/
def mz_mo (ms : List Nat) (es : List mz_E) : List mz_E := ms.map (fun j => es.getD j (0, []))
theorem mz_pos_ok {j i : Nat} : ∀ ms : List Nat, mz_pos j ms = some i → ms[i]? = some j := by
  intro ms
  induction ms generalizing i with
  | nil => intro h; cases h
  | cons a ms ih =>
    intro h
    unfold mz_pos at h
    cases hb : Nat.beq a j with
    | true =>
      rw [hb] at h
      cases h
      rw [Nat.eq_of_beq_eq_true hb]
      rfl
    | false =>
      rw [hb] at h
      cases hp : mz_pos j ms with
      | none => rw [hp] at h; cases h
      | some n =>
        rw [hp] at h
        cases h
        exact ih hp
theorem mz_gt1_x {ρ ρ' : Nat → Int} {M : Nat → mq_C} {t : Nat × Nat} {e e' : mz_E} (he : mz_ev ρ' e' = mz_ev ρ e) (h : mz_gt1 G ρ M t e) : mz_gt1 G ρ' M t e' := by
  unfold mz_gt1 at h ⊢
  rw [he]
  exact h
/-- tracked slots, with the changed ones as variables from b on -/
theorem mz_nt_ok {ρ ρ' : Nat → Int} {M : Nat → mq_C} {ms : List Nat} {np n0 b : Nat} {es0 : List mz_E} (hlo : ∀ i, i < n0 → ρ' i = ρ i) (hmo : ∀ i j e, ms[i]? = some j → es0[j]? = some e → ρ' (b + i) = mz_ev ρ e) : ∀ (ts : List (Nat × Nat)) (es : List mz_E) (j : Nat), (∀ i, es[i]? = es0[j + i]?) → (∀ i, i < ts.length → np + (j + i) < n0) → mz_un1 ms np j es = true → mz_gt G ρ M ts es → mz_gt G ρ' M ts (mz_nt ms np b j ts.length) := by
  intro ts
  induction ts with
  | nil => intro es j _ _ _ h; exact trivial
  | cons t ts ih =>
    intro es j he hn hu h
    cases es with
    | nil => exact h.elim
    | cons e es =>
      obtain ⟨hu1, hu2⟩ := mz_bif hu
      refine ⟨?_, ih es (j + 1) (fun i => ?_) (fun i hi => ?_) hu2 h.2⟩
      · refine mz_gt1_x G ?_ h.1
        split
        · next i hp =>
          rw [mz_vr_ev]
          exact hmo i j e (mz_pos_ok _ hp) (by rw [← Nat.add_zero j, ← he 0]; rfl)
        · next hp =>
          rw [hp] at hu1
          rw [mz_vr_ev, hlo (np + j) (hn 0 (Nat.succ_pos _)), mz_eqE_ok hu1, mz_vr_ev]
      · have := he (i + 1)
        rw [show j + (i + 1) = j + 1 + i by omega] at this
        exact this
      · have := hn (i + 1) (Nat.succ_lt_succ hi)
        omega
end VCX
