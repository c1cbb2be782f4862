/-! BY HAND: numbers of slots; contracts used and given by hand; blocks of the checker. -/
section HB
variable (G : mz_G) (P : List mq_T) (X : (Nat → mq_C) → Prop)
/-- the number that a value has: an int, or the length of what is referred to -/
def hb_w (v : Option Value) : Int := match v with
  | some (.int x) => x.toInt
  | some (.long x) => x.toInt
  | some (.ref b) => match G.1 b with
    | some c => (c.2.1 : Int)
    | none => 0
  | _ => 0
def hb_v (M : Nat → mq_C) (a i : Nat) : Int := hb_w G ((M a).2[i]?)
def hb_tk (t : Nat × Nat) : Bool := match G.1 t.1 with
  | some c => bif Nat.blt t.2 c.2.1 then (match mz_at c t.2 with
    | (0, _, _) => true
    | (1, g, _) => (G.2.1 g.toNat).all (fun b => (G.1 b).isSome)
    | _ => false) else false
  | none => false
theorem hb_gt1 {ρ : Nat → Int} {M : Nat → mq_C} {t : Nat × Nat} {e : mz_E} (hm : mz_sh G M) (ht : hb_tk G t = true) (he : mz_ev ρ e = hb_v G M t.1 t.2) : mz_gt1 G ρ M t e := by
  unfold hb_tk at ht
  split at ht
  · next c hc =>
    obtain ⟨m1, m2, m3⟩ := hm t.1 c hc
    obtain ⟨hl, ht⟩ := mz_bif ht
    have hl' : t.2 < (M t.1).2.length := by rw [m2]; exact Nat.le_of_ble_eq_true hl
    obtain ⟨w, hw⟩ : ∃ w, (M t.1).2[t.2]? = some w := ⟨_, List.getElem?_eq_getElem hl'⟩
    have hok := m3 _ _ hw
    unfold mz_gt1
    rw [he]
    unfold hb_v
    rw [hw]
    split at ht
    · next lo hi ha =>
      rw [ha] at hok
      cases w with
      | int x => rfl
      | _ => exact hok.elim
    · next g w' ha =>
      rw [ha] at hok
      cases w with
      | ref b =>
        have hb : b ∈ G.2.1 g.toNat := hok
        have h9 := List.all_eq_true.mp ht b hb
        cases hcb : G.1 b with
        | none => rw [hcb] at h9; cases h9
        | some cb =>
          refine ⟨cb, hcb, ?_⟩
          show (cb.2.1 : Int) = (match G.1 b with
            | some c => (c.2.1 : Int)
            | none => 0)
          rw [hcb]
      | _ => exact hok.elim
    · cases ht
  · cases ht
theorem hb_gt1' {ρ : Nat → Int} {M : Nat → mq_C} {t : Nat × Nat} {e : mz_E} (h : mz_gt1 G ρ M t e) : mz_ev ρ e = hb_v G M t.1 t.2 := by
  unfold mz_gt1 at h
  unfold hb_v
  split at h
  · next x hx => rw [hx]; exact h.symm
  · next b hx =>
    rw [hx]
    obtain ⟨c, hc, he⟩ := h
    show _ = (match G.1 b with
      | some c => (c.2.1 : Int)
      | none => 0)
    rw [hc]
    exact he.symm
  · exact h.elim
theorem hb_gt {ρ : Nat → Int} {M : Nat → mq_C} (hm : mz_sh G M) : ∀ (ts : List (Nat × Nat)) (es : List mz_E), ts.all (hb_tk G) = true → ts.length = es.length → (∀ (j : Nat) (t : Nat × Nat) (e : mz_E), ts[j]? = some t → es[j]? = some e → mz_ev ρ e = hb_v G M t.1 t.2) → mz_gt G ρ M ts es := by
  intro ts
  induction ts with
  | nil => intro es _ hl _; cases es with
    | nil => exact trivial
    | cons e es => cases hl
  | cons t ts ih => intro es ha hl h; cases es with
    | nil => cases hl
    | cons e es =>
      rw [List.all_cons, Bool.and_eq_true] at ha
      exact ⟨hb_gt1 G hm ha.1 (h 0 t e rfl rfl), ih es ha.2 (Nat.succ.inj hl) (fun j t e h1 h2 => h (j + 1) t e h1 h2)⟩
theorem hb_gtg {ρ : Nat → Int} {M : Nat → mq_C} {ts : List (Nat × Nat)} {es : List mz_E} (h : mz_gt G ρ M ts es) {j : Nat} {t : Nat × Nat} {e : mz_E} (h1 : ts[j]? = some t) (h2 : es[j]? = some e) : mz_ev ρ e = hb_v G M t.1 t.2 := by
  obtain ⟨e', h3, h4⟩ := mz_gt_get G ts es j t h h1
  rw [h2] at h3
  cases h3
  exact hb_gt1' G h4
theorem hb_nt {ms : List Nat} {np b : Nat} : ∀ (m s j : Nat), j < m → (mz_nt ms np b s m)[j]? = some (match mz_pos (s + j) ms with
    | some i => mz_vr (b + i)
    | none => mz_vr (np + (s + j))) := by
  intro m
  induction m with
  | zero => intro s j h; omega
  | succ m ih =>
    intro s j h
    cases j with
    | zero => rfl
    | succ j =>
      show (mz_nt ms np b (s + 1) m)[j]? = _
      rw [ih (s + 1) j (by omega), show s + 1 + j = s + (j + 1) by omega]
theorem hb_ntl {ms : List Nat} {np b : Nat} : ∀ (m s : Nat), (mz_nt ms np b s m).length = m := by
  intro m
  induction m with
  | zero => intro s; rfl
  | succ m ih => intro s; show (mz_nt ms np b (s + 1) m).length + 1 = m + 1; rw [ih]
/-- the variables before: arguments, then tracked slots -/
def hb_r (q : mz_Q) (vs : List Value) (M : Nat → mq_C) (i : Nat) : Int := if i < q.2.1.length then hb_w G (vs[i]?) else match G.2.2.1[i - q.2.1.length]? with
  | some t => hb_v G M t.1 t.2
  | none => 0
/-- and behind: slots that changed, then the answer -/
def hb_r1 (q : mz_Q) (ρ : Nat → Int) (M : Nat → mq_C) (res : Int) (i : Nat) : Int := if i < mz_n0 G q then ρ i else match q.2.2.2.1[i - mz_n0 G q]? with
  | some j => (match G.2.2.1[j]? with
    | some t => hb_v G M t.1 t.2
    | none => 0)
  | none => res
def hb_same (q : mz_Q) (M M' : Nat → mq_C) : Prop := ∀ (j : Nat) (t : Nat × Nat), G.2.2.1[j]? = some t → mz_pos j q.2.2.2.1 = none → hb_v G M' t.1 t.2 = hb_v G M t.1 t.2
def hb_po (q : mz_Q) (ρ : Nat → Int) (M : Nat → mq_C) (z u : Nat) (r : Option Value ⊕ Nat) (S : mq_S) : Prop := mz_sh G S.1 ∧ X S.1 ∧ mz_fr q M S.1 ∧ (∀ a, a < 8 → S.1 a = M a) ∧ hb_same G q M S.1 ∧ ∃ p ∈ q.2.2.2.2.1, ∃ res : Int, (∀ f ∈ p.2.2, 0 ≤ mz_ev (hb_r1 G q ρ S.1 res) f) ∧ mz_re G (fun _ => res) p 0 z u r S
def hb_sl (q : mz_Q) (ρ : Nat → Int) (M : Nat → mq_C) : Prop := ∀ (j : Nat) (t : Nat × Nat), G.2.2.1[j]? = some t → ρ (mz_np q + j) = hb_v G M t.1 t.2
/-- the contract is well made -/
def hb_ck (q : mz_Q) : Bool := bif G.2.2.1.all (hb_tk G) then bif decide q.2.2.2.1.Nodup then bif q.2.2.2.1.all (fun j => Nat.blt j G.2.2.1.length) then q.2.2.2.2.1.all (fun p => mz_wfl (mz_n0 G q + q.2.2.2.1.length + 1) p.2.2) else false else false else false
theorem hb_wfl {ρ ρ' : Nat → Int} {n : Nat} (hr : ∀ i, i < n → ρ' i = ρ i) {es : List mz_E} (hw : mz_wfl n es = true) (h : ∀ f ∈ es, 0 ≤ mz_ev ρ f) : ∀ f ∈ es, 0 ≤ mz_ev ρ' f := mz_fs_e hr es hw h
theorem hb_po_of {q : mz_Q} {ρ : Nat → Int} {M : Nat → mq_C} {z u : Nat} {r : Option Value ⊕ Nat} {S : mq_S} (hk : hb_ck G q = true) (hs : hb_sl G q ρ M) (h : mz_po G X q ρ M z u r S) : hb_po G X q ρ M z u r S := by
  obtain ⟨ρ', b1, b2, b3, b4, b5, b6, p, b7, b8, b9⟩ := h
  obtain ⟨k1, k2⟩ := mz_bif hk
  obtain ⟨k2, k3⟩ := mz_bif k2
  obtain ⟨k3, k4⟩ := mz_bif k3
  have key : ∀ (j : Nat) (t : Nat × Nat), G.2.2.1[j]? = some t → (match mz_pos j q.2.2.2.1 with
      | some i => ρ' (mz_n0 G q + i)
      | none => ρ' (mz_np q + j)) = hb_v G S.1 t.1 t.2 := by
    intro j t ht
    have h1 := hb_gtg G b6 ht (hb_nt _ 0 j (List.getElem?_eq_some_iff.mp ht).1)
    rw [Nat.zero_add] at h1
    rw [← h1]
    cases mz_pos j q.2.2.2.1 with
    | none => exact mz_vr_ev.symm
    | some i => exact mz_vr_ev.symm
  have hn : ∀ (j : Nat) (t : Nat × Nat), G.2.2.1[j]? = some t → mz_np q + j < mz_n0 G q := by
    intro j t ht
    have := (List.getElem?_eq_some_iff.mp ht).1
    show q.2.1.length + j < q.2.1.length + G.2.2.1.length
    omega
  refine ⟨b2, b3, b4, b5, ?_, p, b7, ρ' (mz_n0 G q + q.2.2.2.1.length), ?_, ?_⟩
  · intro j t ht hp
    have h1 := key j t ht
    rw [hp] at h1
    rw [← h1, ← hs j t ht]
    exact b1 _ (hn j t ht)
  · refine hb_wfl (n := mz_n0 G q + q.2.2.2.1.length + 1) ?_ (List.all_eq_true.mp k4 p b7) b8
    intro i hi
    unfold hb_r1
    by_cases h0 : i < mz_n0 G q
    · rw [if_pos h0]; exact (b1 i h0).symm
    · rw [if_neg h0]
      obtain ⟨m, rfl⟩ : ∃ m, i = mz_n0 G q + m := ⟨i - mz_n0 G q, by omega⟩
      rw [Nat.add_sub_cancel_left]
      by_cases hm : m < q.2.2.2.1.length
      · have e1 : q.2.2.2.1[m]? = some q.2.2.2.1[m] := List.getElem?_eq_getElem hm
        rw [e1]
        have hj : q.2.2.2.1[m] < G.2.2.1.length := Nat.le_of_ble_eq_true (List.all_eq_true.mp k3 _ (List.getElem_mem hm))
        have e2 : G.2.2.1[q.2.2.2.1[m]]? = some G.2.2.1[q.2.2.2.1[m]] := List.getElem?_eq_getElem hj
        show (match G.2.2.1[q.2.2.2.1[m]]? with
          | some t => hb_v G S.1 t.1 t.2
          | none => 0) = _
        have h1 := key _ _ e2
        rw [mz_pos_nd _ _ _ (of_decide_eq_true k2) e1] at h1
        rw [e2]
        exact h1.symm
      · have e1 : m = q.2.2.2.1.length := by omega
        subst e1
        rw [List.getElem?_eq_none (Nat.le_refl _)]
  · unfold mz_re at b9 ⊢
    exact b9
theorem hb_po_to {q : mz_Q} {ρ : Nat → Int} {M : Nat → mq_C} {z u : Nat} {r : Option Value ⊕ Nat} {S : mq_S} (hk : G.2.2.1.all (hb_tk G) = true) (hs : hb_sl G q ρ M) (h : hb_po G X q ρ M z u r S) : mz_po G X q ρ M z u r S := by
  obtain ⟨b2, b3, b4, b5, b6, p, b7, res, b8, b9⟩ := h
  refine ⟨hb_r1 G q ρ S.1 res, fun i hi => if_pos hi, b2, b3, b4, b5, ?_, p, b7, b8, ?_⟩
  · refine hb_gt G b2 _ _ hk (hb_ntl _ _).symm ?_
    intro j t e ht he
    have hj := (List.getElem?_eq_some_iff.mp ht).1
    rw [hb_nt _ 0 j hj, Nat.zero_add] at he
    cases hp : mz_pos j q.2.2.2.1 with
    | none =>
      rw [hp] at he
      cases he
      rw [mz_vr_ev, b6 j t ht hp, ← hs j t ht]
      exact if_pos (by show q.2.1.length + j < q.2.1.length + G.2.2.1.length; omega)
    | some i =>
      rw [hp] at he
      cases he
      rw [mz_vr_ev]
      unfold hb_r1
      rw [if_neg (by omega), Nat.add_sub_cancel_left, mz_pos_ok _ hp]
      show (match G.2.2.1[j]? with
        | some t => hb_v G S.1 t.1 t.2
        | none => 0) = _
      rw [ht]
  · have e1 : hb_r1 G q ρ S.1 res (mz_n0 G q + q.2.2.2.1.length) = res := by
      unfold hb_r1
      rw [if_neg (by omega), Nat.add_sub_cancel_left, List.getElem?_eq_none (Nat.le_refl _)]
    unfold mz_re at b9 ⊢
    rw [e1]
    exact b9
/-- have the arguments these shapes? -/
def hb_pk : List (Nat × Nat) → List Value → Prop
  | [], [] => True
  | p :: ps, v :: vs => (match p.1, v with
    | 0, .int _ => True
    | 1, .ref b => b ∈ G.2.1 p.2 ∧ (G.1 b).isSome = true
    | 2, .long _ => True
    | _, _ => False) ∧ hb_pk ps vs
  | _, _ => False
theorem hb_isS {b : Nat} (h : (G.1 b).isSome = true) : ∃ c, G.1 b = some c ∧ (c.2.1 : Int) = hb_w G (some (.ref b)) := by
  cases hc : G.1 b with
  | none => rw [hc] at h; cases h
  | some c =>
    refine ⟨c, rfl, ?_⟩
    show _ = (match G.1 b with
      | some c => (c.2.1 : Int)
      | none => 0)
    rw [hc]
theorem hb_pa1 {ρ : Nat → Int} {b g n : Nat} (hb : b ∈ G.2.1 g) (hs : (G.1 b).isSome = true) (hn : ρ n = hb_w G (some (.ref b))) : mz_gv G ρ (mz_pa G n (1, g)) (.ref b) := by
  show mz_gv G ρ (match mz_ln G g with
    | some e => (1, g, e)
    | none => (1, g, mz_vr n)) (.ref b)
  cases hl : mz_ln G g with
  | some e => exact ⟨hb, mz_ln_ok G hl hb⟩
  | none =>
    obtain ⟨c, hc, he⟩ := hb_isS G hs
    exact ⟨hb, c, hc, by rw [mz_vr_ev, hn]; exact he⟩
theorem hb_gp {ρ : Nat → Int} : ∀ (ps : List (Nat × Nat)) (vs : List Value) (i : Nat), hb_pk G ps vs → (∀ (j : Nat) (v : Value), vs[j]? = some v → ρ (i + j) = hb_w G (some v)) → mz_gp G ρ i ps vs := by
  intro ps
  induction ps with
  | nil => intro vs i h _; cases vs with
    | nil => exact trivial
    | cons v vs => exact h.elim
  | cons p ps ih => intro vs i h hr; cases vs with
    | nil => exact h.elim
    | cons v vs =>
      refine ⟨?_, ih vs (i + 1) h.2 (fun j v hv => by rw [show i + 1 + j = i + (j + 1) by omega]; exact hr (j + 1) v hv)⟩
      have h0 := hr 0 v rfl
      have h1 := h.1
      obtain ⟨p1, g⟩ := p
      split at h1
      · next x hp =>
        have hp : p1 = 0 := hp
        subst hp
        exact ⟨Nat.zero_lt_succ _, by show x.toInt = mz_ev ρ (mz_vr i); rw [mz_vr_ev]; exact h0.symm⟩
      · next b hp =>
        have hp : p1 = 1 := hp
        subst hp
        exact ⟨by show 1 < 3; omega, hb_pa1 G h1.1 h1.2 h0⟩
      · next x hp =>
        have hp : p1 = 2 := hp
        subst hp
        exact ⟨by show 2 < 3; omega, by show x.toInt = mz_ev ρ (mz_vr i); rw [mz_vr_ev]; exact h0.symm⟩
      · exact h1.elim
theorem hb_use {q : mz_Q} {dep d z u : Nat} {vs : List Value} {M : Nat → mq_C} {Q : (Option Value ⊕ Nat) → mq_S → Prop} (hq : mz_Ct G P X q dep) (hk : hb_ck G q = true) (hd : dep ≤ d) (hp : hb_pk G q.2.1 vs) (hm : mz_sh G M) (hx : X M) (hz : 272 ≤ z) (hpre : ∀ f ∈ q.2.2.1, 0 ≤ mz_ev (hb_r G q vs M) f) (hQ : ∀ r S, hb_po G X q (hb_r G q vs M) M z u r S → Q r S) : mq_R P d q.1 0 (mq_en P q.1 vs) [] (M, z, u) Q := by
  have hlen : ∀ (ps : List (Nat × Nat)) (vs : List Value), hb_pk G ps vs → vs.length = ps.length := by
    intro ps
    induction ps with
    | nil => intro vs h; cases vs with
      | nil => rfl
      | cons v vs => exact h.elim
    | cons p ps ih => intro vs h; cases vs with
      | nil => exact h.elim
      | cons v vs => show vs.length + 1 = ps.length + 1; rw [ih vs h.2]
  have hl := hlen _ _ hp
  have hs : hb_sl G q (hb_r G q vs M) M := by
    intro j t ht
    unfold hb_r
    rw [if_neg (by show ¬ q.2.1.length + j < q.2.1.length; omega), show mz_np q + j - q.2.1.length = j from Nat.add_sub_cancel_left .., ht]
  refine mq_R_imp (hq d hd (hb_r G q vs M) vs M z u ?_ ?_ hpre hm hx hz) (fun r S h => hQ r S (hb_po_of G X hk hs h))
  · refine hb_gp G _ _ 0 hp (fun j v hv => ?_)
    unfold hb_r
    have := (List.getElem?_eq_some_iff.mp hv).1
    rw [Nat.zero_add, if_pos (by omega), hv]
  · obtain ⟨k1, k2⟩ := mz_bif hk
    refine hb_gt G hm _ _ k1 (mz_vs_len _ _).symm ?_
    intro j t e ht he
    rw [mz_vs_get _ _ _ (List.getElem?_eq_some_iff.mp ht).1] at he
    cases he
    rw [mz_vr_ev]
    exact hs j t ht
theorem hb_ct {q : mz_Q} {dep : Nat} (hk : G.2.2.1.all (hb_tk G) = true) (h : ∀ d, dep ≤ d → ∀ (ρ : Nat → Int) (vs : List Value) (M : Nat → mq_C) (z u : Nat), mz_gp G ρ 0 q.2.1 vs → hb_sl G q ρ M → (∀ f ∈ q.2.2.1, 0 ≤ mz_ev ρ f) → mz_sh G M → X M → 272 ≤ z → mq_R P d q.1 0 (mq_en P q.1 vs) [] (M, z, u) (hb_po G X q ρ M z u)) : mz_Ct G P X q dep := by
  intro d hd ρ vs M z u h1 h2 h3 hm hx hz
  have hs : hb_sl G q ρ M := by
    intro j t ht
    have h9 := hb_gtg G h2 ht (mz_vs_get _ _ _ (List.getElem?_eq_some_iff.mp ht).1)
    rw [mz_vr_ev] at h9
    exact h9
  exact mq_R_imp (h d hd ρ vs M z u h1 hs h3 hm hx hz) (fun r S hh => hb_po_to G X hk hs hh)
/-! shapes, one by one -/
theorem hb_p0 {ρ : Nat → Int} {i g : Nat} {ps : List (Nat × Nat)} {vs : List Value} (h : mz_gp G ρ i ((0, g) :: ps) vs) : ∃ x vs', vs = .int x :: vs' ∧ ρ i = x.toInt ∧ mz_gp G ρ (i + 1) ps vs' := by
  cases vs with
  | nil => exact h.elim
  | cons v vs =>
    obtain ⟨x, rfl, hx⟩ := mz_gv_i G (g := 0) (e := mz_vr i) h.1.2
    exact ⟨x, vs, rfl, by rw [hx, mz_vr_ev], h.2⟩
theorem hb_p2 {ρ : Nat → Int} {i g : Nat} {ps : List (Nat × Nat)} {vs : List Value} (h : mz_gp G ρ i ((2, g) :: ps) vs) : ∃ x vs', vs = .long x :: vs' ∧ ρ i = x.toInt ∧ mz_gp G ρ (i + 1) ps vs' := by
  cases vs with
  | nil => exact h.elim
  | cons v vs =>
    obtain ⟨x, rfl, hx⟩ := mz_gv_l G (g := 0) (e := mz_vr i) h.1.2
    exact ⟨x, vs, rfl, by rw [hx, mz_vr_ev], h.2⟩
theorem hb_gv1 {ρ : Nat → Int} {n g : Nat} {v : Value} (h : mz_gv G ρ (mz_pa G n (1, g)) v) : ∃ b, v = .ref b ∧ b ∈ G.2.1 g := by
  have h' : mz_gv G ρ (match mz_ln G g with
    | some e => (1, g, e)
    | none => (1, g, mz_vr n)) v := h
  cases hl : mz_ln G g with
  | some e =>
    rw [hl] at h'
    obtain ⟨b, rfl, hb, _⟩ := mz_gv_r G h'
    exact ⟨b, rfl, hb⟩
  | none =>
    rw [hl] at h'
    obtain ⟨b, rfl, hb, _⟩ := mz_gv_r G h'
    exact ⟨b, rfl, hb⟩
theorem hb_p1 {ρ : Nat → Int} {i g : Nat} {ps : List (Nat × Nat)} {vs : List Value} (h : mz_gp G ρ i ((1, g) :: ps) vs) : ∃ b vs', vs = .ref b :: vs' ∧ b ∈ G.2.1 g ∧ mz_gp G ρ (i + 1) ps vs' := by
  cases vs with
  | nil => exact h.elim
  | cons v vs =>
    obtain ⟨b, rfl, hb⟩ := hb_gv1 G h.1.2
    exact ⟨b, vs, rfl, hb, h.2⟩
theorem hb_pn {ρ : Nat → Int} {i : Nat} {vs : List Value} (h : mz_gp G ρ i [] vs) : vs = [] := by
  cases vs with
  | nil => rfl
  | cons v vs => exact h.elim
theorem hb_l0 {ρ : Nat → Int} {i g : Nat} {ps : List (Nat × Nat)} {L : mq_L} (h : mz_gl G ρ (mz_hl G i ((0, g) :: ps)) L) : ∃ x L', L = some (.int x) :: L' ∧ ρ i = x.toInt ∧ mz_gl G ρ (mz_hl G (i + 1) ps) L' := by
  cases L with
  | nil => exact h.elim
  | cons o L =>
    obtain ⟨x, rfl, hx⟩ := mz_go_0 G (g := 0) (e := mz_vr i) h.1
    exact ⟨x, L, rfl, by rw [hx, mz_vr_ev], h.2⟩
theorem hb_l1 {ρ : Nat → Int} {i g : Nat} {ps : List (Nat × Nat)} {L : mq_L} (h : mz_gl G ρ (mz_hl G i ((1, g) :: ps)) L) : ∃ b L', L = some (.ref b) :: L' ∧ b ∈ G.2.1 g ∧ mz_gl G ρ (mz_hl G (i + 1) ps) L' := by
  cases L with
  | nil => exact h.elim
  | cons o L =>
    have h0 : mz_go G ρ (mz_pa G i (1, g)) o := h.1
    have hne : (mz_pa G i (1, g)).1 = 1 := by
      show (match mz_ln G g with
        | some e => (1, g, e)
        | none => (1, g, mz_vr i)).1 = 1
      cases mz_ln G g <;> rfl
    unfold mz_go at h0
    split at h0
    · next e3 => rw [hne] at e3; cases e3
    · obtain ⟨v, rfl, hv⟩ := h0
      obtain ⟨b, rfl, hb⟩ := hb_gv1 G hv
      exact ⟨b, L, rfl, hb, h.2⟩
theorem hb_l3 {ρ : Nat → Int} {i g : Nat} {ps : List (Nat × Nat)} {L : mq_L} (h : mz_gl G ρ (mz_hl G i ((3, g) :: ps)) L) : ∃ o L', L = o :: L' ∧ mq_nl o = true ∧ mz_gl G ρ (mz_hl G (i + 1) ps) L' := by
  cases L with
  | nil => exact h.elim
  | cons o L => exact ⟨o, L, rfl, h.1, h.2⟩
theorem hb_ln {ρ : Nat → Int} {i : Nat} {L : mq_L} (h : mz_gl G ρ (mz_hl G i []) L) : L = [] := by
  cases L with
  | nil => rfl
  | cons v vs => exact h.elim
/-- have the locals these shapes? -/
def hb_lk : List (Nat × Nat) → mq_L → Prop
  | [], [] => True
  | p :: ps, o :: L => (match p.1, o with
    | 0, some (.int _) => True
    | 1, some (.ref b) => b ∈ G.2.1 p.2 ∧ (G.1 b).isSome = true
    | 3, o => mq_nl o = true
    | _, _ => False) ∧ hb_lk ps L
  | _, _ => False
theorem hb_gl {ρ : Nat → Int} : ∀ (ps : List (Nat × Nat)) (L : mq_L) (i : Nat), hb_lk G ps L → (∀ (j : Nat) (o : Option Value), L[j]? = some o → ρ (i + j) = hb_w G o) → mz_gl G ρ (mz_hl G i ps) L := by
  intro ps
  induction ps with
  | nil => intro L i h _; cases L with
    | nil => exact trivial
    | cons v vs => exact h.elim
  | cons p ps ih => intro L i h hr; cases L with
    | nil => exact h.elim
    | cons o L =>
      refine ⟨?_, ih L (i + 1) h.2 (fun j v hv => by rw [show i + 1 + j = i + (j + 1) by omega]; exact hr (j + 1) v hv)⟩
      have h0 := hr 0 o rfl
      have h1 := h.1
      obtain ⟨p1, g⟩ := p
      split at h1
      · next x hp =>
        have hp : p1 = 0 := hp
        subst hp
        exact ⟨_, rfl, by show x.toInt = mz_ev ρ (mz_vr i); rw [mz_vr_ev]; exact h0.symm⟩
      · next b hp =>
        have hp : p1 = 1 := hp
        subst hp
        exact mz_go_v G (hb_pa1 G h1.1 h1.2 h0) (by
          show (match mz_ln G g with
            | some e => (1, g, e)
            | none => (1, g, mz_vr i)).1 ≠ 3
          cases mz_ln G g <;> (intro h; cases h))
      · next hp =>
        have hp : p1 = 3 := hp
        subst hp
        exact h1
      · exact h1.elim
/-- the variables of a block: locals, stack, tracked slots -/
def hb_rb (q : mz_Q) (nl : Nat) (L : mq_L) (st : List Value) (M : Nat → mq_C) (i : Nat) : Int := if i < nl then hb_w G (L.getD i none) else if i < q.2.1.length then hb_w G (st[i - nl]?) else match G.2.2.1[i - q.2.1.length]? with
  | some t => hb_v G M t.1 t.2
  | none => 0
def mz_bk (q : mz_Q) (nl : Nat) : mz_K := (mz_hl G 0 (q.2.1.take nl), mz_hl G nl (q.2.1.drop nl), mz_vs (mz_np q) G.2.2.1.length, mz_ef G q, mz_n0 G q)
def mz_blk (Cs : List (mz_Q × Nat)) (q : mz_Q) (nl dep pc : Nat) (sts : List mz_Sp2) (sp : List mz_Sl) (fuel : Nat) (hs : List mz_H) : Bool := bif mq_nh P q.1 then bif hb_ck G q then bif decide (nl ≤ q.2.1.length) then bif (q.2.1.drop nl).all (fun p => Nat.blt p.1 3) then (match mz_y G P Cs q (mz_n0 G q) dep sts sp fuel 1 pc (mz_bk G q nl) hs with
  | some _ => true
  | none => false) else false else false else false else false
theorem mz_gpr {ρ : Nat → Int} : ∀ (ps : List (Nat × Nat)) (vs : List Value) (i : Nat), mz_gp G ρ i ps vs → mz_gs G ρ (mz_hl G i ps) vs ∧ ∀ f ∈ mz_prs G i ps, 0 ≤ mz_ev ρ f := by
  intro ps
  induction ps with
  | nil => intro vs i h; cases vs with
    | nil => exact ⟨trivial, mz_nil_l⟩
    | cons v vs => exact h.elim
  | cons p ps ih => intro vs i h; cases vs with
    | nil => exact h.elim
    | cons v vs =>
      obtain ⟨q1, q2⟩ := ih vs (i + 1) h.2
      have hne : (mz_pa G i p).1 ≠ 3 := by rw [mz_pa_ne3 G h.1.1]; have := h.1.1; omega
      exact ⟨⟨h.1.2, q1⟩, mz_app_l (mz_pr_ok G (mz_go_v G h.1.2 hne)) q2⟩
theorem mz_glr {ρ : Nat → Int} : ∀ (ps : List (Nat × Nat)) (L : mq_L) (i : Nat), mz_gl G ρ (mz_hl G i ps) L → ∀ f ∈ mz_prs G i ps, 0 ≤ mz_ev ρ f := by
  intro ps
  induction ps with
  | nil => intro vs i h; exact mz_nil_l
  | cons p ps ih => intro L i h; cases L with
    | nil => exact h.elim
    | cons o L => exact mz_app_l (mz_pr_ok G h.1) (ih L (i + 1) h.2)
theorem mz_prs_app {ρ : Nat → Int} : ∀ (ps qs : List (Nat × Nat)) (i : Nat), (∀ f ∈ mz_prs G i ps, 0 ≤ mz_ev ρ f) → (∀ f ∈ mz_prs G (i + ps.length) qs, 0 ≤ mz_ev ρ f) → ∀ f ∈ mz_prs G i (ps ++ qs), 0 ≤ mz_ev ρ f := by
  intro ps
  induction ps with
  | nil => intro qs i _ h; exact h
  | cons p ps ih =>
    intro qs i h1 h2
    refine mz_app_l (fun f hf => h1 f (List.mem_append_left _ hf)) (ih qs (i + 1) (fun f hf => h1 f (List.mem_append_right _ hf)) ?_)
    rw [show i + 1 + ps.length = i + (p :: ps).length by rw [List.length_cons]; omega]
    exact h2
/-- the side conditions of a table -/
def hb_ok : Prop := (∀ t ∈ G.2.2.1, t.1 < 272) ∧ (∀ a, G.2.2.2.1 a = true → a < 272) ∧ (∀ t ∈ G.2.2.2.2, t.1 < 272) ∧ (∀ a, a < 8 → G.2.2.2.1 a = true) ∧ ∀ a c, G.1 a = some c → a < 272
theorem hb_blk {Cs : List (mz_Q × Nat)} {q : mz_Q} {nl dep pc fuel d z u : Nat} {sts : List mz_Sp2} {sp : List mz_Sl} {hs : List mz_H} {M : Nat → mq_C} {L : mq_L} {st : List Value} {Q : (Option Value ⊕ Nat) → mq_S → Prop} (hG : hb_ok G) (hX : ∀ M M' : Nat → mq_C, mz_same G M M' → X M → X M') (hC : ∀ c ∈ Cs, c.2 < dep → mz_Ct G P X c.1 c.2) (h : mz_blk G P Cs q nl dep pc sts sp fuel hs = true) (hz : 272 ≤ z) (hd : dep ≤ d) (hl : hb_lk G (q.2.1.take nl) L) (hp : hb_pk G (q.2.1.drop nl) st) (hm : mz_sh G M) (hx : X M) (hpre : ∀ f ∈ q.2.2.1, 0 ≤ mz_ev (hb_rb G q nl L st M) f)
    (hK : ∀ s ∈ sts, ∀ (ρ1 : Nat → Int) (L' : mq_L) (st' : List Value) (M' : Nat → mq_C), mz_gl G ρ1 (mz_hl G (mz_n0 G q) s.2.1) L' → mz_gp G ρ1 (mz_n0 G q + s.2.1.length) s.2.2.1 st' → (∀ (m j : Nat) (t : Nat × Nat), q.2.2.2.1[m]? = some j → G.2.2.1[j]? = some t → ρ1 (mz_n0 G q + (s.2.1.length + s.2.2.1.length) + m) = hb_v G M' t.1 t.2) → (∀ i, i < mz_n0 G q → ρ1 i = hb_rb G q nl L st M i) → (∀ f ∈ s.2.2.2, 0 ≤ mz_ev ρ1 f) → mz_sh G M' → X M' → mz_fr q M M' → (∀ a, a < 8 → M' a = M a) → hb_same G q M M' → mq_R P d q.1 s.1 L' st' (M', z, u) Q) (hQ : ∀ r S, hb_po G X q (hb_rb G q nl L st M) M z u r S → Q r S) : mq_R P d q.1 pc L st (M, z, u) Q := by
  obtain ⟨k1, h⟩ := mz_bif h
  obtain ⟨k2, h⟩ := mz_bif h
  obtain ⟨k3, h⟩ := mz_bif h
  obtain ⟨k4, h⟩ := mz_bif h
  have hnl : nl ≤ q.2.1.length := of_decide_eq_true k3
  obtain ⟨hs', e⟩ : ∃ hs', mz_y G P Cs q (mz_n0 G q) dep sts sp fuel 1 pc (mz_bk G q nl) hs = some hs' := by
    split at h
    · next hs' e => exact ⟨hs', e⟩
    · cases h
  have hsl : hb_sl G q (hb_rb G q nl L st M) M := by
    intro j t ht
    unfold hb_rb
    rw [if_neg (by show ¬ q.2.1.length + j < nl; omega), if_neg (by show ¬ q.2.1.length + j < q.2.1.length; omega), show mz_np q + j - q.2.1.length = j from Nat.add_sub_cancel_left .., ht]
  have hlk : ∀ (ps : List (Nat × Nat)) (L : mq_L), hb_lk G ps L → L.length = ps.length := by
    intro ps
    induction ps with
    | nil => intro vs h; cases vs with
      | nil => rfl
      | cons v vs => exact h.elim
    | cons p ps ih => intro vs h; cases vs with
      | nil => exact h.elim
      | cons v vs => show vs.length + 1 = ps.length + 1; rw [ih vs h.2]
  have hlp : ∀ (ps : List (Nat × Nat)) (L : List Value), hb_pk G ps L → L.length = ps.length := by
    intro ps
    induction ps with
    | nil => intro vs h; cases vs with
      | nil => rfl
      | cons v vs => exact h.elim
    | cons p ps ih => intro vs h; cases vs with
      | nil => exact h.elim
      | cons v vs => show vs.length + 1 = ps.length + 1; rw [ih vs h.2]
  have hL := hlk _ _ hl
  have hS := hlp _ _ hp
  rw [List.length_take] at hL
  rw [List.length_drop] at hS
  have g1 : mz_gl G (hb_rb G q nl L st M) (mz_hl G 0 (q.2.1.take nl)) L := by
    refine hb_gl G _ _ 0 hl (fun j o ho => ?_)
    have hj := (List.getElem?_eq_some_iff.mp ho).1
    unfold hb_rb
    rw [Nat.zero_add, if_pos (by omega), List.getD_eq_getElem?_getD, ho]
    rfl
  have g2 : mz_gp G (hb_rb G q nl L st M) nl (q.2.1.drop nl) st := by
    refine hb_gp G _ _ nl hp (fun j o ho => ?_)
    have hj := (List.getElem?_eq_some_iff.mp ho).1
    unfold hb_rb
    rw [if_neg (by omega), if_pos (by omega), Nat.add_sub_cancel_left, ho]
  obtain ⟨g3, g4⟩ := mz_gpr G _ _ _ g2
  have g5 : mz_gt G (hb_rb G q nl L st M) M G.2.2.1 (mz_vs (mz_np q) G.2.2.1.length) := by
    obtain ⟨k5, _⟩ := mz_bif k2
    refine hb_gt G hm _ _ k5 (mz_vs_len _ _).symm ?_
    intro j t e ht he
    rw [mz_vs_get _ _ _ (List.getElem?_eq_some_iff.mp ht).1] at he
    cases he
    rw [mz_vr_ev]
    exact hsl j t ht
  have g6 : ∀ f ∈ mz_ef G q, 0 ≤ mz_ev (hb_rb G q nl L st M) f := by
    refine mz_app_l hpre (mz_app_l ?_ (mz_trs_ok G hm _ _ g5))
    rw [← List.take_append_drop nl q.2.1]
    refine mz_prs_app G _ _ 0 (mz_glr G _ _ _ g1) ?_
    rw [List.length_take, Nat.min_eq_left hnl, Nat.zero_add]
    exact g4
  have hK' : ∀ s ∈ sts, ∀ (ρ1 : Nat → Int) (L' : mq_L) (st' : List Value) (M' : Nat → mq_C), mz_ks G q s ρ1 L' st' M' → mz_iv G X q (hb_rb G q nl L st M) M ρ1 M' → mq_R P d q.1 s.1 L' st' (M', z, u) Q := by
    intro s hs ρ1 L' st' M' hks hiv
    obtain ⟨_, hk2⟩ := mz_bif k2
    obtain ⟨hk2, _⟩ := mz_bif hk2
    refine hK s hs ρ1 L' st' M' hks.1 hks.2.1 ?_ hiv.1 hks.2.2.2 hiv.2.1 hiv.2.2.1 hiv.2.2.2.1 hiv.2.2.2.2 ?_
    · intro m j t hj ht
      have h9 := hb_gtg G hks.2.2.1 ht (hb_nt _ 0 j (List.getElem?_eq_some_iff.mp ht).1)
      rw [Nat.zero_add, mz_pos_nd _ _ _ (of_decide_eq_true hk2) hj] at h9
      rw [← h9]
      exact mz_vr_ev.symm
    · intro j t ht hp
      have h9 := hb_gtg G hks.2.2.1 ht (hb_nt _ 0 j (List.getElem?_eq_some_iff.mp ht).1)
      rw [Nat.zero_add, hp] at h9
      rw [← h9, ← hsl j t ht]
      refine Eq.trans mz_vr_ev (hiv.1 _ ?_)
      have := (List.getElem?_eq_some_iff.mp ht).1
      show q.2.1.length + j < q.2.1.length + G.2.2.1.length
      omega
  exact mz_y_ok G P X hX hG.1 hG.2.1 hG.2.2.1 hG.2.2.2.1 hG.2.2.2.2 hC (Nat.le_refl _) hz hd k1 hK' (fun r S hr => hQ r S (hb_po_of G X k2 hsl hr)) _ _ _ _ _ _ e (hb_rb G q nl L st M) L st M ⟨g1, g3, g5, g6⟩ ⟨fun _ _ => rfl, hm, hx, fun _ _ _ => rfl, fun _ _ => rfl⟩ (fun _ _ => rfl)
end HB
theorem hb_nil {ρ : Nat → Int} : ∀ f ∈ ([] : List mz_E), 0 ≤ mz_ev ρ f := fun f hf => by cases hf
theorem hb_cons {ρ : Nat → Int} {a : mz_E} {l : List mz_E} (h1 : 0 ≤ mz_ev ρ a) (h2 : ∀ f ∈ l, 0 ≤ mz_ev ρ f) : ∀ f ∈ a :: l, 0 ≤ mz_ev ρ f := by
  intro f hf
  rcases List.mem_cons.mp hf with rfl | hf
  · exact h1
  · exact h2 f hf
theorem hb_unc {ρ : Nat → Int} {a : mz_E} {l : List mz_E} (h : ∀ f ∈ a :: l, 0 ≤ mz_ev ρ f) : 0 ≤ mz_ev ρ a ∧ ∀ f ∈ l, 0 ≤ mz_ev ρ f := ⟨h a (List.mem_cons_self ..), fun f hf => h f (List.mem_cons_of_mem _ hf)⟩
