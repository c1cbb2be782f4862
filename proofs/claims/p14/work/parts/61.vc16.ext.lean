/-! THE CHECKER: a contract with more tracked slots. -/
section VCE
variable (G : mz_G) (P : List mq_T) (X : (Nat → mq_C) → Prop)
abbrev mz_GE (ex : List (Nat × Nat)) : mz_G := (G.1, G.2.1, G.2.2.1 ++ ex, G.2.2.2)
/-- variables from b on, e higher -/
def mz_shl (b e : Nat) : List (Nat × Int) → List (Nat × Int)
  | [] => []
  | t :: r => (bif Nat.blt t.1 b then t.1 else t.1 + e, t.2) :: mz_shl b e r
def mz_she (b e : Nat) (f : mz_E) : mz_E := (f.1, mz_shl b e f.2)
theorem mz_shl_ev {ρ ρ' : Nat → Int} {b e : Nat} (h1 : ∀ i, i < b → ρ' i = ρ i) (h2 : ∀ i, b ≤ i → ρ' (i + e) = ρ i) : ∀ l, mz_ev1 ρ' (mz_shl b e l) = mz_ev1 ρ l := by
  intro l
  induction l with
  | nil => rfl
  | cons t r ih =>
    show t.2 * ρ' (bif Nat.blt t.1 b then t.1 else t.1 + e) + mz_ev1 ρ' (mz_shl b e r) = t.2 * ρ t.1 + mz_ev1 ρ r
    rw [ih]
    cases hb : Nat.blt t.1 b with
    | true =>
      show t.2 * ρ' t.1 + _ = _
      rw [h1 _ (Nat.le_of_ble_eq_true hb)]
    | false =>
      show t.2 * ρ' (t.1 + e) + _ = _
      rw [h2]
      rcases Nat.lt_or_ge t.1 b with h | h
      · rw [show Nat.blt t.1 b = true from Nat.ble_eq.mpr h] at hb
        cases hb
      · exact h
theorem mz_she_ev {ρ ρ' : Nat → Int} {b e : Nat} (h1 : ∀ i, i < b → ρ' i = ρ i) (h2 : ∀ i, b ≤ i → ρ' (i + e) = ρ i) (f : mz_E) : mz_ev ρ' (mz_she b e f) = mz_ev ρ f := by
  show f.1 + mz_ev1 ρ' (mz_shl b e f.2) = f.1 + mz_ev1 ρ f.2
  rw [mz_shl_ev h1 h2]
/-- the contract with more slots and more asked of them -/
def mz_qe (ex : List (Nat × Nat)) (pre : List mz_E) (q : mz_Q) : mz_Q := (q.1, q.2.1, q.2.2.1 ++ pre, q.2.2.2.1, q.2.2.2.2.1.map (fun p => (p.1, p.2.1, p.2.2.map (mz_she (mz_n0 G q) ex.length))), q.2.2.2.2.2)
/-- what stands in a slot -/
def mz_vl (M : Nat → mq_C) (t : Nat × Nat) : Int := match (M t.1).2[t.2]? with
  | some (.int x) => x.toInt
  | some (.ref b) => match G.1 b with
    | some c => c.2.1
    | none => 0
  | _ => 0
theorem mz_gt_app {ρ : Nat → Int} {M : Nat → mq_C} {bs : List (Nat × Nat)} {fs : List mz_E} (hb : mz_gt G ρ M bs fs) : ∀ (ts : List (Nat × Nat)) (es : List mz_E), mz_gt G ρ M ts es → mz_gt G ρ M (ts ++ bs) (es ++ fs) := by
  intro ts
  induction ts with
  | nil => intro es h; cases es with
    | nil => exact hb
    | cons e es => exact h.elim
  | cons t ts ih => intro es h; cases es with
    | nil => exact h.elim
    | cons e es => exact ⟨h.1, ih es h.2⟩
theorem mz_gt_left {ρ : Nat → Int} {M : Nat → mq_C} : ∀ (ts bs : List (Nat × Nat)) (es fs : List mz_E), es.length = ts.length → mz_gt G ρ M (ts ++ bs) (es ++ fs) → mz_gt G ρ M ts es := by
  intro ts
  induction ts with
  | nil => intro bs es fs hl _; cases es with
    | nil => exact trivial
    | cons e es => cases hl
  | cons t ts ih => intro bs es fs hl h; cases es with
    | nil => cases hl
    | cons e es => exact ⟨h.1, ih bs es fs (Nat.succ.inj hl) h.2⟩
theorem mz_vs_app : ∀ (a b n : Nat), mz_vs n (a + b) = mz_vs n a ++ mz_vs (n + a) b := by
  intro a
  induction a with
  | zero => intro b n; rw [Nat.zero_add]; rfl
  | succ a ih =>
    intro b n
    rw [show a + 1 + b = (a + b) + 1 by omega]
    show mz_vr n :: mz_vs (n + 1) (a + b) = mz_vr n :: (mz_vs (n + 1) a ++ mz_vs (n + (a + 1)) b)
    rw [ih, show n + 1 + a = n + (a + 1) by omega]
theorem mz_nt_app (ms : List Nat) (np b : Nat) : ∀ (a c j : Nat), mz_nt ms np b j (a + c) = mz_nt ms np b j a ++ mz_nt ms np b (j + a) c := by
  intro a
  induction a with
  | zero => intro c j; rw [Nat.zero_add]; rfl
  | succ a ih =>
    intro c j
    rw [show a + 1 + c = (a + c) + 1 by omega]
    show (_ :: mz_nt ms np b (j + 1) (a + c)) = (_ :: (mz_nt ms np b (j + 1) a ++ mz_nt ms np b (j + (a + 1)) c))
    rw [ih, show j + 1 + a = j + (a + 1) by omega]
theorem mz_nt_len (ms : List Nat) (np b : Nat) : ∀ (a j : Nat), (mz_nt ms np b j a).length = a := by
  intro a
  induction a with
  | zero => intro j; rfl
  | succ a ih => intro j; show (mz_nt ms np b (j + 1) a).length + 1 = a + 1; rw [ih]
theorem mz_nt_b {ρ ρ' : Nat → Int} {M : Nat → mq_C} {ms : List Nat} {np b b' n0 : Nat} (hlo : ∀ i, i < n0 → ρ' i = ρ i) (hb : ∀ i, ρ' (b' + i) = ρ (b + i)) : ∀ (ts : List (Nat × Nat)) (j : Nat), np + (j + ts.length) ≤ n0 → mz_gt G ρ M ts (mz_nt ms np b j ts.length) → mz_gt G ρ' M ts (mz_nt ms np b' j ts.length) := by
  intro ts
  induction ts with
  | nil => intro j _ h; exact trivial
  | cons t ts ih =>
    intro j hn h
    rw [List.length_cons] at hn
    refine ⟨?_, ih (j + 1) (by omega) h.2⟩
    refine mz_gt1_x G ?_ h.1
    cases hp : mz_pos j ms with
    | some i => show mz_ev ρ' (mz_vr (b' + i)) = mz_ev ρ (mz_vr (b + i)); rw [mz_vr_ev, mz_vr_ev]; exact hb i
    | none => show mz_ev ρ' (mz_vr (np + j)) = mz_ev ρ (mz_vr (np + j)); rw [mz_vr_ev, mz_vr_ev]; exact hlo _ (by omega)
theorem mz_gp_e {ρ ρ' : Nat → Int} : ∀ (ps : List (Nat × Nat)) (vs : List Value) (i : Nat), (∀ j, j < i + ps.length → ρ' j = ρ j) → mz_gp G ρ i ps vs → mz_gp G ρ' i ps vs := by
  intro ps
  induction ps with
  | nil => intro vs i _ h; cases vs with
    | nil => exact trivial
    | cons v vs => exact h.elim
  | cons p ps ih => intro vs i hr h; cases vs with
    | nil => exact h.elim
    | cons v vs =>
      rw [List.length_cons] at hr
      refine ⟨⟨h.1.1, mz_gv_e G ?_ h.1.2⟩, ih vs (i + 1) (fun j hj => hr j (by omega)) h.2⟩
      obtain ⟨p1, pg⟩ := p
      rcases mz_lt3 h.1.1 with rfl | rfl | rfl
      · show mz_ev ρ' (mz_vr i) = mz_ev ρ (mz_vr i)
        rw [mz_vr_ev, mz_vr_ev]; exact hr i (by omega)
      · show mz_ev ρ' (match mz_ln G pg with
          | some e => ((1 : Nat), pg, e)
          | none => (1, pg, mz_vr i)).2.2 = mz_ev ρ (match mz_ln G pg with
          | some e => ((1 : Nat), pg, e)
          | none => (1, pg, mz_vr i)).2.2
        split
        · next e he =>
          unfold mz_ln at he
          split at he
          · split at he
            · obtain ⟨_, he⟩ := mz_bif4 he
              cases he
              rfl
            · cases he
          · cases he
        · show mz_ev ρ' (mz_vr i) = mz_ev ρ (mz_vr i)
          rw [mz_vr_ev, mz_vr_ev]; exact hr i (by omega)
      · show mz_ev ρ' (mz_vr i) = mz_ev ρ (mz_vr i)
        rw [mz_vr_ev, mz_vr_ev]; exact hr i (by omega)
theorem mz_gt_vl {M : Nat → mq_C} (hm : mz_sh G M) {ρ : Nat → Int} : ∀ (ex : List (Nat × Nat)) (n : Nat), (ex.all (fun t => match G.1 t.1 with
    | some c => bif Nat.blt t.2 c.2.1 then (match mz_at c t.2 with
      | (0, _, _) => true
      | _ => false) else false
    | none => false)) = true → (∀ i t, ex[i]? = some t → ρ (n + i) = mz_vl G M t) → mz_gt G ρ M ex (mz_vs n ex.length) := by
  intro ex
  induction ex with
  | nil => intro n _ _; exact trivial
  | cons t ex ih =>
    intro n ha hv
    rw [List.all_cons, Bool.and_eq_true] at ha
    refine ⟨?_, ih (n + 1) ha.2 (fun i t' h' => ?_)⟩
    · have h1 := ha.1
      split at h1
      · next c hc =>
        obtain ⟨h1, h2⟩ := mz_bif h1
        obtain ⟨m1, m2, m3⟩ := hm t.1 c hc
        obtain ⟨w, hw⟩ := mz_lk (j := t.2) m2 (Nat.le_of_ble_eq_true h1)
        have hok := m3 _ _ hw
        split at h2
        · next lo hi hat =>
          rw [hat] at hok
          cases w with
          | int x =>
            unfold mz_gt1
            rw [hw]
            show x.toInt = mz_ev ρ (mz_vr n)
            rw [mz_vr_ev]
            have := hv 0 t rfl
            unfold mz_vl at this
            rw [hw] at this
            exact this.symm
          | _ => exact hok.elim
        · cases h2
      · cases h1
    · have := hv (i + 1) t' h'
      rw [show n + (i + 1) = n + 1 + i by omega] at this
      exact this
/-- one parameter of a group, for each cell of the group -/
theorem mz_gp_set {ρ : Nat → Int} {g : Nat} (hg1 : ∀ b ∈ G.2.1 g, b ∈ G.2.1 b ∧ (mz_ln G b).isSome = true) : ∀ (k : Nat) (ps : List (Nat × Nat)) (vs : List Value) (i : Nat), ps[k]? = some (1, g) → mz_gp G ρ i ps vs → ∃ b ∈ G.2.1 g, mz_gp G ρ i (ps.set k (1, b)) vs := by
  intro k
  induction k with
  | zero =>
    intro ps vs i hk h
    cases ps with
    | nil => cases hk
    | cons p ps =>
      cases hk
      cases vs with
      | nil => exact h.elim
      | cons v vs =>
        have hb : ∃ b, v = .ref b ∧ b ∈ G.2.1 g := by
          have h1 : mz_gv G ρ (match mz_ln G g with
            | some e => (1, g, e)
            | none => (1, g, mz_vr i)) v := h.1.2
          split at h1
          · obtain ⟨b, rfl, hb, _⟩ := mz_gv_r G h1
            exact ⟨b, rfl, hb⟩
          · obtain ⟨b, rfl, hb, _⟩ := mz_gv_r G h1
            exact ⟨b, rfl, hb⟩
        obtain ⟨b, rfl, hb⟩ := hb
        refine ⟨b, hb, ⟨by show (1 : Nat) < 3; decide, ?_⟩, h.2⟩
        show mz_gv G ρ (match mz_ln G b with
          | some e => (1, b, e)
          | none => (1, b, mz_vr i)) (.ref b)
        obtain ⟨q1, q2⟩ := hg1 b hb
        split
        · next e he => exact ⟨q1, mz_ln_ok G he q1⟩
        · next he => rw [he] at q2; cases q2
  | succ k ih =>
    intro ps vs i hk h
    cases ps with
    | nil => cases hk
    | cons p ps =>
      cases vs with
      | nil => exact h.elim
      | cons v vs =>
        obtain ⟨b, hb, hgp⟩ := ih ps vs (i + 1) hk h.2
        exact ⟨b, hb, h.1, hgp⟩
theorem mz_Ct_or {q : mz_Q} {dep k g : Nat} (hk : q.2.1[k]? = some (1, g)) (hg1 : ∀ b ∈ G.2.1 g, b ∈ G.2.1 b ∧ (mz_ln G b).isSome = true) (h : ∀ b ∈ G.2.1 g, mz_Ct G P X (q.1, q.2.1.set k (1, b), q.2.2) dep) : mz_Ct G P X q dep := by
  intro d hd ρ vs M z u h1 h2 h3 hm hx hz
  obtain ⟨b, hb, hgp⟩ := mz_gp_set G hg1 k _ _ _ hk h1
  have hl : (q.2.1.set k (1, b)).length = q.2.1.length := List.length_set ..
  have hn : mz_n0 G (q.1, q.2.1.set k (1, b), q.2.2) = mz_n0 G q := by
    show (q.2.1.set k (1, b)).length + _ = q.2.1.length + _
    rw [hl]
  have := h b hb d hd ρ vs M z u hgp (by
    show mz_gt G ρ M G.2.2.1 (mz_vs (q.2.1.set k (1, b)).length G.2.2.1.length)
    rw [hl]; exact h2) h3 hm hx hz
  refine mq_R_imp this (fun r S hpo => ?_)
  unfold mz_po at hpo ⊢
  rw [hn] at hpo
  have e1 : mz_np (q.1, q.2.1.set k (1, b), q.2.2) = mz_np q := hl
  rw [e1] at hpo
  exact hpo
/-- the variables with the values of more slots behind those that were -/
def mz_re1 (ρ : Nat → Int) (n : Nat) (l : List Int) (i : Nat) : Int := if i < n then ρ i else l.getD (i - n) 0
theorem mz_Ct_ext {ex : List (Nat × Nat)} {q : mz_Q} {dep : Nat} (hex : (ex.all (fun t => match G.1 t.1 with
    | some c => bif Nat.blt t.2 c.2.1 then (match mz_at c t.2 with
      | (0, _, _) => true
      | _ => false) else false
    | none => false)) = true) (hwp : mz_wfl (mz_n0 G q) q.2.2.1 = true)
    (hh : ∀ (M : Nat → mq_C) (ρ : Nat → Int), mz_sh G M → X M → (∀ i t, ex[i]? = some t → ρ (mz_n0 G q + i) = mz_vl G M t) → (∀ f ∈ q.2.2.1, 0 ≤ mz_ev ρ f) → ∃ pre : List mz_E, (∀ f ∈ pre, 0 ≤ mz_ev ρ f) ∧ mz_Ct (mz_GE G ex) P X (mz_qe G ex pre q) dep) : mz_Ct G P X q dep := by
  intro d hd ρ vs M z u h1 h2 h3 hm hx hz
  have hr1 : ∀ i, i < mz_n0 G q → mz_re1 ρ (mz_n0 G q) (ex.map (mz_vl G M)) i = ρ i := fun i hi => if_pos hi
  have hr2 : ∀ i t, ex[i]? = some t → mz_re1 ρ (mz_n0 G q) (ex.map (mz_vl G M)) (mz_n0 G q + i) = mz_vl G M t := by
    intro i t ht
    unfold mz_re1
    rw [if_neg (by omega), Nat.add_sub_cancel_left, List.getD_eq_getElem?_getD, List.getElem?_map, ht]
    rfl
  have h3' : ∀ f ∈ q.2.2.1, 0 ≤ mz_ev (mz_re1 ρ (mz_n0 G q) (ex.map (mz_vl G M))) f := mz_fs_e (ρ := ρ) (n := mz_n0 G q) hr1 _ hwp h3
  obtain ⟨pre, hpre, h⟩ := hh M _ hm hx hr2 h3'
  have hm' : mz_sh (mz_GE G ex) M := Eq.mpr (mz_sh_G G (G' := mz_GE G ex) rfl rfl) hm
  have hgp : mz_gp G (mz_re1 ρ (mz_n0 G q) (ex.map (mz_vl G M))) 0 q.2.1 vs := mz_gp_e G _ _ _ (fun j hj => hr1 j (by show j < q.2.1.length + G.2.2.1.length; omega)) h1
  have hgt : mz_gt G (mz_re1 ρ (mz_n0 G q) (ex.map (mz_vl G M))) M (G.2.2.1 ++ ex) (mz_vs (mz_np q) (G.2.2.1 ++ ex).length) := by
    rw [List.length_append, mz_vs_app]
    refine mz_gt_app G (mz_gt_vl G hm ex _ hex hr2) _ _ ?_
    have key : ∀ (ts : List (Nat × Nat)) (n : Nat), n + ts.length ≤ mz_n0 G q → mz_gt G ρ M ts (mz_vs n ts.length) → mz_gt G (mz_re1 ρ (mz_n0 G q) (ex.map (mz_vl G M))) M ts (mz_vs n ts.length) := by
      intro ts
      induction ts with
      | nil => intro n _ _; exact trivial
      | cons t ts ih =>
        intro n hn h
        rw [List.length_cons] at hn
        refine ⟨mz_gt1_x G ?_ h.1, ih (n + 1) (by omega) h.2⟩
        rw [mz_vr_ev, mz_vr_ev]
        exact hr1 n (by omega)
    exact key _ _ (Nat.le_refl _) h2
  have hq := h d hd (mz_re1 ρ (mz_n0 G q) (ex.map (mz_vl G M))) vs M z u ?_ ?_ ?_ hm' hx hz
  · refine mq_R_imp hq (fun r S hpo => ?_)
    obtain ⟨ρ2, b1, b2, b3, b4, b5, b6, p, b7, b8, b9⟩ := hpo
    have hn0 : mz_n0 (mz_GE G ex) (mz_qe G ex pre q) = mz_n0 G q + ex.length := by
      show q.2.1.length + (G.2.2.1 ++ ex).length = q.2.1.length + G.2.2.1.length + ex.length
      rw [List.length_append]; omega
    obtain ⟨p0, hp0, rfl⟩ := List.mem_map.mp b7
    have hlo : ∀ i, i < mz_n0 G q → (fun i => if i < mz_n0 G q then ρ i else ρ2 (i + ex.length)) i = ρ2 i := by
      intro i hi
      show (if i < mz_n0 G q then ρ i else ρ2 (i + ex.length)) = ρ2 i
      rw [if_pos hi, b1 i (by rw [hn0]; omega), hr1 i hi]
    have hhi : ∀ i, mz_n0 G q ≤ i → (fun i => if i < mz_n0 G q then ρ i else ρ2 (i + ex.length)) i = ρ2 (i + ex.length) := by
      intro i hi
      show (if i < mz_n0 G q then ρ i else ρ2 (i + ex.length)) = ρ2 (i + ex.length)
      rw [if_neg (by omega)]
    refine ⟨fun i => if i < mz_n0 G q then ρ i else ρ2 (i + ex.length), fun i hi => if_pos hi, Eq.mp (mz_sh_G G (G' := mz_GE G ex) rfl rfl) b2, b3, b4, b5, ?_, p0, hp0, ?_, ?_⟩
    · have b6' := Eq.mp (mz_gt_G G (G' := mz_GE G ex) rfl _ _) b6
      have b6'' : mz_gt G ρ2 S.1 (G.2.2.1 ++ ex) (mz_nt q.2.2.2.1 (mz_np q) (mz_n0 G q + ex.length) 0 (G.2.2.1 ++ ex).length) := by
        rw [← hn0]; exact b6'
      rw [List.length_append, mz_nt_app] at b6''
      have b7' := mz_gt_left G _ _ _ _ (mz_nt_len _ _ _ _ _) b6''
      refine mz_nt_b G (n0 := mz_n0 G q) (b := mz_n0 G q + ex.length) hlo (fun i => ?_) _ 0 (by show q.2.1.length + (0 + G.2.2.1.length) ≤ q.2.1.length + G.2.2.1.length; omega) b7'
      show (if mz_n0 G q + i < mz_n0 G q then ρ (mz_n0 G q + i) else ρ2 (mz_n0 G q + i + ex.length)) = ρ2 (mz_n0 G q + ex.length + i)
      rw [if_neg (by omega)]
      congr 1
      omega
    · intro f hf
      have := b8 (mz_she (mz_n0 G q) ex.length f) (List.mem_map.mpr ⟨f, hf, rfl⟩)
      rw [mz_she_ev (ρ := fun i => if i < mz_n0 G q then ρ i else ρ2 (i + ex.length)) (fun i hi => (hlo i hi).symm) (fun i hi => (hhi i hi).symm)] at this
      exact this
    · have e1 : mz_n0 (mz_GE G ex) (mz_qe G ex pre q) + (mz_qe G ex pre q).2.2.2.1.length = mz_n0 G q + q.2.2.2.1.length + ex.length := by
        rw [hn0]
        show mz_n0 G q + ex.length + q.2.2.2.1.length = _
        omega
      rw [e1] at b9
      have e2 := hhi (mz_n0 G q + q.2.2.2.1.length) (by omega)
      unfold mz_re at b9 ⊢
      rw [e2]
      exact b9
  · have key : ∀ (ps : List (Nat × Nat)) (vs : List Value) (i : Nat) (ρ1 : Nat → Int), mz_gp G ρ1 i ps vs → mz_gp (mz_GE G ex) ρ1 i ps vs := by
      intro ps
      induction ps with
      | nil => intro vs i ρ1 h; cases vs with
        | nil => exact trivial
        | cons v vs => exact h.elim
      | cons p ps ih => intro vs i ρ1 h; cases vs with
        | nil => exact h.elim
        | cons v vs => exact ⟨⟨h.1.1, Eq.mpr (mz_gv_G G (G' := mz_GE G ex) rfl rfl) h.1.2⟩, ih vs (i + 1) ρ1 h.2⟩
    exact key _ _ _ _ hgp
  · exact Eq.mpr (mz_gt_G G (G' := mz_GE G ex) rfl _ _) hgt
  · exact mz_app_l h3' hpre
/-- by another contract of the same method, with other tracked slots and another X -/
theorem mz_Ct_via {G3 : mz_G} {q : mz_Q} {dep : Nat} (h : ∀ (ρ : Nat → Int) (vs : List Value) (M : Nat → mq_C) (z u : Nat), mz_gp G ρ 0 q.2.1 vs → mz_gt G ρ M G.2.2.1 (mz_vs (mz_np q) G.2.2.1.length) → (∀ f ∈ q.2.2.1, 0 ≤ mz_ev ρ f) → mz_sh G M → X M → ∃ (X3 : (Nat → mq_C) → Prop) (q3 : mz_Q) (ρ3 : Nat → Int), q3.1 = q.1 ∧ mz_gp G3 ρ3 0 q3.2.1 vs ∧ mz_gt G3 ρ3 M G3.2.2.1 (mz_vs (mz_np q3) G3.2.2.1.length) ∧ (∀ f ∈ q3.2.2.1, 0 ≤ mz_ev ρ3 f) ∧ mz_sh G3 M ∧ X3 M ∧ mz_Ct G3 P X3 q3 dep ∧ ∀ r S, mz_po G3 X3 q3 ρ3 M z u r S → mz_po G X q ρ M z u r S) : mz_Ct G P X q dep := by
  intro d hd ρ vs M z u h1 h2 h3 hm hx hz
  obtain ⟨X3, q3, ρ3, e1, a1, a2, a3, a4, a5, a6, a7⟩ := h ρ vs M z u h1 h2 h3 hm hx
  rw [← e1]
  exact mq_R_imp (a6 d hd ρ3 vs M z u a1 a2 a3 a4 a5 hz) a7
theorem mz_pos_app {j : Nat} {em : List Nat} : ∀ ms : List Nat, (∀ i ∈ em, i ≠ j) → mz_pos j (ms ++ em) = mz_pos j ms := by
  intro ms
  induction ms with
  | nil =>
    intro h
    show mz_pos j em = none
    induction em with
    | nil => rfl
    | cons a em ih =>
      unfold mz_pos
      have hb : Nat.beq a j = false := by
        cases hx : Nat.beq a j with
        | false => rfl
        | true => exact absurd (Nat.eq_of_beq_eq_true hx) (h a (List.mem_cons_self ..))
      rw [hb, ih (fun i hi => h i (List.mem_cons_of_mem _ hi))]
      rfl
  | cons a ms ih =>
    intro h
    show (bif Nat.beq a j then some 0 else (mz_pos j (ms ++ em)).map (fun n => n + 1)) = (bif Nat.beq a j then some 0 else (mz_pos j ms).map (fun n => n + 1))
    rw [ih h]
theorem mz_nt_ms {ms em : List Nat} {np b : Nat} : ∀ (m j : Nat), (∀ i ∈ em, j + m ≤ i) → mz_nt (ms ++ em) np b j m = mz_nt ms np b j m := by
  intro m
  induction m with
  | zero => intro j _; rfl
  | succ m ih =>
    intro j h
    show (match mz_pos j (ms ++ em) with
      | some i => mz_vr (b + i)
      | none => mz_vr (np + j)) :: mz_nt (ms ++ em) np b (j + 1) m = _
    rw [mz_pos_app ms (fun i hi => by have := h i hi; omega), ih (j + 1) (fun i hi => by have := h i hi; omega)]
    rfl
/-- what is known behind it, with fewer tracked slots: the slots that are left out may have changed too -/
theorem mz_po_down {X3 : (Nat → mq_C) → Prop} {ex : List (Nat × Nat)} {em : List Nat} {e3 : (Nat → Bool) × List (Nat × Nat)} {q q3 : mz_Q} {ρ ρ3 : Nat → Int} {M : Nat → mq_C} {z u : Nat} {r : Option Value ⊕ Nat} {S : mq_S} (hnp : mz_np q3 = mz_np q) (hms : q3.2.2.2.1 = q.2.2.2.1 ++ em) (hem : ∀ j ∈ em, G.2.2.1.length ≤ j) (hW : ∀ a, q.2.2.2.2.2.elem a = false → q3.2.2.2.2.2.elem a = false) (hρ : ∀ i, i < mz_n0 G q → ρ3 i = ρ i) (h : mz_po (G.1, G.2.1, G.2.2.1 ++ ex, e3) X3 q3 ρ3 M z u r S)
    (hP : ∀ (ρ2 : Nat → Int) (p3 : Nat × Nat × List mz_E), p3 ∈ q3.2.2.2.2.1 → (∀ i, i < mz_n0 G q + ex.length → ρ2 i = ρ3 i) → mz_sh G S.1 → X3 S.1 → mz_gt G ρ2 S.1 (G.2.2.1 ++ ex) (mz_nt q3.2.2.2.1 (mz_np q) (mz_n0 G q + ex.length) 0 (G.2.2.1 ++ ex).length) → (∀ f ∈ p3.2.2, 0 ≤ mz_ev ρ2 f) → X S.1 ∧ ∃ p ∈ q.2.2.2.2.1, p.1 = p3.1 ∧ p.2.1 = p3.2.1 ∧ ∀ f ∈ p.2.2, 0 ≤ mz_ev (fun i => if i < mz_n0 G q then ρ i else if i < mz_n0 G q + q.2.2.2.1.length then ρ2 (i + ex.length) else ρ2 (i + ex.length + em.length)) f) : mz_po G X q ρ M z u r S := by
  obtain ⟨ρ2, b1, b2, b3, b4, b5, b6, p3, b7, b8, b9⟩ := h
  have hn0 : mz_n0 (G.1, G.2.1, G.2.2.1 ++ ex, e3) q3 = mz_n0 G q + ex.length := by
    show q3.2.1.length + (G.2.2.1 ++ ex).length = q.2.1.length + G.2.2.1.length + ex.length
    rw [List.length_append]
    have : q3.2.1.length = q.2.1.length := hnp
    omega
  have c2 : mz_sh G S.1 := Eq.mp (mz_sh_G G (G' := (G.1, G.2.1, G.2.2.1 ++ ex, e3)) rfl rfl) b2
  have c6 : mz_gt G ρ2 S.1 (G.2.2.1 ++ ex) (mz_nt q3.2.2.2.1 (mz_np q) (mz_n0 G q + ex.length) 0 (G.2.2.1 ++ ex).length) := by
    have := Eq.mp (mz_gt_G G (G' := (G.1, G.2.1, G.2.2.1 ++ ex, e3)) rfl _ _) b6
    rw [hnp, hn0] at this
    exact this
  obtain ⟨hX, p, hp, t1, t2, hf⟩ := hP ρ2 p3 b7 (fun i hi => b1 i (by rw [hn0]; exact hi)) c2 b3 c6 b8
  refine ⟨_, fun i hi => if_pos hi, c2, hX, fun a ha hw => b4 a ha (hW a hw), b5, ?_, p, hp, hf, ?_⟩
  · have c7 := c6
    rw [List.length_append, mz_nt_app, hms, mz_nt_ms G.2.2.1.length 0 (fun i hi => by have := hem i hi; omega)] at c7
    have c8 := mz_gt_left G _ _ _ _ (mz_nt_len _ _ _ _ _) c7
    have key : ∀ (ts : List (Nat × Nat)) (j : Nat), mz_np q + (j + ts.length) ≤ mz_n0 G q → mz_gt G ρ2 S.1 ts (mz_nt q.2.2.2.1 (mz_np q) (mz_n0 G q + ex.length) j ts.length) → mz_gt G (fun i => if i < mz_n0 G q then ρ i else if i < mz_n0 G q + q.2.2.2.1.length then ρ2 (i + ex.length) else ρ2 (i + ex.length + em.length)) S.1 ts (mz_nt q.2.2.2.1 (mz_np q) (mz_n0 G q) j ts.length) := by
      intro ts
      induction ts with
      | nil => intro j _ _; exact trivial
      | cons t ts ih =>
        intro j hn hh
        rw [List.length_cons] at hn
        refine ⟨mz_gt1_x G ?_ hh.1, ih (j + 1) (by omega) hh.2⟩
        cases hp : mz_pos j q.2.2.2.1 with
        | some i =>
          have hi : i < q.2.2.2.1.length := (List.getElem?_eq_some_iff.mp (mz_pos_ok _ hp)).1
          show mz_ev _ (mz_vr (mz_n0 G q + i)) = mz_ev ρ2 (mz_vr (mz_n0 G q + ex.length + i))
          rw [mz_vr_ev, mz_vr_ev, if_neg (by omega), if_pos (by omega)]
          congr 1
          omega
        | none =>
          show mz_ev _ (mz_vr (mz_np q + j)) = mz_ev ρ2 (mz_vr (mz_np q + j))
          rw [mz_vr_ev, mz_vr_ev, if_pos (by omega), b1 _ (by rw [hn0]; omega), hρ _ (by omega)]
    exact key _ 0 (by show q.2.1.length + (0 + G.2.2.1.length) ≤ q.2.1.length + G.2.2.1.length; omega) c8
  · have e1 : mz_n0 (G.1, G.2.1, G.2.2.1 ++ ex, e3) q3 + q3.2.2.2.1.length = mz_n0 G q + q.2.2.2.1.length + ex.length + em.length := by
      rw [hn0, hms, List.length_append]; omega
    rw [e1] at b9
    have e2 : (fun i => if i < mz_n0 G q then ρ i else if i < mz_n0 G q + q.2.2.2.1.length then ρ2 (i + ex.length) else ρ2 (i + ex.length + em.length)) (mz_n0 G q + q.2.2.2.1.length) = ρ2 (mz_n0 G q + q.2.2.2.1.length + ex.length + em.length) := by
      show (if _ then _ else if _ then _ else _) = _
      rw [if_neg (by omega), if_neg (by omega)]
    unfold mz_re at b9 ⊢
    rw [e2, t1, t2]
    exact b9
/-- other facts asked, where they hold -/
theorem mz_Ct_pre {q : mz_Q} {dep : Nat} (h : ∀ (M : Nat → mq_C) (ρ : Nat → Int), mz_sh G M → X M → mz_gt G ρ M G.2.2.1 (mz_vs (mz_np q) G.2.2.1.length) → (∀ f ∈ q.2.2.1, 0 ≤ mz_ev ρ f) → ∃ pre : List mz_E, (∀ f ∈ pre, 0 ≤ mz_ev ρ f) ∧ mz_Ct G P X (q.1, q.2.1, pre, q.2.2.2) dep) : mz_Ct G P X q dep := by
  intro d hd ρ vs M z u h1 h2 h3 hm hx hz
  obtain ⟨pre, hp, hc⟩ := h M ρ hm hx h2 h3
  exact hc d hd ρ vs M z u h1 h2 hp hm hx hz
/-- more slots, in cells that the method leaves alone -/
theorem mz_Ct_up {ex : List (Nat × Nat)} {q : mz_Q} {dep : Nat} (hW : ∀ t ∈ ex, t.1 < 272 ∧ q.2.2.2.2.2.elem t.1 = false) (hms : ∀ j ∈ q.2.2.2.1, j < G.2.2.1.length) (h : mz_Ct G P X q dep) : mz_Ct (mz_GE G ex) P X (mz_qe G ex [] q) dep := by
  intro d hd ρ vs M z u h1 h2 h3 hm hx hz
  have hm' : mz_sh G M := Eq.mp (mz_sh_G G (G' := mz_GE G ex) rfl rfl) hm
  have hgp : mz_gp G ρ 0 q.2.1 vs := by
    have key : ∀ (ps : List (Nat × Nat)) (vs : List Value) (i : Nat), mz_gp (mz_GE G ex) ρ i ps vs → mz_gp G ρ i ps vs := by
      intro ps
      induction ps with
      | nil => intro vs i h; cases vs with
        | nil => exact trivial
        | cons v vs => exact h.elim
      | cons p ps ih => intro vs i h; cases vs with
        | nil => exact h.elim
        | cons v vs => exact ⟨⟨h.1.1, Eq.mp (mz_gv_G G (G' := mz_GE G ex) rfl rfl) h.1.2⟩, ih vs (i + 1) h.2⟩
    exact key _ _ _ h1
  have h2' : mz_gt G ρ M (G.2.2.1 ++ ex) (mz_vs (mz_np q) G.2.2.1.length ++ mz_vs (mz_np q + G.2.2.1.length) ex.length) := by
    have := Eq.mp (mz_gt_G G (G' := mz_GE G ex) rfl _ _) h2
    have h9 : mz_gt G ρ M (G.2.2.1 ++ ex) (mz_vs (mz_np q) (G.2.2.1 ++ ex).length) := this
    rw [List.length_append, mz_vs_app] at h9
    exact h9
  have h2a := mz_gt_left G _ _ _ _ (mz_vs_len _ _) h2'
  have h2b : mz_gt G ρ M ex (mz_vs (mz_np q + G.2.2.1.length) ex.length) := by
    have key : ∀ (ts bs : List (Nat × Nat)) (es fs : List mz_E), es.length = ts.length → mz_gt G ρ M (ts ++ bs) (es ++ fs) → mz_gt G ρ M bs fs := by
      intro ts
      induction ts with
      | nil => intro bs es fs hl h; cases es with
        | nil => exact h
        | cons e es => cases hl
      | cons t ts ih => intro bs es fs hl h; cases es with
        | nil => cases hl
        | cons e es => exact ih bs es fs (Nat.succ.inj hl) h.2
    exact key _ _ _ _ (mz_vs_len _ _) h2'
  have h3' : ∀ f ∈ q.2.2.1, 0 ≤ mz_ev ρ f := fun f hf => h3 f (List.mem_append_left _ hf)
  refine mq_R_imp (h d hd ρ vs M z u hgp h2a h3' hm' hx hz) (fun r S hpo => ?_)
  obtain ⟨ρ2, b1, b2, b3, b4, b5, b6, p, b7, b8, b9⟩ := hpo
  have hn0 : mz_n0 (mz_GE G ex) (mz_qe G ex [] q) = mz_n0 G q + ex.length := by
    show q.2.1.length + (G.2.2.1 ++ ex).length = q.2.1.length + G.2.2.1.length + ex.length
    rw [List.length_append]; omega
  have hlo : ∀ i, i < mz_n0 G q + ex.length → (fun i => if i < mz_n0 G q + ex.length then ρ i else ρ2 (i - ex.length)) i = ρ i := fun i hi => if_pos hi
  have hhi : ∀ i, mz_n0 G q ≤ i → (fun i => if i < mz_n0 G q + ex.length then ρ i else ρ2 (i - ex.length)) (i + ex.length) = ρ2 i := by
    intro i hi
    show (if i + ex.length < mz_n0 G q + ex.length then ρ (i + ex.length) else ρ2 (i + ex.length - ex.length)) = ρ2 i
    rw [if_neg (by omega), Nat.add_sub_cancel]
  refine ⟨fun i => if i < mz_n0 G q + ex.length then ρ i else ρ2 (i - ex.length), fun i hi => hlo i (by rw [hn0] at hi; exact hi), Eq.mpr (mz_sh_G G (G' := mz_GE G ex) rfl rfl) b2, b3, b4, b5, ?_, (p.1, p.2.1, p.2.2.map (mz_she (mz_n0 G q) ex.length)), List.mem_map.mpr ⟨p, b7, rfl⟩, ?_, ?_⟩
  · refine Eq.mpr (mz_gt_G G (G' := mz_GE G ex) rfl _ _) ?_
    show mz_gt G _ S.1 (G.2.2.1 ++ ex) (mz_nt q.2.2.2.1 (mz_np q) (mz_n0 (mz_GE G ex) (mz_qe G ex [] q)) 0 (G.2.2.1 ++ ex).length)
    rw [hn0, List.length_append, mz_nt_app]
    refine mz_gt_app G ?_ _ _ ?_
    · have key : ∀ (ts : List (Nat × Nat)) (j : Nat), (∀ t ∈ ts, t.1 < 272 ∧ q.2.2.2.2.2.elem t.1 = false) → G.2.2.1.length ≤ j → j + ts.length ≤ G.2.2.1.length + ex.length → mz_gt G ρ M ts (mz_vs (mz_np q + j) ts.length) → mz_gt G (fun i => if i < mz_n0 G q + ex.length then ρ i else ρ2 (i - ex.length)) S.1 ts (mz_nt q.2.2.2.1 (mz_np q) (mz_n0 G q + ex.length) j ts.length) := by
        intro ts
        induction ts with
        | nil => intro j _ _ _ _; exact trivial
        | cons t ts ih =>
          intro j hw hj hl hgt
          rw [List.length_cons] at hl
          refine ⟨?_, ih (j + 1) (fun t ht => hw t (List.mem_cons_of_mem _ ht)) (by omega) (by omega) hgt.2⟩
          have hno : mz_pos j q.2.2.2.1 = none := by
            cases hp : mz_pos j q.2.2.2.1 with
            | none => rfl
            | some i =>
              have := hms j (List.mem_of_getElem? (mz_pos_ok _ hp))
              omega
          rw [hno]
          obtain ⟨w1, w2⟩ := hw t (List.mem_cons_self ..)
          have h0 := hgt.1
          unfold mz_gt1 at h0 ⊢
          rw [b4 t.1 w1 w2]
          have e1 : mz_ev (fun i => if i < mz_n0 G q + ex.length then ρ i else ρ2 (i - ex.length)) (mz_vr (mz_np q + j)) = mz_ev ρ (mz_vr (mz_np q + j)) := by
            rw [mz_vr_ev, mz_vr_ev]
            exact hlo _ (by show q.2.1.length + j < q.2.1.length + G.2.2.1.length + ex.length; omega)
          show (match (M t.1).2[t.2]? with
            | some (.int x) => x.toInt = mz_ev (fun i => if i < mz_n0 G q + ex.length then ρ i else ρ2 (i - ex.length)) (mz_vr (mz_np q + j))
            | some (.ref b) => ∃ c, G.1 b = some c ∧ (c.2.1 : Int) = mz_ev (fun i => if i < mz_n0 G q + ex.length then ρ i else ρ2 (i - ex.length)) (mz_vr (mz_np q + j))
            | _ => False)
          rw [e1]
          exact h0
      have := key ex G.2.2.1.length hW (Nat.le_refl _) (Nat.le_refl _) h2b
      rw [Nat.zero_add]
      exact this
    · refine mz_nt_b G (ρ := ρ2) (n0 := mz_n0 G q) (b := mz_n0 G q) (fun i hi => ?_) (fun i => ?_) _ 0 (by show q.2.1.length + (0 + G.2.2.1.length) ≤ q.2.1.length + G.2.2.1.length; omega) b6
      · show (if i < mz_n0 G q + ex.length then ρ i else ρ2 (i - ex.length)) = ρ2 i
        rw [if_pos (by omega), b1 i hi]
      · have := hhi (mz_n0 G q + i) (by omega)
        rw [show mz_n0 G q + i + ex.length = mz_n0 G q + ex.length + i by omega] at this
        exact this
  · intro f hf
    obtain ⟨f0, hf0, rfl⟩ := List.mem_map.mp hf
    rw [mz_she_ev (ρ := ρ2) (fun i hi => by
      show (if i < mz_n0 G q + ex.length then ρ i else ρ2 (i - ex.length)) = ρ2 i
      rw [if_pos (by omega), b1 i hi]) hhi]
    exact b8 f0 hf0
  · have e1 : mz_n0 (mz_GE G ex) (mz_qe G ex [] q) + (mz_qe G ex [] q).2.2.2.1.length = mz_n0 G q + q.2.2.2.1.length + ex.length := by
      rw [hn0]
      show mz_n0 G q + ex.length + q.2.2.2.1.length = _
      omega
    rw [e1]
    have e2 := hhi (mz_n0 G q + q.2.2.2.1.length) (by omega)
    unfold mz_re at b9 ⊢
    rw [e2]
    exact b9
end VCE
