/-! THE CHECKER: ranges that come with variables; entries; heads of loops. -/
section VCY
variable (G : mz_G)
def mz_mxl : List Nat → Nat
  | [] => 0
  | a :: r => match G.1 a with
    | some c => Nat.max c.2.1 (mz_mxl r)
    | none => mz_mxl r
theorem mz_mxl_ok {b : Nat} {c : mz_Ce} (hc : G.1 b = some c) : ∀ l : List Nat, b ∈ l → c.2.1 ≤ mz_mxl G l := by
  intro l
  induction l with
  | nil => intro h; cases h
  | cons a r ih =>
    intro h
    unfold mz_mxl
    rcases List.mem_cons.mp h with rfl | h
    · rw [hc]; exact Nat.le_max_left _ _
    · split
      · exact Nat.le_trans (ih h) (Nat.le_max_right _ _)
      · exact ih h
def mz_pr (i : Nat) (p : Nat × Nat) : List mz_E := match p.1 with
  | 0 => [(2147483648, [(i, 1)]), (2147483647, [(i, -1)])]
  | 1 => match mz_ln G p.2 with
    | some _ => []
    | none => [(0, [(i, 1)]), ((mz_mxl G (G.2.1 p.2) : Int), [(i, -1)])]
  | _ => []
theorem mz_1v {ρ : Nat → Int} {c : Int} {i : Nat} : mz_ev ρ (c, [(i, 1)]) = c + ρ i := by show c + (1 * ρ i + 0) = _; omega
theorem mz_m1v {ρ : Nat → Int} {c : Int} {i : Nat} : mz_ev ρ (c, [(i, -1)]) = c - ρ i := by show c + (-1 * ρ i + 0) = _; omega
theorem mz_two_l {ρ : Nat → Int} {a b : mz_E} (ha : 0 ≤ mz_ev ρ a) (hb : 0 ≤ mz_ev ρ b) : ∀ f ∈ [a, b], 0 ≤ mz_ev ρ f := by
  intro f hf
  rcases List.mem_cons.mp hf with rfl | hf
  · exact ha
  · exact mz_one hb f hf
theorem mz_nil_l {ρ : Nat → Int} : ∀ f ∈ ([] : List mz_E), 0 ≤ mz_ev ρ f := fun f hf => by cases hf
theorem mz_pr_ok {ρ : Nat → Int} {i : Nat} {p : Nat × Nat} {o : Option Value} (h : mz_go G ρ (mz_pa G i p) o) : ∀ f ∈ mz_pr G i p, 0 ≤ mz_ev ρ f := by
  unfold mz_pa at h
  unfold mz_pr
  split
  · next hp =>
    rw [hp] at h
    obtain ⟨x, rfl, hx⟩ := mz_go_0 G h
    rw [mz_vr_ev] at hx
    have := mz_i32 x
    exact mz_two_l (by rw [mz_1v]; omega) (by rw [mz_m1v]; omega)
  · next hp =>
    rw [hp] at h
    cases hl : mz_ln G p.2 with
    | some e => exact mz_nil_l
    | none =>
      simp only [hl] at h
      obtain ⟨v, rfl, hv⟩ := h
      obtain ⟨b, rfl, hb, c, hc, hle⟩ := mz_gv_r G hv
      rw [mz_vr_ev] at hle
      have := mz_mxl_ok G hc _ hb
      exact mz_two_l (by rw [mz_1v]; omega) (by rw [mz_m1v]; omega)
  · exact mz_nil_l
def mz_prs : Nat → List (Nat × Nat) → List mz_E
  | _, [] => []
  | i, p :: ps => mz_pr G i p ++ mz_prs (i + 1) ps
theorem mz_app_l {ρ : Nat → Int} {a b : List mz_E} (ha : ∀ f ∈ a, 0 ≤ mz_ev ρ f) (hb : ∀ f ∈ b, 0 ≤ mz_ev ρ f) : ∀ f ∈ a ++ b, 0 ≤ mz_ev ρ f := by
  intro f hf
  rcases List.mem_append.mp hf with hf | hf
  · exact ha f hf
  · exact hb f hf
/-- a tracked slot as the variable n -/
def mz_tr (t : Nat × Nat) (n : Nat) : List mz_E := match G.1 t.1 with
  | some c => match mz_at c t.2 with
    | (0, lo, hi) => [(-lo, [(n, 1)]), (hi, [(n, -1)])]
    | (1, gs, _) => [(0, [(n, 1)]), ((mz_mxl G (G.2.1 gs.toNat) : Int), [(n, -1)])]
    | _ => []
  | none => []
theorem mz_tr_ok {ρ : Nat → Int} {M : Nat → mq_C} {t : Nat × Nat} {n : Nat} (hm : mz_sh G M) (h : mz_gt1 G ρ M t (mz_vr n)) : ∀ f ∈ mz_tr G t n, 0 ≤ mz_ev ρ f := by
  unfold mz_tr
  split
  · next c hc =>
    obtain ⟨m1, m2, m3⟩ := hm t.1 c hc
    unfold mz_gt1 at h
    split
    · next lo hi ha =>
      split at h
      · next x hx =>
        have hok := m3 _ _ hx
        rw [ha] at hok
        rw [mz_vr_ev] at h
        have h1 : lo ≤ x.toInt := hok.1
        have h2 : x.toInt ≤ hi := hok.2
        exact mz_two_l (by rw [mz_1v]; omega) (by rw [mz_m1v]; omega)
      · next b hx =>
        have hok := m3 _ _ hx
        rw [ha] at hok
        exact hok.elim
      · exact h.elim
    · next gs w ha =>
      split at h
      · next x hx =>
        have hok := m3 _ _ hx
        rw [ha] at hok
        exact hok.elim
      · next b hx =>
        have hok := m3 _ _ hx
        rw [ha] at hok
        obtain ⟨c', hc', hle⟩ := h
        rw [mz_vr_ev] at hle
        have := mz_mxl_ok G hc' _ (show b ∈ G.2.1 gs.toNat from hok)
        exact mz_two_l (by rw [mz_1v]; omega) (by rw [mz_m1v]; omega)
      · exact h.elim
    · exact mz_nil_l
  · exact mz_nil_l
def mz_trs : Nat → List (Nat × Nat) → List mz_E
  | _, [] => []
  | n, t :: ts => mz_tr G t n ++ mz_trs (n + 1) ts
theorem mz_trs_ok {ρ : Nat → Int} {M : Nat → mq_C} (hm : mz_sh G M) : ∀ (ts : List (Nat × Nat)) (n : Nat), mz_gt G ρ M ts (mz_vs n ts.length) → ∀ f ∈ mz_trs G n ts, 0 ≤ mz_ev ρ f := by
  intro ts
  induction ts with
  | nil => intro n _; exact mz_nil_l
  | cons t ts ih => intro n h; exact mz_app_l (mz_tr_ok G hm h.1) (ih (n + 1) h.2)
/-- the slots that change, as variables from b on -/
def mz_mr (b : Nat) : List Nat → List mz_E
  | [] => []
  | j :: ms => (match G.2.2.1[j]? with
    | some t => mz_tr G t b
    | none => []) ++ mz_mr (b + 1) ms
theorem mz_gt_get {ρ : Nat → Int} {M : Nat → mq_C} : ∀ (ts : List (Nat × Nat)) (es : List mz_E) (j : Nat) (t : Nat × Nat), mz_gt G ρ M ts es → ts[j]? = some t → ∃ e, es[j]? = some e ∧ mz_gt1 G ρ M t e := by
  intro ts
  induction ts with
  | nil => intro es j t _ h; cases h
  | cons a ts ih =>
    intro es j t hg h
    cases es with
    | nil => exact hg.elim
    | cons e es =>
      cases j with
      | zero => cases h; exact ⟨e, rfl, hg.1⟩
      | succ j => exact ih es j t hg.2 h
theorem mz_gt_len {ρ : Nat → Int} {M : Nat → mq_C} : ∀ (ts : List (Nat × Nat)) (es : List mz_E), mz_gt G ρ M ts es → es.length = ts.length := by
  intro ts
  induction ts with
  | nil => intro es h; cases es with
    | nil => rfl
    | cons e es => exact h.elim
  | cons a ts ih => intro es h; cases es with
    | nil => exact h.elim
    | cons e es => show es.length + 1 = ts.length + 1; rw [ih es h.2]
theorem mz_mr_ok {ρ : Nat → Int} {M : Nat → mq_C} (hm : mz_sh G M) : ∀ (ms : List Nat) (b : Nat), (∀ i j t, ms[i]? = some j → G.2.2.1[j]? = some t → mz_gt1 G ρ M t (mz_vr (b + i))) → ∀ f ∈ mz_mr G b ms, 0 ≤ mz_ev ρ f := by
  intro ms
  induction ms with
  | nil => intro b _; exact mz_nil_l
  | cons j ms ih =>
    intro b h
    refine mz_app_l ?_ (ih (b + 1) (fun i j' t h1 h2 => ?_))
    · split
      · next t ht => exact mz_tr_ok G hm (h 0 j t rfl ht)
      · exact mz_nil_l
    · have := h (i + 1) j' t h1 h2
      rw [show b + (i + 1) = b + 1 + i by omega] at this
      exact this
/-! entries -/
def mz_lo : Nat → List (Nat × Nat) → List mz_V
  | _, [] => []
  | i, p :: ps => (match p.1 with
    | 2 => [mz_pa G i p, (3, 0, (0, []))]
    | _ => [mz_pa G i p]) ++ mz_lo (i + 1) ps
def mz_rep : Nat → List mz_V
  | 0 => []
  | n + 1 => (3, 0, (0, [])) :: mz_rep n
theorem mz_gl_app {ρ : Nat → Int} {bs : List mz_V} {ps : mq_L} (hb : mz_gl G ρ bs ps) : ∀ (as : List mz_V) (os : mq_L), mz_gl G ρ as os → mz_gl G ρ (as ++ bs) (os ++ ps) := by
  intro as
  induction as with
  | nil => intro os h; cases os with
    | nil => exact hb
    | cons o os => exact h.elim
  | cons a as ih => intro os h; cases os with
    | nil => exact h.elim
    | cons o os => exact ⟨h.1, ih os h.2⟩
theorem mz_rep_ok {ρ : Nat → Int} : ∀ n, mz_gl G ρ (mz_rep n) (List.replicate n none) := by
  intro n
  induction n with
  | zero => exact trivial
  | succ n ih => exact ⟨rfl, ih⟩
theorem mz_lt3 {n : Nat} (h : n < 3) : n = 0 ∨ n = 1 ∨ n = 2 := by omega
theorem mz_pa_ne3 {i : Nat} {p : Nat × Nat} (h : p.1 < 3) : (mz_pa G i p).1 = p.1 := by
  obtain ⟨p1, pg⟩ := p
  rcases mz_lt3 h with rfl | rfl | rfl
  · rfl
  · show (match mz_ln G pg with
      | some e => ((1 : Nat), pg, e)
      | none => (1, pg, mz_vr i)).1 = 1
    split <;> rfl
  · rfl
theorem mz_lo_ok {ρ : Nat → Int} : ∀ (ps : List (Nat × Nat)) (vs : List Value) (i : Nat), mz_gp G ρ i ps vs → mz_gl G ρ (mz_lo G i ps) (mq_sp vs) ∧ (∀ f ∈ mz_prs G i ps, 0 ≤ mz_ev ρ f) := by
  intro ps
  induction ps with
  | nil => intro vs i h; cases vs with
    | nil => exact ⟨trivial, mz_nil_l⟩
    | cons v vs => exact h.elim
  | cons p ps ih =>
    intro vs i h
    cases vs with
    | nil => exact h.elim
    | cons v vs =>
      obtain ⟨⟨h3, hv⟩, hr⟩ := h
      obtain ⟨q1, q2⟩ := ih vs (i + 1) hr
      have hn := mz_pa_ne3 G (i := i) h3
      have hgo : mz_go G ρ (mz_pa G i p) (some v) := mz_go_v G hv (by rw [hn]; omega)
      refine ⟨?_, mz_app_l (mz_pr_ok G hgo) q2⟩
      have e1 : mq_sp (v :: vs) = (if v.category = 2 then [some v, none] else [some v]) ++ mq_sp vs := by
        unfold mq_sp
        rw [List.flatMap_cons]
      rw [e1]
      refine mz_gl_app G q1 _ _ ?_
      split
      · next hp =>
        have hc : v.category = 2 := by
          have : mz_pa G i p = (2, 0, mz_vr i) := by unfold mz_pa; rw [hp]; rfl
          rw [this] at hv
          obtain ⟨x, rfl, _⟩ := mz_gv_l G hv
          rfl
        rw [if_pos hc]
        exact ⟨hgo, rfl, trivial⟩
      · next hp =>
        have hc : v.category = 1 := mz_cat1 G hv (by rw [hn]; exact hp)
        rw [if_neg (by rw [hc]; decide)]
        exact ⟨hgo, trivial⟩
def mz_en (q : mz_Q) (nl : Nat) : mz_K := (mz_lo G 0 q.2.1 ++ mz_rep (nl - (mz_lo G 0 q.2.1).length), [], mz_vs (mz_np q) G.2.2.1.length, q.2.2.1 ++ (mz_prs G 0 q.2.1 ++ mz_trs G (mz_np q) G.2.2.1), mz_n0 G q)
theorem mz_en_ok {P : List mq_T} {q : mz_Q} {ρ : Nat → Int} {vs : List Value} {M : Nat → mq_C} {t : mq_T} (ht : P[q.1]? = some t) (h1 : mz_gp G ρ 0 q.2.1 vs) (h2 : mz_gt G ρ M G.2.2.1 (mz_vs (mz_np q) G.2.2.1.length)) (h3 : ∀ f ∈ q.2.2.1, 0 ≤ mz_ev ρ f) (hm : mz_sh G M) : mz_g G ρ (mz_en G q t.1) (mq_en P q.1 vs) [] M := by
  obtain ⟨q1, q2⟩ := mz_lo_ok G _ _ _ h1
  refine ⟨?_, trivial, h2, mz_app_l h3 (mz_app_l q2 (mz_trs_ok G hm _ _ h2))⟩
  unfold mq_en
  rw [ht]
  show mz_gl G ρ (mz_lo G 0 q.2.1 ++ mz_rep (t.1 - (mz_lo G 0 q.2.1).length)) (mq_sp vs ++ List.replicate (t.1 - (mq_sp vs).length) none)
  rw [mz_gl_len G _ _ q1]
  exact mz_gl_app G (mz_rep_ok G _) _ _ q1
/-! heads of loops: place, shapes of the locals, facts, what falls -/
abbrev mz_Hd : Type := Nat × List (Nat × Nat) × List mz_E × mz_E
def mz_hl (n : Nat) : List (Nat × Nat) → List mz_V
  | [] => []
  | p :: ps => mz_pa G n p :: mz_hl (n + 1) ps
def mz_hk (q : mz_Q) (h : mz_Hd) : mz_K := (mz_hl G (mz_n0 G q) h.2.1, [], mz_nt q.2.2.2.1 (mz_np q) (mz_n0 G q + h.2.1.length) 0 G.2.2.1.length, h.2.2.1 ++ (mz_prs G (mz_n0 G q) h.2.1 ++ (mz_mr G (mz_n0 G q + h.2.1.length) q.2.2.2.1 ++ (q.2.2.1 ++ (mz_prs G 0 q.2.1 ++ mz_trs G (mz_np q) G.2.2.1)))), mz_n0 G q + h.2.1.length + q.2.2.2.1.length)
/-- does the value have this shape? -/
def mz_mt (p : Nat × Nat) (a : mz_V) : Bool := match p.1 with
  | 0 => Nat.beq a.1 0
  | 1 => bif Nat.beq a.1 1 then mz_subs (G.2.1 a.2.1) (G.2.1 p.2) else false
  | 2 => Nat.beq a.1 2
  | 4 => bif Nat.beq a.1 4 then true else Nat.beq a.1 1
  | _ => bif Nat.beq a.1 2 then false else true
theorem mz_mt_v {ρ ρ' : Nat → Int} {p : Nat × Nat} {a : mz_V} {v : Value} {n : Nat} (h : mz_mt G p a = true) (h3 : p.1 < 3) (hv : mz_gv G ρ a v) (hn : ρ' n = mz_ev ρ a.2.2) : mz_gv G ρ' (mz_pa G n p) v := by
  obtain ⟨a1, g, e⟩ := a
  obtain ⟨p1, pg⟩ := p
  rcases mz_lt3 h3 with rfl | rfl | rfl
  · have e1 : a1 = 0 := Nat.eq_of_beq_eq_true h
    subst e1
    obtain ⟨x, rfl, hx⟩ := mz_gv_i G hv
    show x.toInt = mz_ev ρ' (mz_vr n)
    rw [mz_vr_ev, hn]; exact hx
  · obtain ⟨h1, h2⟩ := mz_bif (show (bif Nat.beq a1 1 then mz_subs (G.2.1 g) (G.2.1 pg) else false) = true from h)
    have e1 : a1 = 1 := Nat.eq_of_beq_eq_true h1
    subst e1
    obtain ⟨b, rfl, hb, c, hc, hle⟩ := mz_gv_r G hv
    have hb' := mz_subs_ok h2 hb
    show mz_gv G ρ' (match mz_ln G pg with
      | some e => (1, pg, e)
      | none => (1, pg, mz_vr n)) (.ref b)
    split
    · next e' he => exact ⟨hb', mz_ln_ok G he hb'⟩
    · exact ⟨hb', c, hc, by rw [mz_vr_ev, hn]; exact hle⟩
  · have e1 : a1 = 2 := Nat.eq_of_beq_eq_true h
    subst e1
    obtain ⟨x, rfl, hx⟩ := mz_gv_l G hv
    show x.toInt = mz_ev ρ' (mz_vr n)
    rw [mz_vr_ev, hn]; exact hx
theorem mz_go_s {ρ : Nat → Int} {a : mz_V} {o : Option Value} (ho : mz_go G ρ a o) (hne : a.1 ≠ 3) : ∃ v, o = some v ∧ mz_gv G ρ a v := by
  unfold mz_go at ho
  split at ho
  · next e9 => exact absurd e9 hne
  · exact ho
theorem mz_mt_o {ρ ρ' : Nat → Int} {p : Nat × Nat} {a : mz_V} {o : Option Value} {n : Nat} (h : mz_mt G p a = true) (ho : mz_go G ρ a o) (hn : ρ' n = mz_ev ρ a.2.2) : mz_go G ρ' (mz_pa G n p) o := by
  obtain ⟨p1, pg⟩ := p
  obtain ⟨a1, g, e⟩ := a
  by_cases h3 : p1 < 3
  · have hne : a1 ≠ 3 := by
      rintro rfl
      rcases mz_lt3 h3 with rfl | rfl | rfl <;> cases h
    obtain ⟨v, rfl, hv⟩ := mz_go_s G ho hne
    exact mz_go_v G (mz_mt_v G h h3 hv hn) (by rw [mz_pa_ne3 G h3]; show p1 ≠ 3; omega)
  · by_cases h4 : p1 = 4
    · subst h4
      have h' : (bif Nat.beq a1 4 then true else Nat.beq a1 1) = true := h
      have hne : a1 ≠ 3 := by
        rintro rfl
        cases h'
      obtain ⟨v, rfl, hv⟩ := mz_go_s G ho hne
      refine ⟨v, rfl, ?_⟩
      cases h44 : Nat.beq a1 4 with
      | true =>
        have e2 : a1 = 4 := Nat.eq_of_beq_eq_true h44
        subst e2
        obtain ⟨x, rfl⟩ := mz_gv_a G hv
        exact trivial
      | false =>
        rw [h44] at h'
        have e2 : a1 = 1 := Nat.eq_of_beq_eq_true h'
        subst e2
        obtain ⟨b, rfl, _⟩ := mz_gv_r G hv
        exact trivial
    · obtain ⟨m, rfl⟩ : ∃ m, p1 = m + 3 := ⟨p1 - 3, by omega⟩
      have e1 : mz_pa G n (m + 3, pg) = (3, 0, (0, [])) := by
        cases m with
        | zero => rfl
        | succ m => cases m with
          | zero => exact absurd rfl h4
          | succ m => rfl
      have e2 : mz_mt G (m + 3, pg) (a1, g, e) = (bif Nat.beq a1 2 then false else true) := by
        cases m with
        | zero => rfl
        | succ m => cases m with
          | zero => exact absurd rfl h4
          | succ m => rfl
      rw [e1]
      rw [e2] at h
      have hne : a1 ≠ 2 := by
        rintro rfl
        cases h
      show mq_nl o = true
      by_cases h33 : a1 = 3
      · subst h33
        exact ho
      · obtain ⟨v, rfl, hv⟩ := mz_go_s G ho h33
        exact mz_gv_nl G hv hne
def mz_mts : List (Nat × Nat) → List mz_V → Bool
  | [], [] => true
  | p :: ps, a :: as => bif mz_mt G p a then mz_mts ps as else false
  | _, _ => false
theorem mz_mts_l {ρ ρ' : Nat → Int} : ∀ (ps : List (Nat × Nat)) (as : List mz_V) (os : mq_L) (n : Nat), mz_mts G ps as = true → (∀ (i : Nat) (a : mz_V), as[i]? = some a → ρ' (n + i) = mz_ev ρ a.2.2) → mz_gl G ρ as os → mz_gl G ρ' (mz_hl G n ps) os ∧ (∀ f ∈ mz_prs G n ps, 0 ≤ mz_ev ρ' f) := by
  intro ps
  induction ps with
  | nil => intro as os n h _ hg; cases as with
    | nil => cases os with
      | nil => exact ⟨trivial, mz_nil_l⟩
      | cons o os => exact hg.elim
    | cons a as => cases h
  | cons p ps ih =>
    intro as os n h hn hg
    cases as with
    | nil => cases h
    | cons a as =>
      cases os with
      | nil => exact hg.elim
      | cons o os =>
        obtain ⟨h1, h2⟩ := mz_bif h
        obtain ⟨q1, q2⟩ := ih as os (n + 1) h2 (fun i a ha => by
          have := hn (i + 1) a ha
          rw [show n + (i + 1) = n + 1 + i by omega] at this
          exact this) hg.2
        have hgo := mz_mt_o G (n := n) h1 hg.1 (hn 0 a rfl)
        exact ⟨⟨hgo, q1⟩, mz_app_l (mz_pr_ok G hgo) q2⟩
theorem mz_mts_v {ρ ρ' : Nat → Int} : ∀ (ps : List (Nat × Nat)) (as : List mz_V) (os : List Value) (n : Nat), mz_mts G ps as = true → (ps.all (fun p => Nat.blt p.1 3)) = true → (∀ (i : Nat) (a : mz_V), as[i]? = some a → ρ' (n + i) = mz_ev ρ a.2.2) → mz_gs G ρ as os → mz_gp G ρ' n ps os := by
  intro ps
  induction ps with
  | nil => intro as os n h _ _ hg; cases as with
    | nil => cases os with
      | nil => exact trivial
      | cons o os => exact hg.elim
    | cons a as => cases h
  | cons p ps ih =>
    intro as os n h h3 hn hg
    cases as with
    | nil => cases h
    | cons a as =>
      cases os with
      | nil => exact hg.elim
      | cons o os =>
        obtain ⟨h1, h2⟩ := mz_bif h
        rw [List.all_cons, Bool.and_eq_true] at h3
        have hp3 : p.1 < 3 := Nat.le_of_ble_eq_true h3.1
        exact ⟨⟨hp3, mz_mt_v G (n := n) h1 hp3 hg.1 (hn 0 a rfl)⟩, ih as os (n + 1) h2 h3.2 (fun i a ha => by
          have := hn (i + 1) a ha
          rw [show n + (i + 1) = n + 1 + i by omega] at this
          exact this) hg.2⟩
end VCY
