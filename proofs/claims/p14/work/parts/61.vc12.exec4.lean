/-! THE CHECKER: calls. -/
section VCC
variable (G : mz_G)
def mz_nu (ms : List Nat) (b : Nat) : Nat → List mz_E → List mz_E
  | _, [] => []
  | j, e :: es => (match mz_pos j ms with
    | some i => mz_vr (b + i)
    | none => e) :: mz_nu ms b (j + 1) es
def mz_mf (b : Nat) : List Nat → List mz_E → List mz_E
  | [], fs => fs
  | j :: ms, fs => mz_mf (b + 1) ms ((match G.2.2.1[j]? with
    | some t => mz_tr G t b
    | none => []) ++ fs)
/-- a call's variables: arguments, slots before, slots behind, the answer -/
def mz_cl (q : mz_Q) (k : mz_K) (av : List mz_E) : List mz_E := av ++ (k.2.2.1 ++ mz_vs k.2.2.2.2 (q.2.2.2.1.length + 1))
/-- the state behind a call -/
def mz_pk (q : mz_Q) (p : Nat × Nat × List mz_E) (k : mz_K) (av : List mz_E) : mz_K := (k.1, k.2.1, mz_nu q.2.2.2.1 k.2.2.2.2 0 k.2.2.1, p.2.2.foldl (fun fs f => mz_sbs (mz_th 0 (mz_cl q k av)) f :: fs) ((match p.1 with
  | 0 => [(2147483648, [(k.2.2.2.2 + q.2.2.2.1.length, 1)]), (2147483647, [(k.2.2.2.2 + q.2.2.2.1.length, -1)])]
  | _ => []) ++ mz_mf G k.2.2.2.2 q.2.2.2.1 k.2.2.2.1), k.2.2.2.2 + q.2.2.2.1.length + 1)
theorem mz_mf_ok {ρ : Nat → Int} {M : Nat → mq_C} (hm : mz_sh G M) : ∀ (ms : List Nat) (b : Nat) (fs : List mz_E), (∀ i j t, ms[i]? = some j → G.2.2.1[j]? = some t → mz_gt1 G ρ M t (mz_vr (b + i))) → (∀ f ∈ fs, 0 ≤ mz_ev ρ f) → ∀ f ∈ mz_mf G b ms fs, 0 ≤ mz_ev ρ f := by
  intro ms
  induction ms with
  | nil => intro b fs _ h; exact h
  | cons j ms ih =>
    intro b fs h hf
    refine ih (b + 1) _ (fun i j' t h1 h2 => ?_) (mz_app_l ?_ hf)
    · have := h (i + 1) j' t h1 h2
      rw [show b + (i + 1) = b + 1 + i by omega] at this
      exact this
    · split
      · next t ht => exact mz_tr_ok G hm (h 0 j t rfl ht)
      · exact mz_nil_l
theorem mz_vs_get : ∀ (m n i : Nat), i < m → (mz_vs n m)[i]? = some (mz_vr (n + i)) := by
  intro m
  induction m with
  | zero => intro n i h; omega
  | succ m ih =>
    intro n i h
    cases i with
    | zero => rfl
    | succ i =>
      show (mz_vs (n + 1) m)[i]? = _
      rw [ih (n + 1) i (by omega)]
      congr 2
      omega
theorem mz_vs_len : ∀ (m n : Nat), (mz_vs n m).length = m := by
  intro m
  induction m with
  | zero => intro n; rfl
  | succ m ih => intro n; show (mz_vs (n + 1) m).length + 1 = m + 1; rw [ih]
theorem mz_foldf {ρ : Nat → Int} {th : Nat → mz_E} : ∀ (r fs : List mz_E), (∀ f ∈ r, 0 ≤ mz_ev ρ (mz_sbs th f)) → (∀ f ∈ fs, 0 ≤ mz_ev ρ f) → ∀ f ∈ r.foldl (fun fs f => mz_sbs th f :: fs) fs, 0 ≤ mz_ev ρ f := by
  intro r
  induction r with
  | nil => intro fs _ h; exact h
  | cons a r ih =>
    intro fs h1 h2
    refine ih _ (fun f hf => h1 f (List.mem_cons_of_mem _ hf)) ?_
    intro f hf
    rcases List.mem_cons.mp hf with rfl | hf
    · exact h1 a (List.mem_cons_self ..)
    · exact h2 f hf
theorem mz_nu_ok {ρ1 ρ2 : Nat → Int} {M : Nat → mq_C} {ms : List Nat} {b1 b2 np : Nat} (hmo : ∀ i, i < ms.length → ρ2 (b2 + i) = ρ1 (b1 + i)) : ∀ (ts : List (Nat × Nat)) (es : List mz_E) (j : Nat), (∀ i e, es[i]? = some e → ρ1 (np + (j + i)) = mz_ev ρ2 e) → es.length = ts.length → mz_gt G ρ1 M ts (mz_nt ms np b1 j ts.length) → mz_gt G ρ2 M ts (mz_nu ms b2 j es) := by
  intro ts
  induction ts with
  | nil => intro es j _ hl h; cases es with
    | nil => exact trivial
    | cons e es => cases hl
  | cons t ts ih =>
    intro es j he hl h
    cases es with
    | nil => cases hl
    | cons e es =>
      refine ⟨?_, ih es (j + 1) (fun i e' h' => ?_) (Nat.succ.inj hl) h.2⟩
      · refine mz_gt1_x G ?_ h.1
        cases hp : mz_pos j ms with
        | some i =>
          show mz_ev ρ2 (mz_vr (b2 + i)) = mz_ev ρ1 (mz_vr (b1 + i))
          rw [mz_vr_ev, mz_vr_ev]
          exact hmo i (List.getElem?_eq_some_iff.mp (mz_pos_ok _ hp)).1
        | none =>
          show mz_ev ρ2 e = mz_ev ρ1 (mz_vr (np + j))
          rw [mz_vr_ev]
          exact (he 0 e rfl).symm
      · have := he (i + 1) e' h'
        rw [show j + (i + 1) = j + 1 + i by omega] at this
        exact this
theorem mz_nt_get {ρ : Nat → Int} {M : Nat → mq_C} {ms : List Nat} {np b j m : Nat} {t : Nat × Nat} (hj : mz_pos j ms = some m) : ∀ (ts : List (Nat × Nat)) (s i : Nat), s + i = j → ts[i]? = some t → mz_gt G ρ M ts (mz_nt ms np b s ts.length) → mz_gt1 G ρ M t (mz_vr (b + m)) := by
  intro ts
  induction ts with
  | nil => intro s i _ h; cases h
  | cons a ts ih =>
    intro s i hs h hg
    cases i with
    | zero =>
      cases h
      have h1 := hg.1
      rw [show s = j by omega, hj] at h1
      exact h1
    | succ i => exact ih (s + 1) i (by omega) h hg.2
theorem mz_pos_nd : ∀ (ms : List Nat) (i j : Nat), ms.Nodup → ms[i]? = some j → mz_pos j ms = some i := by
  intro ms
  induction ms with
  | nil => intro i j _ h; cases h
  | cons a ms ih =>
    intro i j hn h
    unfold mz_pos
    cases i with
    | zero =>
      cases h
      rw [Nat.beq_refl]
      rfl
    | succ i =>
      have hm : j ∈ ms := List.mem_of_getElem? (show ms[i]? = some j from h)
      have hne : ¬ a = j := by
        rintro rfl
        exact (List.nodup_cons.mp hn).1 hm
      have hb : Nat.beq a j = false := by
        cases hx : Nat.beq a j with
        | false => rfl
        | true => exact absurd (Nat.eq_of_beq_eq_true hx) hne
      rw [hb]
      show (mz_pos j ms).map _ = _
      rw [ih i j (List.nodup_cons.mp hn).2 h]
      rfl
/-- the variables of the caller behind a call -/
def mz_rn (ρ ρ2 : Nat → Int) (nv n0 : Nat) (v : Nat) : Int := if v < nv then ρ v else ρ2 (n0 + (v - nv))
theorem mz_pk_ok {n0 : Nat} {q : mz_Q} {p : Nat × Nat × List mz_E} {k : mz_K} {av : List mz_E} {ρ ρ2 : Nat → Int} {M M' : Nat → mq_C} {L : mq_L} {st : List Value} (hg : mz_g G ρ k L st M) (hw : mz_wfk n0 k = true) (hwa : mz_wfl k.2.2.2.2 av = true) (hal : av.length = mz_np q) (hnd : q.2.2.2.1.Nodup) (hwp : mz_wfl (mz_n0 G q + q.2.2.2.1.length + 1) p.2.2 = true) (hm : mz_sh G M') (hin : ∀ i, i < mz_n0 G q → ρ2 i = mz_ev ρ (mz_th 0 (av ++ k.2.2.1) i)) (hgt : mz_gt G ρ2 M' G.2.2.1 (mz_nt q.2.2.2.1 (mz_np q) (mz_n0 G q) 0 G.2.2.1.length)) (hp : ∀ f ∈ p.2.2, 0 ≤ mz_ev ρ2 f) (hr : p.1 = 0 → -2147483648 ≤ ρ2 (mz_n0 G q + q.2.2.2.1.length) ∧ ρ2 (mz_n0 G q + q.2.2.2.1.length) ≤ 2147483647) : mz_g G (mz_rn ρ ρ2 k.2.2.2.2 (mz_n0 G q)) (mz_pk G q p k av) L st M' ∧ (∀ i, i < k.2.2.2.2 → mz_rn ρ ρ2 k.2.2.2.2 (mz_n0 G q) i = ρ i) ∧ (∀ i, mz_rn ρ ρ2 k.2.2.2.2 (mz_n0 G q) (k.2.2.2.2 + i) = ρ2 (mz_n0 G q + i)) ∧ n0 ≤ k.2.2.2.2 := by
  have h1 : ∀ i, i < k.2.2.2.2 → mz_rn ρ ρ2 k.2.2.2.2 (mz_n0 G q) i = ρ i := fun i hi => if_pos hi
  have h2 : ∀ i, mz_rn ρ ρ2 k.2.2.2.2 (mz_n0 G q) (k.2.2.2.2 + i) = ρ2 (mz_n0 G q + i) := by
    intro i
    unfold mz_rn
    rw [if_neg (by omega), Nat.add_sub_cancel_left]
  obtain ⟨hg', hn0⟩ := mz_g_e G hw h1 hg
  have hlen : k.2.2.1.length = G.2.2.1.length := mz_gt_len G _ _ hg.2.2.1
  obtain ⟨hwk0, hwk⟩ := mz_bif hw
  obtain ⟨hwk1, hwk⟩ := mz_bif hwk
  obtain ⟨hwk2, hwk⟩ := mz_bif hwk
  obtain ⟨hwk3, hwk4⟩ := mz_bif hwk
  have hwl : ∀ (l : List mz_E) (n : Nat), mz_wfl n l = true → ∀ (i : Nat) (e : mz_E), l[i]? = some e → mz_wf n e.2 = true := by
    intro l n
    induction l with
    | nil => intro _ i e h; cases h
    | cons a l ih =>
      intro h i e he
      obtain ⟨x1, x2⟩ := mz_bif h
      cases i with
      | zero => cases he; exact x1
      | succ i => exact ih x2 i e he
  have hcl1 : ∀ i, i < mz_n0 G q → mz_th 0 (mz_cl q k av) i = mz_th 0 (av ++ k.2.2.1) i := by
    intro i hi
    unfold mz_th mz_cl
    show (av ++ (k.2.2.1 ++ _)).getD (i - 0) (0, []) = (av ++ k.2.2.1).getD (i - 0) (0, [])
    rw [← List.append_assoc, List.getD_eq_getElem?_getD, List.getD_eq_getElem?_getD, List.getElem?_append_left]
    rw [List.length_append, hal, hlen]
    exact hi
  have hcl2 : ∀ i, i < q.2.2.2.1.length + 1 → mz_th 0 (mz_cl q k av) (mz_n0 G q + i) = mz_vr (k.2.2.2.2 + i) := by
    intro i hi
    unfold mz_th mz_cl
    show (av ++ (k.2.2.1 ++ _)).getD (mz_n0 G q + i - 0) (0, []) = _
    have e1 : mz_n0 G q + i - 0 = (av ++ k.2.2.1).length + i := by rw [List.length_append, hal, hlen]; exact Nat.sub_zero _
    rw [← List.append_assoc, e1, List.getD_eq_getElem?_getD, List.getElem?_append_right (by omega), Nat.add_sub_cancel_left, mz_vs_get _ _ _ hi]
    rfl
  have hev : ∀ i, i < mz_n0 G q → mz_ev (mz_rn ρ ρ2 k.2.2.2.2 (mz_n0 G q)) (mz_th 0 (av ++ k.2.2.1) i) = mz_ev ρ (mz_th 0 (av ++ k.2.2.1) i) := by
    intro i hi
    refine mz_wf_e h1 ?_
    unfold mz_th
    show mz_wf k.2.2.2.2 ((av ++ k.2.2.1).getD (i - 0) (0, [])).2 = true
    rw [Nat.sub_zero, List.getD_eq_getElem?_getD]
    cases hx : (av ++ k.2.2.1)[i]? with
    | none => rfl
    | some e =>
      show mz_wf k.2.2.2.2 e.2 = true
      by_cases hia : i < av.length
      · rw [List.getElem?_append_left hia] at hx
        exact hwl _ _ hwa i e hx
      · rw [List.getElem?_append_right (by omega)] at hx
        exact hwl _ _ hwk3 _ e hx
  have hsub : ∀ i, i < mz_n0 G q + q.2.2.2.1.length + 1 → mz_ev (mz_rn ρ ρ2 k.2.2.2.2 (mz_n0 G q)) (mz_th 0 (mz_cl q k av) i) = ρ2 i := by
    intro i hi
    by_cases hi0 : i < mz_n0 G q
    · rw [hcl1 i hi0, hev i hi0, hin i hi0]
    · obtain ⟨m, rfl⟩ : ∃ m, i = mz_n0 G q + m := ⟨i - mz_n0 G q, by omega⟩
      rw [hcl2 m (by omega), mz_vr_ev, h2]
  refine ⟨⟨hg'.1, hg'.2.1, ?_, ?_⟩, h1, h2, hn0⟩
  · refine mz_nu_ok G (np := mz_np q) (b1 := mz_n0 G q) (fun i hi => h2 i) _ _ 0 (fun i e he => ?_) hlen hgt
    rw [Nat.zero_add]
    have hi : i < G.2.2.1.length := by rw [← hlen]; exact (List.getElem?_eq_some_iff.mp he).1
    have e1 := hin (mz_np q + i) (by show q.2.1.length + i < q.2.1.length + G.2.2.1.length; omega)
    rw [e1]
    have e2 : mz_th 0 (av ++ k.2.2.1) (mz_np q + i) = e := by
      unfold mz_th
      show (av ++ k.2.2.1).getD (mz_np q + i - 0) (0, []) = e
      rw [Nat.sub_zero, List.getD_eq_getElem?_getD, List.getElem?_append_right (by omega), hal, Nat.add_sub_cancel_left, he]
      rfl
    rw [e2]
    exact (mz_wf_e h1 (hwl _ _ hwk3 _ e he)).symm
  · refine mz_foldf _ _ ?_ (mz_app_l ?_ (mz_mf_ok G hm _ _ _ ?_ hg'.2.2.2))
    · intro f hf
      rw [mz_sbs_ev]
      obtain ⟨i, hi⟩ := List.getElem?_of_mem hf
      rw [mz_wf_e (ρ := ρ2) (n := mz_n0 G q + q.2.2.2.1.length + 1) hsub (hwl _ _ hwp i f hi)]
      exact hp f hf
    · split
      · next h0 =>
        have := hr h0
        exact mz_two_l (by rw [mz_1v, h2]; omega) (by rw [mz_m1v, h2]; omega)
      · exact mz_nil_l
    · intro i j t hi hj
      refine mz_gt1_x G ?_ (mz_nt_get G (mz_pos_nd _ _ _ hnd hi) _ 0 j (Nat.zero_add j) hj hgt)
      rw [mz_vr_ev, mz_vr_ev]
      exact h2 i
/-! lists of arguments -/
theorem mz_gs_take {ρ : Nat → Int} : ∀ (n : Nat) (as : List mz_V) (st : List Value), mz_gs G ρ as st → mz_gs G ρ (as.take n) (st.take n) ∧ mz_gs G ρ (as.drop n) (st.drop n) := by
  intro n
  induction n with
  | zero => intro as st h; exact ⟨trivial, h⟩
  | succ n ih =>
    intro as st h
    cases as with
    | nil => cases st with
      | nil => exact ⟨trivial, trivial⟩
      | cons v st => exact h.elim
    | cons a as => cases st with
      | nil => exact h.elim
      | cons v st =>
        obtain ⟨h1, h2⟩ := ih as st h.2
        exact ⟨⟨h.1, h1⟩, h2⟩
theorem mz_gs_app {ρ : Nat → Int} {bs : List mz_V} {ws : List Value} (hb : mz_gs G ρ bs ws) : ∀ (as : List mz_V) (st : List Value), mz_gs G ρ as st → mz_gs G ρ (as ++ bs) (st ++ ws) := by
  intro as
  induction as with
  | nil => intro st h; cases st with
    | nil => exact hb
    | cons o os => exact h.elim
  | cons a as ih => intro st h; cases st with
    | nil => exact h.elim
    | cons o os => exact ⟨h.1, ih os h.2⟩
theorem mz_gs_rev {ρ : Nat → Int} : ∀ (as : List mz_V) (st : List Value), mz_gs G ρ as st → mz_gs G ρ as.reverse st.reverse := by
  intro as
  induction as with
  | nil => intro st h; cases st with
    | nil => exact trivial
    | cons o os => exact h.elim
  | cons a as ih => intro st h; cases st with
    | nil => exact h.elim
    | cons o os =>
      rw [List.reverse_cons, List.reverse_cons]
      exact mz_gs_app G (bs := [a]) (ws := [o]) ⟨h.1, trivial⟩ _ _ (ih os h.2)
theorem mz_gs_len {ρ : Nat → Int} : ∀ (as : List mz_V) (st : List Value), mz_gs G ρ as st → st.length = as.length := by
  intro as
  induction as with
  | nil => intro st h; cases st with
    | nil => rfl
    | cons o os => exact h.elim
  | cons a as ih => intro st h; cases st with
    | nil => exact h.elim
    | cons o os => show os.length + 1 = as.length + 1; rw [ih os h.2]
def mz_wd : List mz_V → Nat
  | [] => 0
  | a :: r => (bif Nat.beq a.1 2 then 2 else 1) + mz_wd r
theorem mz_wd_ok {ρ : Nat → Int} : ∀ (as : List mz_V) (st : List Value), mz_gs G ρ as st → (mq_sp st).length = mz_wd as := by
  intro as
  induction as with
  | nil => intro st h; cases st with
    | nil => rfl
    | cons o os => exact h.elim
  | cons a as ih => intro st h; cases st with
    | nil => exact h.elim
    | cons o os =>
      have e1 : mq_sp (o :: os) = (if o.category = 2 then [some o, none] else [some o]) ++ mq_sp os := by
        unfold mq_sp
        rw [List.flatMap_cons]
      rw [e1, List.length_append, ih os h.2]
      show _ = (bif Nat.beq a.1 2 then 2 else 1) + mz_wd as
      congr 1
      obtain ⟨a1, g, e⟩ := a
      cases h2 : Nat.beq a1 2 with
      | true =>
        have e2 : a1 = 2 := Nat.eq_of_beq_eq_true h2
        subst e2
        obtain ⟨x, rfl, _⟩ := mz_gv_l G h.1
        rfl
      | false =>
        have := mz_cat1 G h.1 (mz_ne2 h2)
        rw [if_neg (by rw [this]; decide)]
        rfl
end VCC
