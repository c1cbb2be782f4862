/-! The mini-machine's values, locals and plain instructions, and what the machine does there. -/
def mq_v (f : Nat → Nat) (v : Value) : Value := match v with
  | .ref a => .ref (f a)
  | w => w
theorem mq_v_cat (f : Nat → Nat) (v : Value) : (mq_v f v).category = v.category := by cases v <;> rfl
theorem mq_v_wt (f : Nat → Nat) (st : List Value) : ((st.map (mq_v f)).map fun v => v.category).sum = mq_wt st := by
  unfold mq_wt
  rw [List.map_map]
  congr 1
  apply List.map_congr_left
  intro v _
  exact mq_v_cat f v
/-- the locals of the machine hold what the mini-machine's do -/
def mq_lr (f : Nat → Nat) (L : mq_L) (ls : Array Slot) : Prop := ls.size = L.length ∧ lv_wf ls ∧ ∀ (i : Nat) (v : Value), L[i]? = some (some v) → ls[i]? = some (.val (mq_v f v))
def mq_pr (f : Nat → Nat) (L : mq_L) : List (Nat × Value) := L.zipIdx.filterMap (fun q => q.1.map (fun v => (q.2, mq_v f v)))
theorem mq_pr_mem {f : Nat → Nat} {L : mq_L} {i : Nat} {w : Value} : (i, w) ∈ mq_pr f L ↔ ∃ v, L[i]? = some (some v) ∧ w = mq_v f v := by
  unfold mq_pr
  rw [List.mem_filterMap]
  constructor
  · rintro ⟨⟨o, j⟩, hq, he⟩
    cases o with
    | none => cases he
    | some v =>
      simp only [Option.map_some, Option.some.injEq, Prod.mk.injEq] at he
      obtain ⟨rfl, rfl⟩ := he
      exact ⟨v, List.mem_zipIdx_iff_getElem?.mp hq, rfl⟩
  · rintro ⟨v, hv, rfl⟩
    exact ⟨(some v, i), List.mem_zipIdx_iff_getElem?.mpr hv, rfl⟩
theorem mq_lr_has {f : Nat → Nat} {L : mq_L} {ls : Array Slot} (h : mq_lr f L ls) : lv_has ls L.length (mq_pr f L) := by
  refine ⟨h.1, h.2.1, fun q hq => ?_⟩
  obtain ⟨i, w⟩ := q
  obtain ⟨v, hv, rfl⟩ := mq_pr_mem.mp hq
  exact h.2.2 i v hv
theorem mq_lg_of {L : mq_L} {j : Nat} {w : Value} (h : L[j]? = some (some w)) (hc : w.category = 2) : mq_lg L (j + 1) = true := by
  simp only [mq_lg]
  rw [h]
  cases w <;> simp [Value.category] at hc ⊢
theorem mq_lr_of1 {f : Nat → Nat} {L L' : mq_L} {ls' : Array Slot} {i : Nat} {v : Value} (h : lv_has ls' L.length ((i, mq_v f v) :: (mq_pr f L).filter (fun q => !(q.1 == i) && !(q.1 + 1 == i && q.2.category == 2)))) (hs : mq_set1 L i v = some L') : mq_lr f L' ls' := by
  unfold mq_set1 at hs
  split at hs
  · cases hs
  next hn =>
    cases hs
    have hlg : mq_lg L i = false := by
      cases hx : mq_lg L i
      · rfl
      · exact absurd (Or.inl hx) hn
    have hi : i < L.length := Nat.not_le.mp fun q => hn (Or.inr q)
    refine ⟨by rw [List.length_set]; exact h.1, h.2.1, fun j w hj => ?_⟩
    by_cases e : j = i
    · subst e
      rw [List.getElem?_set_self hi] at hj
      cases hj
      exact h.2.2 _ List.mem_cons_self
    · rw [List.getElem?_set_ne (Ne.symm e)] at hj
      refine h.2.2 (j, mq_v f w) (List.mem_cons_of_mem _ (List.mem_filter.mpr ⟨mq_pr_mem.mpr ⟨w, hj, rfl⟩, ?_⟩))
      simp only [Bool.and_eq_true, Bool.not_eq_true', beq_eq_false_iff_ne, ne_eq, Bool.and_eq_false_iff]
      refine ⟨e, ?_⟩
      by_cases e2 : j + 1 = i
      · right
        intro hc
        have hc' : w.category = 2 := by rw [← mq_v_cat f w]; exact hc
        rw [← e2, mq_lg_of hj hc'] at hlg
        cases hlg
      · exact Or.inl e2
theorem mq_lr_of2 {f : Nat → Nat} {L L' : mq_L} {ls' : Array Slot} {i : Nat} {v : Value} (h : lv_has ls' L.length ((i, mq_v f v) :: (mq_pr f L).filter (fun q => !(q.1 == i) && (!(q.1 == i + 1) && !(q.1 + 1 == i && q.2.category == 2))))) (hs : mq_set2 L i v = some L') : mq_lr f L' ls' := by
  unfold mq_set2 at hs
  split at hs
  · cases hs
  next hn =>
    cases hs
    have hlg : mq_lg L i = false := by
      cases hx : mq_lg L i
      · rfl
      · exact absurd (Or.inl hx) hn
    have hi : i + 1 < L.length := Nat.not_le.mp fun q => hn (Or.inr q)
    refine ⟨by rw [List.length_set, List.length_set]; exact h.1, h.2.1, fun j w hj => ?_⟩
    by_cases e1 : j = i + 1
    · subst e1
      rw [List.getElem?_set_self (by rw [List.length_set]; exact hi)] at hj
      cases hj
    · rw [List.getElem?_set_ne (Ne.symm e1)] at hj
      by_cases e : j = i
      · subst e
        rw [List.getElem?_set_self (by omega)] at hj
        cases hj
        exact h.2.2 _ List.mem_cons_self
      · rw [List.getElem?_set_ne (Ne.symm e)] at hj
        refine h.2.2 (j, mq_v f w) (List.mem_cons_of_mem _ (List.mem_filter.mpr ⟨mq_pr_mem.mpr ⟨w, hj, rfl⟩, ?_⟩))
        simp only [Bool.and_eq_true, Bool.not_eq_true', beq_eq_false_iff_ne, ne_eq, Bool.and_eq_false_iff]
        refine ⟨e, e1, ?_⟩
        by_cases e2 : j + 1 = i
        · right
          intro hc
          have hc' : w.category = 2 := by rw [← mq_v_cat f w]; exact hc
          rw [← e2, mq_lg_of hj hc'] at hlg
          cases hlg
        · exact Or.inl e2
theorem mq_set1_lt {L L' : mq_L} {i : Nat} {v : Value} (hs : mq_set1 L i v = some L') : i < L.length := by
  unfold mq_set1 at hs
  split at hs
  · cases hs
  next hn => exact Nat.not_le.mp fun q => hn (Or.inr q)
theorem mq_set2_lt {L L' : mq_L} {i : Nat} {v : Value} (hs : mq_set2 L i v = some L') : i + 1 < L.length := by
  unfold mq_set2 at hs
  split at hs
  · cases hs
  next hn => exact Nat.not_le.mp fun q => hn (Or.inr q)
theorem mq_sp_args (f : Nat → Nat) : ∀ (vs : List Value) (b i : Nat) (v : Value), (mq_sp vs)[i]? = some (some v) → (b + i, mq_v f v) ∈ lv_args b (vs.map (mq_v f))
  | [], _, i, v, h => by simp [mq_sp] at h
  | x :: xs, b, i, v, h => by
    have hm : mq_sp (x :: xs) = (if x.category = 2 then [some x, none] else [some x]) ++ mq_sp xs := by simp [mq_sp]
    rw [hm] at h
    show _ ∈ (b, mq_v f x) :: lv_args (if (mq_v f x).category = 2 then b + 2 else b + 1) (xs.map (mq_v f))
    rw [mq_v_cat]
    by_cases hc : x.category = 2
    · rw [if_pos hc] at h ⊢
      match i, h with
      | 0, h => cases h; exact List.mem_cons_self
      | 1, h => cases h
      | i + 2, h =>
        refine List.mem_cons_of_mem _ ?_
        have h' : (mq_sp xs)[i]? = some (some v) := by simpa using h
        have := mq_sp_args f xs (b + 2) i v h'
        rwa [show b + 2 + i = b + (i + 2) by omega] at this
    · rw [if_neg hc] at h ⊢
      match i, h with
      | 0, h => cases h; exact List.mem_cons_self
      | i + 1, h =>
        refine List.mem_cons_of_mem _ ?_
        have h' : (mq_sp xs)[i]? = some (some v) := by simpa using h
        have := mq_sp_args f xs (b + 1) i v h'
        rwa [show b + 1 + i = b + (i + 1) by omega] at this
theorem mq_sp_len (f : Nat → Nat) (vs : List Value) : (lg_sl (vs.map (mq_v f))).length = (mq_sp vs).length := by
  induction vs with
  | nil => rfl
  | cons x xs ih =>
    have h1 : mq_sp (x :: xs) = (if x.category = 2 then [some x, none] else [some x]) ++ mq_sp xs := by simp [mq_sp]
    have h2 : lg_sl ((x :: xs).map (mq_v f)) = (if (mq_v f x).category = 2 then [.val (mq_v f x), .second] else [.val (mq_v f x)]) ++ lg_sl (xs.map (mq_v f)) := by simp [lg_sl]
    rw [h1, h2, mq_v_cat, List.length_append, List.length_append, ih]
    by_cases hc : x.category = 2 <;> simp [hc]
/-- the locals with which a method begins -/
theorem mq_lr_entry (f : Nat → Nat) (vs : List Value) {n : Nat} (h : (mq_sp vs).length ≤ n) : mq_lr f (mq_sp vs ++ List.replicate (n - (mq_sp vs).length) none) ((lg_sl (vs.map (mq_v f)) ++ List.replicate (n - (lg_sl (vs.map (mq_v f))).length) Slot.unset).toArray) := by
  have hl := lv_entry (vs.map (mq_v f)) (n := n) (by rw [mq_sp_len]; exact h)
  refine ⟨by rw [hl.1]; simp; omega, hl.2.1, fun i v hi => ?_⟩
  by_cases hlt : i < (mq_sp vs).length
  · rw [List.getElem?_append_left hlt] at hi
    have := mq_sp_args f vs 0 i v hi
    rw [Nat.zero_add] at this
    exact hl.2.2 _ this
  · rw [List.getElem?_append_right (by omega)] at hi
    have := List.mem_of_getElem? hi
    have h9 := (List.mem_replicate.mp this).2
    cases h9
