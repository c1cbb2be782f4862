/-! The path of a loader: one walk for both sides. -/
def xpw (on : Int → List Int) : Nat → List Int → List Int → List Int
  | 0, _, v => v
  | _ + 1, [], v => v
  | m + 1, a :: st, v => if v.elem a = true then xpw on m st v else xpw on m (on a ++ st) (v ++ [a])
abbrev xin (l : List Int) : Prop := ∀ x ∈ l, 0 ≤ x ∧ x ≤ 3
abbrev xon (on : Int → List Int) : Prop := ∀ a : Int, 0 ≤ a → a ≤ 3 → (on a).length ≤ 4 ∧ xin (on a)
def xgv (v : List Int) : Prop := v.length ≤ 4 ∧ xin v ∧ hxd (v.length : Int) (fun i => v.getD i 0)
theorem xo_gdm {v : List Int} {j : Nat} (h : j < v.length) : v.getD j 0 ∈ v := by
  rw [List.getD_eq_getElem?_getD, List.getElem?_eq_getElem h]
  exact List.getElem_mem h
theorem xgv_r {v : List Int} (h : xgv v) : ∀ j, j < 4 → 0 ≤ v.getD j 0 ∧ v.getD j 0 ≤ 3 := by
  intro j _
  by_cases hj : j < v.length
  · exact h.2.1 _ (xo_gdm hj)
  · rw [List.getD_eq_getElem?_getD, List.getElem?_eq_none (by omega)]
    exact ⟨by decide, by decide⟩
theorem xgv_n {v : List Int} {a : Int} (hn : ¬ v.elem a = true) : ∀ j : Nat, (j : Int) < (v.length : Int) → v.getD j 0 ≠ a := by
  intro j hj e
  refine hn (List.elem_iff.mpr ?_)
  rw [← e]
  exact xo_gdm (by omega)
theorem xgv_room {v : List Int} {a : Int} (h : xgv v) (h0 : 0 ≤ a) (h3 : a ≤ 3) (hn : ¬ v.elem a = true) : v.length < 4 := by
  have hr := hp_room (len := (v.length : Int)) (x := a) (f := fun i => v.getD i 0) (by have := h.1; omega) (xgv_r h) ⟨h0, h3⟩ h.2.2 (xgv_n hn)
  omega
theorem xgv_add {v : List Int} {a : Int} (h : xgv v) (h0 : 0 ≤ a) (h3 : a ≤ 3) (hn : ¬ v.elem a = true) : xgv (v ++ [a]) := by
  have hr := xgv_room h h0 h3 hn
  have hl : (v ++ [a]).length = v.length + 1 := by rw [List.length_append]; rfl
  refine ⟨by omega, fun x hx => ?_, ?_⟩
  · rcases List.mem_append.mp hx with q | q
    · exact h.2.1 x q
    · rw [List.mem_singleton.mp q]
      exact ⟨h0, h3⟩
  · rw [hl]
    have e : ((v.length + 1 : Nat) : Int) = (v.length : Int) + 1 := by omega
    rw [e]
    refine hp_add (x := a) (by omega) h.2.2 (xgv_n hn) ?_ (fun j hj => ?_)
    · show (v ++ [a]).getD (v.length : Int).toNat 0 = a
      rw [show (v.length : Int).toNat = v.length by omega, xx_gr (Nat.le_refl _), Nat.sub_self]
      rfl
    · show (v ++ [a]).getD j 0 = v.getD j 0
      have hj : j ≠ v.length := by
        intro q
        rw [q] at hj
        exact hj (by omega)
      by_cases q : j < v.length
      · exact xx_gl q
      · rw [List.getD_eq_getElem?_getD, List.getD_eq_getElem?_getD, List.getElem?_eq_none (by rw [hl]; omega), List.getElem?_eq_none (by omega)]
theorem xpw_s {on : Int → List Int} (ho : xon on) : ∀ (m : Nat) (st v : List Int), xgv v → xin st → st.length + 5 * (4 - v.length) ≤ m → xpw on m st v = xpw on (m + 1) st v := by
  intro m
  induction m with
  | zero =>
    intro st v _ _ hm
    cases st with
    | nil => rfl
    | cons a st => have : st.length + 1 + _ ≤ 0 := hm; omega
  | succ m ih =>
    intro st v hv hs hm
    cases st with
    | nil => rfl
    | cons a st =>
      have hm : st.length + 1 + 5 * (4 - v.length) ≤ m + 1 := hm
      have ha := hs a (List.mem_cons_self ..)
      have hst : xin st := fun x hx => hs x (List.mem_cons_of_mem _ hx)
      show (if v.elem a = true then xpw on m st v else xpw on m (on a ++ st) (v ++ [a])) = (if v.elem a = true then xpw on (m + 1) st v else xpw on (m + 1) (on a ++ st) (v ++ [a]))
      by_cases c : v.elem a = true
      · rw [if_pos c, if_pos c]
        exact ih st v hv hst (by omega)
      · rw [if_neg c, if_neg c]
        have hr := xgv_room hv ha.1 ha.2 c
        have h4 := ho a ha.1 ha.2
        refine ih _ _ (xgv_add hv ha.1 ha.2 c) (fun x hx => ?_) ?_
        · rcases List.mem_append.mp hx with q | q
          · exact h4.2 x q
          · exact hst x q
        · rw [List.length_append, List.length_append]
          show (on a).length + st.length + 5 * (4 - (v.length + 1)) ≤ m
          have := h4.1
          omega
theorem xpw_m {on : Int → List Int} (ho : xon on) {m m' : Nat} {st v : List Int} (hv : xgv v) (hs : xin st) (hm : st.length + 5 * (4 - v.length) ≤ m) (h : m ≤ m') : xpw on m st v = xpw on m' st v := by
  induction h with
  | refl => rfl
  | step h ih => exact ih.trans (xpw_s ho _ st v hv hs (Nat.le_trans hm h))
/-- the walk with enough of it -/
def xpt (on : Int → List Int) (st v : List Int) : List Int := xpw on 100 st v
theorem xpt_nil {on : Int → List Int} {v : List Int} : xpt on [] v = v := rfl
theorem xpt_in {on : Int → List Int} {a : Int} {st v : List Int} (ho : xon on) (hv : xgv v) (hs : xin (a :: st)) (hl : st.length ≤ 60) (c : v.elem a = true) : xpt on (a :: st) v = xpt on st v := by
  show (if v.elem a = true then xpw on 99 st v else _) = xpw on 100 st v
  rw [if_pos c]
  exact xpw_m ho hv (fun x hx => hs x (List.mem_cons_of_mem _ hx)) (by omega) (by omega)
theorem xpt_out {on : Int → List Int} {a : Int} {st v : List Int} (ho : xon on) (hv : xgv v) (hs : xin (a :: st)) (hl : st.length ≤ 60) (c : ¬ v.elem a = true) : xpt on (a :: st) v = xpt on (on a ++ st) (v ++ [a]) := by
  have ha := hs a (List.mem_cons_self ..)
  have h4 := ho a ha.1 ha.2
  show (if v.elem a = true then _ else xpw on 99 (on a ++ st) (v ++ [a])) = xpw on 100 (on a ++ st) (v ++ [a])
  rw [if_neg c]
  refine xpw_m ho (xgv_add hv ha.1 ha.2 c) (fun x hx => ?_) ?_ (by omega)
  · rcases List.mem_append.mp hx with q | q
    · exact h4.2 x q
    · exact hs x (List.mem_cons_of_mem _ q)
  · rw [List.length_append]
    have := h4.1
    omega
