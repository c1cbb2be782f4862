/-! More of the walk. -/
theorem xgv_nil : xgv [] := ⟨by decide, (fun x hx => by cases hx), fun i j _ _ h => absurd h (by show ¬ (j : Int) < ((0 : Nat) : Int); omega)⟩
theorem xpw_gv {on : Int → List Int} (ho : xon on) : ∀ (m : Nat) (st v : List Int), xgv v → xin st → xgv (xpw on m st v) ∧ v.length ≤ (xpw on m st v).length := by
  intro m
  induction m with
  | zero => intro st v hv _; exact ⟨hv, Nat.le_refl _⟩
  | succ m ih =>
    intro st v hv hs
    cases st with
    | nil => exact ⟨hv, Nat.le_refl _⟩
    | cons a st =>
      have ha := hs a (List.mem_cons_self ..)
      have hst : xin st := fun x hx => hs x (List.mem_cons_of_mem _ hx)
      show xgv (if v.elem a = true then xpw on m st v else xpw on m (on a ++ st) (v ++ [a])) ∧ v.length ≤ (if v.elem a = true then xpw on m st v else xpw on m (on a ++ st) (v ++ [a])).length
      by_cases c : v.elem a = true
      · rw [if_pos c]
        exact ih st v hv hst
      · rw [if_neg c]
        have h := ih (on a ++ st) (v ++ [a]) (xgv_add hv ha.1 ha.2 c) (fun x hx => by
          rcases List.mem_append.mp hx with q | q
          · exact (ho a ha.1 ha.2).2 x q
          · exact hst x q)
        refine ⟨h.1, Nat.le_trans ?_ h.2⟩
        rw [List.length_append]
        exact Nat.le_add_right ..
theorem xpt_gv {on : Int → List Int} {st v : List Int} (ho : xon on) (hv : xgv v) (hs : xin st) : xgv (xpt on st v) ∧ v.length ≤ (xpt on st v).length := xpw_gv ho 100 st v hv hs
theorem xin_app {l l' : List Int} (h : xin l) (h' : xin l') : xin (l ++ l') := fun x hx => by
  rcases List.mem_append.mp hx with q | q
  · exact h x q
  · exact h' x q
theorem xpt_app {on : Int → List Int} (ho : xon on) : ∀ (k : Nat) (l1 l2 v : List Int), xgv v → xin l1 → xin l2 → l1.length + 5 * (4 - v.length) ≤ k → k ≤ 40 → l2.length ≤ 20 → xpt on (l1 ++ l2) v = xpt on l2 (xpt on l1 v) := by
  intro k
  induction k with
  | zero =>
    intro l1 l2 v hv h1 h2 hk _ h20
    cases l1 with
    | nil => rfl
    | cons a l1 => have : l1.length + 1 + 5 * (4 - v.length) ≤ 0 := hk; omega
  | succ k ih =>
    intro l1 l2 v hv h1 h2 hk h40 h20
    cases l1 with
    | nil => rfl
    | cons a l1 =>
      have hk : l1.length + 1 + 5 * (4 - v.length) ≤ k + 1 := hk
      have ha := h1 a (List.mem_cons_self ..)
      have h1' : xin l1 := fun x hx => h1 x (List.mem_cons_of_mem _ hx)
      have hin : xin (a :: (l1 ++ l2)) := xin_app (l := a :: l1) h1 h2
      have hll : (l1 ++ l2).length ≤ 60 := by rw [List.length_append]; omega
      by_cases c : v.elem a = true
      · show xpt on (a :: (l1 ++ l2)) v = _
        rw [xpt_in ho hv hin hll c, xpt_in ho hv h1 (by omega) c]
        exact ih l1 l2 v hv h1' h2 (by omega) (by omega) h20
      · have hr := xgv_room hv ha.1 ha.2 c
        have h4 := ho a ha.1 ha.2
        show xpt on (a :: (l1 ++ l2)) v = _
        rw [xpt_out ho hv hin hll c, xpt_out ho hv h1 (by omega) c, ← List.append_assoc]
        refine ih (on a ++ l1) l2 (v ++ [a]) (xgv_add hv ha.1 ha.2 c) (xin_app h4.2 h1') h2 ?_ (by omega) h20
        rw [List.length_append, List.length_append]
        show (on a).length + l1.length + 5 * (4 - (v.length + 1)) ≤ k
        have := h4.1
        omega
theorem xpt_app' {on : Int → List Int} {l1 l2 v : List Int} (ho : xon on) (hv : xgv v) (h1 : xin l1) (h2 : xin l2) (hl1 : l1.length ≤ 4) (hl2 : l2.length ≤ 20) : xpt on (l1 ++ l2) v = xpt on l2 (xpt on l1 v) := xpt_app ho 24 l1 l2 v hv h1 h2 (by omega) (by omega) hl2
theorem xin1 {a : Int} (h0 : 0 ≤ a) (h3 : a ≤ 3) : xin [a] := fun x hx => by rw [List.mem_singleton.mp hx]; exact ⟨h0, h3⟩
theorem xpt_1in {on : Int → List Int} {a : Int} {v : List Int} (ho : xon on) (hv : xgv v) (h0 : 0 ≤ a) (h3 : a ≤ 3) (c : v.elem a = true) : xpt on [a] v = v := xpt_in ho hv (xin1 h0 h3) (by decide) c
theorem xpt_1out {on : Int → List Int} {a : Int} {v : List Int} (ho : xon on) (hv : xgv v) (h0 : 0 ≤ a) (h3 : a ≤ 3) (c : ¬ v.elem a = true) : xpt on [a] v = xpt on (on a) (v ++ [a]) := by
  rw [xpt_out ho hv (xin1 h0 h3) (by decide) c, List.append_nil]
theorem xgv_full {v : List Int} {a : Int} (h : xgv v) (h4 : 4 ≤ v.length) (h0 : 0 ≤ a) (h3 : a ≤ 3) : v.elem a = true := Classical.byContradiction fun c => by have := xgv_room h h0 h3 c; omega
theorem xo_mg {v : List Int} {x : Int} (h : v.elem x = true) : ∃ j, j < v.length ∧ v.getD j 0 = x := by
  obtain ⟨j, hj, e⟩ := List.mem_iff_getElem.mp (List.elem_iff.mp h)
  refine ⟨j, hj, ?_⟩
  rw [List.getD_eq_getElem?_getD, List.getElem?_eq_getElem hj]
  exact e
theorem xo_gme {v : List Int} {x : Int} {j : Nat} (hj : j < v.length) (e : v.getD j 0 = x) : v.elem x = true := by
  rw [← e]
  exact List.elem_iff.mpr (xo_gdm hj)
theorem xo_gap {v : List Int} {a : Int} {j : Nat} : (v ++ [a]).getD j 0 = if j = v.length then a else v.getD j 0 := by
  by_cases h : j = v.length
  · rw [if_pos h, h, xx_gr (Nat.le_refl _), Nat.sub_self]
    rfl
  · rw [if_neg h]
    by_cases q : j < v.length
    · exact xx_gl q
    · rw [List.getD_eq_getElem?_getD, List.getD_eq_getElem?_getD, List.getElem?_eq_none (by rw [List.length_append]; show v.length + 1 ≤ j; omega), List.getElem?_eq_none (by omega)]
theorem xo_tk {l : List Int} {i : Nat} (h : i < l.length) : l.take (i + 1) = l.take i ++ [l.getD i 0] := by
  rw [List.take_succ, List.getD_eq_getElem?_getD, List.getElem?_eq_getElem h]
  rfl
theorem xo_dr {l : List Int} {i : Nat} (h : i < l.length) : l.drop i = l.getD i 0 :: l.drop (i + 1) := by
  rw [List.drop_eq_getElem_cons h, List.getD_eq_getElem?_getD, List.getElem?_eq_getElem h]
  rfl
theorem xin_tk {l : List Int} {i : Nat} (h : xin l) : xin (l.take i) := fun x hx => h x (List.mem_of_mem_take hx)
theorem xin_dr {l : List Int} {i : Nat} (h : xin l) : xin (l.drop i) := fun x hx => h x (List.mem_of_mem_drop hx)
