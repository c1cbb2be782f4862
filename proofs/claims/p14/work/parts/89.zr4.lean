/-! What a name's places are; the class's placeIn and addPlaces, exactly. -/
theorem xfn_r {f : Nat → Int} {x : Int} (n : Nat) : -1 ≤ xfn f x n 0 ∧ xfn f x n 0 < (n : Int) := by
  rcases xfn_s (f := f) (x := x) n 0 with ⟨k, k1, k2, k3, k4, k5⟩ | ⟨k1, k2⟩
  · rw [k3]
    exact ⟨by omega, by omega⟩
  · rw [k1]
    exact ⟨by omega, by omega⟩
theorem xrfor_r {f : Nat → Int} {n : Nat} {vb : Int} {x : Int32} : -1 ≤ xrfor f n vb x ∧ xrfor f n vb x < (n : Int) := by
  unfold xrfor
  split
  · split
    · split
      · exact xfn_r n
      · exact xfn_r n
    · exact xfn_r n
  · exact xfn_r n
def xpla (rd : Option (List xRc × xMs)) (x : Int32) (a : Int) : Int := match rd with
  | none => -1
  | some (l, s) => if xrfor (fun i => (l.getD i xd0).1) l.length s.2.2.1 x = -1 then -1 else 8 * a + xrfor (fun i => (l.getD i xd0).1) l.length s.2.2.1 x
def xono (rd : Option (List xRc × xMs)) : List Int := match rd with
  | none => []
  | some (_, s) => s.2.2.2
def xpl (f : Int → Int) : List Int → List Int
  | [] => []
  | a :: v => if f a = -1 then xpl f v else f a :: xpl f v
theorem xpl_app {f : Int → Int} {w : List Int} : ∀ v : List Int, xpl f (v ++ w) = xpl f v ++ xpl f w := by
  intro v
  induction v with
  | nil => rfl
  | cons a v ih =>
    show (if f a = -1 then xpl f (v ++ w) else f a :: xpl f (v ++ w)) = (if f a = -1 then xpl f v else f a :: xpl f v) ++ xpl f w
    by_cases h : f a = -1
    · rw [if_pos h, if_pos h]
      exact ih
    · rw [if_neg h, if_neg h, ih]
      rfl
theorem xpl_n {f : Int → Int} {a : Int} (h : f a = -1) : xpl f [a] = [] := by
  show (if f a = -1 then xpl f [] else _) = _
  rw [if_pos h]
  rfl
theorem xpl_s {f : Int → Int} {a : Int} (h : ¬ f a = -1) : xpl f [a] = [f a] := by
  show (if f a = -1 then xpl f [] else f a :: xpl f []) = _
  rw [if_neg h]
  rfl
theorem xpl_len {f : Int → Int} : ∀ v : List Int, (xpl f v).length ≤ v.length := by
  intro v
  induction v with
  | nil => exact Nat.le_refl _
  | cons a v ih =>
    show (if f a = -1 then xpl f v else f a :: xpl f v).length ≤ v.length + 1
    by_cases h : f a = -1
    · rw [if_pos h]
      omega
    · rw [if_neg h]
      show (xpl f v).length + 1 ≤ v.length + 1
      omega
def xfm (g : Nat → List Int) : List Nat → List Int
  | [] => []
  | i :: r => g i ++ xfm g r
theorem xfm_app {g : Nat → List Int} {w : List Nat} : ∀ v : List Nat, xfm g (v ++ w) = xfm g v ++ xfm g w := by
  intro v
  induction v with
  | nil => rfl
  | cons a v ih =>
    show g a ++ xfm g (v ++ w) = g a ++ xfm g v ++ xfm g w
    rw [ih, List.append_assoc]
theorem xfm_1 {g : Nat → List Int} {i : Nat} : xfm g [i] = g i := List.append_nil _
theorem xfm_len {g : Nat → List Int} (h : ∀ i, (g i).length ≤ 4) : ∀ v : List Nat, (xfm g v).length ≤ 4 * v.length := by
  intro v
  induction v with
  | nil => exact Nat.zero_le _
  | cons a v ih =>
    have h1 := h a
    show (g a ++ xfm g v).length ≤ 4 * (v.length + 1)
    rw [List.length_append]
    omega
/-- the parents, from the root to a loader -/
def xca (p : Nat → Int) : Nat → Int → List Nat → List Nat
  | 0, _, acc => acc
  | m + 1, l, acc => if l < 0 then acc else xca p m (p l.toNat) (l.toNat :: acc)
def xupw (p : Nat → Int) : Nat → Int → Int → Int
  | 0, a, _ => a
  | m + 1, a, u => if u < a then xupw p m (p a.toNat) u else a
def xup (p : Nat → Int) (j l : Nat) : Bool := decide (xupw p 4 (l : Int) (j : Int) = (j : Int))
theorem xnm_p {x : Int} (h : ¬ hb_nm x = 0) : 0 ≤ x := by
  unfold hb_nm at h
  by_cases c : 0 < x ∧ hb_ng 4 x = true
  · omega
  · rw [if_neg c] at h
    exact absurd rfl h
def xR (p : Nat → Int) (g : Nat → List Int) (l i : Nat) : List Int := xfm g ((List.range i).filter fun j => xup p j l)
def x4p (a1 a2 a3 : Int) (i : Nat) : Int := if i = 1 then a1 else if i = 2 then a2 else if i = 3 then a3 else -1
theorem xca_t : ∀ a1 ∈ [(-1 : Int), 0], ∀ a2 ∈ [(-1 : Int), 0, 1], ∀ a3 ∈ [(-1 : Int), 0, 1, 2], ∀ l ∈ [0, 1, 2, 3], ((List.range (l + 1)).filter fun j => xup (x4p a1 a2 a3) j l) = xca (x4p a1 a2 a3) 4 (l : Int) [] := by decide +kernel
theorem xca_c {p q : Nat → Int} (h : ∀ i : Nat, i < 4 → p i = q i) (hb : ∀ i : Nat, i < 4 → p i < (i : Int)) : ∀ (m : Nat) (l : Int) (acc : List Nat), l < 4 → xca p m l acc = xca q m l acc := by
  intro m
  induction m with
  | zero => intro l acc _; rfl
  | succ m ih =>
    intro l acc hl
    show (if l < 0 then acc else xca p m (p l.toNat) (l.toNat :: acc)) = (if l < 0 then acc else xca q m (q l.toNat) (l.toNat :: acc))
    by_cases c : l < 0
    · rw [if_pos c, if_pos c]
    · have h1 := hb l.toNat (by omega)
      rw [if_neg c, if_neg c, ← h l.toNat (by omega)]
      exact ih _ _ (by omega)
theorem xupw_c {p q : Nat → Int} (h : ∀ i : Nat, i < 4 → p i = q i) (hb : ∀ i : Nat, i < 4 → p i < (i : Int)) : ∀ (m : Nat) (a : Int) (u : Int), 0 ≤ u → a < 4 → xupw p m a u = xupw q m a u := by
  intro m
  induction m with
  | zero => intro a u _ _; rfl
  | succ m ih =>
    intro a u hu ha
    show (if u < a then xupw p m (p a.toNat) u else a) = (if u < a then xupw q m (q a.toNat) u else a)
    by_cases c : u < a
    · have h1 := hb a.toNat (by omega)
      rw [if_pos c, if_pos c, ← h a.toNat (by omega)]
      exact ih _ _ hu (by omega)
    · rw [if_neg c, if_neg c]
theorem xR_ca {p : Nat → Int} {g : Nat → List Int} {l : Nat} (hl : l < 4) (h : ∀ i : Nat, i < 4 → -1 ≤ p i ∧ p i < (i : Int)) : xR p g l (l + 1) = xfm g (xca p 4 (l : Int) []) := by
  have h0 := h 0 (by decide)
  have h1 := h 1 (by decide)
  have h2 := h 2 (by decide)
  have h3 := h 3 (by decide)
  have hq : ∀ i : Nat, i < 4 → p i = x4p (p 1) (p 2) (p 3) i := by
    intro i hi
    have h4 : i = 0 ∨ i = 1 ∨ i = 2 ∨ i = 3 := by omega
    rcases h4 with rfl | rfl | rfl | rfl
    · show p 0 = -1
      omega
    · rfl
    · rfl
    · rfl
  have t := xca_t (p 1) (by
      have h4 : p 1 = -1 ∨ p 1 = 0 := by omega
      rcases h4 with h | h <;> rw [h] <;> decide) (p 2) (by
      have h4 : p 2 = -1 ∨ p 2 = 0 ∨ p 2 = 1 := by omega
      rcases h4 with h | h | h <;> rw [h] <;> decide) (p 3) (by
      have h4 : p 3 = -1 ∨ p 3 = 0 ∨ p 3 = 1 ∨ p 3 = 2 := by omega
      rcases h4 with h | h | h | h <;> rw [h] <;> decide) l (by
      have h4 : l = 0 ∨ l = 1 ∨ l = 2 ∨ l = 3 := by omega
      rcases h4 with h | h | h | h <;> rw [h] <;> decide)
  unfold xR
  rw [xca_c hq (fun i hi => (h i hi).2) 4 (l : Int) [] (by omega), ← t]
  have e : (fun j => xup p j l) = fun j => xup (x4p (p 1) (p 2) (p 3)) j l := by
    funext j
    unfold xup
    rw [xupw_c hq (fun i hi => (h i hi).2) 4 (l : Int) (j : Int) (by omega) (by omega)]
  rw [e]
theorem xR_s {p : Nat → Int} {g : Nat → List Int} {l i : Nat} : xR p g l (i + 1) = if xup p i l = true then xR p g l i ++ g i else xR p g l i := by
  unfold xR
  rw [List.range_succ, List.filter_append, xfm_app]
  by_cases c : xup p i l = true
  · rw [if_pos c]
    show _ ++ xfm g (List.filter (fun j => xup p j l) [i]) = _
    rw [List.filter_cons, if_pos c]
    show _ ++ xfm g [i] = _
    rw [xfm_1]
  · rw [if_neg c]
    show _ ++ xfm g (List.filter (fun j => xup p j l) [i]) = _
    rw [List.filter_cons, if_neg c]
    exact List.append_nil _
theorem xR_len {p : Nat → Int} {g : Nat → List Int} {l i : Nat} (h : ∀ i, (g i).length ≤ 4) : (xR p g l i).length ≤ 4 * i := by
  have h1 := xfm_len h ((List.range i).filter fun j => xup p j l)
  have h2 := List.length_filter_le (fun j => xup p j l) (List.range i)
  rw [List.length_range] at h2
  unfold xR
  omega
def xFf (f : Int → Int) (x : Int32) (M : Nat → mq_C) : Prop := ∀ s : Nat, s < 4 → f (s : Int) = xpla (xrd (xcbt M s) (xcl M s)) x (s : Int)
theorem xFf_k {f : Int → Int} {x : Int32} {M M' : Nat → mq_C} (h : ∀ b, 47 ≤ b → b ≤ 90 → M' b = M b) (g : xFf f x M) : xFf f x M' := by
  intro s hs
  have e1 : xcbt M' s = xcbt M s := funext fun i => hb_vc (h (48 + 11 * s) (by omega) (by omega)) i
  have e2 : xcl M' s = xcl M s := by
    unfold xcl
    rw [hb_vc (h (47 + 11 * s) (by omega) (by omega))]
  rw [e1, e2]
  exact g s hs
/-- on which archives lie, told by what is read -/
theorem xOn_E {on : Int → List Int} {M : Nat → mq_C} (hE : xEA M) (h : ∀ s : Nat, s < 4 → on (s : Int) = xono (xrd (xcbt M s) (xcl M s))) : xOn on M := by
  intro s hs
  have h1 := hE s hs
  have h2 := h s hs
  cases hr : xrd (xcbt M s) (xcl M s) with
  | none =>
    rw [hr] at h2
    have h3 := h1.2 hr
    exact ⟨fun _ => h2, fun h => absurd h3 h⟩
  | some ls =>
    obtain ⟨l, st⟩ := ls
    rw [hr] at h2
    have h2 : on (s : Int) = st.2.2.2 := h2
    obtain ⟨e1, e2, e3, e4, e5, e6⟩ := h1.1 l st hr
    refine ⟨fun h => by omega, fun _ => ?_⟩
    rw [h2, show 49 + 11 * s = 47 + 11 * s + 2 by omega, show 50 + 11 * s = 47 + 11 * s + 3 by omega]
    exact ⟨e5, e6⟩
def xGF (M0 M : Nat → mq_C) : Prop := (∀ b, b ≠ 8 → b ≠ 42 → b ≠ 43 → M b = M0 b) ∧ ∀ j, j ≠ 10 → hv M 8 j = hv M0 8 j
theorem xGF_r {M : Nat → mq_C} : xGF M M := ⟨fun _ _ _ _ => rfl, fun _ _ => rfl⟩
theorem xGF_t {M0 M M' : Nat → mq_C} (h : xGF M0 M) (h' : xGF M M') : xGF M0 M' := ⟨fun b p q r => (h'.1 b p q r).trans (h.1 b p q r), fun j hj => (h'.2 j hj).trans (h.2 j hj)⟩
theorem xGF_p {M M' : Nat → mq_C} (h : hp_FP M M') : xGF M M' := ⟨fun b p q _ => hp_FPc h p q, h.2⟩
theorem xGF_47 {M M' : Nat → mq_C} (h : xGF M M') : ∀ b, 47 ≤ b → b ≤ 90 → M' b = M b := fun b p q => h.1 b (by omega) (by omega) (by omega)
def xFL (M : Nat → mq_C) (acc : List Int) : Prop := ∀ j, j < acc.length → hv M 43 j = acc.getD j 0
theorem xq_pl47 {d z u : Nat} {M : Nat → mq_C} {Q : (Option Value ⊕ Nat) → mq_S → Prop} {x1 x2 : Int32} (hm : mz_sh mz_GG M) (hE : xEX 47 (hv M 48) (hv M 47 1).toNat M) (h1 : x1.toInt = 0) (h0 : 0 ≤ x2.toInt) (K : ∀ r : Int32, r.toInt = xpla (xrd (hv M 48) (hv M 47 1).toNat) x2 0 → -1 ≤ r.toInt → r.toInt ≤ 31 → Q (.inl (some (.int r))) (M, z, u)) : mq_R mq_PP (d + 2) 31 0 [some (.ref 8), some (.int x1), some (.int x2), none] [] (M, z, u) Q := by
  cases hrd : xrd (hv M 48) (hv M 47 1).toNat with
  | none =>
    rw [hrd] at K
    have hz2 := hE.2 hrd
    refine he_aload (n := 1) (i := 0) (by decide +kernel) rfl ?_
    refine he_getr (n := 4) (ci := 0) (j := 2) (ns := [2079, 25]) (b := 37) hm (by decide +kernel) rfl rfl (by decide +kernel) ?_
    refine he_iload (n := 5) (i := 1) (by decide +kernel) rfl ?_
    refine he_aald (n := 6) (kind := 71) (b := 47) hm (by decide +kernel) rfl rfl (by decide) (by omega) (by rw [show x1.toInt.toNat = 0 by omega]; decide +kernel) ?_
    refine hb_gfd (n := 9) (ci := 1) (j := 2) (ns := [1221, 220]) hm (by decide +kernel) rfl rfl (by decide) rfl ?_
    intro v6 hv6 lv6 uv6
    refine he_ifeq_t (n := 12) (t := 25) (by decide +kernel) (by omega) ?_
    refine he_iconst (n := 26) (c := -1) (by decide +kernel) (by decide) ?_
    intro c25 hc25
    refine he_istore (n := 27) (i := 3) (by decide +kernel) rfl ?_
    refine he_iload (n := 28) (i := 3) (by decide +kernel) rfl ?_
    refine he_iconst (n := 29) (c := -1) (by decide +kernel) (by decide) ?_
    intro c28 hc28
    refine he_cmpne_f (n := 32) (t := 36) (by decide +kernel) (by omega) ?_
    refine he_iconst (n := 33) (c := -1) (by decide +kernel) (by decide) ?_
    intro c32 hc32
    refine he_goto (t := 42) (by decide +kernel) ?_
    refine he_reti (by decide +kernel) ?_
    exact K _ (by show _ = (-1 : Int); omega) (by omega) (by omega)
  | some ls =>
    obtain ⟨l, s⟩ := ls
    rw [hrd] at K
    obtain ⟨e1, e2, e3, e4, e5, e6⟩ := hE.1 l s hrd
    have K : ∀ r : Int32, r.toInt = (if xrfor (fun i => (l.getD i xd0).1) l.length s.2.2.1 x2 = -1 then -1 else 8 * 0 + xrfor (fun i => (l.getD i xd0).1) l.length s.2.2.1 x2) → -1 ≤ r.toInt → r.toInt ≤ 31 → Q (.inl (some (.int r))) (M, z, u) := K
    have hl6 := (xx_rng (c := _) hm (a := 47) (i := 4) (lo := 0) (hi := 6) rfl (by decide) rfl).2
    refine he_aload (n := 1) (i := 0) (by decide +kernel) rfl ?_
    refine he_getr (n := 4) (ci := 0) (j := 2) (ns := [2079, 25]) (b := 37) hm (by decide +kernel) rfl rfl (by decide +kernel) ?_
    refine he_iload (n := 5) (i := 1) (by decide +kernel) rfl ?_
    refine he_aald (n := 6) (kind := 71) (b := 47) hm (by decide +kernel) rfl rfl (by decide) (by omega) (by rw [show x1.toInt.toNat = 0 by omega]; decide +kernel) ?_
    refine hb_gfd (n := 9) (ci := 1) (j := 2) (ns := [1221, 220]) hm (by decide +kernel) rfl rfl (by decide) rfl ?_
    intro v6 hv6 lv6 uv6
    refine he_ifeq_f (n := 12) (t := 25) (by decide +kernel) (by omega) ?_
    refine he_aload (n := 13) (i := 0) (by decide +kernel) rfl ?_
    refine he_getr (n := 16) (ci := 0) (j := 2) (ns := [2079, 25]) (b := 37) hm (by decide +kernel) rfl rfl (by decide +kernel) ?_
    refine he_iload (n := 17) (i := 1) (by decide +kernel) rfl ?_
    refine he_aald (n := 18) (kind := 71) (b := 47) hm (by decide +kernel) rfl rfl (by decide) (by omega) (by rw [show x1.toInt.toNat = 0 by omega]; decide +kernel) ?_
    refine he_iload (n := 19) (i := 2) (by decide +kernel) rfl ?_
    refine he_v1 (n := 22) (j := 50) (ci := 1) (mx := 3) (ns := [3144, 3145, 3146, 246]) (by decide +kernel) ((hb_kd (a := 47) hm rfl).trans rfl) (by show 0 ≤ 8; omega) (by show 2 ≤ 3; omega) ?_
    rw [mq_e50]
    refine xo_rf47 (d := d) (n := l.length) hm e2 h0 ?_
    intro r hr
    show mq_R mq_PP (d + 2) 31 22 _ [.int r] (M, z, u) Q
    have hc : xrfor (hv M 52) l.length (hv M 49 0) x2 = xrfor (fun i => (l.getD i xd0).1) l.length s.2.2.1 x2 := by
      have e4 : hv M 49 0 = s.2.2.1 := e4
      rw [e4]
      exact xrfor_c (fun i hi => congrArg Prod.fst (e3 i hi))
    rw [hc] at hr
    have hb := xrfor_r (f := fun i => (l.getD i xd0).1) (n := l.length) (vb := s.2.2.1) (x := x2)
    rw [← hr] at K hb
    by_cases g : r.toInt = -1
    · rw [if_pos g] at K
      refine he_goto (t := 26) (by decide +kernel) ?_
      refine he_istore (n := 27) (i := 3) (by decide +kernel) rfl ?_
      refine he_iload (n := 28) (i := 3) (by decide +kernel) rfl ?_
      refine he_iconst (n := 29) (c := -1) (by decide +kernel) (by decide) ?_
      intro cb28 hcb28
      refine he_cmpne_f (n := 32) (t := 36) (by decide +kernel) (by omega) ?_
      refine he_iconst (n := 33) (c := -1) (by decide +kernel) (by decide) ?_
      intro cb32 hcb32
      refine he_goto (t := 42) (by decide +kernel) ?_
      refine he_reti (by decide +kernel) ?_
      exact K _ (by omega) (by omega) (by omega)
    · rw [if_neg g] at K
      refine he_goto (t := 26) (by decide +kernel) ?_
      refine he_istore (n := 27) (i := 3) (by decide +kernel) rfl ?_
      refine he_iload (n := 28) (i := 3) (by decide +kernel) rfl ?_
      refine he_iconst (n := 29) (c := -1) (by decide +kernel) (by decide) ?_
      intro cb28 hcb28
      refine he_cmpne_t (n := 32) (t := 36) (by decide +kernel) (by omega) ?_
      refine he_iconst (n := 38) (c := 8) (by decide +kernel) (by decide) ?_
      intro cb36 hcb36
      refine he_iload (n := 39) (i := 1) (by decide +kernel) rfl ?_
      refine he_imul (n := 40) (p := 8 * x1.toInt) (by decide +kernel) (by rw [hcb36]) (by omega) (by omega) ?_
      intro vb39 hvb39
      refine he_iload (n := 41) (i := 3) (by decide +kernel) rfl ?_
      refine he_iadd (n := 42) (by decide +kernel) (by omega) (by omega) ?_
      intro vb41 hvb41
      refine he_reti (by decide +kernel) ?_
      exact K _ (by omega) (by omega) (by omega)
theorem xq_pl58 {d z u : Nat} {M : Nat → mq_C} {Q : (Option Value ⊕ Nat) → mq_S → Prop} {x1 x2 : Int32} (hm : mz_sh mz_GG M) (hE : xEX 58 (hv M 59) (hv M 58 1).toNat M) (h1 : x1.toInt = 1) (h0 : 0 ≤ x2.toInt) (K : ∀ r : Int32, r.toInt = xpla (xrd (hv M 59) (hv M 58 1).toNat) x2 1 → -1 ≤ r.toInt → r.toInt ≤ 31 → Q (.inl (some (.int r))) (M, z, u)) : mq_R mq_PP (d + 2) 31 0 [some (.ref 8), some (.int x1), some (.int x2), none] [] (M, z, u) Q := by
  cases hrd : xrd (hv M 59) (hv M 58 1).toNat with
  | none =>
    rw [hrd] at K
    have hz2 := hE.2 hrd
    refine he_aload (n := 1) (i := 0) (by decide +kernel) rfl ?_
    refine he_getr (n := 4) (ci := 0) (j := 2) (ns := [2079, 25]) (b := 37) hm (by decide +kernel) rfl rfl (by decide +kernel) ?_
    refine he_iload (n := 5) (i := 1) (by decide +kernel) rfl ?_
    refine he_aald (n := 6) (kind := 71) (b := 58) hm (by decide +kernel) rfl rfl (by decide) (by omega) (by rw [show x1.toInt.toNat = 1 by omega]; decide +kernel) ?_
    refine hb_gfd (n := 9) (ci := 1) (j := 2) (ns := [1221, 220]) hm (by decide +kernel) rfl rfl (by decide) rfl ?_
    intro v6 hv6 lv6 uv6
    refine he_ifeq_t (n := 12) (t := 25) (by decide +kernel) (by omega) ?_
    refine he_iconst (n := 26) (c := -1) (by decide +kernel) (by decide) ?_
    intro c25 hc25
    refine he_istore (n := 27) (i := 3) (by decide +kernel) rfl ?_
    refine he_iload (n := 28) (i := 3) (by decide +kernel) rfl ?_
    refine he_iconst (n := 29) (c := -1) (by decide +kernel) (by decide) ?_
    intro c28 hc28
    refine he_cmpne_f (n := 32) (t := 36) (by decide +kernel) (by omega) ?_
    refine he_iconst (n := 33) (c := -1) (by decide +kernel) (by decide) ?_
    intro c32 hc32
    refine he_goto (t := 42) (by decide +kernel) ?_
    refine he_reti (by decide +kernel) ?_
    exact K _ (by show _ = (-1 : Int); omega) (by omega) (by omega)
  | some ls =>
    obtain ⟨l, s⟩ := ls
    rw [hrd] at K
    obtain ⟨e1, e2, e3, e4, e5, e6⟩ := hE.1 l s hrd
    have K : ∀ r : Int32, r.toInt = (if xrfor (fun i => (l.getD i xd0).1) l.length s.2.2.1 x2 = -1 then -1 else 8 * 1 + xrfor (fun i => (l.getD i xd0).1) l.length s.2.2.1 x2) → -1 ≤ r.toInt → r.toInt ≤ 31 → Q (.inl (some (.int r))) (M, z, u) := K
    have hl6 := (xx_rng (c := _) hm (a := 58) (i := 4) (lo := 0) (hi := 6) rfl (by decide) rfl).2
    refine he_aload (n := 1) (i := 0) (by decide +kernel) rfl ?_
    refine he_getr (n := 4) (ci := 0) (j := 2) (ns := [2079, 25]) (b := 37) hm (by decide +kernel) rfl rfl (by decide +kernel) ?_
    refine he_iload (n := 5) (i := 1) (by decide +kernel) rfl ?_
    refine he_aald (n := 6) (kind := 71) (b := 58) hm (by decide +kernel) rfl rfl (by decide) (by omega) (by rw [show x1.toInt.toNat = 1 by omega]; decide +kernel) ?_
    refine hb_gfd (n := 9) (ci := 1) (j := 2) (ns := [1221, 220]) hm (by decide +kernel) rfl rfl (by decide) rfl ?_
    intro v6 hv6 lv6 uv6
    refine he_ifeq_f (n := 12) (t := 25) (by decide +kernel) (by omega) ?_
    refine he_aload (n := 13) (i := 0) (by decide +kernel) rfl ?_
    refine he_getr (n := 16) (ci := 0) (j := 2) (ns := [2079, 25]) (b := 37) hm (by decide +kernel) rfl rfl (by decide +kernel) ?_
    refine he_iload (n := 17) (i := 1) (by decide +kernel) rfl ?_
    refine he_aald (n := 18) (kind := 71) (b := 58) hm (by decide +kernel) rfl rfl (by decide) (by omega) (by rw [show x1.toInt.toNat = 1 by omega]; decide +kernel) ?_
    refine he_iload (n := 19) (i := 2) (by decide +kernel) rfl ?_
    refine he_v1 (n := 22) (j := 50) (ci := 1) (mx := 3) (ns := [3144, 3145, 3146, 246]) (by decide +kernel) ((hb_kd (a := 58) hm rfl).trans rfl) (by show 0 ≤ 8; omega) (by show 2 ≤ 3; omega) ?_
    rw [mq_e50]
    refine xo_rf58 (d := d) (n := l.length) hm e2 h0 ?_
    intro r hr
    show mq_R mq_PP (d + 2) 31 22 _ [.int r] (M, z, u) Q
    have hc : xrfor (hv M 63) l.length (hv M 60 0) x2 = xrfor (fun i => (l.getD i xd0).1) l.length s.2.2.1 x2 := by
      have e4 : hv M 60 0 = s.2.2.1 := e4
      rw [e4]
      exact xrfor_c (fun i hi => congrArg Prod.fst (e3 i hi))
    rw [hc] at hr
    have hb := xrfor_r (f := fun i => (l.getD i xd0).1) (n := l.length) (vb := s.2.2.1) (x := x2)
    rw [← hr] at K hb
    by_cases g : r.toInt = -1
    · rw [if_pos g] at K
      refine he_goto (t := 26) (by decide +kernel) ?_
      refine he_istore (n := 27) (i := 3) (by decide +kernel) rfl ?_
      refine he_iload (n := 28) (i := 3) (by decide +kernel) rfl ?_
      refine he_iconst (n := 29) (c := -1) (by decide +kernel) (by decide) ?_
      intro cb28 hcb28
      refine he_cmpne_f (n := 32) (t := 36) (by decide +kernel) (by omega) ?_
      refine he_iconst (n := 33) (c := -1) (by decide +kernel) (by decide) ?_
      intro cb32 hcb32
      refine he_goto (t := 42) (by decide +kernel) ?_
      refine he_reti (by decide +kernel) ?_
      exact K _ (by omega) (by omega) (by omega)
    · rw [if_neg g] at K
      refine he_goto (t := 26) (by decide +kernel) ?_
      refine he_istore (n := 27) (i := 3) (by decide +kernel) rfl ?_
      refine he_iload (n := 28) (i := 3) (by decide +kernel) rfl ?_
      refine he_iconst (n := 29) (c := -1) (by decide +kernel) (by decide) ?_
      intro cb28 hcb28
      refine he_cmpne_t (n := 32) (t := 36) (by decide +kernel) (by omega) ?_
      refine he_iconst (n := 38) (c := 8) (by decide +kernel) (by decide) ?_
      intro cb36 hcb36
      refine he_iload (n := 39) (i := 1) (by decide +kernel) rfl ?_
      refine he_imul (n := 40) (p := 8 * x1.toInt) (by decide +kernel) (by rw [hcb36]) (by omega) (by omega) ?_
      intro vb39 hvb39
      refine he_iload (n := 41) (i := 3) (by decide +kernel) rfl ?_
      refine he_iadd (n := 42) (by decide +kernel) (by omega) (by omega) ?_
      intro vb41 hvb41
      refine he_reti (by decide +kernel) ?_
      exact K _ (by omega) (by omega) (by omega)
theorem xq_pl69 {d z u : Nat} {M : Nat → mq_C} {Q : (Option Value ⊕ Nat) → mq_S → Prop} {x1 x2 : Int32} (hm : mz_sh mz_GG M) (hE : xEX 69 (hv M 70) (hv M 69 1).toNat M) (h1 : x1.toInt = 2) (h0 : 0 ≤ x2.toInt) (K : ∀ r : Int32, r.toInt = xpla (xrd (hv M 70) (hv M 69 1).toNat) x2 2 → -1 ≤ r.toInt → r.toInt ≤ 31 → Q (.inl (some (.int r))) (M, z, u)) : mq_R mq_PP (d + 2) 31 0 [some (.ref 8), some (.int x1), some (.int x2), none] [] (M, z, u) Q := by
  cases hrd : xrd (hv M 70) (hv M 69 1).toNat with
  | none =>
    rw [hrd] at K
    have hz2 := hE.2 hrd
    refine he_aload (n := 1) (i := 0) (by decide +kernel) rfl ?_
    refine he_getr (n := 4) (ci := 0) (j := 2) (ns := [2079, 25]) (b := 37) hm (by decide +kernel) rfl rfl (by decide +kernel) ?_
    refine he_iload (n := 5) (i := 1) (by decide +kernel) rfl ?_
    refine he_aald (n := 6) (kind := 71) (b := 69) hm (by decide +kernel) rfl rfl (by decide) (by omega) (by rw [show x1.toInt.toNat = 2 by omega]; decide +kernel) ?_
    refine hb_gfd (n := 9) (ci := 1) (j := 2) (ns := [1221, 220]) hm (by decide +kernel) rfl rfl (by decide) rfl ?_
    intro v6 hv6 lv6 uv6
    refine he_ifeq_t (n := 12) (t := 25) (by decide +kernel) (by omega) ?_
    refine he_iconst (n := 26) (c := -1) (by decide +kernel) (by decide) ?_
    intro c25 hc25
    refine he_istore (n := 27) (i := 3) (by decide +kernel) rfl ?_
    refine he_iload (n := 28) (i := 3) (by decide +kernel) rfl ?_
    refine he_iconst (n := 29) (c := -1) (by decide +kernel) (by decide) ?_
    intro c28 hc28
    refine he_cmpne_f (n := 32) (t := 36) (by decide +kernel) (by omega) ?_
    refine he_iconst (n := 33) (c := -1) (by decide +kernel) (by decide) ?_
    intro c32 hc32
    refine he_goto (t := 42) (by decide +kernel) ?_
    refine he_reti (by decide +kernel) ?_
    exact K _ (by show _ = (-1 : Int); omega) (by omega) (by omega)
  | some ls =>
    obtain ⟨l, s⟩ := ls
    rw [hrd] at K
    obtain ⟨e1, e2, e3, e4, e5, e6⟩ := hE.1 l s hrd
    have K : ∀ r : Int32, r.toInt = (if xrfor (fun i => (l.getD i xd0).1) l.length s.2.2.1 x2 = -1 then -1 else 8 * 2 + xrfor (fun i => (l.getD i xd0).1) l.length s.2.2.1 x2) → -1 ≤ r.toInt → r.toInt ≤ 31 → Q (.inl (some (.int r))) (M, z, u) := K
    have hl6 := (xx_rng (c := _) hm (a := 69) (i := 4) (lo := 0) (hi := 6) rfl (by decide) rfl).2
    refine he_aload (n := 1) (i := 0) (by decide +kernel) rfl ?_
    refine he_getr (n := 4) (ci := 0) (j := 2) (ns := [2079, 25]) (b := 37) hm (by decide +kernel) rfl rfl (by decide +kernel) ?_
    refine he_iload (n := 5) (i := 1) (by decide +kernel) rfl ?_
    refine he_aald (n := 6) (kind := 71) (b := 69) hm (by decide +kernel) rfl rfl (by decide) (by omega) (by rw [show x1.toInt.toNat = 2 by omega]; decide +kernel) ?_
    refine hb_gfd (n := 9) (ci := 1) (j := 2) (ns := [1221, 220]) hm (by decide +kernel) rfl rfl (by decide) rfl ?_
    intro v6 hv6 lv6 uv6
    refine he_ifeq_f (n := 12) (t := 25) (by decide +kernel) (by omega) ?_
    refine he_aload (n := 13) (i := 0) (by decide +kernel) rfl ?_
    refine he_getr (n := 16) (ci := 0) (j := 2) (ns := [2079, 25]) (b := 37) hm (by decide +kernel) rfl rfl (by decide +kernel) ?_
    refine he_iload (n := 17) (i := 1) (by decide +kernel) rfl ?_
    refine he_aald (n := 18) (kind := 71) (b := 69) hm (by decide +kernel) rfl rfl (by decide) (by omega) (by rw [show x1.toInt.toNat = 2 by omega]; decide +kernel) ?_
    refine he_iload (n := 19) (i := 2) (by decide +kernel) rfl ?_
    refine he_v1 (n := 22) (j := 50) (ci := 1) (mx := 3) (ns := [3144, 3145, 3146, 246]) (by decide +kernel) ((hb_kd (a := 69) hm rfl).trans rfl) (by show 0 ≤ 8; omega) (by show 2 ≤ 3; omega) ?_
    rw [mq_e50]
    refine xo_rf69 (d := d) (n := l.length) hm e2 h0 ?_
    intro r hr
    show mq_R mq_PP (d + 2) 31 22 _ [.int r] (M, z, u) Q
    have hc : xrfor (hv M 74) l.length (hv M 71 0) x2 = xrfor (fun i => (l.getD i xd0).1) l.length s.2.2.1 x2 := by
      have e4 : hv M 71 0 = s.2.2.1 := e4
      rw [e4]
      exact xrfor_c (fun i hi => congrArg Prod.fst (e3 i hi))
    rw [hc] at hr
    have hb := xrfor_r (f := fun i => (l.getD i xd0).1) (n := l.length) (vb := s.2.2.1) (x := x2)
    rw [← hr] at K hb
    by_cases g : r.toInt = -1
    · rw [if_pos g] at K
      refine he_goto (t := 26) (by decide +kernel) ?_
      refine he_istore (n := 27) (i := 3) (by decide +kernel) rfl ?_
      refine he_iload (n := 28) (i := 3) (by decide +kernel) rfl ?_
      refine he_iconst (n := 29) (c := -1) (by decide +kernel) (by decide) ?_
      intro cb28 hcb28
      refine he_cmpne_f (n := 32) (t := 36) (by decide +kernel) (by omega) ?_
      refine he_iconst (n := 33) (c := -1) (by decide +kernel) (by decide) ?_
      intro cb32 hcb32
      refine he_goto (t := 42) (by decide +kernel) ?_
      refine he_reti (by decide +kernel) ?_
      exact K _ (by omega) (by omega) (by omega)
    · rw [if_neg g] at K
      refine he_goto (t := 26) (by decide +kernel) ?_
      refine he_istore (n := 27) (i := 3) (by decide +kernel) rfl ?_
      refine he_iload (n := 28) (i := 3) (by decide +kernel) rfl ?_
      refine he_iconst (n := 29) (c := -1) (by decide +kernel) (by decide) ?_
      intro cb28 hcb28
      refine he_cmpne_t (n := 32) (t := 36) (by decide +kernel) (by omega) ?_
      refine he_iconst (n := 38) (c := 8) (by decide +kernel) (by decide) ?_
      intro cb36 hcb36
      refine he_iload (n := 39) (i := 1) (by decide +kernel) rfl ?_
      refine he_imul (n := 40) (p := 8 * x1.toInt) (by decide +kernel) (by rw [hcb36]) (by omega) (by omega) ?_
      intro vb39 hvb39
      refine he_iload (n := 41) (i := 3) (by decide +kernel) rfl ?_
      refine he_iadd (n := 42) (by decide +kernel) (by omega) (by omega) ?_
      intro vb41 hvb41
      refine he_reti (by decide +kernel) ?_
      exact K _ (by omega) (by omega) (by omega)
theorem xq_pl80 {d z u : Nat} {M : Nat → mq_C} {Q : (Option Value ⊕ Nat) → mq_S → Prop} {x1 x2 : Int32} (hm : mz_sh mz_GG M) (hE : xEX 80 (hv M 81) (hv M 80 1).toNat M) (h1 : x1.toInt = 3) (h0 : 0 ≤ x2.toInt) (K : ∀ r : Int32, r.toInt = xpla (xrd (hv M 81) (hv M 80 1).toNat) x2 3 → -1 ≤ r.toInt → r.toInt ≤ 31 → Q (.inl (some (.int r))) (M, z, u)) : mq_R mq_PP (d + 2) 31 0 [some (.ref 8), some (.int x1), some (.int x2), none] [] (M, z, u) Q := by
  cases hrd : xrd (hv M 81) (hv M 80 1).toNat with
  | none =>
    rw [hrd] at K
    have hz2 := hE.2 hrd
    refine he_aload (n := 1) (i := 0) (by decide +kernel) rfl ?_
    refine he_getr (n := 4) (ci := 0) (j := 2) (ns := [2079, 25]) (b := 37) hm (by decide +kernel) rfl rfl (by decide +kernel) ?_
    refine he_iload (n := 5) (i := 1) (by decide +kernel) rfl ?_
    refine he_aald (n := 6) (kind := 71) (b := 80) hm (by decide +kernel) rfl rfl (by decide) (by omega) (by rw [show x1.toInt.toNat = 3 by omega]; decide +kernel) ?_
    refine hb_gfd (n := 9) (ci := 1) (j := 2) (ns := [1221, 220]) hm (by decide +kernel) rfl rfl (by decide) rfl ?_
    intro v6 hv6 lv6 uv6
    refine he_ifeq_t (n := 12) (t := 25) (by decide +kernel) (by omega) ?_
    refine he_iconst (n := 26) (c := -1) (by decide +kernel) (by decide) ?_
    intro c25 hc25
    refine he_istore (n := 27) (i := 3) (by decide +kernel) rfl ?_
    refine he_iload (n := 28) (i := 3) (by decide +kernel) rfl ?_
    refine he_iconst (n := 29) (c := -1) (by decide +kernel) (by decide) ?_
    intro c28 hc28
    refine he_cmpne_f (n := 32) (t := 36) (by decide +kernel) (by omega) ?_
    refine he_iconst (n := 33) (c := -1) (by decide +kernel) (by decide) ?_
    intro c32 hc32
    refine he_goto (t := 42) (by decide +kernel) ?_
    refine he_reti (by decide +kernel) ?_
    exact K _ (by show _ = (-1 : Int); omega) (by omega) (by omega)
  | some ls =>
    obtain ⟨l, s⟩ := ls
    rw [hrd] at K
    obtain ⟨e1, e2, e3, e4, e5, e6⟩ := hE.1 l s hrd
    have K : ∀ r : Int32, r.toInt = (if xrfor (fun i => (l.getD i xd0).1) l.length s.2.2.1 x2 = -1 then -1 else 8 * 3 + xrfor (fun i => (l.getD i xd0).1) l.length s.2.2.1 x2) → -1 ≤ r.toInt → r.toInt ≤ 31 → Q (.inl (some (.int r))) (M, z, u) := K
    have hl6 := (xx_rng (c := _) hm (a := 80) (i := 4) (lo := 0) (hi := 6) rfl (by decide) rfl).2
    refine he_aload (n := 1) (i := 0) (by decide +kernel) rfl ?_
    refine he_getr (n := 4) (ci := 0) (j := 2) (ns := [2079, 25]) (b := 37) hm (by decide +kernel) rfl rfl (by decide +kernel) ?_
    refine he_iload (n := 5) (i := 1) (by decide +kernel) rfl ?_
    refine he_aald (n := 6) (kind := 71) (b := 80) hm (by decide +kernel) rfl rfl (by decide) (by omega) (by rw [show x1.toInt.toNat = 3 by omega]; decide +kernel) ?_
    refine hb_gfd (n := 9) (ci := 1) (j := 2) (ns := [1221, 220]) hm (by decide +kernel) rfl rfl (by decide) rfl ?_
    intro v6 hv6 lv6 uv6
    refine he_ifeq_f (n := 12) (t := 25) (by decide +kernel) (by omega) ?_
    refine he_aload (n := 13) (i := 0) (by decide +kernel) rfl ?_
    refine he_getr (n := 16) (ci := 0) (j := 2) (ns := [2079, 25]) (b := 37) hm (by decide +kernel) rfl rfl (by decide +kernel) ?_
    refine he_iload (n := 17) (i := 1) (by decide +kernel) rfl ?_
    refine he_aald (n := 18) (kind := 71) (b := 80) hm (by decide +kernel) rfl rfl (by decide) (by omega) (by rw [show x1.toInt.toNat = 3 by omega]; decide +kernel) ?_
    refine he_iload (n := 19) (i := 2) (by decide +kernel) rfl ?_
    refine he_v1 (n := 22) (j := 50) (ci := 1) (mx := 3) (ns := [3144, 3145, 3146, 246]) (by decide +kernel) ((hb_kd (a := 80) hm rfl).trans rfl) (by show 0 ≤ 8; omega) (by show 2 ≤ 3; omega) ?_
    rw [mq_e50]
    refine xo_rf80 (d := d) (n := l.length) hm e2 h0 ?_
    intro r hr
    show mq_R mq_PP (d + 2) 31 22 _ [.int r] (M, z, u) Q
    have hc : xrfor (hv M 85) l.length (hv M 82 0) x2 = xrfor (fun i => (l.getD i xd0).1) l.length s.2.2.1 x2 := by
      have e4 : hv M 82 0 = s.2.2.1 := e4
      rw [e4]
      exact xrfor_c (fun i hi => congrArg Prod.fst (e3 i hi))
    rw [hc] at hr
    have hb := xrfor_r (f := fun i => (l.getD i xd0).1) (n := l.length) (vb := s.2.2.1) (x := x2)
    rw [← hr] at K hb
    by_cases g : r.toInt = -1
    · rw [if_pos g] at K
      refine he_goto (t := 26) (by decide +kernel) ?_
      refine he_istore (n := 27) (i := 3) (by decide +kernel) rfl ?_
      refine he_iload (n := 28) (i := 3) (by decide +kernel) rfl ?_
      refine he_iconst (n := 29) (c := -1) (by decide +kernel) (by decide) ?_
      intro cb28 hcb28
      refine he_cmpne_f (n := 32) (t := 36) (by decide +kernel) (by omega) ?_
      refine he_iconst (n := 33) (c := -1) (by decide +kernel) (by decide) ?_
      intro cb32 hcb32
      refine he_goto (t := 42) (by decide +kernel) ?_
      refine he_reti (by decide +kernel) ?_
      exact K _ (by omega) (by omega) (by omega)
    · rw [if_neg g] at K
      refine he_goto (t := 26) (by decide +kernel) ?_
      refine he_istore (n := 27) (i := 3) (by decide +kernel) rfl ?_
      refine he_iload (n := 28) (i := 3) (by decide +kernel) rfl ?_
      refine he_iconst (n := 29) (c := -1) (by decide +kernel) (by decide) ?_
      intro cb28 hcb28
      refine he_cmpne_t (n := 32) (t := 36) (by decide +kernel) (by omega) ?_
      refine he_iconst (n := 38) (c := 8) (by decide +kernel) (by decide) ?_
      intro cb36 hcb36
      refine he_iload (n := 39) (i := 1) (by decide +kernel) rfl ?_
      refine he_imul (n := 40) (p := 8 * x1.toInt) (by decide +kernel) (by rw [hcb36]) (by omega) (by omega) ?_
      intro vb39 hvb39
      refine he_iload (n := 41) (i := 3) (by decide +kernel) rfl ?_
      refine he_iadd (n := 42) (by decide +kernel) (by omega) (by omega) ?_
      intro vb41 hvb41
      refine he_reti (by decide +kernel) ?_
      exact K _ (by omega) (by omega) (by omega)
theorem xq_pl {d z u : Nat} {M : Nat → mq_C} {Q : (Option Value ⊕ Nat) → mq_S → Prop} {s : Nat} {x1 x2 : Int32} (hs : s < 4) (hm : mz_sh mz_GG M) (hE : xEA M) (h1 : x1.toInt = (s : Int)) (h0 : 0 ≤ x2.toInt) (K : ∀ r : Int32, r.toInt = xpla (xrd (xcbt M s) (xcl M s)) x2 (s : Int) → -1 ≤ r.toInt → r.toInt ≤ 31 → Q (.inl (some (.int r))) (M, z, u)) : mq_R mq_PP (d + 2) 31 0 [some (.ref 8), some (.int x1), some (.int x2), none] [] (M, z, u) Q := by
  have h4 : s = 0 ∨ s = 1 ∨ s = 2 ∨ s = 3 := by omega
  rcases h4 with rfl | rfl | rfl | rfl
  · exact xq_pl47 hm (hE 0 (by decide)) (by omega) h0 K
  · exact xq_pl58 hm (hE 1 (by decide)) (by omega) h0 K
  · exact xq_pl69 hm (hE 2 (by decide)) (by omega) h0 K
  · exact xq_pl80 hm (hE 3 (by decide)) (by omega) h0 K
theorem xq_al {d z u b : Nat} {Q : (Option Value ⊕ Nat) → mq_S → Prop} {M0 : Nat → mq_C} {f : Int → Int} {x2 x4 : Int32} {v acc : List Int} (h0 : 0 ≤ x2.toInt) (hE : xEA M0) (hf : xFf f x2 M0) (hv4 : xgv v) (ha : acc.length ≤ 12) (K : ∀ (M' : Nat → mq_C) (r : Int32), mz_sh mz_GG M' → xGF M0 M' → xFL M' (acc ++ xpl f v) → r.toInt = ((acc ++ xpl f v).length : Int) → Q (.inl (some (.int r))) (M', z, u)) :
    ∀ (m : Nat) (M : Nat → mq_C) (x5 x6 : Int32) (o7 : Option Value) (i : Nat), i + m = v.length → x6.toInt = (i : Int) → x5.toInt = ((acc ++ xpl f (v.take i)).length : Int) → mz_sh mz_GG M → xPV M v → xGF M0 M → xFL M (acc ++ xpl f (v.take i)) → mq_R mq_PP (d + 3) 34 12 [some (.ref 8), some (.ref b), some (.int x2), some (.ref 43), some (.int x4), some (.int x5), some (.int x6), o7] [] (M, z, u) Q := by
  intro m
  induction m with
  | zero =>
    intro M x5 x6 o7 i e1 e2 e5 hm hp hg hL
    have hp1 := hp.1
    refine he_iload (n := 14) (i := 6) (by decide +kernel) rfl ?_
    refine he_aload (n := 15) (i := 0) (by decide +kernel) rfl ?_
    refine hb_gfd (n := 18) (ci := 0) (j := 10) (ns := [2087, 58]) hm (by decide +kernel) rfl rfl (by decide) rfl ?_
    intro v15 hv15 lv15 uv15
    refine he_cmpge_t (n := 21) (t := 63) (by decide +kernel) (by omega) ?_
    refine he_iload (n := 65) (i := 5) (by decide +kernel) rfl ?_
    refine he_reti (by decide +kernel) ?_
    rw [List.take_of_length_le (by omega)] at hL e5
    exact K M _ hm hg hL e5
  | succ m ih =>
    intro M x5 x6 o7 i e1 e2 e5 hm hp hg hL
    have hp1 := hp.1
    have hl4 := hv4.1
    have hal : (acc ++ xpl f (v.take i)).length ≤ acc.length + i := by
      have h1 := xpl_len (f := f) (v.take i)
      rw [List.length_take] at h1
      rw [List.length_append]
      omega
    refine he_iload (n := 14) (i := 6) (by decide +kernel) rfl ?_
    refine he_aload (n := 15) (i := 0) (by decide +kernel) rfl ?_
    refine hb_gfd (n := 18) (ci := 0) (j := 10) (ns := [2087, 58]) hm (by decide +kernel) rfl rfl (by decide) rfl ?_
    intro v15 hv15 lv15 uv15
    refine he_cmpge_f (n := 21) (t := 63) (by decide +kernel) (by omega) ?_
    refine he_iload (n := 23) (i := 5) (by decide +kernel) rfl ?_
    refine he_iconst (n := 25) (c := 16) (by decide +kernel) (by decide) ?_
    intro c23 hc23
    refine he_cmpge_f (n := 28) (t := 63) (by decide +kernel) (by omega) ?_
    refine he_aload (n := 29) (i := 0) (by decide +kernel) rfl ?_
    refine he_aload (n := 30) (i := 0) (by decide +kernel) rfl ?_
    refine he_getr (n := 33) (ci := 0) (j := 9) (ns := [2086, 55]) (b := 42) hm (by decide +kernel) rfl rfl (by decide +kernel) ?_
    refine he_iload (n := 35) (i := 6) (by decide +kernel) rfl ?_
    refine hb_ld (n := 36) (kind := 64) hm (by decide +kernel) rfl rfl (.inl rfl) (by omega) (show _ < (4 : Int) by omega) hb_at1 ?_
    intro v35 hv35 lv35 uv35
    refine he_iload (n := 37) (i := 2) (by decide +kernel) rfl ?_
    have q35 : v35.toInt = v.getD i 0 := by rw [← hv35, show x6.toInt.toNat = i by omega]; exact hp.2 i (by omega)
    have hx := hv4.2.1 _ (xo_gdm (v := v) (j := i) (by omega))
    rw [← q35] at hx
    have k47 := xGF_47 hg
    have htk : v.take (i + 1) = v.take i ++ [v35.toInt] := by rw [q35]; exact xo_tk (by omega)
    have hxp : xpl f (v.take (i + 1)) = xpl f (v.take i) ++ xpl f [v35.toInt] := by rw [htk, xpl_app]
    refine he_v2 (n := 40) (j := 31) (ci := 0) (mx := 4) (ns := [3140, 3142, 33, 260]) (by decide +kernel) ((hb_kd (a := 8) hm rfl).trans rfl) (by show 0 ≤ 8; omega) (by show 3 ≤ 4; omega) ?_
    rw [mq_e31]
    refine xq_pl (d := d) (s := v35.toInt.toNat) (by omega) hm (xEA_k k47 hE) (by omega) h0 ?_
    intro r hr rl ru
    show mq_R mq_PP (d + 3) 34 40 _ [.int r] (M, z, u) Q
    have hfr := xFf_k k47 hf v35.toInt.toNat (by omega)
    rw [← hr, show ((v35.toInt.toNat : Nat) : Int) = v35.toInt by omega] at hfr
    by_cases g : r.toInt = -1
    · rw [xpl_n (hfr.trans g), List.append_nil] at hxp
      refine he_istore (n := 42) (i := 7) (by decide +kernel) rfl ?_
      refine he_iload (n := 44) (i := 7) (by decide +kernel) rfl ?_
      refine he_iconst (n := 45) (c := -1) (by decide +kernel) (by decide) ?_
      intro cb44 hcb44
      refine he_cmpeq_t (n := 48) (t := 57) (by decide +kernel) (by omega) ?_
      refine he_iinc (n := 60) (i := 6) (c := 1) (L' := fun v => [some (.ref (8)), some (.ref (b)), some (.int x2), some (.ref (43)), some (.int x4), some (.int x5), some (.int v), some (.int r)]) (by decide +kernel) (by decide) rfl (fun _ => rfl) (by omega) (by omega) ?_
      intro ib57 hib57
      refine he_goto (t := 12) (by decide +kernel) ?_
      refine ih M x5 ib57 _ (i + 1) (by omega) (by omega) ?_ hm hp hg ?_
      · rw [hxp]; exact e5
      · rw [hxp]; exact hL
    · rw [xpl_s (by rw [hfr]; exact g), hfr] at hxp
      refine he_istore (n := 42) (i := 7) (by decide +kernel) rfl ?_
      refine he_iload (n := 44) (i := 7) (by decide +kernel) rfl ?_
      refine he_iconst (n := 45) (c := -1) (by decide +kernel) (by decide) ?_
      intro cb44 hcb44
      refine he_cmpeq_f (n := 48) (t := 57) (by decide +kernel) (by omega) ?_
      refine he_aload (n := 49) (i := 3) (by decide +kernel) rfl ?_
      refine he_iload (n := 51) (i := 5) (by decide +kernel) rfl ?_
      refine he_iload (n := 53) (i := 7) (by decide +kernel) rfl ?_
      refine hb_sta (n := 54) (kind := 64) hm (by decide +kernel) rfl rfl (.inl rfl) (by omega) (show _ < (16 : Int) by omega) ?_
      generalize hMb1 : hb_set M 43 (x5.toInt.toNat) r = Mb1
      have hmb1 : mz_sh mz_GG Mb1 := by rw [← hMb1]; exact hb_set_sh hm rfl hb_at1 (by omega) (by omega)
      have eMb1 : ∀ b j, b ≠ 43 ∨ j ≠ x5.toInt.toNat → hv Mb1 b j = hv M b j := by intro b j h; rw [← hMb1]; exact hb_set_n h
      have sMb1 : hv Mb1 43 (x5.toInt.toNat) = r.toInt := by rw [← hMb1]; exact hb_set_v hm rfl (show _ < 16 by omega)
      have wMb1 : ∀ b, b ≠ 43 → Mb1 b = M b := by intro b h; rw [← hMb1]; exact hb_set_c h
      refine he_iinc (n := 57) (i := 5) (c := 1) (L' := fun v => [some (.ref (8)), some (.ref (b)), some (.int x2), some (.ref (43)), some (.int x4), some (.int v), some (.int x6), some (.int r)]) (by decide +kernel) (by decide) rfl (fun _ => rfl) (by omega) (by omega) ?_
      intro ib54 hib54
      refine he_iinc (n := 60) (i := 6) (c := 1) (L' := fun v => [some (.ref (8)), some (.ref (b)), some (.int x2), some (.ref (43)), some (.int x4), some (.int ib54), some (.int v), some (.int r)]) (by decide +kernel) (by decide) rfl (fun _ => rfl) (by omega) (by omega) ?_
      intro ib57 hib57
      refine he_goto (t := 12) (by decide +kernel) ?_
      have hacc : acc ++ xpl f (v.take (i + 1)) = (acc ++ xpl f (v.take i)) ++ [r.toInt] := by rw [hxp, List.append_assoc]
      have hal2 : (acc ++ xpl f (v.take (i + 1))).length = (acc ++ xpl f (v.take i)).length + 1 := by rw [hacc, List.length_append]; rfl
      refine ih Mb1 ib54 ib57 _ (i + 1) (by omega) (by omega) (by rw [hal2]; omega) hmb1 ⟨by rw [eMb1 _ _ (.inl (by decide))]; exact hp.1, fun j hj => by rw [eMb1 _ _ (.inl (by decide))]; exact hp.2 j hj⟩ (xGF_t hg ⟨fun b _ _ q => wMb1 b q, fun j _ => eMb1 _ _ (.inl (by decide))⟩) (fun j hj => ?_)
      rw [hacc, xo_gap]
      by_cases q : j = (acc ++ xpl f (v.take i)).length
      · rw [if_pos q, show j = x5.toInt.toNat by omega]
        exact sMb1
      · rw [if_neg q, eMb1 _ _ (.inr (by omega))]
        exact hL j (by omega)
theorem xFP_gv {on : Int → List Int} {cl : Int} {la : List Int} (ho : xon on) (h : xin la) : xgv (xFP on cl la) := by
  unfold xFP
  by_cases c : cl = 0
  · rw [if_pos c]
    exact (xpt_gv ho xgv_nil h).1
  · rw [if_neg c]
    exact xgv_nil
theorem xq_ad91 {d z u : Nat} {M : Nat → mq_C} {Q : (Option Value ⊕ Nat) → mq_S → Prop} {on : Int → List Int} {f : Int → Int} {la acc : List Int} {x2 x4 : Int32} (hm : mz_sh mz_GG M) (h0 : 0 ≤ x2.toInt) (hE : xEA M) (hf : xFf f x2 M) (ho : xon on) (hO : xOn on M) (hA : xAp M 91 la) (h4 : x4.toInt = (acc.length : Int)) (ha : acc.length ≤ 12) (hL : xFL M acc) (K : ∀ (M' : Nat → mq_C) (r : Int32), mz_sh mz_GG M' → xGF M M' → xFL M' (acc ++ xpl f (xFP on (hv M 91 1) la)) → r.toInt = ((acc ++ xpl f (xFP on (hv M 91 1) la)).length : Int) → Q (.inl (some (.int r))) (M', z, u)) : mq_R mq_PP (d + 10) 34 0 [some (.ref 8), some (.ref 91), some (.int x2), some (.ref 43), some (.int x4), none, none, none] [] (M, z, u) Q := by
  refine he_iload (n := 2) (i := 4) (by decide +kernel) rfl ?_
  refine he_istore (n := 4) (i := 5) (by decide +kernel) rfl ?_
  refine he_aload (n := 5) (i := 0) (by decide +kernel) rfl ?_
  refine he_aload (n := 6) (i := 1) (by decide +kernel) rfl ?_
  refine he_v1 (n := 9) (j := 28) (ci := 0) (mx := 3) (ns := [3128, 3130, 30, 256]) (by decide +kernel) ((hb_kd (a := 8) hm rfl).trans rfl) (by show 0 ≤ 8; omega) (by show 2 ≤ 3; omega) ?_
  rw [mq_e28]
  refine xq_fp91 (by omega) hm ho hO hA ?_
  intro M' hm' hf' hp'
  show mq_R mq_PP (d + 10) 34 9 _ [] (M', z, u) Q
  have hgv := xFP_gv (cl := hv M 91 1) ho hA.2.2.1
  generalize xFP on (hv M 91 1) la = v at K hp' hgv
  refine he_iconst (n := 10) (c := 0) (by decide +kernel) (by decide) ?_
  intro cb9 hcb9
  refine he_istore (n := 12) (i := 6) (by decide +kernel) rfl ?_
  refine xq_al (d := d + 7) (M0 := M) h0 hE hf hgv ha K v.length M' x4 cb9 _ 0 (by omega) (by omega) ?_ hm' hp' (xGF_p hf') ?_
  · show x4.toInt = ((acc ++ []).length : Int)
    rw [List.append_nil]
    exact h4
  · show xFL M' (acc ++ [])
    rw [List.append_nil]
    exact fun j hj => (hb_vc (hp_FPc hf' (by decide) (by decide)) j).trans (hL j hj)
theorem xq_ad96 {d z u : Nat} {M : Nat → mq_C} {Q : (Option Value ⊕ Nat) → mq_S → Prop} {on : Int → List Int} {f : Int → Int} {la acc : List Int} {x2 x4 : Int32} (hm : mz_sh mz_GG M) (h0 : 0 ≤ x2.toInt) (hE : xEA M) (hf : xFf f x2 M) (ho : xon on) (hO : xOn on M) (hA : xAp M 96 la) (h4 : x4.toInt = (acc.length : Int)) (ha : acc.length ≤ 12) (hL : xFL M acc) (K : ∀ (M' : Nat → mq_C) (r : Int32), mz_sh mz_GG M' → xGF M M' → xFL M' (acc ++ xpl f (xFP on (hv M 96 1) la)) → r.toInt = ((acc ++ xpl f (xFP on (hv M 96 1) la)).length : Int) → Q (.inl (some (.int r))) (M', z, u)) : mq_R mq_PP (d + 10) 34 0 [some (.ref 8), some (.ref 96), some (.int x2), some (.ref 43), some (.int x4), none, none, none] [] (M, z, u) Q := by
  refine he_iload (n := 2) (i := 4) (by decide +kernel) rfl ?_
  refine he_istore (n := 4) (i := 5) (by decide +kernel) rfl ?_
  refine he_aload (n := 5) (i := 0) (by decide +kernel) rfl ?_
  refine he_aload (n := 6) (i := 1) (by decide +kernel) rfl ?_
  refine he_v1 (n := 9) (j := 28) (ci := 0) (mx := 3) (ns := [3128, 3130, 30, 256]) (by decide +kernel) ((hb_kd (a := 8) hm rfl).trans rfl) (by show 0 ≤ 8; omega) (by show 2 ≤ 3; omega) ?_
  rw [mq_e28]
  refine xq_fp96 (by omega) hm ho hO hA ?_
  intro M' hm' hf' hp'
  show mq_R mq_PP (d + 10) 34 9 _ [] (M', z, u) Q
  have hgv := xFP_gv (cl := hv M 96 1) ho hA.2.2.1
  generalize xFP on (hv M 96 1) la = v at K hp' hgv
  refine he_iconst (n := 10) (c := 0) (by decide +kernel) (by decide) ?_
  intro cb9 hcb9
  refine he_istore (n := 12) (i := 6) (by decide +kernel) rfl ?_
  refine xq_al (d := d + 7) (M0 := M) h0 hE hf hgv ha K v.length M' x4 cb9 _ 0 (by omega) (by omega) ?_ hm' hp' (xGF_p hf') ?_
  · show x4.toInt = ((acc ++ []).length : Int)
    rw [List.append_nil]
    exact h4
  · show xFL M' (acc ++ [])
    rw [List.append_nil]
    exact fun j hj => (hb_vc (hp_FPc hf' (by decide) (by decide)) j).trans (hL j hj)
theorem xq_ad101 {d z u : Nat} {M : Nat → mq_C} {Q : (Option Value ⊕ Nat) → mq_S → Prop} {on : Int → List Int} {f : Int → Int} {la acc : List Int} {x2 x4 : Int32} (hm : mz_sh mz_GG M) (h0 : 0 ≤ x2.toInt) (hE : xEA M) (hf : xFf f x2 M) (ho : xon on) (hO : xOn on M) (hA : xAp M 101 la) (h4 : x4.toInt = (acc.length : Int)) (ha : acc.length ≤ 12) (hL : xFL M acc) (K : ∀ (M' : Nat → mq_C) (r : Int32), mz_sh mz_GG M' → xGF M M' → xFL M' (acc ++ xpl f (xFP on (hv M 101 1) la)) → r.toInt = ((acc ++ xpl f (xFP on (hv M 101 1) la)).length : Int) → Q (.inl (some (.int r))) (M', z, u)) : mq_R mq_PP (d + 10) 34 0 [some (.ref 8), some (.ref 101), some (.int x2), some (.ref 43), some (.int x4), none, none, none] [] (M, z, u) Q := by
  refine he_iload (n := 2) (i := 4) (by decide +kernel) rfl ?_
  refine he_istore (n := 4) (i := 5) (by decide +kernel) rfl ?_
  refine he_aload (n := 5) (i := 0) (by decide +kernel) rfl ?_
  refine he_aload (n := 6) (i := 1) (by decide +kernel) rfl ?_
  refine he_v1 (n := 9) (j := 28) (ci := 0) (mx := 3) (ns := [3128, 3130, 30, 256]) (by decide +kernel) ((hb_kd (a := 8) hm rfl).trans rfl) (by show 0 ≤ 8; omega) (by show 2 ≤ 3; omega) ?_
  rw [mq_e28]
  refine xq_fp101 (by omega) hm ho hO hA ?_
  intro M' hm' hf' hp'
  show mq_R mq_PP (d + 10) 34 9 _ [] (M', z, u) Q
  have hgv := xFP_gv (cl := hv M 101 1) ho hA.2.2.1
  generalize xFP on (hv M 101 1) la = v at K hp' hgv
  refine he_iconst (n := 10) (c := 0) (by decide +kernel) (by decide) ?_
  intro cb9 hcb9
  refine he_istore (n := 12) (i := 6) (by decide +kernel) rfl ?_
  refine xq_al (d := d + 7) (M0 := M) h0 hE hf hgv ha K v.length M' x4 cb9 _ 0 (by omega) (by omega) ?_ hm' hp' (xGF_p hf') ?_
  · show x4.toInt = ((acc ++ []).length : Int)
    rw [List.append_nil]
    exact h4
  · show xFL M' (acc ++ [])
    rw [List.append_nil]
    exact fun j hj => (hb_vc (hp_FPc hf' (by decide) (by decide)) j).trans (hL j hj)
theorem xq_ad106 {d z u : Nat} {M : Nat → mq_C} {Q : (Option Value ⊕ Nat) → mq_S → Prop} {on : Int → List Int} {f : Int → Int} {la acc : List Int} {x2 x4 : Int32} (hm : mz_sh mz_GG M) (h0 : 0 ≤ x2.toInt) (hE : xEA M) (hf : xFf f x2 M) (ho : xon on) (hO : xOn on M) (hA : xAp M 106 la) (h4 : x4.toInt = (acc.length : Int)) (ha : acc.length ≤ 12) (hL : xFL M acc) (K : ∀ (M' : Nat → mq_C) (r : Int32), mz_sh mz_GG M' → xGF M M' → xFL M' (acc ++ xpl f (xFP on (hv M 106 1) la)) → r.toInt = ((acc ++ xpl f (xFP on (hv M 106 1) la)).length : Int) → Q (.inl (some (.int r))) (M', z, u)) : mq_R mq_PP (d + 10) 34 0 [some (.ref 8), some (.ref 106), some (.int x2), some (.ref 43), some (.int x4), none, none, none] [] (M, z, u) Q := by
  refine he_iload (n := 2) (i := 4) (by decide +kernel) rfl ?_
  refine he_istore (n := 4) (i := 5) (by decide +kernel) rfl ?_
  refine he_aload (n := 5) (i := 0) (by decide +kernel) rfl ?_
  refine he_aload (n := 6) (i := 1) (by decide +kernel) rfl ?_
  refine he_v1 (n := 9) (j := 28) (ci := 0) (mx := 3) (ns := [3128, 3130, 30, 256]) (by decide +kernel) ((hb_kd (a := 8) hm rfl).trans rfl) (by show 0 ≤ 8; omega) (by show 2 ≤ 3; omega) ?_
  rw [mq_e28]
  refine xq_fp106 (by omega) hm ho hO hA ?_
  intro M' hm' hf' hp'
  show mq_R mq_PP (d + 10) 34 9 _ [] (M', z, u) Q
  have hgv := xFP_gv (cl := hv M 106 1) ho hA.2.2.1
  generalize xFP on (hv M 106 1) la = v at K hp' hgv
  refine he_iconst (n := 10) (c := 0) (by decide +kernel) (by decide) ?_
  intro cb9 hcb9
  refine he_istore (n := 12) (i := 6) (by decide +kernel) rfl ?_
  refine xq_al (d := d + 7) (M0 := M) h0 hE hf hgv ha K v.length M' x4 cb9 _ 0 (by omega) (by omega) ?_ hm' hp' (xGF_p hf') ?_
  · show x4.toInt = ((acc ++ []).length : Int)
    rw [List.append_nil]
    exact h4
  · show xFL M' (acc ++ [])
    rw [List.append_nil]
    exact fun j hj => (hb_vc (hp_FPc hf' (by decide) (by decide)) j).trans (hL j hj)
