/-! THE CHECKER: longs, the stack, branches. -/
section VCB
variable (G : mz_G)
/-- a long of which nothing is known -/
def mz_lnew (n0 : Nat) (k : mz_K) (lo hi : Int) (n : Nat) (r : List mz_V) (hs : List mz_H) : mz_R := match mz_fresh n0 k lo hi with
  | some k' => some ([(n, (k'.1, (2, 0, (0, [(k.2.2.2.2, 1)])) :: r, k'.2.2))], hs)
  | none => none
theorem mz_i64 (x : Int64) : -9223372036854775808 ≤ x.toInt ∧ x.toInt ≤ 9223372036854775807 := by
  have h1 := Int64.le_toInt x
  have h2 := Int64.toInt_le x
  have e1 : Int64.minValue.toInt = -9223372036854775808 := rfl
  have e2 : Int64.maxValue.toInt = 9223372036854775807 := rfl
  omega
theorem mz_lnew_ok {n0 n z u : Nat} {k : mz_K} {lo hi : Int} {r q : List mz_V} {hs hs' : List mz_H} {ss : List (Nat × mz_K)} {ρ : Nat → Int} {L : mq_L} {st r' : List Value} {M : Nat → mq_C} {x : Int64} (h : mz_lnew n0 k lo hi n r hs = some (ss, hs')) (hg : mz_g G ρ k L st M) (hm : mz_sh G M) (h1 : lo ≤ x.toInt) (h2 : x.toInt ≤ hi) (hk : k.2.1 = q) (hst : ∀ ρ', mz_gs G ρ' q st → mz_gs G ρ' r r') : mz_so G n0 z u ρ M (mq_nx n L (.long x :: r') (M, z, u)) ss := by
  unfold mz_lnew at h
  split at h
  · next k1 hk1 =>
    cases h
    obtain ⟨ρ', g', hr, hn, h0, q1, q2, q3⟩ := mz_fresh_ok G hk1 hg h1 h2
    refine mz_so1 G ⟨g'.1, ⟨?_, ?_⟩, g'.2.2⟩ (fun i hi => hr i (Nat.lt_of_lt_of_le hi h0)) hm
    · show x.toInt = 0 + (1 * ρ' k.2.2.2.2 + 0)
      rw [hn]; omega
    · have := g'.2.1
      rw [q2, hk] at this
      exact hst ρ' this
  · cases h
def mz_bl : mz_F := fun n0 ns _ k hs => match ns, k.2.1 with
  | [n], (2, _, _) :: (2, _, _) :: r => mz_lnew n0 k (-9223372036854775808) 9223372036854775807 n r hs
  | _, _ => none
theorem mz_bl_ok {f : Int64 → Int64 → Int64} : mz_sd G mz_bl (mq_bl f) := by
  intro n0 ns cs k hs ss hs' ρ L st M z u h hg hm
  unfold mz_bl at h
  split at h
  · next n gy y gx x r hk =>
    have hst := hg.2.1
    rw [hk] at hst
    obtain ⟨v, r1, rfl, hv, hr1⟩ := mz_gs_c G hst
    obtain ⟨Y, rfl, hY⟩ := mz_gv_l G hv
    obtain ⟨w, r2, rfl, hw, hr2⟩ := mz_gs_c G hr1
    obtain ⟨X, rfl, hX⟩ := mz_gv_l G hw
    exact mz_lnew_ok G h hg hm (mz_i64 (f X Y)).1 (mz_i64 (f X Y)).2 hk (fun _ h => h.2.2)
  · cases h
theorem mz_and64 {X Y : Int64} {m : Nat} (h : Y.toInt = (m : Int)) : 0 ≤ (X &&& Y).toInt ∧ (X &&& Y).toInt ≤ (m : Int) := by
  have hy : Y.toInt = if 2 * Y.toBitVec.toNat < 18446744073709551616 then (Y.toBitVec.toNat : Int) else (Y.toBitVec.toNat : Int) - 18446744073709551616 := by
    show Y.toBitVec.toInt = _
    rw [BitVec.toInt_eq_toNat_cond]; rfl
  have hz : (X &&& Y).toInt = if 2 * (X &&& Y).toBitVec.toNat < 18446744073709551616 then ((X &&& Y).toBitVec.toNat : Int) else ((X &&& Y).toBitVec.toNat : Int) - 18446744073709551616 := by
    show (X &&& Y).toBitVec.toInt = _
    rw [BitVec.toInt_eq_toNat_cond]; rfl
  have h3 : (X &&& Y).toBitVec.toNat ≤ Y.toBitVec.toNat := by
    show (X.toBitVec &&& Y.toBitVec).toNat ≤ _
    rw [BitVec.toNat_and]; exact Nat.and_le_right
  have h4 := Y.toBitVec.isLt
  split at hy <;> split at hz <;> omega
def mz_land : mz_F := fun n0 ns cs k hs => match ns, k.2.1 with
  | [n], (2, _, (Int.ofNat m, [])) :: (2, _, _) :: r => mz_lnew n0 k 0 m n r hs
  | _, _ => mz_bl n0 ns cs k hs
theorem mz_land_ok : mz_sd G mz_land (mq_bl (fun x y => x &&& y)) := by
  intro n0 ns cs k hs ss hs' ρ L st M z u h hg hm
  unfold mz_land at h
  split at h
  · next n gy m gx x r hk =>
    have hst := hg.2.1
    rw [hk] at hst
    obtain ⟨v, r1, rfl, hv, hr1⟩ := mz_gs_c G hst
    obtain ⟨Y, rfl, hY⟩ := mz_gv_l G hv
    obtain ⟨w, r2, rfl, hw, hr2⟩ := mz_gs_c G hr1
    obtain ⟨X, rfl, hX⟩ := mz_gv_l G hw
    have := mz_and64 (X := X) (Y := Y) (m := m) (hY.trans (Int.add_zero _))
    exact mz_lnew_ok G (x := X &&& Y) h hg hm this.1 this.2 hk (fun _ h => h.2.2)
  · exact mz_bl_ok G _ _ _ _ _ _ _ _ _ _ _ _ _ h hg hm
def mz_sl : mz_F := fun n0 ns _ k hs => match ns, k.2.1 with
  | [n], (0, _, _) :: (2, _, _) :: r => mz_lnew n0 k (-9223372036854775808) 9223372036854775807 n r hs
  | _, _ => none
theorem mz_sl_ok {f : Int64 → Int32 → Int64} : mz_sd G mz_sl (mq_sl f) := by
  intro n0 ns cs k hs ss hs' ρ L st M z u h hg hm
  unfold mz_sl at h
  split at h
  · next n gy y gx x r hk =>
    have hst := hg.2.1
    rw [hk] at hst
    obtain ⟨v, r1, rfl, hv, hr1⟩ := mz_gs_c G hst
    obtain ⟨Y, rfl, hY⟩ := mz_gv_i G hv
    obtain ⟨w, r2, rfl, hw, hr2⟩ := mz_gs_c G hr1
    obtain ⟨X, rfl, hX⟩ := mz_gv_l G hw
    exact mz_lnew_ok G h hg hm (mz_i64 (f X Y)).1 (mz_i64 (f X Y)).2 hk (fun _ h => h.2.2)
  · cases h
def mz_lcmp : mz_F := fun n0 ns _ k hs => match ns, k.2.1 with
  | [n], (2, _, _) :: (2, _, _) :: r => match mz_opq n0 k hs with
    | some (e, k', hs') => some ([(n, (k'.1, (0, 0, e) :: r, k'.2.2))], hs')
    | none => none
  | _, _ => none
theorem mz_lcmp_ok : mz_sd G mz_lcmp mq_o_lcmp := by
  intro n0 ns cs k hs ss hs' ρ L st M z u h hg hm
  unfold mz_lcmp at h
  split at h
  · next n gy y gx x r hk =>
    split at h
    · next e k' hs2 hn =>
      cases h
      have hst := hg.2.1
      rw [hk] at hst
      obtain ⟨v, r1, rfl, hv, hr1⟩ := mz_gs_c G hst
      obtain ⟨Y, rfl, hY⟩ := mz_gv_l G hv
      obtain ⟨w, r2, rfl, hw, hr2⟩ := mz_gs_c G hr1
      obtain ⟨X, rfl, hX⟩ := mz_gv_l G hw
      obtain ⟨ρ', g', hx', hr, q1, q2, q3⟩ := mz_opq_ok G (x := lg_cmp X Y) _ _ _ hn _ _ M hg
      refine mz_so1 G (n := n) (L := L) (st := .int (lg_cmp X Y) :: r2) ⟨g'.1, ⟨hx', ?_⟩, g'.2.2⟩ hr hm
      have := g'.2.1
      rw [q2, hk] at this
      exact this.2.2
    · cases h
  · cases h
def mz_i2l : mz_F := fun _ ns _ k hs => match ns, k.2.1 with
  | [n], (0, _, e) :: r => some ([(n, (k.1, (2, 0, e) :: r, k.2.2))], hs)
  | _, _ => none
theorem mz_i2l_ok : mz_sd G mz_i2l (mq_ui (fun x => .long x.toInt64)) := by
  intro n0 ns cs k hs ss hs' ρ L st M z u h hg hm
  unfold mz_i2l at h
  split at h
  · next n ge e r hk =>
    cases h
    have hst := hg.2.1
    rw [hk] at hst
    obtain ⟨v, r1, rfl, hv, hr1⟩ := mz_gs_c G hst
    obtain ⟨X, rfl, hX⟩ := mz_gv_i G hv
    refine mz_so1 G (n := n) (L := L) (st := .long X.toInt64 :: r1) ⟨hg.1, ⟨?_, hr1⟩, hg.2.2⟩ (fun _ _ => rfl) hm
    show X.toInt64.toInt = mz_ev ρ e
    rw [Int32.toInt_toInt64]; exact hX
  · cases h
def mz_l2i : mz_F := fun n0 ns _ k hs => match ns, k.2.1 with
  | [n], (2, _, x) :: r => match mz_num n0 x k hs with
    | some (e, k', hs') => some ([(n, (k'.1, (0, 0, e) :: r, k'.2.2))], hs')
    | none => none
  | _, _ => none
theorem mz_l2i_ok : mz_sd G mz_l2i (mq_ul (fun x => .int x.toInt32)) := by
  intro n0 ns cs k hs ss hs' ρ L st M z u h hg hm
  unfold mz_l2i at h
  split at h
  · next n gx x r hk =>
    split at h
    · next e k' hs2 hn =>
      cases h
      have hst := hg.2.1
      rw [hk] at hst
      obtain ⟨v, r1, rfl, hv, hr1⟩ := mz_gs_c G hst
      obtain ⟨X, rfl, hX⟩ := mz_gv_l G hv
      have key : mz_ns G n0 k ρ X.toInt32 (mz_num n0 x k hs) := mz_num_ok G (by
        rw [← hX]
        intro hb
        rw [Int64.toInt_toInt32]
        exact mz_bm hb)
      obtain ⟨ρ', g', hx', hr, q1, q2, q3⟩ := key _ _ _ hn _ _ M hg
      refine mz_so1 G (n := n) (L := L) (st := .int X.toInt32 :: r1) ⟨g'.1, ⟨hx', ?_⟩, g'.2.2⟩ hr hm
      have := g'.2.1
      rw [q2, hk] at this
      exact this.2
    · cases h
  · cases h
theorem mz_cat1 {ρ : Nat → Int} {a : mz_V} {v : Value} (h : mz_gv G ρ a v) (h2 : a.1 ≠ 2) : v.category = 1 := by
  unfold mz_gv at h
  split at h
  · rfl
  · rfl
  · next h1 => exact absurd h1 h2
  · rfl
  · exact h.elim
def mz_dup : mz_F := fun _ ns _ k hs => match ns, k.2.1 with
  | [n], a :: r => bif Nat.beq a.1 2 then none else some ([(n, (k.1, a :: a :: r, k.2.2))], hs)
  | _, _ => none
theorem mz_bin {α : Type} {a : Bool} {o : Option α} {x : α} (h : (bif a then none else o) = some x) : a = false ∧ o = some x := by
  cases a with
  | false => exact ⟨rfl, h⟩
  | true => cases h
theorem mz_ne2 {a : Nat} (h : Nat.beq a 2 = false) : a ≠ 2 := fun e => by rw [e] at h; cases h
theorem mz_dup_ok : mz_sd G mz_dup mq_o_dup := by
  intro n0 ns cs k hs ss hs' ρ L st M z u h hg hm
  unfold mz_dup at h
  split at h
  · next n a r hk =>
    obtain ⟨h2, h⟩ := mz_bin h
    cases h
    have hst := hg.2.1
    rw [hk] at hst
    obtain ⟨v, r1, rfl, hv, hr1⟩ := mz_gs_c G hst
    show mz_so G n0 z u ρ M (if v.category = 1 then mq_nx n L (v :: v :: r1) (M, z, u) else none) _
    rw [if_pos (mz_cat1 G hv (mz_ne2 h2))]
    exact mz_so1 G ⟨hg.1, ⟨hv, hv, hr1⟩, hg.2.2⟩ (fun _ _ => rfl) hm
  · cases h
def mz_pop : mz_F := fun _ ns _ k hs => match ns, k.2.1 with
  | [n], a :: r => bif Nat.beq a.1 2 then none else some ([(n, (k.1, r, k.2.2))], hs)
  | _, _ => none
theorem mz_pop_ok : mz_sd G mz_pop mq_o_pop := by
  intro n0 ns cs k hs ss hs' ρ L st M z u h hg hm
  unfold mz_pop at h
  split at h
  · next n a r hk =>
    obtain ⟨h2, h⟩ := mz_bin h
    cases h
    have hst := hg.2.1
    rw [hk] at hst
    obtain ⟨v, r1, rfl, hv, hr1⟩ := mz_gs_c G hst
    show mz_so G n0 z u ρ M (if v.category = 1 then mq_nx n L r1 (M, z, u) else none) _
    rw [if_pos (mz_cat1 G hv (mz_ne2 h2))]
    exact mz_so1 G ⟨hg.1, hr1, hg.2.2⟩ (fun _ _ => rfl) hm
  · cases h
def mz_dup2 : mz_F := fun _ ns _ k hs => match ns, k.2.1 with
  | [n], a :: b :: r => bif Nat.beq a.1 2 then none else bif Nat.beq b.1 2 then none else some ([(n, (k.1, a :: b :: a :: b :: r, k.2.2))], hs)
  | _, _ => none
theorem mz_dup2_ok : mz_sd G mz_dup2 mq_o_dup2 := by
  intro n0 ns cs k hs ss hs' ρ L st M z u h hg hm
  unfold mz_dup2 at h
  split at h
  · next n a b r hk =>
    obtain ⟨h2, h⟩ := mz_bin h
    obtain ⟨h3, h⟩ := mz_bin h
    cases h
    have hst := hg.2.1
    rw [hk] at hst
    obtain ⟨v, r1, rfl, hv, hr1⟩ := mz_gs_c G hst
    obtain ⟨w, r2, rfl, hw, hr2⟩ := mz_gs_c G hr1
    show mz_so G n0 z u ρ M (if v.category = 1 ∧ w.category = 1 then mq_nx n L (v :: w :: v :: w :: r2) (M, z, u) else none) _
    rw [if_pos ⟨mz_cat1 G hv (mz_ne2 h2), mz_cat1 G hw (mz_ne2 h3)⟩]
    exact mz_so1 G ⟨hg.1, ⟨hv, hw, hv, hw, hr2⟩, hg.2.2⟩ (fun _ _ => rfl) hm
  · cases h
/-! branches -/
abbrev mz_W : Type := Option (List mz_K × List mz_H)
/-- this way with these facts, or it can't be -/
def mz_br (k : mz_K) (fs : List mz_E) (hs : List mz_H) : mz_W := match hs with
  | (0, _) :: hs => some ([fs.foldl mz_fa k], hs)
  | (_, i, _) :: h :: hs => bif mz_pv k.2.2.2.1 h (mz_add (-1, []) (mz_mul (-1) (fs.getD i (0, [])))) then some ([], hs) else none
  | _ => none
/-- one of these states is it -/
def mz_ws (ρ : Nat → Int) (k : mz_K) (ks : List mz_K) : Prop := ∀ L st M, mz_g G ρ k L st M → ∃ k' ∈ ks, mz_g G ρ k' L st M
theorem mz_fas_ok {ρ : Nat → Int} {L : mq_L} {st : List Value} {M : Nat → mq_C} : ∀ (fs : List mz_E) (k : mz_K), mz_g G ρ k L st M → (∀ f ∈ fs, 0 ≤ mz_ev ρ f) → mz_g G ρ (fs.foldl mz_fa k) L st M := by
  intro fs
  induction fs with
  | nil => intro k h _; exact h
  | cons f fs ih => intro k h hf; exact ih _ (mz_fa_ok G h (hf f (List.mem_cons_self ..))) (fun g hg => hf g (List.mem_cons_of_mem _ hg))
theorem mz_br_ok {k : mz_K} {fs : List mz_E} {hs hs' : List mz_H} {ks : List mz_K} {ρ : Nat → Int} (h : mz_br k fs hs = some (ks, hs')) (hf : ∀ f ∈ fs, 0 ≤ mz_ev ρ f) : mz_ws G ρ k ks := by
  intro L st M hg
  unfold mz_br at h
  split at h
  · cases h
    exact ⟨_, List.mem_cons_self .., mz_fas_ok G fs k hg hf⟩
  · next x i y hh hs _ =>
    obtain ⟨p, h⟩ := mz_bif4 h
    exfalso
    have q := mz_pv_spec hg.2.2.2 p
    rw [mz_add_ev, mz_mul_ev] at q
    have e1 : mz_ev ρ ((-1 : Int), []) = -1 := Int.add_zero _
    rw [e1] at q
    have h0 : 0 ≤ mz_ev ρ (fs.getD i (0, [])) := by
      rw [List.getD_eq_getElem?_getD]
      cases hi : fs[i]? with
      | none => show 0 ≤ (0 : Int) + 0; omega
      | some f => exact hf f (List.mem_of_getElem? hi)
    omega
  · cases h
def mz_cd : Nat → Int → Prop
  | 0, n => n = 0
  | 1, n => ¬ n = 0
  | 2, n => n < 0
  | 3, n => 0 ≤ n
  | 4, n => 0 < n
  | _, n => n ≤ 0
def mz_way (k : mz_K) (w : Nat) (e : mz_E) (hs : List mz_H) : mz_W := match w with
  | 0 => mz_br k [e, mz_mul (-1) e] hs
  | 1 => match hs with
    | (0, _) :: hs => some ([k], hs)
    | (1, _) :: h1 :: h2 :: hs => bif mz_pv k.2.2.2.1 h1 e then bif mz_pv k.2.2.2.1 h2 (mz_mul (-1) e) then some ([], hs) else none else none
    | (2, _) :: hs => match mz_br k [mz_add (-1, []) e] hs with
      | some (ks, hs) => match mz_br k [mz_add (-1, []) (mz_mul (-1) e)] hs with
        | some (ks', hs) => some (ks ++ ks', hs)
        | none => none
      | none => none
    | (3, _) :: h :: hs => bif mz_pv k.2.2.2.1 h e then some ([mz_fa k (mz_add (-1, []) e)], hs) else none
    | _ :: h :: hs => bif mz_pv k.2.2.2.1 h (mz_mul (-1) e) then some ([mz_fa k (mz_add (-1, []) (mz_mul (-1) e))], hs) else none
    | _ => none
  | 2 => mz_br k [mz_add (-1, []) (mz_mul (-1) e)] hs
  | 3 => mz_br k [e] hs
  | 4 => mz_br k [mz_add (-1, []) e] hs
  | _ => mz_br k [mz_mul (-1) e] hs
theorem mz_m1 {ρ : Nat → Int} {e : mz_E} : mz_ev ρ (mz_add (-1, []) e) = mz_ev ρ e - 1 := by
  rw [mz_add_ev]
  have e1 : mz_ev ρ ((-1 : Int), []) = -1 := Int.add_zero _
  rw [e1]; omega
theorem mz_ng {ρ : Nat → Int} {e : mz_E} : mz_ev ρ (mz_mul (-1) e) = - mz_ev ρ e := by
  rw [mz_mul_ev]; omega
theorem mz_one {ρ : Nat → Int} {f : mz_E} (h : 0 ≤ mz_ev ρ f) : ∀ g ∈ [f], 0 ≤ mz_ev ρ g := by
  intro g hg
  rcases List.mem_cons.mp hg with rfl | hg
  · exact h
  · cases hg
theorem mz_way_ok {k : mz_K} {w : Nat} {e : mz_E} {hs hs' : List mz_H} {ks : List mz_K} {ρ : Nat → Int} (h : mz_way k w e hs = some (ks, hs')) (hc : mz_cd w (mz_ev ρ e)) : mz_ws G ρ k ks := by
  unfold mz_way at h
  split at h
  · refine mz_br_ok G h ?_
    have hc' : mz_ev ρ e = 0 := hc
    intro f hf
    rcases List.mem_cons.mp hf with rfl | hf
    · omega
    rcases List.mem_cons.mp hf with rfl | hf
    · rw [mz_ng]; omega
    · cases hf
  · have hc' : ¬ mz_ev ρ e = 0 := hc
    split at h
    · cases h
      intro L st M hg
      exact ⟨k, List.mem_cons_self .., hg⟩
    · obtain ⟨p1, h⟩ := mz_bif4 h
      obtain ⟨p2, h⟩ := mz_bif4 h
      intro L st M hg
      exfalso
      have q1 := mz_pv_spec hg.2.2.2 p1
      have q2 := mz_pv_spec hg.2.2.2 p2
      rw [mz_ng] at q2
      omega
    · split at h
      · next ks1 hs1 hk1 =>
        split at h
        · next ks2 hs2 hk2 =>
          cases h
          intro L st M hg
          rcases Int.lt_or_le (mz_ev ρ e) 0 with hn | hn
          · obtain ⟨k', hk', g'⟩ := mz_br_ok G hk2 (mz_one (by rw [mz_m1, mz_ng]; omega)) L st M hg
            exact ⟨k', List.mem_append_right _ hk', g'⟩
          · obtain ⟨k', hk', g'⟩ := mz_br_ok G hk1 (mz_one (by rw [mz_m1]; omega)) L st M hg
            exact ⟨k', List.mem_append_left _ hk', g'⟩
        · cases h
      · cases h
    · obtain ⟨p1, h⟩ := mz_bif4 h
      cases h
      intro L st M hg
      have q1 := mz_pv_spec hg.2.2.2 p1
      exact ⟨_, List.mem_cons_self .., mz_fa_ok G hg (by rw [mz_m1]; omega)⟩
    · obtain ⟨p1, h⟩ := mz_bif4 h
      cases h
      intro L st M hg
      have q1 := mz_pv_spec hg.2.2.2 p1
      rw [mz_ng] at q1
      exact ⟨_, List.mem_cons_self .., mz_fa_ok G hg (by rw [mz_m1, mz_ng]; omega)⟩
    · cases h
  · have hc' : mz_ev ρ e < 0 := hc
    exact mz_br_ok G h (mz_one (by rw [mz_m1, mz_ng]; omega))
  · have hc' : 0 ≤ mz_ev ρ e := hc
    exact mz_br_ok G h (mz_one hc')
  · have hc' : 0 < mz_ev ρ e := hc
    exact mz_br_ok G h (mz_one (by rw [mz_m1]; omega))
  · next w1 w2 w3 w4 w5 =>
    have hc' : mz_ev ρ e ≤ 0 := by
      unfold mz_cd at hc
      split at hc
      · exact absurd rfl w1
      · exact absurd rfl w2
      · exact absurd rfl w3
      · exact absurd rfl w4
      · exact absurd rfl w5
      · exact hc
    exact mz_br_ok G h (mz_one (by rw [mz_ng]; omega))
def mz_if (w w' : Nat) (k : mz_K) (e : mz_E) (n t : Nat) (hs : List mz_H) : mz_R := match mz_way k w e hs with
  | some (ks, hs) => match mz_way k w' e hs with
    | some (ks', hs) => some (ks.map (fun k => (t, k)) ++ ks'.map (fun k => (n, k)), hs)
    | none => none
  | none => none
theorem mz_if_ok {w w' n0 n t z u : Nat} {k : mz_K} {e : mz_E} {hs hs' : List mz_H} {ss : List (Nat × mz_K)} {ρ : Nat → Int} {L : mq_L} {st : List Value} {M : Nat → mq_C} (b : Bool) (h : mz_if w w' k e n t hs = some (ss, hs')) (hg : mz_g G ρ k L st M) (hm : mz_sh G M) (h1 : b = true → mz_cd w (mz_ev ρ e)) (h2 : b = false → mz_cd w' (mz_ev ρ e)) : mz_so G n0 z u ρ M (mq_nx (if b = true then t else n) L st (M, z, u)) ss := by
  unfold mz_if at h
  split at h
  · next ks hs1 hk =>
    split at h
    · next ks' hs2 hk' =>
      cases h
      cases b with
      | true =>
        obtain ⟨k', hk1, g'⟩ := mz_way_ok G hk (h1 rfl) L st M hg
        exact ⟨t, L, st, M, k', ρ, rfl, List.mem_append_left _ (List.mem_map.mpr ⟨k', hk1, rfl⟩), g', fun _ _ => rfl, hm, mz_same_refl G⟩
      | false =>
        obtain ⟨k', hk1, g'⟩ := mz_way_ok G hk' (h2 rfl) L st M hg
        exact ⟨n, L, st, M, k', ρ, rfl, List.mem_append_right _ (List.mem_map.mpr ⟨k', hk1, rfl⟩), g', fun _ _ => rfl, hm, mz_same_refl G⟩
    · cases h
  · cases h
def mz_if1 (w w' : Nat) : mz_F := fun _ ns _ k hs => match ns, k.2.1 with
  | [n, t], (0, _, e) :: r => mz_if w w' (k.1, r, k.2.2) e n t hs
  | _, _ => none
theorem mz_if1_ok {w w' : Nat} {f : Int32 → Bool} (h1 : ∀ x, f x = true → mz_cd w x.toInt) (h2 : ∀ x, f x = false → mz_cd w' x.toInt) : mz_sd G (mz_if1 w w') (mq_if1 f) := by
  intro n0 ns cs k hs ss hs' ρ L st M z u h hg hm
  unfold mz_if1 at h
  split at h
  · next n t ge e r hk =>
    have hst := hg.2.1
    rw [hk] at hst
    obtain ⟨v, r1, rfl, hv, hr1⟩ := mz_gs_c G hst
    obtain ⟨X, rfl, hX⟩ := mz_gv_i G hv
    exact mz_if_ok G (f X) h ⟨hg.1, hr1, hg.2.2⟩ hm (fun hb => by rw [← hX]; exact h1 X hb) (fun hb => by rw [← hX]; exact h2 X hb)
  · cases h
def mz_if2 (w w' : Nat) : mz_F := fun _ ns _ k hs => match ns, k.2.1 with
  | [n, t], (0, _, y) :: (0, _, x) :: r => mz_if w w' (k.1, r, k.2.2) (mz_add x (mz_mul (-1) y)) n t hs
  | _, _ => none
theorem mz_if2_ok {w w' : Nat} {f : Int32 → Int32 → Bool} (h1 : ∀ x y, f x y = true → mz_cd w (x.toInt - y.toInt)) (h2 : ∀ x y, f x y = false → mz_cd w' (x.toInt - y.toInt)) : mz_sd G (mz_if2 w w') (mq_if2 f) := by
  intro n0 ns cs k hs ss hs' ρ L st M z u h hg hm
  unfold mz_if2 at h
  split at h
  · next n t gy y gx x r hk =>
    have hst := hg.2.1
    rw [hk] at hst
    obtain ⟨v, r1, rfl, hv, hr1⟩ := mz_gs_c G hst
    obtain ⟨Y, rfl, hY⟩ := mz_gv_i G hv
    obtain ⟨w, r2, rfl, hw, hr2⟩ := mz_gs_c G hr1
    obtain ⟨X, rfl, hX⟩ := mz_gv_i G hw
    have e1 : mz_ev ρ (mz_add x (mz_mul (-1) y)) = X.toInt - Y.toInt := by rw [mz_add_ev, mz_ng, ← hX, ← hY]; omega
    exact mz_if_ok G (f X Y) h ⟨hg.1, hr2, hg.2.2⟩ hm (fun hb => by rw [e1]; exact h1 X Y hb) (fun hb => by rw [e1]; exact h2 X Y hb)
  · cases h
theorem mz_eq0 {x y : Int32} : x = y ↔ x.toInt = y.toInt := ⟨fun h => by rw [h], fun h => Int32.toInt_inj.mp h⟩
theorem mz_z0 : (0 : Int32).toInt = 0 := rfl
theorem mz_i38 : mz_sd G (mz_if1 0 1) (mq_if1 (fun x => decide (x = 0))) := mz_if1_ok G (fun x h => by have := of_decide_eq_true h; rw [this]; rfl) (fun x h => by have := of_decide_eq_false h; rw [mz_eq0, mz_z0] at this; exact this)
theorem mz_i39 : mz_sd G (mz_if1 1 0) (mq_if1 (fun x => decide (¬ x = 0))) := mz_if1_ok G (fun x h => by have := of_decide_eq_true h; rw [mz_eq0, mz_z0] at this; exact this) (fun x h => by have := of_decide_eq_false h; rw [Classical.not_not] at this; rw [this]; rfl)
theorem mz_i40 : mz_sd G (mz_if1 2 3) (mq_if1 (fun x => decide (x < 0))) := mz_if1_ok G (fun x h => by have := of_decide_eq_true h; rw [Int32.lt_iff_toInt_lt, mz_z0] at this; exact this) (fun x h => by have := of_decide_eq_false h; rw [Int32.lt_iff_toInt_lt, mz_z0] at this; exact Int.not_lt.mp this)
theorem mz_i41 : mz_sd G (mz_if1 3 2) (mq_if1 (fun x => decide (0 ≤ x))) := mz_if1_ok G (fun x h => by have := of_decide_eq_true h; rw [Int32.le_iff_toInt_le, mz_z0] at this; exact this) (fun x h => by have := of_decide_eq_false h; rw [Int32.le_iff_toInt_le, mz_z0] at this; exact Int.not_le.mp this)
theorem mz_i42 : mz_sd G (mz_if1 4 5) (mq_if1 (fun x => decide (0 < x))) := mz_if1_ok G (fun x h => by have := of_decide_eq_true h; rw [Int32.lt_iff_toInt_lt, mz_z0] at this; exact this) (fun x h => by have := of_decide_eq_false h; rw [Int32.lt_iff_toInt_lt, mz_z0] at this; exact Int.not_lt.mp this)
theorem mz_i43 : mz_sd G (mz_if1 5 4) (mq_if1 (fun x => decide (x ≤ 0))) := mz_if1_ok G (fun x h => by have := of_decide_eq_true h; rw [Int32.le_iff_toInt_le, mz_z0] at this; exact this) (fun x h => by have := of_decide_eq_false h; rw [Int32.le_iff_toInt_le, mz_z0] at this; exact Int.not_le.mp this)
theorem mz_i44 : mz_sd G (mz_if2 0 1) (mq_if2 (fun x y => decide (x = y))) := mz_if2_ok G (fun x y h => by have := of_decide_eq_true h; rw [this]; exact Int.sub_self _) (fun x y h => by have := of_decide_eq_false h; rw [mz_eq0] at this; show ¬ _ = (0 : Int); omega)
theorem mz_i45 : mz_sd G (mz_if2 1 0) (mq_if2 (fun x y => decide (¬ x = y))) := mz_if2_ok G (fun x y h => by have := of_decide_eq_true h; rw [mz_eq0] at this; show ¬ _ = (0 : Int); omega) (fun x y h => by have := of_decide_eq_false h; rw [Classical.not_not] at this; rw [this]; exact Int.sub_self _)
theorem mz_i46 : mz_sd G (mz_if2 2 3) (mq_if2 (fun x y => decide (x < y))) := mz_if2_ok G (fun x y h => by have := of_decide_eq_true h; rw [Int32.lt_iff_toInt_lt] at this; show _ < (0 : Int); omega) (fun x y h => by have := of_decide_eq_false h; rw [Int32.lt_iff_toInt_lt] at this; show (0 : Int) ≤ _; omega)
theorem mz_i47 : mz_sd G (mz_if2 3 2) (mq_if2 (fun x y => decide (y ≤ x))) := mz_if2_ok G (fun x y h => by have := of_decide_eq_true h; rw [Int32.le_iff_toInt_le] at this; show (0 : Int) ≤ _; omega) (fun x y h => by have := of_decide_eq_false h; rw [Int32.le_iff_toInt_le] at this; show _ < (0 : Int); omega)
theorem mz_i48 : mz_sd G (mz_if2 4 5) (mq_if2 (fun x y => decide (y < x))) := mz_if2_ok G (fun x y h => by have := of_decide_eq_true h; rw [Int32.lt_iff_toInt_lt] at this; show (0 : Int) < _; omega) (fun x y h => by have := of_decide_eq_false h; rw [Int32.lt_iff_toInt_lt] at this; show _ ≤ (0 : Int); omega)
theorem mz_i49 : mz_sd G (mz_if2 5 4) (mq_if2 (fun x y => decide (x ≤ y))) := mz_if2_ok G (fun x y h => by have := of_decide_eq_true h; rw [Int32.le_iff_toInt_le] at this; show _ ≤ (0 : Int); omega) (fun x y h => by have := of_decide_eq_false h; rw [Int32.le_iff_toInt_le] at this; show (0 : Int) < _; omega)
def mz_goto : mz_F := fun _ ns _ k hs => match ns with
  | [t] => some ([(t, k)], hs)
  | _ => none
theorem mz_goto_ok : mz_sd G mz_goto mq_o_goto := by
  intro n0 ns cs k hs ss hs' ρ L st M z u h hg hm
  unfold mz_goto at h
  split at h
  · cases h
    exact mz_so1 G hg (fun _ _ => rfl) hm
  · cases h
def mz_sw (k : mz_K) (e : mz_E) : List Int → List Nat → List mz_H → mz_R
  | c :: cs, t :: ts, hs => match mz_br k [mz_add (-c, []) e, mz_mul (-1) (mz_add (-c, []) e)] hs with
    | some (ks, hs) => match mz_sw k e cs ts hs with
      | some (ss, hs) => some (ks.map (fun k => (t, k)) ++ ss, hs)
      | none => none
    | none => none
  | [], [t], hs => some ([(t, k)], hs)
  | _, _, _ => none
theorem mz_sw_ok {k : mz_K} {e : mz_E} {ρ : Nat → Int} {L : mq_L} {st : List Value} {M : Nat → mq_C} (hg : mz_g G ρ k L st M) : ∀ (cs : List Int) (ns : List Nat) (hs hs' : List mz_H) (ss : List (Nat × mz_K)), mz_sw k e cs ns hs = some (ss, hs') → ∃ t k', mq_sw cs ns (mz_ev ρ e) = some t ∧ (t, k') ∈ ss ∧ mz_g G ρ k' L st M := by
  intro cs
  induction cs with
  | nil =>
    intro ns hs hs' ss h
    cases ns with
    | nil => cases h
    | cons t ts =>
      cases ts with
      | nil => cases h; exact ⟨t, k, rfl, List.mem_cons_self .., hg⟩
      | cons a b => cases h
  | cons c cs ih =>
    intro ns hs hs' ss h
    cases ns with
    | nil => cases h
    | cons t ts =>
      unfold mz_sw at h
      split at h
      · next ks hs1 hk =>
        split at h
        · next ss1 hs2 hs3 =>
          cases h
          by_cases hc : mz_ev ρ e = c
          · have hz : mz_ev ρ (mz_add (-c, []) e) = 0 := by
              rw [mz_add_ev]
              have e1 : mz_ev ρ ((-c : Int), []) = -c := Int.add_zero _
              rw [e1]; omega
            obtain ⟨k', hk1, g'⟩ := mz_br_ok G hk (ρ := ρ) (by
              intro f hf
              rcases List.mem_cons.mp hf with rfl | hf
              · omega
              rcases List.mem_cons.mp hf with rfl | hf
              · rw [mz_ng]; omega
              · cases hf) L st M hg
            exact ⟨t, k', if_pos hc, List.mem_append_left _ (List.mem_map.mpr ⟨k', hk1, rfl⟩), g'⟩
          · obtain ⟨t', k', h1, h2, h3⟩ := ih ts _ _ _ hs3
            exact ⟨t', k', (if_neg hc).trans h1, List.mem_append_right _ h2, h3⟩
        · cases h
      · cases h
def mz_switch : mz_F := fun _ ns cs k hs => match k.2.1 with
  | (0, _, e) :: r => mz_sw (k.1, r, k.2.2) e cs ns hs
  | _ => none
theorem mz_switch_ok : mz_sd G mz_switch mq_o_switch := by
  intro n0 ns cs k hs ss hs' ρ L st M z u h hg hm
  unfold mz_switch at h
  split at h
  · next ge e r hk =>
    have hst := hg.2.1
    rw [hk] at hst
    obtain ⟨v, r1, rfl, hv, hr1⟩ := mz_gs_c G hst
    obtain ⟨X, rfl, hX⟩ := mz_gv_i G hv
    obtain ⟨t, k', h1, h2, h3⟩ := mz_sw_ok G (k := (k.1, r, k.2.2)) ⟨hg.1, hr1, hg.2.2⟩ _ _ _ _ _ h
    show mz_so G n0 z u ρ M (match mq_sw cs ns X.toInt with
      | some t => mq_nx t L r1 (M, z, u)
      | none => none) ss
    rw [hX, h1]
    exact ⟨t, L, r1, M, k', ρ, rfl, h2, h3, fun _ _ => rfl, hm, mz_same_refl G⟩
  · cases h
def mz_min : mz_F := fun _ ns _ k hs => match ns, k.2.1 with
  | n :: _, (0, _, y) :: (0, _, x) :: r => bif Nat.ble r.length 4 then (match mz_br k [mz_add (-1, []) (mz_add x (mz_mul (-1) y))] hs with
      | some (ks, hs) => match mz_br k [mz_add y (mz_mul (-1) x)] hs with
        | some (ks', hs) => some (ks.map (fun k => (n, (k.1, (0, 0, y) :: r, k.2.2))) ++ ks'.map (fun k => (n, (k.1, (0, 0, x) :: r, k.2.2))), hs)
        | none => none
      | none => none) else none
  | _, _ => none
theorem mz_wt_le {ρ : Nat → Int} : ∀ (r : List mz_V) (st : List Value), mz_gs G ρ r st → mq_wt st ≤ 2 * r.length := by
  intro r
  induction r with
  | nil => intro st h; cases st with
    | nil => exact Nat.le_refl _
    | cons a b => exact h.elim
  | cons a r ih =>
    intro st h
    cases st with
    | nil => exact h.elim
    | cons v st =>
      have h1 := ih st h.2
      have h2 : v.category ≤ 2 := by
        have hv := h.1
        unfold mz_gv at hv
        split at hv
        · exact Nat.le_of_ble_eq_true rfl
        · exact Nat.le_of_ble_eq_true rfl
        · exact Nat.le_of_ble_eq_true rfl
        · exact Nat.le_of_ble_eq_true rfl
        · exact hv.elim
      have h3 : mq_wt (v :: st) = v.category + mq_wt st := by unfold mq_wt; simp
      rw [h3, List.length_cons]
      omega
end VCB
