/-! The class's unpacker, exactly: bits and numbers. -/
section XJ
variable {d k pc n z u : Nat} {L : mq_L} {st : List Value} {M : Nat → mq_C} {Q : (Option Value ⊕ Nat) → mq_S → Prop}
/-- a field that holds a row which is not always the same -/
theorem xe_getr {a ci j b : Nat} {ns : List Nat} (hat : mq_at mq_PP k pc = some (52, n :: ci :: j :: ns, [])) (hk : (M a).1 = ci) (hr : (M a).2[j]? = some (.ref b)) (h : mq_R mq_PP d k n L (.ref b :: st) (M, z, u) Q) : mq_R mq_PP d k pc L (.ref a :: st) (M, z, u) Q := by
  rw [mq_R_at hat, mq_x_get (fs := (M a).2) (by rw [← hk]) hr]
  exact h
theorem xe_s4 {j mx : Nat} {ns : List Nat} {v0 v1 v2 v3 : Value} (hat : mq_at mq_PP k pc = some (60, n :: j :: 4 :: mx :: ns, [])) (hw : mq_wt st ≤ 8) (hm : (mq_sp [v0, v1, v2, v3]).length ≤ mx) (h : mq_R mq_PP d j 0 (mq_en mq_PP j [v0, v1, v2, v3]) [] (M, z, u) (mq_after mq_PP (d + 1) k pc n L st Q)) : mq_R mq_PP (d + 1) k pc L (v3 :: v2 :: v1 :: v0 :: st) (M, z, u) Q := by
  rw [mq_R_at hat, mq_y_s4 hw hm]
  exact h
end XJ
theorem xe_bit0 : ∀ (v : Fin 256) (s : Fin 8), ((((Int32.ofNat v.val) >>> ((Int32.ofNat s.val) &&& 31)) &&& 1).toInt = ((v.val / 2 ^ s.val % 2 : Nat) : Int)) := by decide +kernel
theorem xe_of {x : Int32} (h0 : 0 ≤ x.toInt) (h1 : x.toInt ≤ 255) : ∃ i : Fin 256, x = Int32.ofNat i.val ∧ x.toInt = (i.val : Int) := by
  refine ⟨⟨x.toInt.toNat, by omega⟩, ?_, by show x.toInt = ((x.toInt.toNat : Nat) : Int); omega⟩
  rw [he_eqi]
  rw [Int32.toInt_ofNat_of_lt (by show x.toInt.toNat < 2 ^ 31; omega)]
  show x.toInt = ((x.toInt.toNat : Nat) : Int)
  omega
theorem xe_of8 {x : Int32} (h0 : 0 ≤ x.toInt) (h1 : x.toInt ≤ 7) : ∃ i : Fin 8, x = Int32.ofNat i.val ∧ x.toInt = (i.val : Int) := by
  refine ⟨⟨x.toInt.toNat, by omega⟩, ?_, by show x.toInt = ((x.toInt.toNat : Nat) : Int); omega⟩
  rw [he_eqi]
  rw [Int32.toInt_ofNat_of_lt (by show x.toInt.toNat < 2 ^ 31; omega)]
  show x.toInt = ((x.toInt.toNat : Nat) : Int)
  omega
theorem xe_bit {v s : Int32} (h0 : 0 ≤ v.toInt) (h1 : v.toInt ≤ 255) (h2 : 0 ≤ s.toInt) (h3 : s.toInt ≤ 7) : ((v >>> (s &&& 31)) &&& 1).toInt = v.toInt / 2 ^ s.toInt.toNat % 2 := by
  obtain ⟨i, rfl, ei⟩ := xe_of h0 h1
  obtain ⟨j, rfl, ej⟩ := xe_of8 h2 h3
  rw [xe_bit0 i j, ei, ej]
  show ((i.val / 2 ^ j.val % 2 : Nat) : Int) = (i.val : Int) / 2 ^ ((j.val : Int)).toNat % 2
  rw [Int.toNat_natCast, Int.natCast_emod, Int.natCast_ediv, Int.natCast_pow]
  rfl
/-- bit i of a row of bytes -/
def xB (M : Nat → mq_C) (pk i : Nat) : Int := hv M pk (i / 8) / 2 ^ (i % 8) % 2
theorem xB_01 {M : Nat → mq_C} {pk : Nat} (i : Nat) : xB M pk i = 0 ∨ xB M pk i = 1 := by
  unfold xB
  omega
theorem xe_c {k : Nat} : ((2 ^ k : Nat) : Int) = 2 ^ k := Int.natCast_pow 2 k
theorem xe_or {x y s : Int32} {k : Nat} (hk : k ≤ 20) (h0 : 0 ≤ x.toInt) (h1 : x.toInt < 2 ^ k) (h2 : y.toInt = 0 ∨ y.toInt = 1) (hs : s.toInt = (k : Int)) : (x ||| (y <<< (s &&& 31))).toInt = x.toInt + y.toInt * 2 ^ k := by
  have hp : (2 : Int) ^ k ≤ 2 ^ 20 := xe_pow hk
  have hp' : (2 : Int) ^ 20 = 1048576 := by decide
  have hpos : (0 : Int) < 2 ^ k := Int.pow_pos (by decide)
  have hz : ((2 ^ k : Nat) : Int) = 2 ^ k := xe_c
  have hy : 0 ≤ (2 : Int) ^ k * y.toInt ∧ (2 : Int) ^ k * y.toInt ≤ 1048576 := by rcases h2 with h2 | h2 <;> rw [h2] <;> omega
  have e : (y <<< (s &&& 31)).toInt = (2 ^ k : Nat) * y.toInt := mz_shl32 (by omega) hs (by rw [hz]; omega)
  rw [Int32.or_comm, mz_or32 (k := k) (a := y.toInt) e (by rw [e, hz]; omega) h0 (by rw [hz]; exact h1), e, hz]
  rw [Int.mul_comm, Int.add_comm]
theorem xe_shr3 {y v c : Int32} (_ : 0 ≤ y.toInt) (hc : c.toInt = 3) (hv : v = y >>> (c &&& 31)) : v.toInt = y.toInt / 8 := by
  rw [hv, mz_shr32 (k := 3) (by decide) hc]
  rfl
theorem xe_and7 {y v c : Int32} (hy : 0 ≤ y.toInt) (hc : c.toInt = 7) (hv : v = y &&& c) : v.toInt = y.toInt % 8 := by
  obtain rfl : c = 7 := by rw [he_eqi]; exact hc
  obtain ⟨e1, e2⟩ := mz_un_p hy
  have e3 : mz_un v = mz_un y % 8 := by
    rw [hv, mz_and_un]
    exact Nat.and_two_pow_sub_one_eq_mod _ 3
  rw [mz_un_s (x := v) (by omega), e1, e3]
  omega
/-- the unpacker at work on row pk: all but its own cells stand as they stood -/
def xU (pk : Nat) (M0 M : Nat → mq_C) : Prop := mz_sh mz_GG M ∧ (∀ b, b < 9 ∨ 24 ≤ b → M b = M0 b) ∧ (M 9).2[2]? = some (.ref pk)
/-- it has read a bits of E, from byte f on, and has given out o; bk says whether it is broken -/
def xV (pk f E : Nat) (bk : Int) (M0 M : Nat → mq_C) (a : Nat) (o : List Int) : Prop := xU pk M0 M ∧ hv M 9 3 = 8 * (f : Int) + (a : Int) ∧ hv M 9 4 = 8 * (f : Int) + (E : Int) ∧ hv M 9 5 = bk ∧ a ≤ E ∧ hv M 9 1 = (o.length : Int) ∧ ∀ i, i < o.length → hv M 10 i = o.getD i 0
theorem xe_set2 {M : Nat → mq_C} {a j i : Nat} {v : Int32} {w : Value} (h : (M a).2[i]? = some w) (hj : j ≠ i) : ((hb_set M a j v) a).2[i]? = some w := by
  unfold hb_set
  rw [va_up_self]
  show ((M a).2.set j (.int v))[i]? = _
  rw [List.getElem?_set_ne hj]
  exact h
theorem xU_set {pk j : Nat} {M0 M M' : Nat → mq_C} {v : Int32} (h : xU pk M0 M) (hM : hb_set M 9 j v = M') (hs : mz_sh mz_GG M') (hj : j ≠ 2) : xU pk M0 M' := by
  refine ⟨hs, fun b hb => ?_, ?_⟩
  · rw [← hM, hb_set_c (by omega)]
    exact h.2.1 b hb
  · rw [← hM]
    exact xe_set2 h.2.2 hj
theorem xV_at {bk : Int} {pk f E a a' : Nat} {M0 M M' : Nat → mq_C} {o : List Int} {v : Int32} (h : xV pk f E bk M0 M a o) (hM : hb_set M 9 3 v = M') (hs : mz_sh mz_GG M') (hv' : v.toInt = 8 * (f : Int) + (a' : Int)) (ha : a' ≤ E) : xV pk f E bk M0 M' a' o := by
  obtain ⟨h1, h2, h3, h4, h5, h6, h7⟩ := h
  have e : ∀ b j, b ≠ 9 ∨ j ≠ 3 → hv M' b j = hv M b j := by intro b j h; rw [← hM]; exact hb_set_n h
  refine ⟨xU_set h1 hM hs (by decide), ?_, by rw [e _ _ (.inr (by decide))]; exact h3, by rw [e _ _ (.inr (by decide))]; exact h4, ha, by rw [e _ _ (.inr (by decide))]; exact h6, fun i hi => by rw [e _ _ (.inl (by decide))]; exact h7 i hi⟩
  have t : hv (hb_set M 9 3 v) 9 3 = v.toInt := hb_set_v h1.1 rfl (by decide)
  rw [← hM, t]
  exact hv'
theorem xV_br {bk : Int} {pk f E a : Nat} {M0 M M' : Nat → mq_C} {o : List Int} {v : Int32} (h : xV pk f E bk M0 M a o) (hM : hb_set M 9 5 v = M') (hs : mz_sh mz_GG M') (hv' : v.toInt = 1) : xV pk f E 1 M0 M' a o := by
  obtain ⟨h1, h2, h3, h4, h5, h6, h7⟩ := h
  have e : ∀ b j, b ≠ 9 ∨ j ≠ 5 → hv M' b j = hv M b j := by intro b j h; rw [← hM]; exact hb_set_n h
  refine ⟨xU_set h1 hM hs (by decide), by rw [e _ _ (.inr (by decide))]; exact h2, by rw [e _ _ (.inr (by decide))]; exact h3, ?_, h5, by rw [e _ _ (.inr (by decide))]; exact h6, fun i hi => by rw [e _ _ (.inl (by decide))]; exact h7 i hi⟩
  have t : hv (hb_set M 9 5 v) 9 5 = v.toInt := hb_set_v h1.1 rfl (by decide)
  rw [← hM, t]
  exact hv'
