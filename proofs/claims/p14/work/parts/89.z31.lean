/-! nameLength of the class, exactly. -/
theorem lx_toI (x : Int32) : x.toInt = if 2 * x.toBitVec.toNat < 4294967296 then (x.toBitVec.toNat : Int) else (x.toBitVec.toNat : Int) - 4294967296 := by
  show x.toBitVec.toInt = _
  rw [BitVec.toInt_eq_toNat_cond]
  rfl
theorem lx_and255 {y v c : Int32} (hc : c.toInt = 255) (hv : v = y &&& c) : v.toInt = (y.toBitVec.toNat : Int) % 256 := by
  obtain rfl : c = 255 := by rw [he_eqi]; exact hc
  have e3 : v.toBitVec.toNat = y.toBitVec.toNat % 256 := by
    rw [hv]
    show (y.toBitVec &&& (255 : Int32).toBitVec).toNat = _
    rw [BitVec.toNat_and]
    exact Nat.and_two_pow_sub_one_eq_mod _ 8
  rw [hn_it (x := v) (by omega), e3]
  omega
theorem lx_shr8 {y v c : Int32} (hc : c.toInt = 8) (hv : v = (y.toUInt32 >>> (c.toUInt32 &&& Int32.toUInt32 31)).toInt32) : v.toBitVec.toNat = y.toBitVec.toNat / 256 := by
  obtain rfl : c = 8 := by rw [he_eqi]; exact hc
  rw [hv]
  show (y.toBitVec >>> (8 : Nat)).toNat = _
  rw [BitVec.toNat_ushiftRight, Nat.shiftRight_eq_div_pow]
def lx_r (f : Nat) (y a : Int) : Int := if hb_ng f y = true then a + hb_nb f y else 0
theorem lx_r0 {f : Nat} {y a : Int} (hy : y ≤ 0) : lx_r f y a = a := by
  have e0 : hb_ng f y = true ∧ hb_nb f y = 0 := by
    cases f with
    | zero => exact ⟨rfl, rfl⟩
    | succ f =>
      refine ⟨?_, ?_⟩
      · show (if y ≤ 0 then true else _) = true
        rw [if_pos hy]
      · show (if y ≤ 0 then (0 : Int) else _) = 0
        rw [if_pos hy]
  unfold lx_r
  rw [e0.1, e0.2, if_pos rfl]
  omega
theorem lx_rs {f : Nat} {y a : Int} (hy : 0 < y) (h1 : 32 < y % 256) (h2 : y % 256 < 127) : lx_r (f + 1) y a = lx_r f (y / 256) (a + 1) := by
  have e1 : hb_ng (f + 1) y = hb_ng f (y / 256) := by
    show (if y ≤ 0 then true else (decide (32 < y % 256) && decide (y % 256 < 127) && hb_ng f (y / 256))) = _
    rw [if_neg (by omega), decide_eq_true h1, decide_eq_true h2]
    rfl
  have e2 : hb_nb (f + 1) y = 1 + hb_nb f (y / 256) := by
    show (if y ≤ 0 then (0 : Int) else 1 + hb_nb f (y / 256)) = _
    rw [if_neg (by omega)]
  unfold lx_r
  rw [e1, e2]
  split <;> omega
theorem lx_rb {f : Nat} {y a : Int} (hy : 0 < y) (h : ¬ (32 < y % 256 ∧ y % 256 < 127)) : lx_r (f + 1) y a = 0 := by
  have e1 : hb_ng (f + 1) y = false := by
    show (if y ≤ 0 then true else (decide (32 < y % 256) && decide (y % 256 < 127) && hb_ng f (y / 256))) = _
    rw [if_neg (by omega)]
    by_cases h1 : 32 < y % 256
    · rw [decide_eq_false (p := y % 256 < 127) (fun h2 => h ⟨h1, h2⟩), Bool.and_false, Bool.false_and]
    · rw [decide_eq_false h1, Bool.false_and, Bool.false_and]
  unfold lx_r
  rw [e1]
  rfl
theorem lx_neg {y : Int} (h : 2147483648 ≤ y) (h2 : y < 4294967296) : lx_r 4 y 0 = 0 := by
  by_cases h1 : 32 < y % 256 ∧ y % 256 < 127
  · rw [lx_rs (by omega) h1.1 h1.2]
    by_cases h2 : 32 < (y / 256) % 256 ∧ (y / 256) % 256 < 127
    · rw [lx_rs (by omega) h2.1 h2.2]
      by_cases h3 : 32 < (y / 256 / 256) % 256 ∧ (y / 256 / 256) % 256 < 127
      · rw [lx_rs (by omega) h3.1 h3.2]
        exact lx_rb (by omega) (by omega)
      · exact lx_rb (by omega) h3
    · exact lx_rb (by omega) h2
  · exact lx_rb (by omega) h1
theorem lx_nl_loop {d z u : Nat} {Q : (Option Value ⊕ Nat) → mq_S → Prop} {M : Nat → mq_C} {x : Int32} : ∀ (f : Nat) (y a : Int32) (o3 : Option Value), f ≤ 4 → a.toInt = 4 - (f : Int) → y.toBitVec.toNat < 256 ^ f → (∀ r : Int32, r.toInt = lx_r f (y.toBitVec.toNat : Int) a.toInt → Q (.inl (some (.int r))) (M, z, u)) → mq_R mq_PP d 22 4 [some (.int x), some (.int y), some (.int a), o3] [] (M, z, u) Q := by
  intro f
  induction f with
  | zero =>
    intro y a o3 hf ha hy K
    have t := lx_toI y
    have hy0 : y.toBitVec.toNat = 0 := by omega
    rw [hy0] at t
    rw [if_pos (by decide)] at t
    refine he_iload (n := 5) (i := 1) (by decide +kernel) rfl ?_
    refine he_ifeq_t (n := 8) (t := 44) (by decide +kernel) (by omega) ?_
    refine he_iload (n := 45) (i := 2) (by decide +kernel) rfl ?_
    refine he_reti (by decide +kernel) ?_
    exact K a (by rw [lx_r0 (by omega)])
  | succ f ih =>
    intro y a o3 hf ha hy K
    have t := lx_toI y
    have hl := y.toBitVec.isLt
    refine he_iload (n := 5) (i := 1) (by decide +kernel) rfl ?_
    by_cases hy0 : y.toBitVec.toNat = 0
    · rw [if_pos (by omega)] at t
      refine he_ifeq_t (n := 8) (t := 44) (by decide +kernel) (by omega) ?_
      refine he_iload (n := 45) (i := 2) (by decide +kernel) rfl ?_
      refine he_reti (by decide +kernel) ?_
      exact K a (by rw [lx_r0 (by omega)])
    · refine he_ifeq_f (n := 8) (t := 44) (by decide +kernel) (by split at t <;> omega) ?_
      refine he_iload (n := 9) (i := 2) (by decide +kernel) rfl ?_
      refine he_iconst (n := 10) (c := 4) (by decide +kernel) (by decide) ?_
      intro c9 hc9
      refine he_cmpge_f (n := 13) (t := 44) (by decide +kernel) (by omega) ?_
      refine he_iload (n := 14) (i := 1) (by decide +kernel) rfl ?_
      refine he_iconst (n := 17) (c := 255) (by decide +kernel) (by decide) ?_
      intro c14 hc14
      refine he_ex2 (o := 12) (n := 18) (by decide +kernel) rfl ?_
      intro v17 hv17
      have e17 := lx_and255 (y := y) (v := v17) hc14 hv17
      refine he_istore (n := 19) (i := 3) (by decide +kernel) rfl ?_
      refine he_iload (n := 20) (i := 3) (by decide +kernel) rfl ?_
      refine he_iconst (n := 22) (c := 33) (by decide +kernel) (by decide) ?_
      intro c20 hc20
      by_cases h1 : v17.toInt < c20.toInt
      · refine he_cmplt_t (n := 25) (t := 31) (by decide +kernel) h1 ?_
        refine he_iconst (n := 32) (c := 0) (by decide +kernel) (by decide) ?_
        intro c31 hc31
        refine he_reti (by decide +kernel) ?_
        exact K c31 (by rw [lx_rb (by omega) (by omega)]; exact hc31)
      · refine he_cmplt_f (n := 25) (t := 31) (by decide +kernel) h1 ?_
        refine he_iload (n := 26) (i := 3) (by decide +kernel) rfl ?_
        refine he_iconst (n := 28) (c := 126) (by decide +kernel) (by decide) ?_
        intro c26 hc26
        by_cases h2 : v17.toInt ≤ c26.toInt
        · refine he_cmple_t (n := 31) (t := 33) (by decide +kernel) h2 ?_
          refine he_iload (n := 34) (i := 1) (by decide +kernel) rfl ?_
          refine he_iconst (n := 36) (c := 8) (by decide +kernel) (by decide) ?_
          intro c34 hc34
          refine he_ex2 (o := 17) (n := 37) (by decide +kernel) rfl ?_
          intro v36 hv36
          have e36 := lx_shr8 (y := y) (v := v36) hc34 hv36
          refine he_istore (n := 38) (i := 1) (by decide +kernel) rfl ?_
          refine he_iinc (n := 41) (i := 2) (c := 1) (L' := fun v => [some (.int x), some (.int v36), some (.int v), some (.int v17)]) (by decide +kernel) (by decide) rfl (fun _ => rfl) (by omega) (by omega) ?_
          intro i38 hi38
          refine he_goto (t := 4) (by decide +kernel) ?_
          refine ih v36 i38 _ (by omega) (by omega) (by rw [e36, Nat.div_lt_iff_lt_mul (by decide), ← Nat.pow_succ]; exact hy) ?_
          intro r hr
          refine K r ?_
          rw [hr, e36, lx_rs (by omega) (by omega) (by omega), hi38]
          rfl
        · refine he_cmple_f (n := 31) (t := 33) (by decide +kernel) h2 ?_
          refine he_iconst (n := 32) (c := 0) (by decide +kernel) (by decide) ?_
          intro c31 hc31
          refine he_reti (by decide +kernel) ?_
          exact K c31 (by rw [lx_rb (by omega) (by omega)]; exact hc31)
theorem lx_nl {d z u : Nat} {Q : (Option Value ⊕ Nat) → mq_S → Prop} {M : Nat → mq_C} {x : Int32} (K : ∀ r : Int32, r.toInt = hb_nm x.toInt → Q (.inl (some (.int r))) (M, z, u)) : mq_R mq_PP d 22 0 [some (.int x), none, none, none] [] (M, z, u) Q := by
  refine he_iload (n := 1) (i := 0) (by decide +kernel) rfl ?_
  refine he_istore (n := 2) (i := 1) (by decide +kernel) rfl ?_
  refine he_iconst (n := 3) (c := 0) (by decide +kernel) (by decide) ?_
  intro c2 hc2
  refine he_istore (n := 4) (i := 2) (by decide +kernel) rfl ?_
  have hl := x.toBitVec.isLt
  refine lx_nl_loop 4 x c2 none (by decide) (by omega) (by omega) ?_
  intro r hr
  refine K r ?_
  rw [hr, hc2]
  have t := lx_toI x
  unfold hb_nm
  split at t
  · rw [← t]
    by_cases h0 : 0 < x.toInt
    · unfold lx_r
      by_cases h1 : hb_ng 4 x.toInt = true
      · rw [if_pos h1, if_pos ⟨h0, h1⟩]
        omega
      · rw [if_neg h1, if_neg (fun h => h1 h.2)]
    · rw [lx_r0 (by omega), if_neg (fun h => h0 h.1)]
  · rw [lx_neg (by omega) (by omega), if_neg (fun h => by omega)]
