/-! nameSize, exactly. -/
theorem hn_ti {x : Int32} (h : 0 ≤ x.toInt) : x.toInt = (x.toBitVec.toNat : Int) ∧ x.toBitVec.toNat < 2147483648 := by
  have e : x.toInt = if 2 * x.toBitVec.toNat < 4294967296 then (x.toBitVec.toNat : Int) else (x.toBitVec.toNat : Int) - 4294967296 := by
    show x.toBitVec.toInt = _
    rw [BitVec.toInt_eq_toNat_cond]
    rfl
  have := x.toBitVec.isLt
  split at e <;> omega
theorem hn_it {x : Int32} (h : x.toBitVec.toNat < 2147483648) : x.toInt = (x.toBitVec.toNat : Int) := by
  show x.toBitVec.toInt = _
  rw [BitVec.toInt_eq_toNat_cond, if_pos (by omega)]
theorem hn_and {y v c : Int32} (hy : 0 ≤ y.toInt) (hc : c.toInt = 255) (hv : v = y &&& c) : v.toInt = y.toInt % 256 := by
  obtain rfl : c = 255 := by rw [he_eqi]; exact hc
  obtain ⟨e1, e2⟩ := hn_ti hy
  have e3 : v.toBitVec.toNat = y.toBitVec.toNat % 256 := by
    rw [hv]
    show (y.toBitVec &&& (255 : Int32).toBitVec).toNat = _
    rw [BitVec.toNat_and]
    exact Nat.and_two_pow_sub_one_eq_mod _ 8
  rw [hn_it (x := v) (by omega), e1, e3]
  omega
theorem hn_shr {y v c : Int32} (hy : 0 ≤ y.toInt) (hc : c.toInt = 8) (hv : v = y >>> (c &&& 31)) : v.toInt = y.toInt / 256 := by
  obtain rfl : c = 8 := by rw [he_eqi]; exact hc
  obtain ⟨e1, e2⟩ := hn_ti hy
  have hm : y.toBitVec.msb = false := by
    rw [BitVec.msb_eq_decide]
    exact decide_eq_false (by show ¬ 2147483648 ≤ y.toBitVec.toNat; omega)
  have e3 : v.toBitVec.toNat = y.toBitVec.toNat / 256 := by
    rw [hv]
    show (y.toBitVec.sshiftRight' ((8#32 &&& 31#32).smod 32#32)).toNat = _
    rw [show (8#32 &&& 31#32).smod 32#32 = 8#32 from rfl]
    show (y.toBitVec.sshiftRight 8).toNat = _
    rw [BitVec.sshiftRight_eq_of_msb_false hm, BitVec.toNat_ushiftRight, Nat.shiftRight_eq_div_pow]
  rw [hn_it (x := v) (by omega), e1, e3]
  omega
def hn_r (f : Nat) (y a g : Int) : Int := if g = 1 ∧ hb_ng f y = true then a + hb_nb f y else 0
theorem hn_exit {d z u f : Nat} {Q : (Option Value ⊕ Nat) → mq_S → Prop} {M : Nat → mq_C} {x a g y : Int32} (hy : y.toInt ≤ 0) (hg : g.toInt = 0 ∨ g.toInt = 1) (K : ∀ r : Int32, r.toInt = hn_r f y.toInt a.toInt g.toInt → Q (.inl (some (.int r))) (M, z, u)) : mq_R mq_PP d 123 14 [some (.int x), some (.int a), some (.int g), some (.int y)] [] (M, z, u) Q := by
  have e0 : hb_ng f y.toInt = true ∧ hb_nb f y.toInt = 0 := by
    cases f with
    | zero => exact ⟨rfl, rfl⟩
    | succ f =>
      refine ⟨?_, ?_⟩
      · show (if y.toInt ≤ 0 then true else _) = true
        rw [if_pos hy]
      · show (if y.toInt ≤ 0 then (0 : Int) else _) = 0
        rw [if_pos hy]
  unfold hn_r at K
  rw [e0.1, e0.2] at K
  refine he_iload (n := 15) (i := 3) (by decide +kernel) rfl ?_
  refine he_ifle_t (n := 18) (t := 59) (by decide +kernel) (by omega) ?_
  refine he_iload (n := 60) (i := 2) (by decide +kernel) rfl ?_
  by_cases h60 : g.toInt = 0
  · skip
    refine he_ifeq_t (n := 63) (t := 67) (by decide +kernel) (by omega) ?_
    refine he_iconst (n := 68) (c := 0) (by decide +kernel) (by decide) ?_
    intro c67 hc67
    refine he_reti (by decide +kernel) ?_
    exact K _ (by rw [if_neg (by omega)]; omega)
  · skip
    refine he_ifeq_f (n := 63) (t := 67) (by decide +kernel) (by omega) ?_
    refine he_iload (n := 64) (i := 1) (by decide +kernel) rfl ?_
    refine he_goto (t := 68) (by decide +kernel) ?_
    refine he_reti (by decide +kernel) ?_
    exact K _ (by rw [if_pos ⟨by omega, rfl⟩]; omega)
theorem hn_loop {d z u : Nat} {Q : (Option Value ⊕ Nat) → mq_S → Prop} {M : Nat → mq_C} {x : Int32} : ∀ (f : Nat) (y a g : Int32), y.toInt < 256 ^ f → 0 ≤ a.toInt → a.toInt + (f : Int) ≤ 100 → (g.toInt = 0 ∨ g.toInt = 1) → (f ≤ 4) → (∀ r : Int32, r.toInt = hn_r f y.toInt a.toInt g.toInt → Q (.inl (some (.int r))) (M, z, u)) → mq_R mq_PP d 123 14 [some (.int x), some (.int a), some (.int g), some (.int y)] [] (M, z, u) Q := by
  intro f
  induction f with
  | zero =>
    intro y a g e1 e2 e3 hg hf K
    exact hn_exit (f := 0) (by have : (256 : Int) ^ 0 = 1 := rfl
                               omega) hg K
  | succ f ih =>
    intro y a g e1 e2 e3 hg hf K
    by_cases hy : y.toInt ≤ 0
    · exact hn_exit hy hg K
    have hng : hb_ng (f + 1) y.toInt = (decide (32 < y.toInt % 256) && decide (y.toInt % 256 < 127) && hb_ng f (y.toInt / 256)) := by
      show (if y.toInt ≤ 0 then true else _) = _
      rw [if_neg hy]
    have hnb : hb_nb (f + 1) y.toInt = 1 + hb_nb f (y.toInt / 256) := by
      show (if y.toInt ≤ 0 then (0 : Int) else _) = _
      rw [if_neg hy]
    refine he_iload (n := 15) (i := 3) (by decide +kernel) rfl ?_
    refine he_ifle_f (n := 18) (t := 59) (by decide +kernel) (by omega) ?_
    refine he_iload (n := 19) (i := 2) (by decide +kernel) rfl ?_
    by_cases h19 : g.toInt = 0
    · skip
      refine he_ifeq_t (n := 22) (t := 46) (by decide +kernel) (by omega) ?_
      refine he_iconst (n := 47) (c := 0) (by decide +kernel) (by decide) ?_
      intro c46 hc46
      refine he_istore (n := 48) (i := 2) (by decide +kernel) rfl ?_
      refine he_iinc (n := 51) (i := 1) (c := 1) (L' := fun v => [some (.int x), some (.int v), some (.int c46), some (.int y)]) (by decide +kernel) (by decide) rfl (fun _ => rfl) (by omega) (by omega) ?_
      intro i48 hi48
      refine he_iload (n := 52) (i := 3) (by decide +kernel) rfl ?_
      refine he_iconst (n := 54) (c := 8) (by decide +kernel) (by decide) ?_
      intro c52 hc52
      refine he_ex2 (o := 16) (n := 55) (by decide +kernel) rfl ?_
      intro v54 hv54
      have ev54 : v54 = y >>> (c52 &&& 31) := hv54
      have bv54 := mz_i32 v54
      refine he_istore (n := 56) (i := 3) (by decide +kernel) rfl ?_
      refine he_goto (t := 14) (by decide +kernel) ?_
      refine ih v54 i48 c46 ?_ (by omega) (by omega) (by omega) (by omega) ?_
      · rw [hn_shr (by omega) hc52 ev54]
        rw [Int.pow_succ] at e1
        omega
      · intro r hr
        refine K r ?_
        rw [hr, hn_shr (by omega) hc52 ev54]
        unfold hn_r
        rw [hng, hnb]
        rw [if_neg (by omega), if_neg (by omega)]
    · skip
      refine he_ifeq_f (n := 22) (t := 46) (by decide +kernel) (by omega) ?_
      refine he_iload (n := 23) (i := 3) (by decide +kernel) rfl ?_
      refine he_iconst (n := 26) (c := 255) (by decide +kernel) (by decide) ?_
      intro c23 hc23
      refine he_ex2 (o := 12) (n := 27) (by decide +kernel) rfl ?_
      intro v26 hv26
      have ev26 : v26 = y &&& c23 := hv26
      have bv26 := mz_i32 v26
      refine he_iconst (n := 29) (c := 32) (by decide +kernel) (by decide) ?_
      intro c27 hc27
      have q26 := hn_and (by omega) hc23 ev26
      by_cases h29 : v26.toInt ≤ c27.toInt
      · skip
        refine he_cmple_t (n := 32) (t := 46) (by decide +kernel) (by omega) ?_
        refine he_iconst (n := 47) (c := 0) (by decide +kernel) (by decide) ?_
        intro c46 hc46
        refine he_istore (n := 48) (i := 2) (by decide +kernel) rfl ?_
        refine he_iinc (n := 51) (i := 1) (c := 1) (L' := fun v => [some (.int x), some (.int v), some (.int c46), some (.int y)]) (by decide +kernel) (by decide) rfl (fun _ => rfl) (by omega) (by omega) ?_
        intro i48 hi48
        refine he_iload (n := 52) (i := 3) (by decide +kernel) rfl ?_
        refine he_iconst (n := 54) (c := 8) (by decide +kernel) (by decide) ?_
        intro c52 hc52
        refine he_ex2 (o := 16) (n := 55) (by decide +kernel) rfl ?_
        intro v54 hv54
        have ev54 : v54 = y >>> (c52 &&& 31) := hv54
        have bv54 := mz_i32 v54
        refine he_istore (n := 56) (i := 3) (by decide +kernel) rfl ?_
        refine he_goto (t := 14) (by decide +kernel) ?_
        refine ih v54 i48 c46 ?_ (by omega) (by omega) (by omega) (by omega) ?_
        · rw [hn_shr (by omega) hc52 ev54]
          rw [Int.pow_succ] at e1
          omega
        · intro r hr
          refine K r ?_
          rw [hr, hn_shr (by omega) hc52 ev54]
          unfold hn_r
          rw [hng, hnb]
          rw [if_neg (by omega), decide_eq_false (by omega : ¬ 32 < y.toInt % 256)]
          rw [if_neg (by simp)]
      · skip
        refine he_cmple_f (n := 32) (t := 46) (by decide +kernel) (by omega) ?_
        refine he_iload (n := 33) (i := 3) (by decide +kernel) rfl ?_
        refine he_iconst (n := 36) (c := 255) (by decide +kernel) (by decide) ?_
        intro c33 hc33
        refine he_ex2 (o := 12) (n := 37) (by decide +kernel) rfl ?_
        intro v36 hv36
        have ev36 : v36 = y &&& c33 := hv36
        have bv36 := mz_i32 v36
        refine he_iconst (n := 39) (c := 127) (by decide +kernel) (by decide) ?_
        intro c37 hc37
        have q36 := hn_and (by omega) hc33 ev36
        by_cases h39 : c37.toInt ≤ v36.toInt
        · skip
          refine he_cmpge_t (n := 42) (t := 46) (by decide +kernel) (by omega) ?_
          refine he_iconst (n := 47) (c := 0) (by decide +kernel) (by decide) ?_
          intro c46 hc46
          refine he_istore (n := 48) (i := 2) (by decide +kernel) rfl ?_
          refine he_iinc (n := 51) (i := 1) (c := 1) (L' := fun v => [some (.int x), some (.int v), some (.int c46), some (.int y)]) (by decide +kernel) (by decide) rfl (fun _ => rfl) (by omega) (by omega) ?_
          intro i48 hi48
          refine he_iload (n := 52) (i := 3) (by decide +kernel) rfl ?_
          refine he_iconst (n := 54) (c := 8) (by decide +kernel) (by decide) ?_
          intro c52 hc52
          refine he_ex2 (o := 16) (n := 55) (by decide +kernel) rfl ?_
          intro v54 hv54
          have ev54 : v54 = y >>> (c52 &&& 31) := hv54
          have bv54 := mz_i32 v54
          refine he_istore (n := 56) (i := 3) (by decide +kernel) rfl ?_
          refine he_goto (t := 14) (by decide +kernel) ?_
          refine ih v54 i48 c46 ?_ (by omega) (by omega) (by omega) (by omega) ?_
          · rw [hn_shr (by omega) hc52 ev54]
            rw [Int.pow_succ] at e1
            omega
          · intro r hr
            refine K r ?_
            rw [hr, hn_shr (by omega) hc52 ev54]
            unfold hn_r
            rw [hng, hnb]
            rw [if_neg (by omega), decide_eq_false (by omega : ¬ y.toInt % 256 < 127)]
            rw [if_neg (by simp)]
        · skip
          refine he_cmpge_f (n := 42) (t := 46) (by decide +kernel) (by omega) ?_
          refine he_iconst (n := 43) (c := 1) (by decide +kernel) (by decide) ?_
          intro c42 hc42
          refine he_goto (t := 47) (by decide +kernel) ?_
          refine he_istore (n := 48) (i := 2) (by decide +kernel) rfl ?_
          refine he_iinc (n := 51) (i := 1) (c := 1) (L' := fun v => [some (.int x), some (.int v), some (.int c42), some (.int y)]) (by decide +kernel) (by decide) rfl (fun _ => rfl) (by omega) (by omega) ?_
          intro i48 hi48
          refine he_iload (n := 52) (i := 3) (by decide +kernel) rfl ?_
          refine he_iconst (n := 54) (c := 8) (by decide +kernel) (by decide) ?_
          intro c52 hc52
          refine he_ex2 (o := 16) (n := 55) (by decide +kernel) rfl ?_
          intro v54 hv54
          have ev54 : v54 = y >>> (c52 &&& 31) := hv54
          have bv54 := mz_i32 v54
          refine he_istore (n := 56) (i := 3) (by decide +kernel) rfl ?_
          refine he_goto (t := 14) (by decide +kernel) ?_
          refine ih v54 i48 c42 ?_ (by omega) (by omega) (by omega) (by omega) ?_
          · rw [hn_shr (by omega) hc52 ev54]
            rw [Int.pow_succ] at e1
            omega
          · intro r hr
            refine K r ?_
            rw [hr, hn_shr (by omega) hc52 ev54]
            unfold hn_r
            rw [hng, hnb]
            rw [decide_eq_true (by omega : 32 < y.toInt % 256), decide_eq_true (by omega : y.toInt % 256 < 127)]
            by_cases hq : hb_ng f (y.toInt / 256) = true
            · rw [if_pos ⟨by omega, hq⟩, if_pos ⟨by omega, by rw [hq]; rfl⟩]
              omega
            · rw [if_neg (fun h => hq h.2), if_neg (fun h => hq (by simpa using h.2))]
theorem hn_ns {d z u : Nat} {Q : (Option Value ⊕ Nat) → mq_S → Prop} {M : Nat → mq_C} {x : Int32} (K : ∀ r : Int32, r.toInt = hb_nm x.toInt → Q (.inl (some (.int r))) (M, z, u)) : mq_R mq_PP d 123 0 [some (.int x), none, none, none] [] (M, z, u) Q := by
  have hx := mz_i32 x
  have p4 : (256 : Int) ^ 4 = 4294967296 := rfl
  unfold hb_nm at K
  refine he_iconst (n := 1) (c := 0) (by decide +kernel) (by decide) ?_
  intro c0 hc0
  refine he_istore (n := 2) (i := 1) (by decide +kernel) rfl ?_
  refine he_iload (n := 3) (i := 0) (by decide +kernel) rfl ?_
  by_cases h3 : x.toInt ≤ 0
  · skip
    refine he_ifle_t (n := 6) (t := 10) (by decide +kernel) (by omega) ?_
    refine he_iconst (n := 11) (c := 0) (by decide +kernel) (by decide) ?_
    intro c10 hc10
    refine he_istore (n := 12) (i := 2) (by decide +kernel) rfl ?_
    refine he_iload (n := 13) (i := 0) (by decide +kernel) rfl ?_
    refine he_istore (n := 14) (i := 3) (by decide +kernel) rfl ?_
    refine hn_loop 4 _ _ _ (by omega) (by omega) (by omega) (by omega) (by omega) ?_
    intro r hr
    refine K r ?_
    rw [hr]
    unfold hn_r
    rw [if_neg (by omega), if_neg (by omega)]
  · skip
    refine he_ifle_f (n := 6) (t := 10) (by decide +kernel) (by omega) ?_
    refine he_iconst (n := 7) (c := 1) (by decide +kernel) (by decide) ?_
    intro c6 hc6
    refine he_goto (t := 11) (by decide +kernel) ?_
    refine he_istore (n := 12) (i := 2) (by decide +kernel) rfl ?_
    refine he_iload (n := 13) (i := 0) (by decide +kernel) rfl ?_
    refine he_istore (n := 14) (i := 3) (by decide +kernel) rfl ?_
    refine hn_loop 4 _ _ _ (by omega) (by omega) (by omega) (by omega) (by omega) ?_
    intro r hr
    refine K r ?_
    rw [hr]
    unfold hn_r
    by_cases hq : hb_ng 4 x.toInt = true
    · rw [if_pos ⟨by omega, hq⟩, if_pos ⟨by omega, hq⟩]
      omega
    · rw [if_neg (fun h => hq h.2), if_neg (fun h => hq h.2)]
theorem hn_nb : ∀ (f : Nat) (x : Int), 0 ≤ hb_nb f x ∧ hb_nb f x ≤ (f : Int) := by
  intro f
  induction f with
  | zero => intro x; exact ⟨Int.le_refl _, Int.le_refl _⟩
  | succ f ih =>
    intro x
    have e : hb_nb (f + 1) x = if x ≤ 0 then 0 else 1 + hb_nb f (x / 256) := rfl
    have := ih (x / 256)
    rw [e]
    split <;> omega
theorem hn_nm (x : Int) : 0 ≤ hb_nm x ∧ hb_nm x ≤ 4 := by
  unfold hb_nm
  have := hn_nb 4 x
  split <;> omega
