/-! The law: its loop, its start (printed by b_law.py). -/
abbrev LQ (r : Option Value ⊕ Nat) (S : mq_S) : Prop := r = .inl (some (.int 1)) ∧ S.2.1 ≤ 1000 ∧ S.2.2 ≤ 20000
theorem lo_loop {N : Nat} {xs : Nat → Int32} (hN : N ≤ 2048) : ∀ (m n : Nat) (i : Int32) (M : Nat → mq_C) (z u : Nat) (o5 o6 : Option Value), N ≤ n + 4 * m → n ≤ 4096 → i.toInt = (n : Int) → 272 ≤ z → z + m ≤ 1000 → u + 6 * m ≤ 20000 → LJ N xs M → mq_R mq_PP 1000 173 23 [some (.ref 0), some (.ref 8), some (.ref 234), some (.ref 271), some (.int i), o5, o6] [] (M, z, u) LQ := by
  intro m
  induction m with
  | zero =>
    intro n i M z u o5 o6 h1 h2 hi hz hzm hum hj
    refine he_iload (n := 25) (i := 4) (by decide +kernel) rfl ?_
    refine he_aload (n := 26) (i := 0) (by decide +kernel) rfl ?_
    refine lb_len (n := 27) hj.2.2.2.2.1 hN (by decide +kernel) ?_
    intro vl hvl
    refine he_iconst (n := 28) (c := 4) (by decide +kernel) (by decide) ?_
    intro cl hcl
    refine he_isub (n := 29) (by decide +kernel) (by omega) (by omega) ?_
    intro vs hvs
    refine he_cmpgt_t (n := 32) (t := 671) (by decide +kernel) (by omega) ?_
    refine he_iconst (n := 672) (c := 1) (by decide +kernel) (by decide) ?_
    intro c1 hc1
    refine he_retz (by decide +kernel) (by omega) ?_
    obtain rfl : c1 = 1 := Int32.toInt_inj.mp (hc1.trans (by decide))
    exact ⟨rfl, by show z ≤ 1000; omega, by show u ≤ 20000; omega⟩
  | succ m ih =>
    intro n i M z u o5 o6 h1 h2 hi hz hzm hum hj
    refine he_iload (n := 25) (i := 4) (by decide +kernel) rfl ?_
    refine he_aload (n := 26) (i := 0) (by decide +kernel) rfl ?_
    refine lb_len (n := 27) hj.2.2.2.2.1 hN (by decide +kernel) ?_
    intro vl hvl
    refine he_iconst (n := 28) (c := 4) (by decide +kernel) (by decide) ?_
    intro cl hcl
    refine he_isub (n := 29) (by decide +kernel) (by omega) (by omega) ?_
    intro vs hvs
    by_cases hc : n + 4 ≤ N
    · refine he_cmpgt_f (n := 32) (t := 671) (by decide +kernel) (by omega) ?_
      refine he_aload (n := 33) (i := 0) (by decide +kernel) rfl ?_
      refine he_iload (n := 35) (i := 4) (by decide +kernel) rfl ?_
      refine lb_ld (n := 36) (m := n) hj.2.2.2.2.1 (by decide +kernel) hi (by omega) ?_
      refine he_iconst (n := 38) (c := 15) (by decide +kernel) (by decide) ?_
      intro cm hcm
      refine he_any2 (o := 12) (n := 39) (by decide +kernel) rfl ?_
      intro op
      have hk : ∀ (M' : Nat → mq_C) (z' u' : Nat) (o5' o6' : Option Value), z ≤ z' → z' ≤ z + 1 → u' ≤ u + 6 → LJ N xs M' → mq_R mq_PP 1000 173 665 [some (.ref 0), some (.ref 8), some (.ref 234), some (.ref 271), some (.int i), o5', o6'] [] (M', z', u') LQ := by
        intro M' z' u' o5' o6' k1 k2 k3 kj
        refine he_iinc (n := 668) (i := 4) (c := 4) (L' := fun v => [some (.ref 0), some (.ref 8), some (.ref 234), some (.ref 271), some (.int v), o5', o6']) (by decide +kernel) (by decide) rfl (fun _ => rfl) (by omega) (by omega) ?_
        intro i2 hi2
        refine he_goto (t := 23) (by decide +kernel) ?_
        exact ih (n + 4) i2 M' z' u' o5' o6' (by omega) (by omega) (by omega) (by omega) (by omega) (by omega) kj
      have s0 := lc_0 (Q := LQ) (i := i) (u := u) (o5 := o5) (o6 := o6) hN hc hi hz hj hk
      have s1 := lc_1 (Q := LQ) (i := i) (u := u) (o5 := o5) (o6 := o6) hN hc hi hz hj hk
      have s2 := lc_2 (Q := LQ) (i := i) (u := u) (o5 := o5) (o6 := o6) hN hc hi hz hj hk
      have s3 := lc_3 (Q := LQ) (i := i) (u := u) (o5 := o5) (o6 := o6) hN hc hi hz hj hk
      have s4 := lc_4 (Q := LQ) (i := i) (u := u) (o5 := o5) (o6 := o6) hN hc hi hz hj hk
      have s5 := lc_5 (Q := LQ) (i := i) (u := u) (o5 := o5) (o6 := o6) hN hc hi hz hj hk
      have s6 := lc_6 (Q := LQ) (i := i) (u := u) (o5 := o5) (o6 := o6) hN hc hi hz hj hk
      have s7 := lc_7 (Q := LQ) (i := i) (u := u) (o5 := o5) (o6 := o6) hN hc hi hz hj hk
      have s8 := lc_8 (Q := LQ) (i := i) (u := u) (o5 := o5) (o6 := o6) hN hc hi hz hj hk
      have s9 := lc_9 (Q := LQ) (i := i) (u := u) (o5 := o5) (o6 := o6) hN hc hi hz hj hk
      have s10 := lc_10 (Q := LQ) (i := i) (u := u) (o5 := o5) (o6 := o6) hN hc hi hz hj hk
      have s11 := lc_11 (Q := LQ) (i := i) (u := u) (o5 := o5) (o6 := o6) hN hc hi hz hj hk
      have s12 := lc_12 (Q := LQ) (i := i) (u := u) (o5 := o5) (o6 := o6) hN hc hi hz hj hk
      have s13 := lc_13 (Q := LQ) (i := i) (u := u) (o5 := o5) (o6 := o6) hN hc hi hz hj hk
      have s14 := lc_14 (Q := LQ) (i := i) (u := u) (o5 := o5) (o6 := o6) hN hc hi hz hj hk
      have s15 := lc_15 (Q := LQ) (i := i) (u := u) (o5 := o5) (o6 := o6) hN hc hi hz hj hk
      have s16 := hk M z u o5 o6 (Nat.le_refl _) (by omega) (by omega) hj
      rw [mq_R_at (o := (51, [116, 185, 222, 247, 296, 333, 358, 395, 420, 460, 473, 486, 523, 572, 609, 649, 665], [0, 1, 2, 3, 4, 5, 6, 7, 8, 9, 10, 11, 12, 13, 14, 15])) (by decide +kernel), mq_x_switch (n := 0)]
      simp only [mq_swR]
      exact ⟨fun _ => s0, fun _ => ⟨fun _ => s1, fun _ => ⟨fun _ => s2, fun _ => ⟨fun _ => s3, fun _ => ⟨fun _ => s4, fun _ => ⟨fun _ => s5, fun _ => ⟨fun _ => s6, fun _ => ⟨fun _ => s7, fun _ => ⟨fun _ => s8, fun _ => ⟨fun _ => s9, fun _ => ⟨fun _ => s10, fun _ => ⟨fun _ => s11, fun _ => ⟨fun _ => s12, fun _ => ⟨fun _ => s13, fun _ => ⟨fun _ => s14, fun _ => ⟨fun _ => s15, fun _ => s16⟩⟩⟩⟩⟩⟩⟩⟩⟩⟩⟩⟩⟩⟩⟩⟩
    · refine he_cmpgt_t (n := 32) (t := 671) (by decide +kernel) (by omega) ?_
      refine he_iconst (n := 672) (c := 1) (by decide +kernel) (by decide) ?_
      intro c1 hc1
      refine he_retz (by decide +kernel) (by omega) ?_
      obtain rfl : c1 = 1 := Int32.toInt_inj.mp (hc1.trans (by decide))
      exact ⟨rfl, by show z ≤ 1000; omega, by show u ≤ 20000; omega⟩
theorem q173_0 {d : Nat} {L : mq_L} {st : List Value} {S : mq_S} {Q : (Option Value ⊕ Nat) → mq_S → Prop} : mq_R mq_PP d 173 0 L st S Q = mq_X mq_PP d 173 0 (55, [3, 0, 8100110231022, 3, 3, 3, 3, 0, 3, 3, 0, 3, 3, 0, 3, 3, 0, 0], []) L st S Q := mq_R_at (by decide +kernel)
theorem q173_3 {d : Nat} {L : mq_L} {st : List Value} {S : mq_S} {Q : (Option Value ⊕ Nat) → mq_S → Prop} : mq_R mq_PP d 173 3 L st S Q = mq_X mq_PP d 173 3 (33, [4], []) L st S Q := mq_R_at (by decide +kernel)
theorem q173_4 {d : Nat} {L : mq_L} {st : List Value} {S : mq_S} {Q : (Option Value ⊕ Nat) → mq_S → Prop} : mq_R mq_PP d 173 4 L st S Q = mq_X mq_PP d 173 4 (61, [7, 0, 0, 0, 2, 1024, 1025, 30], []) L st S Q := mq_R_at (by decide +kernel)
theorem q173_7 {d : Nat} {L : mq_L} {st : List Value} {S : mq_S} {Q : (Option Value ⊕ Nat) → mq_S → Prop} : mq_R mq_PP d 173 7 L st S Q = mq_X mq_PP d 173 7 (7, [8, 1], []) L st S Q := mq_R_at (by decide +kernel)
theorem q173_8 {d : Nat} {L : mq_L} {st : List Value} {S : mq_S} {Q : (Option Value ⊕ Nat) → mq_S → Prop} : mq_R mq_PP d 173 8 L st S Q = mq_X mq_PP d 173 8 (55, [11, 9, 31101141724171, 0, 3, 3, 3, 3, 3, 3, 3, 3, 3, 3, 3, 3, 3, 3, 0, 3, 0, 3, 0, 3, 0, 3, 0, 1, 0, 3, 3, 3, 3, 0, 3, 3, 3, 3, 3, 3, 3, 0, 3, 3, 0, 3, 0, 0, 0, 0, 0, 0, 3, 0, 0, 0, 0, 0, 0, 3, 0, 0, 0, 3, 0, 0, 0, 3], []) L st S Q := mq_R_at (by decide +kernel)
theorem q173_11 {d : Nat} {L : mq_L} {st : List Value} {S : mq_S} {Q : (Option Value ⊕ Nat) → mq_S → Prop} : mq_R mq_PP d 173 11 L st S Q = mq_X mq_PP d 173 11 (33, [12], []) L st S Q := mq_R_at (by decide +kernel)
theorem q173_12 {d : Nat} {L : mq_L} {st : List Value} {S : mq_S} {Q : (Option Value ⊕ Nat) → mq_S → Prop} : mq_R mq_PP d 173 12 L st S Q = mq_X mq_PP d 173 12 (61, [15, 106, 0, 9, 2, 4173, 4174, 33], []) L st S Q := mq_R_at (by decide +kernel)
theorem q173_15 {d : Nat} {L : mq_L} {st : List Value} {S : mq_S} {Q : (Option Value ⊕ Nat) → mq_S → Prop} : mq_R mq_PP d 173 15 L st S Q = mq_X mq_PP d 173 15 (7, [16, 2], []) L st S Q := mq_R_at (by decide +kernel)
theorem q173_16 {d : Nat} {L : mq_L} {st : List Value} {S : mq_S} {Q : (Option Value ⊕ Nat) → mq_S → Prop} : mq_R mq_PP d 173 16 L st S Q = mq_X mq_PP d 173 16 (0, [17], [1]) L st S Q := mq_R_at (by decide +kernel)
theorem q173_17 {d : Nat} {L : mq_L} {st : List Value} {S : mq_S} {Q : (Option Value ⊕ Nat) → mq_S → Prop} : mq_R mq_PP d 173 17 L st S Q = mq_X mq_PP d 173 17 (56, [19, 66, 6147], []) L st S Q := mq_R_at (by decide +kernel)
theorem q173_19 {d : Nat} {L : mq_L} {st : List Value} {S : mq_S} {Q : (Option Value ⊕ Nat) → mq_S → Prop} : mq_R mq_PP d 173 19 L st S Q = mq_X mq_PP d 173 19 (7, [20, 3], []) L st S Q := mq_R_at (by decide +kernel)
theorem q173_20 {d : Nat} {L : mq_L} {st : List Value} {S : mq_S} {Q : (Option Value ⊕ Nat) → mq_S → Prop} : mq_R mq_PP d 173 20 L st S Q = mq_X mq_PP d 173 20 (0, [21], [0]) L st S Q := mq_R_at (by decide +kernel)
theorem q173_21 {d : Nat} {L : mq_L} {st : List Value} {S : mq_S} {Q : (Option Value ⊕ Nat) → mq_S → Prop} : mq_R mq_PP d 173 21 L st S Q = mq_X mq_PP d 173 21 (5, [23, 4], []) L st S Q := mq_R_at (by decide +kernel)
theorem mq_tS_out {n0 u a : Nat} {t : List mq_C} (h : a < n0 ∨ n0 + t.length ≤ a) : (mq_tS n0 u t).1 a = (999, []) := by
  show (if a < n0 then (999, []) else t.getD (a - n0) (999, [])) = ((999, []) : mq_C)
  by_cases e : a < n0
  · rw [if_pos e]
  · rw [if_neg e, List.getD_eq_getElem?_getD, List.getElem?_eq_none (by omega)]
    rfl
theorem mq_tS_in {n0 u i : Nat} {t : List mq_C} : (mq_tS n0 u t).1 (n0 + i) = t.getD i (999, []) := by
  show (if n0 + i < n0 then (999, []) else t.getD (n0 + i - n0) (999, [])) = _
  rw [if_neg (by omega), Nat.add_sub_cancel_left]
/-- one new cell over anything is the table of that cell -/
theorem mq_xt_one {n0 u : Nat} {M : Nat → mq_C} {c : mq_C} : mq_xt n0 M (mq_tS n0 u [c]) (va_up M n0 c, n0 + 1, u) := by
  refine ⟨rfl, Nat.le_add_right _ _, fun a ha hb => ?_, fun a ha => mq_tS_out ha, fun a ha => va_up_ne _ _ (by omega)⟩
  have hb' : a < n0 + 1 := hb
  have e : a = n0 + 0 := by omega
  rw [e, mq_tS_in]
  exact va_up_self _ _ _
set_option maxRecDepth 100000 in
set_option maxHeartbeats 4000000 in
/-- the two constructors -/
theorem mq_begin {M0 : Nat → mq_C} {Q : (Option Value ⊕ Nat) → mq_S → Prop} (k : ∀ M : Nat → mq_C, (∀ a, 8 ≤ a → a < 271 → M a = la_M a) → M 271 = (66, [.long 0]) → (∀ a, a < 8 → M a = M0 a) → mq_R mq_PP 1000 173 23 [some (.ref 0), some (.ref 8), some (.ref 234), some (.ref 271), some (.int 0), none, none] [] (M, 272, 11638) Q) : mq_R mq_PP 1000 173 0 (mq_en mq_PP 173 [.ref 0]) [] (M0, 8, 0) Q := by
  have e0 : mq_en mq_PP 173 [.ref 0] = [some (.ref 0), none, none, none, none, none, none] := rfl
  rw [e0, q173_0, mq_x_new, q173_3, mq_x_dup_ref, q173_4, mq_y_v0 (by rw [va_up_self]) (by decide) (by decide)]
  show mq_R mq_PP 999 0 0 (mq_en mq_PP 0 [.ref 8]) [] _ _
  refine (mq_house (B := M0) (d := 999) (by decide) ?_ _ (mq_xt_one (u := 15))).2
  intro T1 hx1
  obtain ⟨M1, z1, u1⟩ := T1
  have ez : (z1, u1) = (234, 5529) := hx1.1
  cases ez
  show mq_R mq_PP 1000 173 7 _ (none.toList ++ [.ref 8]) (M1, 234, 5529) Q
  rw [show (none : Option Value).toList ++ [Value.ref 8] = [.ref 8] from rfl, q173_7, mq_x_astore1 rfl, q173_8, mq_x_new, q173_11, mq_x_dup_ref, q173_12, mq_y_v0 (by rw [va_up_self]) (by decide) (by decide)]
  show mq_R mq_PP 999 106 0 (mq_en mq_PP 106 [.ref 234]) [] _ _
  refine (mq_model (B := M1) (d := 999) (by decide) ?_ _ (mq_xt_one (u := 5594))).2
  intro T2 hx2
  obtain ⟨M2, z2, u2⟩ := T2
  have ez : (z2, u2) = (271, 11637) := hx2.1
  cases ez
  show mq_R mq_PP 1000 173 15 _ (none.toList ++ [.ref 234]) (M2, 271, 11637) Q
  rw [show (none : Option Value).toList ++ [Value.ref 234] = [.ref 234] from rfl, q173_15, mq_x_astore2 rfl, q173_16, mq_x_iconst, q173_17, mq_x_newarr (by decide), q173_19, mq_x_astore3 rfl, q173_20, mq_x_iconst, q173_21, mq_x_istore4 rfl]
  have a2 : ∀ a, a < 234 → M2 a = M1 a := hx2.2.2.2.2
  have b2 : ∀ a, 234 ≤ a → a < 271 → M2 a = (mq_tS 234 11637 mq_mt2).1 a := fun a h1 h2 => hx2.2.2.1 a h1 h2
  have a1 : ∀ a, a < 8 → M1 a = M0 a := hx1.2.2.2.2
  have b1 : ∀ a, 8 ≤ a → a < 234 → M1 a = (mq_tS 8 5529 mq_ht16).1 a := fun a h1 h2 => hx1.2.2.1 a h1 h2
  refine k _ (fun a h1 h2 => ?_) ?_ (fun a ha => ?_)
  · rw [va_up_ne _ _ (by omega)]
    unfold la_M
    rw [if_neg (by omega), if_neg (by omega)]
    by_cases h : a < 234
    · rw [a2 a h, b1 a h1 h, if_pos h]
      show (if a < 8 then (999, []) else mq_ht16.getD (a - 8) (999, [])) = _
      rw [if_neg (by omega)]
    · rw [b2 a (by omega) h2, if_neg h]
      show (if a < 234 then (999, []) else mq_mt2.getD (a - 234) (999, [])) = _
      rw [if_neg h]
  · rw [va_up_self]
    rfl
  · rw [va_up_ne _ _ (by omega), a2 a (by omega), a1 a ha]
def xTc (M : Nat → mq_C) (c n : Nat) (fl : Nat → Int) (q : Nat → Int) : Bool := ((List.range 16).all fun b => decide (b = 0) || (decide (hv M (c + 1) b = xc fl n b) && decide (q b = xq fl n b))) && (List.range n).all fun i => !(decide (1 ≤ fl i)) || (decide (fl i ≤ 15) && decide (hv M (c + 3) (q (fl i).toNat + hb_cnt (fun j => decide (fl j = fl i)) i).toNat = (i : Int)))
theorem xTc_ok {M : Nat → mq_C} {c n : Nat} {fl : Nat → Int} {q : Nat → Int} (h : xTc M c n fl q = true) : xT M c n fl := by
  obtain ⟨h1, h2⟩ := Bool.and_eq_true_iff.mp h
  have hb : ∀ b, 1 ≤ b → b ≤ 15 → hv M (c + 1) b = xc fl n b ∧ q b = xq fl n b := by
    intro b p q'
    have h3 := List.all_eq_true.mp h1 b (List.mem_range.mpr (by omega))
    rcases Bool.or_eq_true_iff.mp h3 with h4 | h4
    · have := of_decide_eq_true h4
      omega
    · obtain ⟨h5, h6⟩ := Bool.and_eq_true_iff.mp h4
      exact ⟨of_decide_eq_true h5, of_decide_eq_true h6⟩
  refine ⟨fun b p q' => (hb b p q').1, fun i p q' => ?_⟩
  have h3 := List.all_eq_true.mp h2 i (List.mem_range.mpr p)
  rw [decide_eq_true q'] at h3
  obtain ⟨h5, h6⟩ := Bool.and_eq_true_iff.mp (show (decide (fl i ≤ 15) && decide (hv M (c + 3) (q (fl i).toNat + hb_cnt (fun j => decide (fl j = fl i)) i).toNat = (i : Int))) = true from h3)
  have h5 := of_decide_eq_true h5
  have h6 := of_decide_eq_true h6
  unfold xp
  rw [← (hb (fl i).toNat (by omega) (by omega)).2]
  exact h6
theorem xTc_m {M M' : Nat → mq_C} {c n : Nat} {fl : Nat → Int} (h1 : ∀ i, hv M' (c + 1) i = hv M (c + 1) i) (h3 : ∀ i, hv M' (c + 3) i = hv M (c + 3) i) (h : xT M c n fl) : xT M' c n fl := ⟨fun b p q => by rw [h1]; exact h.1 b p q, fun i p q => by rw [h3]; exact h.2 i p q⟩
set_option maxRecDepth 100000 in
theorem la_TL : xTc la_M 24 288 xfL (fun b => if b ≤ 7 then 0 else if b = 8 then 24 else if b = 9 then 176 else 288) = true := by decide +kernel
set_option maxRecDepth 100000 in
theorem la_TD : xTc la_M 28 32 xfD (fun b => if b ≤ 5 then 0 else 32) = true := by decide +kernel
theorem mq_law (L : Nat) (xs : Nat → Int32) (hL : L ≤ 2048) : mq_R mq_PP 1000 173 0 (mq_en mq_PP 173 [.ref 0]) [] (mq_S0 L xs) (fun r S => r = .inl (some (.int 1)) ∧ S.2.1 ≤ room_1.cells + 8 ∧ S.2.2 ≤ room_1.slots) := by
  refine mq_begin (fun M hF h271 hB => ?_)
  have h0 : M 0 = (60, mq_sc L xs) := (hB 0 (by decide)).trans (va_up_self _ _ _)
  have h1 : M 1 = (60, mq_MO) := (hB 1 (by decide)).trans ((va_up_ne _ _ (by decide)).trans (va_up_self _ _ _))
  have hA : ∀ a, a < 271 → (a = 1 ∨ 8 ≤ a) → M a = la_M a := by
    intro a ha h
    rcases h with rfl | h
    · exact h1
    · exact hF a h ha
  have v0 : hv M 8 4 = hv la_M 8 4 := hb_vc (hF 8 (by decide) (by decide)) 4
  have y0 : hv la_M 8 4 = 0 := by decide +kernel
  have v8 : hv M 33 1 = hv la_M 33 1 := hb_vc (hF 33 (by decide) (by decide)) 1
  have y8 : hv la_M 33 1 = 0 := by decide +kernel
  have v9 : hv M 33 3 = hv la_M 33 3 := hb_vc (hF 33 (by decide) (by decide)) 3
  have y9 : hv la_M 33 3 = 0 := by decide +kernel
  have v10 : hv M 33 5 = hv la_M 33 5 := hb_vc (hF 33 (by decide) (by decide)) 5
  have y10 : hv la_M 33 5 = 0 := by decide +kernel
  have v11 : hv M 33 6 = hv la_M 33 6 := hb_vc (hF 33 (by decide) (by decide)) 6
  have y11 : hv la_M 33 6 = 0 := by decide +kernel
  have v12 : hv M 44 0 = hv la_M 44 0 := hb_vc (hF 44 (by decide) (by decide)) 0
  have y12 : hv la_M 44 0 = -1 := by decide +kernel
  have v13 : hv M 44 1 = hv la_M 44 1 := hb_vc (hF 44 (by decide) (by decide)) 1
  have y13 : hv la_M 44 1 = -1 := by decide +kernel
  have v14 : hv M 44 3 = hv la_M 44 3 := hb_vc (hF 44 (by decide) (by decide)) 3
  have y14 : hv la_M 44 3 = 0 := by decide +kernel
  have v17 : hv M 234 15 = hv la_M 234 15 := hb_vc (hF 234 (by decide) (by decide)) 15
  have y17 : hv la_M 234 15 = 0 := by decide +kernel
  have v18 : hv M 234 17 = hv la_M 234 17 := hb_vc (hF 234 (by decide) (by decide)) 17
  have y18 : hv la_M 234 17 = 0 := by decide +kernel
  have v19 : hv M 234 19 = hv la_M 234 19 := hb_vc (hF 234 (by decide) (by decide)) 19
  have y19 : hv la_M 234 19 = 0 := by decide +kernel
  have v24 : hv M 234 30 = hv la_M 234 30 := hb_vc (hF 234 (by decide) (by decide)) 30
  have y24 : hv la_M 234 30 = 0 := by decide +kernel
  have v28 : hv M 234 57 = hv la_M 234 57 := hb_vc (hF 234 (by decide) (by decide)) 57
  have y28 : hv la_M 234 57 = -1 := by decide +kernel
  have v33 : hv M 257 0 = hv la_M 257 0 := hb_vc (hF 257 (by decide) (by decide)) 0
  have y33 : hv la_M 257 0 = 0 := by decide +kernel
  have v47_1 : hv M 47 1 = hv la_M 47 1 := hb_vc (hF 47 (by decide) (by decide)) 1
  have y47_1 : hv la_M 47 1 = 0 := by decide +kernel
  have v58_1 : hv M 58 1 = hv la_M 58 1 := hb_vc (hF 58 (by decide) (by decide)) 1
  have y58_1 : hv la_M 58 1 = 0 := by decide +kernel
  have v69_1 : hv M 69 1 = hv la_M 69 1 := hb_vc (hF 69 (by decide) (by decide)) 1
  have y69_1 : hv la_M 69 1 = 0 := by decide +kernel
  have v80_1 : hv M 80 1 = hv la_M 80 1 := hb_vc (hF 80 (by decide) (by decide)) 1
  have y80_1 : hv la_M 80 1 = 0 := by decide +kernel
  have v236_0 : hv M 236 0 = hv la_M 236 0 := hb_vc (hF 236 (by decide) (by decide)) 0
  have y236_0 : hv la_M 236 0 = 0 := by decide +kernel
  have v236_1 : hv M 236 1 = hv la_M 236 1 := hb_vc (hF 236 (by decide) (by decide)) 1
  have y236_1 : hv la_M 236 1 = 0 := by decide +kernel
  have v236_2 : hv M 236 2 = hv la_M 236 2 := hb_vc (hF 236 (by decide) (by decide)) 2
  have y236_2 : hv la_M 236 2 = 0 := by decide +kernel
  have v236_3 : hv M 236 3 = hv la_M 236 3 := hb_vc (hF 236 (by decide) (by decide)) 3
  have y236_3 : hv la_M 236 3 = 0 := by decide +kernel
  have v237_0 : hv M 237 0 = hv la_M 237 0 := hb_vc (hF 237 (by decide) (by decide)) 0
  have y237_0 : hv la_M 237 0 = 0 := by decide +kernel
  have v237_1 : hv M 237 1 = hv la_M 237 1 := hb_vc (hF 237 (by decide) (by decide)) 1
  have y237_1 : hv la_M 237 1 = 0 := by decide +kernel
  have v237_2 : hv M 237 2 = hv la_M 237 2 := hb_vc (hF 237 (by decide) (by decide)) 2
  have y237_2 : hv la_M 237 2 = 0 := by decide +kernel
  have v237_3 : hv M 237 3 = hv la_M 237 3 := hb_vc (hF 237 (by decide) (by decide)) 3
  have y237_3 : hv la_M 237 3 = 0 := by decide +kernel
  have hg : hb_sum (hn_g M) 6 = 0 := by
    rw [hb_sum_c 6 (g := fun _ => 0) (fun i _ => by unfold hn_g; rw [if_neg (by omega)])]
    rfl
  have hr0 : lr M := by
    refine ⟨by omega, by omega, by omega, by omega, by omega, by omega, by omega, by omega, fun s hs => .inl ?_⟩
    have hs4 : s = 0 ∨ s = 1 ∨ s = 2 ∨ s = 3 := by omega
    rcases hs4 with rfl | rfl | rfl | rfl <;> exact ⟨by omega, by omega⟩
  have hcc : ∀ a, 8 ≤ a → a < 271 → ∀ i, hv M a i = hv la_M a i := fun a p q i => hb_vc (hF a p q) i
  have h60 : l6 M M := by
    refine ⟨fun t ht => by omega, fun t ht => by omega, fun t ht => by omega, fun s hs t ht => ?_, ?_, ?_, h1⟩
    · have hs4 : s = 0 ∨ s = 1 ∨ s = 2 ∨ s = 3 := by omega
      rcases hs4 with rfl | rfl | rfl | rfl <;> omega
    · exact xTc_m (fun i => hcc 25 (by decide) (by decide) i) (fun i => hcc 27 (by decide) (by decide) i) (xTc_ok la_TL)
    · exact xTc_m (fun i => hcc 29 (by decide) (by decide) i) (fun i => hcc 31 (by decide) (by decide) i) (xTc_ok la_TD)
  have hE0 : xEA M := by
    intro s hs
    have hl0 : hv M (47 + 11 * s) 1 = 0 := by
      have hs4 : s = 0 ∨ s = 1 ∨ s = 2 ∨ s = 3 := by omega
      rcases hs4 with rfl | rfl | rfl | rfl
      · show hv M 47 1 = 0; omega
      · show hv M 58 1 = 0; omega
      · show hv M 69 1 = 0; omega
      · show hv M 80 1 = 0; omega
    have hr0' : hv M (47 + 11 * s) 2 = 0 := by
      rw [hcc (47 + 11 * s) (by omega) (by omega)]
      have hs4 : s = 0 ∨ s = 1 ∨ s = 2 ∨ s = 3 := by omega
      rcases hs4 with rfl | rfl | rfl | rfl <;> decide +kernel
    have hno : ∀ b : Nat → Int, xrd b 0 = none := fun b => by
      unfold xrd xsnd
      rw [if_neg (by omega)]
    refine ⟨fun l st hx => ?_, fun _ => hr0'⟩
    unfold xcl at hx
    rw [hl0] at hx
    have hx : xrd (xcbt M s) 0 = some (l, st) := hx
    rw [hno] at hx
    cases hx
  have hLE0 : xLE (cvw M) (mvw M) := by
    have t0 : hv la_M 8 4 = 0 ∧ hv la_M 234 30 = 0 := by decide +kernel
    have t : ∀ i : Fin 4, hv la_M (91 + 5 * i.val) 1 = hv la_M 260 i.val ∧ hv la_M (91 + 5 * i.val) 3 = hv la_M 258 i.val ∧ ∀ j : Fin 4, hv la_M (92 + 5 * i.val) j.val = hv la_M 259 (4 * i.val + j.val) := by decide +kernel
    have c0 : hv M 8 4 = 0 := (hcc 8 (by decide) (by decide) 4).trans t0.1
    have c1 : hv M 234 30 = 0 := (hcc 234 (by decide) (by decide) 30).trans t0.2
    refine ⟨c0.trans c1.symm, fun i hi => ⟨fun h => ?_, ?_, ?_, fun j hj => ?_⟩⟩
    · have h : (i : Int) < hv M 8 4 := h
      omega
    · show hv M (91 + 5 * i) 1 = hv M 260 i
      rw [hcc (91 + 5 * i) (by omega) (by omega), hcc 260 (by decide) (by decide)]
      exact (t ⟨i, hi⟩).1
    · show hv M (91 + 5 * i) 3 = hv M 258 i
      rw [hcc (91 + 5 * i) (by omega) (by omega), hcc 258 (by decide) (by decide)]
      exact (t ⟨i, hi⟩).2.1
    · show hv M (92 + 5 * i) j = hv M 259 (4 * i + j)
      rw [hcc (92 + 5 * i) (by omega) (by omega), hcc 259 (by decide) (by decide)]
      exact (t ⟨i, hi⟩).2.2 ⟨j, hj⟩
  refine mq_R_mono (lo_loop (N := L) (xs := xs) hL 512 0 0 M 272 11638 none none (by omega) (by omega) rfl (by omega) (by omega) (by omega) ⟨la_sh hA, la_x hA, ⟨by omega, by omega, by omega, by omega, by omega, by omega⟩, ⟨hr0, h60, hE0, hLE0⟩, h0, _, h271⟩) ?_
  intro r S hQ
  exact ⟨hQ.1, Nat.le_trans hQ.2.1 (by decide), Nat.le_trans hQ.2.2 (by decide)⟩
