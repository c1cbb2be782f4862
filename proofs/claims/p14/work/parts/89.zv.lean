/-! The law's own steps and its helpers (printed by b_law2.py). -/
section LB
variable {d k pc n z u : Nat} {L : mq_L} {st : List Value} {M : Nat → mq_C} {Q : (Option Value ⊕ Nat) → mq_S → Prop}
theorem lb_ld {N m : Nat} {xs : Nat → Int32} {i : Int32} (h0 : M 0 = (60, mq_sc N xs)) (hat : mq_at mq_PP k pc = some (58, [n, 64], [])) (hi : i.toInt = (m : Int)) (hm : m < N) (h : mq_R mq_PP d k n L (.int (xs m) :: st) (M, z, u) Q) : mq_R mq_PP d k pc L (.int i :: .ref 0 :: st) (M, z, u) Q := by
  have e : i.toNatClampNeg = m := by
    show i.toInt.toNat = m
    omega
  rw [mq_R_at hat, mq_x_aldo (v := .int (xs m)) h0 (by rw [Int32.lt_iff_toInt_lt, hi]; show ¬ (m : Int) < 0; omega) (by
    rw [e]
    unfold mq_sc
    rw [List.getElem?_map, List.getElem?_range hm]
    rfl) rfl]
  exact h
theorem lb_len {N : Nat} {xs : Nat → Int32} (h0 : M 0 = (60, mq_sc N xs)) (hN : N ≤ 2048) (hat : mq_at mq_PP k pc = some (57, [n], [])) (h : ∀ v : Int32, v.toInt = (N : Int) → mq_R mq_PP d k n L (.int v :: st) (M, z, u) Q) : mq_R mq_PP d k pc L (.ref 0 :: st) (M, z, u) Q := by
  rw [mq_R_at hat, mq_x_alen h0 rfl]
  refine h _ ?_
  have e : (mq_sc N xs).length = N := by unfold mq_sc; rw [List.length_map, List.length_range]
  rw [e]
  exact Int32.toInt_ofNat_of_lt (by omega)
theorem lb_i2l {x : Int32} (hat : mq_at mq_PP k pc = some (31, [n], [])) (h : ∀ w : Int64, mq_R mq_PP d k n L (.long w :: st) (M, z, u) Q) : mq_R mq_PP d k pc L (.int x :: st) (M, z, u) Q := he_go hat rfl (h _)
theorem lb_lconst {c : Int} (hat : mq_at mq_PP k pc = some (1, [n], [c])) (h : ∀ w : Int64, mq_R mq_PP d k n L (.long w :: st) (M, z, u) Q) : mq_R mq_PP d k pc L st (M, z, u) Q := he_go hat rfl (h _)
theorem lb_land {x y : Int64} (hat : mq_at mq_PP k pc = some (24, [n], [])) (h : ∀ w : Int64, mq_R mq_PP d k n L (.long w :: st) (M, z, u) Q) : mq_R mq_PP d k pc L (.long y :: .long x :: st) (M, z, u) Q := he_go hat rfl (h _)
theorem lb_lor {x y : Int64} (hat : mq_at mq_PP k pc = some (25, [n], [])) (h : ∀ w : Int64, mq_R mq_PP d k n L (.long w :: st) (M, z, u) Q) : mq_R mq_PP d k pc L (.long y :: .long x :: st) (M, z, u) Q := he_go hat rfl (h _)
theorem lb_lshl {x : Int64} {y : Int32} (hat : mq_at mq_PP k pc = some (27, [n], [])) (h : ∀ w : Int64, mq_R mq_PP d k n L (.long w :: st) (M, z, u) Q) : mq_R mq_PP d k pc L (.int y :: .long x :: st) (M, z, u) Q := he_go hat rfl (h _)
theorem lb_lst {w w0 : Int64} {i : Int32} (hat : mq_at mq_PP k pc = some (59, [n, 66], [])) (h2 : M 271 = (66, [.long w0])) (hi : i.toInt = 0) (h : mq_R mq_PP d k n L st (va_up M 271 (66, [.long w]), z, u) Q) : mq_R mq_PP d k pc L (.long w :: .int i :: .ref 271 :: st) (M, z, u) Q := by
  have e : i.toNatClampNeg = 0 := by
    show i.toInt.toNat = 0
    omega
  rw [mq_R_at hat, mq_x_ast h2 (by rw [Int32.lt_iff_toInt_lt, hi]; decide) (by rw [e]; exact Nat.zero_lt_one) rfl (Or.inl (by decide)), e]
  exact h
theorem lb_s4 {j mx : Nat} {ns : List Nat} {v0 v1 v2 v3 : Value} (hat : mq_at mq_PP k pc = some (60, n :: j :: 4 :: mx :: ns, [])) (hw : mq_wt st ≤ 8) (hm : (mq_sp [v0, v1, v2, v3]).length ≤ mx) (h : mq_R mq_PP d j 0 (mq_en mq_PP j [v0, v1, v2, v3]) [] (M, z, u) (mq_after mq_PP (d + 1) k pc n L st Q)) : mq_R mq_PP (d + 1) k pc L (v3 :: v2 :: v1 :: v0 :: st) (M, z, u) Q := by
  rw [mq_R_at hat, mq_y_s4 hw hm]
  exact h
theorem lb_catch {h a kind : Nat} (hk : (M a).1 = kind) (hh : mq_hd mq_PP k pc kind = some h) (hr : mq_R mq_PP d k h L [.ref a] (M, z, u) Q) : mq_after mq_PP d k pc n L st Q (.inr a) (M, z, u) := by
  rw [mq_y_afterx, hk, hh]
  exact hr
end LB
theorem lb_hv {M : Nat → mq_C} {c : mq_C} {a i : Nat} (h : ¬ a = 271) : hv (va_up M 271 c) a i = hv M a i := hb_vc (va_up_ne _ _ h) i
theorem lb_sh {M : Nat → mq_C} {c : mq_C} (hm : mz_sh mz_GG M) : mz_sh mz_GG (va_up M 271 c) := by
  intro a e he
  have ha : a < 272 := hb_okG.2.2.2.2 a e he
  have k : ∀ i : Fin 272, (mz_GG.1 i.val).isSome = true → ¬ i.val = 271 := by decide +kernel
  have hn : ¬ a = 271 := k ⟨a, ha⟩ (by show (mz_GG.1 a).isSome = true; rw [he]; rfl)
  rw [va_up_ne _ _ hn]
  exact hm a e he
theorem lb_x {M : Nat → mq_C} {c : mq_C} (hx : HX M) : HX (va_up M 271 c) := by
  refine HX_same _ _ ⟨fun a ha => va_up_ne _ _ ?_, fun t ht => ?_⟩ hx
  · intro e
    subst e
    exact absurd ha (by decide +kernel)
  · have k : ∀ t ∈ mz_frzl, ¬ t.1 = 271 := by decide
    rw [va_up_ne _ _ (k t ht)]
theorem lb_w {M : Nat → mq_C} {c : mq_C} (hl : lw M) : lw (va_up M 271 c) := by
  unfold lw at hl ⊢
  simp (decide := true) only [lb_hv]
  exact hl
theorem lb_c6 {M M' : Nat → mq_C} {c : mq_C} (h : c6_kp M M' ∧ c6_al M M') (h2 : l6tb M M') (h3 : x47 M M') : (c6_kp M (va_up M' 271 c) ∧ c6_al M (va_up M' 271 c)) ∧ l6tb M (va_up M' 271 c) ∧ x47 M (va_up M' 271 c) := by
  refine ⟨⟨⟨?_, ?_, ?_⟩, fun s hs => ?_⟩, fun a p q => ?_, fun b p q => ?_⟩
  · rw [va_up_ne _ _ (by decide)]; exact h.1.1
  · rw [va_up_ne _ _ (by decide)]; exact h.1.2.1
  · rw [va_up_ne _ _ (by decide)]; exact h.1.2.2
  · rw [va_up_ne _ _ (by omega)]; exact h.2 s hs
  · rw [va_up_ne _ _ (by omega)]; exact h2 a p q
  · rw [va_up_ne _ _ (by omega)]; exact h3 b p q
theorem lb_cs {M M' : Nat → mq_C} {c : mq_C} (h : lcs M M') : lcs M (va_up M' 271 c) := by
  unfold lcs lx_ls at h ⊢
  simp (decide := true) only [lb_hv]
  exact h
theorem lb_lk {M M' : Nat → mq_C} {c : mq_C} (h : xLK (cvw M) (cvw M')) : xLK (cvw M) (cvw (va_up M' 271 c)) := xLK_t h (xLK_c (hb_vc (va_up_ne _ _ (by decide)) 4) (fun i hi => ⟨va_up_ne _ _ (by omega), va_up_ne _ _ (by omega)⟩))
theorem lh_load {d z u : Nat} {M : Nat → mq_C} {Q : (Option Value ⊕ Nat) → mq_S → Prop} {x1 : Int32} {x2 : Int32} (hd : 162 ≤ d) (hz : 272 ≤ z) (hm : mz_sh mz_GG M) (hx : HX M) (hl : lw M) {w0 : Int64} (h2 : M 271 = (66, [.long w0]))
    (k : ∀ (M' : Nat → mq_C) (z' u' : Nat) (r : Int32) (w : Int64), z ≤ z' → z' ≤ z + 1 → u' ≤ u + 6 → mz_sh mz_GG M' → HX M' → lw M' → (∀ a, a < 8 → M' a = M a) → M' 271 = (66, [.long w]) → (∀ a, 234 ≤ a → a < 271 → M' a = M a) → lcs M M' → (c6_kp M M' ∧ c6_al M M') → l6tb M M' → x47 M M' → xLK (cvw M) (cvw M') → Q (.inl (some (.int r))) (M', z', u')) : mq_R mq_PP d 170 0 [some (.ref 8), some (.int x1), some (.int x2), some (.ref 271), none] [] (M, z, u) Q := by
  obtain ⟨d, rfl⟩ : ∃ e, d = e + 1 := ⟨d - 1, by omega⟩
  refine he_aload (n := 1) (i := 3) (by decide +kernel) rfl ?_
  refine he_iconst (n := 2) (c := 0) (by decide +kernel) (by decide) ?_
  intro c1 hc1
  refine he_aload (n := 3) (i := 0) (by decide +kernel) rfl ?_
  refine he_iload (n := 4) (i := 1) (by decide +kernel) rfl ?_
  refine he_iload (n := 5) (i := 2) (by decide +kernel) rfl ?_
  refine he_v2 (n := 8) (j := 9) (ci := 0) (mx := 4) (ns := [3165, 3166, 3167, 7]) (by decide +kernel) ((hb_kd (a := 8) hm rfl).trans rfl) (by show 2 ≤ 8; omega) (by show 3 ≤ 4; omega) ?_
  rw [mq_e9]
  refine lv_load (by omega) hz hm hx hl ?_ ?_
  · intro M' r b1 b2 b3 b4 b5 q0 q1 q2 q3 q4 q5
    show mq_R mq_PP (d + 1) 170 8 _ [.int r, .int c1, .ref 271] (M', z, u) Q
    refine lb_i2l (n := 9) (by decide +kernel) ?_
    intro w
    refine lb_lst (n := 10) (by decide +kernel) (b5.trans h2) hc1 ?_
    refine he_goto (t := 33) (by decide +kernel) ?_
    refine he_iconst (n := 34) (c := 0) (by decide +kernel) (by decide) ?_
    intro c1 hc1
    refine he_reti (by decide +kernel) ?_
    exact k _ z u c1 w (Nat.le_refl _) (by omega) (by omega) (lb_sh b1) (lb_x b2) (lb_w b3) (fun a ha => (va_up_ne _ _ (by omega)).trans (b4 a ha)) (va_up_self _ _ _) (fun a h1 h2 => (va_up_ne _ _ (by omega)).trans (q0 a h1 h2)) (lb_cs q1) (lb_c6 q2 q3 q4).1 (lb_c6 q2 q3 q4).2.1 (lb_c6 q2 q3 q4).2.2 (lb_lk q5)
  · intro M' b1 b2 b3 b4 b5 q0 q1 q2 q3 q4 q5 hk
    rcases hk with hk | hk | hk | hk | hk
    · refine lb_catch (h := 13) hk (by decide +kernel) ?_
      refine he_astore (n := 15) (i := 4) (by decide +kernel) rfl ?_
      refine he_iconst (n := 16) (c := 1) (by decide +kernel) (by decide) ?_
      intro c1 hc1
      refine he_reti (by decide +kernel) ?_
      exact k M' (z + 1) (u + 6) c1 w0 (by omega) (by omega) (by omega) b1 b2 b3 b4 (b5.trans h2) q0 q1 q2 q3 q4 q5
    · refine lb_catch (h := 17) hk (by decide +kernel) ?_
      refine he_astore (n := 19) (i := 4) (by decide +kernel) rfl ?_
      refine he_iconst (n := 20) (c := 2) (by decide +kernel) (by decide) ?_
      intro c1 hc1
      refine he_reti (by decide +kernel) ?_
      exact k M' (z + 1) (u + 6) c1 w0 (by omega) (by omega) (by omega) b1 b2 b3 b4 (b5.trans h2) q0 q1 q2 q3 q4 q5
    · refine lb_catch (h := 21) hk (by decide +kernel) ?_
      refine he_astore (n := 23) (i := 4) (by decide +kernel) rfl ?_
      refine he_iconst (n := 24) (c := 3) (by decide +kernel) (by decide) ?_
      intro c1 hc1
      refine he_reti (by decide +kernel) ?_
      exact k M' (z + 1) (u + 6) c1 w0 (by omega) (by omega) (by omega) b1 b2 b3 b4 (b5.trans h2) q0 q1 q2 q3 q4 q5
    · refine lb_catch (h := 25) hk (by decide +kernel) ?_
      refine he_astore (n := 27) (i := 4) (by decide +kernel) rfl ?_
      refine he_iconst (n := 28) (c := 4) (by decide +kernel) (by decide) ?_
      intro c1 hc1
      refine he_reti (by decide +kernel) ?_
      exact k M' (z + 1) (u + 6) c1 w0 (by omega) (by omega) (by omega) b1 b2 b3 b4 (b5.trans h2) q0 q1 q2 q3 q4 q5
    · refine lb_catch (h := 29) hk (by decide +kernel) ?_
      refine he_astore (n := 31) (i := 4) (by decide +kernel) rfl ?_
      refine he_iconst (n := 32) (c := 5) (by decide +kernel) (by decide) ?_
      intro c1 hc1
      refine he_reti (by decide +kernel) ?_
      exact k M' (z + 1) (u + 6) c1 w0 (by omega) (by omega) (by omega) b1 b2 b3 b4 (b5.trans h2) q0 q1 q2 q3 q4 q5
theorem lh_services {d z u : Nat} {M : Nat → mq_C} {Q : (Option Value ⊕ Nat) → mq_S → Prop} {x1 : Int32} {x2 : Int32} (hd : 162 ≤ d) (hz : 272 ≤ z) (hm : mz_sh mz_GG M) (hx : HX M) (hl : lw M) {w0 : Int64} (h2 : M 271 = (66, [.long w0]))
    (k : ∀ (M' : Nat → mq_C) (z' u' : Nat) (r : Int32) (w : Int64), z ≤ z' → z' ≤ z + 1 → u' ≤ u + 6 → mz_sh mz_GG M' → HX M' → lw M' → (∀ a, a < 8 → M' a = M a) → M' 271 = (66, [.long w]) → (∀ a, 234 ≤ a → a < 271 → M' a = M a) → lcs M M' → (c6_kp M M' ∧ c6_al M M') → l6tb M M' → x47 M M' → xLK (cvw M) (cvw M') → Q (.inl (some (.int r))) (M', z', u')) : mq_R mq_PP d 171 0 [some (.ref 8), some (.int x1), some (.int x2), some (.ref 271), none] [] (M, z, u) Q := by
  obtain ⟨d, rfl⟩ : ∃ e, d = e + 1 := ⟨d - 1, by omega⟩
  refine he_aload (n := 1) (i := 3) (by decide +kernel) rfl ?_
  refine he_iconst (n := 2) (c := 0) (by decide +kernel) (by decide) ?_
  intro c1 hc1
  refine he_aload (n := 3) (i := 0) (by decide +kernel) rfl ?_
  refine he_iload (n := 4) (i := 1) (by decide +kernel) rfl ?_
  refine he_iload (n := 5) (i := 2) (by decide +kernel) rfl ?_
  refine he_v2 (n := 8) (j := 15) (ci := 0) (mx := 4) (ns := [4128, 4129, 4130, 23]) (by decide +kernel) ((hb_kd (a := 8) hm rfl).trans rfl) (by show 2 ≤ 8; omega) (by show 3 ≤ 4; omega) ?_
  rw [mq_e15]
  refine lv_services (by omega) hz hm hx hl ?_ ?_
  · intro M' r b1 b2 b3 b4 b5 q0 q1 q2 q3 q4 q5
    show mq_R mq_PP (d + 1) 171 8 _ [.int r, .int c1, .ref 271] (M', z, u) Q
    refine lb_i2l (n := 9) (by decide +kernel) ?_
    intro w
    refine lb_lst (n := 10) (by decide +kernel) (b5.trans h2) hc1 ?_
    refine he_goto (t := 33) (by decide +kernel) ?_
    refine he_iconst (n := 34) (c := 0) (by decide +kernel) (by decide) ?_
    intro c1 hc1
    refine he_reti (by decide +kernel) ?_
    exact k _ z u c1 w (Nat.le_refl _) (by omega) (by omega) (lb_sh b1) (lb_x b2) (lb_w b3) (fun a ha => (va_up_ne _ _ (by omega)).trans (b4 a ha)) (va_up_self _ _ _) (fun a h1 h2 => (va_up_ne _ _ (by omega)).trans (q0 a h1 h2)) (lb_cs q1) (lb_c6 q2 q3 q4).1 (lb_c6 q2 q3 q4).2.1 (lb_c6 q2 q3 q4).2.2 (lb_lk q5)
  · intro M' b1 b2 b3 b4 b5 q0 q1 q2 q3 q4 q5 hk
    rcases hk with hk | hk | hk | hk | hk
    · refine lb_catch (h := 13) hk (by decide +kernel) ?_
      refine he_astore (n := 15) (i := 4) (by decide +kernel) rfl ?_
      refine he_iconst (n := 16) (c := 1) (by decide +kernel) (by decide) ?_
      intro c1 hc1
      refine he_reti (by decide +kernel) ?_
      exact k M' (z + 1) (u + 6) c1 w0 (by omega) (by omega) (by omega) b1 b2 b3 b4 (b5.trans h2) q0 q1 q2 q3 q4 q5
    · refine lb_catch (h := 17) hk (by decide +kernel) ?_
      refine he_astore (n := 19) (i := 4) (by decide +kernel) rfl ?_
      refine he_iconst (n := 20) (c := 2) (by decide +kernel) (by decide) ?_
      intro c1 hc1
      refine he_reti (by decide +kernel) ?_
      exact k M' (z + 1) (u + 6) c1 w0 (by omega) (by omega) (by omega) b1 b2 b3 b4 (b5.trans h2) q0 q1 q2 q3 q4 q5
    · refine lb_catch (h := 21) hk (by decide +kernel) ?_
      refine he_astore (n := 23) (i := 4) (by decide +kernel) rfl ?_
      refine he_iconst (n := 24) (c := 3) (by decide +kernel) (by decide) ?_
      intro c1 hc1
      refine he_reti (by decide +kernel) ?_
      exact k M' (z + 1) (u + 6) c1 w0 (by omega) (by omega) (by omega) b1 b2 b3 b4 (b5.trans h2) q0 q1 q2 q3 q4 q5
    · refine lb_catch (h := 25) hk (by decide +kernel) ?_
      refine he_astore (n := 27) (i := 4) (by decide +kernel) rfl ?_
      refine he_iconst (n := 28) (c := 4) (by decide +kernel) (by decide) ?_
      intro c1 hc1
      refine he_reti (by decide +kernel) ?_
      exact k M' (z + 1) (u + 6) c1 w0 (by omega) (by omega) (by omega) b1 b2 b3 b4 (b5.trans h2) q0 q1 q2 q3 q4 q5
    · refine lb_catch (h := 29) hk (by decide +kernel) ?_
      refine he_astore (n := 31) (i := 4) (by decide +kernel) rfl ?_
      refine he_iconst (n := 32) (c := 5) (by decide +kernel) (by decide) ?_
      intro c1 hc1
      refine he_reti (by decide +kernel) ?_
      exact k M' (z + 1) (u + 6) c1 w0 (by omega) (by omega) (by omega) b1 b2 b3 b4 (b5.trans h2) q0 q1 q2 q3 q4 q5
theorem lh_next {d z u : Nat} {M : Nat → mq_C} {Q : (Option Value ⊕ Nat) → mq_S → Prop}  (hd : 162 ≤ d) (hz : 272 ≤ z) (hm : mz_sh mz_GG M) (hx : HX M) (hl : lw M) {w0 : Int64} (h2 : M 271 = (66, [.long w0]))
    (k : ∀ (M' : Nat → mq_C) (z' u' : Nat) (r : Int32) (w : Int64), z ≤ z' → z' ≤ z + 1 → u' ≤ u + 6 → mz_sh mz_GG M' → HX M' → lw M' → (∀ a, a < 8 → M' a = M a) → M' 271 = (66, [.long w]) → (∀ a, 234 ≤ a → a < 271 → M' a = M a) → lcs M M' → (c6_kp M M' ∧ c6_al M M') → l6tb M M' → x47 M M' → xLK (cvw M) (cvw M') → Q (.inl (some (.int r))) (M', z', u')) : mq_R mq_PP d 172 0 [some (.ref 8), some (.ref 271), none] [] (M, z, u) Q := by
  obtain ⟨d, rfl⟩ : ∃ e, d = e + 1 := ⟨d - 1, by omega⟩
  refine he_aload (n := 1) (i := 1) (by decide +kernel) rfl ?_
  refine he_iconst (n := 2) (c := 0) (by decide +kernel) (by decide) ?_
  intro c1 hc1
  refine he_aload (n := 3) (i := 0) (by decide +kernel) rfl ?_
  refine he_v0 (n := 6) (j := 16) (ci := 0) (mx := 3) (ns := [4139, 4140, 4141, 26]) (by decide +kernel) ((hb_kd (a := 8) hm rfl).trans rfl) (by show 2 ≤ 8; omega) (by show 1 ≤ 3; omega) ?_
  rw [mq_e16]
  refine lv_next (by omega) hz hm hx hl ?_ ?_
  · intro M' r b1 b2 b3 b4 b5 q0 q1 q2 q3 q4 q5
    show mq_R mq_PP (d + 1) 172 6 _ [.int r, .int c1, .ref 271] (M', z, u) Q
    refine lb_i2l (n := 7) (by decide +kernel) ?_
    intro w
    refine lb_lst (n := 8) (by decide +kernel) (b5.trans h2) hc1 ?_
    refine he_goto (t := 14) (by decide +kernel) ?_
    refine he_iconst (n := 15) (c := 0) (by decide +kernel) (by decide) ?_
    intro c1 hc1
    refine he_reti (by decide +kernel) ?_
    exact k _ z u c1 w (Nat.le_refl _) (by omega) (by omega) (lb_sh b1) (lb_x b2) (lb_w b3) (fun a ha => (va_up_ne _ _ (by omega)).trans (b4 a ha)) (va_up_self _ _ _) (fun a h1 h2 => (va_up_ne _ _ (by omega)).trans (q0 a h1 h2)) (lb_cs q1) (lb_c6 q2 q3 q4).1 (lb_c6 q2 q3 q4).2.1 (lb_c6 q2 q3 q4).2.2 (lb_lk q5)
  · intro M' b1 b2 b3 b4 b5 q0 q1 q2 q3 q4 q5 hk
    refine lb_catch (h := 11) hk (by decide +kernel) ?_
    refine he_astore (n := 12) (i := 2) (by decide +kernel) rfl ?_
    refine he_iconst (n := 13) (c := 1) (by decide +kernel) (by decide) ?_
    intro c1 hc1
    refine he_reti (by decide +kernel) ?_
    exact k M' (z + 1) (u + 6) c1 w0 (by omega) (by omega) (by omega) b1 b2 b3 b4 (b5.trans h2) q0 q1 q2 q3 q4 q5
