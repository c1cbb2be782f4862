/-! The record for a name. -/
def xfn (f : Nat → Int) (x : Int) : Nat → Nat → Int
  | 0, _ => -1
  | m + 1, j => if f j = x then (j : Int) else xfn f x m (j + 1)
theorem xfn_s {f : Nat → Int} {x : Int} : ∀ (m j : Nat), (∃ k : Nat, j ≤ k ∧ k < j + m ∧ xfn f x m j = (k : Int) ∧ f k = x ∧ ∀ i, j ≤ i → i < k → ¬ f i = x) ∨ (xfn f x m j = -1 ∧ ∀ i, j ≤ i → i < j + m → ¬ f i = x) := by
  intro m
  induction m with
  | zero => intro j; exact .inr ⟨rfl, fun i h1 h2 => by omega⟩
  | succ m ih =>
    intro j
    by_cases h : f j = x
    · refine .inl ⟨j, Nat.le_refl _, by omega, ?_, h, fun i h1 h2 => by omega⟩
      show (if f j = x then (j : Int) else _) = _
      rw [if_pos h]
    · have e : xfn f x (m + 1) j = xfn f x m (j + 1) := by
        show (if f j = x then (j : Int) else _) = _
        rw [if_neg h]
      rw [e]
      rcases ih (j + 1) with ⟨k, k1, k2, k3, k4, k5⟩ | ⟨k1, k2⟩
      · refine .inl ⟨k, by omega, by omega, k3, k4, fun i h1 h2 => ?_⟩
        by_cases q : i = j
        · rw [q]; exact h
        · exact k5 i (by omega) h2
      · refine .inr ⟨k1, fun i h1 h2 => ?_⟩
        by_cases q : i = j
        · rw [q]; exact h
        · exact k2 i (by omega) (by omega)
theorem xfn_e {f : Nat → Int} {n : Nat} {x r : Int} (h : xfs f n x r) : r = xfn f x n 0 := by
  refine xfs_d (f := f) (g := f) (fun _ _ => rfl) h ?_
  rcases xfn_s (f := f) (x := x) n 0 with ⟨k, k1, k2, k3, k4, k5⟩ | ⟨k1, k2⟩
  · exact .inl ⟨k, by omega, k3, k4, fun i hi => k5 i (Nat.zero_le _) hi⟩
  · exact .inr ⟨k1, fun i hi => k2 i (Nat.zero_le _) (by omega)⟩
theorem xfn_c {f g : Nat → Int} {x : Int} : ∀ (m j : Nat), (∀ i, j ≤ i → i < j + m → f i = g i) → xfn f x m j = xfn g x m j := by
  intro m
  induction m with
  | zero => intro j _; rfl
  | succ m ih =>
    intro j h
    show (if f j = x then (j : Int) else xfn f x m (j + 1)) = (if g j = x then (j : Int) else xfn g x m (j + 1))
    rw [h j (Nat.le_refl _) (by omega), ih (j + 1) (fun i h1 h2 => h i (by omega) (by omega))]
def xn8 (x : Int32) (c : Int) : Int32 := (x <<< (Int32.ofInt 8 &&& 31)) ||| Int32.ofInt c
def xrfor (f : Nat → Int) (n : Nat) (vb : Int) (x : Int32) : Int :=
  if vb = 1 ∧ x.toInt < 16777216 then (if xfn f (xn8 x 51).toInt n 0 = -1 then (if xfn f (xn8 x 50).toInt n 0 = -1 then xfn f x.toInt n 0 else xfn f (xn8 x 50).toInt n 0) else xfn f (xn8 x 51).toInt n 0) else xfn f x.toInt n 0
theorem xrfor_c {f g : Nat → Int} {n : Nat} {vb : Int} {x : Int32} (h : ∀ i, i < n → f i = g i) : xrfor f n vb x = xrfor g n vb x := by
  unfold xrfor
  rw [xfn_c (g := g) n 0 (fun i _ h2 => h i (by omega)), xfn_c (g := g) (x := (xn8 x 50).toInt) n 0 (fun i _ h2 => h i (by omega)), xfn_c (g := g) (x := x.toInt) n 0 (fun i _ h2 => h i (by omega))]
theorem xo_rf47 {d z u n : Nat} {M : Nat → mq_C} {Q : (Option Value ⊕ Nat) → mq_S → Prop} {x1 : Int32} (hm : mz_sh mz_GG M) (hn : hv M 47 4 = (n : Int)) (h0 : 0 ≤ x1.toInt) (K : ∀ r : Int32, r.toInt = xrfor (hv M 52) n (hv M 49 0) x1 → Q (.inl (some (.int r))) (M, z, u)) : mq_R mq_PP (d + 1) 50 0 [some (.ref 47), some (.int x1), none] [] (M, z, u) Q := by
  refine he_iconst (n := 1) (c := -1) (by decide +kernel) (by decide) ?_
  intro c0 hc0
  refine he_istore (n := 2) (i := 2) (by decide +kernel) rfl ?_
  refine he_aload (n := 3) (i := 0) (by decide +kernel) rfl ?_
  refine he_getr (n := 6) (ci := 1) (j := 3) (ns := [1222, 26]) (b := 49) hm (by decide +kernel) rfl rfl (by decide +kernel) ?_
  refine hb_gfd (n := 9) (ci := 7) (j := 0) (ns := [1189, 83]) hm (by decide +kernel) rfl rfl (by decide) rfl ?_
  intro v6 hv6 lv6 uv6
  unfold xrfor at K
  have last : ∀ (x2 : Int32), x2.toInt = -1 → (∀ r : Int32, r.toInt = xfn (hv M 52) x1.toInt n 0 → Q (.inl (some (.int r))) (M, z, u)) → mq_R mq_PP (d + 1) 50 48 [some (.ref 47), some (.int x1), some (.int x2)] [] (M, z, u) Q := by
    intro x2 h2 K
    refine he_iload (n := 49) (i := 2) (by decide +kernel) rfl ?_
    refine he_iconst (n := 50) (c := -1) (by decide +kernel) (by decide) ?_
    intro cl49 hcl49
    refine he_cmpne_f (n := 53) (t := 61) (by decide +kernel) (by omega) ?_
    refine he_aload (n := 54) (i := 0) (by decide +kernel) rfl ?_
    refine he_iload (n := 55) (i := 1) (by decide +kernel) rfl ?_
    refine he_v1 (n := 58) (j := 51) (ci := 1) (mx := 3) (ns := [3030, 3032, 18, 58]) (by decide +kernel) ((hb_kd (a := 47) hm rfl).trans rfl) (by show 0 ≤ 8; omega) (by show 2 ≤ 3; omega) ?_
    rw [mq_e51]
    refine xo_rn47 (n := n) hm hn ?_
    intro r hr
    show mq_R mq_PP (d + 1) 50 58 _ [.int r] (M, z, u) Q
    refine he_goto (t := 62) (by decide +kernel) ?_
    refine he_reti (by decide +kernel) ?_
    exact K r (xfn_e hr)
  by_cases g9 : v6.toInt = 0
  · rw [if_neg (by omega)] at K
    refine he_ifeq_t (n := 12) (t := 48) (by decide +kernel) (by omega) ?_
    exact last _ (by omega) K
  refine he_ifeq_f (n := 12) (t := 48) (by decide +kernel) (by omega) ?_
  refine he_iload (n := 13) (i := 1) (by decide +kernel) rfl ?_
  refine he_iconst (n := 15) (c := 24) (by decide +kernel) (by decide) ?_
  intro c13 hc13
  refine he_ex2 (o := 17) (n := 16) (by decide +kernel) rfl ?_
  intro v15 hv15
  have ev15 : v15 = (x1.toUInt32 >>> (c13.toUInt32 &&& Int32.toUInt32 31)).toInt32 := hv15
  have bv15 := mz_i32 v15
  have hun := mz_ush_un (X := x1) (Y := c13) (k := 24) (by omega) (by omega)
  rw [← ev15] at hun
  have p24 : (2 : Nat) ^ 24 = 16777216 := by decide
  rw [p24] at hun
  have hx := mz_un_p (x := x1) h0
  have h15 := mz_un_ti (x := v15)
  by_cases g16 : x1.toInt < 16777216
  rotate_left
  · rw [if_neg (by omega)] at K
    refine he_ifne_t (n := 19) (t := 48) (by decide +kernel) (by
      have : mz_un v15 ≠ 0 := by omega
      split at h15 <;> omega) ?_
    exact last _ (by omega) K
  have hv01 : hv M 49 0 = 1 := by omega
  rw [if_pos ⟨hv01, g16⟩] at K
  refine he_ifne_f (n := 19) (t := 48) (by decide +kernel) (by
      have : mz_un v15 = 0 := by omega
      split at h15 <;> omega) ?_
  refine he_aload (n := 20) (i := 0) (by decide +kernel) rfl ?_
  refine he_iload (n := 21) (i := 1) (by decide +kernel) rfl ?_
  refine he_iconst (n := 23) (c := 8) (by decide +kernel) (by decide) ?_
  intro c21 hc21
  refine he_ex2 (o := 15) (n := 24) (by decide +kernel) rfl ?_
  intro v23 hv23
  have ev23 : v23 = x1 <<< (c21 &&& 31) := hv23
  have bv23 := mz_i32 v23
  refine he_iconst (n := 26) (c := 51) (by decide +kernel) (by decide) ?_
  intro c24 hc24
  refine he_ex2 (o := 13) (n := 27) (by decide +kernel) rfl ?_
  intro v26 hv26
  have ev26 : v26 = v23 ||| c24 := hv26
  have bv26 := mz_i32 v26
  have e3 : v26 = xn8 x1 51 := by rw [ev26, ev23, show c21 = Int32.ofInt 8 from xe_oi (by omega), show c24 = Int32.ofInt 51 from xe_oi (by omega)]; rfl
  refine he_v1 (n := 30) (j := 51) (ci := 1) (mx := 3) (ns := [3030, 3032, 18, 58]) (by decide +kernel) ((hb_kd (a := 47) hm rfl).trans rfl) (by show 0 ≤ 8; omega) (by show 2 ≤ 3; omega) ?_
  rw [mq_e51]
  refine xo_rn47 (n := n) hm hn ?_
  intro r3 hr3
  have hr3 := xfn_e hr3
  rw [e3] at hr3
  show mq_R mq_PP (d + 1) 50 30 _ [.int r3] (M, z, u) Q
  rw [← hr3] at K
  by_cases g33 : r3.toInt = -1
  rotate_left
  · rw [if_neg g33] at K
    refine he_istore (n := 31) (i := 2) (by decide +kernel) rfl ?_
    refine he_iload (n := 32) (i := 2) (by decide +kernel) rfl ?_
    refine he_iconst (n := 33) (c := -1) (by decide +kernel) (by decide) ?_
    intro cb32 hcb32
    refine he_cmpne_t (n := 36) (t := 48) (by decide +kernel) (by omega) ?_
    refine he_iload (n := 49) (i := 2) (by decide +kernel) rfl ?_
    refine he_iconst (n := 50) (c := -1) (by decide +kernel) (by decide) ?_
    intro cb49 hcb49
    refine he_cmpne_t (n := 53) (t := 61) (by decide +kernel) (by omega) ?_
    refine he_iload (n := 62) (i := 2) (by decide +kernel) rfl ?_
    refine he_reti (by decide +kernel) ?_
    exact K r3 rfl
  rw [if_pos g33] at K
  refine he_istore (n := 31) (i := 2) (by decide +kernel) rfl ?_
  refine he_iload (n := 32) (i := 2) (by decide +kernel) rfl ?_
  refine he_iconst (n := 33) (c := -1) (by decide +kernel) (by decide) ?_
  intro cb32 hcb32
  refine he_cmpne_f (n := 36) (t := 48) (by decide +kernel) (by omega) ?_
  refine he_aload (n := 37) (i := 0) (by decide +kernel) rfl ?_
  refine he_iload (n := 38) (i := 1) (by decide +kernel) rfl ?_
  refine he_iconst (n := 40) (c := 8) (by decide +kernel) (by decide) ?_
  intro cb38 hcb38
  refine he_ex2 (o := 15) (n := 41) (by decide +kernel) rfl ?_
  intro vb40 hvb40
  have evb40 : vb40 = x1 <<< (cb38 &&& 31) := hvb40
  have bvb40 := mz_i32 vb40
  refine he_iconst (n := 43) (c := 50) (by decide +kernel) (by decide) ?_
  intro cb41 hcb41
  refine he_ex2 (o := 13) (n := 44) (by decide +kernel) rfl ?_
  intro vb43 hvb43
  have evb43 : vb43 = vb40 ||| cb41 := hvb43
  have bvb43 := mz_i32 vb43
  have e2 : vb43 = xn8 x1 50 := by rw [evb43, evb40, show cb38 = Int32.ofInt 8 from xe_oi (by omega), show cb41 = Int32.ofInt 50 from xe_oi (by omega)]; rfl
  refine he_v1 (n := 47) (j := 51) (ci := 1) (mx := 3) (ns := [3030, 3032, 18, 58]) (by decide +kernel) ((hb_kd (a := 47) hm rfl).trans rfl) (by show 0 ≤ 8; omega) (by show 2 ≤ 3; omega) ?_
  rw [mq_e51]
  refine xo_rn47 (n := n) hm hn ?_
  intro r2 hr2
  have hr2 := xfn_e hr2
  rw [e2] at hr2
  show mq_R mq_PP (d + 1) 50 47 _ [.int r2] (M, z, u) Q
  rw [← hr2] at K
  by_cases g50 : r2.toInt = -1
  · rw [if_pos g50] at K
    refine he_istore (n := 48) (i := 2) (by decide +kernel) rfl ?_
    exact last r2 g50 K
  · rw [if_neg g50] at K
    refine he_istore (n := 48) (i := 2) (by decide +kernel) rfl ?_
    refine he_iload (n := 49) (i := 2) (by decide +kernel) rfl ?_
    refine he_iconst (n := 50) (c := -1) (by decide +kernel) (by decide) ?_
    intro cc49 hcc49
    refine he_cmpne_t (n := 53) (t := 61) (by decide +kernel) (by omega) ?_
    refine he_iload (n := 62) (i := 2) (by decide +kernel) rfl ?_
    refine he_reti (by decide +kernel) ?_
    exact K r2 rfl
theorem xo_rf58 {d z u n : Nat} {M : Nat → mq_C} {Q : (Option Value ⊕ Nat) → mq_S → Prop} {x1 : Int32} (hm : mz_sh mz_GG M) (hn : hv M 58 4 = (n : Int)) (h0 : 0 ≤ x1.toInt) (K : ∀ r : Int32, r.toInt = xrfor (hv M 63) n (hv M 60 0) x1 → Q (.inl (some (.int r))) (M, z, u)) : mq_R mq_PP (d + 1) 50 0 [some (.ref 58), some (.int x1), none] [] (M, z, u) Q := by
  refine he_iconst (n := 1) (c := -1) (by decide +kernel) (by decide) ?_
  intro c0 hc0
  refine he_istore (n := 2) (i := 2) (by decide +kernel) rfl ?_
  refine he_aload (n := 3) (i := 0) (by decide +kernel) rfl ?_
  refine he_getr (n := 6) (ci := 1) (j := 3) (ns := [1222, 26]) (b := 60) hm (by decide +kernel) rfl rfl (by decide +kernel) ?_
  refine hb_gfd (n := 9) (ci := 7) (j := 0) (ns := [1189, 83]) hm (by decide +kernel) rfl rfl (by decide) rfl ?_
  intro v6 hv6 lv6 uv6
  unfold xrfor at K
  have last : ∀ (x2 : Int32), x2.toInt = -1 → (∀ r : Int32, r.toInt = xfn (hv M 63) x1.toInt n 0 → Q (.inl (some (.int r))) (M, z, u)) → mq_R mq_PP (d + 1) 50 48 [some (.ref 58), some (.int x1), some (.int x2)] [] (M, z, u) Q := by
    intro x2 h2 K
    refine he_iload (n := 49) (i := 2) (by decide +kernel) rfl ?_
    refine he_iconst (n := 50) (c := -1) (by decide +kernel) (by decide) ?_
    intro cl49 hcl49
    refine he_cmpne_f (n := 53) (t := 61) (by decide +kernel) (by omega) ?_
    refine he_aload (n := 54) (i := 0) (by decide +kernel) rfl ?_
    refine he_iload (n := 55) (i := 1) (by decide +kernel) rfl ?_
    refine he_v1 (n := 58) (j := 51) (ci := 1) (mx := 3) (ns := [3030, 3032, 18, 58]) (by decide +kernel) ((hb_kd (a := 58) hm rfl).trans rfl) (by show 0 ≤ 8; omega) (by show 2 ≤ 3; omega) ?_
    rw [mq_e51]
    refine xo_rn58 (n := n) hm hn ?_
    intro r hr
    show mq_R mq_PP (d + 1) 50 58 _ [.int r] (M, z, u) Q
    refine he_goto (t := 62) (by decide +kernel) ?_
    refine he_reti (by decide +kernel) ?_
    exact K r (xfn_e hr)
  by_cases g9 : v6.toInt = 0
  · rw [if_neg (by omega)] at K
    refine he_ifeq_t (n := 12) (t := 48) (by decide +kernel) (by omega) ?_
    exact last _ (by omega) K
  refine he_ifeq_f (n := 12) (t := 48) (by decide +kernel) (by omega) ?_
  refine he_iload (n := 13) (i := 1) (by decide +kernel) rfl ?_
  refine he_iconst (n := 15) (c := 24) (by decide +kernel) (by decide) ?_
  intro c13 hc13
  refine he_ex2 (o := 17) (n := 16) (by decide +kernel) rfl ?_
  intro v15 hv15
  have ev15 : v15 = (x1.toUInt32 >>> (c13.toUInt32 &&& Int32.toUInt32 31)).toInt32 := hv15
  have bv15 := mz_i32 v15
  have hun := mz_ush_un (X := x1) (Y := c13) (k := 24) (by omega) (by omega)
  rw [← ev15] at hun
  have p24 : (2 : Nat) ^ 24 = 16777216 := by decide
  rw [p24] at hun
  have hx := mz_un_p (x := x1) h0
  have h15 := mz_un_ti (x := v15)
  by_cases g16 : x1.toInt < 16777216
  rotate_left
  · rw [if_neg (by omega)] at K
    refine he_ifne_t (n := 19) (t := 48) (by decide +kernel) (by
      have : mz_un v15 ≠ 0 := by omega
      split at h15 <;> omega) ?_
    exact last _ (by omega) K
  have hv01 : hv M 60 0 = 1 := by omega
  rw [if_pos ⟨hv01, g16⟩] at K
  refine he_ifne_f (n := 19) (t := 48) (by decide +kernel) (by
      have : mz_un v15 = 0 := by omega
      split at h15 <;> omega) ?_
  refine he_aload (n := 20) (i := 0) (by decide +kernel) rfl ?_
  refine he_iload (n := 21) (i := 1) (by decide +kernel) rfl ?_
  refine he_iconst (n := 23) (c := 8) (by decide +kernel) (by decide) ?_
  intro c21 hc21
  refine he_ex2 (o := 15) (n := 24) (by decide +kernel) rfl ?_
  intro v23 hv23
  have ev23 : v23 = x1 <<< (c21 &&& 31) := hv23
  have bv23 := mz_i32 v23
  refine he_iconst (n := 26) (c := 51) (by decide +kernel) (by decide) ?_
  intro c24 hc24
  refine he_ex2 (o := 13) (n := 27) (by decide +kernel) rfl ?_
  intro v26 hv26
  have ev26 : v26 = v23 ||| c24 := hv26
  have bv26 := mz_i32 v26
  have e3 : v26 = xn8 x1 51 := by rw [ev26, ev23, show c21 = Int32.ofInt 8 from xe_oi (by omega), show c24 = Int32.ofInt 51 from xe_oi (by omega)]; rfl
  refine he_v1 (n := 30) (j := 51) (ci := 1) (mx := 3) (ns := [3030, 3032, 18, 58]) (by decide +kernel) ((hb_kd (a := 58) hm rfl).trans rfl) (by show 0 ≤ 8; omega) (by show 2 ≤ 3; omega) ?_
  rw [mq_e51]
  refine xo_rn58 (n := n) hm hn ?_
  intro r3 hr3
  have hr3 := xfn_e hr3
  rw [e3] at hr3
  show mq_R mq_PP (d + 1) 50 30 _ [.int r3] (M, z, u) Q
  rw [← hr3] at K
  by_cases g33 : r3.toInt = -1
  rotate_left
  · rw [if_neg g33] at K
    refine he_istore (n := 31) (i := 2) (by decide +kernel) rfl ?_
    refine he_iload (n := 32) (i := 2) (by decide +kernel) rfl ?_
    refine he_iconst (n := 33) (c := -1) (by decide +kernel) (by decide) ?_
    intro cb32 hcb32
    refine he_cmpne_t (n := 36) (t := 48) (by decide +kernel) (by omega) ?_
    refine he_iload (n := 49) (i := 2) (by decide +kernel) rfl ?_
    refine he_iconst (n := 50) (c := -1) (by decide +kernel) (by decide) ?_
    intro cb49 hcb49
    refine he_cmpne_t (n := 53) (t := 61) (by decide +kernel) (by omega) ?_
    refine he_iload (n := 62) (i := 2) (by decide +kernel) rfl ?_
    refine he_reti (by decide +kernel) ?_
    exact K r3 rfl
  rw [if_pos g33] at K
  refine he_istore (n := 31) (i := 2) (by decide +kernel) rfl ?_
  refine he_iload (n := 32) (i := 2) (by decide +kernel) rfl ?_
  refine he_iconst (n := 33) (c := -1) (by decide +kernel) (by decide) ?_
  intro cb32 hcb32
  refine he_cmpne_f (n := 36) (t := 48) (by decide +kernel) (by omega) ?_
  refine he_aload (n := 37) (i := 0) (by decide +kernel) rfl ?_
  refine he_iload (n := 38) (i := 1) (by decide +kernel) rfl ?_
  refine he_iconst (n := 40) (c := 8) (by decide +kernel) (by decide) ?_
  intro cb38 hcb38
  refine he_ex2 (o := 15) (n := 41) (by decide +kernel) rfl ?_
  intro vb40 hvb40
  have evb40 : vb40 = x1 <<< (cb38 &&& 31) := hvb40
  have bvb40 := mz_i32 vb40
  refine he_iconst (n := 43) (c := 50) (by decide +kernel) (by decide) ?_
  intro cb41 hcb41
  refine he_ex2 (o := 13) (n := 44) (by decide +kernel) rfl ?_
  intro vb43 hvb43
  have evb43 : vb43 = vb40 ||| cb41 := hvb43
  have bvb43 := mz_i32 vb43
  have e2 : vb43 = xn8 x1 50 := by rw [evb43, evb40, show cb38 = Int32.ofInt 8 from xe_oi (by omega), show cb41 = Int32.ofInt 50 from xe_oi (by omega)]; rfl
  refine he_v1 (n := 47) (j := 51) (ci := 1) (mx := 3) (ns := [3030, 3032, 18, 58]) (by decide +kernel) ((hb_kd (a := 58) hm rfl).trans rfl) (by show 0 ≤ 8; omega) (by show 2 ≤ 3; omega) ?_
  rw [mq_e51]
  refine xo_rn58 (n := n) hm hn ?_
  intro r2 hr2
  have hr2 := xfn_e hr2
  rw [e2] at hr2
  show mq_R mq_PP (d + 1) 50 47 _ [.int r2] (M, z, u) Q
  rw [← hr2] at K
  by_cases g50 : r2.toInt = -1
  · rw [if_pos g50] at K
    refine he_istore (n := 48) (i := 2) (by decide +kernel) rfl ?_
    exact last r2 g50 K
  · rw [if_neg g50] at K
    refine he_istore (n := 48) (i := 2) (by decide +kernel) rfl ?_
    refine he_iload (n := 49) (i := 2) (by decide +kernel) rfl ?_
    refine he_iconst (n := 50) (c := -1) (by decide +kernel) (by decide) ?_
    intro cc49 hcc49
    refine he_cmpne_t (n := 53) (t := 61) (by decide +kernel) (by omega) ?_
    refine he_iload (n := 62) (i := 2) (by decide +kernel) rfl ?_
    refine he_reti (by decide +kernel) ?_
    exact K r2 rfl
theorem xo_rf69 {d z u n : Nat} {M : Nat → mq_C} {Q : (Option Value ⊕ Nat) → mq_S → Prop} {x1 : Int32} (hm : mz_sh mz_GG M) (hn : hv M 69 4 = (n : Int)) (h0 : 0 ≤ x1.toInt) (K : ∀ r : Int32, r.toInt = xrfor (hv M 74) n (hv M 71 0) x1 → Q (.inl (some (.int r))) (M, z, u)) : mq_R mq_PP (d + 1) 50 0 [some (.ref 69), some (.int x1), none] [] (M, z, u) Q := by
  refine he_iconst (n := 1) (c := -1) (by decide +kernel) (by decide) ?_
  intro c0 hc0
  refine he_istore (n := 2) (i := 2) (by decide +kernel) rfl ?_
  refine he_aload (n := 3) (i := 0) (by decide +kernel) rfl ?_
  refine he_getr (n := 6) (ci := 1) (j := 3) (ns := [1222, 26]) (b := 71) hm (by decide +kernel) rfl rfl (by decide +kernel) ?_
  refine hb_gfd (n := 9) (ci := 7) (j := 0) (ns := [1189, 83]) hm (by decide +kernel) rfl rfl (by decide) rfl ?_
  intro v6 hv6 lv6 uv6
  unfold xrfor at K
  have last : ∀ (x2 : Int32), x2.toInt = -1 → (∀ r : Int32, r.toInt = xfn (hv M 74) x1.toInt n 0 → Q (.inl (some (.int r))) (M, z, u)) → mq_R mq_PP (d + 1) 50 48 [some (.ref 69), some (.int x1), some (.int x2)] [] (M, z, u) Q := by
    intro x2 h2 K
    refine he_iload (n := 49) (i := 2) (by decide +kernel) rfl ?_
    refine he_iconst (n := 50) (c := -1) (by decide +kernel) (by decide) ?_
    intro cl49 hcl49
    refine he_cmpne_f (n := 53) (t := 61) (by decide +kernel) (by omega) ?_
    refine he_aload (n := 54) (i := 0) (by decide +kernel) rfl ?_
    refine he_iload (n := 55) (i := 1) (by decide +kernel) rfl ?_
    refine he_v1 (n := 58) (j := 51) (ci := 1) (mx := 3) (ns := [3030, 3032, 18, 58]) (by decide +kernel) ((hb_kd (a := 69) hm rfl).trans rfl) (by show 0 ≤ 8; omega) (by show 2 ≤ 3; omega) ?_
    rw [mq_e51]
    refine xo_rn69 (n := n) hm hn ?_
    intro r hr
    show mq_R mq_PP (d + 1) 50 58 _ [.int r] (M, z, u) Q
    refine he_goto (t := 62) (by decide +kernel) ?_
    refine he_reti (by decide +kernel) ?_
    exact K r (xfn_e hr)
  by_cases g9 : v6.toInt = 0
  · rw [if_neg (by omega)] at K
    refine he_ifeq_t (n := 12) (t := 48) (by decide +kernel) (by omega) ?_
    exact last _ (by omega) K
  refine he_ifeq_f (n := 12) (t := 48) (by decide +kernel) (by omega) ?_
  refine he_iload (n := 13) (i := 1) (by decide +kernel) rfl ?_
  refine he_iconst (n := 15) (c := 24) (by decide +kernel) (by decide) ?_
  intro c13 hc13
  refine he_ex2 (o := 17) (n := 16) (by decide +kernel) rfl ?_
  intro v15 hv15
  have ev15 : v15 = (x1.toUInt32 >>> (c13.toUInt32 &&& Int32.toUInt32 31)).toInt32 := hv15
  have bv15 := mz_i32 v15
  have hun := mz_ush_un (X := x1) (Y := c13) (k := 24) (by omega) (by omega)
  rw [← ev15] at hun
  have p24 : (2 : Nat) ^ 24 = 16777216 := by decide
  rw [p24] at hun
  have hx := mz_un_p (x := x1) h0
  have h15 := mz_un_ti (x := v15)
  by_cases g16 : x1.toInt < 16777216
  rotate_left
  · rw [if_neg (by omega)] at K
    refine he_ifne_t (n := 19) (t := 48) (by decide +kernel) (by
      have : mz_un v15 ≠ 0 := by omega
      split at h15 <;> omega) ?_
    exact last _ (by omega) K
  have hv01 : hv M 71 0 = 1 := by omega
  rw [if_pos ⟨hv01, g16⟩] at K
  refine he_ifne_f (n := 19) (t := 48) (by decide +kernel) (by
      have : mz_un v15 = 0 := by omega
      split at h15 <;> omega) ?_
  refine he_aload (n := 20) (i := 0) (by decide +kernel) rfl ?_
  refine he_iload (n := 21) (i := 1) (by decide +kernel) rfl ?_
  refine he_iconst (n := 23) (c := 8) (by decide +kernel) (by decide) ?_
  intro c21 hc21
  refine he_ex2 (o := 15) (n := 24) (by decide +kernel) rfl ?_
  intro v23 hv23
  have ev23 : v23 = x1 <<< (c21 &&& 31) := hv23
  have bv23 := mz_i32 v23
  refine he_iconst (n := 26) (c := 51) (by decide +kernel) (by decide) ?_
  intro c24 hc24
  refine he_ex2 (o := 13) (n := 27) (by decide +kernel) rfl ?_
  intro v26 hv26
  have ev26 : v26 = v23 ||| c24 := hv26
  have bv26 := mz_i32 v26
  have e3 : v26 = xn8 x1 51 := by rw [ev26, ev23, show c21 = Int32.ofInt 8 from xe_oi (by omega), show c24 = Int32.ofInt 51 from xe_oi (by omega)]; rfl
  refine he_v1 (n := 30) (j := 51) (ci := 1) (mx := 3) (ns := [3030, 3032, 18, 58]) (by decide +kernel) ((hb_kd (a := 69) hm rfl).trans rfl) (by show 0 ≤ 8; omega) (by show 2 ≤ 3; omega) ?_
  rw [mq_e51]
  refine xo_rn69 (n := n) hm hn ?_
  intro r3 hr3
  have hr3 := xfn_e hr3
  rw [e3] at hr3
  show mq_R mq_PP (d + 1) 50 30 _ [.int r3] (M, z, u) Q
  rw [← hr3] at K
  by_cases g33 : r3.toInt = -1
  rotate_left
  · rw [if_neg g33] at K
    refine he_istore (n := 31) (i := 2) (by decide +kernel) rfl ?_
    refine he_iload (n := 32) (i := 2) (by decide +kernel) rfl ?_
    refine he_iconst (n := 33) (c := -1) (by decide +kernel) (by decide) ?_
    intro cb32 hcb32
    refine he_cmpne_t (n := 36) (t := 48) (by decide +kernel) (by omega) ?_
    refine he_iload (n := 49) (i := 2) (by decide +kernel) rfl ?_
    refine he_iconst (n := 50) (c := -1) (by decide +kernel) (by decide) ?_
    intro cb49 hcb49
    refine he_cmpne_t (n := 53) (t := 61) (by decide +kernel) (by omega) ?_
    refine he_iload (n := 62) (i := 2) (by decide +kernel) rfl ?_
    refine he_reti (by decide +kernel) ?_
    exact K r3 rfl
  rw [if_pos g33] at K
  refine he_istore (n := 31) (i := 2) (by decide +kernel) rfl ?_
  refine he_iload (n := 32) (i := 2) (by decide +kernel) rfl ?_
  refine he_iconst (n := 33) (c := -1) (by decide +kernel) (by decide) ?_
  intro cb32 hcb32
  refine he_cmpne_f (n := 36) (t := 48) (by decide +kernel) (by omega) ?_
  refine he_aload (n := 37) (i := 0) (by decide +kernel) rfl ?_
  refine he_iload (n := 38) (i := 1) (by decide +kernel) rfl ?_
  refine he_iconst (n := 40) (c := 8) (by decide +kernel) (by decide) ?_
  intro cb38 hcb38
  refine he_ex2 (o := 15) (n := 41) (by decide +kernel) rfl ?_
  intro vb40 hvb40
  have evb40 : vb40 = x1 <<< (cb38 &&& 31) := hvb40
  have bvb40 := mz_i32 vb40
  refine he_iconst (n := 43) (c := 50) (by decide +kernel) (by decide) ?_
  intro cb41 hcb41
  refine he_ex2 (o := 13) (n := 44) (by decide +kernel) rfl ?_
  intro vb43 hvb43
  have evb43 : vb43 = vb40 ||| cb41 := hvb43
  have bvb43 := mz_i32 vb43
  have e2 : vb43 = xn8 x1 50 := by rw [evb43, evb40, show cb38 = Int32.ofInt 8 from xe_oi (by omega), show cb41 = Int32.ofInt 50 from xe_oi (by omega)]; rfl
  refine he_v1 (n := 47) (j := 51) (ci := 1) (mx := 3) (ns := [3030, 3032, 18, 58]) (by decide +kernel) ((hb_kd (a := 69) hm rfl).trans rfl) (by show 0 ≤ 8; omega) (by show 2 ≤ 3; omega) ?_
  rw [mq_e51]
  refine xo_rn69 (n := n) hm hn ?_
  intro r2 hr2
  have hr2 := xfn_e hr2
  rw [e2] at hr2
  show mq_R mq_PP (d + 1) 50 47 _ [.int r2] (M, z, u) Q
  rw [← hr2] at K
  by_cases g50 : r2.toInt = -1
  · rw [if_pos g50] at K
    refine he_istore (n := 48) (i := 2) (by decide +kernel) rfl ?_
    exact last r2 g50 K
  · rw [if_neg g50] at K
    refine he_istore (n := 48) (i := 2) (by decide +kernel) rfl ?_
    refine he_iload (n := 49) (i := 2) (by decide +kernel) rfl ?_
    refine he_iconst (n := 50) (c := -1) (by decide +kernel) (by decide) ?_
    intro cc49 hcc49
    refine he_cmpne_t (n := 53) (t := 61) (by decide +kernel) (by omega) ?_
    refine he_iload (n := 62) (i := 2) (by decide +kernel) rfl ?_
    refine he_reti (by decide +kernel) ?_
    exact K r2 rfl
theorem xo_rf80 {d z u n : Nat} {M : Nat → mq_C} {Q : (Option Value ⊕ Nat) → mq_S → Prop} {x1 : Int32} (hm : mz_sh mz_GG M) (hn : hv M 80 4 = (n : Int)) (h0 : 0 ≤ x1.toInt) (K : ∀ r : Int32, r.toInt = xrfor (hv M 85) n (hv M 82 0) x1 → Q (.inl (some (.int r))) (M, z, u)) : mq_R mq_PP (d + 1) 50 0 [some (.ref 80), some (.int x1), none] [] (M, z, u) Q := by
  refine he_iconst (n := 1) (c := -1) (by decide +kernel) (by decide) ?_
  intro c0 hc0
  refine he_istore (n := 2) (i := 2) (by decide +kernel) rfl ?_
  refine he_aload (n := 3) (i := 0) (by decide +kernel) rfl ?_
  refine he_getr (n := 6) (ci := 1) (j := 3) (ns := [1222, 26]) (b := 82) hm (by decide +kernel) rfl rfl (by decide +kernel) ?_
  refine hb_gfd (n := 9) (ci := 7) (j := 0) (ns := [1189, 83]) hm (by decide +kernel) rfl rfl (by decide) rfl ?_
  intro v6 hv6 lv6 uv6
  unfold xrfor at K
  have last : ∀ (x2 : Int32), x2.toInt = -1 → (∀ r : Int32, r.toInt = xfn (hv M 85) x1.toInt n 0 → Q (.inl (some (.int r))) (M, z, u)) → mq_R mq_PP (d + 1) 50 48 [some (.ref 80), some (.int x1), some (.int x2)] [] (M, z, u) Q := by
    intro x2 h2 K
    refine he_iload (n := 49) (i := 2) (by decide +kernel) rfl ?_
    refine he_iconst (n := 50) (c := -1) (by decide +kernel) (by decide) ?_
    intro cl49 hcl49
    refine he_cmpne_f (n := 53) (t := 61) (by decide +kernel) (by omega) ?_
    refine he_aload (n := 54) (i := 0) (by decide +kernel) rfl ?_
    refine he_iload (n := 55) (i := 1) (by decide +kernel) rfl ?_
    refine he_v1 (n := 58) (j := 51) (ci := 1) (mx := 3) (ns := [3030, 3032, 18, 58]) (by decide +kernel) ((hb_kd (a := 80) hm rfl).trans rfl) (by show 0 ≤ 8; omega) (by show 2 ≤ 3; omega) ?_
    rw [mq_e51]
    refine xo_rn80 (n := n) hm hn ?_
    intro r hr
    show mq_R mq_PP (d + 1) 50 58 _ [.int r] (M, z, u) Q
    refine he_goto (t := 62) (by decide +kernel) ?_
    refine he_reti (by decide +kernel) ?_
    exact K r (xfn_e hr)
  by_cases g9 : v6.toInt = 0
  · rw [if_neg (by omega)] at K
    refine he_ifeq_t (n := 12) (t := 48) (by decide +kernel) (by omega) ?_
    exact last _ (by omega) K
  refine he_ifeq_f (n := 12) (t := 48) (by decide +kernel) (by omega) ?_
  refine he_iload (n := 13) (i := 1) (by decide +kernel) rfl ?_
  refine he_iconst (n := 15) (c := 24) (by decide +kernel) (by decide) ?_
  intro c13 hc13
  refine he_ex2 (o := 17) (n := 16) (by decide +kernel) rfl ?_
  intro v15 hv15
  have ev15 : v15 = (x1.toUInt32 >>> (c13.toUInt32 &&& Int32.toUInt32 31)).toInt32 := hv15
  have bv15 := mz_i32 v15
  have hun := mz_ush_un (X := x1) (Y := c13) (k := 24) (by omega) (by omega)
  rw [← ev15] at hun
  have p24 : (2 : Nat) ^ 24 = 16777216 := by decide
  rw [p24] at hun
  have hx := mz_un_p (x := x1) h0
  have h15 := mz_un_ti (x := v15)
  by_cases g16 : x1.toInt < 16777216
  rotate_left
  · rw [if_neg (by omega)] at K
    refine he_ifne_t (n := 19) (t := 48) (by decide +kernel) (by
      have : mz_un v15 ≠ 0 := by omega
      split at h15 <;> omega) ?_
    exact last _ (by omega) K
  have hv01 : hv M 82 0 = 1 := by omega
  rw [if_pos ⟨hv01, g16⟩] at K
  refine he_ifne_f (n := 19) (t := 48) (by decide +kernel) (by
      have : mz_un v15 = 0 := by omega
      split at h15 <;> omega) ?_
  refine he_aload (n := 20) (i := 0) (by decide +kernel) rfl ?_
  refine he_iload (n := 21) (i := 1) (by decide +kernel) rfl ?_
  refine he_iconst (n := 23) (c := 8) (by decide +kernel) (by decide) ?_
  intro c21 hc21
  refine he_ex2 (o := 15) (n := 24) (by decide +kernel) rfl ?_
  intro v23 hv23
  have ev23 : v23 = x1 <<< (c21 &&& 31) := hv23
  have bv23 := mz_i32 v23
  refine he_iconst (n := 26) (c := 51) (by decide +kernel) (by decide) ?_
  intro c24 hc24
  refine he_ex2 (o := 13) (n := 27) (by decide +kernel) rfl ?_
  intro v26 hv26
  have ev26 : v26 = v23 ||| c24 := hv26
  have bv26 := mz_i32 v26
  have e3 : v26 = xn8 x1 51 := by rw [ev26, ev23, show c21 = Int32.ofInt 8 from xe_oi (by omega), show c24 = Int32.ofInt 51 from xe_oi (by omega)]; rfl
  refine he_v1 (n := 30) (j := 51) (ci := 1) (mx := 3) (ns := [3030, 3032, 18, 58]) (by decide +kernel) ((hb_kd (a := 80) hm rfl).trans rfl) (by show 0 ≤ 8; omega) (by show 2 ≤ 3; omega) ?_
  rw [mq_e51]
  refine xo_rn80 (n := n) hm hn ?_
  intro r3 hr3
  have hr3 := xfn_e hr3
  rw [e3] at hr3
  show mq_R mq_PP (d + 1) 50 30 _ [.int r3] (M, z, u) Q
  rw [← hr3] at K
  by_cases g33 : r3.toInt = -1
  rotate_left
  · rw [if_neg g33] at K
    refine he_istore (n := 31) (i := 2) (by decide +kernel) rfl ?_
    refine he_iload (n := 32) (i := 2) (by decide +kernel) rfl ?_
    refine he_iconst (n := 33) (c := -1) (by decide +kernel) (by decide) ?_
    intro cb32 hcb32
    refine he_cmpne_t (n := 36) (t := 48) (by decide +kernel) (by omega) ?_
    refine he_iload (n := 49) (i := 2) (by decide +kernel) rfl ?_
    refine he_iconst (n := 50) (c := -1) (by decide +kernel) (by decide) ?_
    intro cb49 hcb49
    refine he_cmpne_t (n := 53) (t := 61) (by decide +kernel) (by omega) ?_
    refine he_iload (n := 62) (i := 2) (by decide +kernel) rfl ?_
    refine he_reti (by decide +kernel) ?_
    exact K r3 rfl
  rw [if_pos g33] at K
  refine he_istore (n := 31) (i := 2) (by decide +kernel) rfl ?_
  refine he_iload (n := 32) (i := 2) (by decide +kernel) rfl ?_
  refine he_iconst (n := 33) (c := -1) (by decide +kernel) (by decide) ?_
  intro cb32 hcb32
  refine he_cmpne_f (n := 36) (t := 48) (by decide +kernel) (by omega) ?_
  refine he_aload (n := 37) (i := 0) (by decide +kernel) rfl ?_
  refine he_iload (n := 38) (i := 1) (by decide +kernel) rfl ?_
  refine he_iconst (n := 40) (c := 8) (by decide +kernel) (by decide) ?_
  intro cb38 hcb38
  refine he_ex2 (o := 15) (n := 41) (by decide +kernel) rfl ?_
  intro vb40 hvb40
  have evb40 : vb40 = x1 <<< (cb38 &&& 31) := hvb40
  have bvb40 := mz_i32 vb40
  refine he_iconst (n := 43) (c := 50) (by decide +kernel) (by decide) ?_
  intro cb41 hcb41
  refine he_ex2 (o := 13) (n := 44) (by decide +kernel) rfl ?_
  intro vb43 hvb43
  have evb43 : vb43 = vb40 ||| cb41 := hvb43
  have bvb43 := mz_i32 vb43
  have e2 : vb43 = xn8 x1 50 := by rw [evb43, evb40, show cb38 = Int32.ofInt 8 from xe_oi (by omega), show cb41 = Int32.ofInt 50 from xe_oi (by omega)]; rfl
  refine he_v1 (n := 47) (j := 51) (ci := 1) (mx := 3) (ns := [3030, 3032, 18, 58]) (by decide +kernel) ((hb_kd (a := 80) hm rfl).trans rfl) (by show 0 ≤ 8; omega) (by show 2 ≤ 3; omega) ?_
  rw [mq_e51]
  refine xo_rn80 (n := n) hm hn ?_
  intro r2 hr2
  have hr2 := xfn_e hr2
  rw [e2] at hr2
  show mq_R mq_PP (d + 1) 50 47 _ [.int r2] (M, z, u) Q
  rw [← hr2] at K
  by_cases g50 : r2.toInt = -1
  · rw [if_pos g50] at K
    refine he_istore (n := 48) (i := 2) (by decide +kernel) rfl ?_
    exact last r2 g50 K
  · rw [if_neg g50] at K
    refine he_istore (n := 48) (i := 2) (by decide +kernel) rfl ?_
    refine he_iload (n := 49) (i := 2) (by decide +kernel) rfl ?_
    refine he_iconst (n := 50) (c := -1) (by decide +kernel) (by decide) ?_
    intro cc49 hcc49
    refine he_cmpne_t (n := 53) (t := 61) (by decide +kernel) (by omega) ?_
    refine he_iload (n := 62) (i := 2) (by decide +kernel) rfl ?_
    refine he_reti (by decide +kernel) ?_
    exact K r2 rfl
theorem yp_rf {d z u n s : Nat} {M : Nat → mq_C} {Q : (Option Value ⊕ Nat) → mq_S → Prop} {x1 x2 : Int32} (hm : mz_sh mz_GG M) (h1 : x1.toInt = (s : Int)) (hs : s < 4) (hn : hv M 238 s = (n : Int)) (hn6 : n ≤ 6) (K : ∀ r : Int32, r.toInt = xrfor (fun i => hv M 239 (6 * s + i)) n (hv M 248 s) x2 → Q (.inl (some (.int r))) (M, z, u)) : mq_R mq_PP (d + 1) 139 0 [some (.ref 234), some (.int x1), some (.int x2), none] [] (M, z, u) Q := by
  have hss : x1.toInt.toNat = s := by omega
  refine he_iconst (n := 1) (c := -1) (by decide +kernel) (by decide) ?_
  intro c0 hc0
  refine he_istore (n := 2) (i := 3) (by decide +kernel) rfl ?_
  refine he_aload (n := 3) (i := 0) (by decide +kernel) rfl ?_
  refine he_getr (n := 6) (ci := 9) (j := 14) (ns := [4191, 50]) (b := 248) hm (by decide +kernel) rfl rfl (by decide +kernel) ?_
  refine he_iload (n := 7) (i := 1) (by decide +kernel) rfl ?_
  refine hb_ld (n := 8) (kind := 65) hm (by decide +kernel) rfl rfl (.inr rfl) (by omega) (show _ < (4 : Int) by omega) hb_at1 ?_
  intro v7 hv7 lv7 uv7
  rw [hss] at hv7
  unfold xrfor at K
  have bx2 := mz_i32 x2
  have last : ∀ (x3 : Int32), x3.toInt = -1 → (∀ r : Int32, r.toInt = xfn (fun i => hv M 239 (6 * s + i)) x2.toInt n 0 → Q (.inl (some (.int r))) (M, z, u)) → mq_R mq_PP (d + 1) 139 51 [some (.ref 234), some (.int x1), some (.int x2), some (.int x3)] [] (M, z, u) Q := by
    intro x3 h3 K
    refine he_iload (n := 52) (i := 3) (by decide +kernel) rfl ?_
    refine he_ifge_f (n := 55) (t := 64) (by decide +kernel) (by omega) ?_
    refine he_aload (n := 56) (i := 0) (by decide +kernel) rfl ?_
    refine he_iload (n := 57) (i := 1) (by decide +kernel) rfl ?_
    refine he_iload (n := 58) (i := 2) (by decide +kernel) rfl ?_
    refine he_v2 (n := 61) (j := 134) (ci := 9) (mx := 4) (ns := [6050, 6052, 79, 234]) (by decide +kernel) ((hb_kd (a := 234) hm rfl).trans rfl) (by show 0 ≤ 8; omega) (by show 3 ≤ 4; omega) ?_
    rw [mq_e134]
    refine yp_ro (n := n) hm h1 hs hn hn6 ?_
    intro r hr
    show mq_R mq_PP (d + 1) 139 61 _ [.int r] (M, z, u) Q
    refine he_goto (t := 65) (by decide +kernel) ?_
    refine he_reti (by decide +kernel) ?_
    exact K r (xfn_e hr)
  by_cases g8 : v7.toInt = 0
  · rw [if_neg (by omega)] at K
    refine he_ifeq_t (n := 11) (t := 51) (by decide +kernel) (by omega) ?_
    exact last _ (by omega) K
  refine he_ifeq_f (n := 11) (t := 51) (by decide +kernel) (by omega) ?_
  refine he_iload (n := 12) (i := 2) (by decide +kernel) rfl ?_
  refine he_iconst (n := 14) (c := 16777216) (by decide +kernel) (by decide) ?_
  intro c12 hc12
  by_cases g14 : x2.toInt < 16777216
  rotate_left
  · rw [if_neg (by omega)] at K
    refine he_cmpge_t (n := 17) (t := 51) (by decide +kernel) (by omega) ?_
    exact last _ (by omega) K
  have hv01 : hv M 248 s = 1 := by omega
  rw [if_pos ⟨hv01, g14⟩] at K
  refine he_cmpge_f (n := 17) (t := 51) (by decide +kernel) (by omega) ?_
  refine he_aload (n := 18) (i := 0) (by decide +kernel) rfl ?_
  refine he_iload (n := 19) (i := 1) (by decide +kernel) rfl ?_
  refine he_iconst (n := 21) (c := 51) (by decide +kernel) (by decide) ?_
  intro c19 hc19
  refine he_iload (n := 22) (i := 2) (by decide +kernel) rfl ?_
  refine he_iconst (n := 24) (c := 8) (by decide +kernel) (by decide) ?_
  intro c22 hc22
  refine he_ex2 (o := 15) (n := 25) (by decide +kernel) rfl ?_
  intro v24 hv24
  have ev24 : v24 = x2 <<< (c22 &&& 31) := hv24
  have bv24 := mz_i32 v24
  refine he_ex2 (o := 13) (n := 26) (by decide +kernel) rfl ?_
  intro v25 hv25
  have ev25 : v25 = c19 ||| v24 := hv25
  have bv25 := mz_i32 v25
  have e3 : v25 = xn8 x2 51 := by rw [ev25, ev24, show c22 = Int32.ofInt 8 from xe_oi (by omega), show c19 = Int32.ofInt 51 from xe_oi (by omega)]; exact Int32.or_comm ..
  refine he_v2 (n := 29) (j := 134) (ci := 9) (mx := 4) (ns := [6050, 6052, 79, 234]) (by decide +kernel) ((hb_kd (a := 234) hm rfl).trans rfl) (by show 0 ≤ 8; omega) (by show 3 ≤ 4; omega) ?_
  rw [mq_e134]
  refine yp_ro (n := n) hm h1 hs hn hn6 ?_
  intro r3 hr3
  have hr3 := xfn_e hr3
  rw [e3] at hr3
  show mq_R mq_PP (d + 1) 139 29 _ [.int r3] (M, z, u) Q
  rw [← hr3] at K
  have neg : r3.toInt = -1 ∨ 0 ≤ r3.toInt := by
    rw [hr3]
    rcases xfn_s (f := fun i => hv M 239 (6 * s + i)) (x := (xn8 x2 51).toInt) n 0 with ⟨k, _, _, k3, _, _⟩ | ⟨k1, _⟩ <;> omega
  by_cases g31 : r3.toInt = -1
  rotate_left
  · rw [if_neg g31] at K
    refine he_istore (n := 30) (i := 3) (by decide +kernel) rfl ?_
    refine he_iload (n := 31) (i := 3) (by decide +kernel) rfl ?_
    refine he_ifge_t (n := 34) (t := 49) (by decide +kernel) (by omega) ?_
    refine he_iload (n := 50) (i := 3) (by decide +kernel) rfl ?_
    refine he_istore (n := 51) (i := 3) (by decide +kernel) rfl ?_
    refine he_iload (n := 52) (i := 3) (by decide +kernel) rfl ?_
    refine he_ifge_t (n := 55) (t := 64) (by decide +kernel) (by omega) ?_
    refine he_iload (n := 65) (i := 3) (by decide +kernel) rfl ?_
    refine he_reti (by decide +kernel) ?_
    exact K r3 rfl
  rw [if_pos g31] at K
  refine he_istore (n := 30) (i := 3) (by decide +kernel) rfl ?_
  refine he_iload (n := 31) (i := 3) (by decide +kernel) rfl ?_
  refine he_ifge_f (n := 34) (t := 49) (by decide +kernel) (by omega) ?_
  refine he_aload (n := 35) (i := 0) (by decide +kernel) rfl ?_
  refine he_iload (n := 36) (i := 1) (by decide +kernel) rfl ?_
  refine he_iconst (n := 38) (c := 50) (by decide +kernel) (by decide) ?_
  intro cb36 hcb36
  refine he_iload (n := 39) (i := 2) (by decide +kernel) rfl ?_
  refine he_iconst (n := 41) (c := 8) (by decide +kernel) (by decide) ?_
  intro cb39 hcb39
  refine he_ex2 (o := 15) (n := 42) (by decide +kernel) rfl ?_
  intro vb41 hvb41
  have evb41 : vb41 = x2 <<< (cb39 &&& 31) := hvb41
  have bvb41 := mz_i32 vb41
  refine he_ex2 (o := 13) (n := 43) (by decide +kernel) rfl ?_
  intro vb42 hvb42
  have evb42 : vb42 = cb36 ||| vb41 := hvb42
  have bvb42 := mz_i32 vb42
  have e2 : vb42 = xn8 x2 50 := by rw [evb42, evb41, show cb39 = Int32.ofInt 8 from xe_oi (by omega), show cb36 = Int32.ofInt 50 from xe_oi (by omega)]; exact Int32.or_comm ..
  refine he_v2 (n := 46) (j := 134) (ci := 9) (mx := 4) (ns := [6050, 6052, 79, 234]) (by decide +kernel) ((hb_kd (a := 234) hm rfl).trans rfl) (by show 0 ≤ 8; omega) (by show 3 ≤ 4; omega) ?_
  rw [mq_e134]
  refine yp_ro (n := n) hm h1 hs hn hn6 ?_
  intro r2 hr2
  have hr2 := xfn_e hr2
  rw [e2] at hr2
  show mq_R mq_PP (d + 1) 139 46 _ [.int r2] (M, z, u) Q
  rw [← hr2] at K
  have neg2 : r2.toInt = -1 ∨ 0 ≤ r2.toInt := by
    rw [hr2]
    rcases xfn_s (f := fun i => hv M 239 (6 * s + i)) (x := (xn8 x2 50).toInt) n 0 with ⟨k, _, _, k3, _, _⟩ | ⟨k1, _⟩ <;> omega
  by_cases g52 : r2.toInt = -1
  · rw [if_pos g52] at K
    refine he_goto (t := 50) (by decide +kernel) ?_
    refine he_istore (n := 51) (i := 3) (by decide +kernel) rfl ?_
    exact last r2 g52 K
  · rw [if_neg g52] at K
    refine he_goto (t := 50) (by decide +kernel) ?_
    refine he_istore (n := 51) (i := 3) (by decide +kernel) rfl ?_
    refine he_iload (n := 52) (i := 3) (by decide +kernel) rfl ?_
    refine he_ifge_t (n := 55) (t := 64) (by decide +kernel) (by omega) ?_
    refine he_iload (n := 65) (i := 3) (by decide +kernel) rfl ?_
    refine he_reti (by decide +kernel) ?_
    exact K r2 rfl
