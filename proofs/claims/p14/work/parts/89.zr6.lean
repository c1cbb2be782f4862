/-! The model's findPath, exactly. -/
abbrev xRD : Type := Nat → Option (List xRc × xMs)
def yF (M0 M : Nat → mq_C) : Prop := (∀ b, b ≠ 234 → b < 238 ∨ 248 < b → b < 252 ∨ 257 ≤ b → b ≠ 264 → b ≠ 265 → M b = M0 b) ∧ ∀ j, j ≠ 21 → j ≠ 23 → j ≠ 24 → j ≠ 25 → j ≠ 38 → hv M 234 j = hv M0 234 j
theorem yF_r {M : Nat → mq_C} : yF M M := ⟨fun _ _ _ _ _ _ => rfl, fun _ _ _ _ _ _ => rfl⟩
theorem yF_t {M0 M M' : Nat → mq_C} (h : yF M0 M) (h' : yF M M') : yF M0 M' := ⟨fun b p q r s t => (h'.1 b p q r s t).trans (h.1 b p q r s t), fun j p q r s t => (h'.2 j p q r s t).trans (h.2 j p q r s t)⟩
theorem yF_R {s : Nat} {M M' : Nat → mq_C} (h : yR s M M') : yF M M' := ⟨fun b p q r _ _ => h.2.1 b p q r, fun j p q r s _ => h.2.2.1 j p q r s⟩
theorem yF_265 {M M' : Nat → mq_C} (h : ∀ b, b ≠ 265 → M' b = M b) : yF M M' := ⟨fun b _ _ _ _ r => h b r, fun j _ _ _ _ _ => hb_vc (h 234 (by decide)) j⟩
def yVD (rdo : xRD) (M : Nat → mq_C) (v : List Int) : Prop := ∀ s : Nat, s < 4 → v.elem (s : Int) = true → ∀ l st, rdo s = some (l, st) → hv M 238 s = (l.length : Int) ∧ l.length ≤ 6 ∧ (∀ i, i < l.length → ycr M s i = l.getD i xd0) ∧ hv M 248 s = st.2.2.1
theorem yVD_nil {rdo : xRD} {M : Nat → mq_C} : yVD rdo M [] := fun s _ h => by cases h
theorem yVD_k {rdo : xRD} {M M' : Nat → mq_C} {v : List Int} (h : ∀ b, 238 ≤ b → b ≤ 248 → M' b = M b) (g : yVD rdo M v) : yVD rdo M' v := by
  intro s hs hv l st hr
  obtain ⟨g1, g2, g3, g4⟩ := g s hs hv l st hr
  refine ⟨(hb_vc (h 238 (by decide) (by decide)) s).trans g1, g2, fun i hi => ?_, (hb_vc (h 248 (by decide) (by decide)) s).trans g4⟩
  rw [← g3 i hi]
  unfold ycr
  rw [hb_vc (h 239 (by decide) (by decide)), hb_vc (h 240 (by decide) (by decide)), hb_vc (h 241 (by decide) (by decide)), hb_vc (h 242 (by decide) (by decide)), hb_vc (h 243 (by decide) (by decide)), hb_vc (h 244 (by decide) (by decide))]
theorem xel_app {v : List Int} {a x : Int} (h : (v ++ [a]).elem x = true) : v.elem x = true ∨ x = a := by
  rcases List.mem_append.mp (List.elem_iff.mp h) with q | q
  · exact .inl (List.elem_iff.mpr q)
  · exact .inr (List.mem_singleton.mp q)
theorem xel_l {v : List Int} {a x : Int} (h : v.elem x = true) : (v ++ [a]).elem x = true := List.elem_iff.mpr (List.mem_append.mpr (.inl (List.elem_iff.mp h)))
theorem xel_r {v : List Int} {a : Int} : (v ++ [a]).elem a = true := List.elem_iff.mpr (List.mem_append.mpr (.inr (List.mem_singleton.mpr rfl)))
theorem yVD_a {rdo : xRD} {M M' : Nat → mq_C} {v : List Int} {s0 len : Nat} {b : Nat → Int} {r : Int} (hR : yR s0 M M') (hn : ¬ v.elem (s0 : Int) = true) (hE : yEX s0 b len M' r) (hd : rdo s0 = xrd b len) (g : yVD rdo M v) : yVD rdo M' (v ++ [(s0 : Int)]) := by
  intro s hs hv l st hr
  by_cases e : s = s0
  · subst e
    rw [hd] at hr
    obtain ⟨e1, e2, e3, e4, e5, e6, e7⟩ := hE.1 l st hr
    exact ⟨e2, e3, e4, e5⟩
  · have hv : v.elem (s : Int) = true := by
      rcases xel_app hv with q | q
      · exact q
      · omega
    obtain ⟨g1, g2, g3, g4⟩ := g s hs hv l st hr
    obtain ⟨-, -, -, r1, r2, -⟩ := hR
    refine ⟨(r1 238 s (.inl rfl) e).trans g1, g2, fun i hi => ?_, (r1 248 s (.inr (.inr rfl)) e).trans g4⟩
    rw [← g3 i hi]
    have hw : 6 * s + i < 6 * s0 ∨ 6 * s0 + 6 ≤ 6 * s + i := by omega
    unfold ycr
    rw [r2 239 _ (by decide) (by decide) hw, r2 240 _ (by decide) (by decide) hw, r2 241 _ (by decide) (by decide) hw, r2 242 _ (by decide) (by decide) hw, r2 243 _ (by decide) (by decide) hw, r2 244 _ (by decide) (by decide) hw]
def yST (M : Nat → mq_C) (st : List Int) : Prop := ∀ j, j < st.length → hv M 265 (st.length - 1 - j) = st.getD j 0
theorem yST_nil {M : Nat → mq_C} : yST M [] := fun j h => absurd h (Nat.not_lt_zero j)
theorem yST_push {M M' : Nat → mq_C} {st : List Int} {a : Int} (g : yST M st) (h : hv M' 265 st.length = a) (h' : ∀ j, j ≠ st.length → hv M' 265 j = hv M 265 j) : yST M' (a :: st) := by
  intro j hj
  have hj : j < st.length + 1 := hj
  show hv M' 265 (st.length + 1 - 1 - j) = _
  cases j with
  | zero => exact h
  | succ j =>
    rw [h' _ (by omega), show st.length + 1 - 1 - (j + 1) = st.length - 1 - j by omega]
    exact g j (by omega)
theorem yST_pop {M : Nat → mq_C} {st : List Int} {a : Int} (g : yST M (a :: st)) : hv M 265 st.length = a ∧ yST M st := by
  refine ⟨g 0 (Nat.succ_pos _), fun j hj => ?_⟩
  have h := g (j + 1) (Nat.succ_lt_succ hj)
  rw [show (a :: st).length - 1 - (j + 1) = st.length - 1 - j by show st.length + 1 - 1 - (j + 1) = _; omega] at h
  exact h
theorem yST_c {M M' : Nat → mq_C} {st : List Int} (h : M' 265 = M 265) (g : yST M st) : yST M' st := fun j hj => (hb_vc h _).trans (g j hj)
def yPT (M : Nat → mq_C) (p : List Int) : Prop := hv M 234 38 = (p.length : Int) ∧ ∀ j, j < p.length → hv M 264 j = p.getD j 0
def yMK (x : Int) (v : List Int) : Prop := 0 ≤ x ∧ x ≤ 15 ∧ ∀ a : Nat, a < 4 → (x.toNat / 2 ^ a % 2 = 1 ↔ v.elem (a : Int) = true)
theorem yMK_t : ∀ (s : Fin 16) (a : Fin 4), ((Int32.ofInt (s.val : Int) >>> (Int32.ofInt (a.val : Int) &&& 31)) &&& Int32.ofInt 1).toInt = ((s.val / 2 ^ a.val % 2 : Nat) : Int) ∧ 0 ≤ (Int32.ofInt (s.val : Int) ||| (Int32.ofInt 1 <<< (Int32.ofInt (a.val : Int) &&& 31))).toInt ∧ (Int32.ofInt (s.val : Int) ||| (Int32.ofInt 1 <<< (Int32.ofInt (a.val : Int) &&& 31))).toInt ≤ 15 ∧ ∀ b : Fin 4, (Int32.ofInt (s.val : Int) ||| (Int32.ofInt 1 <<< (Int32.ofInt (a.val : Int) &&& 31))).toInt.toNat / 2 ^ b.val % 2 = if b.val = a.val then 1 else s.val / 2 ^ b.val % 2 := by decide +kernel
theorem yMK_0 : yMK 0 [] := ⟨by decide, by decide, fun a ha => by
  have h4 : a = 0 ∨ a = 1 ∨ a = 2 ∨ a = 3 := by omega
  rcases h4 with rfl | rfl | rfl | rfl <;> decide⟩
theorem yMK_b {x a c : Int32} {v : List Int} {s : Nat} (h : yMK x.toInt v) (ha : a.toInt = (s : Int)) (hs : s < 4) (hc : c.toInt = 1) : (v.elem (s : Int) = true → ((x >>> (a &&& 31)) &&& c).toInt = 1) ∧ (¬ v.elem (s : Int) = true → ¬ ((x >>> (a &&& 31)) &&& c).toInt = 1 ∧ yMK (x ||| (c <<< (a &&& 31))).toInt (v ++ [(s : Int)])) := by
  obtain ⟨h1, h2, h3⟩ := h
  have ex : x = Int32.ofInt ((x.toInt.toNat : Nat) : Int) := xe_oi (by omega)
  have t := yMK_t ⟨x.toInt.toNat, by omega⟩ ⟨s, hs⟩
  have ea : a = Int32.ofInt (s : Int) := xe_oi ha
  have ec : c = Int32.ofInt 1 := xe_oi hc
  have t : ((Int32.ofInt ((x.toInt.toNat : Nat) : Int) >>> (Int32.ofInt (s : Int) &&& 31)) &&& Int32.ofInt 1).toInt = ((x.toInt.toNat / 2 ^ s % 2 : Nat) : Int) ∧ 0 ≤ (Int32.ofInt ((x.toInt.toNat : Nat) : Int) ||| (Int32.ofInt 1 <<< (Int32.ofInt (s : Int) &&& 31))).toInt ∧ (Int32.ofInt ((x.toInt.toNat : Nat) : Int) ||| (Int32.ofInt 1 <<< (Int32.ofInt (s : Int) &&& 31))).toInt ≤ 15 ∧ ∀ b : Fin 4, (Int32.ofInt ((x.toInt.toNat : Nat) : Int) ||| (Int32.ofInt 1 <<< (Int32.ofInt (s : Int) &&& 31))).toInt.toNat / 2 ^ b.val % 2 = if b.val = s then 1 else x.toInt.toNat / 2 ^ b.val % 2 := t
  rw [← ex, ← ea, ← ec] at t
  obtain ⟨t1, t2, t3, t4⟩ := t
  have hb := h3 s hs
  refine ⟨fun h => ?_, fun h => ⟨fun q => ?_, t2, t3, fun b hb4 => ?_⟩⟩
  · have := hb.mpr h
    omega
  · exact h (hb.mp (by omega))
  · have t5 : _ = if b = s then 1 else x.toInt.toNat / 2 ^ b % 2 := t4 ⟨b, hb4⟩
    rw [t5]
    by_cases e : b = s
    · rw [if_pos e, e]
      exact ⟨fun _ => xel_r, fun _ => rfl⟩
    · rw [if_neg e, h3 b hb4]
      refine ⟨xel_l, fun q => ?_⟩
      rcases xel_app q with q | q
      · exact q
      · omega
theorem yp_w1 {d z u i : Nat} {M0 : Nat → mq_C} {Q : (Option Value ⊕ Nat) → mq_S → Prop} {la : List Int} {x1 x2 : Int32} {o5 : Option Value} (h1 : x1.toInt = (i : Int)) (hi : i < 4) (hcl : hv M0 260 i = 0) (hl4 : la.length ≤ 4) (hla : ∀ j, j < la.length → hv M0 259 (4 * i + j) = la.getD j 0) (K : ∀ (M' : Nat → mq_C) (x3 x4 : Int32), mz_sh mz_GG M' → (∀ b, b ≠ 265 → M' b = M0 b) → x3.toInt = (la.length : Int) → yST M' la → mq_R mq_PP d 143 59 [some (.ref 234), some (.int x1), some (.int x2), some (.int x3), some (.int x4), o5] [] (M', z, u) Q) :
    ∀ (m : Nat) (M : Nat → mq_C) (x3 x4 : Int32), m ≤ la.length → x4.toInt + 1 = (m : Int) → x3.toInt + (m : Int) = (la.length : Int) → mz_sh mz_GG M → (∀ b, b ≠ 265 → M b = M0 b) → yST M (la.drop m) → mq_R mq_PP d 143 19 [some (.ref 234), some (.int x1), some (.int x2), some (.int x3), some (.int x4), o5] [] (M, z, u) Q := by
  have hi1 : x1.toInt.toNat = i := by omega
  intro m
  induction m with
  | zero =>
    intro M x3 x4 hm4 e4 e3 hm hg hS
    refine he_iload (n := 21) (i := 4) (by decide +kernel) rfl ?_
    refine he_iflt_t (n := 24) (t := 59) (by decide +kernel) (by omega) ?_
    exact K M x3 x4 hm hg (by omega) hS
  | succ m ih =>
    intro M x3 x4 hm4 e4 e3 hm hg hS
    have k260 : hv M 260 x1.toInt.toNat = 0 := by rw [hi1, hb_vc (hg 260 (by decide))]; exact hcl
    refine he_iload (n := 21) (i := 4) (by decide +kernel) rfl ?_
    refine he_iflt_f (n := 24) (t := 59) (by decide +kernel) (by omega) ?_
    refine he_aload (n := 25) (i := 0) (by decide +kernel) rfl ?_
    refine he_getr (n := 28) (ci := 9) (j := 34) (ns := [4211, 86]) (b := 260) hm (by decide +kernel) rfl rfl (by decide +kernel) ?_
    refine he_iload (n := 29) (i := 1) (by decide +kernel) rfl ?_
    refine hb_ld (n := 30) (kind := 65) hm (by decide +kernel) rfl rfl (.inr rfl) (by omega) (show _ < (4 : Int) by omega) hb_at1 ?_
    intro v29 hv29 lv29 uv29
    refine he_ifne_f (n := 33) (t := 59) (by decide +kernel) (by omega) ?_
    refine he_aload (n := 34) (i := 0) (by decide +kernel) rfl ?_
    refine he_getr (n := 37) (ci := 9) (j := 40) (ns := [4217, 101]) (b := 265) hm (by decide +kernel) rfl rfl (by decide +kernel) ?_
    refine he_iload (n := 38) (i := 3) (by decide +kernel) rfl ?_
    refine he_aload (n := 39) (i := 0) (by decide +kernel) rfl ?_
    refine he_getr (n := 42) (ci := 9) (j := 33) (ns := [4210, 83]) (b := 259) hm (by decide +kernel) rfl rfl (by decide +kernel) ?_
    refine he_iconst (n := 43) (c := 4) (by decide +kernel) (by decide) ?_
    intro c42 hc42
    refine he_iload (n := 44) (i := 1) (by decide +kernel) rfl ?_
    refine he_imul (n := 45) (p := 4 * x1.toInt) (by decide +kernel) (by rw [hc42]) (by omega) (by omega) ?_
    intro v44 hv44
    refine he_iload (n := 47) (i := 4) (by decide +kernel) rfl ?_
    refine he_iadd (n := 48) (by decide +kernel) (by omega) (by omega) ?_
    intro v47 hv47
    refine hb_ld (n := 49) (kind := 64) hm (by decide +kernel) rfl rfl (.inl rfl) (by omega) (show _ < (16 : Int) by omega) hb_at1 ?_
    intro v48 hv48 lv48 uv48
    refine hb_sta (n := 50) (kind := 64) hm (by decide +kernel) rfl rfl (.inl rfl) (by omega) (show _ < (24 : Int) by omega) ?_
    generalize hM1 : hb_set M 265 (x3.toInt.toNat) v48 = M1
    have hm1 : mz_sh mz_GG M1 := by rw [← hM1]; exact hb_set_sh hm rfl hb_at1 (by omega) (by omega)
    have eM1 : ∀ b j, b ≠ 265 ∨ j ≠ x3.toInt.toNat → hv M1 b j = hv M b j := by intro b j h; rw [← hM1]; exact hb_set_n h
    have sM1 : hv M1 265 (x3.toInt.toNat) = v48.toInt := by rw [← hM1]; exact hb_set_v hm rfl (show _ < 24 by omega)
    have wM1 : ∀ b, b ≠ 265 → M1 b = M b := by intro b h; rw [← hM1]; exact hb_set_c h
    refine he_iinc (n := 53) (i := 3) (c := 1) (L' := fun v => [some (.ref (234)), some (.int x1), some (.int x2), some (.int v), some (.int x4), o5]) (by decide +kernel) (by decide) rfl (fun _ => rfl) (by omega) (by omega) ?_
    intro i50 hi50
    refine he_iinc (n := 56) (i := 4) (c := -1) (L' := fun v => [some (.ref (234)), some (.int x1), some (.int x2), some (.int i50), some (.int v), o5]) (by decide +kernel) (by decide) rfl (fun _ => rfl) (by omega) (by omega) ?_
    intro i53 hi53
    refine he_goto (t := 19) (by decide +kernel) ?_
    have q48 : v48.toInt = la.getD m 0 := by
      rw [← hv48, show v47.toInt.toNat = 4 * i + m by omega, hb_vc (hg 259 (by decide))]
      exact hla m (by omega)
    have hdl : (la.drop (m + 1)).length = la.length - (m + 1) := List.length_drop ..
    refine ih M1 i50 i53 (by omega) (by omega) (by omega) hm1 (fun b q => (wM1 b q).trans (hg b q)) ?_
    rw [xo_dr (by omega), ← q48]
    refine yST_push hS ?_ (fun j hj => eM1 _ _ (.inr (by omega)))
    rw [hdl, show la.length - (m + 1) = x3.toInt.toNat by omega]
    exact sM1
theorem yp_w3 {d z u i : Nat} {M0 : Nat → mq_C} {Q : (Option Value ⊕ Nat) → mq_S → Prop} {la st : List Int} {x1 x2 x4 : Int32} (h4 : x4.toInt = (i : Int)) (hi : i < 4) (hl4 : la.length ≤ 4) (hst : la.length + st.length ≤ 20) (hla : ∀ j, j < la.length → hv M0 246 (4 * i + j) = la.getD j 0) (K : ∀ (M' : Nat → mq_C) (x3 x5 : Int32), mz_sh mz_GG M' → (∀ b, b ≠ 265 → M' b = M0 b) → x3.toInt = ((la ++ st).length : Int) → yST M' (la ++ st) → mq_R mq_PP d 143 59 [some (.ref 234), some (.int x1), some (.int x2), some (.int x3), some (.int x4), some (.int x5)] [] (M', z, u) Q) :
    ∀ (m : Nat) (M : Nat → mq_C) (x3 x5 : Int32), m ≤ la.length → x5.toInt + 1 = (m : Int) → x3.toInt + (m : Int) = (la.length : Int) + (st.length : Int) → mz_sh mz_GG M → (∀ b, b ≠ 265 → M b = M0 b) → yST M (la.drop m ++ st) → mq_R mq_PP d 143 138 [some (.ref 234), some (.int x1), some (.int x2), some (.int x3), some (.int x4), some (.int x5)] [] (M, z, u) Q := by
  intro m
  induction m with
  | zero =>
    intro M x3 x5 hm4 e4 e3 hm hg hS
    refine he_iload (n := 140) (i := 5) (by decide +kernel) rfl ?_
    refine he_iflt_t (n := 143) (t := 170) (by decide +kernel) (by omega) ?_
    refine he_goto (t := 59) (by decide +kernel) ?_
    exact K M x3 x5 hm hg (by rw [List.length_append]; omega) hS
  | succ m ih =>
    intro M x3 x5 hm4 e4 e3 hm hg hS
    refine he_iload (n := 140) (i := 5) (by decide +kernel) rfl ?_
    refine he_iflt_f (n := 143) (t := 170) (by decide +kernel) (by omega) ?_
    refine he_aload (n := 144) (i := 0) (by decide +kernel) rfl ?_
    refine he_getr (n := 147) (ci := 9) (j := 40) (ns := [4217, 101]) (b := 265) hm (by decide +kernel) rfl rfl (by decide +kernel) ?_
    refine he_iload (n := 148) (i := 3) (by decide +kernel) rfl ?_
    refine he_aload (n := 149) (i := 0) (by decide +kernel) rfl ?_
    refine he_getr (n := 152) (ci := 9) (j := 12) (ns := [4189, 44]) (b := 246) hm (by decide +kernel) rfl rfl (by decide +kernel) ?_
    refine he_iconst (n := 153) (c := 4) (by decide +kernel) (by decide) ?_
    intro c152 hc152
    refine he_iload (n := 155) (i := 4) (by decide +kernel) rfl ?_
    refine he_imul (n := 156) (p := 4 * x4.toInt) (by decide +kernel) (by rw [hc152]) (by omega) (by omega) ?_
    intro v155 hv155
    refine he_iload (n := 158) (i := 5) (by decide +kernel) rfl ?_
    refine he_iadd (n := 159) (by decide +kernel) (by omega) (by omega) ?_
    intro v158 hv158
    refine hb_ld (n := 160) (kind := 64) hm (by decide +kernel) rfl rfl (.inl rfl) (by omega) (show _ < (16 : Int) by omega) hb_at1 ?_
    intro v159 hv159 lv159 uv159
    refine hb_sta (n := 161) (kind := 64) hm (by decide +kernel) rfl rfl (.inl rfl) (by omega) (show _ < (24 : Int) by omega) ?_
    generalize hM1 : hb_set M 265 (x3.toInt.toNat) v159 = M1
    have hm1 : mz_sh mz_GG M1 := by rw [← hM1]; exact hb_set_sh hm rfl hb_at1 (by omega) (by omega)
    have eM1 : ∀ b j, b ≠ 265 ∨ j ≠ x3.toInt.toNat → hv M1 b j = hv M b j := by intro b j h; rw [← hM1]; exact hb_set_n h
    have sM1 : hv M1 265 (x3.toInt.toNat) = v159.toInt := by rw [← hM1]; exact hb_set_v hm rfl (show _ < 24 by omega)
    have wM1 : ∀ b, b ≠ 265 → M1 b = M b := by intro b h; rw [← hM1]; exact hb_set_c h
    refine he_iinc (n := 164) (i := 3) (c := 1) (L' := fun v => [some (.ref (234)), some (.int x1), some (.int x2), some (.int v), some (.int x4), some (.int x5)]) (by decide +kernel) (by decide) rfl (fun _ => rfl) (by omega) (by omega) ?_
    intro i161 hi161
    refine he_iinc (n := 167) (i := 5) (c := -1) (L' := fun v => [some (.ref (234)), some (.int x1), some (.int x2), some (.int i161), some (.int x4), some (.int v)]) (by decide +kernel) (by decide) rfl (fun _ => rfl) (by omega) (by omega) ?_
    intro i164 hi164
    refine he_goto (t := 138) (by decide +kernel) ?_
    have q159 : v159.toInt = la.getD m 0 := by
      rw [← hv159, show v158.toInt.toNat = 4 * i + m by omega, hb_vc (hg 246 (by decide))]
      exact hla m (by omega)
    have hdl : (la.drop (m + 1) ++ st).length = la.length - (m + 1) + st.length := by rw [List.length_append, List.length_drop]
    refine ih M1 i161 i164 (by omega) (by omega) (by omega) hm1 (fun b q => (wM1 b q).trans (hg b q)) ?_
    rw [xo_dr (by omega), ← q159]
    show yST M1 (v159.toInt :: (la.drop (m + 1) ++ st))
    refine yST_push hS ?_ (fun j hj => eM1 _ _ (.inr (by omega)))
    rw [hdl, show la.length - (m + 1) + st.length = x3.toInt.toNat by omega]
    exact sM1
abbrev xrr2 (rdo : xRD) (a : Int) : Bool := (rdo a.toNat).isSome
theorem xfi_y {r : Int → Bool} {v : List Int} {a : Int} (h : r a = true) : (v ++ [a]).filter r = v.filter r ++ [a] := by
  rw [List.filter_append, List.filter_cons, if_pos h]
  rfl
theorem xfi_n {r : Int → Bool} {v : List Int} {a : Int} (h : ¬ r a = true) : (v ++ [a]).filter r = v.filter r := by
  rw [List.filter_append, List.filter_cons, if_neg h]
  exact List.append_nil _
theorem yp_w2 {d z u : Nat} {M0 : Nat → mq_C} {Q : (Option Value ⊕ Nat) → mq_S → Prop} {rdo : xRD} {on : Int → List Int} {V : List Int} {x1 : Int32} (ho : xon on) (hon : ∀ s : Nat, s < 4 → on (s : Int) = xono (rdo s)) (hrd : ∀ s : Nat, s < 4 → rdo s = xrd (ybt M0 s) (hv M0 236 s).toNat) (K : ∀ M' : Nat → mq_C, mz_sh mz_GG M' → yF M0 M' → yPT M' (V.filter (xrr2 rdo)) → yVD rdo M' V → Q (.inl none) (M', z, u)) :
    ∀ (m : Nat) (M : Nat → mq_C) (x2 x3 : Int32) (o4 o5 : Option Value) (st v : List Int), st.length + 5 * (4 - v.length) ≤ m → st.length + 4 * (4 - v.length) ≤ 20 → xgv v → xin st → x3.toInt = (st.length : Int) → yMK x2.toInt v → mz_sh mz_GG M → yF M0 M → yST M st → yPT M (v.filter (xrr2 rdo)) → yVD rdo M v → xpt on st v = V → mq_R mq_PP (d + 8) 143 59 [some (.ref 234), some (.int x1), some (.int x2), some (.int x3), o4, o5] [] (M, z, u) Q := by
  intro m
  induction m with
  | zero =>
    intro M x2 x3 o4 o5 st v e1 e2 hw hs e3 hk hm hg hS hP hD hV
    have hst : st = [] := List.length_eq_zero_iff.mp (by omega)
    subst hst
    have hV : v = V := hV
    subst hV
    have e3 : x3.toInt = 0 := e3
    refine he_iload (n := 60) (i := 3) (by decide +kernel) rfl ?_
    refine he_ifle_t (n := 63) (t := 173) (by decide +kernel) (by omega) ?_
    refine he_ret (by decide +kernel) ?_
    exact K M hm hg hP hD
  | succ m ih =>
    intro M x2 x3 o4 o5 st v e1 e2 hw hs e3 hk hm hg hS hP hD hV
    cases st with
    | nil =>
      have hV : v = V := hV
      subst hV
      have e3 : x3.toInt = 0 := e3
      refine he_iload (n := 60) (i := 3) (by decide +kernel) rfl ?_
      refine he_ifle_t (n := 63) (t := 173) (by decide +kernel) (by omega) ?_
      refine he_ret (by decide +kernel) ?_
      exact K M hm hg hP hD
    | cons a st =>
      have hl1 : (a :: st).length = st.length + 1 := rfl
      rw [hl1] at e1 e2 e3
      have ha := hs a (List.mem_cons_self ..)
      have hst : xin st := fun x hx => hs x (List.mem_cons_of_mem _ hx)
      obtain ⟨hp1, hp2⟩ := yST_pop hS
      obtain ⟨s, hsa⟩ : ∃ s : Nat, a = (s : Int) := ⟨a.toNat, by omega⟩
      have hs4 : s < 4 := by omega
      refine he_iload (n := 60) (i := 3) (by decide +kernel) rfl ?_
      refine he_ifle_f (n := 63) (t := 173) (by decide +kernel) (by omega) ?_
      refine he_iinc (n := 66) (i := 3) (c := -1) (L' := fun v => [some (.ref (234)), some (.int x1), some (.int x2), some (.int v), o4, o5]) (by decide +kernel) (by decide) rfl (fun _ => rfl) (by omega) (by omega) ?_
      intro i63 hi63
      refine he_aload (n := 67) (i := 0) (by decide +kernel) rfl ?_
      refine he_getr (n := 70) (ci := 9) (j := 40) (ns := [4217, 101]) (b := 265) hm (by decide +kernel) rfl rfl (by decide +kernel) ?_
      refine he_iload (n := 71) (i := 3) (by decide +kernel) rfl ?_
      refine hb_ld (n := 72) (kind := 64) hm (by decide +kernel) rfl rfl (.inl rfl) (by omega) (show _ < (24 : Int) by omega) hb_at1 ?_
      intro v71 hv71 lv71 uv71
      refine he_istore (n := 74) (i := 4) (by decide +kernel) rfl ?_
      have q71 : v71.toInt = (s : Int) := by rw [← hv71, show i63.toInt.toNat = st.length by omega, hp1, hsa]
      refine he_iload (n := 75) (i := 2) (by decide +kernel) rfl ?_
      refine he_iload (n := 77) (i := 4) (by decide +kernel) rfl ?_
      refine he_ex2 (o := 16) (n := 78) (by decide +kernel) rfl ?_
      intro v77 hv77
      have ev77 : v77 = x2 >>> (v71 &&& 31) := hv77
      have bv77 := mz_i32 v77
      refine he_iconst (n := 79) (c := 1) (by decide +kernel) (by decide) ?_
      intro c78 hc78
      refine he_ex2 (o := 12) (n := 80) (by decide +kernel) rfl ?_
      intro v79 hv79
      have ev79 : v79 = v77 &&& c78 := hv79
      have bv79 := mz_i32 v79
      refine he_iconst (n := 81) (c := 1) (by decide +kernel) (by decide) ?_
      intro c80 hc80
      have hmk := yMK_b (x := x2) (a := v71) (c := c78) hk q71 hs4 (by omega)
      by_cases c : v.elem a = true
      · have h79 : v79.toInt = 1 := by rw [ev79, ev77]; exact hmk.1 (by rw [← hsa]; exact c)
        rw [xpt_in ho hw hs (by omega) c] at hV
        refine he_cmpne_f (n := 84) (t := 87) (by decide +kernel) (by omega) ?_
        refine he_goto (t := 59) (by decide +kernel) ?_
        exact ih M x2 _ _ _ st v (by omega) (by omega) hw hst (by omega) hk hm hg hp2 hP hD hV
      · have hmk2 := hmk.2 (by rw [← hsa]; exact c)
        have h79 : ¬ v79.toInt = 1 := by rw [ev79, ev77]; exact hmk2.1
        rw [xpt_out ho hw hs (by omega) c] at hV
        have hro := xgv_room hw ha.1 ha.2 c
        have hgv := xgv_add hw ha.1 ha.2 c
        have hll : (v ++ [a]).length = v.length + 1 := by rw [List.length_append]; rfl
        have hoa := ho a ha.1 ha.2
        have hoa1 := hoa.1
        have hos := hon s hs4
        rw [← hsa] at hos
        refine he_cmpne_t (n := 84) (t := 87) (by decide +kernel) (by omega) ?_
        refine he_iload (n := 88) (i := 2) (by decide +kernel) rfl ?_
        refine he_iconst (n := 89) (c := 1) (by decide +kernel) (by decide) ?_
        intro c88 hc88
        refine he_iload (n := 91) (i := 4) (by decide +kernel) rfl ?_
        refine he_ex2 (o := 15) (n := 92) (by decide +kernel) rfl ?_
        intro v91 hv91
        have ev91 : v91 = c88 <<< (v71 &&& 31) := hv91
        have bv91 := mz_i32 v91
        refine he_ex2 (o := 13) (n := 93) (by decide +kernel) rfl ?_
        intro v92 hv92
        have ev92 : v92 = x2 ||| v91 := hv92
        have bv92 := mz_i32 v92
        refine he_istore (n := 94) (i := 2) (by decide +kernel) rfl ?_
        refine he_aload (n := 95) (i := 0) (by decide +kernel) rfl ?_
        refine he_iload (n := 97) (i := 4) (by decide +kernel) rfl ?_
        have hmk3 : yMK v92.toInt (v ++ [a]) := by
          rw [ev92, ev91, show c88 = c78 from Int32.toInt_inj.mp (by omega), hsa]
          exact hmk2.2
        have g36 : M 236 = M0 236 := hg.1 236 (by decide) (by decide) (by decide) (by decide) (by decide)
        have g35 : M 235 = M0 235 := hg.1 235 (by decide) (by decide) (by decide) (by decide) (by decide)
        have rg := xx_rng (c := _) hm (a := 236) (i := s) (lo := 0) (hi := 240) rfl (show s < 4 from hs4) hb_at1
        have hrs : rdo s = xrd (ybt M s) (hv M 236 s).toNat := by
          rw [hrd s hs4, hb_vc g36, show ybt M s = ybt M0 s from funext fun t => hb_vc g35 _]
        refine he_v1 (n := 100) (j := 138) (ci := 9) (mx := 3) (ns := [6030, 6032, 74, 250]) (by decide +kernel) ((hb_kd (a := 234) hm rfl).trans rfl) (by show 0 ≤ 8; omega) (by show 2 ≤ 3; omega) ?_
        rw [mq_e138]
        refine yp_read (d := d) (s := s) (len := (hv M 236 s).toNat) hm q71 hs4 (by omega) (by omega) ?_
        intro M' r hR hX
        show mq_R mq_PP (d + 8) 143 100 _ [.int r] (M', z, u) Q
        have hm' := hR.1
        have hD' : yVD rdo M' (v ++ [a]) := by
          rw [hsa]
          exact yVD_a hR (fun q => c (by rw [hsa]; exact q)) hX hrs hD
        have hS' : yST M' st := yST_c (hR.2.1 265 (by decide) (.inr (by decide)) (.inr (by decide))) hp2
        have k64 : M' 264 = M 264 := hR.2.1 264 (by decide) (.inr (by decide)) (.inr (by decide))
        have k38 : hv M' 234 38 = hv M 234 38 := hR.2.2.1 38 (by decide) (by decide) (by decide) (by decide)
        have hP' : yPT M' (v.filter (xrr2 rdo)) := ⟨k38.trans hP.1, fun j hj => (hb_vc k64 j).trans (hP.2 j hj)⟩
        have hg' := yF_t hg (yF_R hR)
        have has : a.toNat = s := by omega
        cases hr : rdo s with
        | none =>
          have r0 : r.toInt = 0 := hX.2 (hrs.symm.trans hr)
          rw [hr] at hos
          have hos : on a = [] := hos
          rw [hos] at hV
          refine he_ifne_f (n := 103) (t := 106) (by decide +kernel) (by omega) ?_
          refine he_goto (t := 59) (by decide +kernel) ?_
          refine ih M' v92 i63 _ _ st (v ++ [a]) (by omega) (by omega) hgv hst (by omega) hmk3 hm' hg' hS' ?_ hD' hV
          rw [xfi_n (r := xrr2 rdo) (v := v) (a := a) (by show ¬ (rdo a.toNat).isSome = true; rw [has, hr]; decide)]
          exact hP'
        | some ls =>
          obtain ⟨l, sm⟩ := ls
          obtain ⟨e1', e2', e3', e4', e5', e6', e7'⟩ := hX.1 l sm (hrs.symm.trans hr)
          rw [hr] at hos
          have hos : on a = sm.2.2.2 := hos
          rw [← hos] at e6' e7'
          have hfl : (v.filter (xrr2 rdo)).length ≤ v.length := List.length_filter_le ..
          have hPl := hP'.1
          refine he_ifne_t (n := 103) (t := 106) (by decide +kernel) (by omega) ?_
          refine he_aload (n := 107) (i := 0) (by decide +kernel) rfl ?_
          refine he_getr (n := 110) (ci := 9) (j := 39) (ns := [4216, 98]) (b := 264) hm' (by decide +kernel) rfl rfl (by decide +kernel) ?_
          refine he_aload (n := 111) (i := 0) (by decide +kernel) rfl ?_
          refine hb_gfd (n := 114) (ci := 9) (j := 38) (ns := [4215, 247]) hm' (by decide +kernel) rfl rfl (by decide) rfl ?_
          intro vb111 hvb111 lvb111 uvb111
          refine he_iload (n := 116) (i := 4) (by decide +kernel) rfl ?_
          refine hb_sta (n := 117) (kind := 64) hm' (by decide +kernel) rfl rfl (.inl rfl) (by omega) (show _ < (4 : Int) by omega) ?_
          generalize hMb1 : hb_set M' 264 (vb111.toInt.toNat) v71 = Mb1
          have hmb1 : mz_sh mz_GG Mb1 := by rw [← hMb1]; exact hb_set_sh hm' rfl hb_at1 (by omega) (by omega)
          have eMb1 : ∀ b j, b ≠ 264 ∨ j ≠ vb111.toInt.toNat → hv Mb1 b j = hv M' b j := by intro b j h; rw [← hMb1]; exact hb_set_n h
          have sMb1 : hv Mb1 264 (vb111.toInt.toNat) = v71.toInt := by rw [← hMb1]; exact hb_set_v hm' rfl (show _ < 4 by omega)
          have wMb1 : ∀ b, b ≠ 264 → Mb1 b = M' b := by intro b h; rw [← hMb1]; exact hb_set_c h
          have q38 : hv Mb1 234 38 = hv M' 234 38 := eMb1 _ _ (.inl (by decide))
          refine he_aload (n := 118) (i := 0) (by decide +kernel) rfl ?_
          refine he_dup_r (n := 119) (by decide +kernel) ?_
          refine hb_gfd (n := 122) (ci := 9) (j := 38) (ns := [4215, 247]) hmb1 (by decide +kernel) rfl rfl (by decide) rfl ?_
          intro vb119 hvb119 lvb119 uvb119
          refine he_iconst (n := 123) (c := 1) (by decide +kernel) (by decide) ?_
          intro cb122 hcb122
          refine he_iadd (n := 124) (by decide +kernel) (by omega) (by omega) ?_
          intro vb123 hvb123
          refine hb_pfd (n := 127) (ci := 9) (j := 38) (t := 0) (ns := [4215, 247]) hmb1 (by decide +kernel) rfl rfl (by decide) (.inl rfl) ?_
          generalize hMb2 : hb_set Mb1 234 38 vb123 = Mb2
          have hmb2 : mz_sh mz_GG Mb2 := by rw [← hMb2]; exact hb_set_sh hmb1 rfl rfl (by omega) (by omega)
          have eMb2 : ∀ b j, b ≠ 234 ∨ j ≠ 38 → hv Mb2 b j = hv Mb1 b j := by intro b j h; rw [← hMb2]; exact hb_set_n h
          have sMb2 : hv Mb2 234 38 = vb123.toInt := by rw [← hMb2]; exact hb_set_v hmb1 rfl (by decide)
          have wMb2 : ∀ b, b ≠ 234 → Mb2 b = Mb1 b := by intro b h; rw [← hMb2]; exact hb_set_c h
          refine he_aload (n := 128) (i := 0) (by decide +kernel) rfl ?_
          refine he_getr (n := 131) (ci := 9) (j := 11) (ns := [4188, 41]) (b := 245) hmb2 (by decide +kernel) rfl rfl (by decide +kernel) ?_
          refine he_iload (n := 133) (i := 4) (by decide +kernel) rfl ?_
          refine hb_ld (n := 134) (kind := 64) hmb2 (by decide +kernel) rfl rfl (.inl rfl) (by omega) (show _ < (4 : Int) by omega) hb_at1 ?_
          intro vb133 hvb133 lvb133 uvb133
          refine he_iconst (n := 135) (c := 1) (by decide +kernel) (by decide) ?_
          intro cb134 hcb134
          refine he_isub (n := 136) (by decide +kernel) (by omega) (by omega) ?_
          intro vb135 hvb135
          refine he_istore (n := 138) (i := 5) (by decide +kernel) rfl ?_
          have hpv : yPT Mb2 ((v ++ [a]).filter (xrr2 rdo)) := by
            rw [xfi_y (r := xrr2 rdo) (v := v) (a := a) (by show (rdo a.toNat).isSome = true; rw [has, hr]; rfl)]
            have hfl2 : (v.filter (xrr2 rdo) ++ [a]).length = (v.filter (xrr2 rdo)).length + 1 := by rw [List.length_append]; rfl
            refine ⟨by rw [sMb2, hfl2]; omega, fun j hj => ?_⟩
            rw [xo_gap, eMb2 _ _ (.inl (by decide))]
            by_cases q : j = (v.filter (xrr2 rdo)).length
            · rw [if_pos q, show j = vb111.toInt.toNat by omega, sMb1, hsa]
              exact q71
            · rw [if_neg q, eMb1 _ _ (.inr (by omega))]
              exact hP'.2 j (by omega)
          have hk2 : ∀ b, b ≠ 234 → b ≠ 264 → Mb2 b = M' b := fun b p q => (wMb2 b p).trans (wMb1 b q)
          have hg2 : yF M' Mb2 := ⟨fun b p _ _ q _ => hk2 b p q, fun j _ _ _ _ q => by rw [eMb2 _ _ (.inr q), eMb1 _ _ (.inl (by decide))]⟩
          have q133 : hv Mb2 245 v71.toInt.toNat = ((on a).length : Int) := by
            rw [hb_vc (hk2 245 (by decide) (by decide)), show v71.toInt.toNat = s by omega]
            exact e6'
          refine yp_w3 (i := s) (M0 := Mb2) (la := on a) (st := st) q71 hs4 hoa1 (by omega) (fun j hj => by rw [hb_vc (hk2 246 (by decide) (by decide))]; exact e7' j hj) ?_ (on a).length Mb2 i63 vb135 (Nat.le_refl _) (by omega) (by omega) hmb2 (fun _ _ => rfl) ?_
          · intro M4 x3' x5' hm4 hq4 hx3 hS4
            refine ih M4 _ _ _ _ (on a ++ st) (v ++ [a]) ?_ ?_ hgv (xin_app hoa.2 hst) hx3 hmk3 hm4 (yF_t (yF_t hg' hg2) (yF_265 hq4)) hS4 ⟨(hb_vc (hq4 234 (by decide)) 38).trans hpv.1, fun j hj => (hb_vc (hq4 264 (by decide)) j).trans (hpv.2 j hj)⟩ (yVD_k (fun b p q => (hq4 b (by omega)).trans (hk2 b (by omega) (by omega))) hD') hV
            · rw [List.length_append]
              omega
            · rw [List.length_append]
              omega
          · rw [List.drop_length]
            exact yST_c (hk2 265 (by decide) (by decide)) hS'
theorem yp_path {d z u i : Nat} {M : Nat → mq_C} {Q : (Option Value ⊕ Nat) → mq_S → Prop} {rdo : xRD} {on : Int → List Int} {cl : Int} {la : List Int} {x1 : Int32} (hm : mz_sh mz_GG M) (h1 : x1.toInt = (i : Int)) (hi : i < 4) (hcl : hv M 260 i = cl) (hln : hv M 258 i = (la.length : Int)) (hl4 : la.length ≤ 4) (hin : xin la) (hla : ∀ j, j < la.length → hv M 259 (4 * i + j) = la.getD j 0) (ho : xon on) (hon : ∀ s : Nat, s < 4 → on (s : Int) = xono (rdo s)) (hrd : ∀ s : Nat, s < 4 → rdo s = xrd (ybt M s) (hv M 236 s).toNat) (K : ∀ M' : Nat → mq_C, mz_sh mz_GG M' → yF M M' → yPT M' ((xFP on cl la).filter (xrr2 rdo)) → yVD rdo M' (xFP on cl la) → Q (.inl none) (M', z, u)) : mq_R mq_PP (d + 8) 143 0 [some (.ref 234), some (.int x1), none, none, none, none] [] (M, z, u) Q := by
  have hi1 : x1.toInt.toNat = i := by omega
  refine he_aload (n := 1) (i := 0) (by decide +kernel) rfl ?_
  refine he_iconst (n := 2) (c := 0) (by decide +kernel) (by decide) ?_
  intro c1 hc1
  refine hb_pfd (n := 5) (ci := 9) (j := 38) (t := 0) (ns := [4215, 247]) hm (by decide +kernel) rfl rfl (by decide) (.inl rfl) ?_
  generalize hM1 : hb_set M 234 38 c1 = M1
  have hm1 : mz_sh mz_GG M1 := by rw [← hM1]; exact hb_set_sh hm rfl rfl (by omega) (by omega)
  have eM1 : ∀ b j, b ≠ 234 ∨ j ≠ 38 → hv M1 b j = hv M b j := by intro b j h; rw [← hM1]; exact hb_set_n h
  have sM1 : hv M1 234 38 = c1.toInt := by rw [← hM1]; exact hb_set_v hm rfl (by decide)
  have wM1 : ∀ b, b ≠ 234 → M1 b = M b := by intro b h; rw [← hM1]; exact hb_set_c h
  refine he_iconst (n := 6) (c := 0) (by decide +kernel) (by decide) ?_
  intro c5 hc5
  refine he_istore (n := 7) (i := 2) (by decide +kernel) rfl ?_
  refine he_iconst (n := 8) (c := 0) (by decide +kernel) (by decide) ?_
  intro c7 hc7
  refine he_istore (n := 9) (i := 3) (by decide +kernel) rfl ?_
  refine he_aload (n := 10) (i := 0) (by decide +kernel) rfl ?_
  refine he_getr (n := 13) (ci := 9) (j := 32) (ns := [4209, 80]) (b := 258) hm1 (by decide +kernel) rfl rfl (by decide +kernel) ?_
  refine he_iload (n := 14) (i := 1) (by decide +kernel) rfl ?_
  refine hb_ld (n := 15) (kind := 64) hm1 (by decide +kernel) rfl rfl (.inl rfl) (by omega) (show _ < (4 : Int) by omega) hb_at1 ?_
  intro v14 hv14 lv14 uv14
  refine he_iconst (n := 16) (c := 1) (by decide +kernel) (by decide) ?_
  intro c15 hc15
  refine he_isub (n := 17) (by decide +kernel) (by omega) (by omega) ?_
  intro v16 hv16
  refine he_istore (n := 19) (i := 4) (by decide +kernel) rfl ?_
  have q14 : v14.toInt = (la.length : Int) := by rw [← hv14, hi1, hb_vc (wM1 258 (by decide))]; exact hln
  have hg1 : yF M M1 := ⟨fun b p _ _ _ _ => wM1 b p, fun j _ _ _ _ q => eM1 _ _ (.inr q)⟩
  have hP1 : yPT M1 ([].filter (xrr2 rdo)) := ⟨by rw [sM1]; show _ = (0 : Int); omega, fun j hj => absurd hj (Nat.not_lt_zero j)⟩
  have hmk : yMK c5.toInt [] := by rw [hc5]; exact yMK_0
  by_cases c : cl = 0
  · have hV : xFP on cl la = xpt on la [] := by
      unfold xFP
      rw [if_pos c]
    refine yp_w1 (i := i) (M0 := M1) (la := la) h1 hi (by rw [hb_vc (wM1 260 (by decide)), hcl]; exact c) hl4 (fun j hj => by rw [hb_vc (wM1 259 (by decide))]; exact hla j hj) ?_ la.length M1 c7 v16 (Nat.le_refl _) (by omega) (by omega) hm1 (fun _ _ => rfl) (by rw [List.drop_length]; exact yST_nil)
    intro M' x3 x4 hm' hq hx3 hS
    refine yp_w2 (M0 := M) (V := xFP on cl la) ho hon hrd K 100 M' _ _ _ _ la [] (by show la.length + 5 * (4 - 0) ≤ 100; omega) (by show la.length + 4 * (4 - 0) ≤ 20; omega) xgv_nil hin hx3 hmk hm' (yF_t hg1 (yF_265 hq)) hS ⟨(hb_vc (hq 234 (by decide)) 38).trans hP1.1, fun j hj => absurd hj (Nat.not_lt_zero j)⟩ yVD_nil hV.symm
  · have hV : xFP on cl la = [] := by
      unfold xFP
      rw [if_neg c]
    have k260 : hv M1 260 x1.toInt.toNat = cl := by rw [hi1, hb_vc (wM1 260 (by decide))]; exact hcl
    refine he_iload (n := 21) (i := 4) (by decide +kernel) rfl ?_
    by_cases g : v16.toInt < 0
    · skip
      refine he_iflt_t (n := 24) (t := 59) (by decide +kernel) (by omega) ?_
      exact yp_w2 (M0 := M) (V := xFP on cl la) ho hon hrd K 100 M1 _ _ _ _ [] [] (by decide) (by decide) xgv_nil (fun x hx => by cases hx) (by show _ = (0 : Int); omega) hmk hm1 hg1 yST_nil hP1 yVD_nil hV.symm
    · skip
      refine he_iflt_f (n := 24) (t := 59) (by decide +kernel) (by omega) ?_
      refine he_aload (n := 25) (i := 0) (by decide +kernel) rfl ?_
      refine he_getr (n := 28) (ci := 9) (j := 34) (ns := [4211, 86]) (b := 260) hm1 (by decide +kernel) rfl rfl (by decide +kernel) ?_
      refine he_iload (n := 29) (i := 1) (by decide +kernel) rfl ?_
      refine hb_ld (n := 30) (kind := 65) hm1 (by decide +kernel) rfl rfl (.inr rfl) (by omega) (show _ < (4 : Int) by omega) hb_at1 ?_
      intro v29 hv29 lv29 uv29
      refine he_ifne_t (n := 33) (t := 59) (by decide +kernel) (by omega) ?_
      exact yp_w2 (M0 := M) (V := xFP on cl la) ho hon hrd K 100 M1 _ _ _ _ [] [] (by decide) (by decide) xgv_nil (fun x hx => by cases hx) (by show _ = (0 : Int); omega) hmk hm1 hg1 yST_nil hP1 yVD_nil hV.symm
