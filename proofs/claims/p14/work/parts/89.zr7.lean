/-! The model's findAll and all, exactly. -/
theorem xpl_fil {f : Int → Int} {r : Int → Bool} : ∀ v : List Int, (∀ a ∈ v, ¬ r a = true → f a = -1) → xpl f (v.filter r) = xpl f v := by
  intro v
  induction v with
  | nil => intro _; rfl
  | cons a v ih =>
    intro h
    have ih := ih (fun x hx => h x (List.mem_cons_of_mem _ hx))
    rw [List.filter_cons]
    by_cases c : r a = true
    · rw [if_pos c]
      show (if f a = -1 then xpl f (v.filter r) else f a :: xpl f (v.filter r)) = (if f a = -1 then xpl f v else f a :: xpl f v)
      rw [ih]
    · rw [if_neg c, ih]
      show _ = (if f a = -1 then xpl f v else f a :: xpl f v)
      rw [if_pos (h a (List.mem_cons_self ..) c)]
def xv : List Nat → Int
  | [] => 0
  | a :: r => (a : Int) + 4 * xv r
theorem xv_b : ∀ l : List Nat, (∀ a ∈ l, a < 4) → 0 ≤ xv l ∧ xv l < ((4 ^ l.length : Nat) : Int) := by
  intro l
  induction l with
  | nil => intro _; exact ⟨by decide, by decide⟩
  | cons a l ih =>
    intro h
    have ih := ih (fun x hx => h x (List.mem_cons_of_mem _ hx))
    have ha := h a (List.mem_cons_self ..)
    show 0 ≤ (a : Int) + 4 * xv l ∧ (a : Int) + 4 * xv l < ((4 ^ (l.length + 1) : Nat) : Int)
    rw [Nat.pow_succ]
    omega
theorem xv_3 {l : List Nat} (h : ∀ a ∈ l, a < 4) (hl : l.length ≤ 3) : 0 ≤ xv l ∧ xv l ≤ 63 := by
  have h1 := xv_b l h
  have h2 : 4 ^ l.length ≤ 4 ^ 3 := Nat.pow_le_pow_right (by decide) hl
  have h3 : (4 : Nat) ^ 3 = 64 := by decide
  omega
theorem xv_4 {l : List Nat} (h : ∀ a ∈ l, a < 4) (hl : l.length ≤ 4) : 0 ≤ xv l ∧ xv l ≤ 255 := by
  have h1 := xv_b l h
  have h2 : 4 ^ l.length ≤ 4 ^ 4 := Nat.pow_le_pow_right (by decide) hl
  have h3 : (4 : Nat) ^ 4 = 256 := by decide
  omega
theorem xv_t : ∀ k : Fin 256, (Int32.ofInt (k.val : Int) &&& Int32.ofInt 3).toInt = ((k.val % 4 : Nat) : Int) ∧ (Int32.ofInt (k.val : Int) >>> (Int32.ofInt 2 &&& 31)).toInt = ((k.val / 4 : Nat) : Int) := by decide +kernel
theorem xv_d {x c e : Int32} {a : Nat} {r : List Nat} (h : x.toInt = xv (a :: r)) (ha : a < 4) (h0 : 0 ≤ x.toInt) (h1 : x.toInt ≤ 255) (hc : c.toInt = 3) (he : e.toInt = 2) : (x &&& c).toInt = (a : Int) ∧ (x >>> (e &&& 31)).toInt = xv r := by
  have ex : x = Int32.ofInt ((x.toInt.toNat : Nat) : Int) := xe_oi (by omega)
  have t : (Int32.ofInt ((x.toInt.toNat : Nat) : Int) &&& Int32.ofInt 3).toInt = ((x.toInt.toNat % 4 : Nat) : Int) ∧ (Int32.ofInt ((x.toInt.toNat : Nat) : Int) >>> (Int32.ofInt 2 &&& 31)).toInt = ((x.toInt.toNat / 4 : Nat) : Int) := xv_t ⟨x.toInt.toNat, by omega⟩
  rw [← ex, ← show c = Int32.ofInt 3 from xe_oi hc, ← show e = Int32.ofInt 2 from xe_oi he] at t
  have h : x.toInt = (a : Int) + 4 * xv r := h
  exact ⟨by omega, by omega⟩
theorem yat257_0 {i : Nat} (h : i = 0) : mz_at (64, 4, 0, [(0, -1, 0), (0, 0, 0), (0, 0, 1), (0, 0, 2)]) i = (0, -1, 0) := by rw [h]; rfl
theorem yat257_1 {i : Nat} (h : i = 1) : mz_at (64, 4, 0, [(0, -1, 0), (0, 0, 0), (0, 0, 1), (0, 0, 2)]) i = (0, 0, 0) := by rw [h]; rfl
theorem yat257_2 {i : Nat} (h : i = 2) : mz_at (64, 4, 0, [(0, -1, 0), (0, 0, 0), (0, 0, 1), (0, 0, 2)]) i = (0, 0, 1) := by rw [h]; rfl
theorem yat257_3 {i : Nat} (h : i = 3) : mz_at (64, 4, 0, [(0, -1, 0), (0, 0, 0), (0, 0, 1), (0, 0, 2)]) i = (0, 0, 2) := by rw [h]; rfl
theorem yp_c1 {d z u l : Nat} {M : Nat → mq_C} {Q : (Option Value ⊕ Nat) → mq_S → Prop} {p : Nat → Int} {L : List Nat} {x1 x2 : Int32} (hm : mz_sh mz_GG M) (hl : l < 4) (hp : ∀ i : Nat, i ≤ l → hv M 257 i = p i) (hb : ∀ i : Nat, i < 4 → -1 ≤ p i ∧ p i < (i : Int)) (K : ∀ x3 x4 x5 : Int32, x3.toInt = xv L → x4.toInt = (L.length : Int) → (∀ a ∈ L, a < 4) → L.length ≤ 4 → mq_R mq_PP d 160 40 [some (.ref 234), some (.int x1), some (.int x2), some (.int x3), some (.int x4), some (.int x5), none, none, none] [] (M, z, u) Q) :
    ∀ (m : Nat) (x3 x4 x5 : Int32) (acc : List Nat), x5.toInt + 1 ≤ (m : Int) → (acc.length : Int) + (x5.toInt + 1) ≤ 4 → x3.toInt = xv acc → x4.toInt = (acc.length : Int) → (∀ a ∈ acc, a < 4) → -1 ≤ x5.toInt → x5.toInt ≤ (l : Int) → xca p m x5.toInt acc = L → mq_R mq_PP d 160 13 [some (.ref 234), some (.int x1), some (.int x2), some (.int x3), some (.int x4), some (.int x5), none, none, none] [] (M, z, u) Q := by
  intro m
  induction m with
  | zero =>
    intro x3 x4 x5 acc e1 e2 e3 e4 hA e5 e6 hL
    have hL : acc = L := hL
    subst hL
    refine he_iload (n := 15) (i := 5) (by decide +kernel) rfl ?_
    refine he_iflt_t (n := 18) (t := 40) (by decide +kernel) (by omega) ?_
    exact K x3 x4 x5 e3 e4 hA (by omega)
  | succ m ih =>
    intro x3 x4 x5 acc e1 e2 e3 e4 hA e5 e6 hL
    refine he_iload (n := 15) (i := 5) (by decide +kernel) rfl ?_
    by_cases c : x5.toInt < 0
    · have hL : acc = L := by
        rw [← hL]
        show _ = (if x5.toInt < 0 then acc else _)
        rw [if_pos c]
      subst hL
      refine he_iflt_t (n := 18) (t := 40) (by decide +kernel) (by omega) ?_
      exact K x3 x4 x5 e3 e4 hA (by omega)
    · have hx3 := xv_3 hA (by omega)
      have h4 : x5.toInt = 0 ∨ x5.toInt = 1 ∨ x5.toInt = 2 ∨ x5.toInt = 3 := by omega
      rcases h4 with h5 | h5 | h5 | h5
      · have hb0 := hb 0 (by decide)
        have hpp := hp 0 (by omega)
        refine he_iflt_f (n := 18) (t := 40) (by decide +kernel) (by omega) ?_
        refine he_iconst (n := 19) (c := 4) (by decide +kernel) (by decide) ?_
        intro c18 hc18
        refine he_iload (n := 20) (i := 3) (by decide +kernel) rfl ?_
        refine he_imul (n := 21) (p := 4 * x3.toInt) (by decide +kernel) (by rw [hc18]) (by omega) (by omega) ?_
        intro v20 hv20
        refine he_iload (n := 23) (i := 5) (by decide +kernel) rfl ?_
        refine he_iadd (n := 24) (by decide +kernel) (by omega) (by omega) ?_
        intro v23 hv23
        refine he_istore (n := 25) (i := 3) (by decide +kernel) rfl ?_
        refine he_iinc (n := 28) (i := 4) (c := 1) (L' := fun v => [some (.ref (234)), some (.int x1), some (.int x2), some (.int v23), some (.int v), some (.int x5), none, none, none]) (by decide +kernel) (by decide) rfl (fun _ => rfl) (by omega) (by omega) ?_
        intro i25 hi25
        refine he_aload (n := 29) (i := 0) (by decide +kernel) rfl ?_
        refine he_getr (n := 32) (ci := 9) (j := 31) (ns := [4208, 77]) (b := 257) hm (by decide +kernel) rfl rfl (by decide +kernel) ?_
        refine he_iload (n := 34) (i := 5) (by decide +kernel) rfl ?_
        refine hb_ld (n := 35) (kind := 64) hm (by decide +kernel) rfl rfl (.inl rfl) (by omega) (show _ < (4 : Int) by omega) (yat257_0 (by omega)) ?_
        intro v34 hv34 lv34 uv34
        refine he_istore (n := 37) (i := 5) (by decide +kernel) rfl ?_
        refine he_goto (t := 13) (by decide +kernel) ?_
        have q34 : v34.toInt = p 0 := by rw [← hv34, show x5.toInt.toNat = 0 by omega]; exact hpp
        have hac : ∀ a ∈ x5.toInt.toNat :: acc, a < 4 := fun a ha => by
          rcases List.mem_cons.mp ha with q | q
          · rw [q]; omega
          · exact hA a q
        refine ih v23 i25 v34 (x5.toInt.toNat :: acc) (by omega) (by have e : (x5.toInt.toNat :: acc).length = acc.length + 1 := rfl; rw [e]; omega) (by show _ = ((x5.toInt.toNat : Nat) : Int) + 4 * xv acc; omega) (by show _ = ((acc.length + 1 : Nat) : Int); omega) hac (by omega) (by omega) ?_
        rw [q34, ← hL]
        show _ = (if x5.toInt < 0 then acc else xca p m (p x5.toInt.toNat) (x5.toInt.toNat :: acc))
        rw [if_neg c, show x5.toInt.toNat = 0 by omega]
      · have hb1 := hb 1 (by decide)
        have hpp := hp 1 (by omega)
        refine he_iflt_f (n := 18) (t := 40) (by decide +kernel) (by omega) ?_
        refine he_iconst (n := 19) (c := 4) (by decide +kernel) (by decide) ?_
        intro c18 hc18
        refine he_iload (n := 20) (i := 3) (by decide +kernel) rfl ?_
        refine he_imul (n := 21) (p := 4 * x3.toInt) (by decide +kernel) (by rw [hc18]) (by omega) (by omega) ?_
        intro v20 hv20
        refine he_iload (n := 23) (i := 5) (by decide +kernel) rfl ?_
        refine he_iadd (n := 24) (by decide +kernel) (by omega) (by omega) ?_
        intro v23 hv23
        refine he_istore (n := 25) (i := 3) (by decide +kernel) rfl ?_
        refine he_iinc (n := 28) (i := 4) (c := 1) (L' := fun v => [some (.ref (234)), some (.int x1), some (.int x2), some (.int v23), some (.int v), some (.int x5), none, none, none]) (by decide +kernel) (by decide) rfl (fun _ => rfl) (by omega) (by omega) ?_
        intro i25 hi25
        refine he_aload (n := 29) (i := 0) (by decide +kernel) rfl ?_
        refine he_getr (n := 32) (ci := 9) (j := 31) (ns := [4208, 77]) (b := 257) hm (by decide +kernel) rfl rfl (by decide +kernel) ?_
        refine he_iload (n := 34) (i := 5) (by decide +kernel) rfl ?_
        refine hb_ld (n := 35) (kind := 64) hm (by decide +kernel) rfl rfl (.inl rfl) (by omega) (show _ < (4 : Int) by omega) (yat257_1 (by omega)) ?_
        intro v34 hv34 lv34 uv34
        refine he_istore (n := 37) (i := 5) (by decide +kernel) rfl ?_
        refine he_goto (t := 13) (by decide +kernel) ?_
        have q34 : v34.toInt = p 1 := by rw [← hv34, show x5.toInt.toNat = 1 by omega]; exact hpp
        have hac : ∀ a ∈ x5.toInt.toNat :: acc, a < 4 := fun a ha => by
          rcases List.mem_cons.mp ha with q | q
          · rw [q]; omega
          · exact hA a q
        refine ih v23 i25 v34 (x5.toInt.toNat :: acc) (by omega) (by have e : (x5.toInt.toNat :: acc).length = acc.length + 1 := rfl; rw [e]; omega) (by show _ = ((x5.toInt.toNat : Nat) : Int) + 4 * xv acc; omega) (by show _ = ((acc.length + 1 : Nat) : Int); omega) hac (by omega) (by omega) ?_
        rw [q34, ← hL]
        show _ = (if x5.toInt < 0 then acc else xca p m (p x5.toInt.toNat) (x5.toInt.toNat :: acc))
        rw [if_neg c, show x5.toInt.toNat = 1 by omega]
      · have hb2 := hb 2 (by decide)
        have hpp := hp 2 (by omega)
        refine he_iflt_f (n := 18) (t := 40) (by decide +kernel) (by omega) ?_
        refine he_iconst (n := 19) (c := 4) (by decide +kernel) (by decide) ?_
        intro c18 hc18
        refine he_iload (n := 20) (i := 3) (by decide +kernel) rfl ?_
        refine he_imul (n := 21) (p := 4 * x3.toInt) (by decide +kernel) (by rw [hc18]) (by omega) (by omega) ?_
        intro v20 hv20
        refine he_iload (n := 23) (i := 5) (by decide +kernel) rfl ?_
        refine he_iadd (n := 24) (by decide +kernel) (by omega) (by omega) ?_
        intro v23 hv23
        refine he_istore (n := 25) (i := 3) (by decide +kernel) rfl ?_
        refine he_iinc (n := 28) (i := 4) (c := 1) (L' := fun v => [some (.ref (234)), some (.int x1), some (.int x2), some (.int v23), some (.int v), some (.int x5), none, none, none]) (by decide +kernel) (by decide) rfl (fun _ => rfl) (by omega) (by omega) ?_
        intro i25 hi25
        refine he_aload (n := 29) (i := 0) (by decide +kernel) rfl ?_
        refine he_getr (n := 32) (ci := 9) (j := 31) (ns := [4208, 77]) (b := 257) hm (by decide +kernel) rfl rfl (by decide +kernel) ?_
        refine he_iload (n := 34) (i := 5) (by decide +kernel) rfl ?_
        refine hb_ld (n := 35) (kind := 64) hm (by decide +kernel) rfl rfl (.inl rfl) (by omega) (show _ < (4 : Int) by omega) (yat257_2 (by omega)) ?_
        intro v34 hv34 lv34 uv34
        refine he_istore (n := 37) (i := 5) (by decide +kernel) rfl ?_
        refine he_goto (t := 13) (by decide +kernel) ?_
        have q34 : v34.toInt = p 2 := by rw [← hv34, show x5.toInt.toNat = 2 by omega]; exact hpp
        have hac : ∀ a ∈ x5.toInt.toNat :: acc, a < 4 := fun a ha => by
          rcases List.mem_cons.mp ha with q | q
          · rw [q]; omega
          · exact hA a q
        refine ih v23 i25 v34 (x5.toInt.toNat :: acc) (by omega) (by have e : (x5.toInt.toNat :: acc).length = acc.length + 1 := rfl; rw [e]; omega) (by show _ = ((x5.toInt.toNat : Nat) : Int) + 4 * xv acc; omega) (by show _ = ((acc.length + 1 : Nat) : Int); omega) hac (by omega) (by omega) ?_
        rw [q34, ← hL]
        show _ = (if x5.toInt < 0 then acc else xca p m (p x5.toInt.toNat) (x5.toInt.toNat :: acc))
        rw [if_neg c, show x5.toInt.toNat = 2 by omega]
      · have hb3 := hb 3 (by decide)
        have hpp := hp 3 (by omega)
        refine he_iflt_f (n := 18) (t := 40) (by decide +kernel) (by omega) ?_
        refine he_iconst (n := 19) (c := 4) (by decide +kernel) (by decide) ?_
        intro c18 hc18
        refine he_iload (n := 20) (i := 3) (by decide +kernel) rfl ?_
        refine he_imul (n := 21) (p := 4 * x3.toInt) (by decide +kernel) (by rw [hc18]) (by omega) (by omega) ?_
        intro v20 hv20
        refine he_iload (n := 23) (i := 5) (by decide +kernel) rfl ?_
        refine he_iadd (n := 24) (by decide +kernel) (by omega) (by omega) ?_
        intro v23 hv23
        refine he_istore (n := 25) (i := 3) (by decide +kernel) rfl ?_
        refine he_iinc (n := 28) (i := 4) (c := 1) (L' := fun v => [some (.ref (234)), some (.int x1), some (.int x2), some (.int v23), some (.int v), some (.int x5), none, none, none]) (by decide +kernel) (by decide) rfl (fun _ => rfl) (by omega) (by omega) ?_
        intro i25 hi25
        refine he_aload (n := 29) (i := 0) (by decide +kernel) rfl ?_
        refine he_getr (n := 32) (ci := 9) (j := 31) (ns := [4208, 77]) (b := 257) hm (by decide +kernel) rfl rfl (by decide +kernel) ?_
        refine he_iload (n := 34) (i := 5) (by decide +kernel) rfl ?_
        refine hb_ld (n := 35) (kind := 64) hm (by decide +kernel) rfl rfl (.inl rfl) (by omega) (show _ < (4 : Int) by omega) (yat257_3 (by omega)) ?_
        intro v34 hv34 lv34 uv34
        refine he_istore (n := 37) (i := 5) (by decide +kernel) rfl ?_
        refine he_goto (t := 13) (by decide +kernel) ?_
        have q34 : v34.toInt = p 3 := by rw [← hv34, show x5.toInt.toNat = 3 by omega]; exact hpp
        have hac : ∀ a ∈ x5.toInt.toNat :: acc, a < 4 := fun a ha => by
          rcases List.mem_cons.mp ha with q | q
          · rw [q]; omega
          · exact hA a q
        refine ih v23 i25 v34 (x5.toInt.toNat :: acc) (by omega) (by have e : (x5.toInt.toNat :: acc).length = acc.length + 1 := rfl; rw [e]; omega) (by show _ = ((x5.toInt.toNat : Nat) : Int) + 4 * xv acc; omega) (by show _ = ((acc.length + 1 : Nat) : Int); omega) hac (by omega) (by omega) ?_
        rw [q34, ← hL]
        show _ = (if x5.toInt < 0 then acc else xca p m (p x5.toInt.toNat) (x5.toInt.toNat :: acc))
        rw [if_neg c, show x5.toInt.toNat = 3 by omega]
def yG (M0 M : Nat → mq_C) : Prop := (∀ b, b ≠ 234 → b < 238 ∨ 248 < b → b < 252 ∨ 257 ≤ b → b ≠ 264 → b ≠ 265 → b ≠ 268 → M b = M0 b) ∧ ∀ j, j ≠ 21 → j ≠ 23 → j ≠ 24 → j ≠ 25 → j ≠ 38 → j ≠ 55 → j ≠ 0 → hv M 234 j = hv M0 234 j
theorem yG_r {M : Nat → mq_C} : yG M M := ⟨fun _ _ _ _ _ _ _ => rfl, fun _ _ _ _ _ _ _ _ => rfl⟩
theorem yG_t {M0 M M' : Nat → mq_C} (h : yG M0 M) (h' : yG M M') : yG M0 M' := ⟨fun b p q r s t v => (h'.1 b p q r s t v).trans (h.1 b p q r s t v), fun j p q r s t v w => (h'.2 j p q r s t v w).trans (h.2 j p q r s t v w)⟩
theorem yG_F {M M' : Nat → mq_C} (h : yF M M') : yG M M' := ⟨fun b p q r s t _ => h.1 b p q r s t, fun j p q r s t _ _ => h.2 j p q r s t⟩
/-- found and places -/
def yFL (M : Nat → mq_C) (acc : List Int) : Prop := hv M 234 55 = (acc.length : Int) ∧ ∀ j, j < acc.length → hv M 268 j = acc.getD j 0
theorem yp_c3 {d z u : Nat} {M0 : Nat → mq_C} {Q : (Option Value ⊕ Nat) → mq_S → Prop} {rdo : xRD} {f : Int → Int} {V P acc : List Int} {x1 x2 x3 x4 x5 x6 : Int32} (hf : ∀ s : Nat, s < 4 → f (s : Int) = xpla (rdo s) x2 (s : Int)) (hV : xin V) (hP4 : P.length ≤ 4) (hPV : ∀ a ∈ P, V.elem a = true ∧ xrr2 rdo a = true) (ha : acc.length ≤ 12) (K : ∀ (M' : Nat → mq_C) (x5' x7 : Int32) (o8 : Option Value), mz_sh mz_GG M' → yG M0 M' → yFL M' (acc ++ xpl f P) → x5'.toInt = x5.toInt + 1 → mq_R mq_PP (d + 9) 160 43 [some (.ref 234), some (.int x1), some (.int x2), some (.int x3), some (.int x4), some (.int x5'), some (.int x6), some (.int x7), o8] [] (M', z, u) Q) (h5 : x5.toInt ≤ 100) (h50 : 0 ≤ x5.toInt) :
    ∀ (m : Nat) (M : Nat → mq_C) (x7 : Int32) (o8 : Option Value) (k : Nat), k + m = P.length → x7.toInt = (k : Int) → mz_sh mz_GG M → yG M0 M → yPT M P → yVD rdo M V → yFL M (acc ++ xpl f (P.take k)) → mq_R mq_PP (d + 9) 160 68 [some (.ref 234), some (.int x1), some (.int x2), some (.int x3), some (.int x4), some (.int x5), some (.int x6), some (.int x7), o8] [] (M, z, u) Q := by
  intro m
  induction m with
  | zero =>
    intro M x7 o8 k e1 e7 hm hg hp hD hL
    have hp1 := hp.1
    refine he_iload (n := 70) (i := 7) (by decide +kernel) rfl ?_
    refine he_aload (n := 71) (i := 0) (by decide +kernel) rfl ?_
    refine hb_gfd (n := 74) (ci := 9) (j := 38) (ns := [4215, 247]) hm (by decide +kernel) rfl rfl (by decide) rfl ?_
    intro v71 hv71 lv71 uv71
    refine he_cmpge_t (n := 77) (t := 134) (by decide +kernel) (by omega) ?_
    refine he_iinc (n := 137) (i := 5) (c := 1) (L' := fun v => [some (.ref (234)), some (.int x1), some (.int x2), some (.int x3), some (.int x4), some (.int v), some (.int x6), some (.int x7), o8]) (by decide +kernel) (by decide) rfl (fun _ => rfl) (by omega) (by omega) ?_
    intro i134 hi134
    refine he_goto (t := 43) (by decide +kernel) ?_
    rw [List.take_of_length_le (by omega)] at hL
    exact K M _ _ _ hm hg hL (by omega)
  | succ m ih =>
    intro M x7 o8 k e1 e7 hm hg hp hD hL
    have hp1 := hp.1
    have hl1 := hL.1
    have hal : (acc ++ xpl f (P.take k)).length ≤ acc.length + k := by
      have h1 := xpl_len (f := f) (P.take k)
      rw [List.length_take] at h1
      rw [List.length_append]
      omega
    refine he_iload (n := 70) (i := 7) (by decide +kernel) rfl ?_
    refine he_aload (n := 71) (i := 0) (by decide +kernel) rfl ?_
    refine hb_gfd (n := 74) (ci := 9) (j := 38) (ns := [4215, 247]) hm (by decide +kernel) rfl rfl (by decide) rfl ?_
    intro v71 hv71 lv71 uv71
    refine he_cmpge_f (n := 77) (t := 134) (by decide +kernel) (by omega) ?_
    refine he_aload (n := 78) (i := 0) (by decide +kernel) rfl ?_
    refine he_aload (n := 79) (i := 0) (by decide +kernel) rfl ?_
    refine he_getr (n := 82) (ci := 9) (j := 39) (ns := [4216, 98]) (b := 264) hm (by decide +kernel) rfl rfl (by decide +kernel) ?_
    refine he_iload (n := 84) (i := 7) (by decide +kernel) rfl ?_
    refine hb_ld (n := 85) (kind := 64) hm (by decide +kernel) rfl rfl (.inl rfl) (by omega) (show _ < (4 : Int) by omega) hb_at1 ?_
    intro v84 hv84 lv84 uv84
    refine he_iload (n := 86) (i := 2) (by decide +kernel) rfl ?_
    have q84 : v84.toInt = P.getD k 0 := by rw [← hv84, show x7.toInt.toNat = k by omega]; exact hp.2 k (by omega)
    have hx := hPV _ (xo_gdm (v := P) (j := k) (by omega))
    rw [← q84] at hx
    have hx3 := hV _ (List.elem_iff.mp hx.1)
    obtain ⟨s, hs⟩ : ∃ s : Nat, v84.toInt = (s : Int) := ⟨v84.toInt.toNat, by omega⟩
    have hs4 : s < 4 := by omega
    have htk : P.take (k + 1) = P.take k ++ [(s : Int)] := by rw [← hs, q84]; exact xo_tk (by omega)
    have hxp : xpl f (P.take (k + 1)) = xpl f (P.take k) ++ xpl f [(s : Int)] := by rw [htk, xpl_app]
    have hrs : (rdo s).isSome = true := by
      have h := hx.2
      rw [hs] at h
      have h : (rdo ((s : Int)).toNat).isSome = true := h
      rw [show ((s : Int)).toNat = s by omega] at h
      exact h
    obtain ⟨⟨l, st⟩, hls⟩ := Option.isSome_iff_exists.mp hrs
    obtain ⟨d1, d2, d3, d4⟩ := hD s hs4 (by rw [← hs]; exact hx.1) l st hls
    have hfs := hf s hs4
    rw [hls] at hfs
    have hfs : f (s : Int) = if xrfor (fun i => (l.getD i xd0).1) l.length st.2.2.1 x2 = -1 then -1 else 8 * (s : Int) + xrfor (fun i => (l.getD i xd0).1) l.length st.2.2.1 x2 := hfs
    refine he_v2 (n := 89) (j := 139) (ci := 9) (mx := 4) (ns := [6069, 6071, 83, 309]) (by decide +kernel) ((hb_kd (a := 234) hm rfl).trans rfl) (by show 0 ≤ 8; omega) (by show 3 ≤ 4; omega) ?_
    rw [mq_e139]
    refine yp_rf (d := d + 7) (s := s) (n := l.length) hm hs hs4 d1 d2 ?_
    intro r hr
    show mq_R mq_PP (d + 9) 160 89 _ [.int r] (M, z, u) Q
    have hc : xrfor (fun i => hv M 239 (6 * s + i)) l.length (hv M 248 s) x2 = xrfor (fun i => (l.getD i xd0).1) l.length st.2.2.1 x2 := by
      rw [d4]
      exact xrfor_c (fun i hi => congrArg Prod.fst (d3 i hi))
    rw [hc] at hr
    have hrb := xrfor_r (f := fun i => (l.getD i xd0).1) (n := l.length) (vb := st.2.2.1) (x := x2)
    rw [← hr] at hrb hfs
    by_cases g : r.toInt = -1
    · rw [if_pos g] at hfs
      rw [xpl_n hfs, List.append_nil] at hxp
      refine he_istore (n := 91) (i := 8) (by decide +kernel) rfl ?_
      refine he_iload (n := 93) (i := 8) (by decide +kernel) rfl ?_
      refine he_iflt_t (n := 96) (t := 128) (by decide +kernel) (by omega) ?_
      refine he_iinc (n := 131) (i := 7) (c := 1) (L' := fun v => [some (.ref (234)), some (.int x1), some (.int x2), some (.int x3), some (.int x4), some (.int x5), some (.int x6), some (.int v), some (.int r)]) (by decide +kernel) (by decide) rfl (fun _ => rfl) (by omega) (by omega) ?_
      intro ib128 hib128
      refine he_goto (t := 68) (by decide +kernel) ?_
      refine ih M _ _ (k + 1) (by omega) (by omega) hm hg hp hD ?_
      rw [hxp]
      exact hL
    · rw [if_neg g] at hfs
      rw [xpl_s (by omega), hfs] at hxp
      refine he_istore (n := 91) (i := 8) (by decide +kernel) rfl ?_
      refine he_iload (n := 93) (i := 8) (by decide +kernel) rfl ?_
      refine he_iflt_f (n := 96) (t := 128) (by decide +kernel) (by omega) ?_
      refine he_aload (n := 97) (i := 0) (by decide +kernel) rfl ?_
      refine he_getr (n := 100) (ci := 9) (j := 56) (ns := [4233, 114]) (b := 268) hm (by decide +kernel) rfl rfl (by decide +kernel) ?_
      refine he_aload (n := 101) (i := 0) (by decide +kernel) rfl ?_
      refine hb_gfd (n := 104) (ci := 9) (j := 55) (ns := [4232, 330]) hm (by decide +kernel) rfl rfl (by decide) rfl ?_
      intro vb101 hvb101 lvb101 uvb101
      refine he_iconst (n := 106) (c := 8) (by decide +kernel) (by decide) ?_
      intro cb104 hcb104
      refine he_aload (n := 107) (i := 0) (by decide +kernel) rfl ?_
      refine he_getr (n := 110) (ci := 9) (j := 39) (ns := [4216, 98]) (b := 264) hm (by decide +kernel) rfl rfl (by decide +kernel) ?_
      refine he_iload (n := 112) (i := 7) (by decide +kernel) rfl ?_
      refine hb_ld (n := 113) (kind := 64) hm (by decide +kernel) rfl rfl (.inl rfl) (by omega) (show _ < (4 : Int) by omega) hb_at1 ?_
      intro vb112 hvb112 lvb112 uvb112
      have q112 : vb112.toInt = (s : Int) := by rw [← hvb112, show x7.toInt.toNat = k by omega, hp.2 k (by omega), ← q84]; exact hs
      refine he_imul (n := 114) (p := 8 * vb112.toInt) (by decide +kernel) (by rw [hcb104]) (by omega) (by omega) ?_
      intro vb113 hvb113
      refine he_iload (n := 116) (i := 8) (by decide +kernel) rfl ?_
      refine he_iadd (n := 117) (by decide +kernel) (by omega) (by omega) ?_
      intro vb116 hvb116
      refine hb_sta (n := 118) (kind := 64) hm (by decide +kernel) rfl rfl (.inl rfl) (by omega) (show _ < (16 : Int) by omega) ?_
      generalize hMb1 : hb_set M 268 (vb101.toInt.toNat) vb116 = Mb1
      have hmb1 : mz_sh mz_GG Mb1 := by rw [← hMb1]; exact hb_set_sh hm rfl hb_at1 (by omega) (by omega)
      have eMb1 : ∀ b j, b ≠ 268 ∨ j ≠ vb101.toInt.toNat → hv Mb1 b j = hv M b j := by intro b j h; rw [← hMb1]; exact hb_set_n h
      have sMb1 : hv Mb1 268 (vb101.toInt.toNat) = vb116.toInt := by rw [← hMb1]; exact hb_set_v hm rfl (show _ < 16 by omega)
      have wMb1 : ∀ b, b ≠ 268 → Mb1 b = M b := by intro b h; rw [← hMb1]; exact hb_set_c h
      have q55 : hv Mb1 234 55 = hv M 234 55 := eMb1 _ _ (.inl (by decide))
      refine he_aload (n := 119) (i := 0) (by decide +kernel) rfl ?_
      refine he_dup_r (n := 120) (by decide +kernel) ?_
      refine hb_gfd (n := 123) (ci := 9) (j := 55) (ns := [4232, 330]) hmb1 (by decide +kernel) rfl rfl (by decide) rfl ?_
      intro vb120 hvb120 lvb120 uvb120
      refine he_iconst (n := 124) (c := 1) (by decide +kernel) (by decide) ?_
      intro cb123 hcb123
      refine he_iadd (n := 125) (by decide +kernel) (by omega) (by omega) ?_
      intro vb124 hvb124
      refine hb_pfd (n := 128) (ci := 9) (j := 55) (t := 0) (ns := [4232, 330]) hmb1 (by decide +kernel) rfl rfl (by decide) (.inl rfl) ?_
      generalize hMb2 : hb_set Mb1 234 55 vb124 = Mb2
      have hmb2 : mz_sh mz_GG Mb2 := by rw [← hMb2]; exact hb_set_sh hmb1 rfl rfl (by omega) (by omega)
      have eMb2 : ∀ b j, b ≠ 234 ∨ j ≠ 55 → hv Mb2 b j = hv Mb1 b j := by intro b j h; rw [← hMb2]; exact hb_set_n h
      have sMb2 : hv Mb2 234 55 = vb124.toInt := by rw [← hMb2]; exact hb_set_v hmb1 rfl (by decide)
      have wMb2 : ∀ b, b ≠ 234 → Mb2 b = Mb1 b := by intro b h; rw [← hMb2]; exact hb_set_c h
      refine he_iinc (n := 131) (i := 7) (c := 1) (L' := fun v => [some (.ref (234)), some (.int x1), some (.int x2), some (.int x3), some (.int x4), some (.int x5), some (.int x6), some (.int v), some (.int r)]) (by decide +kernel) (by decide) rfl (fun _ => rfl) (by omega) (by omega) ?_
      intro ib128 hib128
      refine he_goto (t := 68) (by decide +kernel) ?_
      have hacc : acc ++ xpl f (P.take (k + 1)) = (acc ++ xpl f (P.take k)) ++ [8 * (s : Int) + r.toInt] := by rw [hxp, List.append_assoc]
      have hal2 : (acc ++ xpl f (P.take (k + 1))).length = (acc ++ xpl f (P.take k)).length + 1 := by rw [hacc, List.length_append]; rfl
      have hk2 : ∀ b, b ≠ 234 → b ≠ 268 → Mb2 b = M b := fun b p q => (wMb2 b p).trans (wMb1 b q)
      refine ih Mb2 _ _ (k + 1) (by omega) (by omega) hmb2 (yG_t hg ⟨fun b p _ _ _ _ q => hk2 b p q, fun j _ _ _ _ _ q _ => by rw [eMb2 _ _ (.inr q), eMb1 _ _ (.inl (by decide))]⟩) ⟨by rw [eMb2 _ _ (.inr (by decide)), eMb1 _ _ (.inl (by decide))]; exact hp.1, fun j hj => by rw [hb_vc (hk2 264 (by decide) (by decide))]; exact hp.2 j hj⟩ (yVD_k (fun b p q => hk2 b (by omega) (by omega)) hD) ⟨by rw [sMb2, hal2]; omega, fun j hj => ?_⟩
      rw [hacc, xo_gap, eMb2 _ _ (.inl (by decide))]
      by_cases q : j = (acc ++ xpl f (P.take k)).length
      · rw [if_pos q, show j = vb101.toInt.toNat by omega, sMb1]
        omega
      · rw [if_neg q, eMb1 _ _ (.inr (by omega))]
        exact hL.2 j (by omega)
/-- the model's loaders -/
def yCL (p cl : Nat → Int) (la : Nat → List Int) (l : Nat) (M : Nat → mq_C) : Prop := ∀ i : Nat, i < 4 → hv M 260 i = cl i ∧ (hv M 258 i = ((la i).length : Int) ∧ (la i).length ≤ 4 ∧ xin (la i) ∧ ∀ j, j < (la i).length → hv M 259 (4 * i + j) = (la i).getD j 0) ∧ (i ≤ l → hv M 257 i = p i)
theorem yCL_k {p cl : Nat → Int} {la : Nat → List Int} {l : Nat} {M M' : Nat → mq_C} (h : ∀ b, b ≠ 234 → M' b = M b) (g : yCL p cl la l M) : yCL p cl la l M' := by
  intro i hi
  obtain ⟨c1, ⟨c2, c3, c4, c5⟩, c6⟩ := g i hi
  exact ⟨(hb_vc (h 260 (by decide)) i).trans c1, ⟨(hb_vc (h 258 (by decide)) i).trans c2, c3, c4, fun j hj => (hb_vc (h 259 (by decide)) _).trans (c5 j hj)⟩, fun q => (hb_vc (h 257 (by decide)) i).trans (c6 q)⟩
theorem yp_c2 {d z u : Nat} {M0 : Nat → mq_C} {Q : (Option Value ⊕ Nat) → mq_S → Prop} {rdo : xRD} {on : Int → List Int} {f : Int → Int} {p cl : Nat → Int} {la : Nat → List Int} {l : Nat} {RES : List Int} {x1 x2 x4 : Int32} (ho : xon on) (hon : ∀ s : Nat, s < 4 → on (s : Int) = xono (rdo s)) (hrd : ∀ s : Nat, s < 4 → rdo s = xrd (ybt M0 s) (hv M0 236 s).toNat) (hf : ∀ s : Nat, s < 4 → f (s : Int) = xpla (rdo s) x2 (s : Int)) (hC : yCL p cl la l M0) (hx4 : x4.toInt ≤ 4) (K : ∀ M' : Nat → mq_C, mz_sh mz_GG M' → yG M0 M' → yFL M' RES → Q (.inl none) (M', z, u)) :
    ∀ (m : Nat) (M : Nat → mq_C) (x3 x5 : Int32) (o6 o7 o8 : Option Value) (L : List Nat) (acc : List Int), L.length = m → (∀ a ∈ L, a < 4) → x3.toInt = xv L → x5.toInt + (m : Int) = x4.toInt → 0 ≤ x5.toInt → (acc.length : Int) ≤ 4 * x5.toInt → mz_sh mz_GG M → yG M0 M → yFL M acc → acc ++ xfm (xgg f on cl la) L = RES → mq_R mq_PP (d + 9) 160 43 [some (.ref 234), some (.int x1), some (.int x2), some (.int x3), some (.int x4), some (.int x5), o6, o7, o8] [] (M, z, u) Q := by
  intro m
  induction m with
  | zero =>
    intro M x3 x5 o6 o7 o8 L acc hLl hA e3 e5 e50 hac hm hg hL hR
    have hLn : L = [] := List.length_eq_zero_iff.mp hLl
    subst hLn
    have hR : acc ++ [] = RES := hR
    rw [List.append_nil] at hR
    subst hR
    refine he_iload (n := 45) (i := 5) (by decide +kernel) rfl ?_
    refine he_iload (n := 47) (i := 4) (by decide +kernel) rfl ?_
    refine he_cmpge_t (n := 50) (t := 140) (by decide +kernel) (by omega) ?_
    refine he_ret (by decide +kernel) ?_
    exact K M hm hg hL
  | succ m ih =>
    intro M x3 x5 o6 o7 o8 L acc hLl hA e3 e5 e50 hac hm hg hL hR
    obtain ⟨i, L2, hLe⟩ : ∃ i L2, L = i :: L2 := by
      cases L with
      | nil => exact absurd hLl.symm (Nat.succ_ne_zero m)
      | cons i L2 => exact ⟨i, L2, rfl⟩
    subst hLe
    have hLl : L2.length = m := by
      have h : L2.length + 1 = m + 1 := hLl
      omega
    have hi4 := hA i (List.mem_cons_self ..)
    have hA' : ∀ a ∈ L2, a < 4 := fun a ha => hA a (List.mem_cons_of_mem _ ha)
    have hx3 := xv_4 hA (by show L2.length + 1 ≤ 4; omega)
    have hR : acc ++ (xgg f on cl la i ++ xfm (xgg f on cl la) L2) = RES := hR
    obtain ⟨c1, ⟨c2, c3, c4, c5⟩, -⟩ := hC i hi4
    have w2 := fun b p q r s t v j => hb_vc (hg.1 b p q r s t v) j
    refine he_iload (n := 45) (i := 5) (by decide +kernel) rfl ?_
    refine he_iload (n := 47) (i := 4) (by decide +kernel) rfl ?_
    refine he_cmpge_f (n := 50) (t := 140) (by decide +kernel) (by omega) ?_
    refine he_iload (n := 51) (i := 3) (by decide +kernel) rfl ?_
    refine he_iconst (n := 52) (c := 3) (by decide +kernel) (by decide) ?_
    intro c51 hc51
    refine he_ex2 (o := 12) (n := 53) (by decide +kernel) rfl ?_
    intro v52 hv52
    have ev52 : v52 = x3 &&& c51 := hv52
    have bv52 := mz_i32 v52
    refine he_istore (n := 55) (i := 6) (by decide +kernel) rfl ?_
    refine he_iload (n := 56) (i := 3) (by decide +kernel) rfl ?_
    refine he_iconst (n := 57) (c := 2) (by decide +kernel) (by decide) ?_
    intro c56 hc56
    refine he_ex2 (o := 16) (n := 58) (by decide +kernel) rfl ?_
    intro v57 hv57
    have ev57 : v57 = x3 >>> (c56 &&& 31) := hv57
    have bv57 := mz_i32 v57
    refine he_istore (n := 59) (i := 3) (by decide +kernel) rfl ?_
    refine he_aload (n := 60) (i := 0) (by decide +kernel) rfl ?_
    refine he_iload (n := 62) (i := 6) (by decide +kernel) rfl ?_
    have hdd := xv_d (x := x3) (c := c51) (e := c56) e3 hi4 (by omega) (by omega) (by omega) (by omega)
    rw [← ev52, ← ev57] at hdd
    refine he_v1 (n := 65) (j := 143) (ci := 9) (mx := 6) (ns := [6026, 6028, 73, 303]) (by decide +kernel) ((hb_kd (a := 234) hm rfl).trans rfl) (by show 0 ≤ 8; omega) (by show 2 ≤ 6; omega) ?_
    rw [mq_e143]
    refine yp_path (d := d) (i := i) (rdo := rdo) (on := on) (cl := cl i) (la := la i) hm hdd.1 hi4 ?_ ?_ c3 c4 ?_ ho hon ?_ ?_
    · rw [w2 260 (by decide) (by decide) (by decide) (by decide) (by decide) (by decide)]
      exact c1
    · rw [w2 258 (by decide) (by decide) (by decide) (by decide) (by decide) (by decide)]
      exact c2
    · intro j hj
      rw [w2 259 (by decide) (by decide) (by decide) (by decide) (by decide) (by decide)]
      exact c5 j hj
    · intro s hs
      rw [hrd s hs, w2 236 (by decide) (by decide) (by decide) (by decide) (by decide) (by decide), show ybt M s = ybt M0 s from funext fun t => w2 235 (by decide) (by decide) (by decide) (by decide) (by decide) (by decide) _]
    intro M' hm' hF hP hD
    show mq_R mq_PP (d + 9) 160 65 _ [] (M', z, u) Q
    have hgv := xFP_gv (cl := cl i) ho c4
    have hgl := xgg_len (f := f) (cl := cl) (la := la) (i := i) ho c4
    have hfe : xpl f ((xFP on (cl i) (la i)).filter (xrr2 rdo)) = xgg f on cl la i := by
      refine xpl_fil _ (fun a ha hn => ?_)
      have ha3 := hgv.2.1 a ha
      obtain ⟨s, hs⟩ : ∃ s : Nat, a = (s : Int) := ⟨a.toNat, by omega⟩
      subst hs
      have hn : ¬ (rdo ((s : Int)).toNat).isSome = true := hn
      rw [show ((s : Int)).toNat = s by omega] at hn
      rw [hf s (by omega)]
      cases hq : rdo s with
      | none => rfl
      | some ls => exact absurd (by rw [hq]; rfl) hn
    have hfl : ((xFP on (cl i) (la i)).filter (xrr2 rdo)).length ≤ (xFP on (cl i) (la i)).length := List.length_filter_le ..
    have hg4 := hgv.1
    refine he_iconst (n := 66) (c := 0) (by decide +kernel) (by decide) ?_
    intro cb65 hcb65
    refine he_istore (n := 68) (i := 7) (by decide +kernel) rfl ?_
    refine yp_c3 (d := d) (M0 := M0) (rdo := rdo) (f := f) (V := xFP on (cl i) (la i)) (P := (xFP on (cl i) (la i)).filter (xrr2 rdo)) (acc := acc) hf hgv.2.1 (by omega) (fun a ha => ?_) (by omega) ?_ (by omega) (by omega) _ M' cb65 _ 0 (Nat.zero_add _) (by omega) hm' (yG_t hg (yG_F hF)) hP hD ?_
    · have h := List.mem_filter.mp ha
      exact ⟨List.elem_iff.mpr h.1, h.2⟩
    · rw [hfe]
      intro M4 x5' x7 o8' hm4 hg4' hL4 hx5
      refine ih M4 _ _ _ _ _ L2 (acc ++ xgg f on cl la i) hLl hA' hdd.2 (by omega) (by omega) ?_ hm4 hg4' hL4 (by rw [List.append_assoc]; exact hR)
      rw [List.length_append]
      omega
    · show yFL M' (acc ++ [])
      rw [List.append_nil]
      exact ⟨(hF.2 55 (by decide) (by decide) (by decide) (by decide) (by decide)).trans hL.1, fun j hj => (hb_vc (hF.1 268 (by decide) (by decide) (by decide) (by decide) (by decide)) j).trans (hL.2 j hj)⟩
theorem xca_len {p : Nat → Int} : ∀ (m : Nat) (l : Int) (acc : List Nat), (xca p m l acc).length ≤ acc.length + m := by
  intro m
  induction m with
  | zero => intro l acc; exact Nat.le_refl _
  | succ m ih =>
    intro l acc
    show (if l < 0 then acc else xca p m (p l.toNat) (l.toNat :: acc)).length ≤ _
    by_cases c : l < 0
    · rw [if_pos c]; omega
    · rw [if_neg c]
      have h : _ ≤ acc.length + 1 + m := ih (p l.toNat) (l.toNat :: acc)
      omega
theorem yp_fa {d z u : Nat} {M : Nat → mq_C} {Q : (Option Value ⊕ Nat) → mq_S → Prop} {rdo : xRD} {on : Int → List Int} {f : Int → Int} {p cl : Nat → Int} {la : Nat → List Int} {l : Nat} {x1 x2 : Int32} (hm : mz_sh mz_GG M) (ho : xon on) (hon : ∀ s : Nat, s < 4 → on (s : Int) = xono (rdo s)) (hrd : ∀ s : Nat, s < 4 → rdo s = xrd (ybt M s) (hv M 236 s).toNat) (hf : ∀ s : Nat, s < 4 → f (s : Int) = xpla (rdo s) x2 (s : Int)) (hC : yCL p cl la l M) (hb : ∀ i : Nat, i < 4 → -1 ≤ p i ∧ p i < (i : Int)) (hl : l < 4) (h1 : x1.toInt = (l : Int)) (K : ∀ M' : Nat → mq_C, mz_sh mz_GG M' → yFL M' (xfm (xgg f on cl la) (xca p 4 (l : Int) [])) → Q (.inl none) (M', z, u)) : mq_R mq_PP (d + 9) 160 0 [some (.ref 234), some (.int x1), some (.int x2), none, none, none, none, none, none] [] (M, z, u) Q := by
  refine he_aload (n := 1) (i := 0) (by decide +kernel) rfl ?_
  refine he_iconst (n := 2) (c := 0) (by decide +kernel) (by decide) ?_
  intro c1 hc1
  refine hb_pfd (n := 5) (ci := 9) (j := 55) (t := 0) (ns := [4232, 330]) hm (by decide +kernel) rfl rfl (by decide) (.inl rfl) ?_
  generalize hM1 : hb_set M 234 55 c1 = M1
  have hm1 : mz_sh mz_GG M1 := by rw [← hM1]; exact hb_set_sh hm rfl rfl (by omega) (by omega)
  have eM1 : ∀ b j, b ≠ 234 ∨ j ≠ 55 → hv M1 b j = hv M b j := by intro b j h; rw [← hM1]; exact hb_set_n h
  have sM1 : hv M1 234 55 = c1.toInt := by rw [← hM1]; exact hb_set_v hm rfl (by decide)
  have wM1 : ∀ b, b ≠ 234 → M1 b = M b := by intro b h; rw [← hM1]; exact hb_set_c h
  refine he_iconst (n := 6) (c := 0) (by decide +kernel) (by decide) ?_
  intro c5 hc5
  refine he_istore (n := 7) (i := 3) (by decide +kernel) rfl ?_
  refine he_iconst (n := 8) (c := 0) (by decide +kernel) (by decide) ?_
  intro c7 hc7
  refine he_istore (n := 10) (i := 4) (by decide +kernel) rfl ?_
  refine he_iload (n := 11) (i := 1) (by decide +kernel) rfl ?_
  refine he_istore (n := 13) (i := 5) (by decide +kernel) rfl ?_
  have hk1 := fun b (q : b ≠ 234) => wM1 b q
  have hC1 : yCL p cl la l M1 := yCL_k hk1 hC
  refine yp_c1 (l := l) (p := p) (L := xca p 4 (l : Int) []) hm1 hl (fun i hi => (hC1 i (by omega)).2.2 hi) hb ?_ 4 c5 c7 x1 [] (by omega) (by show (0 : Int) + _ ≤ 4; omega) (by show _ = (0 : Int); omega) (by show _ = (0 : Int); omega) (fun a ha => by cases ha) (by omega) (by omega) (by rw [h1])
  intro x3 x4 x5 hx3 hx4 hA hl4
  refine he_iconst (n := 41) (c := 0) (by decide +kernel) (by decide) ?_
  intro cb40 hcb40
  refine he_istore (n := 43) (i := 5) (by decide +kernel) rfl ?_
  refine yp_c2 (d := d) (M0 := M1) (rdo := rdo) (f := f) (p := p) (l := l) ho hon (fun s hs => ?_) hf hC1 (by omega) (fun M' hm' _ hL => K M' hm' hL) _ M1 x3 cb40 _ _ _ _ [] rfl hA hx3 (by omega) (by omega) (by show ((0 : Nat) : Int) ≤ _; omega) hm1 yG_r ⟨by rw [sM1]; show _ = (0 : Int); omega, fun j hj => absurd hj (Nat.not_lt_zero j)⟩ rfl
  rw [hrd s hs, hb_vc (hk1 236 (by decide)), show ybt M1 s = ybt M s from funext fun t => hb_vc (hk1 235 (by decide)) _]
theorem ym_all {d z u : Nat} {M : Nat → mq_C} {Q : (Option Value ⊕ Nat) → mq_S → Prop} {rdo : xRD} {on : Int → List Int} {f : Int → Int} {p cl : Nat → Int} {la : Nat → List Int} {x1 x2 x3 : Int32} (hm : mz_sh mz_GG M) (ho : xon on) (hon : ∀ s : Nat, s < 4 → on (s : Int) = xono (rdo s)) (hrd : ∀ s : Nat, s < 4 → rdo s = xrd (ybt M s) (hv M 236 s).toNat) (hf : ∀ s : Nat, s < 4 → f (s : Int) = xpla (rdo s) x2 (s : Int)) (hC : ∀ l : Nat, (l : Int) < hv M 234 30 → yCL p cl la l M) (hb : ∀ i : Nat, i < 4 → -1 ≤ p i ∧ p i < (i : Int)) (hin : ∀ i, xin (la i)) (K : ∀ (M' : Nat → mq_C) (r : Int32), r.toInt = xal (hv M 234 30) p (xgg f on cl la) (hb_nm x2.toInt) x1.toInt x3.toInt → Q (.inl (some (.int r))) (M', z, u)) : mq_R mq_PP (d + 10) 161 0 [some (.ref 234), some (.int x1), some (.int x2), some (.int x3)] [] (M, z, u) Q := by
  have hc4 := (xx_rng (c := _) hm (a := 234) (i := 30) (lo := 0) (hi := 4) rfl (by decide) rfl).2
  refine he_aload (n := 1) (i := 0) (by decide +kernel) rfl ?_
  refine he_iconst (n := 2) (c := 0) (by decide +kernel) (by decide) ?_
  intro c1 hc1
  refine hb_pfd (n := 5) (ci := 9) (j := 0) (t := 0) (ns := [4177, 126]) hm (by decide +kernel) rfl rfl (by decide) (.inl rfl) ?_
  generalize hM1 : hb_set M 234 0 c1 = M1
  have hm1 : mz_sh mz_GG M1 := by rw [← hM1]; exact hb_set_sh hm rfl rfl (by omega) (by omega)
  have eM1 : ∀ b j, b ≠ 234 ∨ j ≠ 0 → hv M1 b j = hv M b j := by intro b j h; rw [← hM1]; exact hb_set_n h
  have sM1 : hv M1 234 0 = c1.toInt := by rw [← hM1]; exact hb_set_v hm rfl (by decide)
  have wM1 : ∀ b, b ≠ 234 → M1 b = M b := by intro b h; rw [← hM1]; exact hb_set_c h
  refine he_iload (n := 6) (i := 1) (by decide +kernel) rfl ?_
  refine he_aload (n := 7) (i := 0) (by decide +kernel) rfl ?_
  refine hb_gfd (n := 10) (ci := 9) (j := 30) (ns := [4207, 244]) hm1 (by decide +kernel) rfl rfl (by decide) rfl ?_
  intro v7 hv7 lv7 uv7
  have hk1 := fun b (q : b ≠ 234) => wM1 b q
  have k30 : hv M1 234 30 = hv M 234 30 := eM1 _ _ (.inr (by decide))
  refine he_s2 (n := 13) (j := 107) (mx := 2) (ns := [5207, 5208, 1011, 210]) (by decide +kernel) (by show 0 ≤ 8; omega) (by show 2 ≤ 2; omega) ?_
  rw [mq_e107]
  refine ym_out ?_
  intro r1 a0 a1
  show mq_R mq_PP (d + 10) 161 13 _ [.int r1] (M1, z, u) Q
  rw [← hv7, k30] at a0 a1
  by_cases g1 : 0 ≤ x1.toInt ∧ x1.toInt < hv M 234 30
  rotate_left
  · have a1 := a1 g1
    rw [xal_n (fun h => g1 h.1)] at K
    refine he_ifne_t (n := 16) (t := 23) (by decide +kernel) (by omega) ?_
    refine he_iconst (n := 24) (c := -1) (by decide +kernel) (by decide) ?_
    intro cb23 hcb23
    refine he_reti (by decide +kernel) ?_
    exact K M1 _ (by omega)
  have a0 := a0 g1
  refine he_ifne_f (n := 16) (t := 23) (by decide +kernel) (by omega) ?_
  refine he_iload (n := 17) (i := 2) (by decide +kernel) rfl ?_
  refine he_s1 (n := 20) (j := 123) (mx := 4) (ns := [5142, 5143, 1011, 194]) (by decide +kernel) (by show 0 ≤ 8; omega) (by show 1 ≤ 4; omega) ?_
  rw [mq_e123]
  refine hn_ns ?_
  intro r2 hr2
  show mq_R mq_PP (d + 10) 161 20 _ [.int r2] (M1, z, u) Q
  by_cases g2 : hb_nm x2.toInt = 0
  · rw [xal_n (fun h => h.2.1 g2)] at K
    refine he_ifne_f (n := 23) (t := 25) (by decide +kernel) (by omega) ?_
    refine he_iconst (n := 24) (c := -1) (by decide +kernel) (by decide) ?_
    intro ce23 hce23
    refine he_reti (by decide +kernel) ?_
    exact K M1 _ (by omega)
  refine he_ifne_t (n := 23) (t := 25) (by decide +kernel) (by omega) ?_
  refine he_aload (n := 26) (i := 0) (by decide +kernel) rfl ?_
  refine he_iload (n := 27) (i := 1) (by decide +kernel) rfl ?_
  refine he_iload (n := 28) (i := 2) (by decide +kernel) rfl ?_
  refine he_v2 (n := 31) (j := 160) (ci := 9) (mx := 9) (ns := [6109, 6111, 88, 333]) (by decide +kernel) ((hb_kd (a := 234) hm1 rfl).trans rfl) (by show 0 ≤ 8; omega) (by show 3 ≤ 9; omega) ?_
  rw [mq_e160]
  have hl : x1.toInt.toNat < 4 := by omega
  have hle : ((x1.toInt.toNat : Nat) : Int) = x1.toInt := by omega
  have hC1 : yCL p cl la x1.toInt.toNat M1 := yCL_k hk1 (hC x1.toInt.toNat (by omega))
  refine yp_fa (d := d) (rdo := rdo) (on := on) (f := f) (p := p) (cl := cl) (la := la) (l := x1.toInt.toNat) hm1 ho hon (fun s hs => ?_) hf hC1 hb hl (by omega) ?_
  · rw [hrd s hs, hb_vc (hk1 236 (by decide)), show ybt M1 s = ybt M s from funext fun t => hb_vc (hk1 235 (by decide)) _]
  rw [hle]
  intro M' hm' hL
  show mq_R mq_PP (d + 10) 161 31 _ [] (M', z, u) Q
  have hL1 := hL.1
  refine he_iload (n := 32) (i := 3) (by decide +kernel) rfl ?_
  refine he_aload (n := 33) (i := 0) (by decide +kernel) rfl ?_
  refine hb_gfd (n := 36) (ci := 9) (j := 55) (ns := [4232, 330]) hm' (by decide +kernel) rfl rfl (by decide) rfl ?_
  intro vg33 hvg33 lvg33 uvg33
  refine he_s2 (n := 39) (j := 107) (mx := 2) (ns := [5207, 5208, 1011, 210]) (by decide +kernel) (by show 0 ≤ 8; omega) (by show 2 ≤ 2; omega) ?_
  rw [mq_e107]
  refine ym_out ?_
  intro r4 b0 b1
  show mq_R mq_PP (d + 10) 161 39 _ [.int r4] (M', z, u) Q
  rw [← hvg33] at b0 b1
  have hlen := xfm_len (g := xgg f on cl la) (fun j => xgg_len ho (hin j)) (xca p 4 x1.toInt [])
  have hlc : (xca p 4 x1.toInt []).length ≤ 0 + 4 := xca_len 4 x1.toInt []
  by_cases g4 : 0 ≤ x3.toInt ∧ x3.toInt < hv M' 234 55
  rotate_left
  · have b1 := b1 g4
    rw [xal_n (fun h => g4 ⟨h.2.2.1, by have := h.2.2.2; omega⟩)] at K
    refine he_ifeq_f (n := 42) (t := 46) (by decide +kernel) (by omega) ?_
    refine he_iconst (n := 43) (c := -1) (by decide +kernel) (by decide) ?_
    intro ck42 hck42
    refine he_goto (t := 52) (by decide +kernel) ?_
    refine he_reti (by decide +kernel) ?_
    exact K M' _ (by omega)
  · have b0 := b0 g4
    rw [xal_s ⟨g1, g2, by omega, by omega⟩] at K
    refine he_ifeq_t (n := 42) (t := 46) (by decide +kernel) (by omega) ?_
    refine he_aload (n := 47) (i := 0) (by decide +kernel) rfl ?_
    refine he_getr (n := 50) (ci := 9) (j := 56) (ns := [4233, 114]) (b := 268) hm' (by decide +kernel) rfl rfl (by decide +kernel) ?_
    refine he_iload (n := 51) (i := 3) (by decide +kernel) rfl ?_
    refine hb_ld (n := 52) (kind := 64) hm' (by decide +kernel) rfl rfl (.inl rfl) (by omega) (show _ < (16 : Int) by omega) hb_at1 ?_
    intro vk51 hvk51 lvk51 uvk51
    refine he_reti (by decide +kernel) ?_
    exact K M' _ (by rw [← hL.2 x3.toInt.toNat (by omega)]; omega)
