/-! Records out of entries; the model's add and addTwo, exactly. -/
/-- byte i of a number that may be negative -/
def xbz (v : Int) (i : Nat) : Int := v / (2 ^ (8 * i) : Nat) % 256
theorem xbz_r (v : Int) (i : Nat) : 0 ≤ xbz v i ∧ xbz v i ≤ 255 := by
  unfold xbz
  omega
theorem xbt_z {v : Int32} {i : Nat} (hi : i ≤ 3) : xbt v i = xbz v.toInt i := by
  have ev := mz_un_ti (x := v)
  have lv := mz_un_lt (x := v)
  unfold xbt xbz
  generalize hN : mz_un v = N at *
  split at ev <;> rcases (by omega : i = 0 ∨ i = 1 ∨ i = 2 ∨ i = 3) with rfl | rfl | rfl | rfl <;> simp only [Nat.reduceMul, Nat.reducePow] at ev ⊢ <;> omega
def xnz (v : Int) (n : Nat) : List Int := (List.range n).map (xbz v)
theorem xnz_l {v : Int} {n : Nat} : (xnz v n).length = n := by unfold xnz; rw [List.length_map, List.length_range]
theorem xnz_s {v : Int} {n : Nat} : xnz v (n + 1) = xnz v n ++ [xbz v n] := by unfold xnz; rw [List.range_succ, List.map_append]; rfl
theorem xnl_z {v : Int32} {n : Nat} (hn : n ≤ 4) : xnl v n = xnz v.toInt n := by
  unfold xnl xnz
  refine List.map_congr_left fun i hi => xbt_z ?_
  have := List.mem_range.mp hi
  omega
/-- the bytes of a record -/
def xrec (nm me su le dr bo : Int) : List Int := xnz (hb_nm nm) 1 ++ xnz nm (hb_nm nm).toNat ++ xnz me 1 ++ (xnz su 4 ++ xnz le 2 ++ xnz dr 2 ++ xnz bo 2)
theorem xrec_l {nm me su le dr bo : Int} : ((xrec nm me su le dr bo).length : Int) = 12 + hb_nm nm := by
  unfold xrec
  simp only [List.length_append, xnz_l]
  have := hn_nm nm
  omega
def yrec (M : Nat → mq_C) (k : Nat) : List Int := xrec (hv M 251 (6 * k)) (hv M 251 (6 * k + 1)) (hv M 251 (6 * k + 2)) (hv M 251 (6 * k + 3)) (hv M 251 (6 * k + 4)) (hv M 251 (6 * k + 5))
def yrecs (M : Nat → mq_C) : Nat → List Int
  | 0 => []
  | n + 1 => yrecs M n ++ yrec M n
theorem yrec_c {M M' : Nat → mq_C} {k : Nat} (h : ∀ j, j < 6 * k + 6 → hv M' 251 j = hv M 251 j) : yrec M' k = yrec M k := by
  unfold yrec
  rw [h _ (by omega), h _ (by omega), h _ (by omega), h _ (by omega), h _ (by omega), h _ (by omega)]
theorem yrecs_c {M M' : Nat → mq_C} : ∀ n, (∀ j, j < 6 * n → hv M' 251 j = hv M 251 j) → yrecs M' n = yrecs M n
  | 0, _ => rfl
  | n + 1, h => by
    unfold yrecs
    rw [yrecs_c n (fun j hj => h j (by omega)), yrec_c (fun j hj => h j (by omega))]
theorem yrecs_le {M : Nat → mq_C} : ∀ n m, n ≤ m → (yrecs M n).length ≤ (yrecs M m).length
  | n, 0, h => by
    obtain rfl : n = 0 := by omega
    exact Nat.le_refl _
  | n, m + 1, h => by
    by_cases e : n = m + 1
    · rw [e]
      exact Nat.le_refl _
    · have := yrecs_le (M := M) n m (by omega)
      show _ ≤ (yrecs M m ++ yrec M m).length
      rw [List.length_append]
      omega
/-- archive s of the model has grown by l -/
def yGR (s : Nat) (M M' : Nat → mq_C) (l : List Int) : Prop := mz_sh mz_GG M' ∧ (∀ b, b ≠ 235 → b ≠ 236 → M' b = M b) ∧ (∀ j, j ≠ s → hv M' 236 j = hv M 236 j) ∧ hv M' 236 s = hv M 236 s + (l.length : Int) ∧ ∀ t : Nat, hv M' 235 t = if 240 * (s : Int) + hv M 236 s ≤ (t : Int) ∧ (t : Int) < 240 * (s : Int) + hv M 236 s + (l.length : Int) then l.getD (t - (240 * (s : Int) + hv M 236 s).toNat) 0 else hv M 235 t
theorem yGR_t {s : Nat} {M M' M'' : Nat → mq_C} {l l' : List Int} (h0 : 0 ≤ hv M 236 s) (h : yGR s M M' l) (h' : yGR s M' M'' l') : yGR s M M'' (l ++ l') := by
  obtain ⟨a1, a2, a3, a4, a5⟩ := h
  obtain ⟨b1, b2, b3, b4, b5⟩ := h'
  refine ⟨b1, fun b n1 n2 => (b2 b n1 n2).trans (a2 b n1 n2), fun j hj => (b3 j hj).trans (a3 j hj), ?_, fun t => ?_⟩
  · rw [b4, a4, List.length_append]
    omega
  · rw [b5 t, a4, List.length_append]
    by_cases c1 : 240 * (s : Int) + hv M 236 s ≤ (t : Int)
    · by_cases c2 : (t : Int) < 240 * (s : Int) + hv M 236 s + (l.length : Int)
      · rw [if_neg (by omega), a5 t, if_pos ⟨c1, c2⟩, if_pos ⟨c1, by omega⟩, xa_l (by omega)]
      · by_cases c3 : (t : Int) < 240 * (s : Int) + hv M 236 s + (l.length : Int) + (l'.length : Int)
        · rw [if_pos ⟨by omega, by omega⟩, if_pos ⟨c1, by omega⟩, xa_r (by omega), show t - (240 * (s : Int) + (hv M 236 s + (l.length : Int))).toNat = t - (240 * (s : Int) + hv M 236 s).toNat - l.length by omega]
        · rw [if_neg (by omega), a5 t, if_neg (by omega), if_neg (by omega)]
    · rw [if_neg (by omega), a5 t, if_neg (by omega), if_neg (by omega)]
theorem yGR_0 {s : Nat} {M : Nat → mq_C} (hm : mz_sh mz_GG M) : yGR s M M [] := by
  refine ⟨hm, fun _ _ _ => rfl, fun _ _ => rfl, ?_, fun t => ?_⟩
  · show _ = _ + ((0 : Nat) : Int)
    omega
  · show _ = if 240 * (s : Int) + hv M 236 s ≤ (t : Int) ∧ (t : Int) < 240 * (s : Int) + hv M 236 s + ((0 : Nat) : Int) then _ else _
    rw [if_neg (by omega)]
theorem yGR_v {s : Nat} {M M' : Nat → mq_C} {l : List Int} (h : yGR s M M' l) {b : Nat} (h1 : b ≠ 235) (h2 : b ≠ 236) (j : Nat) : hv M' b j = hv M b j := hb_vc (h.2.1 b h1 h2) j
theorem ym_add {d z u s : Nat} {M : Nat → mq_C} {Q : (Option Value ⊕ Nat) → mq_S → Prop} {x1 x2 : Int32} (hm : mz_sh mz_GG M) (hs : x1.toInt = (s : Int)) (h4 : s < 4) (z0 : 0 ≤ hv M 236 s) (z1 : hv M 236 s + 1 ≤ 240) (K : ∀ M' : Nat → mq_C, yGR s M M' [xbz x2.toInt 0] → Q (.inl none) (M', z, u)) : mq_R mq_PP d 125 0 [some (.ref 234), some (.int x1), some (.int x2)] [] (M, z, u) Q := by
  have es : x1.toInt.toNat = s := by omega
  refine he_aload (n := 1) (i := 0) (by decide +kernel) rfl ?_
  refine he_getr (n := 4) (ci := 9) (j := 1) (ns := [4178, 7]) (b := 235) hm (by decide +kernel) rfl rfl (by decide +kernel) ?_
  refine he_iconst (n := 7) (c := 240) (by decide +kernel) (by decide) ?_
  intro c4 hc4
  refine he_iload (n := 8) (i := 1) (by decide +kernel) rfl ?_
  refine he_imul (n := 9) (p := 240 * x1.toInt) (by decide +kernel) (by rw [hc4]) (by omega) (by omega) ?_
  intro v8 hv8
  refine he_aload (n := 10) (i := 0) (by decide +kernel) rfl ?_
  refine he_getr (n := 13) (ci := 9) (j := 2) (ns := [4179, 13]) (b := 236) hm (by decide +kernel) rfl rfl (by decide +kernel) ?_
  refine he_iload (n := 14) (i := 1) (by decide +kernel) rfl ?_
  refine hb_ld (n := 15) (kind := 64) hm (by decide +kernel) rfl rfl (.inl rfl) (by omega) (show _ < (4 : Int) by omega) hb_at1 ?_
  intro v14 hv14 lv14 uv14
  have q14 : v14.toInt = hv M 236 s := by rw [← hv14, es]
  refine he_iadd (n := 16) (by decide +kernel) (by omega) (by omega) ?_
  intro v15 hv15
  refine he_iload (n := 17) (i := 2) (by decide +kernel) rfl ?_
  refine he_iconst (n := 20) (c := 255) (by decide +kernel) (by decide) ?_
  intro c17 hc17
  refine he_ex2 (o := 12) (n := 21) (by decide +kernel) rfl ?_
  intro v20 hv20
  have ev20 : v20 = x2 &&& c17 := hv20
  have bv20 := mz_i32 v20
  have q20 : v20.toInt = xbz x2.toInt 0 := (xbt_a0 hc17 ev20).trans (xbt_z (by decide))
  have hbr := xbz_r x2.toInt 0
  refine hb_sta (n := 22) (kind := 64) hm (by decide +kernel) rfl rfl (.inl rfl) (by omega) (show _ < (960 : Int) by omega) ?_
  generalize hM1 : hb_set M 235 (v15.toInt.toNat) v20 = M1
  have hm1 : mz_sh mz_GG M1 := by rw [← hM1]; exact hb_set_sh hm rfl hb_at1 (by omega) (by omega)
  have eM1 : ∀ b j, b ≠ 235 ∨ j ≠ v15.toInt.toNat → hv M1 b j = hv M b j := by intro b j h; rw [← hM1]; exact hb_set_n h
  have sM1 : hv M1 235 (v15.toInt.toNat) = v20.toInt := by rw [← hM1]; exact hb_set_v hm rfl (show _ < 960 by omega)
  have wM1 : ∀ b, b ≠ 235 → M1 b = M b := by intro b h; rw [← hM1]; exact hb_set_c h
  refine he_aload (n := 23) (i := 0) (by decide +kernel) rfl ?_
  refine he_getr (n := 26) (ci := 9) (j := 2) (ns := [4179, 13]) (b := 236) hm1 (by decide +kernel) rfl rfl (by decide +kernel) ?_
  refine he_iload (n := 27) (i := 1) (by decide +kernel) rfl ?_
  refine he_dup2 (n := 28) (by decide +kernel) ?_
  refine hb_ld (n := 29) (kind := 64) hm1 (by decide +kernel) rfl rfl (.inl rfl) (by omega) (show _ < (4 : Int) by omega) hb_at1 ?_
  intro v28 hv28 lv28 uv28
  have q28 : v28.toInt = hv M 236 s := by rw [← hv28, eM1 _ _ (.inl (by decide)), es]
  refine he_iconst (n := 30) (c := 1) (by decide +kernel) (by decide) ?_
  intro c29 hc29
  refine he_iadd (n := 31) (by decide +kernel) (by omega) (by omega) ?_
  intro v30 hv30
  refine hb_sta (n := 32) (kind := 64) hm1 (by decide +kernel) rfl rfl (.inl rfl) (by omega) (show _ < (4 : Int) by omega) ?_
  generalize hM2 : hb_set M1 236 (x1.toInt.toNat) v30 = M2
  have hm2 : mz_sh mz_GG M2 := by rw [← hM2]; exact hb_set_sh hm1 rfl hb_at1 (by omega) (by omega)
  have eM2 : ∀ b j, b ≠ 236 ∨ j ≠ x1.toInt.toNat → hv M2 b j = hv M1 b j := by intro b j h; rw [← hM2]; exact hb_set_n h
  have sM2 : hv M2 236 (x1.toInt.toNat) = v30.toInt := by rw [← hM2]; exact hb_set_v hm1 rfl (show _ < 4 by omega)
  have wM2 : ∀ b, b ≠ 236 → M2 b = M1 b := by intro b h; rw [← hM2]; exact hb_set_c h
  refine he_ret (by decide +kernel) ?_
  refine K M2 ⟨hm2, fun b n1 n2 => (wM2 b n2).trans (wM1 b n1), fun j hj => by rw [eM2 _ _ (.inr (by omega)), eM1 _ _ (.inl (by decide))], ?_, fun t => ?_⟩
  · have e := sM2
    rw [es] at e
    rw [e]
    show _ = _ + ((1 : Nat) : Int)
    omega
  · rw [eM2 _ _ (.inl (by decide))]
    show hv M1 235 t = if 240 * (s : Int) + hv M 236 s ≤ (t : Int) ∧ (t : Int) < 240 * (s : Int) + hv M 236 s + ((1 : Nat) : Int) then [xbz x2.toInt 0].getD (t - (240 * (s : Int) + hv M 236 s).toNat) 0 else hv M 235 t
    by_cases ht : t = v15.toInt.toNat
    · rw [if_pos (by omega), show t - (240 * (s : Int) + hv M 236 s).toNat = 0 by omega, ht, sM1, q20]
      rfl
    · rw [if_neg (by omega), eM1 _ _ (.inr ht)]
theorem ym_two {d z u s : Nat} {M : Nat → mq_C} {Q : (Option Value ⊕ Nat) → mq_S → Prop} {x1 x2 : Int32} (hm : mz_sh mz_GG M) (hs : x1.toInt = (s : Int)) (h4 : s < 4) (z0 : 0 ≤ hv M 236 s) (z1 : hv M 236 s + 2 ≤ 240) (K : ∀ M' : Nat → mq_C, yGR s M M' (xnz x2.toInt 2) → Q (.inl none) (M', z, u)) : mq_R mq_PP (d + 1) 126 0 [some (.ref 234), some (.int x1), some (.int x2)] [] (M, z, u) Q := by
  refine he_aload (n := 1) (i := 0) (by decide +kernel) rfl ?_
  refine he_iload (n := 2) (i := 1) (by decide +kernel) rfl ?_
  refine he_iload (n := 3) (i := 2) (by decide +kernel) rfl ?_
  refine he_v2 (n := 6) (j := 125) (ci := 9) (mx := 3) (ns := [5210, 5212, 65, 206]) (by decide +kernel) ((hb_kd (a := 234) hm rfl).trans rfl) (by show 0 ≤ 8; omega) (by show 3 ≤ 3; omega) ?_
  rw [mq_e125]
  refine ym_add hm hs h4 z0 (by omega) ?_
  intro M1 hA1
  show mq_R mq_PP (d + 1) 126 6 _ [] (M1, z, u) Q
  have l1 : hv M1 236 s = hv M 236 s + 1 := hA1.2.2.2.1
  refine he_aload (n := 7) (i := 0) (by decide +kernel) rfl ?_
  refine he_iload (n := 8) (i := 1) (by decide +kernel) rfl ?_
  refine he_iload (n := 9) (i := 2) (by decide +kernel) rfl ?_
  refine he_iconst (n := 11) (c := 8) (by decide +kernel) (by decide) ?_
  intro c9 hc9
  refine he_ex2 (o := 16) (n := 12) (by decide +kernel) rfl ?_
  intro v11 hv11
  have ev11 : v11 = x2 >>> (c9 &&& 31) := hv11
  have bv11 := mz_i32 v11
  refine he_v2 (n := 15) (j := 125) (ci := 9) (mx := 3) (ns := [5210, 5212, 65, 206]) (by decide +kernel) ((hb_kd (a := 234) hA1.1 rfl).trans rfl) (by show 0 ≤ 8; omega) (by show 3 ≤ 3; omega) ?_
  rw [mq_e125]
  refine ym_add hA1.1 hs h4 (by omega) (by omega) ?_
  intro M2 hA2
  show mq_R mq_PP (d + 1) 126 15 _ [] (M2, z, u) Q
  refine he_ret (by decide +kernel) ?_
  have e : v11.toInt = x2.toInt / (2 ^ 8 : Nat) := by rw [ev11]; exact mz_shr32 (k := 8) (by decide) hc9
  have eb : xbz v11.toInt 0 = xbz x2.toInt 1 := by
    rw [e]
    unfold xbz
    simp only [Nat.reduceMul, Nat.reducePow]
    omega
  have hT := yGR_t z0 hA1 hA2
  rw [eb] at hT
  exact K M2 hT
theorem ym_out {d z u : Nat} {M : Nat → mq_C} {Q : (Option Value ⊕ Nat) → mq_S → Prop} {x0 x1 : Int32} (K : ∀ r : Int32, (0 ≤ x0.toInt ∧ x0.toInt < x1.toInt → r.toInt = 0) → (¬ (0 ≤ x0.toInt ∧ x0.toInt < x1.toInt) → r.toInt = 1) → Q (.inl (some (.int r))) (M, z, u)) : mq_R mq_PP d 107 0 [some (.int x0), some (.int x1)] [] (M, z, u) Q := by
  refine he_iload (n := 1) (i := 0) (by decide +kernel) rfl ?_
  by_cases h1 : x0.toInt < 0
  · skip
    refine he_iflt_t (n := 4) (t := 9) (by decide +kernel) (by omega) ?_
    refine he_iconst (n := 10) (c := 1) (by decide +kernel) (by decide) ?_
    intro c9 hc9
    refine he_goto (t := 14) (by decide +kernel) ?_
    refine he_retz (by decide +kernel) (by omega) ?_
    exact K _ (fun h => by omega) (fun _ => by omega)
  refine he_iflt_f (n := 4) (t := 9) (by decide +kernel) (by omega) ?_
  refine he_iload (n := 5) (i := 0) (by decide +kernel) rfl ?_
  refine he_iload (n := 6) (i := 1) (by decide +kernel) rfl ?_
  by_cases h2 : x0.toInt < x1.toInt
  · skip
    refine he_cmplt_t (n := 9) (t := 13) (by decide +kernel) (by omega) ?_
    refine he_iconst (n := 14) (c := 0) (by decide +kernel) (by decide) ?_
    intro c13 hc13
    refine he_retz (by decide +kernel) (by omega) ?_
    exact K _ (fun _ => by omega) (fun h => absurd ⟨by omega, h2⟩ h)
  · skip
    refine he_cmplt_f (n := 9) (t := 13) (by decide +kernel) (by omega) ?_
    refine he_iconst (n := 10) (c := 1) (by decide +kernel) (by decide) ?_
    intro c9 hc9
    refine he_goto (t := 14) (by decide +kernel) ?_
    refine he_retz (by decide +kernel) (by omega) ?_
    exact K _ (fun h => by omega) (fun _ => by omega)
