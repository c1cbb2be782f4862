/-! Bytes of numbers; the class's records, exactly. -/
/-- byte i of a number -/
def xbt (v : Int32) (i : Nat) : Int := ((mz_un v / 2 ^ (8 * i) % 256 : Nat) : Int)
theorem xbt_r (v : Int32) (i : Nat) : 0 ≤ xbt v i ∧ xbt v i ≤ 255 := by
  unfold xbt
  omega
theorem xbt_u {v s w r c : Int32} {i : Nat} (hi : i ≤ 3) (hs : s.toInt = 8 * (i : Int)) (hw : w = (v.toUInt32 >>> (s.toUInt32 &&& Int32.toUInt32 31)).toInt32) (hc : c.toInt = 255) (hr : r = w &&& c) : r.toInt = xbt v i := by
  rw [lx_and255 hc hr]
  have e : mz_un w = mz_un v / 2 ^ (8 * i) := by
    rw [hw]
    exact mz_ush_un (k := 8 * i) (by omega) (by omega)
  show ((mz_un w : Nat) : Int) % 256 = _
  rw [e]
  unfold xbt
  omega
theorem xbt_a0 {v r c : Int32} (hc : c.toInt = 255) (hr : r = v &&& c) : r.toInt = xbt v 0 := by
  rw [lx_and255 hc hr]
  show ((mz_un v : Nat) : Int) % 256 = _
  unfold xbt
  rw [show 2 ^ (8 * 0) = 1 from rfl, Nat.div_one]
  omega
/-- the low byte behind a shift that keeps the sign -/
theorem xbt_s {v s w : Int32} {i j : Nat} (hi : i + j ≤ 3) (hs : s.toInt = 8 * (i : Int)) (hw : w = v >>> (s &&& 31)) : xbt w j = xbt v (i + j) := by
  have e : w.toInt = v.toInt / (2 ^ (8 * i) : Nat) := by
    rw [hw]
    exact mz_shr32 (k := 8 * i) (by omega) (by omega)
  have ew := mz_un_ti (x := w)
  have ev := mz_un_ti (x := v)
  have lw := mz_un_lt (x := w)
  have lv := mz_un_lt (x := v)
  unfold xbt
  have hij : (i = 0 ∧ j = 0) ∨ (i = 0 ∧ j = 1) ∨ (i = 0 ∧ j = 2) ∨ (i = 0 ∧ j = 3) ∨ (i = 1 ∧ j = 0) ∨ (i = 1 ∧ j = 1) ∨ (i = 1 ∧ j = 2) ∨ (i = 2 ∧ j = 0) ∨ (i = 2 ∧ j = 1) ∨ (i = 3 ∧ j = 0) := by omega
  generalize hW : mz_un w = W at *
  generalize hN : mz_un v = N at *
  split at ew <;> split at ev <;> rcases hij with ⟨rfl, rfl⟩ | ⟨rfl, rfl⟩ | ⟨rfl, rfl⟩ | ⟨rfl, rfl⟩ | ⟨rfl, rfl⟩ | ⟨rfl, rfl⟩ | ⟨rfl, rfl⟩ | ⟨rfl, rfl⟩ | ⟨rfl, rfl⟩ | ⟨rfl, rfl⟩ <;> simp only [Nat.reduceMul, Nat.reducePow, Nat.reduceAdd] at e ⊢ <;> omega
theorem xa_l {l l' : List Int} {t : Nat} (h : t < l.length) : (l ++ l').getD t 0 = l.getD t 0 := by
  rw [List.getD_eq_getElem?_getD, List.getD_eq_getElem?_getD, List.getElem?_append_left h]
theorem xa_r {l l' : List Int} {t : Nat} (h : l.length ≤ t) : (l ++ l').getD t 0 = l'.getD (t - l.length) 0 := by
  rw [List.getD_eq_getElem?_getD, List.getD_eq_getElem?_getD, List.getElem?_append_right h]
/-- a row of bytes has grown by l -/
def xRA (M M' : Nat → mq_C) (l : List Int) : Prop := mz_sh mz_GG M' ∧ (∀ b, b ≠ 33 → b ≠ 36 → M' b = M b) ∧ (∀ j, j ≠ 5 → hv M' 33 j = hv M 33 j) ∧ hv M' 33 5 = hv M 33 5 + (l.length : Int) ∧ ∀ t : Nat, hv M' 36 t = if hv M 33 5 ≤ (t : Int) ∧ (t : Int) < hv M 33 5 + (l.length : Int) then l.getD (t - (hv M 33 5).toNat) 0 else hv M 36 t
theorem xRA_t {M M' M'' : Nat → mq_C} {l l' : List Int} (h0 : 0 ≤ hv M 33 5) (h : xRA M M' l) (h' : xRA M' M'' l') : xRA M M'' (l ++ l') := by
  obtain ⟨a1, a2, a3, a4, a5⟩ := h
  obtain ⟨b1, b2, b3, b4, b5⟩ := h'
  refine ⟨b1, fun b n1 n2 => (b2 b n1 n2).trans (a2 b n1 n2), fun j hj => (b3 j hj).trans (a3 j hj), ?_, fun t => ?_⟩
  · rw [b4, a4, List.length_append]
    omega
  · rw [b5 t, a4, List.length_append]
    by_cases c1 : hv M 33 5 ≤ (t : Int)
    · by_cases c2 : (t : Int) < hv M 33 5 + (l.length : Int)
      · rw [if_neg (by omega), a5 t, if_pos ⟨c1, c2⟩, if_pos ⟨c1, by omega⟩, xa_l (by omega)]
      · by_cases c3 : (t : Int) < hv M 33 5 + (l.length : Int) + (l'.length : Int)
        · rw [if_pos ⟨by omega, by omega⟩, if_pos ⟨c1, by omega⟩, xa_r (by omega), show t - (hv M 33 5 + (l.length : Int)).toNat = t - (hv M 33 5).toNat - l.length by omega]
        · rw [if_neg (by omega), a5 t, if_neg (by omega), if_neg (by omega)]
    · rw [if_neg (by omega), a5 t, if_neg (by omega), if_neg (by omega)]
def xnl (v : Int32) (n : Nat) : List Int := (List.range n).map (xbt v)
theorem xnl_l {v : Int32} {n : Nat} : (xnl v n).length = n := by unfold xnl; rw [List.length_map, List.length_range]
theorem xnl_s {v : Int32} {n : Nat} : xnl v (n + 1) = xnl v n ++ [xbt v n] := by unfold xnl; rw [List.range_succ, List.map_append]; rfl
theorem xn_add_l {d z u n : Nat} {Mb : Nat → mq_C} {Q : (Option Value ⊕ Nat) → mq_S → Prop} {x1 x2 : Int32} (h0 : 0 ≤ hv Mb 33 5) (hn : n ≤ 4) (h2 : x2.toInt = (n : Int)) (hr : hv Mb 33 5 + (n : Int) ≤ 240) (K : ∀ M' : Nat → mq_C, xRA Mb M' (xnl x1 n) → Q (.inl none) (M', z, u)) : ∀ (m j : Nat) (M : Nat → mq_C) (i : Int32), j + m = n → i.toInt = (j : Int) → xRA Mb M (xnl x1 j) → mq_R mq_PP d 79 2 [some (.ref 33), some (.int x1), some (.int x2), some (.int i)] [] (M, z, u) Q := by
  intro m
  induction m with
  | zero =>
    intro j M i e1 e2 hA
    obtain rfl : j = n := by omega
    refine he_iload (n := 3) (i := 3) (by decide +kernel) rfl ?_
    refine he_iload (n := 4) (i := 2) (by decide +kernel) rfl ?_
    refine he_cmpge_t (n := 7) (t := 42) (by decide +kernel) (by omega) ?_
    refine he_ret (by decide +kernel) ?_
    exact K M hA
  | succ m ih =>
    intro j M i e1 e2 hA
    have vR : hv M 33 5 = hv Mb 33 5 + (j : Int) := by rw [hA.2.2.2.1, xnl_l]
    refine he_iload (n := 3) (i := 3) (by decide +kernel) rfl ?_
    refine he_iload (n := 4) (i := 2) (by decide +kernel) rfl ?_
    refine he_cmpge_f (n := 7) (t := 42) (by decide +kernel) (by omega) ?_
    refine he_aload (n := 8) (i := 0) (by decide +kernel) rfl ?_
    refine he_getr (n := 11) (ci := 6) (j := 4) (ns := [1118, 25]) (b := 36) hA.1 (by decide +kernel) rfl rfl (by decide +kernel) ?_
    refine he_aload (n := 12) (i := 0) (by decide +kernel) rfl ?_
    refine hb_gfd (n := 15) (ci := 6) (j := 5) (ns := [1119, 28]) hA.1 (by decide +kernel) rfl rfl (by decide) rfl ?_
    intro v12 hv12 lv12 uv12
    refine he_iload (n := 16) (i := 1) (by decide +kernel) rfl ?_
    refine he_iconst (n := 18) (c := 8) (by decide +kernel) (by decide) ?_
    intro c16 hc16
    refine he_iload (n := 19) (i := 3) (by decide +kernel) rfl ?_
    refine he_imul (n := 20) (p := 8 * i.toInt) (by decide +kernel) (by rw [hc16]) (by omega) (by omega) ?_
    intro v19 hv19
    have q12 : v12.toInt = hv Mb 33 5 + (j : Int) := by rw [← hv12]; exact vR
    refine he_ex2 (o := 17) (n := 21) (by decide +kernel) rfl ?_
    intro v20 hv20
    have ev20 : v20 = (x1.toUInt32 >>> (v19.toUInt32 &&& Int32.toUInt32 31)).toInt32 := hv20
    have bv20 := mz_i32 v20
    refine he_iconst (n := 24) (c := 255) (by decide +kernel) (by decide) ?_
    intro c21 hc21
    refine he_ex2 (o := 12) (n := 25) (by decide +kernel) rfl ?_
    intro v24 hv24
    have ev24 : v24 = v20 &&& c21 := hv24
    have bv24 := mz_i32 v24
    have q24 : v24.toInt = xbt x1 j := xbt_u (i := j) (by omega) (by omega) ev20 hc21 ev24
    have hbr := xbt_r x1 j
    refine hb_sta (n := 26) (kind := 64) hA.1 (by decide +kernel) rfl rfl (.inl rfl) (by omega) (show _ < (240 : Int) by omega) ?_
    generalize hM1 : hb_set M 36 (v12.toInt.toNat) v24 = M1
    have hm1 : mz_sh mz_GG M1 := by rw [← hM1]; exact hb_set_sh hA.1 rfl hb_at1 (by omega) (by omega)
    have eM1 : ∀ b j, b ≠ 36 ∨ j ≠ v12.toInt.toNat → hv M1 b j = hv M b j := by intro b j h; rw [← hM1]; exact hb_set_n h
    have sM1 : hv M1 36 (v12.toInt.toNat) = v24.toInt := by rw [← hM1]; exact hb_set_v hA.1 rfl (show _ < 240 by omega)
    have wM1 : ∀ b, b ≠ 36 → M1 b = M b := by intro b h; rw [← hM1]; exact hb_set_c h
    refine he_aload (n := 27) (i := 0) (by decide +kernel) rfl ?_
    refine he_dup_r (n := 28) (by decide +kernel) ?_
    refine hb_gfd (n := 31) (ci := 6) (j := 5) (ns := [1119, 28]) hm1 (by decide +kernel) rfl rfl (by decide) rfl ?_
    intro v28 hv28 lv28 uv28
    have q28 : v28.toInt = hv Mb 33 5 + (j : Int) := by rw [← hv28, eM1 _ _ (.inl (by decide))]; exact vR
    refine he_iconst (n := 32) (c := 1) (by decide +kernel) (by decide) ?_
    intro c31 hc31
    refine he_iadd (n := 33) (by decide +kernel) (by omega) (by omega) ?_
    intro v32 hv32
    refine hb_pfd (n := 36) (ci := 6) (j := 5) (t := 0) (ns := [1119, 28]) hm1 (by decide +kernel) rfl rfl (by decide) (.inl rfl) ?_
    generalize hM2 : hb_set M1 33 5 v32 = M2
    have hm2 : mz_sh mz_GG M2 := by rw [← hM2]; exact hb_set_sh hm1 rfl rfl (by omega) (by omega)
    have eM2 : ∀ b j, b ≠ 33 ∨ j ≠ 5 → hv M2 b j = hv M1 b j := by intro b j h; rw [← hM2]; exact hb_set_n h
    have sM2 : hv M2 33 5 = v32.toInt := by rw [← hM2]; exact hb_set_v hm1 rfl (by decide)
    have wM2 : ∀ b, b ≠ 33 → M2 b = M1 b := by intro b h; rw [← hM2]; exact hb_set_c h
    refine he_iinc (n := 39) (i := 3) (c := 1) (L' := fun v => [some (.ref (33)), some (.int x1), some (.int x2), some (.int v)]) (by decide +kernel) (by decide) rfl (fun _ => rfl) (by omega) (by omega) ?_
    intro i36 hi36
    refine he_goto (t := 2) (by decide +kernel) ?_
    refine ih (j + 1) M2 _ (by omega) (by omega) ?_
    rw [xnl_s]
    refine xRA_t h0 hA ⟨hm2, fun b n1 n2 => (wM2 b n1).trans (wM1 b n2), fun q hq => by rw [eM2 _ _ (.inr hq), eM1 _ _ (.inl (by decide))], ?_, fun t => ?_⟩
    · rw [sM2, vR]
      show _ = _ + ((1 : Nat) : Int)
      omega
    · rw [eM2 _ _ (.inl (by decide)), vR]
      show hv M1 36 t = if hv Mb 33 5 + (j : Int) ≤ (t : Int) ∧ (t : Int) < hv Mb 33 5 + (j : Int) + ((1 : Nat) : Int) then [xbt x1 j].getD (t - (hv Mb 33 5 + (j : Int)).toNat) 0 else hv M 36 t
      by_cases ht : t = v12.toInt.toNat
      · rw [if_pos (by omega), show t - (hv Mb 33 5 + (j : Int)).toNat = 0 by omega, ht, sM1, q24]
        rfl
      · rw [if_neg (by omega), eM1 _ _ (.inr ht)]
theorem xn_add {d z u n : Nat} {M : Nat → mq_C} {Q : (Option Value ⊕ Nat) → mq_S → Prop} {x1 x2 : Int32} (hm : mz_sh mz_GG M) (h0 : 0 ≤ hv M 33 5) (hn : n ≤ 4) (h2 : x2.toInt = (n : Int)) (hr : hv M 33 5 + (n : Int) ≤ 240) (K : ∀ M' : Nat → mq_C, xRA M M' (xnl x1 n) → Q (.inl none) (M', z, u)) : mq_R mq_PP d 79 0 [some (.ref 33), some (.int x1), some (.int x2), none] [] (M, z, u) Q := by
  refine he_iconst (n := 1) (c := 0) (by decide +kernel) (by decide) ?_
  intro c0 hc0
  refine he_istore (n := 2) (i := 3) (by decide +kernel) rfl ?_
  refine xn_add_l h0 hn h2 hr K n 0 M _ (by omega) (by omega) ⟨hm, fun _ _ _ => rfl, fun _ _ => rfl, ?_, fun t => ?_⟩
  · show _ = _ + ((0 : Nat) : Int)
    omega
  · show _ = if hv M 33 5 ≤ (t : Int) ∧ (t : Int) < hv M 33 5 + ((0 : Nat) : Int) then _ else _
    rw [if_neg (by omega)]
theorem xn_head {d z u nm : Nat} {M : Nat → mq_C} {Q : (Option Value ⊕ Nat) → mq_S → Prop} {x1 x2 x3 : Int32} (hm : mz_sh mz_GG M) (h0 : 0 ≤ hv M 33 5) (hn : nm ≤ 4) (h2 : x2.toInt = (nm : Int)) (hr : hv M 33 5 + (nm : Int) + 2 ≤ 240) (K : ∀ M' : Nat → mq_C, xRA M M' (xnl x2 1 ++ xnl x1 nm ++ xnl x3 1) → Q (.inl none) (M', z, u)) : mq_R mq_PP (d + 1) 77 0 [some (.ref 33), some (.int x1), some (.int x2), some (.int x3)] [] (M, z, u) Q := by
  refine he_aload (n := 1) (i := 0) (by decide +kernel) rfl ?_
  refine he_iload (n := 2) (i := 2) (by decide +kernel) rfl ?_
  refine he_iconst (n := 3) (c := 1) (by decide +kernel) (by decide) ?_
  intro c2 hc2
  refine he_v2 (n := 6) (j := 79) (ci := 6) (mx := 4) (ns := [2217, 2219, 12, 40]) (by decide +kernel) ((hb_kd (a := 33) hm rfl).trans rfl) (by show 0 ≤ 8; omega) (by show 3 ≤ 4; omega) ?_
  rw [mq_e79]
  refine xn_add (n := 1) hm h0 (by decide) (by omega) (by omega) ?_
  intro M1 hA1
  show mq_R mq_PP (d + 1) 77 6 _ [] (M1, z, u) Q
  have l1 : hv M1 33 5 = hv M 33 5 + 1 := by rw [hA1.2.2.2.1, xnl_l]; rfl
  refine he_aload (n := 7) (i := 0) (by decide +kernel) rfl ?_
  refine he_iload (n := 8) (i := 1) (by decide +kernel) rfl ?_
  refine he_iload (n := 9) (i := 2) (by decide +kernel) rfl ?_
  refine he_v2 (n := 12) (j := 79) (ci := 6) (mx := 4) (ns := [2217, 2219, 12, 40]) (by decide +kernel) ((hb_kd (a := 33) hA1.1 rfl).trans rfl) (by show 0 ≤ 8; omega) (by show 3 ≤ 4; omega) ?_
  rw [mq_e79]
  refine xn_add (n := nm) hA1.1 (by omega) hn (by omega) (by omega) ?_
  intro M2 hA2
  show mq_R mq_PP (d + 1) 77 12 _ [] (M2, z, u) Q
  have l2 : hv M2 33 5 = hv M 33 5 + 1 + (nm : Int) := by rw [hA2.2.2.2.1, xnl_l, l1]
  refine he_aload (n := 13) (i := 0) (by decide +kernel) rfl ?_
  refine he_iload (n := 14) (i := 3) (by decide +kernel) rfl ?_
  refine he_iconst (n := 15) (c := 1) (by decide +kernel) (by decide) ?_
  intro c14 hc14
  refine he_v2 (n := 18) (j := 79) (ci := 6) (mx := 4) (ns := [2217, 2219, 12, 40]) (by decide +kernel) ((hb_kd (a := 33) hA2.1 rfl).trans rfl) (by show 0 ≤ 8; omega) (by show 3 ≤ 4; omega) ?_
  rw [mq_e79]
  refine xn_add (n := 1) hA2.1 (by omega) (by decide) (by omega) (by omega) ?_
  intro M3 hA3
  show mq_R mq_PP (d + 1) 77 18 _ [] (M3, z, u) Q
  refine he_ret (by decide +kernel) ?_
  exact K M3 (xRA_t h0 (xRA_t h0 hA1 hA2) hA3)
theorem xn_end {d z u : Nat} {M : Nat → mq_C} {Q : (Option Value ⊕ Nat) → mq_S → Prop} {x1 x2 : Int32} (hm : mz_sh mz_GG M) (h0 : 0 ≤ hv M 33 5) (hr : hv M 33 5 + 10 ≤ 240) (he : hv M 33 6 ≤ 5) (he0 : 0 ≤ hv M 33 6) (hd0 : 0 ≤ hv M 33 1) (hd1 : hv M 33 1 ≤ 120) (hb : hv M 33 1 + 2 ≤ hv M 33 3) (hb1 : hv M 33 3 ≤ 240) (K : ∀ (M1 M' : Nat → mq_C) (dr pl : Int32), dr.toInt = hv M 33 1 → pl.toInt = hv M 33 3 - hv M 33 1 - 2 → xRA M M1 (xnl x1 4 ++ xnl x2 2 ++ xnl dr 2 ++ xnl pl 2) → mz_sh mz_GG M' → (∀ b, b ≠ 33 → M' b = M1 b) → hv M' 33 1 = 0 → hv M' 33 3 = hv M 33 3 → hv M' 33 5 = hv M 33 5 + 10 → hv M' 33 6 = hv M 33 6 + 1 → Q (.inl none) (M', z, u)) : mq_R mq_PP (d + 1) 78 0 [some (.ref 33), some (.int x1), some (.int x2)] [] (M, z, u) Q := by
  refine he_aload (n := 1) (i := 0) (by decide +kernel) rfl ?_
  refine he_iload (n := 2) (i := 1) (by decide +kernel) rfl ?_
  refine he_iconst (n := 3) (c := 4) (by decide +kernel) (by decide) ?_
  intro c2 hc2
  refine he_v2 (n := 6) (j := 79) (ci := 6) (mx := 4) (ns := [2217, 2219, 12, 40]) (by decide +kernel) ((hb_kd (a := 33) hm rfl).trans rfl) (by show 0 ≤ 8; omega) (by show 3 ≤ 4; omega) ?_
  rw [mq_e79]
  refine xn_add (n := 4) hm h0 (by decide) (by omega) (by omega) ?_
  intro M1 hA1
  show mq_R mq_PP (d + 1) 78 6 _ [] (M1, z, u) Q
  have l1 : hv M1 33 5 = hv M 33 5 + 4 := by rw [hA1.2.2.2.1, xnl_l]; rfl
  refine he_aload (n := 7) (i := 0) (by decide +kernel) rfl ?_
  refine he_iload (n := 8) (i := 2) (by decide +kernel) rfl ?_
  refine he_iconst (n := 9) (c := 2) (by decide +kernel) (by decide) ?_
  intro c8 hc8
  refine he_v2 (n := 12) (j := 79) (ci := 6) (mx := 4) (ns := [2217, 2219, 12, 40]) (by decide +kernel) ((hb_kd (a := 33) hA1.1 rfl).trans rfl) (by show 0 ≤ 8; omega) (by show 3 ≤ 4; omega) ?_
  rw [mq_e79]
  refine xn_add (n := 2) hA1.1 (by omega) (by decide) (by omega) (by omega) ?_
  intro M2 hA2
  show mq_R mq_PP (d + 1) 78 12 _ [] (M2, z, u) Q
  have l2 : hv M2 33 5 = hv M 33 5 + 4 + 2 := by rw [hA2.2.2.2.1, xnl_l, l1]; rfl
  have hA12 := xRA_t h0 hA1 hA2
  refine he_aload (n := 13) (i := 0) (by decide +kernel) rfl ?_
  refine he_aload (n := 14) (i := 0) (by decide +kernel) rfl ?_
  refine hb_gfd (n := 17) (ci := 6) (j := 1) (ns := [1114, 15]) hA2.1 (by decide +kernel) rfl rfl (by decide) rfl ?_
  intro v14 hv14 lv14 uv14
  refine he_iconst (n := 18) (c := 2) (by decide +kernel) (by decide) ?_
  intro c17 hc17
  have q14 : v14.toInt = hv M 33 1 := by rw [← hv14]; exact hA12.2.2.1 1 (by decide)
  refine he_v2 (n := 21) (j := 79) (ci := 6) (mx := 4) (ns := [2217, 2219, 12, 40]) (by decide +kernel) ((hb_kd (a := 33) hA2.1 rfl).trans rfl) (by show 0 ≤ 8; omega) (by show 3 ≤ 4; omega) ?_
  rw [mq_e79]
  refine xn_add (n := 2) hA2.1 (by omega) (by decide) (by omega) (by omega) ?_
  intro M3 hA3
  show mq_R mq_PP (d + 1) 78 21 _ [] (M3, z, u) Q
  have l3 : hv M3 33 5 = hv M 33 5 + 4 + 2 + 2 := by rw [hA3.2.2.2.1, xnl_l, l2]; rfl
  have hA123 := xRA_t h0 hA12 hA3
  refine he_aload (n := 22) (i := 0) (by decide +kernel) rfl ?_
  refine he_aload (n := 23) (i := 0) (by decide +kernel) rfl ?_
  refine hb_gfd (n := 26) (ci := 6) (j := 3) (ns := [1117, 22]) hA3.1 (by decide +kernel) rfl rfl (by decide) rfl ?_
  intro v23 hv23 lv23 uv23
  refine he_aload (n := 27) (i := 0) (by decide +kernel) rfl ?_
  refine hb_gfd (n := 30) (ci := 6) (j := 1) (ns := [1114, 15]) hA3.1 (by decide +kernel) rfl rfl (by decide) rfl ?_
  intro v27 hv27 lv27 uv27
  have q23 : v23.toInt = hv M 33 3 := by rw [← hv23]; exact hA123.2.2.1 3 (by decide)
  have q27 : v27.toInt = hv M 33 1 := by rw [← hv27]; exact hA123.2.2.1 1 (by decide)
  refine he_isub (n := 31) (by decide +kernel) (by omega) (by omega) ?_
  intro v30 hv30
  refine he_iconst (n := 32) (c := 2) (by decide +kernel) (by decide) ?_
  intro c31 hc31
  refine he_isub (n := 33) (by decide +kernel) (by omega) (by omega) ?_
  intro v32 hv32
  refine he_iconst (n := 34) (c := 2) (by decide +kernel) (by decide) ?_
  intro c33 hc33
  refine he_v2 (n := 37) (j := 79) (ci := 6) (mx := 4) (ns := [2217, 2219, 12, 40]) (by decide +kernel) ((hb_kd (a := 33) hA3.1 rfl).trans rfl) (by show 0 ≤ 8; omega) (by show 3 ≤ 4; omega) ?_
  rw [mq_e79]
  refine xn_add (n := 2) hA3.1 (by omega) (by decide) (by omega) (by omega) ?_
  intro M4 hA4
  show mq_R mq_PP (d + 1) 78 37 _ [] (M4, z, u) Q
  have l4 : hv M4 33 5 = hv M 33 5 + 10 := by rw [hA4.2.2.2.1, xnl_l, l3]; show _ + ((2 : Nat) : Int) = _; omega
  have hA := xRA_t h0 hA123 hA4
  refine he_aload (n := 38) (i := 0) (by decide +kernel) rfl ?_
  refine he_iconst (n := 39) (c := 0) (by decide +kernel) (by decide) ?_
  intro ce38 hce38
  refine hb_pfd (n := 42) (ci := 6) (j := 1) (t := 0) (ns := [1114, 15]) hA4.1 (by decide +kernel) rfl rfl (by decide) (.inl rfl) ?_
  generalize hMe1 : hb_set M4 33 1 ce38 = Me1
  have hme1 : mz_sh mz_GG Me1 := by rw [← hMe1]; exact hb_set_sh hA4.1 rfl rfl (by omega) (by omega)
  have eMe1 : ∀ b j, b ≠ 33 ∨ j ≠ 1 → hv Me1 b j = hv M4 b j := by intro b j h; rw [← hMe1]; exact hb_set_n h
  have sMe1 : hv Me1 33 1 = ce38.toInt := by rw [← hMe1]; exact hb_set_v hA4.1 rfl (by decide)
  have wMe1 : ∀ b, b ≠ 33 → Me1 b = M4 b := by intro b h; rw [← hMe1]; exact hb_set_c h
  refine he_aload (n := 43) (i := 0) (by decide +kernel) rfl ?_
  refine he_dup_r (n := 44) (by decide +kernel) ?_
  refine hb_gfd (n := 47) (ci := 6) (j := 6) (ns := [1120, 31]) hme1 (by decide +kernel) rfl rfl (by decide) rfl ?_
  intro ve44 hve44 lve44 uve44
  have q44 : ve44.toInt = hv M 33 6 := by rw [← hve44, eMe1 _ _ (.inr (by decide))]; exact hA.2.2.1 6 (by decide)
  refine he_iconst (n := 48) (c := 1) (by decide +kernel) (by decide) ?_
  intro ce47 hce47
  refine he_iadd (n := 49) (by decide +kernel) (by omega) (by omega) ?_
  intro ve48 hve48
  refine hb_pfd (n := 52) (ci := 6) (j := 6) (t := 0) (ns := [1120, 31]) hme1 (by decide +kernel) rfl rfl (by decide) (.inl rfl) ?_
  generalize hMe2 : hb_set Me1 33 6 ve48 = Me2
  have hme2 : mz_sh mz_GG Me2 := by rw [← hMe2]; exact hb_set_sh hme1 rfl rfl (by omega) (by omega)
  have eMe2 : ∀ b j, b ≠ 33 ∨ j ≠ 6 → hv Me2 b j = hv Me1 b j := by intro b j h; rw [← hMe2]; exact hb_set_n h
  have sMe2 : hv Me2 33 6 = ve48.toInt := by rw [← hMe2]; exact hb_set_v hme1 rfl (by decide)
  have wMe2 : ∀ b, b ≠ 33 → Me2 b = Me1 b := by intro b h; rw [← hMe2]; exact hb_set_c h
  refine he_ret (by decide +kernel) ?_
  refine K M4 Me2 v14 _ q14 (by omega) hA hme2 (fun b hb => (wMe2 b hb).trans (wMe1 b hb)) ?_ ?_ ?_ ?_
  · rw [eMe2 _ _ (.inr (by decide)), sMe1]; omega
  · rw [eMe2 _ _ (.inr (by decide)), eMe1 _ _ (.inr (by decide))]; exact hA.2.2.1 3 (by decide)
  · rw [eMe2 _ _ (.inr (by decide)), eMe1 _ _ (.inr (by decide))]; exact l4
  · rw [sMe2]; omega
