/-! arraycopy; addBody and writeTo, exactly. -/
theorem xe_copy {d k pc n z u a b la lb : Nat} {ns : List Nat} {L : mq_L} {M : Nat → mq_C} {Q : (Option Value ⊕ Nat) → mq_S → Prop} {C D S : Int32} {lo hi lo' hi' : Int} (hm : mz_sh mz_GG M) (hat : mq_at mq_PP k pc = some (65, n :: ns, [])) (ha : mz_GG.1 a = some (64, la, 1, [(0, lo, hi)])) (hb : mz_GG.1 b = some (64, lb, 1, [(0, lo', hi')])) (h1 : lo' ≤ lo) (h2 : hi ≤ hi') (c0 : 0 ≤ C.toInt) (d0 : 0 ≤ D.toInt) (s0 : 0 ≤ S.toInt) (q1 : S.toInt + C.toInt ≤ (la : Int)) (q2 : D.toInt + C.toInt ≤ (lb : Int)) (h : ∀ M' : Nat → mq_C, mz_sh mz_GG M' → (∀ x, x ≠ b → M' x = M x) → (∀ t : Nat, hv M' b t = if D.toInt ≤ (t : Int) ∧ (t : Int) < D.toInt + C.toInt then hv M a (S.toInt.toNat + (t - D.toInt.toNat)) else hv M b t) → mq_R mq_PP d k n L [] (M', z, u) Q) : mq_R mq_PP d k pc L [.int C, .int D, .ref b, .int S, .ref a] (M, z, u) Q := by
  obtain ⟨ma1, ma2, ma3⟩ := hm a _ ha
  obtain ⟨mb1, mb2, mb3⟩ := hm b _ hb
  have ma1 : (M a).1 = 64 := ma1
  have mb1 : (M b).1 = 64 := mb1
  have ma2 : (M a).2.length = la := ma2
  have mb2 : (M b).2.length = lb := mb2
  have ng : ∀ x : Int32, 0 ≤ x.toInt → ¬ x < 0 := by
    intro x hx
    rw [Int32.lt_iff_toInt_lt]
    have : (0 : Int32).toInt = 0 := rfl
    omega
  have l1 : S.toInt.toNat + C.toInt.toNat ≤ (M a).2.length := by rw [ma2]; omega
  have l2 : D.toInt.toNat + C.toInt.toNat ≤ (M b).2.length := by rw [mb2]; omega
  generalize hN : va_up M b (64, mq_cpy (M a).2 (M b).2 S.toInt.toNat D.toInt.toNat C.toInt.toNat) = N
  have hs : mq_ex (65, n :: ns, []) L [.int C, .int D, .ref b, .int S, .ref a] (M, z, u) = some (.inl (n, L, [], (N, z, u))) := by
    show (if mq_wt [] ≤ 8 ∧ (M a).1 = 64 ∧ (M b).1 = 64 ∧ ¬ C < 0 ∧ ¬ D < 0 ∧ ¬ S < 0 ∧ S.toNatClampNeg + C.toNatClampNeg ≤ (M a).2.length ∧ D.toNatClampNeg + C.toNatClampNeg ≤ (M b).2.length then mq_nx n L [] (va_up M b (64, mq_cpy (M a).2 (M b).2 S.toNatClampNeg D.toNatClampNeg C.toNatClampNeg), z, u) else none) = _
    rw [if_pos ⟨by decide, ma1, mb1, ng _ c0, ng _ d0, ng _ s0, l1, l2⟩, ← hN]
    rfl
  have nb : N b = (64, mq_cpy (M a).2 (M b).2 S.toInt.toNat D.toInt.toNat C.toInt.toNat) := by rw [← hN]; exact va_up_self _ _ _
  have nx : ∀ x, x ≠ b → N x = M x := fun x hx => by rw [← hN]; exact va_up_ne _ _ hx
  refine he_go hat hs (h N ?_ nx ?_)
  · intro x c hc
    by_cases hx : x = b
    · subst hx
      rw [hb] at hc
      cases hc
      rw [nb]
      refine ⟨rfl, by show (mq_cpy _ _ _ _ _).length = lb; rw [mq_cpy_len l1 l2, mb2], fun i v hv => ?_⟩
      have hv : (mq_cpy (M a).2 (M x).2 S.toInt.toNat D.toInt.toNat C.toInt.toNat)[i]? = some v := hv
      rw [mq_cpy_at l1 l2] at hv
      split at hv
      · have hok := ma3 _ v hv
        rw [hb_at1] at hok
        rw [hb_at1]
        cases v with
        | int w => exact ⟨Int.le_trans h1 hok.1, Int.le_trans hok.2 h2⟩
        | _ => exact hok
      · exact mb3 i v hv
    · rw [nx x hx]
      exact hm x c hc
  · intro t
    show hb_w mz_GG ((N b).2[t]?) = _
    rw [nb]
    show hb_w mz_GG ((mq_cpy (M a).2 (M b).2 S.toInt.toNat D.toInt.toNat C.toInt.toNat)[t]?) = _
    rw [mq_cpy_at l1 l2]
    by_cases c : D.toInt ≤ (t : Int) ∧ (t : Int) < D.toInt + C.toInt
    · rw [if_pos c, if_pos ⟨by omega, by omega⟩]
      rfl
    · rw [if_neg c, if_neg (by omega)]
      rfl
/-- the first n numbers of a row -/
def xrow (M : Nat → mq_C) (a n : Nat) : List Int := (List.range n).map (hv M a)
theorem xrow_l {M : Nat → mq_C} {a n : Nat} : (xrow M a n).length = n := by unfold xrow; rw [List.length_map, List.length_range]
theorem xrow_g {M : Nat → mq_C} {a n t : Nat} (h : t < n) : (xrow M a n).getD t 0 = hv M a t := by
  unfold xrow
  rw [List.getD_eq_getElem?_getD, List.getElem?_map, List.getElem?_range h]
  rfl
theorem xn_body {d z u : Nat} {M : Nat → mq_C} {Q : (Option Value ⊕ Nat) → mq_S → Prop} {x1 : Int32} (hm : mz_sh mz_GG M) (h0 : 0 ≤ x1.toInt) (h8 : x1.toInt ≤ 8) (d0 : 0 ≤ hv M 33 1) (d1 : hv M 33 1 ≤ 120) (b0 : 0 ≤ hv M 33 3) (hr : hv M 33 3 + 2 + hv M 33 1 ≤ 240) (K : ∀ M' : Nat → mq_C, xGR 33 35 3 M M' (75 :: x1.toInt :: xrow M 34 (hv M 33 1).toNat) → Q (.inl none) (M', z, u)) : mq_R mq_PP d 76 0 [some (.ref 33), some (.int x1)] [] (M, z, u) Q := by
  refine he_aload (n := 1) (i := 0) (by decide +kernel) rfl ?_
  refine he_getr (n := 4) (ci := 6) (j := 2) (ns := [1116, 19]) (b := 35) hm (by decide +kernel) rfl rfl (by decide +kernel) ?_
  refine he_aload (n := 5) (i := 0) (by decide +kernel) rfl ?_
  refine hb_gfd (n := 8) (ci := 6) (j := 3) (ns := [1117, 22]) hm (by decide +kernel) rfl rfl (by decide) rfl ?_
  intro v5 hv5 lv5 uv5
  have q5 : v5.toInt = hv M 33 3 := hv5.symm
  refine he_iconst (n := 10) (c := 75) (by decide +kernel) (by decide) ?_
  intro c8 hc8
  refine hb_sta (n := 11) (kind := 64) hm (by decide +kernel) rfl rfl (.inl rfl) (by omega) (show _ < (240 : Int) by omega) ?_
  generalize hM1 : hb_set M 35 (v5.toInt.toNat) c8 = M1
  have hm1 : mz_sh mz_GG M1 := by rw [← hM1]; exact hb_set_sh hm rfl hb_at1 (by omega) (by omega)
  have eM1 : ∀ b j, b ≠ 35 ∨ j ≠ v5.toInt.toNat → hv M1 b j = hv M b j := by intro b j h; rw [← hM1]; exact hb_set_n h
  have sM1 : hv M1 35 (v5.toInt.toNat) = c8.toInt := by rw [← hM1]; exact hb_set_v hm rfl (show _ < 240 by omega)
  have wM1 : ∀ b, b ≠ 35 → M1 b = M b := by intro b h; rw [← hM1]; exact hb_set_c h
  refine he_aload (n := 12) (i := 0) (by decide +kernel) rfl ?_
  refine he_getr (n := 15) (ci := 6) (j := 2) (ns := [1116, 19]) (b := 35) hm1 (by decide +kernel) rfl rfl (by decide +kernel) ?_
  refine he_aload (n := 16) (i := 0) (by decide +kernel) rfl ?_
  refine hb_gfd (n := 19) (ci := 6) (j := 3) (ns := [1117, 22]) hm1 (by decide +kernel) rfl rfl (by decide) rfl ?_
  intro v16 hv16 lv16 uv16
  have q16 : v16.toInt = hv M 33 3 := by rw [← hv16]; exact eM1 _ _ (.inl (by decide))
  refine he_iconst (n := 20) (c := 1) (by decide +kernel) (by decide) ?_
  intro c19 hc19
  refine he_iadd (n := 21) (by decide +kernel) (by omega) (by omega) ?_
  intro v20 hv20
  refine he_iload (n := 22) (i := 1) (by decide +kernel) rfl ?_
  refine hb_sta (n := 23) (kind := 64) hm1 (by decide +kernel) rfl rfl (.inl rfl) (by omega) (show _ < (240 : Int) by omega) ?_
  generalize hM2 : hb_set M1 35 (v20.toInt.toNat) x1 = M2
  have hm2 : mz_sh mz_GG M2 := by rw [← hM2]; exact hb_set_sh hm1 rfl hb_at1 (by omega) (by omega)
  have eM2 : ∀ b j, b ≠ 35 ∨ j ≠ v20.toInt.toNat → hv M2 b j = hv M1 b j := by intro b j h; rw [← hM2]; exact hb_set_n h
  have sM2 : hv M2 35 (v20.toInt.toNat) = x1.toInt := by rw [← hM2]; exact hb_set_v hm1 rfl (show _ < 240 by omega)
  have wM2 : ∀ b, b ≠ 35 → M2 b = M1 b := by intro b h; rw [← hM2]; exact hb_set_c h
  refine he_aload (n := 24) (i := 0) (by decide +kernel) rfl ?_
  refine he_getr (n := 27) (ci := 6) (j := 0) (ns := [1112, 11]) (b := 34) hm2 (by decide +kernel) rfl rfl (by decide +kernel) ?_
  refine he_iconst (n := 28) (c := 0) (by decide +kernel) (by decide) ?_
  intro c27 hc27
  refine he_aload (n := 29) (i := 0) (by decide +kernel) rfl ?_
  refine he_getr (n := 32) (ci := 6) (j := 2) (ns := [1116, 19]) (b := 35) hm2 (by decide +kernel) rfl rfl (by decide +kernel) ?_
  refine he_aload (n := 33) (i := 0) (by decide +kernel) rfl ?_
  refine hb_gfd (n := 36) (ci := 6) (j := 3) (ns := [1117, 22]) hm2 (by decide +kernel) rfl rfl (by decide) rfl ?_
  intro v33 hv33 lv33 uv33
  have q33 : v33.toInt = hv M 33 3 := by rw [← hv33, eM2 _ _ (.inl (by decide))]; exact eM1 _ _ (.inl (by decide))
  refine he_iconst (n := 37) (c := 2) (by decide +kernel) (by decide) ?_
  intro c36 hc36
  refine he_iadd (n := 38) (by decide +kernel) (by omega) (by omega) ?_
  intro v37 hv37
  refine he_aload (n := 39) (i := 0) (by decide +kernel) rfl ?_
  refine hb_gfd (n := 42) (ci := 6) (j := 1) (ns := [1114, 15]) hm2 (by decide +kernel) rfl rfl (by decide) rfl ?_
  intro v39 hv39 lv39 uv39
  have q39 : v39.toInt = hv M 33 1 := by rw [← hv39, eM2 _ _ (.inl (by decide))]; exact eM1 _ _ (.inl (by decide))
  refine xe_copy (ns := [2210, 34]) (n := 45) (a := 34) (b := 35) hm2 (by decide +kernel) rfl rfl (by decide) (by decide) (by omega) (by omega) (by omega) (by omega) (by omega) ?_
  intro M3 hm3 wM3 rM3
  refine he_aload (n := 46) (i := 0) (by decide +kernel) rfl ?_
  refine he_dup_r (n := 47) (by decide +kernel) ?_
  refine hb_gfd (n := 50) (ci := 6) (j := 3) (ns := [1117, 22]) hm3 (by decide +kernel) rfl rfl (by decide) rfl ?_
  intro ve47 hve47 lve47 uve47
  have q47 : ve47.toInt = hv M 33 3 := by rw [← hve47]; show hb_w mz_GG ((M3 33).2[3]?) = _; rw [wM3 33 (by decide)]; show hv M2 33 3 = _; rw [eM2 _ _ (.inl (by decide))]; exact eM1 _ _ (.inl (by decide))
  refine he_iconst (n := 51) (c := 2) (by decide +kernel) (by decide) ?_
  intro ce50 hce50
  refine he_aload (n := 52) (i := 0) (by decide +kernel) rfl ?_
  refine hb_gfd (n := 55) (ci := 6) (j := 1) (ns := [1114, 15]) hm3 (by decide +kernel) rfl rfl (by decide) rfl ?_
  intro ve52 hve52 lve52 uve52
  have q52 : ve52.toInt = hv M 33 1 := by rw [← hve52]; show hb_w mz_GG ((M3 33).2[1]?) = _; rw [wM3 33 (by decide)]; show hv M2 33 1 = _; rw [eM2 _ _ (.inl (by decide))]; exact eM1 _ _ (.inl (by decide))
  refine he_iadd (n := 56) (by decide +kernel) (by omega) (by omega) ?_
  intro ve55 hve55
  refine he_iadd (n := 57) (by decide +kernel) (by omega) (by omega) ?_
  intro ve56 hve56
  refine hb_pfd (n := 60) (ci := 6) (j := 3) (t := 0) (ns := [1117, 22]) hm3 (by decide +kernel) rfl rfl (by decide) (.inl rfl) ?_
  generalize hMe1 : hb_set M3 33 3 ve56 = Me1
  have hme1 : mz_sh mz_GG Me1 := by rw [← hMe1]; exact hb_set_sh hm3 rfl rfl (by omega) (by omega)
  have eMe1 : ∀ b j, b ≠ 33 ∨ j ≠ 3 → hv Me1 b j = hv M3 b j := by intro b j h; rw [← hMe1]; exact hb_set_n h
  have sMe1 : hv Me1 33 3 = ve56.toInt := by rw [← hMe1]; exact hb_set_v hm3 rfl (by decide)
  have wMe1 : ∀ b, b ≠ 33 → Me1 b = M3 b := by intro b h; rw [← hMe1]; exact hb_set_c h
  refine he_ret (by decide +kernel) ?_
  refine K Me1 ⟨hme1, fun b n1 n2 => by rw [wMe1 b n1, wM3 b n2, wM2 b n2, wM1 b n2], fun j hj => ?_, ?_, fun t => ?_⟩
  · rw [eMe1 _ _ (.inr hj)]
    show hb_w mz_GG ((M3 33).2[j]?) = _
    rw [wM3 33 (by decide)]
    show hv M2 33 j = _
    rw [eM2 _ _ (.inl (by decide))]
    exact eM1 _ _ (.inl (by decide))
  · rw [sMe1]
    show _ = _ + (((xrow M 34 (hv M 33 1).toNat).length + 1 + 1 : Nat) : Int)
    rw [xrow_l]
    omega
  · have l34 : ∀ i, hv M2 34 i = hv M 34 i := fun i => by rw [eM2 _ _ (.inl (by decide))]; exact eM1 _ _ (.inl (by decide))
    rw [eMe1 _ _ (.inl (by decide)), rM3 t]
    show _ = if hv M 33 3 ≤ (t : Int) ∧ (t : Int) < hv M 33 3 + ((xrow M 34 (hv M 33 1).toNat).length + 1 + 1 : Nat) then _ else _
    rw [xrow_l]
    by_cases a1 : t = (hv M 33 3).toNat
    · rw [if_neg (by omega), if_pos (by omega), show t - (hv M 33 3).toNat = 0 by omega, eM2 _ _ (.inr (by omega)), show t = v5.toInt.toNat by omega, sM1]
      show c8.toInt = 75
      omega
    · by_cases a2 : t = (hv M 33 3).toNat + 1
      · rw [if_neg (by omega), if_pos (by omega), show t - (hv M 33 3).toNat = 1 by omega, show t = v20.toInt.toNat by omega, sM2]
        rfl
      · rw [eM2 35 t (.inr (by omega)), eM1 35 t (.inr (by omega)), l34]
        by_cases a3 : hv M 33 3 + 2 ≤ (t : Int) ∧ (t : Int) < hv M 33 3 + 2 + hv M 33 1
        · rw [if_pos (by omega), if_pos (by omega), show t - (hv M 33 3).toNat = (t - (hv M 33 3).toNat - 2) + 1 + 1 by omega]
          show _ = (xrow M 34 (hv M 33 1).toNat).getD (t - (hv M 33 3).toNat - 2) 0
          rw [xrow_g (by omega)]
          congr 1
          omega
        · rw [if_neg (by omega), if_neg (by omega)]
