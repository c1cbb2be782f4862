/-! draftNumber and put, exactly. -/
theorem xe_lload1 {d k pc n z u : Nat} {L : mq_L} {st : List Value} {M : Nat → mq_C} {Q : (Option Value ⊕ Nat) → mq_S → Prop} {x : Int64} {a0 : Option Value} (hat : mq_at mq_PP k pc = some (3, [n, 1], [])) (h : mq_R mq_PP d k n (a0 :: some (.long x) :: L) (.long x :: st) (M, z, u) Q) : mq_R mq_PP d k pc (a0 :: some (.long x) :: L) st (M, z, u) Q := he_go hat rfl h
theorem xe_lconst {d k pc n z u : Nat} {L : mq_L} {st : List Value} {M : Nat → mq_C} {Q : (Option Value ⊕ Nat) → mq_S → Prop} {c : Int} (hat : mq_at mq_PP k pc = some (1, [n], [c])) (h : ∀ w : Int64, w = Int64.ofInt c → mq_R mq_PP d k n L (.long w :: st) (M, z, u) Q) : mq_R mq_PP d k pc L st (M, z, u) Q := he_go hat rfl (h _ rfl)
theorem xe_land {d k pc n z u : Nat} {L : mq_L} {st : List Value} {M : Nat → mq_C} {Q : (Option Value ⊕ Nat) → mq_S → Prop} {x y : Int64} (hat : mq_at mq_PP k pc = some (24, [n], [])) (h : ∀ w : Int64, w = x &&& y → mq_R mq_PP d k n L (.long w :: st) (M, z, u) Q) : mq_R mq_PP d k pc L (.long y :: .long x :: st) (M, z, u) Q := he_go hat rfl (h _ rfl)
theorem xe_lshr {d k pc n z u : Nat} {L : mq_L} {st : List Value} {M : Nat → mq_C} {Q : (Option Value ⊕ Nat) → mq_S → Prop} {x : Int64} {y : Int32} (hat : mq_at mq_PP k pc = some (28, [n], [])) (h : ∀ w : Int64, w = x >>> (y.toInt64 &&& 63) → mq_R mq_PP d k n L (.long w :: st) (M, z, u) Q) : mq_R mq_PP d k pc L (.int y :: .long x :: st) (M, z, u) Q := he_go hat rfl (h _ rfl)
theorem xe_lushr {d k pc n z u : Nat} {L : mq_L} {st : List Value} {M : Nat → mq_C} {Q : (Option Value ⊕ Nat) → mq_S → Prop} {x : Int64} {y : Int32} (hat : mq_at mq_PP k pc = some (29, [n], [])) (h : ∀ w : Int64, w = (x.toUInt64 >>> (y.toInt64.toUInt64 &&& Int64.toUInt64 63)).toInt64 → mq_R mq_PP d k n L (.long w :: st) (M, z, u) Q) : mq_R mq_PP d k pc L (.int y :: .long x :: st) (M, z, u) Q := he_go hat rfl (h _ rfl)
theorem xe_l2i {d k pc n z u : Nat} {L : mq_L} {st : List Value} {M : Nat → mq_C} {Q : (Option Value ⊕ Nat) → mq_S → Prop} {x : Int64} (hat : mq_at mq_PP k pc = some (32, [n], [])) (h : ∀ v : Int32, v = x.toInt32 → mq_R mq_PP d k n L (.int v :: st) (M, z, u) Q) : mq_R mq_PP d k pc L (.long x :: st) (M, z, u) Q := he_go hat rfl (h _ rfl)
/-- byte i of a long -/
def xlb (v : Int64) (i : Nat) : Int := ((v.toBitVec.toNat / 2 ^ (8 * i) % 256 : Nat) : Int)
theorem xlb_r (v : Int64) (i : Nat) : 0 ≤ xlb v i ∧ xlb v i ≤ 255 := by
  unfold xlb
  omega
theorem xlb_c {v w : Int64} {y v1 r c : Int32} {i : Nat} (hi : i ≤ 7) (hy : y.toInt = 8 * (i : Int)) (hw : w = (v.toUInt64 >>> (y.toInt64.toUInt64 &&& Int64.toUInt64 63)).toInt64) (h1 : v1 = w.toInt32) (hc : c.toInt = 255) (hr : r = v1 &&& c) : r.toInt = xlb v i := by
  rw [lx_and255 hc hr]
  have e : v1.toBitVec.toNat = v.toBitVec.toNat / 2 ^ (8 * i) % 2 ^ 32 := by
    rcases (by omega : i = 0 ∨ i = 1 ∨ i = 2 ∨ i = 3 ∨ i = 4 ∨ i = 5 ∨ i = 6 ∨ i = 7) with rfl | rfl | rfl | rfl | rfl | rfl | rfl | rfl
    · obtain rfl : y = 0 := by rw [he_eqi]; exact hy.trans (by decide)
      rw [h1, hw]
      show ((v.toBitVec >>> (0 : Nat)).signExtend 32).toNat = _
      rw [BitVec.signExtend_eq_setWidth_of_le _ (by decide), BitVec.toNat_setWidth, BitVec.toNat_ushiftRight, Nat.shiftRight_eq_div_pow]
    · obtain rfl : y = 8 := by rw [he_eqi]; exact hy.trans (by decide)
      rw [h1, hw]
      show ((v.toBitVec >>> (8 : Nat)).signExtend 32).toNat = _
      rw [BitVec.signExtend_eq_setWidth_of_le _ (by decide), BitVec.toNat_setWidth, BitVec.toNat_ushiftRight, Nat.shiftRight_eq_div_pow]
    · obtain rfl : y = 16 := by rw [he_eqi]; exact hy.trans (by decide)
      rw [h1, hw]
      show ((v.toBitVec >>> (16 : Nat)).signExtend 32).toNat = _
      rw [BitVec.signExtend_eq_setWidth_of_le _ (by decide), BitVec.toNat_setWidth, BitVec.toNat_ushiftRight, Nat.shiftRight_eq_div_pow]
    · obtain rfl : y = 24 := by rw [he_eqi]; exact hy.trans (by decide)
      rw [h1, hw]
      show ((v.toBitVec >>> (24 : Nat)).signExtend 32).toNat = _
      rw [BitVec.signExtend_eq_setWidth_of_le _ (by decide), BitVec.toNat_setWidth, BitVec.toNat_ushiftRight, Nat.shiftRight_eq_div_pow]
    · obtain rfl : y = 32 := by rw [he_eqi]; exact hy.trans (by decide)
      rw [h1, hw]
      show ((v.toBitVec >>> (32 : Nat)).signExtend 32).toNat = _
      rw [BitVec.signExtend_eq_setWidth_of_le _ (by decide), BitVec.toNat_setWidth, BitVec.toNat_ushiftRight, Nat.shiftRight_eq_div_pow]
    · obtain rfl : y = 40 := by rw [he_eqi]; exact hy.trans (by decide)
      rw [h1, hw]
      show ((v.toBitVec >>> (40 : Nat)).signExtend 32).toNat = _
      rw [BitVec.signExtend_eq_setWidth_of_le _ (by decide), BitVec.toNat_setWidth, BitVec.toNat_ushiftRight, Nat.shiftRight_eq_div_pow]
    · obtain rfl : y = 48 := by rw [he_eqi]; exact hy.trans (by decide)
      rw [h1, hw]
      show ((v.toBitVec >>> (48 : Nat)).signExtend 32).toNat = _
      rw [BitVec.signExtend_eq_setWidth_of_le _ (by decide), BitVec.toNat_setWidth, BitVec.toNat_ushiftRight, Nat.shiftRight_eq_div_pow]
    · obtain rfl : y = 56 := by rw [he_eqi]; exact hy.trans (by decide)
      rw [h1, hw]
      show ((v.toBitVec >>> (56 : Nat)).signExtend 32).toNat = _
      rw [BitVec.signExtend_eq_setWidth_of_le _ (by decide), BitVec.toNat_setWidth, BitVec.toNat_ushiftRight, Nat.shiftRight_eq_div_pow]
  rw [e]
  unfold xlb
  omega
theorem xlb_m {v w l c : Int64} {y r : Int32} {i : Nat} (hi : i ≤ 7) (hy : y.toInt = 8 * (i : Int)) (hw : w = v >>> (y.toInt64 &&& 63)) (hc : c = Int64.ofInt 255) (hl : l = w &&& c) (hr : r = l.toInt32) : r.toInt = xlb v i := by
  have e1 : w.toBitVec.toInt = v.toBitVec.toInt / (2 ^ (8 * i) : Nat) := by
    rcases (by omega : i = 0 ∨ i = 1 ∨ i = 2 ∨ i = 3 ∨ i = 4 ∨ i = 5 ∨ i = 6 ∨ i = 7) with rfl | rfl | rfl | rfl | rfl | rfl | rfl | rfl
    · obtain rfl : y = 0 := by rw [he_eqi]; exact hy.trans (by decide)
      rw [hw]
      show (v.toBitVec.sshiftRight' (BitVec.ofNat 64 0)).toInt = _
      rw [BitVec.sshiftRight_eq', BitVec.toInt_sshiftRight, Int.shiftRight_eq_div_pow]
      rfl
    · obtain rfl : y = 8 := by rw [he_eqi]; exact hy.trans (by decide)
      rw [hw]
      show (v.toBitVec.sshiftRight' (BitVec.ofNat 64 8)).toInt = _
      rw [BitVec.sshiftRight_eq', BitVec.toInt_sshiftRight, Int.shiftRight_eq_div_pow]
      rfl
    · obtain rfl : y = 16 := by rw [he_eqi]; exact hy.trans (by decide)
      rw [hw]
      show (v.toBitVec.sshiftRight' (BitVec.ofNat 64 16)).toInt = _
      rw [BitVec.sshiftRight_eq', BitVec.toInt_sshiftRight, Int.shiftRight_eq_div_pow]
      rfl
    · obtain rfl : y = 24 := by rw [he_eqi]; exact hy.trans (by decide)
      rw [hw]
      show (v.toBitVec.sshiftRight' (BitVec.ofNat 64 24)).toInt = _
      rw [BitVec.sshiftRight_eq', BitVec.toInt_sshiftRight, Int.shiftRight_eq_div_pow]
      rfl
    · obtain rfl : y = 32 := by rw [he_eqi]; exact hy.trans (by decide)
      rw [hw]
      show (v.toBitVec.sshiftRight' (BitVec.ofNat 64 32)).toInt = _
      rw [BitVec.sshiftRight_eq', BitVec.toInt_sshiftRight, Int.shiftRight_eq_div_pow]
      rfl
    · obtain rfl : y = 40 := by rw [he_eqi]; exact hy.trans (by decide)
      rw [hw]
      show (v.toBitVec.sshiftRight' (BitVec.ofNat 64 40)).toInt = _
      rw [BitVec.sshiftRight_eq', BitVec.toInt_sshiftRight, Int.shiftRight_eq_div_pow]
      rfl
    · obtain rfl : y = 48 := by rw [he_eqi]; exact hy.trans (by decide)
      rw [hw]
      show (v.toBitVec.sshiftRight' (BitVec.ofNat 64 48)).toInt = _
      rw [BitVec.sshiftRight_eq', BitVec.toInt_sshiftRight, Int.shiftRight_eq_div_pow]
      rfl
    · obtain rfl : y = 56 := by rw [he_eqi]; exact hy.trans (by decide)
      rw [hw]
      show (v.toBitVec.sshiftRight' (BitVec.ofNat 64 56)).toInt = _
      rw [BitVec.sshiftRight_eq', BitVec.toInt_sshiftRight, Int.shiftRight_eq_div_pow]
      rfl
  have e2 : l.toBitVec.toNat = w.toBitVec.toNat % 256 := by
    rw [hl, hc]
    show (w.toBitVec &&& (Int64.ofInt 255).toBitVec).toNat = _
    rw [BitVec.toNat_and]
    exact Nat.and_two_pow_sub_one_eq_mod _ 8
  have e3 : r.toBitVec.toNat = l.toBitVec.toNat % 2 ^ 32 := by
    rw [hr]
    show (l.toBitVec.signExtend 32).toNat = _
    rw [BitVec.signExtend_eq_setWidth_of_le _ (by decide), BitVec.toNat_setWidth]
  have e4 : r.toBitVec.toNat = w.toBitVec.toNat % 256 := by omega
  have e5 : r.toInt = (r.toBitVec.toNat : Int) := mz_un_s (x := r) (show r.toBitVec.toNat < 2147483648 by omega)
  rw [e5, e4]
  have tw := BitVec.toInt_eq_toNat_cond w.toBitVec
  have tv := BitVec.toInt_eq_toNat_cond v.toBitVec
  have lw := w.toBitVec.isLt
  have lv := v.toBitVec.isLt
  unfold xlb
  generalize w.toBitVec.toNat = W at *
  generalize v.toBitVec.toNat = N at *
  generalize w.toBitVec.toInt = a at *
  generalize v.toBitVec.toInt = b at *
  split at tw <;> split at tv <;> rcases (by omega : i = 0 ∨ i = 1 ∨ i = 2 ∨ i = 3 ∨ i = 4 ∨ i = 5 ∨ i = 6 ∨ i = 7) with rfl | rfl | rfl | rfl | rfl | rfl | rfl | rfl <;> simp only [Nat.reduceMul, Nat.reducePow] at * <;> omega
/-- a row r of bytes, as long as slot f of object o says, has grown by l -/
def xGR (ob r f : Nat) (M M' : Nat → mq_C) (l : List Int) : Prop := mz_sh mz_GG M' ∧ (∀ b, b ≠ ob → b ≠ r → M' b = M b) ∧ (∀ j, j ≠ f → hv M' ob j = hv M ob j) ∧ hv M' ob f = hv M ob f + (l.length : Int) ∧ ∀ t : Nat, hv M' r t = if hv M ob f ≤ (t : Int) ∧ (t : Int) < hv M ob f + (l.length : Int) then l.getD (t - (hv M ob f).toNat) 0 else hv M r t
theorem xGR_t {ob r f : Nat} {M M' M'' : Nat → mq_C} {l l' : List Int} (h0 : 0 ≤ hv M ob f) (h : xGR ob r f M M' l) (h' : xGR ob r f M' M'' l') : xGR ob r f M M'' (l ++ l') := by
  obtain ⟨a1, a2, a3, a4, a5⟩ := h
  obtain ⟨b1, b2, b3, b4, b5⟩ := h'
  refine ⟨b1, fun b n1 n2 => (b2 b n1 n2).trans (a2 b n1 n2), fun j hj => (b3 j hj).trans (a3 j hj), ?_, fun t => ?_⟩
  · rw [b4, a4, List.length_append]
    omega
  · rw [b5 t, a4, List.length_append]
    by_cases c1 : hv M ob f ≤ (t : Int)
    · by_cases c2 : (t : Int) < hv M ob f + (l.length : Int)
      · rw [if_neg (by omega), a5 t, if_pos ⟨c1, c2⟩, if_pos ⟨c1, by omega⟩, xa_l (by omega)]
      · by_cases c3 : (t : Int) < hv M ob f + (l.length : Int) + (l'.length : Int)
        · rw [if_pos ⟨by omega, by omega⟩, if_pos ⟨c1, by omega⟩, xa_r (by omega), show t - (hv M ob f + (l.length : Int)).toNat = t - (hv M ob f).toNat - l.length by omega]
        · rw [if_neg (by omega), a5 t, if_neg (by omega), if_neg (by omega)]
    · rw [if_neg (by omega), a5 t, if_neg (by omega), if_neg (by omega)]
theorem xGR_0 {ob r f : Nat} {M : Nat → mq_C} (hm : mz_sh mz_GG M) : xGR ob r f M M [] := by
  refine ⟨hm, fun _ _ _ => rfl, fun _ _ => rfl, ?_, fun t => ?_⟩
  · show _ = _ + ((0 : Nat) : Int)
    omega
  · show _ = if hv M ob f ≤ (t : Int) ∧ (t : Int) < hv M ob f + ((0 : Nat) : Int) then _ else _
    rw [if_neg (by omega)]
def xll (v : Int64) (n : Nat) : List Int := (List.range n).map (xlb v)
theorem xll_l {v : Int64} {n : Nat} : (xll v n).length = n := by unfold xll; rw [List.length_map, List.length_range]
theorem xll_s {v : Int64} {n : Nat} : xll v (n + 1) = xll v n ++ [xlb v n] := by unfold xll; rw [List.range_succ, List.map_append]; rfl
theorem xn_dn_l {d z u n : Nat} {Mb : Nat → mq_C} {Q : (Option Value ⊕ Nat) → mq_S → Prop} {x1 : Int64} {x3 : Int32} (h0 : 0 ≤ hv Mb 33 1) (hn : n ≤ 8) (h3 : x3.toInt = (n : Int)) (hr : hv Mb 33 1 + (n : Int) ≤ 120) (K : ∀ (M' : Nat → mq_C) (r : Int32), r.toInt = 1 → xGR 33 34 1 Mb M' (xll x1 n) → Q (.inl (some (.int r))) (M', z, u)) : ∀ (m j : Nat) (M : Nat → mq_C) (i : Int32), j + m = n → i.toInt = (j : Int) → xGR 33 34 1 Mb M (xll x1 j) → mq_R mq_PP d 74 27 [some (.ref 33), some (.long x1), none, some (.int x3), some (.int i)] [] (M, z, u) Q := by
  intro m
  induction m with
  | zero =>
    intro j M i e1 e2 hA
    obtain rfl : j = n := by omega
    refine he_iload (n := 29) (i := 4) (by decide +kernel) rfl ?_
    refine he_iload (n := 30) (i := 3) (by decide +kernel) rfl ?_
    refine he_cmpge_t (n := 33) (t := 70) (by decide +kernel) (by omega) ?_
    refine he_iconst (n := 71) (c := 1) (by decide +kernel) (by decide) ?_
    intro c70 hc70
    refine he_retz (by decide +kernel) (by omega) ?_
    exact K M _ (by omega) hA
  | succ m ih =>
    intro j M i e1 e2 hA
    have vR : hv M 33 1 = hv Mb 33 1 + (j : Int) := by rw [hA.2.2.2.1, xll_l]
    refine he_iload (n := 29) (i := 4) (by decide +kernel) rfl ?_
    refine he_iload (n := 30) (i := 3) (by decide +kernel) rfl ?_
    refine he_cmpge_f (n := 33) (t := 70) (by decide +kernel) (by omega) ?_
    refine he_aload (n := 34) (i := 0) (by decide +kernel) rfl ?_
    refine he_getr (n := 37) (ci := 6) (j := 0) (ns := [1112, 11]) (b := 34) hA.1 (by decide +kernel) rfl rfl (by decide +kernel) ?_
    refine he_aload (n := 38) (i := 0) (by decide +kernel) rfl ?_
    refine hb_gfd (n := 41) (ci := 6) (j := 1) (ns := [1114, 15]) hA.1 (by decide +kernel) rfl rfl (by decide) rfl ?_
    intro v38 hv38 lv38 uv38
    refine xe_lload1 (n := 42) (by decide +kernel) ?_
    refine he_iconst (n := 44) (c := 8) (by decide +kernel) (by decide) ?_
    intro c42 hc42
    refine he_iload (n := 46) (i := 4) (by decide +kernel) rfl ?_
    refine he_imul (n := 47) (p := 8 * i.toInt) (by decide +kernel) (by rw [hc42]) (by omega) (by omega) ?_
    intro v46 hv46
    refine xe_lushr (n := 48) (by decide +kernel) ?_
    intro w47 hw47
    refine xe_l2i (n := 49) (by decide +kernel) ?_
    intro v48 ev48
    have bv48 := mz_i32 v48
    refine he_iconst (n := 52) (c := 255) (by decide +kernel) (by decide) ?_
    intro c49 hc49
    refine he_ex2 (o := 12) (n := 53) (by decide +kernel) rfl ?_
    intro v52 hv52
    have ev52 : v52 = v48 &&& c49 := hv52
    have bv52 := mz_i32 v52
    have qa : v38.toInt = hv Mb 33 1 + (j : Int) := by rw [← hv38]; exact vR
    have qb : v52.toInt = xlb x1 j := xlb_c (i := j) (by omega) (by omega) hw47 ev48 hc49 ev52
    have hbr := xlb_r x1 j
    refine hb_sta (n := 54) (kind := 64) hA.1 (by decide +kernel) rfl rfl (.inl rfl) (by omega) (show _ < (120 : Int) by omega) ?_
    generalize hM1 : hb_set M 34 (v38.toInt.toNat) v52 = M1
    have hm1 : mz_sh mz_GG M1 := by rw [← hM1]; exact hb_set_sh hA.1 rfl hb_at1 (by omega) (by omega)
    have eM1 : ∀ b j, b ≠ 34 ∨ j ≠ v38.toInt.toNat → hv M1 b j = hv M b j := by intro b j h; rw [← hM1]; exact hb_set_n h
    have sM1 : hv M1 34 (v38.toInt.toNat) = v52.toInt := by rw [← hM1]; exact hb_set_v hA.1 rfl (show _ < 120 by omega)
    have wM1 : ∀ b, b ≠ 34 → M1 b = M b := by intro b h; rw [← hM1]; exact hb_set_c h
    refine he_aload (n := 55) (i := 0) (by decide +kernel) rfl ?_
    refine he_dup_r (n := 56) (by decide +kernel) ?_
    refine hb_gfd (n := 59) (ci := 6) (j := 1) (ns := [1114, 15]) hm1 (by decide +kernel) rfl rfl (by decide) rfl ?_
    intro v56 hv56 lv56 uv56
    have qd : v56.toInt = hv Mb 33 1 + (j : Int) := by rw [← hv56, eM1 _ _ (.inl (by decide))]; exact vR
    refine he_iconst (n := 60) (c := 1) (by decide +kernel) (by decide) ?_
    intro c59 hc59
    refine he_iadd (n := 61) (by decide +kernel) (by omega) (by omega) ?_
    intro v60 hv60
    refine hb_pfd (n := 64) (ci := 6) (j := 1) (t := 0) (ns := [1114, 15]) hm1 (by decide +kernel) rfl rfl (by decide) (.inl rfl) ?_
    generalize hM2 : hb_set M1 33 1 v60 = M2
    have hm2 : mz_sh mz_GG M2 := by rw [← hM2]; exact hb_set_sh hm1 rfl rfl (by omega) (by omega)
    have eM2 : ∀ b j, b ≠ 33 ∨ j ≠ 1 → hv M2 b j = hv M1 b j := by intro b j h; rw [← hM2]; exact hb_set_n h
    have sM2 : hv M2 33 1 = v60.toInt := by rw [← hM2]; exact hb_set_v hm1 rfl (by decide)
    have wM2 : ∀ b, b ≠ 33 → M2 b = M1 b := by intro b h; rw [← hM2]; exact hb_set_c h
    refine he_iinc (n := 67) (i := 4) (c := 1) (L' := fun v => [some (.ref (33)), some (.long x1), none, some (.int x3), some (.int v)]) (by decide +kernel) (by decide) rfl (fun _ => rfl) (by omega) (by omega) ?_
    intro i64 hi64
    refine he_goto (t := 27) (by decide +kernel) ?_
    refine ih (j + 1) M2 _ (by omega) (by omega) ?_
    rw [xll_s]
    refine xGR_t h0 hA ⟨hm2, fun b n1 n2 => (wM2 b n1).trans (wM1 b n2), fun q hq => by rw [eM2 _ _ (.inr hq), eM1 _ _ (.inl (by decide))], ?_, fun t => ?_⟩
    · rw [sM2, vR]
      show _ = _ + ((1 : Nat) : Int)
      omega
    · rw [eM2 _ _ (.inl (by decide)), vR]
      show hv M1 34 t = if hv Mb 33 1 + (j : Int) ≤ (t : Int) ∧ (t : Int) < hv Mb 33 1 + (j : Int) + ((1 : Nat) : Int) then [xlb x1 j].getD (t - (hv Mb 33 1 + (j : Int)).toNat) 0 else hv M 34 t
      by_cases ht : t = v38.toInt.toNat
      · rw [if_pos (by omega), show t - (hv Mb 33 1 + (j : Int)).toNat = 0 by omega, ht, sM1, qb]
        rfl
      · rw [if_neg (by omega), eM1 _ _ (.inr ht)]
theorem xn_dn {d z u : Nat} {M : Nat → mq_C} {Q : (Option Value ⊕ Nat) → mq_S → Prop} {x1 : Int64} {x3 : Int32} (hm : mz_sh mz_GG M) (K : ∀ (M' : Nat → mq_C) (r : Int32), (1 ≤ x3.toInt ∧ x3.toInt ≤ 8 ∧ hv M 33 1 + x3.toInt ≤ 120 → r.toInt = 1 ∧ xGR 33 34 1 M M' (xll x1 x3.toInt.toNat)) → (¬ (1 ≤ x3.toInt ∧ x3.toInt ≤ 8 ∧ hv M 33 1 + x3.toInt ≤ 120) → r.toInt = 0 ∧ M' = M) → Q (.inl (some (.int r))) (M', z, u)) : mq_R mq_PP d 74 0 [some (.ref 33), some (.long x1), none, some (.int x3), none] [] (M, z, u) Q := by
  refine he_iload (n := 1) (i := 3) (by decide +kernel) rfl ?_
  refine he_iconst (n := 2) (c := 1) (by decide +kernel) (by decide) ?_
  intro c1 hc1
  by_cases h2 : x3.toInt < 1
  · skip
    refine he_cmplt_t (n := 5) (t := 22) (by decide +kernel) (by omega) ?_
    refine he_iconst (n := 23) (c := 0) (by decide +kernel) (by decide) ?_
    intro c22 hc22
    refine he_retz (by decide +kernel) (by omega) ?_
    exact K M _ (fun h => by omega) (fun _ => ⟨by omega, rfl⟩)
  refine he_cmplt_f (n := 5) (t := 22) (by decide +kernel) (by omega) ?_
  refine he_iload (n := 6) (i := 3) (by decide +kernel) rfl ?_
  refine he_iconst (n := 8) (c := 8) (by decide +kernel) (by decide) ?_
  intro c6 hc6
  by_cases h8 : 8 < x3.toInt
  · skip
    refine he_cmpgt_t (n := 11) (t := 22) (by decide +kernel) (by omega) ?_
    refine he_iconst (n := 23) (c := 0) (by decide +kernel) (by decide) ?_
    intro c22 hc22
    refine he_retz (by decide +kernel) (by omega) ?_
    exact K M _ (fun h => by omega) (fun _ => ⟨by omega, rfl⟩)
  refine he_cmpgt_f (n := 11) (t := 22) (by decide +kernel) (by omega) ?_
  refine he_aload (n := 12) (i := 0) (by decide +kernel) rfl ?_
  refine hb_gfd (n := 15) (ci := 6) (j := 1) (ns := [1114, 15]) hm (by decide +kernel) rfl rfl (by decide) rfl ?_
  intro v12 hv12 lv12 uv12
  refine he_iload (n := 16) (i := 3) (by decide +kernel) rfl ?_
  refine he_iadd (n := 17) (by decide +kernel) (by omega) (by omega) ?_
  intro v16 hv16
  refine he_iconst (n := 19) (c := 120) (by decide +kernel) (by decide) ?_
  intro c17 hc17
  by_cases h19 : v12.toInt + x3.toInt ≤ 120
  rotate_left
  · skip
    refine he_cmple_f (n := 22) (t := 24) (by decide +kernel) (by omega) ?_
    refine he_iconst (n := 23) (c := 0) (by decide +kernel) (by decide) ?_
    intro c22 hc22
    refine he_retz (by decide +kernel) (by omega) ?_
    exact K M _ (fun h => by omega) (fun _ => ⟨by omega, rfl⟩)
  refine he_cmple_t (n := 22) (t := 24) (by decide +kernel) (by omega) ?_
  refine he_iconst (n := 25) (c := 0) (by decide +kernel) (by decide) ?_
  intro c24 hc24
  refine he_istore (n := 27) (i := 4) (by decide +kernel) rfl ?_
  exact xn_dn_l (n := x3.toInt.toNat) (by omega) (by omega) (by omega) (by omega) (fun M' r hr hA => K M' r (fun _ => ⟨hr, hA⟩) (fun h => absurd ⟨by omega, by omega, by omega⟩ h)) x3.toInt.toNat 0 M _ (by omega) (by omega) (xGR_0 hm)
theorem ym_put_l {d z u n : Nat} {Mb : Nat → mq_C} {Q : (Option Value ⊕ Nat) → mq_S → Prop} {x1 : Int64} {x3 : Int32} (h0 : 0 ≤ hv Mb 234 15) (hn : n ≤ 8) (h3 : x3.toInt = (n : Int)) (hr : hv Mb 234 15 + (n : Int) ≤ 120) (K : ∀ (M' : Nat → mq_C) (r : Int32), r.toInt = 1 → xGR 234 249 15 Mb M' (xll x1 n) → Q (.inl (some (.int r))) (M', z, u)) : ∀ (m j : Nat) (M : Nat → mq_C) (i : Int32), j + m = n → i.toInt = (j : Int) → xGR 234 249 15 Mb M (xll x1 j) → mq_R mq_PP d 122 32 [some (.ref 234), some (.long x1), none, some (.int x3), some (.int i)] [] (M, z, u) Q := by
  intro m
  induction m with
  | zero =>
    intro j M i e1 e2 hA
    obtain rfl : j = n := by omega
    refine he_iload (n := 34) (i := 4) (by decide +kernel) rfl ?_
    refine he_iload (n := 35) (i := 3) (by decide +kernel) rfl ?_
    refine he_cmpge_t (n := 38) (t := 75) (by decide +kernel) (by omega) ?_
    refine he_iconst (n := 76) (c := 1) (by decide +kernel) (by decide) ?_
    intro c75 hc75
    refine he_retz (by decide +kernel) (by omega) ?_
    exact K M _ (by omega) hA
  | succ m ih =>
    intro j M i e1 e2 hA
    have vR : hv M 234 15 = hv Mb 234 15 + (j : Int) := by rw [hA.2.2.2.1, xll_l]
    refine he_iload (n := 34) (i := 4) (by decide +kernel) rfl ?_
    refine he_iload (n := 35) (i := 3) (by decide +kernel) rfl ?_
    refine he_cmpge_f (n := 38) (t := 75) (by decide +kernel) (by omega) ?_
    refine he_aload (n := 39) (i := 0) (by decide +kernel) rfl ?_
    refine he_getr (n := 42) (ci := 9) (j := 16) (ns := [4193, 53]) (b := 249) hA.1 (by decide +kernel) rfl rfl (by decide +kernel) ?_
    refine he_aload (n := 43) (i := 0) (by decide +kernel) rfl ?_
    refine hb_gfd (n := 46) (ci := 9) (j := 15) (ns := [4192, 186]) hA.1 (by decide +kernel) rfl rfl (by decide) rfl ?_
    intro v43 hv43 lv43 uv43
    refine xe_lload1 (n := 47) (by decide +kernel) ?_
    refine he_iconst (n := 49) (c := 8) (by decide +kernel) (by decide) ?_
    intro c47 hc47
    refine he_iload (n := 51) (i := 4) (by decide +kernel) rfl ?_
    refine he_imul (n := 52) (p := 8 * i.toInt) (by decide +kernel) (by rw [hc47]) (by omega) (by omega) ?_
    intro v51 hv51
    refine xe_lshr (n := 53) (by decide +kernel) ?_
    intro w52 hw52
    refine xe_lconst (n := 56) (c := 255) (by decide +kernel) ?_
    intro w53 hw53
    refine xe_land (n := 57) (by decide +kernel) ?_
    intro w56 hw56
    refine xe_l2i (n := 58) (by decide +kernel) ?_
    intro v57 ev57
    have bv57 := mz_i32 v57
    have qa : v43.toInt = hv Mb 234 15 + (j : Int) := by rw [← hv43]; exact vR
    have qb : v57.toInt = xlb x1 j := xlb_m (i := j) (by omega) (by omega) hw52 hw53 hw56 ev57
    have hbr := xlb_r x1 j
    refine hb_sta (n := 59) (kind := 64) hA.1 (by decide +kernel) rfl rfl (.inl rfl) (by omega) (show _ < (120 : Int) by omega) ?_
    generalize hM1 : hb_set M 249 (v43.toInt.toNat) v57 = M1
    have hm1 : mz_sh mz_GG M1 := by rw [← hM1]; exact hb_set_sh hA.1 rfl hb_at1 (by omega) (by omega)
    have eM1 : ∀ b j, b ≠ 249 ∨ j ≠ v43.toInt.toNat → hv M1 b j = hv M b j := by intro b j h; rw [← hM1]; exact hb_set_n h
    have sM1 : hv M1 249 (v43.toInt.toNat) = v57.toInt := by rw [← hM1]; exact hb_set_v hA.1 rfl (show _ < 120 by omega)
    have wM1 : ∀ b, b ≠ 249 → M1 b = M b := by intro b h; rw [← hM1]; exact hb_set_c h
    refine he_aload (n := 60) (i := 0) (by decide +kernel) rfl ?_
    refine he_dup_r (n := 61) (by decide +kernel) ?_
    refine hb_gfd (n := 64) (ci := 9) (j := 15) (ns := [4192, 186]) hm1 (by decide +kernel) rfl rfl (by decide) rfl ?_
    intro v61 hv61 lv61 uv61
    have qd : v61.toInt = hv Mb 234 15 + (j : Int) := by rw [← hv61, eM1 _ _ (.inl (by decide))]; exact vR
    refine he_iconst (n := 65) (c := 1) (by decide +kernel) (by decide) ?_
    intro c64 hc64
    refine he_iadd (n := 66) (by decide +kernel) (by omega) (by omega) ?_
    intro v65 hv65
    refine hb_pfd (n := 69) (ci := 9) (j := 15) (t := 0) (ns := [4192, 186]) hm1 (by decide +kernel) rfl rfl (by decide) (.inl rfl) ?_
    generalize hM2 : hb_set M1 234 15 v65 = M2
    have hm2 : mz_sh mz_GG M2 := by rw [← hM2]; exact hb_set_sh hm1 rfl rfl (by omega) (by omega)
    have eM2 : ∀ b j, b ≠ 234 ∨ j ≠ 15 → hv M2 b j = hv M1 b j := by intro b j h; rw [← hM2]; exact hb_set_n h
    have sM2 : hv M2 234 15 = v65.toInt := by rw [← hM2]; exact hb_set_v hm1 rfl (by decide)
    have wM2 : ∀ b, b ≠ 234 → M2 b = M1 b := by intro b h; rw [← hM2]; exact hb_set_c h
    refine he_iinc (n := 72) (i := 4) (c := 1) (L' := fun v => [some (.ref (234)), some (.long x1), none, some (.int x3), some (.int v)]) (by decide +kernel) (by decide) rfl (fun _ => rfl) (by omega) (by omega) ?_
    intro i69 hi69
    refine he_goto (t := 32) (by decide +kernel) ?_
    refine ih (j + 1) M2 _ (by omega) (by omega) ?_
    rw [xll_s]
    refine xGR_t h0 hA ⟨hm2, fun b n1 n2 => (wM2 b n1).trans (wM1 b n2), fun q hq => by rw [eM2 _ _ (.inr hq), eM1 _ _ (.inl (by decide))], ?_, fun t => ?_⟩
    · rw [sM2, vR]
      show _ = _ + ((1 : Nat) : Int)
      omega
    · rw [eM2 _ _ (.inl (by decide)), vR]
      show hv M1 249 t = if hv Mb 234 15 + (j : Int) ≤ (t : Int) ∧ (t : Int) < hv Mb 234 15 + (j : Int) + ((1 : Nat) : Int) then [xlb x1 j].getD (t - (hv Mb 234 15 + (j : Int)).toNat) 0 else hv M 249 t
      by_cases ht : t = v43.toInt.toNat
      · rw [if_pos (by omega), show t - (hv Mb 234 15 + (j : Int)).toNat = 0 by omega, ht, sM1, qb]
        rfl
      · rw [if_neg (by omega), eM1 _ _ (.inr ht)]
theorem ym_put {d z u : Nat} {M : Nat → mq_C} {Q : (Option Value ⊕ Nat) → mq_S → Prop} {x1 : Int64} {x3 : Int32} (hm : mz_sh mz_GG M) (K : ∀ (M1 M' : Nat → mq_C) (r : Int32), mz_sh mz_GG M1 → (∀ b, b ≠ 234 → M1 b = M b) → (∀ j, j ≠ 0 → hv M1 234 j = hv M 234 j) → hv M1 234 0 = 0 → (1 ≤ x3.toInt ∧ x3.toInt ≤ 8 ∧ hv M 234 15 + x3.toInt ≤ 120 → r.toInt = 1 ∧ xGR 234 249 15 M1 M' (xll x1 x3.toInt.toNat)) → (¬ (1 ≤ x3.toInt ∧ x3.toInt ≤ 8 ∧ hv M 234 15 + x3.toInt ≤ 120) → r.toInt = 0 ∧ M' = M1) → Q (.inl (some (.int r))) (M', z, u)) : mq_R mq_PP d 122 0 [some (.ref 234), some (.long x1), none, some (.int x3), none] [] (M, z, u) Q := by
  refine he_aload (n := 1) (i := 0) (by decide +kernel) rfl ?_
  refine he_iconst (n := 2) (c := 0) (by decide +kernel) (by decide) ?_
  intro c1 hc1
  refine hb_pfd (n := 5) (ci := 9) (j := 0) (t := 0) (ns := [4177, 126]) hm (by decide +kernel) rfl rfl (by decide) (.inl rfl) ?_
  generalize hM1 : hb_set M 234 0 c1 = M1
  have hm1 : mz_sh mz_GG M1 := by rw [← hM1]; exact hb_set_sh hm rfl rfl (by omega) (by omega)
  have eM1 : ∀ b j, b ≠ 234 ∨ j ≠ 0 → hv M1 b j = hv M b j := by intro b j h; rw [← hM1]; exact hb_set_n h
  have sM1 : hv M1 234 0 = c1.toInt := by rw [← hM1]; exact hb_set_v hm rfl (by decide)
  have wM1 : ∀ b, b ≠ 234 → M1 b = M b := by intro b h; rw [← hM1]; exact hb_set_c h
  refine he_iload (n := 6) (i := 3) (by decide +kernel) rfl ?_
  refine he_iconst (n := 7) (c := 1) (by decide +kernel) (by decide) ?_
  intro c6 hc6
  have KK := fun M' r => K M1 M' r hm1 (fun b hb => wM1 b hb) (fun j hj => eM1 _ _ (.inr hj)) (by rw [sM1]; omega)
  by_cases h2 : x3.toInt < 1
  · skip
    refine he_cmplt_t (n := 10) (t := 27) (by decide +kernel) (by omega) ?_
    refine he_iconst (n := 28) (c := 0) (by decide +kernel) (by decide) ?_
    intro c27 hc27
    refine he_retz (by decide +kernel) (by omega) ?_
    exact KK M1 _ (fun h => by omega) (fun _ => ⟨by omega, rfl⟩)
  refine he_cmplt_f (n := 10) (t := 27) (by decide +kernel) (by omega) ?_
  refine he_iload (n := 11) (i := 3) (by decide +kernel) rfl ?_
  refine he_iconst (n := 13) (c := 8) (by decide +kernel) (by decide) ?_
  intro c11 hc11
  by_cases h8 : 8 < x3.toInt
  · skip
    refine he_cmpgt_t (n := 16) (t := 27) (by decide +kernel) (by omega) ?_
    refine he_iconst (n := 28) (c := 0) (by decide +kernel) (by decide) ?_
    intro c27 hc27
    refine he_retz (by decide +kernel) (by omega) ?_
    exact KK M1 _ (fun h => by omega) (fun _ => ⟨by omega, rfl⟩)
  refine he_cmpgt_f (n := 16) (t := 27) (by decide +kernel) (by omega) ?_
  refine he_aload (n := 17) (i := 0) (by decide +kernel) rfl ?_
  refine hb_gfd (n := 20) (ci := 9) (j := 15) (ns := [4192, 186]) hm1 (by decide +kernel) rfl rfl (by decide) rfl ?_
  intro v17 hv17 lv17 uv17
  refine he_iload (n := 21) (i := 3) (by decide +kernel) rfl ?_
  refine he_iadd (n := 22) (by decide +kernel) (by omega) (by omega) ?_
  intro v21 hv21
  refine he_iconst (n := 24) (c := 120) (by decide +kernel) (by decide) ?_
  intro c22 hc22
  have q15 : v17.toInt = hv M 234 15 := by rw [← hv17]; exact eM1 _ _ (.inr (by decide))
  have q15' : hv M1 234 15 = hv M 234 15 := eM1 _ _ (.inr (by decide))
  by_cases h19 : v17.toInt + x3.toInt ≤ 120
  rotate_left
  · skip
    refine he_cmple_f (n := 27) (t := 29) (by decide +kernel) (by omega) ?_
    refine he_iconst (n := 28) (c := 0) (by decide +kernel) (by decide) ?_
    intro c27 hc27
    refine he_retz (by decide +kernel) (by omega) ?_
    exact KK M1 _ (fun h => by omega) (fun _ => ⟨by omega, rfl⟩)
  refine he_cmple_t (n := 27) (t := 29) (by decide +kernel) (by omega) ?_
  refine he_iconst (n := 30) (c := 0) (by decide +kernel) (by decide) ?_
  intro c29 hc29
  refine he_istore (n := 32) (i := 4) (by decide +kernel) rfl ?_
  exact ym_put_l (n := x3.toInt.toNat) (by omega) (by omega) (by omega) (by omega) (fun M' r hr hA => KK M' r (fun _ => ⟨hr, hA⟩) (fun h => absurd ⟨by omega, by omega, by omega⟩ h)) x3.toInt.toNat 0 M1 _ (by omega) (by omega) (xGR_0 hm1)
