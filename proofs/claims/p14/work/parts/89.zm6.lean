/-! The class's enter, exactly. -/
theorem lx_rg91 {M : Nat → mq_C} (hm : mz_sh mz_GG M) : 0 ≤ hv M 9 1 ∧ hv M 9 1 ≤ 200 := by
  obtain ⟨m1, m2, m3⟩ := hm 9 _ rfl
  have hl : 1 < (M 9).2.length := by rw [m2]; decide
  have h := m3 1 _ (List.getElem?_eq_getElem hl)
  show 0 ≤ hb_w mz_GG ((M 9).2[1]?) ∧ hb_w mz_GG ((M 9).2[1]?) ≤ 200
  rw [List.getElem?_eq_getElem hl]
  generalize (M 9).2[1] = v at h
  cases v with
  | int x => exact h
  | _ => exact absurd h id
theorem xn_room {d z u : Nat} {M : Nat → mq_C} {Q : (Option Value ⊕ Nat) → mq_S → Prop} {x1 : Int32} (hm : mz_sh mz_GG M) (h0 : 0 ≤ x1.toInt) (h4 : x1.toInt ≤ 4) (K : ∀ r : Int32, ((hv M 33 6 ≤ 5 ∧ hv M 33 3 + hv M 33 5 + hv M 33 1 + x1.toInt + 18 ≤ 240) → r.toInt = 1) → (¬ (hv M 33 6 ≤ 5 ∧ hv M 33 3 + hv M 33 5 + hv M 33 1 + x1.toInt + 18 ≤ 240) → r.toInt = 0) → Q (.inl (some (.int r))) (M, z, u)) : mq_R mq_PP d 75 0 [some (.ref 33), some (.int x1), none] [] (M, z, u) Q := by
  refine he_iconst (n := 1) (c := 2) (by decide +kernel) (by decide) ?_
  intro c0 hc0
  refine he_aload (n := 2) (i := 0) (by decide +kernel) rfl ?_
  refine hb_gfd (n := 5) (ci := 6) (j := 1) (ns := [1114, 15]) hm (by decide +kernel) rfl rfl (by decide) rfl ?_
  intro v2 hv2 lv2 uv2
  refine he_iadd (n := 6) (by decide +kernel) (by omega) (by omega) ?_
  intro v5 hv5
  refine he_iconst (n := 8) (c := 12) (by decide +kernel) (by decide) ?_
  intro c6 hc6
  refine he_iadd (n := 9) (by decide +kernel) (by omega) (by omega) ?_
  intro v8 hv8
  refine he_iload (n := 10) (i := 1) (by decide +kernel) rfl ?_
  refine he_iadd (n := 11) (by decide +kernel) (by omega) (by omega) ?_
  intro v10 hv10
  refine he_istore (n := 12) (i := 2) (by decide +kernel) rfl ?_
  refine he_aload (n := 13) (i := 0) (by decide +kernel) rfl ?_
  refine hb_gfd (n := 16) (ci := 6) (j := 6) (ns := [1120, 31]) hm (by decide +kernel) rfl rfl (by decide) rfl ?_
  intro v13 hv13 lv13 uv13
  refine he_iconst (n := 18) (c := 6) (by decide +kernel) (by decide) ?_
  intro c16 hc16
  by_cases h18 : v13.toInt < 6
  rotate_left
  · skip
    refine he_cmpge_t (n := 21) (t := 44) (by decide +kernel) (by omega) ?_
    refine he_iconst (n := 45) (c := 0) (by decide +kernel) (by decide) ?_
    intro c44 hc44
    refine he_retz (by decide +kernel) (by omega) ?_
    exact K _ (fun h => by omega) (fun _ => by omega)
  refine he_cmpge_f (n := 21) (t := 44) (by decide +kernel) (by omega) ?_
  refine he_aload (n := 22) (i := 0) (by decide +kernel) rfl ?_
  refine hb_gfd (n := 25) (ci := 6) (j := 3) (ns := [1117, 22]) hm (by decide +kernel) rfl rfl (by decide) rfl ?_
  intro v22 hv22 lv22 uv22
  refine he_aload (n := 26) (i := 0) (by decide +kernel) rfl ?_
  refine hb_gfd (n := 29) (ci := 6) (j := 5) (ns := [1119, 28]) hm (by decide +kernel) rfl rfl (by decide) rfl ?_
  intro v26 hv26 lv26 uv26
  refine he_iadd (n := 30) (by decide +kernel) (by omega) (by omega) ?_
  intro v29 hv29
  refine he_iconst (n := 31) (c := 4) (by decide +kernel) (by decide) ?_
  intro c30 hc30
  refine he_iadd (n := 32) (by decide +kernel) (by omega) (by omega) ?_
  intro v31 hv31
  refine he_iload (n := 33) (i := 2) (by decide +kernel) rfl ?_
  refine he_iadd (n := 34) (by decide +kernel) (by omega) (by omega) ?_
  intro v33 hv33
  refine he_iconst (n := 37) (c := 240) (by decide +kernel) (by decide) ?_
  intro c34 hc34
  by_cases h37 : v33.toInt ≤ 240
  · skip
    refine he_cmpgt_f (n := 40) (t := 44) (by decide +kernel) (by omega) ?_
    refine he_iconst (n := 41) (c := 1) (by decide +kernel) (by decide) ?_
    intro c40 hc40
    refine he_goto (t := 45) (by decide +kernel) ?_
    refine he_retz (by decide +kernel) (by omega) ?_
    exact K _ (fun _ => by omega) (fun h => absurd ⟨by omega, by omega⟩ h)
  · skip
    refine he_cmpgt_t (n := 40) (t := 44) (by decide +kernel) (by omega) ?_
    refine he_iconst (n := 45) (c := 0) (by decide +kernel) (by decide) ?_
    intro c44 hc44
    refine he_retz (by decide +kernel) (by omega) ?_
    exact K _ (fun h => by omega) (fun _ => by omega)
theorem xn_enter {d z u : Nat} {M : Nat → mq_C} {Q : (Option Value ⊕ Nat) → mq_S → Prop} {x1 x2 : Int32} (hm : mz_sh mz_GG M) (r0 : 0 ≤ hv M 33 5) (b0 : 0 ≤ hv M 33 3) (d0 : 0 ≤ hv M 33 1) (d1 : hv M 33 1 ≤ 120) (e0 : 0 ≤ hv M 33 6) (hMO : M 1 = (60, mq_MO)) (hTL : xT M 24 288 xfL) (hTD : xT M 28 32 xfD) (K0 : ∀ r : Int32, r.toInt = 0 → Q (.inl (some (.int r))) (M, z, u))
    (K : ∀ (M' : Nat → mq_C) (r : Int32) (su le : Int), (hb_nm x1.toInt ≠ 0 ∧ (x2.toInt = 0 ∨ x2.toInt = 8) ∧ hv M 33 6 ≤ 5 ∧ hv M 33 3 + hv M 33 5 + hv M 33 1 + hb_nm x1.toInt + 18 ≤ 240) → r.toInt = 1 → mz_sh mz_GG M' → (∀ b, b < 9 ∨ 24 ≤ b → b ≠ 33 → b ≠ 35 → b ≠ 36 → M' b = M b) → hv M' 33 1 = 0 → hv M' 33 3 = hv M 33 3 + 2 + hv M 33 1 → hv M' 33 5 = hv M 33 5 + 12 + hb_nm x1.toInt → hv M' 33 6 = hv M 33 6 + 1 → (∀ t : Nat, hv M' 35 t = if hv M 33 3 ≤ (t : Int) ∧ (t : Int) < hv M 33 3 + 2 + hv M 33 1 then (75 :: x2.toInt :: xrow M 34 (hv M 33 1).toNat).getD (t - (hv M 33 3).toNat) 0 else hv M 35 t) → (∀ t : Nat, hv M' 36 t = if hv M 33 5 ≤ (t : Int) ∧ (t : Int) < hv M 33 5 + 12 + hb_nm x1.toInt then (xrec x1.toInt x2.toInt su le (hv M 33 1) (hv M 33 3)).getD (t - (hv M 33 5).toNat) 0 else hv M 36 t) → (∀ o', xop x2.toInt (8 * (hv M 33 1).toNat) (xB M 34) = some o' → su = (xsum o').toInt ∧ le = (o'.length : Int)) → (xop x2.toInt (8 * (hv M 33 1).toNat) (xB M 34) = none → su = 0 ∧ le = 0) → Q (.inl (some (.int r))) (M', z, u)) : mq_R mq_PP (d + 5) 2 0 [some (.ref 8), some (.int x1), some (.int x2), none, none] [] (M, z, u) Q := by
  have hnr := hn_nm x1.toInt
  refine he_iload (n := 1) (i := 1) (by decide +kernel) rfl ?_
  refine he_s1 (n := 4) (j := 22) (mx := 4) (ns := [2135, 2136, 1001, 84]) (by decide +kernel) (by show 0 ≤ 8; omega) (by show 1 ≤ 4; omega) ?_
  rw [mq_e22]
  refine lx_nl ?_
  intro x3 hx3
  show mq_R mq_PP (d + 5) 2 4 _ [.int x3] (M, z, u) Q
  refine he_istore (n := 5) (i := 3) (by decide +kernel) rfl ?_
  refine he_iload (n := 6) (i := 3) (by decide +kernel) rfl ?_
  by_cases g6 : x3.toInt = 0
  · skip
    refine he_ifeq_t (n := 9) (t := 30) (by decide +kernel) (by omega) ?_
    refine he_iconst (n := 31) (c := 0) (by decide +kernel) (by decide) ?_
    intro c30 hc30
    refine he_retz (by decide +kernel) (by omega) ?_
    exact K0 _ (by omega)
  have main : (x2.toInt = 0 ∨ x2.toInt = 8) → mq_R mq_PP (d + 5) 2 19 [some (.ref 8), some (.int x1), some (.int x2), some (.int x3), none] [] (M, z, u) Q := by
    intro hx
    refine he_aload (n := 20) (i := 0) (by decide +kernel) rfl ?_
    refine he_getr (n := 23) (ci := 0) (j := 1) (ns := [2078, 19]) (b := 33) hm (by decide +kernel) rfl rfl (by decide +kernel) ?_
    refine he_iload (n := 24) (i := 3) (by decide +kernel) rfl ?_
    refine he_v1 (n := 27) (j := 75) (ci := 6) (mx := 3) (ns := [2138, 2139, 2140, 88]) (by decide +kernel) ((hb_kd (a := 33) hm rfl).trans rfl) (by show 0 ≤ 8; omega) (by show 2 ≤ 3; omega) ?_
    rw [mq_e75]
    refine xn_room hm (by omega) (by omega) ?_
    intro r24 ra rb
    show mq_R mq_PP (d + 5) 2 27 _ [.int r24] (M, z, u) Q
    by_cases g27 : hv M 33 6 ≤ 5 ∧ hv M 33 3 + hv M 33 5 + hv M 33 1 + x3.toInt + 18 ≤ 240
    rotate_left
    · have := rb g27
      refine he_ifne_f (n := 30) (t := 32) (by decide +kernel) (by omega) ?_
      refine he_iconst (n := 31) (c := 0) (by decide +kernel) (by decide) ?_
      intro cn30 hcn30
      refine he_retz (by decide +kernel) (by omega) ?_
      exact K0 _ (by omega)
    have h24 := ra g27
    obtain ⟨f1, f2⟩ := g27
    refine he_ifne_t (n := 30) (t := 32) (by decide +kernel) (by omega) ?_
    refine he_aload (n := 33) (i := 0) (by decide +kernel) rfl ?_
    refine he_getr (n := 36) (ci := 0) (j := 0) (ns := [2077, 12]) (b := 9) hm (by decide +kernel) rfl rfl (by decide +kernel) ?_
    refine he_iload (n := 37) (i := 2) (by decide +kernel) rfl ?_
    refine he_aload (n := 38) (i := 0) (by decide +kernel) rfl ?_
    refine he_getr (n := 41) (ci := 0) (j := 1) (ns := [2078, 19]) (b := 33) hm (by decide +kernel) rfl rfl (by decide +kernel) ?_
    refine he_getr (n := 44) (ci := 6) (j := 0) (ns := [1113, 92]) (b := 34) hm (by decide +kernel) rfl rfl (by decide +kernel) ?_
    refine he_iconst (n := 45) (c := 0) (by decide +kernel) (by decide) ?_
    intro cn44 hcn44
    refine he_aload (n := 46) (i := 0) (by decide +kernel) rfl ?_
    refine he_getr (n := 49) (ci := 0) (j := 1) (ns := [2078, 19]) (b := 33) hm (by decide +kernel) rfl rfl (by decide +kernel) ?_
    refine hb_gfd (n := 52) (ci := 6) (j := 1) (ns := [1115, 95]) hm (by decide +kernel) rfl rfl (by decide) rfl ?_
    intro vn49 hvn49 lvn49 uvn49
    have q49 : vn49.toInt = hv M 33 1 := hvn49.symm
    refine he_v4 (n := 55) (j := 92) (ci := 8) (mx := 7) (ns := [2142, 2143, 2144, 98]) (by decide +kernel) ((hb_kd (a := 9) hm rfl).trans rfl) (by show 0 ≤ 8; omega) (by show 5 ≤ 7; omega) ?_
    rw [mq_e92]
    refine xj_unpack (pk := 34) (f := 0) (cnt := (hv M 33 1).toNat) (ln := 120) hm rfl (by decide) (by decide) (.inr (by decide)) (by omega) (by omega) (by omega) hMO hTL hTD ?_
    intro M1 r52 hm1 w1 k1 k0
    have eX : (fun i => xB M 34 (8 * 0 + i)) = xB M 34 := by funext i; rw [Nat.mul_zero, Nat.zero_add]
    rw [eX] at k1 k0
    show mq_R mq_PP (d + 5) 2 55 _ [.int r52] (M1, z, u) Q
    have u1 : ∀ b j, b < 9 ∨ 24 ≤ b → hv M1 b j = hv M b j := fun b j hb => by show hb_w mz_GG ((M1 b).2[j]?) = _; rw [w1 b hb]; try rfl
    refine he_istore (n := 57) (i := 4) (by decide +kernel) rfl ?_
    refine he_aload (n := 58) (i := 0) (by decide +kernel) rfl ?_
    refine he_getr (n := 61) (ci := 0) (j := 1) (ns := [2078, 19]) (b := 33) hm1 (by decide +kernel) rfl rfl (by decide +kernel) ?_
    refine he_iload (n := 62) (i := 2) (by decide +kernel) rfl ?_
    refine he_v1 (n := 65) (j := 76) (ci := 6) (mx := 2) (ns := [2206, 2207, 2208, 102]) (by decide +kernel) ((hb_kd (a := 33) hm1 rfl).trans rfl) (by show 0 ≤ 8; omega) (by show 2 ≤ 2; omega) ?_
    rw [mq_e76]
    refine xn_body hm1 (by omega) (by omega) (by rw [u1 _ _ (.inr (by decide))]; exact d0) (by rw [u1 _ _ (.inr (by decide))]; exact d1) (by rw [u1 _ _ (.inr (by decide))]; exact b0) (by rw [u1 _ _ (.inr (by decide)), u1 _ _ (.inr (by decide))]; omega) ?_
    intro M2 hG
    rw [u1 33 1 (.inr (by decide)), show xrow M1 34 (hv M 33 1).toNat = xrow M 34 (hv M 33 1).toNat from List.map_congr_left fun j _ => u1 _ _ (.inr (by decide))] at hG
    obtain ⟨hm2, w2, s2, n2, r2⟩ := hG
    rw [u1 33 3 (.inr (by decide))] at n2 r2
    have n2 : hv M2 33 3 = hv M 33 3 + 2 + hv M 33 1 := by
      rw [n2]
      show _ + (((xrow M 34 (hv M 33 1).toNat).length + 1 + 1 : Nat) : Int) = _
      rw [xrow_l]
      omega
    have s2' : ∀ j, j ≠ 3 → hv M2 33 j = hv M 33 j := fun j hj => (s2 j hj).trans (u1 _ _ (.inr (by decide)))
    show mq_R mq_PP (d + 5) 2 65 _ [] (M2, z, u) Q
    refine he_aload (n := 66) (i := 0) (by decide +kernel) rfl ?_
    refine he_getr (n := 69) (ci := 0) (j := 1) (ns := [2078, 19]) (b := 33) hm2 (by decide +kernel) rfl rfl (by decide +kernel) ?_
    refine he_iload (n := 70) (i := 1) (by decide +kernel) rfl ?_
    refine he_iload (n := 71) (i := 3) (by decide +kernel) rfl ?_
    refine he_iload (n := 72) (i := 2) (by decide +kernel) rfl ?_
    refine he_v3 (n := 75) (j := 77) (ci := 6) (mx := 4) (ns := [2213, 2214, 2215, 106]) (by decide +kernel) ((hb_kd (a := 33) hm2 rfl).trans rfl) (by show 0 ≤ 8; omega) (by show 4 ≤ 4; omega) ?_
    rw [mq_e77]
    refine xn_head (nm := (hb_nm x1.toInt).toNat) hm2 (by rw [s2' _ (by decide)]; exact r0) (by omega) (by omega) (by rw [s2' _ (by decide)]; omega) ?_
    intro M3 hA3
    have n3 : hv M3 33 5 = hv M 33 5 + 2 + hb_nm x1.toInt := by
      rw [hA3.2.2.2.1, s2' _ (by decide)]
      simp only [List.length_append, xnl_l]
      omega
    have s3 : ∀ j, j ≠ 5 → hv M3 33 j = hv M2 33 j := hA3.2.2.1
    have hm3 := hA3.1
    have u3 : ∀ b j, 9 ≤ b → b < 24 → hv M3 b j = hv M1 b j := fun b j h1 h2 => by
      show hb_w mz_GG ((M3 b).2[j]?) = _
      rw [hA3.2.1 b (by omega) (by omega), w2 b (by omega) (by omega)]
      try rfl
    show mq_R mq_PP (d + 5) 2 75 _ [] (M3, z, u) Q
    -- the end
    have fin : ∀ (sv lv : Int32), (∀ o', xop x2.toInt (8 * (hv M 33 1).toNat) (xB M 34) = some o' → sv.toInt = (xsum o').toInt ∧ lv.toInt = (o'.length : Int)) → (xop x2.toInt (8 * (hv M 33 1).toNat) (xB M 34) = none → sv.toInt = 0 ∧ lv.toInt = 0) → mq_R mq_PP (d + 5) 2 111 [some (.ref 8), some (.int x1), some (.int x2), some (.int x3), some (.int r52)] [.int lv, .int sv, .ref 33] (M3, z, u) Q := by
      intro sv lv hk1 hk0
      refine he_v2 (n := 114) (j := 78) (ci := 6) (mx := 3) (ns := [2226, 2227, 2228, 117]) (by decide +kernel) ((hb_kd (a := 33) hm3 rfl).trans rfl) (by show 0 ≤ 8; omega) (by show 3 ≤ 3; omega) ?_
      rw [mq_e78]
      refine xn_end hm3 (by omega) (by omega) (by rw [s3 _ (by decide), s2' _ (by decide)]; exact f1) (by rw [s3 _ (by decide), s2' _ (by decide)]; exact e0) (by rw [s3 _ (by decide), s2' _ (by decide)]; exact d0) (by rw [s3 _ (by decide), s2' _ (by decide)]; exact d1) (by rw [s3 _ (by decide), s3 _ (by decide), s2' _ (by decide), n2]; omega) (by rw [s3 _ (by decide), n2]; omega) ?_
      intro M4 M5 dr pl hdr hpl hA4 hm5 w5 t1 t3 t5 t6
      rw [s3 _ (by decide), s2' _ (by decide)] at hdr
      rw [s3 3 (by decide), s3 1 (by decide), s2' 1 (by decide), n2] at hpl
      have hpl : pl.toInt = hv M 33 3 := by omega
      have hA := xRA_t (by rw [s2' _ (by decide)]; exact r0) hA3 hA4
      have eL : xnl x3 1 ++ xnl x1 (hb_nm x1.toInt).toNat ++ xnl x2 1 ++ (xnl sv 4 ++ xnl lv 2 ++ xnl dr 2 ++ xnl pl 2) = xrec x1.toInt x2.toInt sv.toInt lv.toInt (hv M 33 1) (hv M 33 3) := by
        unfold xrec
        rw [xnl_z (by decide), xnl_z (by omega), xnl_z (by decide), xnl_z (by decide), xnl_z (by decide), xnl_z (by decide), xnl_z (by decide), hx3, hdr, hpl]
      rw [eL] at hA
      have xl := xrec_l (nm := x1.toInt) (me := x2.toInt) (su := sv.toInt) (le := lv.toInt) (dr := hv M 33 1) (bo := hv M 33 3)
      show mq_R mq_PP (d + 5) 2 114 _ [] (M5, z, u) Q
      refine he_iconst (n := 115) (c := 1) (by decide +kernel) (by decide) ?_
      intro cr114 hcr114
      refine he_retz (by decide +kernel) (by omega) ?_
      refine K M5 _ sv.toInt lv.toInt ⟨by omega, hx, f1, by omega⟩ (by omega) hm5 (fun b n0 n1 n2 n3 => by rw [w5 b n1, hA.2.1 b n1 n3, w2 b n1 n2, w1 b n0]) t1 (by rw [t3, s3 _ (by decide), n2]) (by rw [t5, n3]; omega) (by rw [t6, s3 _ (by decide), s2' _ (by decide)]) (fun t => ?_) (fun t => ?_) hk1 hk0
      · have e : hv M5 35 t = hv M2 35 t := by
          show hb_w mz_GG ((M5 35).2[t]?) = _
          rw [w5 35 (by decide), hA.2.1 35 (by decide) (by decide)]
          try rfl
        rw [e, r2 t, u1 35 t (.inr (by decide))]
        show (if hv M 33 3 ≤ (t : Int) ∧ (t : Int) < hv M 33 3 + (((xrow M 34 (hv M 33 1).toNat).length + 1 + 1 : Nat) : Int) then _ else _) = _
        rw [xrow_l]
        by_cases c : hv M 33 3 ≤ (t : Int) ∧ (t : Int) < hv M 33 3 + 2 + hv M 33 1
        · rw [if_pos c, if_pos (by omega)]
        · rw [if_neg c, if_neg (by omega)]
      · have e : hv M5 36 t = hv M4 36 t := by
          show hb_w mz_GG ((M5 36).2[t]?) = _
          rw [w5 36 (by decide)]
          try rfl
        have e2 : hv M2 36 t = hv M 36 t := by
          show hb_w mz_GG ((M2 36).2[t]?) = _
          rw [w2 36 (by decide) (by decide), w1 36 (.inr (by decide))]
          try rfl
        rw [e, hA.2.2.2.2 t, s2' 5 (by decide), e2]
        by_cases c : hv M 33 5 ≤ (t : Int) ∧ (t : Int) < hv M 33 5 + 12 + hb_nm x1.toInt
        · rw [if_pos c, if_pos (by omega)]
        · rw [if_neg c, if_neg (by omega)]
    cases hxo : xop x2.toInt (8 * (hv M 33 1).toNat) (xB M 34) with
    | some o' =>
      obtain ⟨g1, g2, g3⟩ := k1 o' hxo
      have ho : o'.length ≤ 200 := by
        have h := lx_rg91 hm1
        omega
      refine he_aload (n := 76) (i := 0) (by decide +kernel) rfl ?_
      refine he_getr (n := 79) (ci := 0) (j := 1) (ns := [2078, 19]) (b := 33) hm3 (by decide +kernel) rfl rfl (by decide +kernel) ?_
      refine he_iload (n := 81) (i := 4) (by decide +kernel) rfl ?_
      refine he_ifeq_f (n := 84) (t := 94) (by decide +kernel) (by omega) ?_
      refine he_aload (n := 85) (i := 0) (by decide +kernel) rfl ?_
      refine he_getr (n := 88) (ci := 0) (j := 0) (ns := [2077, 12]) (b := 9) hm3 (by decide +kernel) rfl rfl (by decide +kernel) ?_
      refine he_v0 (n := 91) (j := 93) (ci := 8) (mx := 4) (ns := [2221, 2222, 2223, 110]) (by decide +kernel) ((hb_kd (a := 9) hm3 rfl).trans rfl) (by show 1 ≤ 8; omega) (by show 1 ≤ 4; omega) ?_
      rw [mq_e93]
      refine xj_sum (o := o') hm3 (by rw [u3 _ _ (by decide) (by decide)]; exact g2) (fun i hi => by rw [u3 _ _ (by decide) (by decide)]; exact g3 i hi) ho ?_
      show mq_R mq_PP (d + 5) 2 91 _ [.int (xsum o'), .ref 33] (M3, z, u) Q
      generalize hsu : xsum o' = sv
      refine he_goto (t := 95) (by decide +kernel) ?_
      refine he_iload (n := 97) (i := 4) (by decide +kernel) rfl ?_
      refine he_ifeq_f (n := 100) (t := 110) (by decide +kernel) (by omega) ?_
      refine he_aload (n := 101) (i := 0) (by decide +kernel) rfl ?_
      refine he_getr (n := 104) (ci := 0) (j := 0) (ns := [2077, 12]) (b := 9) hm3 (by decide +kernel) rfl rfl (by decide +kernel) ?_
      refine hb_gfd (n := 107) (ci := 8) (j := 1) (ns := [1070, 114]) hm3 (by decide +kernel) rfl rfl (by decide) rfl ?_
      intro vt104 hvt104 lvt104 uvt104
      have q104 : vt104.toInt = (o'.length : Int) := by rw [← hvt104, u3 _ _ (by decide) (by decide)]; exact g2
      refine he_goto (t := 111) (by decide +kernel) ?_
      exact fin sv vt104 (fun o'' e => by rw [hxo] at e; cases e; exact ⟨by rw [hsu], q104⟩) (fun e => by rw [hxo] at e; cases e)
    | none =>
      have g0 := k0 hxo
      refine he_aload (n := 76) (i := 0) (by decide +kernel) rfl ?_
      refine he_getr (n := 79) (ci := 0) (j := 1) (ns := [2078, 19]) (b := 33) hm3 (by decide +kernel) rfl rfl (by decide +kernel) ?_
      refine he_iload (n := 81) (i := 4) (by decide +kernel) rfl ?_
      refine he_ifeq_t (n := 84) (t := 94) (by decide +kernel) (by omega) ?_
      refine he_iconst (n := 95) (c := 0) (by decide +kernel) (by decide) ?_
      intro cs94 hcs94
      refine he_iload (n := 97) (i := 4) (by decide +kernel) rfl ?_
      refine he_ifeq_t (n := 100) (t := 110) (by decide +kernel) (by omega) ?_
      refine he_iconst (n := 111) (c := 0) (by decide +kernel) (by decide) ?_
      intro cs110 hcs110
      exact fin _ _ (fun o'' e => by rw [hxo] at e; cases e) (fun _ => ⟨by omega, by omega⟩)
  refine he_ifeq_f (n := 9) (t := 30) (by decide +kernel) (by omega) ?_
  refine he_iload (n := 10) (i := 2) (by decide +kernel) rfl ?_
  by_cases g10 : x2.toInt = 0
  · skip
    refine he_ifeq_t (n := 13) (t := 19) (by decide +kernel) (by omega) ?_
    exact main (.inl g10)
  refine he_ifeq_f (n := 13) (t := 19) (by decide +kernel) (by omega) ?_
  refine he_iload (n := 14) (i := 2) (by decide +kernel) rfl ?_
  refine he_iconst (n := 16) (c := 8) (by decide +kernel) (by decide) ?_
  intro c14 hc14
  by_cases g16 : x2.toInt = 8
  · skip
    refine he_cmpne_f (n := 19) (t := 30) (by decide +kernel) (by omega) ?_
    exact main (.inr g16)
  · skip
    refine he_cmpne_t (n := 19) (t := 30) (by decide +kernel) (by omega) ?_
    refine he_iconst (n := 31) (c := 0) (by decide +kernel) (by decide) ?_
    intro c30 hc30
    refine he_retz (by decide +kernel) (by omega) ?_
    exact K0 _ (by omega)
