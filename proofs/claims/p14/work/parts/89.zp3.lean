/-! The model's detail, exactly. -/
/-- the model's manifest of archive s holds st -/
def yMV (s : Nat) (M0 M : Nat → mq_C) (st : xMs) : Prop := mz_sh mz_GG M ∧ (∀ b, b < 245 ∨ 248 < b → M b = M0 b) ∧ (∀ b j, b = 245 ∨ b = 248 → j ≠ s → hv M b j = hv M0 b j) ∧ (∀ j, j < 4 * s ∨ 4 * s + 4 ≤ j → hv M 246 j = hv M0 246 j) ∧ hv M 248 s = st.2.2.1 ∧ hv M 245 s = (st.2.2.2.length : Int) ∧ (∀ i, i < st.2.2.2.length → hv M 246 (4 * s + i) = st.2.2.2.getD i 0) ∧ hxd (hv M 245 s) (fun i => hv M 246 (4 * s + i))
theorem yp_det_l {d z u s : Nat} {M0 M : Nat → mq_C} {st : xMs} {Q : (Option Value ⊕ Nat) → mq_S → Prop} {x1 x2 x3 : Int32} (h1 : x1.toInt = (s : Int)) (hs : s < 4) (h2 : x2.toInt = st.1) (r0 : 32 ≤ x3.toInt) (r1 : x3.toInt ≤ 126) (hV : yMV s M0 M st) (K1 : ∀ (M' : Nat → mq_C) (r : Int32) (st' : xMs), xmb st x3.toInt = some st' → r.toInt = 1 → yMV s M0 M' st' → Q (.inl (some (.int r))) (M', z, u)) (K0 : ∀ (M' : Nat → mq_C) (r : Int32), xmb st x3.toInt = none → r.toInt = 0 → yMV s M0 M' st ∨ True → mz_sh mz_GG M' → (∀ b, b < 245 ∨ 248 < b → M' b = M0 b) → (∀ b j, b = 245 ∨ b = 248 → j ≠ s → hv M' b j = hv M0 b j) → (∀ j, j < 4 * s ∨ 4 * s + 4 ≤ j → hv M' 246 j = hv M0 246 j) → Q (.inl (some (.int r))) (M', z, u)) (hP : st.1 = 80) : ∀ (m j : Nat) (g k : Int32), j + m = st.2.2.2.length → k.toInt = (j : Int) → ((48 ≤ x3.toInt ∧ x3.toInt < 52 ∧ ∀ t, t < j → ¬ st.2.2.2.getD t 0 = x3.toInt - 48) → g.toInt = 1) → (¬ (48 ≤ x3.toInt ∧ x3.toInt < 52 ∧ ∀ t, t < j → ¬ st.2.2.2.getD t 0 = x3.toInt - 48) → g.toInt = 0) → mq_R mq_PP d 136 28 [some (.ref 234), some (.int x1), some (.int x2), some (.int x3), some (.int g), some (.int k)] [] (M, z, u) Q := by
  intro m
  obtain ⟨y1, y2, y3, y4, y5, y6, y7, y8⟩ := id hV
  have hss : x1.toInt.toNat = s := by omega
  have l4 : 0 ≤ hv M 245 s ∧ hv M 245 s ≤ 4 := xx_rng (c := _) y1 (a := 245) (i := s) (lo := 0) (hi := 4) rfl (show s < 4 from hs) hb_at1
  have dx : xmb st x3.toInt = (if 48 ≤ x3.toInt ∧ x3.toInt < 52 then some (st.1, st.2.1, st.2.2.1, xmadd st.2.2.2 (x3.toInt - 48)) else none) := by unfold xmb; rw [if_pos hP]
  induction m with
  | zero =>
    intro j g k e1 e2 e3 e4
    have hel : (48 ≤ x3.toInt ∧ x3.toInt < 52 ∧ ∀ t, t < j → ¬ st.2.2.2.getD t 0 = x3.toInt - 48) ↔ (48 ≤ x3.toInt ∧ x3.toInt < 52) ∧ ¬ st.2.2.2.elem (x3.toInt - 48) = true := by
      constructor
      · rintro ⟨p1, p2, p3⟩
        refine ⟨⟨p1, p2⟩, fun h => ?_⟩
        obtain ⟨t, ht, et⟩ := List.getElem_of_mem (List.elem_iff.mp h)
        refine p3 t (by omega) ?_
        rw [List.getD_eq_getElem?_getD, List.getElem?_eq_getElem ht]
        exact et
      · rintro ⟨⟨p1, p2⟩, p3⟩
        refine ⟨p1, p2, fun t ht h => p3 (List.elem_iff.mpr ?_)⟩
        rw [← h, List.getD_eq_getElem?_getD, List.getElem?_eq_getElem (show t < st.2.2.2.length by omega)]
        exact List.getElem_mem _
    refine he_iload (n := 30) (i := 5) (by decide +kernel) rfl ?_
    refine he_aload (n := 31) (i := 0) (by decide +kernel) rfl ?_
    refine he_getr (n := 34) (ci := 9) (j := 11) (ns := [4188, 41]) (b := 245) y1 (by decide +kernel) rfl rfl (by decide +kernel) ?_
    refine he_iload (n := 35) (i := 1) (by decide +kernel) rfl ?_
    refine hb_ld (n := 36) (kind := 64) y1 (by decide +kernel) rfl rfl (.inl rfl) (by omega) (show _ < (4 : Int) by omega) hb_at1 ?_
    intro v35 hv35 lv35 uv35
    rw [hss, y6] at hv35
    refine he_cmpge_t (n := 39) (t := 75) (by decide +kernel) (by omega) ?_
    refine he_iload (n := 77) (i := 4) (by decide +kernel) rfl ?_
    by_cases c : (48 ≤ x3.toInt ∧ x3.toInt < 52 ∧ ∀ t, t < j → ¬ st.2.2.2.getD t 0 = x3.toInt - 48)
    · have hg := e3 c
      obtain ⟨⟨p1, p2⟩, hne⟩ := hel.mp c
      rw [if_pos ⟨p1, p2⟩] at dx
      have hroom : hv M 245 s < 4 := hp_room l4.2 (fun t ht => xx_rng (c := _) y1 (a := 246) (i := 4 * s + t) (lo := 0) (hi := 3) rfl (show 4 * s + t < 16 by omega) hb_at1) (x := x3.toInt - 48) ⟨by omega, by omega⟩ y8 (fun t ht => by show ¬ hv M 246 (4 * s + t) = _; rw [y7 t (by omega)]; exact c.2.2 t (by omega))
      refine he_ifeq_f (n := 80) (t := 109) (by decide +kernel) (by omega) ?_
      refine he_aload (n := 81) (i := 0) (by decide +kernel) rfl ?_
      refine he_getr (n := 84) (ci := 9) (j := 12) (ns := [4189, 44]) (b := 246) y1 (by decide +kernel) rfl rfl (by decide +kernel) ?_
      refine he_iconst (n := 85) (c := 4) (by decide +kernel) (by decide) ?_
      intro c84 hc84
      refine he_iload (n := 86) (i := 1) (by decide +kernel) rfl ?_
      refine he_imul (n := 87) (p := 4 * x1.toInt) (by decide +kernel) (by rw [hc84]) (by omega) (by omega) ?_
      intro v86 hv86
      refine he_aload (n := 88) (i := 0) (by decide +kernel) rfl ?_
      refine he_getr (n := 91) (ci := 9) (j := 11) (ns := [4188, 41]) (b := 245) y1 (by decide +kernel) rfl rfl (by decide +kernel) ?_
      refine he_iload (n := 92) (i := 1) (by decide +kernel) rfl ?_
      refine hb_ld (n := 93) (kind := 64) y1 (by decide +kernel) rfl rfl (.inl rfl) (by omega) (show _ < (4 : Int) by omega) hb_at1 ?_
      intro v92 hv92 lv92 uv92
      rw [hss, y6] at hv92
      refine he_iadd (n := 94) (by decide +kernel) (by omega) (by omega) ?_
      intro v93 hv93
      refine he_iload (n := 95) (i := 3) (by decide +kernel) rfl ?_
      refine he_iconst (n := 97) (c := 48) (by decide +kernel) (by decide) ?_
      intro c95 hc95
      refine he_isub (n := 98) (by decide +kernel) (by omega) (by omega) ?_
      intro v97 hv97
      refine hb_sta (n := 99) (kind := 64) y1 (by decide +kernel) rfl rfl (.inl rfl) (by omega) (show _ < (16 : Int) by omega) ?_
      generalize hM1 : hb_set M 246 (v93.toInt.toNat) v97 = M1
      have hm1 : mz_sh mz_GG M1 := by rw [← hM1]; exact hb_set_sh y1 rfl hb_at1 (by omega) (by omega)
      have eM1 : ∀ b j, b ≠ 246 ∨ j ≠ v93.toInt.toNat → hv M1 b j = hv M b j := by intro b j h; rw [← hM1]; exact hb_set_n h
      have sM1 : hv M1 246 (v93.toInt.toNat) = v97.toInt := by rw [← hM1]; exact hb_set_v y1 rfl (show _ < 16 by omega)
      have wM1 : ∀ b, b ≠ 246 → M1 b = M b := by intro b h; rw [← hM1]; exact hb_set_c h
      refine he_aload (n := 100) (i := 0) (by decide +kernel) rfl ?_
      refine he_getr (n := 103) (ci := 9) (j := 11) (ns := [4188, 41]) (b := 245) hm1 (by decide +kernel) rfl rfl (by decide +kernel) ?_
      refine he_iload (n := 104) (i := 1) (by decide +kernel) rfl ?_
      refine he_dup2 (n := 105) (by decide +kernel) ?_
      refine hb_ld (n := 106) (kind := 64) hm1 (by decide +kernel) rfl rfl (.inl rfl) (by omega) (show _ < (4 : Int) by omega) hb_at1 ?_
      intro v105 hv105 lv105 uv105
      have q105 : v105.toInt = (st.2.2.2.length : Int) := by rw [← hv105, hss, eM1 _ _ (.inl (by decide))]; exact y6
      refine he_iconst (n := 107) (c := 1) (by decide +kernel) (by decide) ?_
      intro c106 hc106
      refine he_iadd (n := 108) (by decide +kernel) (by omega) (by omega) ?_
      intro v107 hv107
      refine hb_sta (n := 109) (kind := 64) hm1 (by decide +kernel) rfl rfl (.inl rfl) (by omega) (show _ < (4 : Int) by omega) ?_
      generalize hM2 : hb_set M1 245 (x1.toInt.toNat) v107 = M2
      have hm2 : mz_sh mz_GG M2 := by rw [← hM2]; exact hb_set_sh hm1 rfl hb_at1 (by omega) (by omega)
      have eM2 : ∀ b j, b ≠ 245 ∨ j ≠ x1.toInt.toNat → hv M2 b j = hv M1 b j := by intro b j h; rw [← hM2]; exact hb_set_n h
      have sM2 : hv M2 245 (x1.toInt.toNat) = v107.toInt := by rw [← hM2]; exact hb_set_v hm1 rfl (show _ < 4 by omega)
      have wM2 : ∀ b, b ≠ 245 → M2 b = M1 b := by intro b h; rw [← hM2]; exact hb_set_c h
      refine he_iload (n := 110) (i := 3) (by decide +kernel) rfl ?_
      refine he_iconst (n := 112) (c := 47) (by decide +kernel) (by decide) ?_
      intro c110 hc110
      refine he_cmple_f (n := 115) (t := 125) (by decide +kernel) (by omega) ?_
      refine he_iload (n := 116) (i := 3) (by decide +kernel) rfl ?_
      refine he_iconst (n := 118) (c := 52) (by decide +kernel) (by decide) ?_
      intro c116 hc116
      refine he_cmpge_f (n := 121) (t := 125) (by decide +kernel) (by omega) ?_
      refine he_iconst (n := 122) (c := 1) (by decide +kernel) (by decide) ?_
      intro c121 hc121
      refine he_goto (t := 126) (by decide +kernel) ?_
      refine he_retz (by decide +kernel) (by omega) ?_
      have i93 : v93.toInt.toNat = 4 * s + st.2.2.2.length := by omega
      refine K1 M2 _ _ dx (by omega) ⟨hm2, fun b hb => by rw [wM2 b (by omega), wM1 b (by omega)]; exact y2 b hb, fun b j hb hj => ?_, fun j hj => ?_, ?_, ?_, ?_, ?_⟩
      · rw [eM2 _ _ (.inr (by omega)), eM1 _ _ (.inl (by omega))]
        exact y3 b j hb hj
      · rw [eM2 _ _ (.inl (by decide)), eM1 _ _ (.inr (by omega))]
        exact y4 j hj
      · rw [eM2 _ _ (.inl (by decide)), eM1 _ _ (.inl (by decide))]
        exact y5
      · show hv M2 245 s = ((xmadd st.2.2.2 (x3.toInt - 48)).length : Int)
        unfold xmadd
        rw [if_neg hne, List.length_append, show s = x1.toInt.toNat by omega, sM2]
        show _ = ((_ + 1 : Nat) : Int)
        omega
      · show ∀ i, i < (xmadd st.2.2.2 (x3.toInt - 48)).length → hv M2 246 (4 * s + i) = (xmadd st.2.2.2 (x3.toInt - 48)).getD i 0
        unfold xmadd
        rw [if_neg hne]
        intro i hi
        rw [List.length_append] at hi
        have hi : i < st.2.2.2.length + 1 := hi
        rw [eM2 _ _ (.inl (by decide))]
        by_cases e : i = st.2.2.2.length
        · rw [e, xx_gr (Nat.le_refl _), Nat.sub_self, ← i93, sM1]
          show _ = x3.toInt - 48
          omega
        · rw [xx_gl (by omega), eM1 _ _ (.inr (by omega))]
          exact y7 i (by omega)
      · have e2' : hv M2 245 s = hv M 245 s + 1 := by
          rw [show s = x1.toInt.toNat by omega, sM2, hss]
          omega
        rw [e2']
        refine hp_add (by omega) y8 (x := x3.toInt - 48) (fun t ht => ?_) ?_ (fun t ht => ?_)
        · show ¬ hv M 246 (4 * s + t) = _
          rw [y7 t (by omega)]
          exact c.2.2 t (by omega)
        · show hv M2 246 (4 * s + (hv M 245 s).toNat) = _
          rw [eM2 _ _ (.inl (by decide)), show 4 * s + (hv M 245 s).toNat = v93.toInt.toNat by omega, sM1]
          omega
        · show hv M2 246 (4 * s + t) = hv M 246 (4 * s + t)
          rw [eM2 _ _ (.inl (by decide)), eM1 _ _ (.inr (by omega))]
    · have hg := e4 c
      by_cases pr : 48 ≤ x3.toInt ∧ x3.toInt < 52
      · rw [if_pos pr] at dx
        have hin : st.2.2.2.elem (x3.toInt - 48) = true := Classical.byContradiction fun h => c (hel.mpr ⟨pr, h⟩)
        have ee : xmadd st.2.2.2 (x3.toInt - 48) = st.2.2.2 := if_pos hin
        rw [ee] at dx
        refine he_ifeq_t (n := 80) (t := 109) (by decide +kernel) (by omega) ?_
        refine he_iload (n := 110) (i := 3) (by decide +kernel) rfl ?_
        refine he_iconst (n := 112) (c := 47) (by decide +kernel) (by decide) ?_
        intro c110 hc110
        refine he_cmple_f (n := 115) (t := 125) (by decide +kernel) (by omega) ?_
        refine he_iload (n := 116) (i := 3) (by decide +kernel) rfl ?_
        refine he_iconst (n := 118) (c := 52) (by decide +kernel) (by decide) ?_
        intro c116 hc116
        refine he_cmpge_f (n := 121) (t := 125) (by decide +kernel) (by omega) ?_
        refine he_iconst (n := 122) (c := 1) (by decide +kernel) (by decide) ?_
        intro c121 hc121
        refine he_goto (t := 126) (by decide +kernel) ?_
        refine he_retz (by decide +kernel) (by omega) ?_
        exact K1 M _ _ dx (by omega) hV
      · rw [if_neg pr] at dx
        by_cases lo : x3.toInt ≤ 47
        · skip
          refine he_ifeq_t (n := 80) (t := 109) (by decide +kernel) (by omega) ?_
          refine he_iload (n := 110) (i := 3) (by decide +kernel) rfl ?_
          refine he_iconst (n := 112) (c := 47) (by decide +kernel) (by decide) ?_
          intro c110 hc110
          refine he_cmple_t (n := 115) (t := 125) (by decide +kernel) (by omega) ?_
          refine he_iconst (n := 126) (c := 0) (by decide +kernel) (by decide) ?_
          intro c125 hc125
          refine he_retz (by decide +kernel) (by omega) ?_
          exact K0 M _ dx (by omega) (.inr trivial) y1 y2 y3 y4
        · skip
          refine he_ifeq_t (n := 80) (t := 109) (by decide +kernel) (by omega) ?_
          refine he_iload (n := 110) (i := 3) (by decide +kernel) rfl ?_
          refine he_iconst (n := 112) (c := 47) (by decide +kernel) (by decide) ?_
          intro c110 hc110
          refine he_cmple_f (n := 115) (t := 125) (by decide +kernel) (by omega) ?_
          refine he_iload (n := 116) (i := 3) (by decide +kernel) rfl ?_
          refine he_iconst (n := 118) (c := 52) (by decide +kernel) (by decide) ?_
          intro c116 hc116
          refine he_cmpge_t (n := 121) (t := 125) (by decide +kernel) (by omega) ?_
          refine he_iconst (n := 126) (c := 0) (by decide +kernel) (by decide) ?_
          intro c125 hc125
          refine he_retz (by decide +kernel) (by omega) ?_
          exact K0 M _ dx (by omega) (.inr trivial) y1 y2 y3 y4
  | succ m ih =>
    intro j g k e1 e2 e3 e4
    refine he_iload (n := 30) (i := 5) (by decide +kernel) rfl ?_
    refine he_aload (n := 31) (i := 0) (by decide +kernel) rfl ?_
    refine he_getr (n := 34) (ci := 9) (j := 11) (ns := [4188, 41]) (b := 245) y1 (by decide +kernel) rfl rfl (by decide +kernel) ?_
    refine he_iload (n := 35) (i := 1) (by decide +kernel) rfl ?_
    refine hb_ld (n := 36) (kind := 64) y1 (by decide +kernel) rfl rfl (.inl rfl) (by omega) (show _ < (4 : Int) by omega) hb_at1 ?_
    intro v35 hv35 lv35 uv35
    rw [hss, y6] at hv35
    refine he_cmpge_f (n := 39) (t := 75) (by decide +kernel) (by omega) ?_
    refine he_iload (n := 41) (i := 4) (by decide +kernel) rfl ?_
    have sp : ∀ t, t < j + 1 → t < j ∨ t = j := fun t ht => by omega
    have nx : ∀ g' : Int32, ((g.toInt = 1 ∧ ¬ st.2.2.2.getD j 0 = x3.toInt - 48) → g'.toInt = 1) → (¬ (g.toInt = 1 ∧ ¬ st.2.2.2.getD j 0 = x3.toInt - 48) → g'.toInt = 0) → ((48 ≤ x3.toInt ∧ x3.toInt < 52 ∧ ∀ t, t < j + 1 → ¬ st.2.2.2.getD t 0 = x3.toInt - 48) → g'.toInt = 1) ∧ (¬ (48 ≤ x3.toInt ∧ x3.toInt < 52 ∧ ∀ t, t < j + 1 → ¬ st.2.2.2.getD t 0 = x3.toInt - 48) → g'.toInt = 0) := by
      intro g' a1 a0
      refine ⟨fun h => a1 ⟨e3 ⟨h.1, h.2.1, fun t ht => h.2.2 t (by omega)⟩, h.2.2 j (by omega)⟩, fun h => a0 (fun h2 => h ?_)⟩
      have hG := Classical.byContradiction fun hn => by have := e4 hn; omega
      exact ⟨hG.1, hG.2.1, fun t ht => (sp t ht).elim (fun q => hG.2.2 t q) (fun q => by rw [q]; exact h2.2)⟩
    by_cases g41 : g.toInt = 0
    · skip
      refine he_ifeq_t (n := 44) (t := 66) (by decide +kernel) (by omega) ?_
      refine he_iconst (n := 67) (c := 0) (by decide +kernel) (by decide) ?_
      intro c66 hc66
      refine he_istore (n := 69) (i := 4) (by decide +kernel) rfl ?_
      refine he_iinc (n := 72) (i := 5) (c := 1) (L' := fun v => [some (.ref (234)), some (.int x1), some (.int x2), some (.int x3), some (.int c66), some (.int v)]) (by decide +kernel) (by decide) rfl (fun _ => rfl) (by omega) (by omega) ?_
      intro i69 hi69
      refine he_goto (t := 28) (by decide +kernel) ?_
      obtain ⟨f3, f4⟩ := nx c66 (fun h => by have h8 := h.1; omega) (fun _ => by omega)
      exact ih (j + 1) _ _ (by omega) (by omega) f3 f4
    · have hg1 : g.toInt = 1 := Classical.byContradiction fun hh => by
        by_cases cc : (48 ≤ x3.toInt ∧ x3.toInt < 52 ∧ ∀ t, t < j → ¬ st.2.2.2.getD t 0 = x3.toInt - 48)
        · exact hh (e3 cc)
        · exact g41 (e4 cc)
      refine he_ifeq_f (n := 44) (t := 66) (by decide +kernel) (by omega) ?_
      refine he_aload (n := 45) (i := 0) (by decide +kernel) rfl ?_
      refine he_getr (n := 48) (ci := 9) (j := 12) (ns := [4189, 44]) (b := 246) y1 (by decide +kernel) rfl rfl (by decide +kernel) ?_
      refine he_iconst (n := 49) (c := 4) (by decide +kernel) (by decide) ?_
      intro c48 hc48
      refine he_iload (n := 50) (i := 1) (by decide +kernel) rfl ?_
      refine he_imul (n := 51) (p := 4 * x1.toInt) (by decide +kernel) (by rw [hc48]) (by omega) (by omega) ?_
      intro v50 hv50
      refine he_iload (n := 53) (i := 5) (by decide +kernel) rfl ?_
      refine he_iadd (n := 54) (by decide +kernel) (by omega) (by omega) ?_
      intro v53 hv53
      refine hb_ld (n := 55) (kind := 64) y1 (by decide +kernel) rfl rfl (.inl rfl) (by omega) (show _ < (16 : Int) by omega) hb_at1 ?_
      intro v54 hv54 lv54 uv54
      refine he_iload (n := 56) (i := 3) (by decide +kernel) rfl ?_
      refine he_iconst (n := 58) (c := 48) (by decide +kernel) (by decide) ?_
      intro c56 hc56
      refine he_isub (n := 59) (by decide +kernel) (by omega) (by omega) ?_
      intro v58 hv58
      have q54 : st.2.2.2.getD j 0 = v54.toInt := by rw [← y7 j (by omega), ← hv54, show v53.toInt.toNat = 4 * s + j by omega]
      by_cases g59 : v54.toInt = v58.toInt
      · skip
        refine he_cmpeq_t (n := 62) (t := 66) (by decide +kernel) (by omega) ?_
        refine he_iconst (n := 67) (c := 0) (by decide +kernel) (by decide) ?_
        intro c66 hc66
        refine he_istore (n := 69) (i := 4) (by decide +kernel) rfl ?_
        refine he_iinc (n := 72) (i := 5) (c := 1) (L' := fun v => [some (.ref (234)), some (.int x1), some (.int x2), some (.int x3), some (.int c66), some (.int v)]) (by decide +kernel) (by decide) rfl (fun _ => rfl) (by omega) (by omega) ?_
        intro i69 hi69
        refine he_goto (t := 28) (by decide +kernel) ?_
        obtain ⟨f3, f4⟩ := nx c66 (fun h => by have h8 := h.2; omega) (fun _ => by omega)
        exact ih (j + 1) _ _ (by omega) (by omega) f3 f4
      · skip
        refine he_cmpeq_f (n := 62) (t := 66) (by decide +kernel) (by omega) ?_
        refine he_iconst (n := 63) (c := 1) (by decide +kernel) (by decide) ?_
        intro c62 hc62
        refine he_goto (t := 67) (by decide +kernel) ?_
        refine he_istore (n := 69) (i := 4) (by decide +kernel) rfl ?_
        refine he_iinc (n := 72) (i := 5) (c := 1) (L' := fun v => [some (.ref (234)), some (.int x1), some (.int x2), some (.int x3), some (.int c62), some (.int v)]) (by decide +kernel) (by decide) rfl (fun _ => rfl) (by omega) (by omega) ?_
        intro i69 hi69
        refine he_goto (t := 28) (by decide +kernel) ?_
        obtain ⟨f3, f4⟩ := nx c62 (fun _ => by omega) (fun h => absurd ⟨by omega, by omega⟩ h)
        exact ih (j + 1) _ _ (by omega) (by omega) f3 f4
theorem yp_det {d z u s : Nat} {M0 M : Nat → mq_C} {st : xMs} {Q : (Option Value ⊕ Nat) → mq_S → Prop} {x1 x2 x3 : Int32} (h1 : x1.toInt = (s : Int)) (hs : s < 4) (h2 : x2.toInt = st.1) (r0 : 32 ≤ x3.toInt) (r1 : x3.toInt ≤ 126) (hV : yMV s M0 M st) (K1 : ∀ (M' : Nat → mq_C) (r : Int32) (st' : xMs), xmb st x3.toInt = some st' → r.toInt = 1 → yMV s M0 M' st' → Q (.inl (some (.int r))) (M', z, u)) (K0 : ∀ (M' : Nat → mq_C) (r : Int32), xmb st x3.toInt = none → r.toInt = 0 → yMV s M0 M' st ∨ True → mz_sh mz_GG M' → (∀ b, b < 245 ∨ 248 < b → M' b = M0 b) → (∀ b j, b = 245 ∨ b = 248 → j ≠ s → hv M' b j = hv M0 b j) → (∀ j, j < 4 * s ∨ 4 * s + 4 ≤ j → hv M' 246 j = hv M0 246 j) → Q (.inl (some (.int r))) (M', z, u)) : mq_R mq_PP d 136 0 [some (.ref 234), some (.int x1), some (.int x2), some (.int x3), none, none] [] (M, z, u) Q := by
  obtain ⟨y1, y2, y3, y4, y5, y6, y7, y8⟩ := id hV
  have hss : x1.toInt.toNat = s := by omega
  refine he_iload (n := 1) (i := 2) (by decide +kernel) rfl ?_
  refine he_iconst (n := 3) (c := 80) (by decide +kernel) (by decide) ?_
  intro c1 hc1
  by_cases hP : st.1 = 80
  · skip
    refine he_cmpne_f (n := 6) (t := 127) (by decide +kernel) (by omega) ?_
    refine he_iload (n := 7) (i := 3) (by decide +kernel) rfl ?_
    refine he_iconst (n := 9) (c := 47) (by decide +kernel) (by decide) ?_
    intro c7 hc7
    by_cases lo : x3.toInt ≤ 47
    · skip
      refine he_cmple_t (n := 12) (t := 22) (by decide +kernel) (by omega) ?_
      refine he_iconst (n := 23) (c := 0) (by decide +kernel) (by decide) ?_
      intro c22 hc22
      refine he_istore (n := 25) (i := 4) (by decide +kernel) rfl ?_
      refine he_iconst (n := 26) (c := 0) (by decide +kernel) (by decide) ?_
      intro c25 hc25
      refine he_istore (n := 28) (i := 5) (by decide +kernel) rfl ?_
      exact yp_det_l h1 hs h2 r0 r1 hV K1 K0 hP st.2.2.2.length 0 _ _ (by omega) (by omega) (fun h => by have := h.1; omega) (fun _ => by omega)
    · skip
      refine he_cmple_f (n := 12) (t := 22) (by decide +kernel) (by omega) ?_
      refine he_iload (n := 13) (i := 3) (by decide +kernel) rfl ?_
      refine he_iconst (n := 15) (c := 52) (by decide +kernel) (by decide) ?_
      intro c13 hc13
      by_cases hi : 52 ≤ x3.toInt
      · skip
        refine he_cmpge_t (n := 18) (t := 22) (by decide +kernel) (by omega) ?_
        refine he_iconst (n := 23) (c := 0) (by decide +kernel) (by decide) ?_
        intro c22 hc22
        refine he_istore (n := 25) (i := 4) (by decide +kernel) rfl ?_
        refine he_iconst (n := 26) (c := 0) (by decide +kernel) (by decide) ?_
        intro c25 hc25
        refine he_istore (n := 28) (i := 5) (by decide +kernel) rfl ?_
        exact yp_det_l h1 hs h2 r0 r1 hV K1 K0 hP st.2.2.2.length 0 _ _ (by omega) (by omega) (fun h => by have := h.2.1; omega) (fun _ => by omega)
      · skip
        refine he_cmpge_f (n := 18) (t := 22) (by decide +kernel) (by omega) ?_
        refine he_iconst (n := 19) (c := 1) (by decide +kernel) (by decide) ?_
        intro c18 hc18
        refine he_goto (t := 23) (by decide +kernel) ?_
        refine he_istore (n := 25) (i := 4) (by decide +kernel) rfl ?_
        refine he_iconst (n := 26) (c := 0) (by decide +kernel) (by decide) ?_
        intro c25 hc25
        refine he_istore (n := 28) (i := 5) (by decide +kernel) rfl ?_
        exact yp_det_l h1 hs h2 r0 r1 hV K1 K0 hP st.2.2.2.length 0 _ _ (by omega) (by omega) (fun _ => by omega) (fun h => absurd ⟨by omega, by omega, fun t ht => absurd ht (Nat.not_lt_zero t)⟩ h)
  refine he_cmpne_t (n := 6) (t := 127) (by decide +kernel) (by omega) ?_
  refine he_iload (n := 128) (i := 2) (by decide +kernel) rfl ?_
  refine he_iconst (n := 130) (c := 90) (by decide +kernel) (by decide) ?_
  intro c128 hc128
  by_cases hZ : st.1 = 90
  · have dx : xmb st x3.toInt = (if 97 ≤ x3.toInt ∧ x3.toInt < 101 then some st else none) := by unfold xmb; rw [if_neg hP, if_neg (by omega), if_pos hZ]
    refine he_cmpne_f (n := 133) (t := 191) (by decide +kernel) (by omega) ?_
    refine he_aload (n := 134) (i := 0) (by decide +kernel) rfl ?_
    refine he_getr (n := 137) (ci := 9) (j := 13) (ns := [4190, 47]) (b := 247) y1 (by decide +kernel) rfl rfl (by decide +kernel) ?_
    refine he_iload (n := 138) (i := 1) (by decide +kernel) rfl ?_
    refine he_iload (n := 139) (i := 3) (by decide +kernel) rfl ?_
    refine he_iconst (n := 141) (c := 96) (by decide +kernel) (by decide) ?_
    intro c139 hc139
    have fin : ∀ (v : Int32), mq_R mq_PP d 136 172 [some (.ref 234), some (.int x1), some (.int x2), some (.int x3), none, none] [.int v, .int x1, .ref 247] (M, z, u) Q := by
      intro v
      have bv := mz_i32 v
      refine hb_sta (n := 173) (kind := 64) y1 (by decide +kernel) rfl rfl (.inl rfl) (by omega) (show _ < (4 : Int) by omega) ?_
      generalize hMf1 : hb_set M 247 (x1.toInt.toNat) v = Mf1
      have hmf1 : mz_sh mz_GG Mf1 := by rw [← hMf1]; exact hb_set_sh y1 rfl hb_at1 (by omega) (by omega)
      have eMf1 : ∀ b j, b ≠ 247 ∨ j ≠ x1.toInt.toNat → hv Mf1 b j = hv M b j := by intro b j h; rw [← hMf1]; exact hb_set_n h
      have sMf1 : hv Mf1 247 (x1.toInt.toNat) = v.toInt := by rw [← hMf1]; exact hb_set_v y1 rfl (show _ < 4 by omega)
      have wMf1 : ∀ b, b ≠ 247 → Mf1 b = M b := by intro b h; rw [← hMf1]; exact hb_set_c h
      refine he_iload (n := 174) (i := 3) (by decide +kernel) rfl ?_
      refine he_iconst (n := 176) (c := 96) (by decide +kernel) (by decide) ?_
      intro cf174 hcf174
      have hV1 : yMV s M0 Mf1 st := ⟨hmf1, fun b hb => by rw [wMf1 b (by omega)]; exact y2 b hb, fun b j hb hj => by rw [eMf1 _ _ (.inl (by omega))]; exact y3 b j hb hj, fun j hj => by rw [eMf1 _ _ (.inl (by decide))]; exact y4 j hj, by rw [eMf1 _ _ (.inl (by decide))]; exact y5, by rw [eMf1 _ _ (.inl (by decide))]; exact y6, fun i hi => by rw [eMf1 _ _ (.inl (by decide))]; exact y7 i hi, by rw [eMf1 _ _ (.inl (by decide)), show (fun i => hv Mf1 246 (4 * s + i)) = fun i => hv M 246 (4 * s + i) from funext fun i => eMf1 _ _ (.inl (by decide))]; exact y8⟩
      by_cases lo : x3.toInt ≤ 96
      · rw [if_neg (by omega)] at dx
        refine he_cmple_t (n := 179) (t := 189) (by decide +kernel) (by omega) ?_
        refine he_iconst (n := 190) (c := 0) (by decide +kernel) (by decide) ?_
        intro cf189 hcf189
        refine he_retz (by decide +kernel) (by omega) ?_
        exact K0 Mf1 _ dx (by omega) (.inr trivial) hmf1 hV1.2.1 hV1.2.2.1 hV1.2.2.2.1
      refine he_cmple_f (n := 179) (t := 189) (by decide +kernel) (by omega) ?_
      refine he_iload (n := 180) (i := 3) (by decide +kernel) rfl ?_
      refine he_iconst (n := 182) (c := 101) (by decide +kernel) (by decide) ?_
      intro cf180 hcf180
      by_cases hi : 101 ≤ x3.toInt
      · rw [if_neg (by omega)] at dx
        refine he_cmpge_t (n := 185) (t := 189) (by decide +kernel) (by omega) ?_
        refine he_iconst (n := 190) (c := 0) (by decide +kernel) (by decide) ?_
        intro cf189 hcf189
        refine he_retz (by decide +kernel) (by omega) ?_
        exact K0 Mf1 _ dx (by omega) (.inr trivial) hmf1 hV1.2.1 hV1.2.2.1 hV1.2.2.2.1
      · rw [if_pos ⟨by omega, by omega⟩] at dx
        refine he_cmpge_f (n := 185) (t := 189) (by decide +kernel) (by omega) ?_
        refine he_iconst (n := 186) (c := 1) (by decide +kernel) (by decide) ?_
        intro cf185 hcf185
        refine he_goto (t := 190) (by decide +kernel) ?_
        refine he_retz (by decide +kernel) (by omega) ?_
        exact K1 Mf1 _ _ dx (by omega) hV1
    by_cases lo : x3.toInt ≤ 96
    · skip
      refine he_cmple_t (n := 144) (t := 166) (by decide +kernel) (by omega) ?_
      refine he_aload (n := 167) (i := 0) (by decide +kernel) rfl ?_
      refine he_getr (n := 170) (ci := 9) (j := 13) (ns := [4190, 47]) (b := 247) y1 (by decide +kernel) rfl rfl (by decide +kernel) ?_
      refine he_iload (n := 171) (i := 1) (by decide +kernel) rfl ?_
      refine hb_ld (n := 172) (kind := 64) y1 (by decide +kernel) rfl rfl (.inl rfl) (by omega) (show _ < (4 : Int) by omega) hb_at1 ?_
      intro v171 hv171 lv171 uv171
      exact fin _
    · skip
      refine he_cmple_f (n := 144) (t := 166) (by decide +kernel) (by omega) ?_
      refine he_iload (n := 145) (i := 3) (by decide +kernel) rfl ?_
      refine he_iconst (n := 147) (c := 101) (by decide +kernel) (by decide) ?_
      intro c145 hc145
      by_cases hi : 101 ≤ x3.toInt
      · skip
        refine he_cmpge_t (n := 150) (t := 166) (by decide +kernel) (by omega) ?_
        refine he_aload (n := 167) (i := 0) (by decide +kernel) rfl ?_
        refine he_getr (n := 170) (ci := 9) (j := 13) (ns := [4190, 47]) (b := 247) y1 (by decide +kernel) rfl rfl (by decide +kernel) ?_
        refine he_iload (n := 171) (i := 1) (by decide +kernel) rfl ?_
        refine hb_ld (n := 172) (kind := 64) y1 (by decide +kernel) rfl rfl (.inl rfl) (by omega) (show _ < (4 : Int) by omega) hb_at1 ?_
        intro v171 hv171 lv171 uv171
        exact fin _
      · skip
        refine he_cmpge_f (n := 150) (t := 166) (by decide +kernel) (by omega) ?_
        refine he_aload (n := 151) (i := 0) (by decide +kernel) rfl ?_
        refine he_getr (n := 154) (ci := 9) (j := 13) (ns := [4190, 47]) (b := 247) y1 (by decide +kernel) rfl rfl (by decide +kernel) ?_
        refine he_iload (n := 155) (i := 1) (by decide +kernel) rfl ?_
        refine hb_ld (n := 156) (kind := 64) y1 (by decide +kernel) rfl rfl (.inl rfl) (by omega) (show _ < (4 : Int) by omega) hb_at1 ?_
        intro v155 hv155 lv155 uv155
        refine he_iconst (n := 157) (c := 1) (by decide +kernel) (by decide) ?_
        intro c156 hc156
        refine he_iload (n := 158) (i := 3) (by decide +kernel) rfl ?_
        refine he_iconst (n := 160) (c := 97) (by decide +kernel) (by decide) ?_
        intro c158 hc158
        refine he_isub (n := 161) (by decide +kernel) (by omega) (by omega) ?_
        intro v160 hv160
        refine he_any2 (o := 15) (n := 162) (by decide +kernel) rfl ?_
        intro v161
        have bv161 := mz_i32 v161
        refine he_any2 (o := 13) (n := 163) (by decide +kernel) rfl ?_
        intro v162
        have bv162 := mz_i32 v162
        refine he_goto (t := 172) (by decide +kernel) ?_
        exact fin _
  refine he_cmpne_t (n := 133) (t := 191) (by decide +kernel) (by omega) ?_
  refine he_aload (n := 192) (i := 0) (by decide +kernel) rfl ?_
  refine he_getr (n := 195) (ci := 9) (j := 14) (ns := [4191, 50]) (b := 248) y1 (by decide +kernel) rfl rfl (by decide +kernel) ?_
  refine he_iload (n := 196) (i := 1) (by decide +kernel) rfl ?_
  refine hb_ld (n := 197) (kind := 65) y1 (by decide +kernel) rfl rfl (.inr rfl) (by omega) (show _ < (4 : Int) by omega) hb_at1 ?_
  intro v196 hv196 lv196 uv196
  have q196 : v196.toInt = st.2.2.1 := by rw [← hv196, hss]; exact y5
  have rest : ∀ (f : Int32), f.toInt = 1 - st.2.2.1 → mq_R mq_PP d 136 205 [some (.ref 234), some (.int x1), some (.int x2), some (.int x3), none, none] [.int f] (M, z, u) Q := by
    intro f hf
    refine he_istore (n := 207) (i := 4) (by decide +kernel) rfl ?_
    refine he_aload (n := 208) (i := 0) (by decide +kernel) rfl ?_
    refine he_getr (n := 211) (ci := 9) (j := 14) (ns := [4191, 50]) (b := 248) y1 (by decide +kernel) rfl rfl (by decide +kernel) ?_
    refine he_iload (n := 212) (i := 1) (by decide +kernel) rfl ?_
    refine he_aload (n := 213) (i := 0) (by decide +kernel) rfl ?_
    refine he_getr (n := 216) (ci := 9) (j := 14) (ns := [4191, 50]) (b := 248) y1 (by decide +kernel) rfl rfl (by decide +kernel) ?_
    refine he_iload (n := 217) (i := 1) (by decide +kernel) rfl ?_
    refine hb_ld (n := 218) (kind := 65) y1 (by decide +kernel) rfl rfl (.inr rfl) (by omega) (show _ < (4 : Int) by omega) hb_at1 ?_
    intro vg217 hvg217 lvg217 uvg217
    have q217 : vg217.toInt = st.2.2.1 := by rw [← hvg217, hss]; exact y5
    have fin : ∀ (v : Int32), (v.toInt = 1 ∧ (st.2.2.1 = 1 ∨ st.1 = 86) ∨ v.toInt = 0 ∧ st.2.2.1 = 0 ∧ ¬ st.1 = 86) → mq_R mq_PP d 136 232 [some (.ref 234), some (.int x1), some (.int x2), some (.int x3), some (.int f), none] [.int v, .int x1, .ref 248] (M, z, u) Q := by
      intro v hvv
      have v01 : v.toInt = 0 ∨ v.toInt = 1 := by omega
      refine hb_sta (n := 233) (kind := 65) y1 (by decide +kernel) rfl rfl (.inr ⟨rfl, he_01 (by omega)⟩) (by omega) (show _ < (4 : Int) by omega) ?_
      generalize hMh1 : hb_set M 248 (x1.toInt.toNat) v = Mh1
      have hmh1 : mz_sh mz_GG Mh1 := by rw [← hMh1]; exact hb_set_sh y1 rfl hb_at1 (by omega) (by omega)
      have eMh1 : ∀ b j, b ≠ 248 ∨ j ≠ x1.toInt.toNat → hv Mh1 b j = hv M b j := by intro b j h; rw [← hMh1]; exact hb_set_n h
      have sMh1 : hv Mh1 248 (x1.toInt.toNat) = v.toInt := by rw [← hMh1]; exact hb_set_v y1 rfl (show _ < 4 by omega)
      have wMh1 : ∀ b, b ≠ 248 → Mh1 b = M b := by intro b h; rw [← hMh1]; exact hb_set_c h
      refine he_iload (n := 234) (i := 2) (by decide +kernel) rfl ?_
      refine he_iconst (n := 236) (c := 86) (by decide +kernel) (by decide) ?_
      intro ch234 hch234
      have s1 : hv Mh1 248 s = v.toInt := by rw [show s = x1.toInt.toNat by omega]; exact sMh1
      have f1 : ∀ b, b < 245 ∨ 248 < b → Mh1 b = M0 b := fun b hb => by rw [wMh1 b (by omega)]; exact y2 b hb
      have f2 : ∀ b j, b = 245 ∨ b = 248 → j ≠ s → hv Mh1 b j = hv M0 b j := fun b j hb hj => by rw [eMh1 _ _ (.inr (by omega))]; exact y3 b j hb hj
      have f3 : ∀ j, j < 4 * s ∨ 4 * s + 4 ≤ j → hv Mh1 246 j = hv M0 246 j := fun j hj => by rw [eMh1 _ _ (.inl (by decide))]; exact y4 j hj
      have hV1 : ∀ st' : xMs, v.toInt = st'.2.2.1 → st'.2.2.2 = st.2.2.2 → yMV s M0 Mh1 st' := fun st' g1 g2 => ⟨hmh1, f1, f2, f3, by rw [s1]; exact g1, by rw [g2, eMh1 _ _ (.inl (by decide))]; exact y6, fun i hi => by rw [g2] at hi; rw [g2, eMh1 _ _ (.inl (by decide))]; exact y7 i hi, by rw [eMh1 _ _ (.inl (by decide)), show (fun i => hv Mh1 246 (4 * s + i)) = fun i => hv M 246 (4 * s + i) from funext fun i => eMh1 _ _ (.inl (by decide))]; exact y8⟩
      by_cases hVv : st.1 = 86
      rotate_left
      · have dx : xmb st x3.toInt = some st := by unfold xmb; rw [if_neg hP, if_neg hVv, if_neg hZ, if_pos ⟨r0, r1⟩]
        refine he_cmpne_t (n := 239) (t := 250) (by decide +kernel) (by omega) ?_
        refine he_iconst (n := 251) (c := 1) (by decide +kernel) (by decide) ?_
        intro ch250 hch250
        refine he_goto (t := 255) (by decide +kernel) ?_
        refine he_retz (by decide +kernel) (by omega) ?_
        exact K1 Mh1 _ _ dx (by omega) (hV1 st (by omega) rfl)
      have dx : xmb st x3.toInt = (if x3.toInt = 89 ∧ st.2.2.1 = 0 then some (st.1, st.2.1, 1, st.2.2.2) else none) := by unfold xmb; rw [if_neg hP, if_pos hVv]
      refine he_cmpne_f (n := 239) (t := 250) (by decide +kernel) (by omega) ?_
      refine he_iload (n := 240) (i := 3) (by decide +kernel) rfl ?_
      refine he_iconst (n := 242) (c := 89) (by decide +kernel) (by decide) ?_
      intro ch240 hch240
      by_cases h89 : x3.toInt = 89
      rotate_left
      · rw [if_neg (fun h => h89 h.1)] at dx
        refine he_cmpne_t (n := 245) (t := 254) (by decide +kernel) (by omega) ?_
        refine he_iconst (n := 255) (c := 0) (by decide +kernel) (by decide) ?_
        intro ch254 hch254
        refine he_retz (by decide +kernel) (by omega) ?_
        exact K0 Mh1 _ dx (by omega) (.inr trivial) hmh1 f1 f2 f3
      refine he_cmpne_f (n := 245) (t := 254) (by decide +kernel) (by omega) ?_
      refine he_iload (n := 247) (i := 4) (by decide +kernel) rfl ?_
      by_cases h0 : st.2.2.1 = 0
      · rw [if_pos ⟨h89, h0⟩] at dx
        refine he_ifeq_f (n := 250) (t := 254) (by decide +kernel) (by omega) ?_
        refine he_iconst (n := 251) (c := 1) (by decide +kernel) (by decide) ?_
        intro ch250 hch250
        refine he_goto (t := 255) (by decide +kernel) ?_
        refine he_retz (by decide +kernel) (by omega) ?_
        exact K1 Mh1 _ _ dx (by omega) (hV1 _ (by show v.toInt = 1; omega) rfl)
      · rw [if_neg (fun h => h0 h.2)] at dx
        refine he_ifeq_t (n := 250) (t := 254) (by decide +kernel) (by omega) ?_
        refine he_iconst (n := 255) (c := 0) (by decide +kernel) (by decide) ?_
        intro ch254 hch254
        refine he_retz (by decide +kernel) (by omega) ?_
        exact K0 Mh1 _ dx (by omega) (.inr trivial) hmh1 f1 f2 f3
    by_cases h1v : st.2.2.1 = 0
    rotate_left
    · skip
      refine he_ifne_t (n := 221) (t := 227) (by decide +kernel) (by omega) ?_
      refine he_iconst (n := 228) (c := 1) (by decide +kernel) (by decide) ?_
      intro cg227 hcg227
      refine he_goto (t := 232) (by decide +kernel) ?_
      exact fin _ (by omega)
    refine he_ifne_f (n := 221) (t := 227) (by decide +kernel) (by omega) ?_
    refine he_iload (n := 222) (i := 2) (by decide +kernel) rfl ?_
    refine he_iconst (n := 224) (c := 86) (by decide +kernel) (by decide) ?_
    intro cg222 hcg222
    by_cases h86 : st.1 = 86
    · skip
      refine he_cmpne_f (n := 227) (t := 231) (by decide +kernel) (by omega) ?_
      refine he_iconst (n := 228) (c := 1) (by decide +kernel) (by decide) ?_
      intro cg227 hcg227
      refine he_goto (t := 232) (by decide +kernel) ?_
      exact fin _ (by omega)
    · skip
      refine he_cmpne_t (n := 227) (t := 231) (by decide +kernel) (by omega) ?_
      refine he_iconst (n := 232) (c := 0) (by decide +kernel) (by decide) ?_
      intro cg231 hcg231
      exact fin _ (by omega)
  have y01 : st.2.2.1 = 0 ∨ st.2.2.1 = 1 := by omega
  by_cases h0 : st.2.2.1 = 0
  · skip
    refine he_ifne_f (n := 200) (t := 204) (by decide +kernel) (by omega) ?_
    refine he_iconst (n := 201) (c := 1) (by decide +kernel) (by decide) ?_
    intro c200 hc200
    refine he_goto (t := 205) (by decide +kernel) ?_
    exact rest _ (by omega)
  · skip
    refine he_ifne_t (n := 200) (t := 204) (by decide +kernel) (by omega) ?_
    refine he_iconst (n := 205) (c := 0) (by decide +kernel) (by decide) ?_
    intro c204 hc204
    exact rest _ (by omega)
