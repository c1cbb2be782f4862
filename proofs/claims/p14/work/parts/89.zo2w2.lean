/-! Archive 2. -/
theorem xo_body69 {d z u : Nat} {M : Nat → mq_C} {Q : (Option Value ⊕ Nat) → mq_S → Prop} {x1 x2 : Int32} {i dir : Nat} (hm : mz_sh mz_GG M) (h1 : x1.toInt = (i : Int)) (hi : i < 6) (h2 : x2.toInt = (dir : Int)) (hd : dir ≤ 236) (K : ∀ r : Int32, (xrb2 (hv M 70) dir (xcr M 69 i) → r.toInt = 1) → (¬ xrb2 (hv M 70) dir (xcr M 69 i) → r.toInt = 0) → Q (.inl (some (.int r))) (M, z, u)) : mq_R mq_PP d 54 0 [some (.ref 69), some (.int x1), some (.int x2), none] [] (M, z, u) Q := by
  have hii : x1.toInt.toNat = i := by omega
  refine he_aload (n := 1) (i := 0) (by decide +kernel) rfl ?_
  refine he_getr (n := 4) (ci := 1) (j := 10) (ns := [1230, 48]) (b := 79) hm (by decide +kernel) rfl rfl (by decide +kernel) ?_
  refine he_iload (n := 5) (i := 1) (by decide +kernel) rfl ?_
  refine hb_ld (n := 6) (kind := 64) hm (by decide +kernel) rfl rfl (.inl rfl) (by omega) (show _ < (6 : Int) by omega) hb_at1 ?_
  intro v5 hv5 lv5 uv5
  refine he_istore (n := 7) (i := 3) (by decide +kernel) rfl ?_
  refine he_iload (n := 8) (i := 3) (by decide +kernel) rfl ?_
  refine he_iconst (n := 9) (c := 2) (by decide +kernel) (by decide) ?_
  intro c8 hc8
  refine he_iadd (n := 10) (by decide +kernel) (by omega) (by omega) ?_
  intro v9 hv9
  refine he_aload (n := 11) (i := 0) (by decide +kernel) rfl ?_
  refine he_getr (n := 14) (ci := 1) (j := 9) (ns := [1229, 45]) (b := 78) hm (by decide +kernel) rfl rfl (by decide +kernel) ?_
  refine he_iload (n := 15) (i := 1) (by decide +kernel) rfl ?_
  refine hb_ld (n := 16) (kind := 64) hm (by decide +kernel) rfl rfl (.inl rfl) (by omega) (show _ < (6 : Int) by omega) hb_at1 ?_
  intro v15 hv15 lv15 uv15
  refine he_iadd (n := 17) (by decide +kernel) (by omega) (by omega) ?_
  intro v16 hv16
  refine he_iload (n := 18) (i := 2) (by decide +kernel) rfl ?_
  rw [hii] at hv5 hv15
  have eU : xut (xcr M 69 i) = v16.toInt := by show hv M 79 i + 2 + hv M 78 i = _; omega
  have eP : (xcr M 69 i).2.2.2.2.2.toNat = v5.toInt.toNat := by show (hv M 79 i).toNat = _; rw [hv5]
  unfold xrb2 at K
  rw [eU, eP] at K
  by_cases g18 : v16.toInt ≤ x2.toInt
  rotate_left
  · skip
    refine he_cmpgt_t (n := 21) (t := 53) (by decide +kernel) (by omega) ?_
    refine he_iconst (n := 54) (c := 0) (by decide +kernel) (by decide) ?_
    intro c53 hc53
    refine he_retz (by decide +kernel) (by omega) ?_
    exact K _ (fun h => by have := h.1; omega) (fun _ => by omega)
  refine he_cmpgt_f (n := 21) (t := 53) (by decide +kernel) (by omega) ?_
  refine he_aload (n := 22) (i := 0) (by decide +kernel) rfl ?_
  refine he_getr (n := 25) (ci := 1) (j := 0) (ns := [1214, 9]) (b := 70) hm (by decide +kernel) rfl rfl (by decide +kernel) ?_
  refine he_iload (n := 26) (i := 3) (by decide +kernel) rfl ?_
  refine hb_ld (n := 27) (kind := 64) hm (by decide +kernel) rfl rfl (.inl rfl) (by omega) (show _ < (240 : Int) by omega) hb_at1 ?_
  intro v26 hv26 lv26 uv26
  refine he_iconst (n := 29) (c := 75) (by decide +kernel) (by decide) ?_
  intro c27 hc27
  by_cases g29 : v26.toInt = c27.toInt
  rotate_left
  · skip
    refine he_cmpne_t (n := 32) (t := 53) (by decide +kernel) (by omega) ?_
    refine he_iconst (n := 54) (c := 0) (by decide +kernel) (by decide) ?_
    intro c53 hc53
    refine he_retz (by decide +kernel) (by omega) ?_
    exact K _ (fun h => by have := h.2.1; omega) (fun _ => by omega)
  refine he_cmpne_f (n := 32) (t := 53) (by decide +kernel) (by omega) ?_
  refine he_aload (n := 33) (i := 0) (by decide +kernel) rfl ?_
  refine he_getr (n := 36) (ci := 1) (j := 0) (ns := [1214, 9]) (b := 70) hm (by decide +kernel) rfl rfl (by decide +kernel) ?_
  refine he_iload (n := 37) (i := 3) (by decide +kernel) rfl ?_
  refine he_iconst (n := 38) (c := 1) (by decide +kernel) (by decide) ?_
  intro c37 hc37
  refine he_iadd (n := 39) (by decide +kernel) (by omega) (by omega) ?_
  intro v38 hv38
  refine hb_ld (n := 40) (kind := 64) hm (by decide +kernel) rfl rfl (.inl rfl) (by omega) (show _ < (240 : Int) by omega) hb_at1 ?_
  intro v39 hv39 lv39 uv39
  refine he_aload (n := 41) (i := 0) (by decide +kernel) rfl ?_
  refine he_getr (n := 44) (ci := 1) (j := 6) (ns := [1226, 36]) (b := 75) hm (by decide +kernel) rfl rfl (by decide +kernel) ?_
  refine he_iload (n := 45) (i := 1) (by decide +kernel) rfl ?_
  refine hb_ld (n := 46) (kind := 64) hm (by decide +kernel) rfl rfl (.inl rfl) (by omega) (show _ < (6 : Int) by omega) hb_at1 ?_
  intro v45 hv45 lv45 uv45
  rw [hii] at hv45
  have q39 : hv M 70 (v5.toInt.toNat + 1) = v39.toInt := by rw [← hv39, show v38.toInt.toNat = v5.toInt.toNat + 1 by omega]
  have e6 : (xcr M 69 i).2.1 = v45.toInt := hv45
  rw [q39, e6] at K
  by_cases g46 : v39.toInt = v45.toInt
  · skip
    refine he_cmpne_f (n := 49) (t := 53) (by decide +kernel) (by omega) ?_
    refine he_iconst (n := 50) (c := 1) (by decide +kernel) (by decide) ?_
    intro c49 hc49
    refine he_goto (t := 54) (by decide +kernel) ?_
    refine he_retz (by decide +kernel) (by omega) ?_
    exact K _ (fun _ => by omega) (fun h => absurd ⟨by omega, by omega, g46⟩ h)
  · skip
    refine he_cmpne_t (n := 49) (t := 53) (by decide +kernel) (by omega) ?_
    refine he_iconst (n := 54) (c := 0) (by decide +kernel) (by decide) ?_
    intro c53 hc53
    refine he_retz (by decide +kernel) (by omega) ?_
    exact K _ (fun h => absurd h.2.2 g46) (fun _ => by omega)
theorem xo_apart69_l {d z u : Nat} {M : Nat → mq_C} {Q : (Option Value ⊕ Nat) → mq_S → Prop} {x1 x2 x3 : Int32} {i : Nat} (hm : mz_sh mz_GG M) (h1 : x1.toInt = (i : Int)) (hi : i < 6) (K : ∀ r : Int32, ((∀ k, k < i → xap (xcr M 69 i) (xcr M 69 k)) → r.toInt = 1) → ((∃ k, k < i ∧ ¬ xap (xcr M 69 i) (xcr M 69 k)) → r.toInt = 0) → Q (.inl (some (.int r))) (M, z, u)) (h2 : x2.toInt = hv M 79 i) (h3 : x3.toInt = xut (xcr M 69 i)) : ∀ (m j : Nat) (k4 : Int32) (o5 o6 : Option Value), mq_nl o5 = true → mq_nl o6 = true → j + m = i → k4.toInt = (j : Int) → (∀ k, k < j → xap (xcr M 69 i) (xcr M 69 k)) → mq_R mq_PP d 55 21 [some (.ref 69), some (.int x1), some (.int x2), some (.int x3), some (.int k4), o5, o6] [] (M, z, u) Q := by
  intro m
  induction m with
  | zero =>
    intro j k4 o5 o6 n5 n6 e1 e2 e3
    refine he_iload (n := 23) (i := 4) (by decide +kernel) rfl ?_
    refine he_iload (n := 24) (i := 1) (by decide +kernel) rfl ?_
    refine he_cmpge_t (n := 27) (t := 107) (by decide +kernel) (by omega) ?_
    refine he_iconst (n := 108) (c := 1) (by decide +kernel) (by decide) ?_
    intro c107 hc107
    refine he_retz (by decide +kernel) (by omega) ?_
    exact K _ (fun _ => by omega) (fun ⟨k, k1, k2⟩ => absurd (e3 k (by omega)) k2)
  | succ m ih =>
    intro j k4 o5 o6 n5 n6 e1 e2 e3
    have hkk : k4.toInt.toNat = j := by omega
    have hii : x1.toInt.toNat = i := by omega
    have dj : xap (xcr M 69 i) (xcr M 69 j) ↔ (¬ hv M 74 j = hv M 74 i ∧ (x3.toInt ≤ hv M 79 j ∨ hv M 79 j + 2 + hv M 78 j ≤ x2.toInt)) := by
      rw [h2, h3]
      exact Iff.rfl
    refine he_iload (n := 23) (i := 4) (by decide +kernel) rfl ?_
    refine he_iload (n := 24) (i := 1) (by decide +kernel) rfl ?_
    refine he_cmpge_f (n := 27) (t := 107) (by decide +kernel) (by omega) ?_
    refine he_iload (n := 28) (i := 3) (by decide +kernel) rfl ?_
    refine he_aload (n := 29) (i := 0) (by decide +kernel) rfl ?_
    refine he_getr (n := 32) (ci := 1) (j := 10) (ns := [1230, 48]) (b := 79) hm (by decide +kernel) rfl rfl (by decide +kernel) ?_
    refine he_iload (n := 34) (i := 4) (by decide +kernel) rfl ?_
    refine hb_ld (n := 35) (kind := 64) hm (by decide +kernel) rfl rfl (.inl rfl) (by omega) (show _ < (6 : Int) by omega) hb_at1 ?_
    intro v34 hv34 lv34 uv34
    rw [hkk] at hv34
    by_cases h35 : v34.toInt < x3.toInt
    · skip
      refine he_cmpgt_t (n := 38) (t := 42) (by decide +kernel) (by omega) ?_
      refine he_iconst (n := 43) (c := 0) (by decide +kernel) (by decide) ?_
      intro c42 hc42
      refine he_istore (n := 45) (i := 5) (by decide +kernel) rfl ?_
      refine he_aload (n := 46) (i := 0) (by decide +kernel) rfl ?_
      refine he_getr (n := 49) (ci := 1) (j := 10) (ns := [1230, 48]) (b := 79) hm (by decide +kernel) rfl rfl (by decide +kernel) ?_
      refine he_iload (n := 51) (i := 4) (by decide +kernel) rfl ?_
      refine hb_ld (n := 52) (kind := 64) hm (by decide +kernel) rfl rfl (.inl rfl) (by omega) (show _ < (6 : Int) by omega) hb_at1 ?_
      intro v51 hv51 lv51 uv51
      refine he_iconst (n := 53) (c := 2) (by decide +kernel) (by decide) ?_
      intro c52 hc52
      refine he_iadd (n := 54) (by decide +kernel) (by omega) (by omega) ?_
      intro v53 hv53
      refine he_aload (n := 55) (i := 0) (by decide +kernel) rfl ?_
      refine he_getr (n := 58) (ci := 1) (j := 9) (ns := [1229, 45]) (b := 78) hm (by decide +kernel) rfl rfl (by decide +kernel) ?_
      refine he_iload (n := 60) (i := 4) (by decide +kernel) rfl ?_
      refine hb_ld (n := 61) (kind := 64) hm (by decide +kernel) rfl rfl (.inl rfl) (by omega) (show _ < (6 : Int) by omega) hb_at1 ?_
      intro v60 hv60 lv60 uv60
      refine he_iadd (n := 62) (by decide +kernel) (by omega) (by omega) ?_
      intro v61 hv61
      refine he_iload (n := 63) (i := 2) (by decide +kernel) rfl ?_
      rw [hkk] at hv51 hv60
      by_cases h63 : x2.toInt < v61.toInt
      · skip
        refine he_cmpgt_t (n := 66) (t := 70) (by decide +kernel) (by omega) ?_
        refine he_iconst (n := 71) (c := 0) (by decide +kernel) (by decide) ?_
        intro c70 hc70
        refine he_istore (n := 73) (i := 6) (by decide +kernel) rfl ?_
        refine he_aload (n := 74) (i := 0) (by decide +kernel) rfl ?_
        refine he_getr (n := 77) (ci := 1) (j := 5) (ns := [1225, 33]) (b := 74) hm (by decide +kernel) rfl rfl (by decide +kernel) ?_
        refine he_iload (n := 79) (i := 4) (by decide +kernel) rfl ?_
        refine hb_ld (n := 80) (kind := 64) hm (by decide +kernel) rfl rfl (.inl rfl) (by omega) (show _ < (6 : Int) by omega) hb_at1 ?_
        intro v79 hv79 lv79 uv79
        refine he_aload (n := 81) (i := 0) (by decide +kernel) rfl ?_
        refine he_getr (n := 84) (ci := 1) (j := 5) (ns := [1225, 33]) (b := 74) hm (by decide +kernel) rfl rfl (by decide +kernel) ?_
        refine he_iload (n := 85) (i := 1) (by decide +kernel) rfl ?_
        refine hb_ld (n := 86) (kind := 64) hm (by decide +kernel) rfl rfl (.inl rfl) (by omega) (show _ < (6 : Int) by omega) hb_at1 ?_
        intro v85 hv85 lv85 uv85
        rw [hkk] at hv79
        rw [hii] at hv85
        by_cases h86 : v79.toInt = v85.toInt
        · skip
          refine he_cmpeq_t (n := 89) (t := 99) (by decide +kernel) (by omega) ?_
          refine he_iconst (n := 100) (c := 0) (by decide +kernel) (by decide) ?_
          intro c99 hc99
          refine he_retz (by decide +kernel) (by omega) ?_
          exact K _ (fun h => by have := dj.mp (h j (by omega)); omega) (fun _ => by omega)
        · skip
          refine he_cmpeq_f (n := 89) (t := 99) (by decide +kernel) (by omega) ?_
          refine he_iload (n := 91) (i := 5) (by decide +kernel) rfl ?_
          refine he_ifne_f (n := 94) (t := 101) (by decide +kernel) (by omega) ?_
          refine he_iload (n := 96) (i := 6) (by decide +kernel) rfl ?_
          refine he_ifne_f (n := 99) (t := 101) (by decide +kernel) (by omega) ?_
          refine he_iconst (n := 100) (c := 0) (by decide +kernel) (by decide) ?_
          intro c99 hc99
          refine he_retz (by decide +kernel) (by omega) ?_
          exact K _ (fun h => by have := dj.mp (h j (by omega)); omega) (fun _ => by omega)
      · skip
        refine he_cmpgt_f (n := 66) (t := 70) (by decide +kernel) (by omega) ?_
        refine he_iconst (n := 67) (c := 1) (by decide +kernel) (by decide) ?_
        intro c66 hc66
        refine he_goto (t := 71) (by decide +kernel) ?_
        refine he_istore (n := 73) (i := 6) (by decide +kernel) rfl ?_
        refine he_aload (n := 74) (i := 0) (by decide +kernel) rfl ?_
        refine he_getr (n := 77) (ci := 1) (j := 5) (ns := [1225, 33]) (b := 74) hm (by decide +kernel) rfl rfl (by decide +kernel) ?_
        refine he_iload (n := 79) (i := 4) (by decide +kernel) rfl ?_
        refine hb_ld (n := 80) (kind := 64) hm (by decide +kernel) rfl rfl (.inl rfl) (by omega) (show _ < (6 : Int) by omega) hb_at1 ?_
        intro v79 hv79 lv79 uv79
        refine he_aload (n := 81) (i := 0) (by decide +kernel) rfl ?_
        refine he_getr (n := 84) (ci := 1) (j := 5) (ns := [1225, 33]) (b := 74) hm (by decide +kernel) rfl rfl (by decide +kernel) ?_
        refine he_iload (n := 85) (i := 1) (by decide +kernel) rfl ?_
        refine hb_ld (n := 86) (kind := 64) hm (by decide +kernel) rfl rfl (.inl rfl) (by omega) (show _ < (6 : Int) by omega) hb_at1 ?_
        intro v85 hv85 lv85 uv85
        rw [hkk] at hv79
        rw [hii] at hv85
        by_cases h86 : v79.toInt = v85.toInt
        · skip
          refine he_cmpeq_t (n := 89) (t := 99) (by decide +kernel) (by omega) ?_
          refine he_iconst (n := 100) (c := 0) (by decide +kernel) (by decide) ?_
          intro c99 hc99
          refine he_retz (by decide +kernel) (by omega) ?_
          exact K _ (fun h => by have := dj.mp (h j (by omega)); omega) (fun _ => by omega)
        · skip
          refine he_cmpeq_f (n := 89) (t := 99) (by decide +kernel) (by omega) ?_
          refine he_iload (n := 91) (i := 5) (by decide +kernel) rfl ?_
          refine he_ifne_f (n := 94) (t := 101) (by decide +kernel) (by omega) ?_
          refine he_iload (n := 96) (i := 6) (by decide +kernel) rfl ?_
          refine he_ifne_t (n := 99) (t := 101) (by decide +kernel) (by omega) ?_
          refine he_iinc (n := 104) (i := 4) (c := 1) (L' := fun v => [some (.ref (69)), some (.int x1), some (.int x2), some (.int x3), some (.int v), some (.int c42), some (.int c66)]) (by decide +kernel) (by decide) rfl (fun _ => rfl) (by omega) (by omega) ?_
          intro i101 hi101
          refine he_goto (t := 21) (by decide +kernel) ?_
          refine ih (j + 1) _ _ _ rfl rfl (by omega) (by omega) (fun k hk => ?_)
          by_cases e : k = j
          · rw [e]
            exact dj.mpr (by omega)
          · exact e3 k (by omega)
    · skip
      refine he_cmpgt_f (n := 38) (t := 42) (by decide +kernel) (by omega) ?_
      refine he_iconst (n := 39) (c := 1) (by decide +kernel) (by decide) ?_
      intro c38 hc38
      refine he_goto (t := 43) (by decide +kernel) ?_
      refine he_istore (n := 45) (i := 5) (by decide +kernel) rfl ?_
      refine he_aload (n := 46) (i := 0) (by decide +kernel) rfl ?_
      refine he_getr (n := 49) (ci := 1) (j := 10) (ns := [1230, 48]) (b := 79) hm (by decide +kernel) rfl rfl (by decide +kernel) ?_
      refine he_iload (n := 51) (i := 4) (by decide +kernel) rfl ?_
      refine hb_ld (n := 52) (kind := 64) hm (by decide +kernel) rfl rfl (.inl rfl) (by omega) (show _ < (6 : Int) by omega) hb_at1 ?_
      intro v51 hv51 lv51 uv51
      refine he_iconst (n := 53) (c := 2) (by decide +kernel) (by decide) ?_
      intro c52 hc52
      refine he_iadd (n := 54) (by decide +kernel) (by omega) (by omega) ?_
      intro v53 hv53
      refine he_aload (n := 55) (i := 0) (by decide +kernel) rfl ?_
      refine he_getr (n := 58) (ci := 1) (j := 9) (ns := [1229, 45]) (b := 78) hm (by decide +kernel) rfl rfl (by decide +kernel) ?_
      refine he_iload (n := 60) (i := 4) (by decide +kernel) rfl ?_
      refine hb_ld (n := 61) (kind := 64) hm (by decide +kernel) rfl rfl (.inl rfl) (by omega) (show _ < (6 : Int) by omega) hb_at1 ?_
      intro v60 hv60 lv60 uv60
      refine he_iadd (n := 62) (by decide +kernel) (by omega) (by omega) ?_
      intro v61 hv61
      refine he_iload (n := 63) (i := 2) (by decide +kernel) rfl ?_
      rw [hkk] at hv51 hv60
      by_cases h63 : x2.toInt < v61.toInt
      · skip
        refine he_cmpgt_t (n := 66) (t := 70) (by decide +kernel) (by omega) ?_
        refine he_iconst (n := 71) (c := 0) (by decide +kernel) (by decide) ?_
        intro c70 hc70
        refine he_istore (n := 73) (i := 6) (by decide +kernel) rfl ?_
        refine he_aload (n := 74) (i := 0) (by decide +kernel) rfl ?_
        refine he_getr (n := 77) (ci := 1) (j := 5) (ns := [1225, 33]) (b := 74) hm (by decide +kernel) rfl rfl (by decide +kernel) ?_
        refine he_iload (n := 79) (i := 4) (by decide +kernel) rfl ?_
        refine hb_ld (n := 80) (kind := 64) hm (by decide +kernel) rfl rfl (.inl rfl) (by omega) (show _ < (6 : Int) by omega) hb_at1 ?_
        intro v79 hv79 lv79 uv79
        refine he_aload (n := 81) (i := 0) (by decide +kernel) rfl ?_
        refine he_getr (n := 84) (ci := 1) (j := 5) (ns := [1225, 33]) (b := 74) hm (by decide +kernel) rfl rfl (by decide +kernel) ?_
        refine he_iload (n := 85) (i := 1) (by decide +kernel) rfl ?_
        refine hb_ld (n := 86) (kind := 64) hm (by decide +kernel) rfl rfl (.inl rfl) (by omega) (show _ < (6 : Int) by omega) hb_at1 ?_
        intro v85 hv85 lv85 uv85
        rw [hkk] at hv79
        rw [hii] at hv85
        by_cases h86 : v79.toInt = v85.toInt
        · skip
          refine he_cmpeq_t (n := 89) (t := 99) (by decide +kernel) (by omega) ?_
          refine he_iconst (n := 100) (c := 0) (by decide +kernel) (by decide) ?_
          intro c99 hc99
          refine he_retz (by decide +kernel) (by omega) ?_
          exact K _ (fun h => by have := dj.mp (h j (by omega)); omega) (fun _ => by omega)
        · skip
          refine he_cmpeq_f (n := 89) (t := 99) (by decide +kernel) (by omega) ?_
          refine he_iload (n := 91) (i := 5) (by decide +kernel) rfl ?_
          refine he_ifne_t (n := 94) (t := 101) (by decide +kernel) (by omega) ?_
          refine he_iinc (n := 104) (i := 4) (c := 1) (L' := fun v => [some (.ref (69)), some (.int x1), some (.int x2), some (.int x3), some (.int v), some (.int c38), some (.int c70)]) (by decide +kernel) (by decide) rfl (fun _ => rfl) (by omega) (by omega) ?_
          intro i101 hi101
          refine he_goto (t := 21) (by decide +kernel) ?_
          refine ih (j + 1) _ _ _ rfl rfl (by omega) (by omega) (fun k hk => ?_)
          by_cases e : k = j
          · rw [e]
            exact dj.mpr (by omega)
          · exact e3 k (by omega)
      · skip
        refine he_cmpgt_f (n := 66) (t := 70) (by decide +kernel) (by omega) ?_
        refine he_iconst (n := 67) (c := 1) (by decide +kernel) (by decide) ?_
        intro c66 hc66
        refine he_goto (t := 71) (by decide +kernel) ?_
        refine he_istore (n := 73) (i := 6) (by decide +kernel) rfl ?_
        refine he_aload (n := 74) (i := 0) (by decide +kernel) rfl ?_
        refine he_getr (n := 77) (ci := 1) (j := 5) (ns := [1225, 33]) (b := 74) hm (by decide +kernel) rfl rfl (by decide +kernel) ?_
        refine he_iload (n := 79) (i := 4) (by decide +kernel) rfl ?_
        refine hb_ld (n := 80) (kind := 64) hm (by decide +kernel) rfl rfl (.inl rfl) (by omega) (show _ < (6 : Int) by omega) hb_at1 ?_
        intro v79 hv79 lv79 uv79
        refine he_aload (n := 81) (i := 0) (by decide +kernel) rfl ?_
        refine he_getr (n := 84) (ci := 1) (j := 5) (ns := [1225, 33]) (b := 74) hm (by decide +kernel) rfl rfl (by decide +kernel) ?_
        refine he_iload (n := 85) (i := 1) (by decide +kernel) rfl ?_
        refine hb_ld (n := 86) (kind := 64) hm (by decide +kernel) rfl rfl (.inl rfl) (by omega) (show _ < (6 : Int) by omega) hb_at1 ?_
        intro v85 hv85 lv85 uv85
        rw [hkk] at hv79
        rw [hii] at hv85
        by_cases h86 : v79.toInt = v85.toInt
        · skip
          refine he_cmpeq_t (n := 89) (t := 99) (by decide +kernel) (by omega) ?_
          refine he_iconst (n := 100) (c := 0) (by decide +kernel) (by decide) ?_
          intro c99 hc99
          refine he_retz (by decide +kernel) (by omega) ?_
          exact K _ (fun h => by have := dj.mp (h j (by omega)); omega) (fun _ => by omega)
        · skip
          refine he_cmpeq_f (n := 89) (t := 99) (by decide +kernel) (by omega) ?_
          refine he_iload (n := 91) (i := 5) (by decide +kernel) rfl ?_
          refine he_ifne_t (n := 94) (t := 101) (by decide +kernel) (by omega) ?_
          refine he_iinc (n := 104) (i := 4) (c := 1) (L' := fun v => [some (.ref (69)), some (.int x1), some (.int x2), some (.int x3), some (.int v), some (.int c38), some (.int c66)]) (by decide +kernel) (by decide) rfl (fun _ => rfl) (by omega) (by omega) ?_
          intro i101 hi101
          refine he_goto (t := 21) (by decide +kernel) ?_
          refine ih (j + 1) _ _ _ rfl rfl (by omega) (by omega) (fun k hk => ?_)
          by_cases e : k = j
          · rw [e]
            exact dj.mpr (by omega)
          · exact e3 k (by omega)
theorem xo_apart69 {d z u : Nat} {M : Nat → mq_C} {Q : (Option Value ⊕ Nat) → mq_S → Prop} {x1 : Int32} {i : Nat} (hm : mz_sh mz_GG M) (h1 : x1.toInt = (i : Int)) (hi : i < 6) (K : ∀ r : Int32, ((∀ k, k < i → xap (xcr M 69 i) (xcr M 69 k)) → r.toInt = 1) → ((∃ k, k < i ∧ ¬ xap (xcr M 69 i) (xcr M 69 k)) → r.toInt = 0) → Q (.inl (some (.int r))) (M, z, u)) : mq_R mq_PP d 55 0 [some (.ref 69), some (.int x1), none, none, none, none, none] [] (M, z, u) Q := by
  have hii : x1.toInt.toNat = i := by omega
  refine he_aload (n := 1) (i := 0) (by decide +kernel) rfl ?_
  refine he_getr (n := 4) (ci := 1) (j := 10) (ns := [1230, 48]) (b := 79) hm (by decide +kernel) rfl rfl (by decide +kernel) ?_
  refine he_iload (n := 5) (i := 1) (by decide +kernel) rfl ?_
  refine hb_ld (n := 6) (kind := 64) hm (by decide +kernel) rfl rfl (.inl rfl) (by omega) (show _ < (6 : Int) by omega) hb_at1 ?_
  intro v5 hv5 lv5 uv5
  refine he_istore (n := 7) (i := 2) (by decide +kernel) rfl ?_
  refine he_iload (n := 8) (i := 2) (by decide +kernel) rfl ?_
  refine he_iconst (n := 9) (c := 2) (by decide +kernel) (by decide) ?_
  intro c8 hc8
  refine he_iadd (n := 10) (by decide +kernel) (by omega) (by omega) ?_
  intro v9 hv9
  refine he_aload (n := 11) (i := 0) (by decide +kernel) rfl ?_
  refine he_getr (n := 14) (ci := 1) (j := 9) (ns := [1229, 45]) (b := 78) hm (by decide +kernel) rfl rfl (by decide +kernel) ?_
  refine he_iload (n := 15) (i := 1) (by decide +kernel) rfl ?_
  refine hb_ld (n := 16) (kind := 64) hm (by decide +kernel) rfl rfl (.inl rfl) (by omega) (show _ < (6 : Int) by omega) hb_at1 ?_
  intro v15 hv15 lv15 uv15
  refine he_iadd (n := 17) (by decide +kernel) (by omega) (by omega) ?_
  intro v16 hv16
  refine he_istore (n := 18) (i := 3) (by decide +kernel) rfl ?_
  refine he_iconst (n := 19) (c := 0) (by decide +kernel) (by decide) ?_
  intro c18 hc18
  refine he_istore (n := 21) (i := 4) (by decide +kernel) rfl ?_
  rw [hii] at hv5 hv15
  exact xo_apart69_l hm h1 hi K hv5.symm (by show _ = hv M 79 i + 2 + hv M 78 i; omega) i 0 _ _ _ rfl rfl (by omega) (by omega) (fun k hk => absurd hk (Nat.not_lt_zero k))
theorem xo_rr69 {d z u : Nat} {M : Nat → mq_C} {Q : (Option Value ⊕ Nat) → mq_S → Prop} {x1 x2 x3 : Int32} {i a e : Nat} (hm : mz_sh mz_GG M) (h1 : x1.toInt = (i : Int)) (hi : i < 6) (h2 : x2.toInt = (a : Int)) (h3 : x3.toInt = (e : Int)) (he : e ≤ 236) (K : ∀ (M' : Nat → mq_C) (r : Int32), mz_sh mz_GG M' → (∀ b, b < 74 ∨ 79 < b → M' b = M b) → (∀ b j, j ≠ i → hv M' b j = hv M b j) → ((xrk (hv M 70) e a ∧ xrf (xrr (hv M 70) a (hv M 70 a).toNat) (hv M 70 a).toNat) → r.toInt = (a : Int) + 12 + hv M 70 a ∧ xcr M' 69 i = xrr (hv M 70) a (hv M 70 a).toNat) → (¬ (xrk (hv M 70) e a ∧ xrf (xrr (hv M 70) a (hv M 70 a).toNat) (hv M 70 a).toNat) → r.toInt = -1) → Q (.inl (some (.int r))) (M', z, u)) : mq_R mq_PP (d + 1) 53 0 [some (.ref 69), some (.int x1), some (.int x2), some (.int x3), none, none, none, none] [] (M, z, u) Q := by
  refine he_iload (n := 1) (i := 2) (by decide +kernel) rfl ?_
  refine he_iload (n := 2) (i := 3) (by decide +kernel) rfl ?_
  by_cases g2 : x2.toInt < x3.toInt
  rotate_left
  · skip
    refine he_cmplt_f (n := 5) (t := 7) (by decide +kernel) (by omega) ?_
    refine he_iconst (n := 6) (c := -1) (by decide +kernel) (by decide) ?_
    intro c5 hc5
    refine he_reti (by decide +kernel) ?_
    exact K M _ hm (fun _ _ => rfl) (fun _ _ _ => rfl) (fun h => by have := h.1.1; omega) (fun _ => by omega)
  refine he_cmplt_t (n := 5) (t := 7) (by decide +kernel) (by omega) ?_
  refine he_aload (n := 8) (i := 0) (by decide +kernel) rfl ?_
  refine he_getr (n := 11) (ci := 1) (j := 0) (ns := [1214, 9]) (b := 70) hm (by decide +kernel) rfl rfl (by decide +kernel) ?_
  refine he_iload (n := 12) (i := 2) (by decide +kernel) rfl ?_
  refine hb_ld (n := 13) (kind := 64) hm (by decide +kernel) rfl rfl (.inl rfl) (by omega) (show _ < (240 : Int) by omega) hb_at1 ?_
  intro v12 hv12 lv12 uv12
  refine he_istore (n := 15) (i := 4) (by decide +kernel) rfl ?_
  refine he_iload (n := 16) (i := 2) (by decide +kernel) rfl ?_
  refine he_iconst (n := 18) (c := 12) (by decide +kernel) (by decide) ?_
  intro c16 hc16
  refine he_iadd (n := 19) (by decide +kernel) (by omega) (by omega) ?_
  intro v18 hv18
  refine he_iload (n := 21) (i := 4) (by decide +kernel) rfl ?_
  refine he_iadd (n := 22) (by decide +kernel) (by omega) (by omega) ?_
  intro v21 hv21
  refine he_istore (n := 24) (i := 5) (by decide +kernel) rfl ?_
  refine he_iload (n := 26) (i := 4) (by decide +kernel) rfl ?_
  refine he_iconst (n := 27) (c := 1) (by decide +kernel) (by decide) ?_
  intro c26 hc26
  have q12 : hv M 70 a = v12.toInt := by rw [← hv12, show x2.toInt.toNat = a by omega]
  by_cases g27 : v12.toInt < c26.toInt
  · skip
    refine he_cmplt_t (n := 30) (t := 42) (by decide +kernel) (by omega) ?_
    refine he_iconst (n := 43) (c := -1) (by decide +kernel) (by decide) ?_
    intro c42 hc42
    refine he_reti (by decide +kernel) ?_
    exact K M _ hm (fun _ _ => rfl) (fun _ _ _ => rfl) (fun h => by have := h.1.2.1; omega) (fun _ => by omega)
  refine he_cmplt_f (n := 30) (t := 42) (by decide +kernel) (by omega) ?_
  refine he_iload (n := 32) (i := 4) (by decide +kernel) rfl ?_
  refine he_iconst (n := 33) (c := 4) (by decide +kernel) (by decide) ?_
  intro c32 hc32
  by_cases g33 : c32.toInt < v12.toInt
  · skip
    refine he_cmpgt_t (n := 36) (t := 42) (by decide +kernel) (by omega) ?_
    refine he_iconst (n := 43) (c := -1) (by decide +kernel) (by decide) ?_
    intro c42 hc42
    refine he_reti (by decide +kernel) ?_
    exact K M _ hm (fun _ _ => rfl) (fun _ _ _ => rfl) (fun h => by have := h.1.2.2.1; omega) (fun _ => by omega)
  refine he_cmpgt_f (n := 36) (t := 42) (by decide +kernel) (by omega) ?_
  refine he_iload (n := 38) (i := 5) (by decide +kernel) rfl ?_
  refine he_iload (n := 39) (i := 3) (by decide +kernel) rfl ?_
  by_cases g39 : v21.toInt ≤ x3.toInt
  rotate_left
  · skip
    refine he_cmple_f (n := 42) (t := 44) (by decide +kernel) (by omega) ?_
    refine he_iconst (n := 43) (c := -1) (by decide +kernel) (by decide) ?_
    intro c42 hc42
    refine he_reti (by decide +kernel) ?_
    exact K M _ hm (fun _ _ => rfl) (fun _ _ _ => rfl) (fun h => by have := h.1.2.2.2; omega) (fun _ => by omega)
  obtain ⟨n, hn⟩ : ∃ n : Nat, v12.toInt = (n : Int) := ⟨v12.toInt.toNat, by omega⟩
  have hn9 : (hv M 70 a).toNat = n := by omega
  have hk : xrk (hv M 70) e a := ⟨by omega, by omega, by omega, by omega⟩
  rw [hn9] at K
  rw [q12, hn] at K
  refine he_cmple_t (n := 42) (t := 44) (by decide +kernel) (by omega) ?_
  refine he_iload (n := 45) (i := 2) (by decide +kernel) rfl ?_
  refine he_iconst (n := 46) (c := 1) (by decide +kernel) (by decide) ?_
  intro c45 hc45
  refine he_iadd (n := 47) (by decide +kernel) (by omega) (by omega) ?_
  intro v46 hv46
  refine he_iload (n := 49) (i := 4) (by decide +kernel) rfl ?_
  refine he_iadd (n := 50) (by decide +kernel) (by omega) (by omega) ?_
  intro v49 hv49
  refine he_istore (n := 52) (i := 6) (by decide +kernel) rfl ?_
  refine he_aload (n := 53) (i := 0) (by decide +kernel) rfl ?_
  refine he_getr (n := 56) (ci := 1) (j := 5) (ns := [1225, 33]) (b := 74) hm (by decide +kernel) rfl rfl (by decide +kernel) ?_
  refine he_iload (n := 57) (i := 1) (by decide +kernel) rfl ?_
  refine he_aload (n := 58) (i := 0) (by decide +kernel) rfl ?_
  refine he_iload (n := 59) (i := 2) (by decide +kernel) rfl ?_
  refine he_iconst (n := 60) (c := 1) (by decide +kernel) (by decide) ?_
  intro c59 hc59
  refine he_iadd (n := 61) (by decide +kernel) (by omega) (by omega) ?_
  intro v60 hv60
  refine he_iload (n := 63) (i := 4) (by decide +kernel) rfl ?_
  refine he_v2 (n := 66) (j := 56) (ci := 1) (mx := 5) (ns := [3013, 3015, 14, 86]) (by decide +kernel) ((hb_kd (a := 69) hm rfl).trans rfl) (by show 2 ≤ 8; omega) (by show 3 ≤ 5; omega) ?_
  rw [mq_e56]
  refine xo_num69 (a := a + 1) (n := n) hm (by omega) (by omega) (by omega) (by omega) ?_
  intro r5 hr5
  have br5 := mz_i32 r5
  show mq_R mq_PP (d + 1) 53 66 _ [.int r5, .int x1, .ref 74] (M, z, u) Q
  refine hb_sta (n := 67) (kind := 64) hm (by decide +kernel) rfl rfl (.inl rfl) (by omega) (show _ < (6 : Int) by omega) ?_
  generalize hMa1 : hb_set M 74 (x1.toInt.toNat) r5 = Ma1
  have hma1 : mz_sh mz_GG Ma1 := by rw [← hMa1]; exact hb_set_sh hm rfl hb_at1 br5.1 br5.2
  have eMa1 : ∀ b j, b ≠ 74 ∨ j ≠ x1.toInt.toNat → hv Ma1 b j = hv M b j := by intro b j h; rw [← hMa1]; exact hb_set_n h
  have sMa1 : hv Ma1 74 (x1.toInt.toNat) = r5.toInt := by rw [← hMa1]; exact hb_set_v hm rfl (show _ < 6 by omega)
  have wMa1 : ∀ b, b ≠ 74 → Ma1 b = M b := by intro b h; rw [← hMa1]; exact hb_set_c h
  have uMa1 : ∀ b t, b < 74 ∨ 74 < b → hv Ma1 b t = hv M b t := fun b t hb => (eMa1 _ _ (.inl (by omega))).trans (rfl)
  refine he_aload (n := 68) (i := 0) (by decide +kernel) rfl ?_
  refine he_getr (n := 71) (ci := 1) (j := 6) (ns := [1226, 36]) (b := 75) hma1 (by decide +kernel) rfl rfl (by decide +kernel) ?_
  refine he_iload (n := 72) (i := 1) (by decide +kernel) rfl ?_
  refine he_aload (n := 73) (i := 0) (by decide +kernel) rfl ?_
  refine he_getr (n := 76) (ci := 1) (j := 0) (ns := [1214, 9]) (b := 70) hma1 (by decide +kernel) rfl rfl (by decide +kernel) ?_
  refine he_iload (n := 78) (i := 6) (by decide +kernel) rfl ?_
  refine hb_ld (n := 79) (kind := 64) hma1 (by decide +kernel) rfl rfl (.inl rfl) (by omega) (show _ < (240 : Int) by omega) hb_at1 ?_
  intro va78 hva78 lva78 uva78
  refine hb_sta (n := 80) (kind := 64) hma1 (by decide +kernel) rfl rfl (.inl rfl) (by omega) (show _ < (6 : Int) by omega) ?_
  generalize hMa2 : hb_set Ma1 75 (x1.toInt.toNat) va78 = Ma2
  have hma2 : mz_sh mz_GG Ma2 := by rw [← hMa2]; exact hb_set_sh hma1 rfl hb_at1 (by omega) (by omega)
  have eMa2 : ∀ b j, b ≠ 75 ∨ j ≠ x1.toInt.toNat → hv Ma2 b j = hv Ma1 b j := by intro b j h; rw [← hMa2]; exact hb_set_n h
  have sMa2 : hv Ma2 75 (x1.toInt.toNat) = va78.toInt := by rw [← hMa2]; exact hb_set_v hma1 rfl (show _ < 6 by omega)
  have wMa2 : ∀ b, b ≠ 75 → Ma2 b = Ma1 b := by intro b h; rw [← hMa2]; exact hb_set_c h
  have uMa2 : ∀ b t, b < 74 ∨ 75 < b → hv Ma2 b t = hv M b t := fun b t hb => (eMa2 _ _ (.inl (by omega))).trans (uMa1 b t (by omega))
  refine he_aload (n := 81) (i := 0) (by decide +kernel) rfl ?_
  refine he_getr (n := 84) (ci := 1) (j := 7) (ns := [1227, 39]) (b := 76) hma2 (by decide +kernel) rfl rfl (by decide +kernel) ?_
  refine he_iload (n := 85) (i := 1) (by decide +kernel) rfl ?_
  refine he_aload (n := 86) (i := 0) (by decide +kernel) rfl ?_
  refine he_iload (n := 88) (i := 6) (by decide +kernel) rfl ?_
  refine he_iconst (n := 89) (c := 1) (by decide +kernel) (by decide) ?_
  intro ca88 hca88
  refine he_iadd (n := 90) (by decide +kernel) (by omega) (by omega) ?_
  intro va89 hva89
  refine he_iconst (n := 91) (c := 4) (by decide +kernel) (by decide) ?_
  intro ca90 hca90
  refine he_v2 (n := 94) (j := 56) (ci := 1) (mx := 5) (ns := [3013, 3015, 14, 86]) (by decide +kernel) ((hb_kd (a := 69) hma2 rfl).trans rfl) (by show 2 ≤ 8; omega) (by show 3 ≤ 5; omega) ?_
  rw [mq_e56]
  refine xo_num69 (a := a + 1 + n + 1) (n := 4) hma2 (by omega) (by omega) (by omega) (by omega) ?_
  intro r7 hr7
  have br7 := mz_i32 r7
  show mq_R mq_PP (d + 1) 53 94 _ [.int r7, .int x1, .ref 76] (Ma2, z, u) Q
  rw [show (hv Ma2 70) = hv M 70 from funext fun t => uMa2 _ _ (by decide)] at hr7
  refine hb_sta (n := 95) (kind := 64) hma2 (by decide +kernel) rfl rfl (.inl rfl) (by omega) (show _ < (6 : Int) by omega) ?_
  generalize hMc1 : hb_set Ma2 76 (x1.toInt.toNat) r7 = Mc1
  have hmc1 : mz_sh mz_GG Mc1 := by rw [← hMc1]; exact hb_set_sh hma2 rfl hb_at1 br7.1 br7.2
  have eMc1 : ∀ b j, b ≠ 76 ∨ j ≠ x1.toInt.toNat → hv Mc1 b j = hv Ma2 b j := by intro b j h; rw [← hMc1]; exact hb_set_n h
  have sMc1 : hv Mc1 76 (x1.toInt.toNat) = r7.toInt := by rw [← hMc1]; exact hb_set_v hma2 rfl (show _ < 6 by omega)
  have wMc1 : ∀ b, b ≠ 76 → Mc1 b = Ma2 b := by intro b h; rw [← hMc1]; exact hb_set_c h
  have uMc1 : ∀ b t, b < 74 ∨ 76 < b → hv Mc1 b t = hv M b t := fun b t hb => (eMc1 _ _ (.inl (by omega))).trans (uMa2 b t (by omega))
  refine he_aload (n := 96) (i := 0) (by decide +kernel) rfl ?_
  refine he_getr (n := 99) (ci := 1) (j := 8) (ns := [1228, 42]) (b := 77) hmc1 (by decide +kernel) rfl rfl (by decide +kernel) ?_
  refine he_iload (n := 100) (i := 1) (by decide +kernel) rfl ?_
  refine he_aload (n := 101) (i := 0) (by decide +kernel) rfl ?_
  refine he_iload (n := 103) (i := 6) (by decide +kernel) rfl ?_
  refine he_iconst (n := 104) (c := 5) (by decide +kernel) (by decide) ?_
  intro cc103 hcc103
  refine he_iadd (n := 105) (by decide +kernel) (by omega) (by omega) ?_
  intro vc104 hvc104
  refine he_iconst (n := 106) (c := 2) (by decide +kernel) (by decide) ?_
  intro cc105 hcc105
  refine he_v2 (n := 109) (j := 56) (ci := 1) (mx := 5) (ns := [3013, 3015, 14, 86]) (by decide +kernel) ((hb_kd (a := 69) hmc1 rfl).trans rfl) (by show 2 ≤ 8; omega) (by show 3 ≤ 5; omega) ?_
  rw [mq_e56]
  refine xo_num69 (a := a + 1 + n + 5) (n := 2) hmc1 (by omega) (by omega) (by omega) (by omega) ?_
  intro r8 hr8
  show mq_R mq_PP (d + 1) 53 109 _ [.int r8, .int x1, .ref 77] (Mc1, z, u) Q
  rw [show (hv Mc1 70) = hv M 70 from funext fun t => uMc1 _ _ (by decide)] at hr8
  have p8 : xnN (hv M 70) (a + 1 + n + 5) 2 < 65536 := xnN_lt (b := hv M 70) (a := a + 1 + n + 5) 2 (fun t ht => (xx_rng (c := _) hm (a := 70) (i := a + 1 + n + 5 + t) (lo := 0) (hi := 255) rfl (show a + 1 + n + 5 + t < 240 by omega) hb_at1).2)
  rw [xs32_p (by omega)] at hr8
  refine hb_sta (n := 110) (kind := 64) hmc1 (by decide +kernel) rfl rfl (.inl rfl) (by omega) (show _ < (6 : Int) by omega) ?_
  generalize hMe1 : hb_set Mc1 77 (x1.toInt.toNat) r8 = Me1
  have hme1 : mz_sh mz_GG Me1 := by rw [← hMe1]; exact hb_set_sh hmc1 rfl hb_at1 (by omega) (by omega)
  have eMe1 : ∀ b j, b ≠ 77 ∨ j ≠ x1.toInt.toNat → hv Me1 b j = hv Mc1 b j := by intro b j h; rw [← hMe1]; exact hb_set_n h
  have sMe1 : hv Me1 77 (x1.toInt.toNat) = r8.toInt := by rw [← hMe1]; exact hb_set_v hmc1 rfl (show _ < 6 by omega)
  have wMe1 : ∀ b, b ≠ 77 → Me1 b = Mc1 b := by intro b h; rw [← hMe1]; exact hb_set_c h
  have uMe1 : ∀ b t, b < 74 ∨ 77 < b → hv Me1 b t = hv M b t := fun b t hb => (eMe1 _ _ (.inl (by omega))).trans (uMc1 b t (by omega))
  refine he_aload (n := 111) (i := 0) (by decide +kernel) rfl ?_
  refine he_getr (n := 114) (ci := 1) (j := 9) (ns := [1229, 45]) (b := 78) hme1 (by decide +kernel) rfl rfl (by decide +kernel) ?_
  refine he_iload (n := 115) (i := 1) (by decide +kernel) rfl ?_
  refine he_aload (n := 116) (i := 0) (by decide +kernel) rfl ?_
  refine he_iload (n := 118) (i := 6) (by decide +kernel) rfl ?_
  refine he_iconst (n := 120) (c := 7) (by decide +kernel) (by decide) ?_
  intro ce118 hce118
  refine he_iadd (n := 121) (by decide +kernel) (by omega) (by omega) ?_
  intro ve120 hve120
  refine he_iconst (n := 122) (c := 2) (by decide +kernel) (by decide) ?_
  intro ce121 hce121
  refine he_v2 (n := 125) (j := 56) (ci := 1) (mx := 5) (ns := [3013, 3015, 14, 86]) (by decide +kernel) ((hb_kd (a := 69) hme1 rfl).trans rfl) (by show 2 ≤ 8; omega) (by show 3 ≤ 5; omega) ?_
  rw [mq_e56]
  refine xo_num69 (a := a + 1 + n + 7) (n := 2) hme1 (by omega) (by omega) (by omega) (by omega) ?_
  intro r9 hr9
  show mq_R mq_PP (d + 1) 53 125 _ [.int r9, .int x1, .ref 78] (Me1, z, u) Q
  rw [show (hv Me1 70) = hv M 70 from funext fun t => uMe1 _ _ (by decide)] at hr9
  have p9 : xnN (hv M 70) (a + 1 + n + 7) 2 < 65536 := xnN_lt (b := hv M 70) (a := a + 1 + n + 7) 2 (fun t ht => (xx_rng (c := _) hm (a := 70) (i := a + 1 + n + 7 + t) (lo := 0) (hi := 255) rfl (show a + 1 + n + 7 + t < 240 by omega) hb_at1).2)
  rw [xs32_p (by omega)] at hr9
  refine hb_sta (n := 126) (kind := 64) hme1 (by decide +kernel) rfl rfl (.inl rfl) (by omega) (show _ < (6 : Int) by omega) ?_
  generalize hMf1 : hb_set Me1 78 (x1.toInt.toNat) r9 = Mf1
  have hmf1 : mz_sh mz_GG Mf1 := by rw [← hMf1]; exact hb_set_sh hme1 rfl hb_at1 (by omega) (by omega)
  have eMf1 : ∀ b j, b ≠ 78 ∨ j ≠ x1.toInt.toNat → hv Mf1 b j = hv Me1 b j := by intro b j h; rw [← hMf1]; exact hb_set_n h
  have sMf1 : hv Mf1 78 (x1.toInt.toNat) = r9.toInt := by rw [← hMf1]; exact hb_set_v hme1 rfl (show _ < 6 by omega)
  have wMf1 : ∀ b, b ≠ 78 → Mf1 b = Me1 b := by intro b h; rw [← hMf1]; exact hb_set_c h
  have uMf1 : ∀ b t, b < 74 ∨ 78 < b → hv Mf1 b t = hv M b t := fun b t hb => (eMf1 _ _ (.inl (by omega))).trans (uMe1 b t (by omega))
  refine he_aload (n := 127) (i := 0) (by decide +kernel) rfl ?_
  refine he_getr (n := 130) (ci := 1) (j := 10) (ns := [1230, 48]) (b := 79) hmf1 (by decide +kernel) rfl rfl (by decide +kernel) ?_
  refine he_iload (n := 131) (i := 1) (by decide +kernel) rfl ?_
  refine he_aload (n := 132) (i := 0) (by decide +kernel) rfl ?_
  refine he_iload (n := 134) (i := 6) (by decide +kernel) rfl ?_
  refine he_iconst (n := 136) (c := 9) (by decide +kernel) (by decide) ?_
  intro cf134 hcf134
  refine he_iadd (n := 137) (by decide +kernel) (by omega) (by omega) ?_
  intro vf136 hvf136
  refine he_iconst (n := 138) (c := 2) (by decide +kernel) (by decide) ?_
  intro cf137 hcf137
  refine he_v2 (n := 141) (j := 56) (ci := 1) (mx := 5) (ns := [3013, 3015, 14, 86]) (by decide +kernel) ((hb_kd (a := 69) hmf1 rfl).trans rfl) (by show 2 ≤ 8; omega) (by show 3 ≤ 5; omega) ?_
  rw [mq_e56]
  refine xo_num69 (a := a + 1 + n + 9) (n := 2) hmf1 (by omega) (by omega) (by omega) (by omega) ?_
  intro r10 hr10
  show mq_R mq_PP (d + 1) 53 141 _ [.int r10, .int x1, .ref 79] (Mf1, z, u) Q
  rw [show (hv Mf1 70) = hv M 70 from funext fun t => uMf1 _ _ (by decide)] at hr10
  have p10 : xnN (hv M 70) (a + 1 + n + 9) 2 < 65536 := xnN_lt (b := hv M 70) (a := a + 1 + n + 9) 2 (fun t ht => (xx_rng (c := _) hm (a := 70) (i := a + 1 + n + 9 + t) (lo := 0) (hi := 255) rfl (show a + 1 + n + 9 + t < 240 by omega) hb_at1).2)
  rw [xs32_p (by omega)] at hr10
  refine hb_sta (n := 142) (kind := 64) hmf1 (by decide +kernel) rfl rfl (.inl rfl) (by omega) (show _ < (6 : Int) by omega) ?_
  generalize hMg1 : hb_set Mf1 79 (x1.toInt.toNat) r10 = Mg1
  have hmg1 : mz_sh mz_GG Mg1 := by rw [← hMg1]; exact hb_set_sh hmf1 rfl hb_at1 (by omega) (by omega)
  have eMg1 : ∀ b j, b ≠ 79 ∨ j ≠ x1.toInt.toNat → hv Mg1 b j = hv Mf1 b j := by intro b j h; rw [← hMg1]; exact hb_set_n h
  have sMg1 : hv Mg1 79 (x1.toInt.toNat) = r10.toInt := by rw [← hMg1]; exact hb_set_v hmf1 rfl (show _ < 6 by omega)
  have wMg1 : ∀ b, b ≠ 79 → Mg1 b = Mf1 b := by intro b h; rw [← hMg1]; exact hb_set_c h
  have uMg1 : ∀ b t, b < 74 ∨ 79 < b → hv Mg1 b t = hv M b t := fun b t hb => (eMg1 _ _ (.inl (by omega))).trans (uMf1 b t (by omega))
  have hii : x1.toInt.toNat = i := by omega
  have c5 : hv Mg1 74 x1.toInt.toNat = r5.toInt := (eMg1 _ _ (.inl (by decide))).trans ((eMf1 _ _ (.inl (by decide))).trans ((eMe1 _ _ (.inl (by decide))).trans ((eMc1 _ _ (.inl (by decide))).trans ((eMa2 _ _ (.inl (by decide))).trans (sMa1)))))
  have c6 : hv Mg1 75 x1.toInt.toNat = va78.toInt := (eMg1 _ _ (.inl (by decide))).trans ((eMf1 _ _ (.inl (by decide))).trans ((eMe1 _ _ (.inl (by decide))).trans ((eMc1 _ _ (.inl (by decide))).trans (sMa2))))
  have c7 : hv Mg1 76 x1.toInt.toNat = r7.toInt := (eMg1 _ _ (.inl (by decide))).trans ((eMf1 _ _ (.inl (by decide))).trans ((eMe1 _ _ (.inl (by decide))).trans (sMc1)))
  have c8 : hv Mg1 77 x1.toInt.toNat = r8.toInt := (eMg1 _ _ (.inl (by decide))).trans ((eMf1 _ _ (.inl (by decide))).trans (sMe1))
  have c9 : hv Mg1 78 x1.toInt.toNat = r9.toInt := (eMg1 _ _ (.inl (by decide))).trans (sMf1)
  have c10 : hv Mg1 79 x1.toInt.toNat = r10.toInt := sMg1
  have q78 : va78.toInt = hv M 70 (a + 1 + n) := by rw [← hva78, show v49.toInt.toNat = a + 1 + n by omega]; exact uMa1 _ _ (by omega)
  have hrec : xcr Mg1 69 i = xrr (hv M 70) a n := by
    unfold xcr xrr
    rw [← hii, c5, c6, c7, c8, c9, c10, hr5, q78, hr7, hr8, hr9, hr10]
  have kw : ∀ b, b < 74 ∨ 79 < b → Mg1 b = M b := fun b hb => by rw [wMg1 b (by omega), wMf1 b (by omega), wMe1 b (by omega), wMc1 b (by omega), wMa2 b (by omega), wMa1 b (by omega)]
  have ke : ∀ b j, j ≠ i → hv Mg1 b j = hv M b j := fun b j hj => by rw [eMg1 _ _ (.inr (by omega)), eMf1 _ _ (.inr (by omega)), eMe1 _ _ (.inr (by omega)), eMc1 _ _ (.inr (by omega)), eMa2 _ _ (.inr (by omega)), eMa1 _ _ (.inr (by omega))]
  refine he_aload (n := 143) (i := 0) (by decide +kernel) rfl ?_
  refine he_getr (n := 146) (ci := 1) (j := 5) (ns := [1225, 33]) (b := 74) hmg1 (by decide +kernel) rfl rfl (by decide +kernel) ?_
  refine he_iload (n := 147) (i := 1) (by decide +kernel) rfl ?_
  refine hb_ld (n := 148) (kind := 64) hmg1 (by decide +kernel) rfl rfl (.inl rfl) (by omega) (show _ < (6 : Int) by omega) hb_at1 ?_
  intro vg147 hvg147 lvg147 uvg147
  refine he_s1 (n := 151) (j := 22) (mx := 4) (ns := [3021, 2136, 1001, 102]) (by decide +kernel) (by show 0 ≤ 8; omega) (by show 1 ≤ 4; omega) ?_
  rw [mq_e22]
  refine lx_nl ?_
  intro rn hrn
  show mq_R mq_PP (d + 1) 53 151 _ [.int rn] (Mg1, z, u) Q
  have qn : vg147.toInt = (xrr (hv M 70) a n).1 := by rw [← hrec, ← hvg147, hii]; rfl
  rw [qn] at hrn
  have qs : (xrr (hv M 70) a n).2.2.2.1 = r8.toInt := by rw [hr8]; rfl
  have qm : (xrr (hv M 70) a n).2.1 = va78.toInt := by rw [q78]; rfl
  unfold xrf at K
  rw [qs, qm] at K
  refine he_iload (n := 153) (i := 4) (by decide +kernel) rfl ?_
  by_cases b153 : rn.toInt = v12.toInt
  rotate_left
  · skip
    refine he_cmpne_t (n := 156) (t := 192) (by decide +kernel) (by omega) ?_
    refine he_iconst (n := 193) (c := 0) (by decide +kernel) (by decide) ?_
    intro ch192 hch192
    refine he_istore (n := 195) (i := 7) (by decide +kernel) rfl ?_
    refine he_iload (n := 197) (i := 7) (by decide +kernel) rfl ?_
    refine he_ifeq_t (n := 200) (t := 205) (by decide +kernel) (by omega) ?_
    refine he_iconst (n := 206) (c := -1) (by decide +kernel) (by decide) ?_
    intro ch205 hch205
    refine he_reti (by decide +kernel) ?_
    exact K Mg1 _ hmg1 kw ke (fun h => by exfalso; obtain ⟨_, g1, g2, g3⟩ := h; omega) (fun _ => by omega)
  refine he_cmpne_f (n := 156) (t := 192) (by decide +kernel) (by omega) ?_
  refine he_aload (n := 157) (i := 0) (by decide +kernel) rfl ?_
  refine he_getr (n := 160) (ci := 1) (j := 8) (ns := [1228, 42]) (b := 77) hmg1 (by decide +kernel) rfl rfl (by decide +kernel) ?_
  refine he_iload (n := 161) (i := 1) (by decide +kernel) rfl ?_
  refine hb_ld (n := 162) (kind := 64) hmg1 (by decide +kernel) rfl rfl (.inl rfl) (by omega) (show _ < (6 : Int) by omega) hb_at1 ?_
  intro vh161 hvh161 lvh161 uvh161
  refine he_iconst (n := 165) (c := 200) (by decide +kernel) (by decide) ?_
  intro ch162 hch162
  have q161 : vh161.toInt = r8.toInt := hvh161.symm.trans c8
  by_cases b165 : r8.toInt ≤ 200
  rotate_left
  · skip
    refine he_cmpgt_t (n := 168) (t := 192) (by decide +kernel) (by omega) ?_
    refine he_iconst (n := 193) (c := 0) (by decide +kernel) (by decide) ?_
    intro ch192 hch192
    refine he_istore (n := 195) (i := 7) (by decide +kernel) rfl ?_
    refine he_iload (n := 197) (i := 7) (by decide +kernel) rfl ?_
    refine he_ifeq_t (n := 200) (t := 205) (by decide +kernel) (by omega) ?_
    refine he_iconst (n := 206) (c := -1) (by decide +kernel) (by decide) ?_
    intro ch205 hch205
    refine he_reti (by decide +kernel) ?_
    exact K Mg1 _ hmg1 kw ke (fun h => by exfalso; obtain ⟨_, g1, g2, g3⟩ := h; omega) (fun _ => by omega)
  refine he_cmpgt_f (n := 168) (t := 192) (by decide +kernel) (by omega) ?_
  refine he_aload (n := 169) (i := 0) (by decide +kernel) rfl ?_
  refine he_getr (n := 172) (ci := 1) (j := 6) (ns := [1226, 36]) (b := 75) hmg1 (by decide +kernel) rfl rfl (by decide +kernel) ?_
  refine he_iload (n := 173) (i := 1) (by decide +kernel) rfl ?_
  refine hb_ld (n := 174) (kind := 64) hmg1 (by decide +kernel) rfl rfl (.inl rfl) (by omega) (show _ < (6 : Int) by omega) hb_at1 ?_
  intro vh173 hvh173 lvh173 uvh173
  have q173 : vh173.toInt = va78.toInt := hvh173.symm.trans c6
  by_cases b174 : vh173.toInt = 0
  · skip
    refine he_ifeq_t (n := 177) (t := 188) (by decide +kernel) (by omega) ?_
    refine he_iconst (n := 189) (c := 1) (by decide +kernel) (by decide) ?_
    intro ch188 hch188
    refine he_goto (t := 193) (by decide +kernel) ?_
    refine he_istore (n := 195) (i := 7) (by decide +kernel) rfl ?_
    refine he_iload (n := 197) (i := 7) (by decide +kernel) rfl ?_
    refine he_ifeq_f (n := 200) (t := 205) (by decide +kernel) (by omega) ?_
    refine he_iload (n := 202) (i := 5) (by decide +kernel) rfl ?_
    refine he_goto (t := 206) (by decide +kernel) ?_
    refine he_reti (by decide +kernel) ?_
    exact K Mg1 _ hmg1 kw ke (fun _ => ⟨by omega, hrec⟩) (fun h => absurd ⟨hk, by omega, by omega, by omega⟩ h)
  refine he_ifeq_f (n := 177) (t := 188) (by decide +kernel) (by omega) ?_
  refine he_aload (n := 178) (i := 0) (by decide +kernel) rfl ?_
  refine he_getr (n := 181) (ci := 1) (j := 6) (ns := [1226, 36]) (b := 75) hmg1 (by decide +kernel) rfl rfl (by decide +kernel) ?_
  refine he_iload (n := 182) (i := 1) (by decide +kernel) rfl ?_
  refine hb_ld (n := 183) (kind := 64) hmg1 (by decide +kernel) rfl rfl (.inl rfl) (by omega) (show _ < (6 : Int) by omega) hb_at1 ?_
  intro vh182 hvh182 lvh182 uvh182
  refine he_iconst (n := 185) (c := 8) (by decide +kernel) (by decide) ?_
  intro ch183 hch183
  have q182 : vh182.toInt = va78.toInt := hvh182.symm.trans c6
  by_cases b185 : vh182.toInt = 8
  · skip
    refine he_cmpne_f (n := 188) (t := 192) (by decide +kernel) (by omega) ?_
    refine he_iconst (n := 189) (c := 1) (by decide +kernel) (by decide) ?_
    intro ch188 hch188
    refine he_goto (t := 193) (by decide +kernel) ?_
    refine he_istore (n := 195) (i := 7) (by decide +kernel) rfl ?_
    refine he_iload (n := 197) (i := 7) (by decide +kernel) rfl ?_
    refine he_ifeq_f (n := 200) (t := 205) (by decide +kernel) (by omega) ?_
    refine he_iload (n := 202) (i := 5) (by decide +kernel) rfl ?_
    refine he_goto (t := 206) (by decide +kernel) ?_
    refine he_reti (by decide +kernel) ?_
    exact K Mg1 _ hmg1 kw ke (fun _ => ⟨by omega, hrec⟩) (fun h => absurd ⟨hk, by omega, by omega, by omega⟩ h)
  · skip
    refine he_cmpne_t (n := 188) (t := 192) (by decide +kernel) (by omega) ?_
    refine he_iconst (n := 193) (c := 0) (by decide +kernel) (by decide) ?_
    intro ch192 hch192
    refine he_istore (n := 195) (i := 7) (by decide +kernel) rfl ?_
    refine he_iload (n := 197) (i := 7) (by decide +kernel) rfl ?_
    refine he_ifeq_t (n := 200) (t := 205) (by decide +kernel) (by omega) ?_
    refine he_iconst (n := 206) (c := -1) (by decide +kernel) (by decide) ?_
    intro ch205 hch205
    refine he_reti (by decide +kernel) ?_
    exact K Mg1 _ hmg1 kw ke (fun h => by exfalso; obtain ⟨_, g1, g2, g3⟩ := h; omega) (fun _ => by omega)
