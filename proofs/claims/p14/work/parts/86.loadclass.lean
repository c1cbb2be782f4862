/-! loadClass. -/
theorem hg_c0 {t : Nat} (hC : ∀ c ∈ mz_Cs, c.2 < 11 → mz_Ct mz_GG mq_PP HX c.1 c.2) (IH : ∀ t', t = t' + 1 → hl_IH t') {d z u : Nat} {Q : (Option Value ⊕ Nat) → mq_S → Prop} {M : Nat → mq_C} {x1 x2 x3 : Int32} (hd : 12 + 3 * t ≤ d) (hz : 272 ≤ z) (hm : mz_sh mz_GG M) (hx : HX M) (p1 : x1.toInt = 0) (p3 : 0 ≤ x2.toInt) (p4 : x2.toInt ≤ 31) (p6 : x3.toInt + (t : Int) = 41) (p5 : 0 ≤ x3.toInt)
    (K : ∀ (M' : Nat → mq_C) (r : Int32), mz_sh mz_GG M' → HX M' → hl_rel 0 x3.toInt.toNat M M' → -1 ≤ r.toInt → r.toInt ≤ 127 → Q (.inl (some (.int r))) (M', z, u)) : mq_R mq_PP d 37 0 [some (.ref 8), some (.int x1), some (.int x2), some (.int x3), none, none] [] (M, z, u) Q := by
  obtain ⟨d, rfl⟩ : ∃ d', d = d' + 1 := ⟨d - 1, by omega⟩
  refine he_aload (n := 1) (i := 0) (by decide +kernel) rfl ?_
  refine he_getr (n := 4) (ci := 0) (j := 3) (ns := [2080, 31]) (b := 38) hm (by decide +kernel) rfl rfl (by decide +kernel) ?_
  refine he_iload (n := 5) (i := 1) (by decide +kernel) rfl ?_
  refine he_aald (n := 6) (kind := 75) (b := 91) hm (by decide +kernel) rfl rfl (by decide) (by omega) (by rw [show x1.toInt.toNat = 0 by omega]; decide +kernel) ?_
  refine he_astore (n := 8) (i := 4) (by decide +kernel) rfl ?_
  refine he_aload (n := 10) (i := 4) (by decide +kernel) rfl ?_
  refine he_getr (n := 13) (ci := 5) (j := 4) (ns := [2031, 263]) (b := 93) hm (by decide +kernel) rfl rfl (by decide +kernel) ?_
  refine he_iload (n := 14) (i := 2) (by decide +kernel) rfl ?_
  refine hb_ld (n := 15) (kind := 64) hm (by decide +kernel) rfl rfl (.inl rfl) (by omega) (show _ < (32 : Int) by omega) hb_at1 ?_
  intro v14 hv14 lv14 uv14
  refine he_iconst (n := 16) (c := -1) (by decide +kernel) (by decide) ?_
  intro c15 hc15
  by_cases h16 : v14.toInt = c15.toInt
  · skip
    refine he_cmpeq_t (n := 19) (t := 27) (by decide +kernel) (by omega) ?_
    refine he_aload (n := 29) (i := 4) (by decide +kernel) rfl ?_
    refine he_getr (n := 32) (ci := 5) (j := 5) (ns := [2033, 266]) (b := 94) hm (by decide +kernel) rfl rfl (by decide +kernel) ?_
    refine he_iload (n := 33) (i := 2) (by decide +kernel) rfl ?_
    refine hb_ld (n := 34) (kind := 65) hm (by decide +kernel) rfl rfl (.inr rfl) (by omega) (show _ < (32 : Int) by omega) hb_at1 ?_
    intro v33 hv33 lv33 uv33
    by_cases h34 : v33.toInt = 0
    · skip
      refine he_ifne_f (n := 37) (t := 43) (by decide +kernel) (by omega) ?_
      refine he_iload (n := 38) (i := 3) (by decide +kernel) rfl ?_
      refine he_iconst (n := 40) (c := 40) (by decide +kernel) (by decide) ?_
      intro c38 hc38
      by_cases h40 : x3.toInt ≤ c38.toInt
      · skip
        refine he_cmple_t (n := 43) (t := 51) (by decide +kernel) (by omega) ?_
        refine he_aload (n := 53) (i := 4) (by decide +kernel) rfl ?_
        refine hb_gfd (n := 56) (ci := 5) (j := 0) (ns := [2023, 143]) hm (by decide +kernel) rfl rfl (by decide) rfl ?_
        intro v53 hv53 lv53 uv53
        refine he_iconst (n := 57) (c := -1) (by decide +kernel) (by decide) ?_
        intro c56 hc56
        by_cases h57 : v53.toInt = c56.toInt
        · skip
          refine he_cmpeq_t (n := 60) (t := 91) (by decide +kernel) (by omega) ?_
          refine he_aload (n := 92) (i := 0) (by decide +kernel) rfl ?_
          refine he_iload (n := 93) (i := 1) (by decide +kernel) rfl ?_
          refine he_iload (n := 94) (i := 2) (by decide +kernel) rfl ?_
          refine he_iload (n := 95) (i := 3) (by decide +kernel) rfl ?_
          obtain ⟨t', rfl⟩ : ∃ t', t = t' + 1 := ⟨t - 1, by omega⟩
          refine he_v3 (n := 98) (j := 38) (ci := 0) (mx := 10) (ns := [4009, 4011, 39, 273]) (by decide +kernel) ((hb_kd (a := 8) hm rfl).trans rfl) (by decide) (by show 4 ≤ 10; omega) ?_
          rw [mq_e38]
          refine hg_l0 hC (IH t' rfl) (by omega) hz hm hx p1 p3 p4 p5 (by omega) (by omega) (by omega) ?_
          intro Mc rc hmc hxc hrc lc1 lc2
          show mq_R mq_PP (d + 1) 37 98 _ [.int rc] (Mc, z, u) Q
          refine he_reti (by decide +kernel) ?_
          exact K Mc _ hmc hxc hrc lc1 lc2
        · skip
          omega
      · skip
        refine he_cmple_f (n := 43) (t := 51) (by decide +kernel) (by omega) ?_
        refine he_aload (n := 44) (i := 0) (by decide +kernel) rfl ?_
        refine he_iconst (n := 46) (c := 6) (by decide +kernel) (by decide) ?_
        intro c44 hc44
        refine he_iload (n := 47) (i := 2) (by decide +kernel) rfl ?_
        refine he_v2 (n := 50) (j := 25) (ci := 0) (mx := 3) (ns := [4001, 4003, 37, 166]) (by decide +kernel) ((hb_kd (a := 8) hm rfl).trans rfl) (by decide) (by show 3 ≤ 3; omega) ?_
        rw [mq_e25]
        refine hu_blame (hC (mz_q72, 1) (List.mem_of_getElem? (show mz_Cs[72]? = _ from rfl)) (by decide)) (by omega) hz hm hx (by omega) (by omega) (by omega) (by omega) ?_
        intro Mx rx hmx hxx kd1 kd2 kd3 ld1
        show mq_R mq_PP (d + 1) 37 50 _ [.int rx] (Mx, z, u) Q
        refine he_reti (by decide +kernel) ?_
        exact K Mx _ hmx hxx (hl_relf (by omega) (by decide +kernel) (fun j _ => rfl) (by decide +kernel) kd1 kd2 kd3) (by omega) (by omega)
    · skip
      refine he_ifne_t (n := 37) (t := 43) (by decide +kernel) (by omega) ?_
      refine he_aload (n := 44) (i := 0) (by decide +kernel) rfl ?_
      refine he_iconst (n := 46) (c := 6) (by decide +kernel) (by decide) ?_
      intro c44 hc44
      refine he_iload (n := 47) (i := 2) (by decide +kernel) rfl ?_
      refine he_v2 (n := 50) (j := 25) (ci := 0) (mx := 3) (ns := [4001, 4003, 37, 166]) (by decide +kernel) ((hb_kd (a := 8) hm rfl).trans rfl) (by decide) (by show 3 ≤ 3; omega) ?_
      rw [mq_e25]
      refine hu_blame (hC (mz_q72, 1) (List.mem_of_getElem? (show mz_Cs[72]? = _ from rfl)) (by decide)) (by omega) hz hm hx (by omega) (by omega) (by omega) (by omega) ?_
      intro Mx rx hmx hxx kd1 kd2 kd3 ld1
      show mq_R mq_PP (d + 1) 37 50 _ [.int rx] (Mx, z, u) Q
      refine he_reti (by decide +kernel) ?_
      exact K Mx _ hmx hxx (hl_relf (by omega) (by decide +kernel) (fun j _ => rfl) (by decide +kernel) kd1 kd2 kd3) (by omega) (by omega)
  · skip
    refine he_cmpeq_f (n := 19) (t := 27) (by decide +kernel) (by omega) ?_
    refine he_aload (n := 21) (i := 4) (by decide +kernel) rfl ?_
    refine he_getr (n := 24) (ci := 5) (j := 4) (ns := [2031, 263]) (b := 93) hm (by decide +kernel) rfl rfl (by decide +kernel) ?_
    refine he_iload (n := 25) (i := 2) (by decide +kernel) rfl ?_
    refine hb_ld (n := 26) (kind := 64) hm (by decide +kernel) rfl rfl (.inl rfl) (by omega) (show _ < (32 : Int) by omega) hb_at1 ?_
    intro v25 hv25 lv25 uv25
    refine he_reti (by decide +kernel) ?_
    exact K M _ hm hx hl_relr (by omega) (by omega)
theorem hg_c1 {t : Nat} (hC : ∀ c ∈ mz_Cs, c.2 < 11 → mz_Ct mz_GG mq_PP HX c.1 c.2) (IH : ∀ t', t = t' + 1 → hl_IH t') {d z u : Nat} {Q : (Option Value ⊕ Nat) → mq_S → Prop} {M : Nat → mq_C} {x1 x2 x3 : Int32} (hd : 12 + 3 * t ≤ d) (hz : 272 ≤ z) (hm : mz_sh mz_GG M) (hx : HX M) (p1 : x1.toInt = 1) (p3 : 0 ≤ x2.toInt) (p4 : x2.toInt ≤ 31) (p6 : x3.toInt + (t : Int) = 41) (p5 : 0 ≤ x3.toInt)
    (K : ∀ (M' : Nat → mq_C) (r : Int32), mz_sh mz_GG M' → HX M' → hl_rel 1 x3.toInt.toNat M M' → -1 ≤ r.toInt → r.toInt ≤ 127 → Q (.inl (some (.int r))) (M', z, u)) : mq_R mq_PP d 37 0 [some (.ref 8), some (.int x1), some (.int x2), some (.int x3), none, none] [] (M, z, u) Q := by
  obtain ⟨d, rfl⟩ : ∃ d', d = d' + 1 := ⟨d - 1, by omega⟩
  refine he_aload (n := 1) (i := 0) (by decide +kernel) rfl ?_
  refine he_getr (n := 4) (ci := 0) (j := 3) (ns := [2080, 31]) (b := 38) hm (by decide +kernel) rfl rfl (by decide +kernel) ?_
  refine he_iload (n := 5) (i := 1) (by decide +kernel) rfl ?_
  refine he_aald (n := 6) (kind := 75) (b := 96) hm (by decide +kernel) rfl rfl (by decide) (by omega) (by rw [show x1.toInt.toNat = 1 by omega]; decide +kernel) ?_
  refine he_astore (n := 8) (i := 4) (by decide +kernel) rfl ?_
  refine he_aload (n := 10) (i := 4) (by decide +kernel) rfl ?_
  refine he_getr (n := 13) (ci := 5) (j := 4) (ns := [2031, 263]) (b := 98) hm (by decide +kernel) rfl rfl (by decide +kernel) ?_
  refine he_iload (n := 14) (i := 2) (by decide +kernel) rfl ?_
  refine hb_ld (n := 15) (kind := 64) hm (by decide +kernel) rfl rfl (.inl rfl) (by omega) (show _ < (32 : Int) by omega) hb_at1 ?_
  intro v14 hv14 lv14 uv14
  refine he_iconst (n := 16) (c := -1) (by decide +kernel) (by decide) ?_
  intro c15 hc15
  by_cases h16 : v14.toInt = c15.toInt
  · skip
    refine he_cmpeq_t (n := 19) (t := 27) (by decide +kernel) (by omega) ?_
    refine he_aload (n := 29) (i := 4) (by decide +kernel) rfl ?_
    refine he_getr (n := 32) (ci := 5) (j := 5) (ns := [2033, 266]) (b := 99) hm (by decide +kernel) rfl rfl (by decide +kernel) ?_
    refine he_iload (n := 33) (i := 2) (by decide +kernel) rfl ?_
    refine hb_ld (n := 34) (kind := 65) hm (by decide +kernel) rfl rfl (.inr rfl) (by omega) (show _ < (32 : Int) by omega) hb_at1 ?_
    intro v33 hv33 lv33 uv33
    by_cases h34 : v33.toInt = 0
    · skip
      refine he_ifne_f (n := 37) (t := 43) (by decide +kernel) (by omega) ?_
      refine he_iload (n := 38) (i := 3) (by decide +kernel) rfl ?_
      refine he_iconst (n := 40) (c := 40) (by decide +kernel) (by decide) ?_
      intro c38 hc38
      by_cases h40 : x3.toInt ≤ c38.toInt
      · skip
        refine he_cmple_t (n := 43) (t := 51) (by decide +kernel) (by omega) ?_
        refine he_aload (n := 53) (i := 4) (by decide +kernel) rfl ?_
        refine hb_gfd (n := 56) (ci := 5) (j := 0) (ns := [2023, 143]) hm (by decide +kernel) rfl rfl (by decide) rfl ?_
        intro v53 hv53 lv53 uv53
        refine he_iconst (n := 57) (c := -1) (by decide +kernel) (by decide) ?_
        intro c56 hc56
        by_cases h57 : v53.toInt = c56.toInt
        · skip
          refine he_cmpeq_t (n := 60) (t := 91) (by decide +kernel) (by omega) ?_
          refine he_aload (n := 92) (i := 0) (by decide +kernel) rfl ?_
          refine he_iload (n := 93) (i := 1) (by decide +kernel) rfl ?_
          refine he_iload (n := 94) (i := 2) (by decide +kernel) rfl ?_
          refine he_iload (n := 95) (i := 3) (by decide +kernel) rfl ?_
          obtain ⟨t', rfl⟩ : ∃ t', t = t' + 1 := ⟨t - 1, by omega⟩
          refine he_v3 (n := 98) (j := 38) (ci := 0) (mx := 10) (ns := [4009, 4011, 39, 273]) (by decide +kernel) ((hb_kd (a := 8) hm rfl).trans rfl) (by decide) (by show 4 ≤ 10; omega) ?_
          rw [mq_e38]
          refine hg_l1 hC (IH t' rfl) (by omega) hz hm hx p1 p3 p4 p5 (by omega) (by omega) (by omega) ?_
          intro Mc rc hmc hxc hrc lc1 lc2
          show mq_R mq_PP (d + 1) 37 98 _ [.int rc] (Mc, z, u) Q
          refine he_reti (by decide +kernel) ?_
          exact K Mc _ hmc hxc hrc lc1 lc2
        · skip
          refine he_cmpeq_f (n := 60) (t := 91) (by decide +kernel) (by omega) ?_
          refine he_aload (n := 61) (i := 0) (by decide +kernel) rfl ?_
          refine he_aload (n := 63) (i := 4) (by decide +kernel) rfl ?_
          refine hb_gfd (n := 66) (ci := 5) (j := 0) (ns := [2023, 143]) hm (by decide +kernel) rfl rfl (by decide) rfl ?_
          intro v63 hv63 lv63 uv63
          refine he_iload (n := 67) (i := 2) (by decide +kernel) rfl ?_
          refine he_iload (n := 68) (i := 3) (by decide +kernel) rfl ?_
          refine he_iconst (n := 69) (c := 1) (by decide +kernel) (by decide) ?_
          intro c68 hc68
          refine he_iadd (n := 70) (by decide +kernel) (by omega) (by omega) ?_
          intro v69 hv69
          obtain ⟨t', rfl⟩ : ∃ t', t = t' + 1 := ⟨t - 1, by omega⟩
          refine he_v3 (n := 73) (j := 37) (ci := 0) (mx := 6) (ns := [3237, 3239, 36, 159]) (by decide +kernel) ((hb_kd (a := 8) hm rfl).trans rfl) (by decide) (by show 4 ≤ 6; omega) ?_
          rw [mq_e37]
          refine IH t' rfl (by omega) hz hm hx (by omega) (by omega) p3 p4 (by omega) (by omega) ?_
          intro Ma ra hma hxa hra la1 la2
          have hr0a : hl_rel 1 x3.toInt.toNat M Ma := hl_relt (by omega) (by omega) hl_relr hra
          have da : hv Ma (93 + 5 * 1) x2.toInt.toNat = hv M (93 + 5 * 1) x2.toInt.toNat := hra.2.2.1 1 (by omega) _ (.inl (by omega))
          have aa : hv Ma (94 + 5 * 1) x2.toInt.toNat = hv M (94 + 5 * 1) x2.toInt.toNat := hra.2.1 1 (by omega) _
          have da : hv Ma 98 x2.toInt.toNat = hv M 98 x2.toInt.toNat := da
          have aa : hv Ma 99 x2.toInt.toNat = hv M 99 x2.toInt.toNat := aa
          show mq_R mq_PP (d + 1) 37 73 _ [.int ra] (Ma, z, u) Q
          refine he_istore (n := 75) (i := 5) (by decide +kernel) rfl ?_
          refine he_iload (n := 77) (i := 5) (by decide +kernel) rfl ?_
          refine he_iconst (n := 78) (c := -1) (by decide +kernel) (by decide) ?_
          intro c77 hc77
          by_cases h78 : ra.toInt = c77.toInt
          · skip
            refine he_cmpne_f (n := 81) (t := 88) (by decide +kernel) (by omega) ?_
            refine he_aload (n := 82) (i := 0) (by decide +kernel) rfl ?_
            refine he_v0 (n := 85) (j := 36) (ci := 0) (mx := 1) (ns := [4005, 4007, 38, 269]) (by decide +kernel) ((hb_kd (a := 8) hma rfl).trans rfl) (by decide) (by show 1 ≤ 1; omega) ?_
            rw [mq_e36]
            refine hu_wasMissing (hC (mz_q74, 1) (List.mem_of_getElem? (show mz_Cs[74]? = _ from rfl)) (by decide)) (by omega) hz hma hxa ?_
            intro Mb rb hmb hxb kb1 kb2 kb3 lb1 lb2
            have hrb : hl_rel 1 x3.toInt.toNat Ma Mb := hl_relf (by omega) (by decide +kernel) (fun j _ => rfl) (by decide +kernel) kb1 kb2 kb3
            have hr0b := hl_relt (Nat.le_refl _) (Nat.le_refl _) hr0a hrb
            show mq_R mq_PP (d + 1) 37 85 _ [.int rb] (Mb, z, u) Q
            by_cases h85 : rb.toInt = 0
            · skip
              refine he_ifne_f (n := 88) (t := 91) (by decide +kernel) (by omega) ?_
              refine he_iload (n := 90) (i := 5) (by decide +kernel) rfl ?_
              refine he_reti (by decide +kernel) ?_
              exact K Mb _ hmb hxb hr0b (by omega) (by omega)
            · skip
              refine he_ifne_t (n := 88) (t := 91) (by decide +kernel) (by omega) ?_
              refine he_aload (n := 92) (i := 0) (by decide +kernel) rfl ?_
              refine he_iload (n := 93) (i := 1) (by decide +kernel) rfl ?_
              refine he_iload (n := 94) (i := 2) (by decide +kernel) rfl ?_
              refine he_iload (n := 95) (i := 3) (by decide +kernel) rfl ?_
              refine he_v3 (n := 98) (j := 38) (ci := 0) (mx := 10) (ns := [4009, 4011, 39, 273]) (by decide +kernel) ((hb_kd (a := 8) hmb rfl).trans rfl) (by decide) (by show 4 ≤ 10; omega) ?_
              rw [mq_e38]
              refine hg_l1 hC (IH t' rfl) (by omega) hz hmb hxb p1 p3 p4 p5 (by omega) ?_ ?_ ?_
              · rw [hb_vc (kb1 98 (by decide) (by decide))]
                omega
              · rw [hb_vc (kb1 99 (by decide) (by decide))]
                omega
              · intro Mc rc hmc hxc hrc lc1 lc2
                show mq_R mq_PP (d + 1) 37 98 _ [.int rc] (Mc, z, u) Q
                refine he_reti (by decide +kernel) ?_
                exact K Mc _ hmc hxc (hl_relt (Nat.le_refl _) (Nat.le_refl _) hr0b hrc) lc1 lc2
          · skip
            refine he_cmpne_t (n := 81) (t := 88) (by decide +kernel) (by omega) ?_
            refine he_iload (n := 90) (i := 5) (by decide +kernel) rfl ?_
            refine he_reti (by decide +kernel) ?_
            exact K Ma _ hma hxa hr0a la1 la2
      · skip
        refine he_cmple_f (n := 43) (t := 51) (by decide +kernel) (by omega) ?_
        refine he_aload (n := 44) (i := 0) (by decide +kernel) rfl ?_
        refine he_iconst (n := 46) (c := 6) (by decide +kernel) (by decide) ?_
        intro c44 hc44
        refine he_iload (n := 47) (i := 2) (by decide +kernel) rfl ?_
        refine he_v2 (n := 50) (j := 25) (ci := 0) (mx := 3) (ns := [4001, 4003, 37, 166]) (by decide +kernel) ((hb_kd (a := 8) hm rfl).trans rfl) (by decide) (by show 3 ≤ 3; omega) ?_
        rw [mq_e25]
        refine hu_blame (hC (mz_q72, 1) (List.mem_of_getElem? (show mz_Cs[72]? = _ from rfl)) (by decide)) (by omega) hz hm hx (by omega) (by omega) (by omega) (by omega) ?_
        intro Mx rx hmx hxx kd1 kd2 kd3 ld1
        show mq_R mq_PP (d + 1) 37 50 _ [.int rx] (Mx, z, u) Q
        refine he_reti (by decide +kernel) ?_
        exact K Mx _ hmx hxx (hl_relf (by omega) (by decide +kernel) (fun j _ => rfl) (by decide +kernel) kd1 kd2 kd3) (by omega) (by omega)
    · skip
      refine he_ifne_t (n := 37) (t := 43) (by decide +kernel) (by omega) ?_
      refine he_aload (n := 44) (i := 0) (by decide +kernel) rfl ?_
      refine he_iconst (n := 46) (c := 6) (by decide +kernel) (by decide) ?_
      intro c44 hc44
      refine he_iload (n := 47) (i := 2) (by decide +kernel) rfl ?_
      refine he_v2 (n := 50) (j := 25) (ci := 0) (mx := 3) (ns := [4001, 4003, 37, 166]) (by decide +kernel) ((hb_kd (a := 8) hm rfl).trans rfl) (by decide) (by show 3 ≤ 3; omega) ?_
      rw [mq_e25]
      refine hu_blame (hC (mz_q72, 1) (List.mem_of_getElem? (show mz_Cs[72]? = _ from rfl)) (by decide)) (by omega) hz hm hx (by omega) (by omega) (by omega) (by omega) ?_
      intro Mx rx hmx hxx kd1 kd2 kd3 ld1
      show mq_R mq_PP (d + 1) 37 50 _ [.int rx] (Mx, z, u) Q
      refine he_reti (by decide +kernel) ?_
      exact K Mx _ hmx hxx (hl_relf (by omega) (by decide +kernel) (fun j _ => rfl) (by decide +kernel) kd1 kd2 kd3) (by omega) (by omega)
  · skip
    refine he_cmpeq_f (n := 19) (t := 27) (by decide +kernel) (by omega) ?_
    refine he_aload (n := 21) (i := 4) (by decide +kernel) rfl ?_
    refine he_getr (n := 24) (ci := 5) (j := 4) (ns := [2031, 263]) (b := 98) hm (by decide +kernel) rfl rfl (by decide +kernel) ?_
    refine he_iload (n := 25) (i := 2) (by decide +kernel) rfl ?_
    refine hb_ld (n := 26) (kind := 64) hm (by decide +kernel) rfl rfl (.inl rfl) (by omega) (show _ < (32 : Int) by omega) hb_at1 ?_
    intro v25 hv25 lv25 uv25
    refine he_reti (by decide +kernel) ?_
    exact K M _ hm hx hl_relr (by omega) (by omega)
theorem hg_c2 {t : Nat} (hC : ∀ c ∈ mz_Cs, c.2 < 11 → mz_Ct mz_GG mq_PP HX c.1 c.2) (IH : ∀ t', t = t' + 1 → hl_IH t') {d z u : Nat} {Q : (Option Value ⊕ Nat) → mq_S → Prop} {M : Nat → mq_C} {x1 x2 x3 : Int32} (hd : 12 + 3 * t ≤ d) (hz : 272 ≤ z) (hm : mz_sh mz_GG M) (hx : HX M) (p1 : x1.toInt = 2) (p3 : 0 ≤ x2.toInt) (p4 : x2.toInt ≤ 31) (p6 : x3.toInt + (t : Int) = 41) (p5 : 0 ≤ x3.toInt)
    (K : ∀ (M' : Nat → mq_C) (r : Int32), mz_sh mz_GG M' → HX M' → hl_rel 2 x3.toInt.toNat M M' → -1 ≤ r.toInt → r.toInt ≤ 127 → Q (.inl (some (.int r))) (M', z, u)) : mq_R mq_PP d 37 0 [some (.ref 8), some (.int x1), some (.int x2), some (.int x3), none, none] [] (M, z, u) Q := by
  obtain ⟨d, rfl⟩ : ∃ d', d = d' + 1 := ⟨d - 1, by omega⟩
  refine he_aload (n := 1) (i := 0) (by decide +kernel) rfl ?_
  refine he_getr (n := 4) (ci := 0) (j := 3) (ns := [2080, 31]) (b := 38) hm (by decide +kernel) rfl rfl (by decide +kernel) ?_
  refine he_iload (n := 5) (i := 1) (by decide +kernel) rfl ?_
  refine he_aald (n := 6) (kind := 75) (b := 101) hm (by decide +kernel) rfl rfl (by decide) (by omega) (by rw [show x1.toInt.toNat = 2 by omega]; decide +kernel) ?_
  refine he_astore (n := 8) (i := 4) (by decide +kernel) rfl ?_
  refine he_aload (n := 10) (i := 4) (by decide +kernel) rfl ?_
  refine he_getr (n := 13) (ci := 5) (j := 4) (ns := [2031, 263]) (b := 103) hm (by decide +kernel) rfl rfl (by decide +kernel) ?_
  refine he_iload (n := 14) (i := 2) (by decide +kernel) rfl ?_
  refine hb_ld (n := 15) (kind := 64) hm (by decide +kernel) rfl rfl (.inl rfl) (by omega) (show _ < (32 : Int) by omega) hb_at1 ?_
  intro v14 hv14 lv14 uv14
  refine he_iconst (n := 16) (c := -1) (by decide +kernel) (by decide) ?_
  intro c15 hc15
  by_cases h16 : v14.toInt = c15.toInt
  · skip
    refine he_cmpeq_t (n := 19) (t := 27) (by decide +kernel) (by omega) ?_
    refine he_aload (n := 29) (i := 4) (by decide +kernel) rfl ?_
    refine he_getr (n := 32) (ci := 5) (j := 5) (ns := [2033, 266]) (b := 104) hm (by decide +kernel) rfl rfl (by decide +kernel) ?_
    refine he_iload (n := 33) (i := 2) (by decide +kernel) rfl ?_
    refine hb_ld (n := 34) (kind := 65) hm (by decide +kernel) rfl rfl (.inr rfl) (by omega) (show _ < (32 : Int) by omega) hb_at1 ?_
    intro v33 hv33 lv33 uv33
    by_cases h34 : v33.toInt = 0
    · skip
      refine he_ifne_f (n := 37) (t := 43) (by decide +kernel) (by omega) ?_
      refine he_iload (n := 38) (i := 3) (by decide +kernel) rfl ?_
      refine he_iconst (n := 40) (c := 40) (by decide +kernel) (by decide) ?_
      intro c38 hc38
      by_cases h40 : x3.toInt ≤ c38.toInt
      · skip
        refine he_cmple_t (n := 43) (t := 51) (by decide +kernel) (by omega) ?_
        refine he_aload (n := 53) (i := 4) (by decide +kernel) rfl ?_
        refine hb_gfd (n := 56) (ci := 5) (j := 0) (ns := [2023, 143]) hm (by decide +kernel) rfl rfl (by decide) rfl ?_
        intro v53 hv53 lv53 uv53
        refine he_iconst (n := 57) (c := -1) (by decide +kernel) (by decide) ?_
        intro c56 hc56
        by_cases h57 : v53.toInt = c56.toInt
        · skip
          refine he_cmpeq_t (n := 60) (t := 91) (by decide +kernel) (by omega) ?_
          refine he_aload (n := 92) (i := 0) (by decide +kernel) rfl ?_
          refine he_iload (n := 93) (i := 1) (by decide +kernel) rfl ?_
          refine he_iload (n := 94) (i := 2) (by decide +kernel) rfl ?_
          refine he_iload (n := 95) (i := 3) (by decide +kernel) rfl ?_
          obtain ⟨t', rfl⟩ : ∃ t', t = t' + 1 := ⟨t - 1, by omega⟩
          refine he_v3 (n := 98) (j := 38) (ci := 0) (mx := 10) (ns := [4009, 4011, 39, 273]) (by decide +kernel) ((hb_kd (a := 8) hm rfl).trans rfl) (by decide) (by show 4 ≤ 10; omega) ?_
          rw [mq_e38]
          refine hg_l2 hC (IH t' rfl) (by omega) hz hm hx p1 p3 p4 p5 (by omega) (by omega) (by omega) ?_
          intro Mc rc hmc hxc hrc lc1 lc2
          show mq_R mq_PP (d + 1) 37 98 _ [.int rc] (Mc, z, u) Q
          refine he_reti (by decide +kernel) ?_
          exact K Mc _ hmc hxc hrc lc1 lc2
        · skip
          refine he_cmpeq_f (n := 60) (t := 91) (by decide +kernel) (by omega) ?_
          refine he_aload (n := 61) (i := 0) (by decide +kernel) rfl ?_
          refine he_aload (n := 63) (i := 4) (by decide +kernel) rfl ?_
          refine hb_gfd (n := 66) (ci := 5) (j := 0) (ns := [2023, 143]) hm (by decide +kernel) rfl rfl (by decide) rfl ?_
          intro v63 hv63 lv63 uv63
          refine he_iload (n := 67) (i := 2) (by decide +kernel) rfl ?_
          refine he_iload (n := 68) (i := 3) (by decide +kernel) rfl ?_
          refine he_iconst (n := 69) (c := 1) (by decide +kernel) (by decide) ?_
          intro c68 hc68
          refine he_iadd (n := 70) (by decide +kernel) (by omega) (by omega) ?_
          intro v69 hv69
          obtain ⟨t', rfl⟩ : ∃ t', t = t' + 1 := ⟨t - 1, by omega⟩
          refine he_v3 (n := 73) (j := 37) (ci := 0) (mx := 6) (ns := [3237, 3239, 36, 159]) (by decide +kernel) ((hb_kd (a := 8) hm rfl).trans rfl) (by decide) (by show 4 ≤ 6; omega) ?_
          rw [mq_e37]
          refine IH t' rfl (by omega) hz hm hx (by omega) (by omega) p3 p4 (by omega) (by omega) ?_
          intro Ma ra hma hxa hra la1 la2
          have hr0a : hl_rel 2 x3.toInt.toNat M Ma := hl_relt (by omega) (by omega) hl_relr hra
          have da : hv Ma (93 + 5 * 2) x2.toInt.toNat = hv M (93 + 5 * 2) x2.toInt.toNat := hra.2.2.1 2 (by omega) _ (.inl (by omega))
          have aa : hv Ma (94 + 5 * 2) x2.toInt.toNat = hv M (94 + 5 * 2) x2.toInt.toNat := hra.2.1 2 (by omega) _
          have da : hv Ma 103 x2.toInt.toNat = hv M 103 x2.toInt.toNat := da
          have aa : hv Ma 104 x2.toInt.toNat = hv M 104 x2.toInt.toNat := aa
          show mq_R mq_PP (d + 1) 37 73 _ [.int ra] (Ma, z, u) Q
          refine he_istore (n := 75) (i := 5) (by decide +kernel) rfl ?_
          refine he_iload (n := 77) (i := 5) (by decide +kernel) rfl ?_
          refine he_iconst (n := 78) (c := -1) (by decide +kernel) (by decide) ?_
          intro c77 hc77
          by_cases h78 : ra.toInt = c77.toInt
          · skip
            refine he_cmpne_f (n := 81) (t := 88) (by decide +kernel) (by omega) ?_
            refine he_aload (n := 82) (i := 0) (by decide +kernel) rfl ?_
            refine he_v0 (n := 85) (j := 36) (ci := 0) (mx := 1) (ns := [4005, 4007, 38, 269]) (by decide +kernel) ((hb_kd (a := 8) hma rfl).trans rfl) (by decide) (by show 1 ≤ 1; omega) ?_
            rw [mq_e36]
            refine hu_wasMissing (hC (mz_q74, 1) (List.mem_of_getElem? (show mz_Cs[74]? = _ from rfl)) (by decide)) (by omega) hz hma hxa ?_
            intro Mb rb hmb hxb kb1 kb2 kb3 lb1 lb2
            have hrb : hl_rel 2 x3.toInt.toNat Ma Mb := hl_relf (by omega) (by decide +kernel) (fun j _ => rfl) (by decide +kernel) kb1 kb2 kb3
            have hr0b := hl_relt (Nat.le_refl _) (Nat.le_refl _) hr0a hrb
            show mq_R mq_PP (d + 1) 37 85 _ [.int rb] (Mb, z, u) Q
            by_cases h85 : rb.toInt = 0
            · skip
              refine he_ifne_f (n := 88) (t := 91) (by decide +kernel) (by omega) ?_
              refine he_iload (n := 90) (i := 5) (by decide +kernel) rfl ?_
              refine he_reti (by decide +kernel) ?_
              exact K Mb _ hmb hxb hr0b (by omega) (by omega)
            · skip
              refine he_ifne_t (n := 88) (t := 91) (by decide +kernel) (by omega) ?_
              refine he_aload (n := 92) (i := 0) (by decide +kernel) rfl ?_
              refine he_iload (n := 93) (i := 1) (by decide +kernel) rfl ?_
              refine he_iload (n := 94) (i := 2) (by decide +kernel) rfl ?_
              refine he_iload (n := 95) (i := 3) (by decide +kernel) rfl ?_
              refine he_v3 (n := 98) (j := 38) (ci := 0) (mx := 10) (ns := [4009, 4011, 39, 273]) (by decide +kernel) ((hb_kd (a := 8) hmb rfl).trans rfl) (by decide) (by show 4 ≤ 10; omega) ?_
              rw [mq_e38]
              refine hg_l2 hC (IH t' rfl) (by omega) hz hmb hxb p1 p3 p4 p5 (by omega) ?_ ?_ ?_
              · rw [hb_vc (kb1 103 (by decide) (by decide))]
                omega
              · rw [hb_vc (kb1 104 (by decide) (by decide))]
                omega
              · intro Mc rc hmc hxc hrc lc1 lc2
                show mq_R mq_PP (d + 1) 37 98 _ [.int rc] (Mc, z, u) Q
                refine he_reti (by decide +kernel) ?_
                exact K Mc _ hmc hxc (hl_relt (Nat.le_refl _) (Nat.le_refl _) hr0b hrc) lc1 lc2
          · skip
            refine he_cmpne_t (n := 81) (t := 88) (by decide +kernel) (by omega) ?_
            refine he_iload (n := 90) (i := 5) (by decide +kernel) rfl ?_
            refine he_reti (by decide +kernel) ?_
            exact K Ma _ hma hxa hr0a la1 la2
      · skip
        refine he_cmple_f (n := 43) (t := 51) (by decide +kernel) (by omega) ?_
        refine he_aload (n := 44) (i := 0) (by decide +kernel) rfl ?_
        refine he_iconst (n := 46) (c := 6) (by decide +kernel) (by decide) ?_
        intro c44 hc44
        refine he_iload (n := 47) (i := 2) (by decide +kernel) rfl ?_
        refine he_v2 (n := 50) (j := 25) (ci := 0) (mx := 3) (ns := [4001, 4003, 37, 166]) (by decide +kernel) ((hb_kd (a := 8) hm rfl).trans rfl) (by decide) (by show 3 ≤ 3; omega) ?_
        rw [mq_e25]
        refine hu_blame (hC (mz_q72, 1) (List.mem_of_getElem? (show mz_Cs[72]? = _ from rfl)) (by decide)) (by omega) hz hm hx (by omega) (by omega) (by omega) (by omega) ?_
        intro Mx rx hmx hxx kd1 kd2 kd3 ld1
        show mq_R mq_PP (d + 1) 37 50 _ [.int rx] (Mx, z, u) Q
        refine he_reti (by decide +kernel) ?_
        exact K Mx _ hmx hxx (hl_relf (by omega) (by decide +kernel) (fun j _ => rfl) (by decide +kernel) kd1 kd2 kd3) (by omega) (by omega)
    · skip
      refine he_ifne_t (n := 37) (t := 43) (by decide +kernel) (by omega) ?_
      refine he_aload (n := 44) (i := 0) (by decide +kernel) rfl ?_
      refine he_iconst (n := 46) (c := 6) (by decide +kernel) (by decide) ?_
      intro c44 hc44
      refine he_iload (n := 47) (i := 2) (by decide +kernel) rfl ?_
      refine he_v2 (n := 50) (j := 25) (ci := 0) (mx := 3) (ns := [4001, 4003, 37, 166]) (by decide +kernel) ((hb_kd (a := 8) hm rfl).trans rfl) (by decide) (by show 3 ≤ 3; omega) ?_
      rw [mq_e25]
      refine hu_blame (hC (mz_q72, 1) (List.mem_of_getElem? (show mz_Cs[72]? = _ from rfl)) (by decide)) (by omega) hz hm hx (by omega) (by omega) (by omega) (by omega) ?_
      intro Mx rx hmx hxx kd1 kd2 kd3 ld1
      show mq_R mq_PP (d + 1) 37 50 _ [.int rx] (Mx, z, u) Q
      refine he_reti (by decide +kernel) ?_
      exact K Mx _ hmx hxx (hl_relf (by omega) (by decide +kernel) (fun j _ => rfl) (by decide +kernel) kd1 kd2 kd3) (by omega) (by omega)
  · skip
    refine he_cmpeq_f (n := 19) (t := 27) (by decide +kernel) (by omega) ?_
    refine he_aload (n := 21) (i := 4) (by decide +kernel) rfl ?_
    refine he_getr (n := 24) (ci := 5) (j := 4) (ns := [2031, 263]) (b := 103) hm (by decide +kernel) rfl rfl (by decide +kernel) ?_
    refine he_iload (n := 25) (i := 2) (by decide +kernel) rfl ?_
    refine hb_ld (n := 26) (kind := 64) hm (by decide +kernel) rfl rfl (.inl rfl) (by omega) (show _ < (32 : Int) by omega) hb_at1 ?_
    intro v25 hv25 lv25 uv25
    refine he_reti (by decide +kernel) ?_
    exact K M _ hm hx hl_relr (by omega) (by omega)
theorem hg_c3 {t : Nat} (hC : ∀ c ∈ mz_Cs, c.2 < 11 → mz_Ct mz_GG mq_PP HX c.1 c.2) (IH : ∀ t', t = t' + 1 → hl_IH t') {d z u : Nat} {Q : (Option Value ⊕ Nat) → mq_S → Prop} {M : Nat → mq_C} {x1 x2 x3 : Int32} (hd : 12 + 3 * t ≤ d) (hz : 272 ≤ z) (hm : mz_sh mz_GG M) (hx : HX M) (p1 : x1.toInt = 3) (p3 : 0 ≤ x2.toInt) (p4 : x2.toInt ≤ 31) (p6 : x3.toInt + (t : Int) = 41) (p5 : 0 ≤ x3.toInt)
    (K : ∀ (M' : Nat → mq_C) (r : Int32), mz_sh mz_GG M' → HX M' → hl_rel 3 x3.toInt.toNat M M' → -1 ≤ r.toInt → r.toInt ≤ 127 → Q (.inl (some (.int r))) (M', z, u)) : mq_R mq_PP d 37 0 [some (.ref 8), some (.int x1), some (.int x2), some (.int x3), none, none] [] (M, z, u) Q := by
  obtain ⟨d, rfl⟩ : ∃ d', d = d' + 1 := ⟨d - 1, by omega⟩
  refine he_aload (n := 1) (i := 0) (by decide +kernel) rfl ?_
  refine he_getr (n := 4) (ci := 0) (j := 3) (ns := [2080, 31]) (b := 38) hm (by decide +kernel) rfl rfl (by decide +kernel) ?_
  refine he_iload (n := 5) (i := 1) (by decide +kernel) rfl ?_
  refine he_aald (n := 6) (kind := 75) (b := 106) hm (by decide +kernel) rfl rfl (by decide) (by omega) (by rw [show x1.toInt.toNat = 3 by omega]; decide +kernel) ?_
  refine he_astore (n := 8) (i := 4) (by decide +kernel) rfl ?_
  refine he_aload (n := 10) (i := 4) (by decide +kernel) rfl ?_
  refine he_getr (n := 13) (ci := 5) (j := 4) (ns := [2031, 263]) (b := 108) hm (by decide +kernel) rfl rfl (by decide +kernel) ?_
  refine he_iload (n := 14) (i := 2) (by decide +kernel) rfl ?_
  refine hb_ld (n := 15) (kind := 64) hm (by decide +kernel) rfl rfl (.inl rfl) (by omega) (show _ < (32 : Int) by omega) hb_at1 ?_
  intro v14 hv14 lv14 uv14
  refine he_iconst (n := 16) (c := -1) (by decide +kernel) (by decide) ?_
  intro c15 hc15
  by_cases h16 : v14.toInt = c15.toInt
  · skip
    refine he_cmpeq_t (n := 19) (t := 27) (by decide +kernel) (by omega) ?_
    refine he_aload (n := 29) (i := 4) (by decide +kernel) rfl ?_
    refine he_getr (n := 32) (ci := 5) (j := 5) (ns := [2033, 266]) (b := 109) hm (by decide +kernel) rfl rfl (by decide +kernel) ?_
    refine he_iload (n := 33) (i := 2) (by decide +kernel) rfl ?_
    refine hb_ld (n := 34) (kind := 65) hm (by decide +kernel) rfl rfl (.inr rfl) (by omega) (show _ < (32 : Int) by omega) hb_at1 ?_
    intro v33 hv33 lv33 uv33
    by_cases h34 : v33.toInt = 0
    · skip
      refine he_ifne_f (n := 37) (t := 43) (by decide +kernel) (by omega) ?_
      refine he_iload (n := 38) (i := 3) (by decide +kernel) rfl ?_
      refine he_iconst (n := 40) (c := 40) (by decide +kernel) (by decide) ?_
      intro c38 hc38
      by_cases h40 : x3.toInt ≤ c38.toInt
      · skip
        refine he_cmple_t (n := 43) (t := 51) (by decide +kernel) (by omega) ?_
        refine he_aload (n := 53) (i := 4) (by decide +kernel) rfl ?_
        refine hb_gfd (n := 56) (ci := 5) (j := 0) (ns := [2023, 143]) hm (by decide +kernel) rfl rfl (by decide) rfl ?_
        intro v53 hv53 lv53 uv53
        refine he_iconst (n := 57) (c := -1) (by decide +kernel) (by decide) ?_
        intro c56 hc56
        by_cases h57 : v53.toInt = c56.toInt
        · skip
          refine he_cmpeq_t (n := 60) (t := 91) (by decide +kernel) (by omega) ?_
          refine he_aload (n := 92) (i := 0) (by decide +kernel) rfl ?_
          refine he_iload (n := 93) (i := 1) (by decide +kernel) rfl ?_
          refine he_iload (n := 94) (i := 2) (by decide +kernel) rfl ?_
          refine he_iload (n := 95) (i := 3) (by decide +kernel) rfl ?_
          obtain ⟨t', rfl⟩ : ∃ t', t = t' + 1 := ⟨t - 1, by omega⟩
          refine he_v3 (n := 98) (j := 38) (ci := 0) (mx := 10) (ns := [4009, 4011, 39, 273]) (by decide +kernel) ((hb_kd (a := 8) hm rfl).trans rfl) (by decide) (by show 4 ≤ 10; omega) ?_
          rw [mq_e38]
          refine hg_l3 hC (IH t' rfl) (by omega) hz hm hx p1 p3 p4 p5 (by omega) (by omega) (by omega) ?_
          intro Mc rc hmc hxc hrc lc1 lc2
          show mq_R mq_PP (d + 1) 37 98 _ [.int rc] (Mc, z, u) Q
          refine he_reti (by decide +kernel) ?_
          exact K Mc _ hmc hxc hrc lc1 lc2
        · skip
          refine he_cmpeq_f (n := 60) (t := 91) (by decide +kernel) (by omega) ?_
          refine he_aload (n := 61) (i := 0) (by decide +kernel) rfl ?_
          refine he_aload (n := 63) (i := 4) (by decide +kernel) rfl ?_
          refine hb_gfd (n := 66) (ci := 5) (j := 0) (ns := [2023, 143]) hm (by decide +kernel) rfl rfl (by decide) rfl ?_
          intro v63 hv63 lv63 uv63
          refine he_iload (n := 67) (i := 2) (by decide +kernel) rfl ?_
          refine he_iload (n := 68) (i := 3) (by decide +kernel) rfl ?_
          refine he_iconst (n := 69) (c := 1) (by decide +kernel) (by decide) ?_
          intro c68 hc68
          refine he_iadd (n := 70) (by decide +kernel) (by omega) (by omega) ?_
          intro v69 hv69
          obtain ⟨t', rfl⟩ : ∃ t', t = t' + 1 := ⟨t - 1, by omega⟩
          refine he_v3 (n := 73) (j := 37) (ci := 0) (mx := 6) (ns := [3237, 3239, 36, 159]) (by decide +kernel) ((hb_kd (a := 8) hm rfl).trans rfl) (by decide) (by show 4 ≤ 6; omega) ?_
          rw [mq_e37]
          refine IH t' rfl (by omega) hz hm hx (by omega) (by omega) p3 p4 (by omega) (by omega) ?_
          intro Ma ra hma hxa hra la1 la2
          have hr0a : hl_rel 3 x3.toInt.toNat M Ma := hl_relt (by omega) (by omega) hl_relr hra
          have da : hv Ma (93 + 5 * 3) x2.toInt.toNat = hv M (93 + 5 * 3) x2.toInt.toNat := hra.2.2.1 3 (by omega) _ (.inl (by omega))
          have aa : hv Ma (94 + 5 * 3) x2.toInt.toNat = hv M (94 + 5 * 3) x2.toInt.toNat := hra.2.1 3 (by omega) _
          have da : hv Ma 108 x2.toInt.toNat = hv M 108 x2.toInt.toNat := da
          have aa : hv Ma 109 x2.toInt.toNat = hv M 109 x2.toInt.toNat := aa
          show mq_R mq_PP (d + 1) 37 73 _ [.int ra] (Ma, z, u) Q
          refine he_istore (n := 75) (i := 5) (by decide +kernel) rfl ?_
          refine he_iload (n := 77) (i := 5) (by decide +kernel) rfl ?_
          refine he_iconst (n := 78) (c := -1) (by decide +kernel) (by decide) ?_
          intro c77 hc77
          by_cases h78 : ra.toInt = c77.toInt
          · skip
            refine he_cmpne_f (n := 81) (t := 88) (by decide +kernel) (by omega) ?_
            refine he_aload (n := 82) (i := 0) (by decide +kernel) rfl ?_
            refine he_v0 (n := 85) (j := 36) (ci := 0) (mx := 1) (ns := [4005, 4007, 38, 269]) (by decide +kernel) ((hb_kd (a := 8) hma rfl).trans rfl) (by decide) (by show 1 ≤ 1; omega) ?_
            rw [mq_e36]
            refine hu_wasMissing (hC (mz_q74, 1) (List.mem_of_getElem? (show mz_Cs[74]? = _ from rfl)) (by decide)) (by omega) hz hma hxa ?_
            intro Mb rb hmb hxb kb1 kb2 kb3 lb1 lb2
            have hrb : hl_rel 3 x3.toInt.toNat Ma Mb := hl_relf (by omega) (by decide +kernel) (fun j _ => rfl) (by decide +kernel) kb1 kb2 kb3
            have hr0b := hl_relt (Nat.le_refl _) (Nat.le_refl _) hr0a hrb
            show mq_R mq_PP (d + 1) 37 85 _ [.int rb] (Mb, z, u) Q
            by_cases h85 : rb.toInt = 0
            · skip
              refine he_ifne_f (n := 88) (t := 91) (by decide +kernel) (by omega) ?_
              refine he_iload (n := 90) (i := 5) (by decide +kernel) rfl ?_
              refine he_reti (by decide +kernel) ?_
              exact K Mb _ hmb hxb hr0b (by omega) (by omega)
            · skip
              refine he_ifne_t (n := 88) (t := 91) (by decide +kernel) (by omega) ?_
              refine he_aload (n := 92) (i := 0) (by decide +kernel) rfl ?_
              refine he_iload (n := 93) (i := 1) (by decide +kernel) rfl ?_
              refine he_iload (n := 94) (i := 2) (by decide +kernel) rfl ?_
              refine he_iload (n := 95) (i := 3) (by decide +kernel) rfl ?_
              refine he_v3 (n := 98) (j := 38) (ci := 0) (mx := 10) (ns := [4009, 4011, 39, 273]) (by decide +kernel) ((hb_kd (a := 8) hmb rfl).trans rfl) (by decide) (by show 4 ≤ 10; omega) ?_
              rw [mq_e38]
              refine hg_l3 hC (IH t' rfl) (by omega) hz hmb hxb p1 p3 p4 p5 (by omega) ?_ ?_ ?_
              · rw [hb_vc (kb1 108 (by decide) (by decide))]
                omega
              · rw [hb_vc (kb1 109 (by decide) (by decide))]
                omega
              · intro Mc rc hmc hxc hrc lc1 lc2
                show mq_R mq_PP (d + 1) 37 98 _ [.int rc] (Mc, z, u) Q
                refine he_reti (by decide +kernel) ?_
                exact K Mc _ hmc hxc (hl_relt (Nat.le_refl _) (Nat.le_refl _) hr0b hrc) lc1 lc2
          · skip
            refine he_cmpne_t (n := 81) (t := 88) (by decide +kernel) (by omega) ?_
            refine he_iload (n := 90) (i := 5) (by decide +kernel) rfl ?_
            refine he_reti (by decide +kernel) ?_
            exact K Ma _ hma hxa hr0a la1 la2
      · skip
        refine he_cmple_f (n := 43) (t := 51) (by decide +kernel) (by omega) ?_
        refine he_aload (n := 44) (i := 0) (by decide +kernel) rfl ?_
        refine he_iconst (n := 46) (c := 6) (by decide +kernel) (by decide) ?_
        intro c44 hc44
        refine he_iload (n := 47) (i := 2) (by decide +kernel) rfl ?_
        refine he_v2 (n := 50) (j := 25) (ci := 0) (mx := 3) (ns := [4001, 4003, 37, 166]) (by decide +kernel) ((hb_kd (a := 8) hm rfl).trans rfl) (by decide) (by show 3 ≤ 3; omega) ?_
        rw [mq_e25]
        refine hu_blame (hC (mz_q72, 1) (List.mem_of_getElem? (show mz_Cs[72]? = _ from rfl)) (by decide)) (by omega) hz hm hx (by omega) (by omega) (by omega) (by omega) ?_
        intro Mx rx hmx hxx kd1 kd2 kd3 ld1
        show mq_R mq_PP (d + 1) 37 50 _ [.int rx] (Mx, z, u) Q
        refine he_reti (by decide +kernel) ?_
        exact K Mx _ hmx hxx (hl_relf (by omega) (by decide +kernel) (fun j _ => rfl) (by decide +kernel) kd1 kd2 kd3) (by omega) (by omega)
    · skip
      refine he_ifne_t (n := 37) (t := 43) (by decide +kernel) (by omega) ?_
      refine he_aload (n := 44) (i := 0) (by decide +kernel) rfl ?_
      refine he_iconst (n := 46) (c := 6) (by decide +kernel) (by decide) ?_
      intro c44 hc44
      refine he_iload (n := 47) (i := 2) (by decide +kernel) rfl ?_
      refine he_v2 (n := 50) (j := 25) (ci := 0) (mx := 3) (ns := [4001, 4003, 37, 166]) (by decide +kernel) ((hb_kd (a := 8) hm rfl).trans rfl) (by decide) (by show 3 ≤ 3; omega) ?_
      rw [mq_e25]
      refine hu_blame (hC (mz_q72, 1) (List.mem_of_getElem? (show mz_Cs[72]? = _ from rfl)) (by decide)) (by omega) hz hm hx (by omega) (by omega) (by omega) (by omega) ?_
      intro Mx rx hmx hxx kd1 kd2 kd3 ld1
      show mq_R mq_PP (d + 1) 37 50 _ [.int rx] (Mx, z, u) Q
      refine he_reti (by decide +kernel) ?_
      exact K Mx _ hmx hxx (hl_relf (by omega) (by decide +kernel) (fun j _ => rfl) (by decide +kernel) kd1 kd2 kd3) (by omega) (by omega)
  · skip
    refine he_cmpeq_f (n := 19) (t := 27) (by decide +kernel) (by omega) ?_
    refine he_aload (n := 21) (i := 4) (by decide +kernel) rfl ?_
    refine he_getr (n := 24) (ci := 5) (j := 4) (ns := [2031, 263]) (b := 108) hm (by decide +kernel) rfl rfl (by decide +kernel) ?_
    refine he_iload (n := 25) (i := 2) (by decide +kernel) rfl ?_
    refine hb_ld (n := 26) (kind := 64) hm (by decide +kernel) rfl rfl (.inl rfl) (by omega) (show _ < (32 : Int) by omega) hb_at1 ?_
    intro v25 hv25 lv25 uv25
    refine he_reti (by decide +kernel) ?_
    exact K M _ hm hx hl_relr (by omega) (by omega)
theorem hl_all (hC : ∀ c ∈ mz_Cs, c.2 < 11 → mz_Ct mz_GG mq_PP HX c.1 c.2) : ∀ t, hl_IH t := by
  have step : ∀ t, (∀ t', t = t' + 1 → hl_IH t') → hl_IH t := by
    intro t IH d z u Q M x1 x2 x3 hd hz hm hx p1 p2 p3 p4 p5 p6 K
    have hc : x1.toInt = 0 ∨ x1.toInt = 1 ∨ x1.toInt = 2 ∨ x1.toInt = 3 := by omega
    rcases hc with h | h | h | h
    · rw [show x1.toInt.toNat = 0 by omega] at K
      exact hg_c0 hC IH hd hz hm hx h p3 p4 p5 p6 K
    · rw [show x1.toInt.toNat = 1 by omega] at K
      exact hg_c1 hC IH hd hz hm hx h p3 p4 p5 p6 K
    · rw [show x1.toInt.toNat = 2 by omega] at K
      exact hg_c2 hC IH hd hz hm hx h p3 p4 p5 p6 K
    · rw [show x1.toInt.toNat = 3 by omega] at K
      exact hg_c3 hC IH hd hz hm hx h p3 p4 p5 p6 K
  intro t
  induction t with
  | zero => exact step 0 (fun t' h => by omega)
  | succ t ih => exact step (t + 1) (fun t' h => by cases h; exact ih)
theorem hs_loadClass_P (hC : ∀ c ∈ mz_Cs, c.2 < 11 → mz_Ct mz_GG mq_PP HX c.1 c.2) : hc_loadClass_P := by
  intro d z u M Q x1 x2 x3 hd hz hm hx p1 p2 p3 p4 p5 p6 K
  have hlc := hb_rg hm (a := 8) (i := 4) rfl (by decide) rfl
  refine hl_all hC 41 (by omega) hz hm hx p1 (by omega) p3 (by omega) (by omega) (by omega) ?_
  intro M' r k1 k2 k3 l1 l2
  exact K M' r k1 k2 k3.1.1 k3.1.2.1 k3.1.2.2 (by omega) (by omega)
theorem hs_loadClass (hC : ∀ c ∈ mz_Cs, c.2 < 11 → mz_Ct mz_GG mq_PP HX c.1 c.2) : mz_Ct mz_GG mq_PP HX mz_q194 160 := hc_loadClass (hs_loadClass_P hC)
