/-! The model's loads: the search of take, take. -/
theorem hm_t30 {d z u j k n : Nat} {Q : (Option Value ⊕ Nat) → mq_S → Prop} {M : Nat → mq_C} {x1 x2 x3 : Int32} (hC : ∀ c ∈ mz_Cs, c.2 < 14 → mz_Ct mz_GG mq_PP HX c.1 c.2) (hd : 10 ≤ d) (hz : 272 ≤ z) (hj1 : j < 139) (p1 : x1.toInt = 12 * (j : Int)) (hk : hv M 267 (12 * j) = (k : Int)) (hn : hv M 267 (12 * j + 1) = (n : Int)) (hk4 : k < 4) (hn32 : n < 32) (hdf : hv M 261 (32 * k + n) = -1) (hu : hm_bit (hv M 262 k) n = false) (q2 : x2.toInt = (k : Int)) (q3 : x3.toInt = (n : Int))
    (KF : ∀ M' : Nat → mq_C, mz_sh mz_GG M' → HX M' → hm_rel k j M M' → hv M' 234 48 = (j : Int) → hm_w M' → Q (.inl none) (M', z, u))
    (KA : ∀ M' : Nat → mq_C, mz_sh mz_GG M' → HX M' → hm_T j k n M M' → hm_N j M M' → Q (.inl none) (M', z, u)) : ∀ (m : Nat) (Mc : Nat → mq_C) (y4 y5 y6 : Int32), hm_C j k M Mc → y4.toInt = -1 → 0 ≤ y6.toInt → y6.toInt + (m : Int) = 4 → mq_R mq_PP (d + 2) 152 30 [some (.ref 234), some (.int x1), some (.int x2), some (.int x3), some (.int y4), some (.int y5), some (.int y6), none, none, none] [] (Mc, z, u) Q := by
  intro m
  induction m with
  | zero =>
    intro Mc y4 y5 y6 hc e1 e2 e3
    obtain ⟨hm, hx, hR, hj, hf7, hf1⟩ := id hc
    refine he_iload (n := 32) (i := 6) (by decide +kernel) rfl ?_
    refine he_aload (n := 33) (i := 0) (by decide +kernel) rfl ?_
    refine hb_gfd (n := 36) (ci := 9) (j := 38) (ns := [4215, 247]) hm (by decide +kernel) rfl rfl (by decide) rfl ?_
    intro v33 hv33 lv33 uv33
    refine he_cmpge_t (n := 39) (t := 85) (by decide +kernel) (by omega) ?_
    refine he_iload (n := 87) (i := 4) (by decide +kernel) rfl ?_
    refine he_ifge_f (n := 90) (t := 97) (by decide +kernel) (by omega) ?_
    refine he_aload (n := 91) (i := 0) (by decide +kernel) rfl ?_
    refine he_iload (n := 92) (i := 1) (by decide +kernel) rfl ?_
    refine he_iconst (n := 93) (c := 1) (by decide +kernel) (by decide) ?_
    intro c92 hc92
    refine he_v2 (n := 96) (j := 149) (ci := 9) (mx := 3) (ns := [6018, 6020, 71, 300]) (by decide +kernel) ((hb_kd (a := 234) hm rfl).trans rfl) (by decide) (by show 3 ≤ 3; omega) ?_
    rw [mq_e149]
    refine hm_fails (d := d) (j := j) hm hj (by omega) (by omega) (by omega) (by omega) ?_
    intro M' g1 g2 g3 g4 g5
    show mq_R mq_PP (d + 2) 152 96 _ [] (M', z, u) Q
    refine he_ret (by decide +kernel) ?_
    exact KF M' g1 (hm_Ex g2 hx) (hm_relt (Nat.le_refl _) (Nat.le_refl _) hR (hm_relE g2 (fun i _ => hb_vc g3 i))) g4 (.inr g5)
  | succ m ih =>
    intro Mc y4 y5 y6 hc e1 e2 e3
    obtain ⟨hm, hx, hR, hj, hf7, hf1⟩ := id hc
    refine he_iload (n := 32) (i := 6) (by decide +kernel) rfl ?_
    refine he_aload (n := 33) (i := 0) (by decide +kernel) rfl ?_
    refine hb_gfd (n := 36) (ci := 9) (j := 38) (ns := [4215, 247]) hm (by decide +kernel) rfl rfl (by decide) rfl ?_
    intro v33 hv33 lv33 uv33
    by_cases h36 : v33.toInt ≤ y6.toInt
    · skip
      refine he_cmpge_t (n := 39) (t := 85) (by decide +kernel) (by omega) ?_
      refine he_iload (n := 87) (i := 4) (by decide +kernel) rfl ?_
      refine he_ifge_f (n := 90) (t := 97) (by decide +kernel) (by omega) ?_
      refine he_aload (n := 91) (i := 0) (by decide +kernel) rfl ?_
      refine he_iload (n := 92) (i := 1) (by decide +kernel) rfl ?_
      refine he_iconst (n := 93) (c := 1) (by decide +kernel) (by decide) ?_
      intro c92 hc92
      refine he_v2 (n := 96) (j := 149) (ci := 9) (mx := 3) (ns := [6018, 6020, 71, 300]) (by decide +kernel) ((hb_kd (a := 234) hm rfl).trans rfl) (by decide) (by show 3 ≤ 3; omega) ?_
      rw [mq_e149]
      refine hm_fails (d := d) (j := j) hm hj (by omega) (by omega) (by omega) (by omega) ?_
      intro M' g1 g2 g3 g4 g5
      show mq_R mq_PP (d + 2) 152 96 _ [] (M', z, u) Q
      refine he_ret (by decide +kernel) ?_
      exact KF M' g1 (hm_Ex g2 hx) (hm_relt (Nat.le_refl _) (Nat.le_refl _) hR (hm_relE g2 (fun i _ => hb_vc g3 i))) g4 (.inr g5)
    · skip
      refine he_cmpge_f (n := 39) (t := 85) (by decide +kernel) (by omega) ?_
      refine he_iload (n := 41) (i := 4) (by decide +kernel) rfl ?_
      refine he_ifge_f (n := 44) (t := 85) (by decide +kernel) (by omega) ?_
      refine he_aload (n := 45) (i := 0) (by decide +kernel) rfl ?_
      refine he_aload (n := 46) (i := 0) (by decide +kernel) rfl ?_
      refine he_getr (n := 49) (ci := 9) (j := 39) (ns := [4216, 98]) (b := 264) hm (by decide +kernel) rfl rfl (by decide +kernel) ?_
      refine he_iload (n := 51) (i := 6) (by decide +kernel) rfl ?_
      refine hb_ld (n := 52) (kind := 64) hm (by decide +kernel) rfl rfl (.inl rfl) (by omega) (show _ < (4 : Int) by omega) hb_at1 ?_
      intro v51 hv51 lv51 uv51
      refine he_iload (n := 53) (i := 3) (by decide +kernel) rfl ?_
      refine he_s1 (n := 56) (j := 144) (mx := 1) (ns := [6066, 6067, 1011, 306]) (by decide +kernel) (by show 2 ≤ 8; omega) (by show 1 ≤ 1; omega) ?_
      rw [mq_e144]
      refine hu_nameBytes (hC (mz_q175, 1) (List.mem_of_getElem? (show mz_Cs[175]? = _ from rfl)) (by decide)) (by omega) hz hm hx (by omega) (by omega) ?_
      intro Mn rn hmn hxn kn1 kn2 kn3 ln1 ln2
      have hcn : hm_C j k M Mn := hm_Cf (q' := mz_q175) hc hmn hxn kn1 kn2 kn3 (hb_vc (kn1 234 (by decide) (by decide)) 48) (by decide) (by decide) (by decide)
      show mq_R mq_PP (d + 2) 152 56 _ [.int rn, .int v51, .ref 234] (Mn, z, u) Q
      refine he_v2 (n := 59) (j := 139) (ci := 9) (mx := 4) (ns := [6069, 6071, 83, 309]) (by decide +kernel) ((hb_kd (a := 234) hmn rfl).trans rfl) (by decide) (by show 3 ≤ 4; omega) ?_
      rw [mq_e139]
      have h51 : v51.toInt = 0 ∨ v51.toInt = 1 ∨ v51.toInt = 2 ∨ v51.toInt = 3 := by omega
      rcases h51 with h51 | h51 | h51 | h51
      · skip
        refine hu_recordFor0 (hC (mz_q149, 2) (List.mem_of_getElem? (show mz_Cs[149]? = _ from rfl)) (by decide)) (by omega) hz hmn hxn (by omega) (by omega) ?_ ?_
        · intro Mr rr hmr hxr kr1 kr2 kr3 lr1 lr2
          have hcr : hm_C j k M Mr := hm_Cf (q' := mz_q149) hcn hmr hxr kr1 kr2 kr3 (hb_vc (kr1 234 (by decide) (by decide)) 48) (by decide) (by decide) (by decide)
          have e4 : ∀ i, hv Mr 264 i = hv Mc 264 i := fun i => (hb_vc (kr1 264 (by decide) (by decide)) i).trans (hb_vc (kn1 264 (by decide) (by decide)) i)
          show mq_R mq_PP (d + 2) 152 59 _ [.int rr] (Mr, z, u) Q
          refine he_istore (n := 61) (i := 5) (by decide +kernel) rfl ?_
          refine he_iload (n := 63) (i := 5) (by decide +kernel) rfl ?_
          by_cases h63 : rr.toInt < 0
          · skip
            refine he_iflt_t (n := 66) (t := 76) (by decide +kernel) (by omega) ?_
            refine he_iconst (n := 77) (c := -1) (by decide +kernel) (by decide) ?_
            intro cr76 hcr76
            refine he_istore (n := 79) (i := 4) (by decide +kernel) rfl ?_
            refine he_iinc (n := 82) (i := 6) (c := 1) (L' := fun v => [some (.ref (234)), some (.int x1), some (.int x2), some (.int x3), some (.int cr76), some (.int rr), some (.int v), none, none, none]) (by decide +kernel) (by decide) rfl (fun _ => rfl) (by omega) (by omega) ?_
            intro ir79 hir79
            refine he_goto (t := 30) (by decide +kernel) ?_
            exact ih Mr cr76 rr ir79 hcr (by omega) (by omega) (by omega)
          · skip
            refine he_iflt_f (n := 66) (t := 76) (by decide +kernel) (by omega) ?_
            refine he_aload (n := 67) (i := 0) (by decide +kernel) rfl ?_
            refine he_getr (n := 70) (ci := 9) (j := 39) (ns := [4216, 98]) (b := 264) hmr (by decide +kernel) rfl rfl (by decide +kernel) ?_
            refine he_iload (n := 72) (i := 6) (by decide +kernel) rfl ?_
            refine hb_ld (n := 73) (kind := 64) hmr (by decide +kernel) rfl rfl (.inl rfl) (by omega) (show _ < (4 : Int) by omega) hb_at1 ?_
            intro vr72 hvr72 lvr72 uvr72
            refine he_goto (t := 77) (by decide +kernel) ?_
            refine he_istore (n := 79) (i := 4) (by decide +kernel) rfl ?_
            refine he_iinc (n := 82) (i := 6) (c := 1) (L' := fun v => [some (.ref (234)), some (.int x1), some (.int x2), some (.int x3), some (.int vr72), some (.int rr), some (.int v), none, none, none]) (by decide +kernel) (by decide) rfl (fun _ => rfl) (by omega) (by omega) ?_
            intro ir79 hir79
            refine he_goto (t := 30) (by decide +kernel) ?_
            refine he_iload (n := 32) (i := 6) (by decide +kernel) rfl ?_
            refine he_aload (n := 33) (i := 0) (by decide +kernel) rfl ?_
            refine hb_gfd (n := 36) (ci := 9) (j := 38) (ns := [4215, 247]) hmr (by decide +kernel) rfl rfl (by decide) rfl ?_
            intro vr33 hvr33 lvr33 uvr33
            have q72 : vr72.toInt = v51.toInt := by rw [← hvr72, e4, hv51]
            have q97 : rr.toInt < hv Mr 238 vr72.toInt.toNat := by
              rw [show vr72.toInt.toNat = 0 by omega, hb_vc (kr1 238 (by decide) (by decide))]
              omega
            by_cases h36b : vr33.toInt ≤ ir79.toInt
            · skip
              refine he_cmpge_t (n := 39) (t := 85) (by decide +kernel) (by omega) ?_
              refine he_iload (n := 87) (i := 4) (by decide +kernel) rfl ?_
              refine he_ifge_t (n := 90) (t := 97) (by decide +kernel) (by omega) ?_
              exact hm_t97 hC hd hz hcr hj1 p1 hk hn hk4 hn32 hdf hu q2 q3 (by omega) (by omega) (by omega) q97 KF KA
            · skip
              refine he_cmpge_f (n := 39) (t := 85) (by decide +kernel) (by omega) ?_
              refine he_iload (n := 41) (i := 4) (by decide +kernel) rfl ?_
              refine he_ifge_t (n := 44) (t := 85) (by decide +kernel) (by omega) ?_
              refine he_iload (n := 87) (i := 4) (by decide +kernel) rfl ?_
              refine he_ifge_t (n := 90) (t := 97) (by decide +kernel) (by omega) ?_
              exact hm_t97 hC hd hz hcr hj1 p1 hk hn hk4 hn32 hdf hu q2 q3 (by omega) (by omega) (by omega) q97 KF KA
        · intro Mr rr hmr hxr kr1 kr2 kr3 lr1
          have lr2 := lr1
          have hcr : hm_C j k M Mr := hm_Cf (q' := mz_q149) hcn hmr hxr kr1 kr2 kr3 (hb_vc (kr1 234 (by decide) (by decide)) 48) (by decide) (by decide) (by decide)
          have e4 : ∀ i, hv Mr 264 i = hv Mc 264 i := fun i => (hb_vc (kr1 264 (by decide) (by decide)) i).trans (hb_vc (kn1 264 (by decide) (by decide)) i)
          show mq_R mq_PP (d + 2) 152 59 _ [.int rr] (Mr, z, u) Q
          refine he_istore (n := 61) (i := 5) (by decide +kernel) rfl ?_
          refine he_iload (n := 63) (i := 5) (by decide +kernel) rfl ?_
          by_cases h63 : rr.toInt < 0
          · skip
            refine he_iflt_t (n := 66) (t := 76) (by decide +kernel) (by omega) ?_
            refine he_iconst (n := 77) (c := -1) (by decide +kernel) (by decide) ?_
            intro cr76 hcr76
            refine he_istore (n := 79) (i := 4) (by decide +kernel) rfl ?_
            refine he_iinc (n := 82) (i := 6) (c := 1) (L' := fun v => [some (.ref (234)), some (.int x1), some (.int x2), some (.int x3), some (.int cr76), some (.int rr), some (.int v), none, none, none]) (by decide +kernel) (by decide) rfl (fun _ => rfl) (by omega) (by omega) ?_
            intro ir79 hir79
            refine he_goto (t := 30) (by decide +kernel) ?_
            exact ih Mr cr76 rr ir79 hcr (by omega) (by omega) (by omega)
          · skip
            omega
      · skip
        refine hu_recordFor1 (hC (mz_q156, 2) (List.mem_of_getElem? (show mz_Cs[156]? = _ from rfl)) (by decide)) (by omega) hz hmn hxn (by omega) (by omega) ?_ ?_
        · intro Mr rr hmr hxr kr1 kr2 kr3 lr1 lr2
          have hcr : hm_C j k M Mr := hm_Cf (q' := mz_q156) hcn hmr hxr kr1 kr2 kr3 (hb_vc (kr1 234 (by decide) (by decide)) 48) (by decide) (by decide) (by decide)
          have e4 : ∀ i, hv Mr 264 i = hv Mc 264 i := fun i => (hb_vc (kr1 264 (by decide) (by decide)) i).trans (hb_vc (kn1 264 (by decide) (by decide)) i)
          show mq_R mq_PP (d + 2) 152 59 _ [.int rr] (Mr, z, u) Q
          refine he_istore (n := 61) (i := 5) (by decide +kernel) rfl ?_
          refine he_iload (n := 63) (i := 5) (by decide +kernel) rfl ?_
          by_cases h63 : rr.toInt < 0
          · skip
            refine he_iflt_t (n := 66) (t := 76) (by decide +kernel) (by omega) ?_
            refine he_iconst (n := 77) (c := -1) (by decide +kernel) (by decide) ?_
            intro cr76 hcr76
            refine he_istore (n := 79) (i := 4) (by decide +kernel) rfl ?_
            refine he_iinc (n := 82) (i := 6) (c := 1) (L' := fun v => [some (.ref (234)), some (.int x1), some (.int x2), some (.int x3), some (.int cr76), some (.int rr), some (.int v), none, none, none]) (by decide +kernel) (by decide) rfl (fun _ => rfl) (by omega) (by omega) ?_
            intro ir79 hir79
            refine he_goto (t := 30) (by decide +kernel) ?_
            exact ih Mr cr76 rr ir79 hcr (by omega) (by omega) (by omega)
          · skip
            refine he_iflt_f (n := 66) (t := 76) (by decide +kernel) (by omega) ?_
            refine he_aload (n := 67) (i := 0) (by decide +kernel) rfl ?_
            refine he_getr (n := 70) (ci := 9) (j := 39) (ns := [4216, 98]) (b := 264) hmr (by decide +kernel) rfl rfl (by decide +kernel) ?_
            refine he_iload (n := 72) (i := 6) (by decide +kernel) rfl ?_
            refine hb_ld (n := 73) (kind := 64) hmr (by decide +kernel) rfl rfl (.inl rfl) (by omega) (show _ < (4 : Int) by omega) hb_at1 ?_
            intro vr72 hvr72 lvr72 uvr72
            refine he_goto (t := 77) (by decide +kernel) ?_
            refine he_istore (n := 79) (i := 4) (by decide +kernel) rfl ?_
            refine he_iinc (n := 82) (i := 6) (c := 1) (L' := fun v => [some (.ref (234)), some (.int x1), some (.int x2), some (.int x3), some (.int vr72), some (.int rr), some (.int v), none, none, none]) (by decide +kernel) (by decide) rfl (fun _ => rfl) (by omega) (by omega) ?_
            intro ir79 hir79
            refine he_goto (t := 30) (by decide +kernel) ?_
            refine he_iload (n := 32) (i := 6) (by decide +kernel) rfl ?_
            refine he_aload (n := 33) (i := 0) (by decide +kernel) rfl ?_
            refine hb_gfd (n := 36) (ci := 9) (j := 38) (ns := [4215, 247]) hmr (by decide +kernel) rfl rfl (by decide) rfl ?_
            intro vr33 hvr33 lvr33 uvr33
            have q72 : vr72.toInt = v51.toInt := by rw [← hvr72, e4, hv51]
            have q97 : rr.toInt < hv Mr 238 vr72.toInt.toNat := by
              rw [show vr72.toInt.toNat = 1 by omega, hb_vc (kr1 238 (by decide) (by decide))]
              omega
            by_cases h36b : vr33.toInt ≤ ir79.toInt
            · skip
              refine he_cmpge_t (n := 39) (t := 85) (by decide +kernel) (by omega) ?_
              refine he_iload (n := 87) (i := 4) (by decide +kernel) rfl ?_
              refine he_ifge_t (n := 90) (t := 97) (by decide +kernel) (by omega) ?_
              exact hm_t97 hC hd hz hcr hj1 p1 hk hn hk4 hn32 hdf hu q2 q3 (by omega) (by omega) (by omega) q97 KF KA
            · skip
              refine he_cmpge_f (n := 39) (t := 85) (by decide +kernel) (by omega) ?_
              refine he_iload (n := 41) (i := 4) (by decide +kernel) rfl ?_
              refine he_ifge_t (n := 44) (t := 85) (by decide +kernel) (by omega) ?_
              refine he_iload (n := 87) (i := 4) (by decide +kernel) rfl ?_
              refine he_ifge_t (n := 90) (t := 97) (by decide +kernel) (by omega) ?_
              exact hm_t97 hC hd hz hcr hj1 p1 hk hn hk4 hn32 hdf hu q2 q3 (by omega) (by omega) (by omega) q97 KF KA
        · intro Mr rr hmr hxr kr1 kr2 kr3 lr1
          have lr2 := lr1
          have hcr : hm_C j k M Mr := hm_Cf (q' := mz_q156) hcn hmr hxr kr1 kr2 kr3 (hb_vc (kr1 234 (by decide) (by decide)) 48) (by decide) (by decide) (by decide)
          have e4 : ∀ i, hv Mr 264 i = hv Mc 264 i := fun i => (hb_vc (kr1 264 (by decide) (by decide)) i).trans (hb_vc (kn1 264 (by decide) (by decide)) i)
          show mq_R mq_PP (d + 2) 152 59 _ [.int rr] (Mr, z, u) Q
          refine he_istore (n := 61) (i := 5) (by decide +kernel) rfl ?_
          refine he_iload (n := 63) (i := 5) (by decide +kernel) rfl ?_
          by_cases h63 : rr.toInt < 0
          · skip
            refine he_iflt_t (n := 66) (t := 76) (by decide +kernel) (by omega) ?_
            refine he_iconst (n := 77) (c := -1) (by decide +kernel) (by decide) ?_
            intro cr76 hcr76
            refine he_istore (n := 79) (i := 4) (by decide +kernel) rfl ?_
            refine he_iinc (n := 82) (i := 6) (c := 1) (L' := fun v => [some (.ref (234)), some (.int x1), some (.int x2), some (.int x3), some (.int cr76), some (.int rr), some (.int v), none, none, none]) (by decide +kernel) (by decide) rfl (fun _ => rfl) (by omega) (by omega) ?_
            intro ir79 hir79
            refine he_goto (t := 30) (by decide +kernel) ?_
            exact ih Mr cr76 rr ir79 hcr (by omega) (by omega) (by omega)
          · skip
            omega
      · skip
        refine hu_recordFor2 (hC (mz_q163, 2) (List.mem_of_getElem? (show mz_Cs[163]? = _ from rfl)) (by decide)) (by omega) hz hmn hxn (by omega) (by omega) ?_ ?_
        · intro Mr rr hmr hxr kr1 kr2 kr3 lr1 lr2
          have hcr : hm_C j k M Mr := hm_Cf (q' := mz_q163) hcn hmr hxr kr1 kr2 kr3 (hb_vc (kr1 234 (by decide) (by decide)) 48) (by decide) (by decide) (by decide)
          have e4 : ∀ i, hv Mr 264 i = hv Mc 264 i := fun i => (hb_vc (kr1 264 (by decide) (by decide)) i).trans (hb_vc (kn1 264 (by decide) (by decide)) i)
          show mq_R mq_PP (d + 2) 152 59 _ [.int rr] (Mr, z, u) Q
          refine he_istore (n := 61) (i := 5) (by decide +kernel) rfl ?_
          refine he_iload (n := 63) (i := 5) (by decide +kernel) rfl ?_
          by_cases h63 : rr.toInt < 0
          · skip
            refine he_iflt_t (n := 66) (t := 76) (by decide +kernel) (by omega) ?_
            refine he_iconst (n := 77) (c := -1) (by decide +kernel) (by decide) ?_
            intro cr76 hcr76
            refine he_istore (n := 79) (i := 4) (by decide +kernel) rfl ?_
            refine he_iinc (n := 82) (i := 6) (c := 1) (L' := fun v => [some (.ref (234)), some (.int x1), some (.int x2), some (.int x3), some (.int cr76), some (.int rr), some (.int v), none, none, none]) (by decide +kernel) (by decide) rfl (fun _ => rfl) (by omega) (by omega) ?_
            intro ir79 hir79
            refine he_goto (t := 30) (by decide +kernel) ?_
            exact ih Mr cr76 rr ir79 hcr (by omega) (by omega) (by omega)
          · skip
            refine he_iflt_f (n := 66) (t := 76) (by decide +kernel) (by omega) ?_
            refine he_aload (n := 67) (i := 0) (by decide +kernel) rfl ?_
            refine he_getr (n := 70) (ci := 9) (j := 39) (ns := [4216, 98]) (b := 264) hmr (by decide +kernel) rfl rfl (by decide +kernel) ?_
            refine he_iload (n := 72) (i := 6) (by decide +kernel) rfl ?_
            refine hb_ld (n := 73) (kind := 64) hmr (by decide +kernel) rfl rfl (.inl rfl) (by omega) (show _ < (4 : Int) by omega) hb_at1 ?_
            intro vr72 hvr72 lvr72 uvr72
            refine he_goto (t := 77) (by decide +kernel) ?_
            refine he_istore (n := 79) (i := 4) (by decide +kernel) rfl ?_
            refine he_iinc (n := 82) (i := 6) (c := 1) (L' := fun v => [some (.ref (234)), some (.int x1), some (.int x2), some (.int x3), some (.int vr72), some (.int rr), some (.int v), none, none, none]) (by decide +kernel) (by decide) rfl (fun _ => rfl) (by omega) (by omega) ?_
            intro ir79 hir79
            refine he_goto (t := 30) (by decide +kernel) ?_
            refine he_iload (n := 32) (i := 6) (by decide +kernel) rfl ?_
            refine he_aload (n := 33) (i := 0) (by decide +kernel) rfl ?_
            refine hb_gfd (n := 36) (ci := 9) (j := 38) (ns := [4215, 247]) hmr (by decide +kernel) rfl rfl (by decide) rfl ?_
            intro vr33 hvr33 lvr33 uvr33
            have q72 : vr72.toInt = v51.toInt := by rw [← hvr72, e4, hv51]
            have q97 : rr.toInt < hv Mr 238 vr72.toInt.toNat := by
              rw [show vr72.toInt.toNat = 2 by omega, hb_vc (kr1 238 (by decide) (by decide))]
              omega
            by_cases h36b : vr33.toInt ≤ ir79.toInt
            · skip
              refine he_cmpge_t (n := 39) (t := 85) (by decide +kernel) (by omega) ?_
              refine he_iload (n := 87) (i := 4) (by decide +kernel) rfl ?_
              refine he_ifge_t (n := 90) (t := 97) (by decide +kernel) (by omega) ?_
              exact hm_t97 hC hd hz hcr hj1 p1 hk hn hk4 hn32 hdf hu q2 q3 (by omega) (by omega) (by omega) q97 KF KA
            · skip
              refine he_cmpge_f (n := 39) (t := 85) (by decide +kernel) (by omega) ?_
              refine he_iload (n := 41) (i := 4) (by decide +kernel) rfl ?_
              refine he_ifge_t (n := 44) (t := 85) (by decide +kernel) (by omega) ?_
              refine he_iload (n := 87) (i := 4) (by decide +kernel) rfl ?_
              refine he_ifge_t (n := 90) (t := 97) (by decide +kernel) (by omega) ?_
              exact hm_t97 hC hd hz hcr hj1 p1 hk hn hk4 hn32 hdf hu q2 q3 (by omega) (by omega) (by omega) q97 KF KA
        · intro Mr rr hmr hxr kr1 kr2 kr3 lr1
          have lr2 := lr1
          have hcr : hm_C j k M Mr := hm_Cf (q' := mz_q163) hcn hmr hxr kr1 kr2 kr3 (hb_vc (kr1 234 (by decide) (by decide)) 48) (by decide) (by decide) (by decide)
          have e4 : ∀ i, hv Mr 264 i = hv Mc 264 i := fun i => (hb_vc (kr1 264 (by decide) (by decide)) i).trans (hb_vc (kn1 264 (by decide) (by decide)) i)
          show mq_R mq_PP (d + 2) 152 59 _ [.int rr] (Mr, z, u) Q
          refine he_istore (n := 61) (i := 5) (by decide +kernel) rfl ?_
          refine he_iload (n := 63) (i := 5) (by decide +kernel) rfl ?_
          by_cases h63 : rr.toInt < 0
          · skip
            refine he_iflt_t (n := 66) (t := 76) (by decide +kernel) (by omega) ?_
            refine he_iconst (n := 77) (c := -1) (by decide +kernel) (by decide) ?_
            intro cr76 hcr76
            refine he_istore (n := 79) (i := 4) (by decide +kernel) rfl ?_
            refine he_iinc (n := 82) (i := 6) (c := 1) (L' := fun v => [some (.ref (234)), some (.int x1), some (.int x2), some (.int x3), some (.int cr76), some (.int rr), some (.int v), none, none, none]) (by decide +kernel) (by decide) rfl (fun _ => rfl) (by omega) (by omega) ?_
            intro ir79 hir79
            refine he_goto (t := 30) (by decide +kernel) ?_
            exact ih Mr cr76 rr ir79 hcr (by omega) (by omega) (by omega)
          · skip
            omega
      · skip
        refine hu_recordFor3 (hC (mz_q170, 2) (List.mem_of_getElem? (show mz_Cs[170]? = _ from rfl)) (by decide)) (by omega) hz hmn hxn (by omega) (by omega) ?_ ?_
        · intro Mr rr hmr hxr kr1 kr2 kr3 lr1 lr2
          have hcr : hm_C j k M Mr := hm_Cf (q' := mz_q170) hcn hmr hxr kr1 kr2 kr3 (hb_vc (kr1 234 (by decide) (by decide)) 48) (by decide) (by decide) (by decide)
          have e4 : ∀ i, hv Mr 264 i = hv Mc 264 i := fun i => (hb_vc (kr1 264 (by decide) (by decide)) i).trans (hb_vc (kn1 264 (by decide) (by decide)) i)
          show mq_R mq_PP (d + 2) 152 59 _ [.int rr] (Mr, z, u) Q
          refine he_istore (n := 61) (i := 5) (by decide +kernel) rfl ?_
          refine he_iload (n := 63) (i := 5) (by decide +kernel) rfl ?_
          by_cases h63 : rr.toInt < 0
          · skip
            refine he_iflt_t (n := 66) (t := 76) (by decide +kernel) (by omega) ?_
            refine he_iconst (n := 77) (c := -1) (by decide +kernel) (by decide) ?_
            intro cr76 hcr76
            refine he_istore (n := 79) (i := 4) (by decide +kernel) rfl ?_
            refine he_iinc (n := 82) (i := 6) (c := 1) (L' := fun v => [some (.ref (234)), some (.int x1), some (.int x2), some (.int x3), some (.int cr76), some (.int rr), some (.int v), none, none, none]) (by decide +kernel) (by decide) rfl (fun _ => rfl) (by omega) (by omega) ?_
            intro ir79 hir79
            refine he_goto (t := 30) (by decide +kernel) ?_
            exact ih Mr cr76 rr ir79 hcr (by omega) (by omega) (by omega)
          · skip
            refine he_iflt_f (n := 66) (t := 76) (by decide +kernel) (by omega) ?_
            refine he_aload (n := 67) (i := 0) (by decide +kernel) rfl ?_
            refine he_getr (n := 70) (ci := 9) (j := 39) (ns := [4216, 98]) (b := 264) hmr (by decide +kernel) rfl rfl (by decide +kernel) ?_
            refine he_iload (n := 72) (i := 6) (by decide +kernel) rfl ?_
            refine hb_ld (n := 73) (kind := 64) hmr (by decide +kernel) rfl rfl (.inl rfl) (by omega) (show _ < (4 : Int) by omega) hb_at1 ?_
            intro vr72 hvr72 lvr72 uvr72
            refine he_goto (t := 77) (by decide +kernel) ?_
            refine he_istore (n := 79) (i := 4) (by decide +kernel) rfl ?_
            refine he_iinc (n := 82) (i := 6) (c := 1) (L' := fun v => [some (.ref (234)), some (.int x1), some (.int x2), some (.int x3), some (.int vr72), some (.int rr), some (.int v), none, none, none]) (by decide +kernel) (by decide) rfl (fun _ => rfl) (by omega) (by omega) ?_
            intro ir79 hir79
            refine he_goto (t := 30) (by decide +kernel) ?_
            refine he_iload (n := 32) (i := 6) (by decide +kernel) rfl ?_
            refine he_aload (n := 33) (i := 0) (by decide +kernel) rfl ?_
            refine hb_gfd (n := 36) (ci := 9) (j := 38) (ns := [4215, 247]) hmr (by decide +kernel) rfl rfl (by decide) rfl ?_
            intro vr33 hvr33 lvr33 uvr33
            have q72 : vr72.toInt = v51.toInt := by rw [← hvr72, e4, hv51]
            have q97 : rr.toInt < hv Mr 238 vr72.toInt.toNat := by
              rw [show vr72.toInt.toNat = 3 by omega, hb_vc (kr1 238 (by decide) (by decide))]
              omega
            by_cases h36b : vr33.toInt ≤ ir79.toInt
            · skip
              refine he_cmpge_t (n := 39) (t := 85) (by decide +kernel) (by omega) ?_
              refine he_iload (n := 87) (i := 4) (by decide +kernel) rfl ?_
              refine he_ifge_t (n := 90) (t := 97) (by decide +kernel) (by omega) ?_
              exact hm_t97 hC hd hz hcr hj1 p1 hk hn hk4 hn32 hdf hu q2 q3 (by omega) (by omega) (by omega) q97 KF KA
            · skip
              refine he_cmpge_f (n := 39) (t := 85) (by decide +kernel) (by omega) ?_
              refine he_iload (n := 41) (i := 4) (by decide +kernel) rfl ?_
              refine he_ifge_t (n := 44) (t := 85) (by decide +kernel) (by omega) ?_
              refine he_iload (n := 87) (i := 4) (by decide +kernel) rfl ?_
              refine he_ifge_t (n := 90) (t := 97) (by decide +kernel) (by omega) ?_
              exact hm_t97 hC hd hz hcr hj1 p1 hk hn hk4 hn32 hdf hu q2 q3 (by omega) (by omega) (by omega) q97 KF KA
        · intro Mr rr hmr hxr kr1 kr2 kr3 lr1
          have lr2 := lr1
          have hcr : hm_C j k M Mr := hm_Cf (q' := mz_q170) hcn hmr hxr kr1 kr2 kr3 (hb_vc (kr1 234 (by decide) (by decide)) 48) (by decide) (by decide) (by decide)
          have e4 : ∀ i, hv Mr 264 i = hv Mc 264 i := fun i => (hb_vc (kr1 264 (by decide) (by decide)) i).trans (hb_vc (kn1 264 (by decide) (by decide)) i)
          show mq_R mq_PP (d + 2) 152 59 _ [.int rr] (Mr, z, u) Q
          refine he_istore (n := 61) (i := 5) (by decide +kernel) rfl ?_
          refine he_iload (n := 63) (i := 5) (by decide +kernel) rfl ?_
          by_cases h63 : rr.toInt < 0
          · skip
            refine he_iflt_t (n := 66) (t := 76) (by decide +kernel) (by omega) ?_
            refine he_iconst (n := 77) (c := -1) (by decide +kernel) (by decide) ?_
            intro cr76 hcr76
            refine he_istore (n := 79) (i := 4) (by decide +kernel) rfl ?_
            refine he_iinc (n := 82) (i := 6) (c := 1) (L' := fun v => [some (.ref (234)), some (.int x1), some (.int x2), some (.int x3), some (.int cr76), some (.int rr), some (.int v), none, none, none]) (by decide +kernel) (by decide) rfl (fun _ => rfl) (by omega) (by omega) ?_
            intro ir79 hir79
            refine he_goto (t := 30) (by decide +kernel) ?_
            exact ih Mr cr76 rr ir79 hcr (by omega) (by omega) (by omega)
          · skip
            omega
theorem hm_take {d z u j k n : Nat} {Q : (Option Value ⊕ Nat) → mq_S → Prop} {M : Nat → mq_C} {x1 : Int32} (hC : ∀ c ∈ mz_Cs, c.2 < 14 → mz_Ct mz_GG mq_PP HX c.1 c.2) (hd : 10 ≤ d) (hz : 272 ≤ z) (hj1 : j < 139) (p1 : x1.toInt = 12 * (j : Int)) (hk : hv M 267 (12 * j) = (k : Int)) (hn : hv M 267 (12 * j + 1) = (n : Int)) (hk4 : k < 4) (hn32 : n < 32) (hdf : hv M 261 (32 * k + n) = -1) (hu : hm_bit (hv M 262 k) n = false) (hm : mz_sh mz_GG M) (hx : HX M) (hj : hv M 234 48 = (j : Int) + 1)
    (KF : ∀ M' : Nat → mq_C, mz_sh mz_GG M' → HX M' → hm_rel k j M M' → hv M' 234 48 = (j : Int) → hm_w M' → Q (.inl none) (M', z, u))
    (KA : ∀ M' : Nat → mq_C, mz_sh mz_GG M' → HX M' → hm_T j k n M M' → hm_N j M M' → Q (.inl none) (M', z, u)) : mq_R mq_PP (d + 2) 152 0 [some (.ref 234), some (.int x1), none, none, none, none, none, none, none, none] [] (M, z, u) Q := by
  refine he_aload (n := 1) (i := 0) (by decide +kernel) rfl ?_
  refine he_getr (n := 4) (ci := 9) (j := 49) (ns := [4226, 107]) (b := 267) hm (by decide +kernel) rfl rfl (by decide +kernel) ?_
  refine he_iload (n := 5) (i := 1) (by decide +kernel) rfl ?_
  refine hb_ld (n := 6) (kind := 64) hm (by decide +kernel) rfl rfl (.inl rfl) (by omega) (show _ < (1680 : Int) by omega) (hm_f0 (by omega)) ?_
  intro v5 hv5 lv5 uv5
  refine he_istore (n := 7) (i := 2) (by decide +kernel) rfl ?_
  refine he_aload (n := 8) (i := 0) (by decide +kernel) rfl ?_
  refine he_getr (n := 11) (ci := 9) (j := 49) (ns := [4226, 107]) (b := 267) hm (by decide +kernel) rfl rfl (by decide +kernel) ?_
  refine he_iload (n := 12) (i := 1) (by decide +kernel) rfl ?_
  refine he_iconst (n := 13) (c := 1) (by decide +kernel) (by decide) ?_
  intro c12 hc12
  refine he_iadd (n := 14) (by decide +kernel) (by omega) (by omega) ?_
  intro v13 hv13
  refine hb_ld (n := 15) (kind := 64) hm (by decide +kernel) rfl rfl (.inl rfl) (by omega) (show _ < (1680 : Int) by omega) (hm_f1 (by omega)) ?_
  intro v14 hv14 lv14 uv14
  refine he_istore (n := 16) (i := 3) (by decide +kernel) rfl ?_
  refine he_aload (n := 17) (i := 0) (by decide +kernel) rfl ?_
  refine he_iload (n := 18) (i := 2) (by decide +kernel) rfl ?_
  have q5 : v5.toInt = (k : Int) := by rw [← hv5, show x1.toInt.toNat = 12 * j by omega]; exact hk
  have q14 : v14.toInt = (n : Int) := by rw [← hv14, show v13.toInt.toNat = 12 * j + 1 by omega]; exact hn
  refine he_v1 (n := 21) (j := 143) (ci := 9) (mx := 6) (ns := [6026, 6028, 73, 303]) (by decide +kernel) ((hb_kd (a := 234) hm rfl).trans rfl) (by decide) (by show 2 ≤ 6; omega) ?_
  rw [mq_e143]
  refine hz_R hz_model (by decide) hm ?_
  refine hu_mfindPath (hC (mz_q174, 10) (List.mem_of_getElem? (show mz_Cs[174]? = _ from rfl)) (by decide)) (by omega) hz hm hx (by omega) (by omega) ?_
  intro Mp hmp hxp kp1 kp2 kp3 hdp
  have hc0 : hm_C j k M M := ⟨hm, hx, hm_relr, hj, rfl, rfl⟩
  have hcp : hm_C j k M Mp := hm_Cf (q' := mz_q174) hc0 hmp hxp kp1 kp2 kp3 hdp (by decide) (by decide) (by decide)
  show mq_R mq_PP (d + 2) 152 21 _ [] (Mp, z, u) Q
  refine he_iconst (n := 22) (c := -1) (by decide +kernel) (by decide) ?_
  intro c21 hc21
  refine he_istore (n := 24) (i := 4) (by decide +kernel) rfl ?_
  refine he_iconst (n := 25) (c := -1) (by decide +kernel) (by decide) ?_
  intro c24 hc24
  refine he_istore (n := 27) (i := 5) (by decide +kernel) rfl ?_
  refine he_iconst (n := 28) (c := 0) (by decide +kernel) (by decide) ?_
  intro c27 hc27
  refine he_istore (n := 30) (i := 6) (by decide +kernel) rfl ?_
  exact hm_t30 hC hd hz hj1 p1 hk hn hk4 hn32 hdf hu q5 q14 KF KA 4 Mp c21 c24 c27 hcp (by omega) (by omega) (by omega)
