/-! The model's inflated and opened, exactly. -/
theorem ym_inf_l {d z u E cnt : Nat} {M0 : Nat → mq_C} {Q : (Option Value ⊕ Nat) → mq_S → Prop} (hE : E ≤ 1920) (hE8 : E = 8 * cnt) {R : Option (List Int)}
    (K : ∀ (M' : Nat → mq_C) (r : Int32), yU M0 M' → (∀ o', R = some o' → r.toInt = 1 ∧ hv M' 234 25 = (o'.length : Int) ∧ o'.length ≤ 200 ∧ ∀ i, i < o'.length → hv M' 253 i = o'.getD i 0) → (R = none → r.toInt = 0) → Q (.inl (some (.int r))) (M', z, u)) : ∀ (m : Nat) (M : Nat → mq_C) (a : Nat) (o : List Int) (la : Int32) (o2 o3 : Option Value), E < a + m → la.toInt = 0 → yV E 0 M0 M a o → o.length ≤ 200 → xun E (xB M0 252) m a o = R → mq_R mq_PP (d + 4) 119 17 [some (.ref 234), some (.int la), o2, o3] [] (M, z, u) Q := by
  have p4 : (2 : Int) ^ 2 = 4 := by decide
  intro m
  induction m with
  | zero =>
    intro M a o la o2 o3 hm hla hV
    have := hV.2.2.2.2.1
    omega
  | succ m ih =>
    intro M a o la o2 o3 hm hla hV ho hR
    rw [xun] at hR
    -- good or not: the end of a step
    have r108 : ∀ (sh : Int) (M3 : Nat → mq_C) (la bl g : Int32) (a3 : Nat) (o3' : List Int) (o3 : Option Value), (sh = 0 ∨ sh = 1) → (la.toInt = 0 ∨ la.toInt = 1) → yV E sh M0 M3 a3 o3' → o3'.length ≤ 200 → ((g.toInt = 0 ∨ sh = 1) → R = none) → (g.toInt = 0 ∨ g.toInt = 1) → (sh = 0 → g.toInt = 1 → a + 3 ≤ a3 ∧ (if la.toInt = 1 then (if E < a3 + 8 then some o3' else none) else xun E (xB M0 252) m a3 o3') = R) → mq_R mq_PP (d + 4) 119 108 [some (.ref 234), some (.int la), some (.int bl), o3] [.int g] (M3, z, u) Q := by
      intro sh M3 la bl g a3 o3' o3 hsh hla hV3 ho3 k1 hg k0
      refine he_istore (n := 109) (i := 3) (by decide +kernel) rfl ?_
      refine he_iload (n := 110) (i := 3) (by decide +kernel) rfl ?_
      by_cases h110 : g.toInt = 0
      · skip
        refine he_ifeq_t (n := 113) (t := 120) (by decide +kernel) (by omega) ?_
        refine he_iconst (n := 121) (c := 0) (by decide +kernel) (by decide) ?_
        intro c120 hc120
        refine he_retz (by decide +kernel) (by omega) ?_
        exact K M3 _ hV3.1 (fun o' ho => by rw [k1 (.inl h110)] at ho; cases ho) (fun _ => by omega)
      · skip
        refine he_ifeq_f (n := 113) (t := 120) (by decide +kernel) (by omega) ?_
        refine he_aload (n := 114) (i := 0) (by decide +kernel) rfl ?_
        refine hb_gfd (n := 117) (ci := 9) (j := 24) (ns := [4201, 135]) hV3.1.1 (by decide +kernel) rfl rfl (by decide) rfl ?_
        intro v114 hv114 lv114 uv114
        have q114 : v114.toInt = sh := by rw [← hv114]; exact hV3.2.2.2.1
        by_cases h117 : v114.toInt = 0
        rotate_left
        · skip
          refine he_ifeq_f (n := 120) (t := 122) (by decide +kernel) (by omega) ?_
          refine he_iconst (n := 121) (c := 0) (by decide +kernel) (by decide) ?_
          intro c120 hc120
          refine he_retz (by decide +kernel) (by omega) ?_
          exact K M3 _ hV3.1 (fun o' ho => by rw [k1 (.inr (by omega))] at ho; cases ho) (fun _ => by omega)
        obtain rfl : sh = 0 := by omega
        obtain ⟨g1, g2⟩ := k0 rfl (by omega)
        refine he_ifeq_t (n := 120) (t := 122) (by decide +kernel) (by omega) ?_
        refine he_goto (t := 17) (by decide +kernel) ?_
        rcases hla with hla | hla
        · rw [if_neg (by omega)] at g2
          exact ih M3 a3 o3' la _ _ (by omega) hla hV3 ho3 g2
        · rw [if_pos hla] at g2
          have vA : hv M3 234 23 = (a3 : Int) := hV3.2.1
          have vE : 8 * hv M3 234 21 = (E : Int) := hV3.2.2.1
          refine he_iload (n := 18) (i := 1) (by decide +kernel) rfl ?_
          refine he_ifne_t (n := 21) (t := 125) (by decide +kernel) (by omega) ?_
          refine he_aload (n := 126) (i := 0) (by decide +kernel) rfl ?_
          refine hb_gfd (n := 129) (ci := 9) (j := 23) (ns := [4200, 129]) hV3.1.1 (by decide +kernel) rfl rfl (by decide) rfl ?_
          intro v126 hv126 lv126 uv126
          have q126 : v126.toInt = (a3 : Int) := by rw [← hv126]; exact vA
          refine he_iconst (n := 131) (c := 7) (by decide +kernel) (by decide) ?_
          intro c129 hc129
          refine he_iadd (n := 132) (by decide +kernel) (by omega) (by omega) ?_
          intro v131 hv131
          refine he_iconst (n := 134) (c := 8) (by decide +kernel) (by decide) ?_
          intro c132 hc132
          refine xe_div (c := 8) (n := 135) (by decide +kernel) hc132 (by decide) (by omega) ?_
          intro v134 hv134
          refine he_aload (n := 136) (i := 0) (by decide +kernel) rfl ?_
          refine hb_gfd (n := 139) (ci := 9) (j := 21) (ns := [4198, 132]) hV3.1.1 (by decide +kernel) rfl rfl (by decide) rfl ?_
          intro v136 hv136 lv136 uv136
          have q136 : 8 * v136.toInt = (E : Int) := by rw [← hv136]; exact vE
          have haE := hV3.2.2.2.2.1
          by_cases h139 : E < a3 + 8
          · rw [if_pos h139] at g2
            refine he_cmpne_f (n := 142) (t := 146) (by decide +kernel) (by omega) ?_
            refine he_iconst (n := 143) (c := 1) (by decide +kernel) (by decide) ?_
            intro c142 hc142
            refine he_goto (t := 147) (by decide +kernel) ?_
            refine he_retz (by decide +kernel) (by omega) ?_
            exact K M3 _ hV3.1 (fun o' ho => by rw [← g2] at ho; cases ho; exact ⟨by omega, hV3.2.2.2.2.2.1, ho3, hV3.2.2.2.2.2.2⟩) (fun h => by rw [← g2] at h; cases h)
          · rw [if_neg h139] at g2
            refine he_cmpne_t (n := 142) (t := 146) (by decide +kernel) (by omega) ?_
            refine he_iconst (n := 147) (c := 0) (by decide +kernel) (by decide) ?_
            intro c146 hc146
            refine he_retz (by decide +kernel) (by omega) ?_
            exact K M3 _ hV3.1 (fun o' ho => by rw [← g2] at ho; cases ho) (fun _ => by omega)
    have r41 : ∀ (sh : Int) (M2 : Nat → mq_C) (la bl : Int32) (a2 : Nat), (sh = 0 ∨ sh = 1) → (la.toInt = 0 ∨ la.toInt = 1) → 0 ≤ bl.toInt → bl.toInt ≤ 3 → yV E sh M0 M2 a2 o → (sh = 1 → R = none) → (sh = 0 → a2 = a + 3 ∧ (match xblk E (xB M0 252) bl.toInt a2 o with
        | none => none
        | some (a1, o1) => if la.toInt = 1 then (if E < a1 + 8 then some o1 else none) else xun E (xB M0 252) m a1 o1) = R) → mq_R mq_PP (d + 4) 119 41 [some (.ref 234), some (.int la), some (.int bl), o3] [] (M2, z, u) Q := by
      intro sh M2 la bl a2 hsh hla t0 t3 hV2 k1 k0
      refine he_aload (n := 42) (i := 0) (by decide +kernel) rfl ?_
      refine hb_gfd (n := 45) (ci := 9) (j := 24) (ns := [4201, 135]) hV2.1.1 (by decide +kernel) rfl rfl (by decide) rfl ?_
      intro v42 hv42 lv42 uv42
      have q42 : v42.toInt = sh := by rw [← hv42]; exact hV2.2.2.2.1
      by_cases h45 : v42.toInt = 0
      rotate_left
      · skip
        refine he_ifne_t (n := 48) (t := 107) (by decide +kernel) (by omega) ?_
        refine he_iconst (n := 108) (c := 0) (by decide +kernel) (by decide) ?_
        intro c107 hc107
        exact r108 sh M2 la bl _ a2 o _ hsh hla hV2 ho (fun _ => k1 (by omega)) (by omega) (fun _ h => absurd h (by omega))
      obtain rfl : sh = 0 := by omega
      obtain ⟨g1, g2⟩ := k0 rfl
      refine he_ifne_f (n := 48) (t := 107) (by decide +kernel) (by omega) ?_
      refine he_iload (n := 49) (i := 2) (by decide +kernel) rfl ?_
      by_cases h49 : bl.toInt = 0
      · skip
        refine he_ifne_f (n := 52) (t := 62) (by decide +kernel) (by omega) ?_
        refine he_aload (n := 53) (i := 0) (by decide +kernel) rfl ?_
        refine he_v0 (n := 56) (j := 111) (ci := 9) (mx := 6) (ns := [5161, 5163, 56, 169]) (by decide +kernel) ((hb_kd (a := 234) hV2.1.1 rfl).trans rfl) (by show 0 ≤ 8; omega) (by show 1 ≤ 6; omega) ?_
        rw [mq_e111]
        refine ym_stored hE hE8 hV2 ho ?_ ?_
        · intro M3 r a3 o3' hx hV3 ho3 hr hF3
          show mq_R mq_PP (d + 4) 119 56 _ [.int r] (M3, z, u) Q
          refine he_ifeq_f (n := 59) (t := 107) (by decide +kernel) (by omega) ?_
          refine he_goto (t := 103) (by decide +kernel) ?_
          refine he_iconst (n := 104) (c := 1) (by decide +kernel) (by decide) ?_
          intro c103 hc103
          refine he_goto (t := 108) (by decide +kernel) ?_
          have hb : xblk E (xB M0 252) bl.toInt a2 o = some (a3, o3') := by unfold xblk; rw [if_pos h49]; exact hx
          rw [hb] at g2
          exact r108 0 M3 la bl _ a3 o3' _ (.inl rfl) hla hV3 ho3 (fun h => by omega) (by omega) (fun _ _ => ⟨by have := xst_m hx; omega, g2⟩)
        · intro M3 r sh3 a3 o3' hx hsh3 hV3 hr hF3
          show mq_R mq_PP (d + 4) 119 56 _ [.int r] (M3, z, u) Q
          refine he_ifeq_t (n := 59) (t := 107) (by decide +kernel) (by omega) ?_
          refine he_iconst (n := 108) (c := 0) (by decide +kernel) (by decide) ?_
          intro c107 hc107
          have hb : xblk E (xB M0 252) bl.toInt a2 o = none := by unfold xblk; rw [if_pos h49]; exact hx
          rw [hb] at g2
          exact r108 sh3 M3 la bl _ a3 o3' _ hsh3 hla hV3 (by have := hV3.2.2.2.2.2.1; have := yl_r hV3.1.1; omega) (fun _ => g2.symm) (by omega) (fun _ h => absurd h (by omega))
      · skip
        refine he_ifne_t (n := 52) (t := 62) (by decide +kernel) (by omega) ?_
        refine he_iload (n := 63) (i := 2) (by decide +kernel) rfl ?_
        refine he_iconst (n := 64) (c := 1) (by decide +kernel) (by decide) ?_
        intro c63 hc63
        by_cases h64 : bl.toInt = 1
        · skip
          refine he_cmpne_f (n := 67) (t := 84) (by decide +kernel) (by omega) ?_
          refine he_aload (n := 68) (i := 0) (by decide +kernel) rfl ?_
          refine he_v0 (n := 71) (j := 114) (ci := 9) (mx := 2) (ns := [5170, 5172, 58, 173]) (by decide +kernel) ((hb_kd (a := 234) hV2.1.1 rfl).trans rfl) (by show 0 ≤ 8; omega) (by show 1 ≤ 2; omega) ?_
          rw [mq_e114]
          refine ym_fixed hV2 ?_
          intro M3 r hr hV3 hT0 hT1 hF3
          show mq_R mq_PP (d + 4) 119 71 _ [.int r] (M3, z, u) Q
          refine he_ifeq_f (n := 74) (t := 107) (by decide +kernel) (by omega) ?_
          refine he_aload (n := 75) (i := 0) (by decide +kernel) rfl ?_
          refine he_v0 (n := 78) (j := 117) (ci := 9) (mx := 3) (ns := [5179, 5181, 60, 176]) (by decide +kernel) ((hb_kd (a := 234) hV3.1.1 rfl).trans rfl) (by show 0 ≤ 8; omega) (by show 1 ≤ 3; omega) ?_
          rw [mq_e117]
          refine ym_letters hE (by decide) (by decide) hV3 ho hT0 hT1 ?_ ?_
          · intro M4 r4 a4 o4 hx4 hV4 ho4 hr4 hF4
            show mq_R mq_PP (d + 4) 119 78 _ [.int r4] (M4, z, u) Q
            refine he_ifeq_f (n := 81) (t := 107) (by decide +kernel) (by omega) ?_
            refine he_goto (t := 103) (by decide +kernel) ?_
            refine he_iconst (n := 104) (c := 1) (by decide +kernel) (by decide) ?_
            intro c103 hc103
            refine he_goto (t := 108) (by decide +kernel) ?_
            have hb : xblk E (xB M0 252) bl.toInt a2 o = some (a4, o4) := by unfold xblk; rw [if_neg h49, if_pos h64]; exact hx4
            rw [hb] at g2
            exact r108 0 M4 la bl _ a4 o4 _ (.inl rfl) hla hV4 ho4 (fun h => by omega) (by omega) (fun _ _ => ⟨by have := xlt_m hx4; omega, g2⟩)
          · intro M4 r4 sh4 a4 o4 hx4 hsh4 hV4 hr4 hF4
            show mq_R mq_PP (d + 4) 119 78 _ [.int r4] (M4, z, u) Q
            have hb : xblk E (xB M0 252) bl.toInt a2 o = none := by unfold xblk; rw [if_neg h49, if_pos h64]; exact hx4
            rw [hb] at g2
            have ho4 : o4.length ≤ 200 := by have := hV4.2.2.2.2.2.1; have := yl_r hV4.1.1; omega
            by_cases hr0 : r4.toInt = 0
            · skip
              refine he_ifeq_t (n := 81) (t := 107) (by decide +kernel) (by omega) ?_
              refine he_iconst (n := 108) (c := 0) (by decide +kernel) (by decide) ?_
              intro c107 hc107
              exact r108 sh4 M4 la bl _ a4 o4 _ hsh4 hla hV4 ho4 (fun _ => g2.symm) (by omega) (fun _ h => absurd h (by omega))
            · skip
              refine he_ifeq_f (n := 81) (t := 107) (by decide +kernel) (by omega) ?_
              refine he_goto (t := 103) (by decide +kernel) ?_
              refine he_iconst (n := 104) (c := 1) (by decide +kernel) (by decide) ?_
              intro c103 hc103
              refine he_goto (t := 108) (by decide +kernel) ?_
              exact r108 sh4 M4 la bl _ a4 o4 _ hsh4 hla hV4 ho4 (fun _ => g2.symm) (by omega) (fun h _ => absurd h (by omega))
        · skip
          refine he_cmpne_t (n := 67) (t := 84) (by decide +kernel) (by omega) ?_
          refine he_iload (n := 85) (i := 2) (by decide +kernel) rfl ?_
          refine he_iconst (n := 86) (c := 2) (by decide +kernel) (by decide) ?_
          intro c85 hc85
          by_cases h86 : bl.toInt = 2
          rotate_left
          · skip
            refine he_cmpne_t (n := 89) (t := 107) (by decide +kernel) (by omega) ?_
            refine he_iconst (n := 108) (c := 0) (by decide +kernel) (by decide) ?_
            intro c107 hc107
            have hb : xblk E (xB M0 252) bl.toInt a2 o = none := by unfold xblk; rw [if_neg h49, if_neg h64, if_neg h86]
            rw [hb] at g2
            exact r108 0 M2 la bl _ a2 o _ (.inl rfl) hla hV2 ho (fun _ => g2.symm) (by omega) (fun _ h => absurd h (by omega))
          refine he_cmpne_f (n := 89) (t := 107) (by decide +kernel) (by omega) ?_
          refine he_aload (n := 90) (i := 0) (by decide +kernel) rfl ?_
          refine he_v0 (n := 93) (j := 116) (ci := 9) (mx := 9) (ns := [5191, 5193, 63, 179]) (by decide +kernel) ((hb_kd (a := 234) hV2.1.1 rfl).trans rfl) (by show 0 ≤ 8; omega) (by show 1 ≤ 9; omega) ?_
          rw [mq_e116]
          refine ym_dynamic hE hV2 ?_ ?_
          · intro M3 r a3 l nl nd hx n1 n2 hr hV3 hT0 hT1 hF3
            show mq_R mq_PP (d + 4) 119 93 _ [.int r] (M3, z, u) Q
            refine he_ifeq_f (n := 96) (t := 107) (by decide +kernel) (by omega) ?_
            refine he_aload (n := 97) (i := 0) (by decide +kernel) rfl ?_
            refine he_v0 (n := 100) (j := 117) (ci := 9) (mx := 3) (ns := [5179, 5181, 60, 176]) (by decide +kernel) ((hb_kd (a := 234) hV3.1.1 rfl).trans rfl) (by show 0 ≤ 8; omega) (by show 1 ≤ 3; omega) ?_
            rw [mq_e117]
            refine ym_letters hE (by omega) (by omega) hV3 ho hT0 hT1 ?_ ?_
            · intro M4 r4 a4 o4 hx4 hV4 ho4 hr4 hF4
              show mq_R mq_PP (d + 4) 119 100 _ [.int r4] (M4, z, u) Q
              refine he_ifeq_f (n := 103) (t := 107) (by decide +kernel) (by omega) ?_
              refine he_iconst (n := 104) (c := 1) (by decide +kernel) (by decide) ?_
              intro c103 hc103
              refine he_goto (t := 108) (by decide +kernel) ?_
              have hb : xblk E (xB M0 252) bl.toInt a2 o = some (a4, o4) := by unfold xblk; rw [if_neg h49, if_neg h64, if_pos h86, hx]; exact hx4
              rw [hb] at g2
              exact r108 0 M4 la bl _ a4 o4 _ (.inl rfl) hla hV4 ho4 (fun h => by omega) (by omega) (fun _ _ => ⟨by have := xlt_m hx4; have := xcd_m hx; omega, g2⟩)
            · intro M4 r4 sh4 a4 o4 hx4 hsh4 hV4 hr4 hF4
              show mq_R mq_PP (d + 4) 119 100 _ [.int r4] (M4, z, u) Q
              have hb : xblk E (xB M0 252) bl.toInt a2 o = none := by unfold xblk; rw [if_neg h49, if_neg h64, if_pos h86, hx]; exact hx4
              rw [hb] at g2
              have ho4 : o4.length ≤ 200 := by have := hV4.2.2.2.2.2.1; have := yl_r hV4.1.1; omega
              by_cases hr0 : r4.toInt = 0
              · skip
                refine he_ifeq_t (n := 103) (t := 107) (by decide +kernel) (by omega) ?_
                refine he_iconst (n := 108) (c := 0) (by decide +kernel) (by decide) ?_
                intro c107 hc107
                exact r108 sh4 M4 la bl _ a4 o4 _ hsh4 hla hV4 ho4 (fun _ => g2.symm) (by omega) (fun _ h => absurd h (by omega))
              · skip
                refine he_ifeq_f (n := 103) (t := 107) (by decide +kernel) (by omega) ?_
                refine he_iconst (n := 104) (c := 1) (by decide +kernel) (by decide) ?_
                intro c103 hc103
                refine he_goto (t := 108) (by decide +kernel) ?_
                exact r108 sh4 M4 la bl _ a4 o4 _ hsh4 hla hV4 ho4 (fun _ => g2.symm) (by omega) (fun h _ => absurd h (by omega))
          · intro M3 r sh3 a3 hx hsh3 hV3 hr hF3
            show mq_R mq_PP (d + 4) 119 93 _ [.int r] (M3, z, u) Q
            have hb : xblk E (xB M0 252) bl.toInt a2 o = none := by unfold xblk; rw [if_neg h49, if_neg h64, if_pos h86, hx]
            rw [hb] at g2
            refine he_ifeq_t (n := 96) (t := 107) (by decide +kernel) (by omega) ?_
            refine he_iconst (n := 108) (c := 0) (by decide +kernel) (by decide) ?_
            intro c107 hc107
            exact r108 sh3 M3 la bl _ a3 o _ hsh3 hla hV3 ho (fun _ => g2.symm) (by omega) (fun _ h => absurd h (by omega))
    refine he_iload (n := 18) (i := 1) (by decide +kernel) rfl ?_
    refine he_ifne_f (n := 21) (t := 125) (by decide +kernel) (by omega) ?_
    refine he_aload (n := 22) (i := 0) (by decide +kernel) rfl ?_
    have r25 : ∀ (sh : Int) (M1 : Nat → mq_C) (r1 : Int32) (a1 : Nat), (sh = 0 ∨ sh = 1) → (r1.toInt = 0 ∨ r1.toInt = 1) → yV E sh M0 M1 a1 o → (sh = 1 → R = none) → (sh = 0 → a1 = a + 1 ∧ r1.toInt = xb (xB M0 252) a 1) → mq_R mq_PP (d + 4) 119 25 [some (.ref 234), some (.int la), o2, o3] [.int r1] (M1, z, u) Q := by
      intro sh M1 r1 a1 hsh h01 hV1 k1 k0
      have r34 : ∀ lb : Int32, lb.toInt = r1.toInt → mq_R mq_PP (d + 4) 119 34 [some (.ref 234), some (.int la), o2, o3] [.int lb] (M1, z, u) Q := by
        intro lb hlb
        refine he_istore (n := 35) (i := 1) (by decide +kernel) rfl ?_
        refine he_aload (n := 36) (i := 0) (by decide +kernel) rfl ?_
        refine he_iconst (n := 37) (c := 2) (by decide +kernel) (by decide) ?_
        intro c36 hc36
        refine he_v1 (n := 40) (j := 109) (ci := 9) (mx := 4) (ns := [5157, 5159, 55, 146]) (by decide +kernel) ((hb_kd (a := 234) hV1.1.1 rfl).trans rfl) (by show 0 ≤ 8; omega) (by show 2 ≤ 4; omega) ?_
        rw [mq_e109]
        refine ym_num (k := 2) hE (by decide) (by omega) hV1 ?_ ?_
        · intro M2 bl hEk hV2 hr hF2
          have hb := xb_b (B := (xB M0 252)) (fun i => xB_01 _) a1 2
          show mq_R mq_PP (d + 4) 119 40 _ [.int bl] (M2, z, u) Q
          refine he_istore (n := 41) (i := 2) (by decide +kernel) rfl ?_
          refine r41 sh M2 lb bl (a1 + 2) hsh (by omega) (by omega) (by omega) hV2 k1 (fun e => ?_)
          obtain ⟨g1, g2⟩ := k0 e
          rw [if_pos (by omega)] at hR
          refine ⟨by omega, ?_⟩
          rw [hr, hlb, g2, g1]
          exact hR
        · intro M2 bl a2 hEk hV2 hr0 hr1 hF2
          show mq_R mq_PP (d + 4) 119 40 _ [.int bl] (M2, z, u) Q
          refine he_istore (n := 41) (i := 2) (by decide +kernel) rfl ?_
          refine r41 1 M2 lb bl a2 (.inr rfl) (by omega) (by omega) (by omega) hV2 (fun _ => ?_) (fun h => absurd h (by decide))
          rcases hsh with e | e
          · obtain ⟨g1, g2⟩ := k0 e
            rw [if_neg (by omega)] at hR
            exact hR.symm
          · exact k1 e
      refine he_iconst (n := 26) (c := 1) (by decide +kernel) (by decide) ?_
      intro c25 hc25
      by_cases h26 : r1.toInt = 1
      · skip
        refine he_cmpne_f (n := 29) (t := 33) (by decide +kernel) (by omega) ?_
        refine he_iconst (n := 30) (c := 1) (by decide +kernel) (by decide) ?_
        intro c29 hc29
        refine he_goto (t := 34) (by decide +kernel) ?_
        exact r34 _ (by omega)
      · skip
        refine he_cmpne_t (n := 29) (t := 33) (by decide +kernel) (by omega) ?_
        refine he_iconst (n := 34) (c := 0) (by decide +kernel) (by decide) ?_
        intro c33 hc33
        exact r34 _ (by omega)
    refine he_v0 (n := 25) (j := 108) (ci := 9) (mx := 2) (ns := [5153, 5155, 54, 139]) (by decide +kernel) ((hb_kd (a := 234) hV.1.1 rfl).trans rfl) (by show 0 ≤ 8; omega) (by show 1 ≤ 2; omega) ?_
    rw [mq_e108]
    refine ym_bit hE hV ?_ ?_
    · intro M1 r1 hlt hV1 hr hF1
      show mq_R mq_PP (d + 4) 119 25 _ [.int r1] (M1, z, u) Q
      have hb1 : xb (xB M0 252) a 1 = xB M0 252 a := by
        show 0 + xB M0 252 (a + 0) * 2 ^ 0 = _
        rw [Nat.add_zero, show (2 : Int) ^ 0 = 1 from rfl, Int.mul_one, Int.zero_add]
      exact r25 0 M1 r1 (a + 1) (.inl rfl) (by rw [hr]; exact xB_01 _) hV1 (fun h => absurd h (by decide)) (fun _ => ⟨rfl, by rw [hr, hb1]⟩)
    · intro M1 r1 hlt hV1 hr hF1
      show mq_R mq_PP (d + 4) 119 25 _ [.int r1] (M1, z, u) Q
      rw [if_neg (by omega)] at hR
      exact r25 1 M1 r1 a (.inr rfl) (.inl hr) hV1 (fun _ => hR.symm) (fun h => absurd h (by decide))
theorem ym_inflated {d z u cnt : Nat} {M : Nat → mq_C} {Q : (Option Value ⊕ Nat) → mq_S → Prop} (hm : mz_sh mz_GG M) (hc : hv M 234 21 = (cnt : Int)) (hc' : cnt ≤ 240)
    (K : ∀ (M' : Nat → mq_C) (r : Int32), yU M M' → (∀ o', xun (8 * cnt) (xB M 252) 1921 0 [] = some o' → r.toInt = 1 ∧ hv M' 234 25 = (o'.length : Int) ∧ o'.length ≤ 200 ∧ ∀ i, i < o'.length → hv M' 253 i = o'.getD i 0) → (xun (8 * cnt) (xB M 252) 1921 0 [] = none → r.toInt = 0) → Q (.inl (some (.int r))) (M', z, u)) : mq_R mq_PP (d + 4) 119 0 [some (.ref 234), none, none, none] [] (M, z, u) Q := by
  refine he_aload (n := 1) (i := 0) (by decide +kernel) rfl ?_
  refine he_iconst (n := 2) (c := 0) (by decide +kernel) (by decide) ?_
  intro c1 hc1
  refine hb_pfd (n := 5) (ci := 9) (j := 23) (t := 0) (ns := [4200, 129]) hm (by decide +kernel) rfl rfl (by decide) (.inl rfl) ?_
  generalize hM1 : hb_set M 234 23 c1 = M1
  have hm1 : mz_sh mz_GG M1 := by rw [← hM1]; exact hb_set_sh hm rfl rfl (by omega) (by omega)
  have eM1 : ∀ b j, b ≠ 234 ∨ j ≠ 23 → hv M1 b j = hv M b j := by intro b j h; rw [← hM1]; exact hb_set_n h
  have sM1 : hv M1 234 23 = c1.toInt := by rw [← hM1]; exact hb_set_v hm rfl (by decide)
  have wM1 : ∀ b, b ≠ 234 → M1 b = M b := by intro b h; rw [← hM1]; exact hb_set_c h
  refine he_aload (n := 6) (i := 0) (by decide +kernel) rfl ?_
  refine he_iconst (n := 7) (c := 0) (by decide +kernel) (by decide) ?_
  intro c6 hc6
  refine hb_pfd (n := 10) (ci := 9) (j := 24) (t := 1) (ns := [4201, 135]) hm1 (by decide +kernel) rfl rfl (by decide) (.inr ⟨rfl, he_01 (by omega)⟩) ?_
  generalize hM2 : hb_set M1 234 24 c6 = M2
  have hm2 : mz_sh mz_GG M2 := by rw [← hM2]; exact hb_set_sh hm1 rfl rfl (by omega) (by omega)
  have eM2 : ∀ b j, b ≠ 234 ∨ j ≠ 24 → hv M2 b j = hv M1 b j := by intro b j h; rw [← hM2]; exact hb_set_n h
  have sM2 : hv M2 234 24 = c6.toInt := by rw [← hM2]; exact hb_set_v hm1 rfl (by decide)
  have wM2 : ∀ b, b ≠ 234 → M2 b = M1 b := by intro b h; rw [← hM2]; exact hb_set_c h
  refine he_aload (n := 11) (i := 0) (by decide +kernel) rfl ?_
  refine he_iconst (n := 12) (c := 0) (by decide +kernel) (by decide) ?_
  intro c11 hc11
  refine hb_pfd (n := 15) (ci := 9) (j := 25) (t := 0) (ns := [4202, 143]) hm2 (by decide +kernel) rfl rfl (by decide) (.inl rfl) ?_
  generalize hM3 : hb_set M2 234 25 c11 = M3
  have hm3 : mz_sh mz_GG M3 := by rw [← hM3]; exact hb_set_sh hm2 rfl rfl (by omega) (by omega)
  have eM3 : ∀ b j, b ≠ 234 ∨ j ≠ 25 → hv M3 b j = hv M2 b j := by intro b j h; rw [← hM3]; exact hb_set_n h
  have sM3 : hv M3 234 25 = c11.toInt := by rw [← hM3]; exact hb_set_v hm2 rfl (by decide)
  have wM3 : ∀ b, b ≠ 234 → M3 b = M2 b := by intro b h; rw [← hM3]; exact hb_set_c h
  refine he_iconst (n := 16) (c := 0) (by decide +kernel) (by decide) ?_
  intro c15 hc15
  refine he_istore (n := 17) (i := 1) (by decide +kernel) rfl ?_
  have hU0 : yU M M := ⟨hm, fun _ _ _ => rfl, fun _ _ _ _ => rfl⟩
  have hU3 : yU M M3 := yU_set (yU_set (yU_set hU0 hM1 hm1 (by decide)) hM2 hm2 (by decide)) hM3 hm3 (by decide)
  have hV : yV (8 * cnt) 0 M M3 0 [] := by
    refine ⟨hU3, ?_, ?_, ?_, Nat.zero_le _, ?_, fun i hi => absurd hi (Nat.not_lt_zero i)⟩
    · rw [eM3 _ _ (.inr (by decide)), eM2 _ _ (.inr (by decide)), sM1]; omega
    · rw [eM3 _ _ (.inr (by decide)), eM2 _ _ (.inr (by decide)), eM1 _ _ (.inr (by decide)), hc]; omega
    · rw [eM3 _ _ (.inr (by decide)), sM2]; omega
    · rw [sM3]; show _ = (0 : Int); omega
  exact ym_inf_l (by omega) rfl K 1921 M3 0 [] _ none none (by omega) (by omega) hV (Nat.zero_le _) rfl
/-- give, with no word of the bits -/
theorem yg_give {d z u : Nat} {M0 M : Nat → mq_C} {o : List Int} {Q : (Option Value ⊕ Nat) → mq_S → Prop} {x1 : Int32} (hU : yU M0 M) (hL : hv M 234 25 = (o.length : Int)) (hx : ∀ i, i < o.length → hv M 253 i = o.getD i 0) (h1 : 0 ≤ x1.toInt ∧ x1.toInt ≤ 255)
    (K1 : ∀ (M' : Nat → mq_C) (r : Int32), o.length < 200 → yU M0 M' → hv M' 234 25 = ((o ++ [x1.toInt]).length : Int) → (∀ i, i < (o ++ [x1.toInt]).length → hv M' 253 i = (o ++ [x1.toInt]).getD i 0) → r.toInt = 1 → Q (.inl (some (.int r))) (M', z, u))
    (K2 : ∀ r : Int32, ¬ o.length < 200 → r.toInt = 0 → Q (.inl (some (.int r))) (M, z, u)) : mq_R mq_PP d 110 0 [some (.ref 234), some (.int x1)] [] (M, z, u) Q := by
  refine he_aload (n := 1) (i := 0) (by decide +kernel) rfl ?_
  refine hb_gfd (n := 4) (ci := 9) (j := 25) (ns := [4202, 143]) hU.1 (by decide +kernel) rfl rfl (by decide) rfl ?_
  intro v1 hv1 lv1 uv1
  refine he_iconst (n := 7) (c := 200) (by decide +kernel) (by decide) ?_
  intro c4 hc4
  have q1 : v1.toInt = (o.length : Int) := by rw [← hv1]; exact hL
  by_cases h7 : v1.toInt = c4.toInt
  · skip
    refine he_cmpne_f (n := 10) (t := 12) (by decide +kernel) (by omega) ?_
    refine he_iconst (n := 11) (c := 0) (by decide +kernel) (by decide) ?_
    intro c10 hc10
    refine he_retz (by decide +kernel) (by omega) ?_
    exact K2 _ (by omega) (by omega)
  · skip
    refine he_cmpne_t (n := 10) (t := 12) (by decide +kernel) (by omega) ?_
    refine he_aload (n := 13) (i := 0) (by decide +kernel) rfl ?_
    refine he_getr (n := 16) (ci := 9) (j := 26) (ns := [4203, 65]) (b := 253) hU.1 (by decide +kernel) rfl rfl (by decide +kernel) ?_
    refine he_aload (n := 17) (i := 0) (by decide +kernel) rfl ?_
    refine hb_gfd (n := 20) (ci := 9) (j := 25) (ns := [4202, 143]) hU.1 (by decide +kernel) rfl rfl (by decide) rfl ?_
    intro v17 hv17 lv17 uv17
    have q17 : v17.toInt = (o.length : Int) := by rw [← hv17]; exact hL
    refine he_iload (n := 21) (i := 1) (by decide +kernel) rfl ?_
    refine hb_sta (n := 22) (kind := 64) hU.1 (by decide +kernel) rfl rfl (.inl rfl) (by omega) (show _ < (201 : Int) by omega) ?_
    generalize hM1 : hb_set M 253 (v17.toInt.toNat) x1 = M1
    have hm1 : mz_sh mz_GG M1 := by rw [← hM1]; exact hb_set_sh hU.1 rfl hb_at1 (by omega) (by omega)
    have eM1 : ∀ b j, b ≠ 253 ∨ j ≠ v17.toInt.toNat → hv M1 b j = hv M b j := by intro b j h; rw [← hM1]; exact hb_set_n h
    have sM1 : hv M1 253 (v17.toInt.toNat) = x1.toInt := by rw [← hM1]; exact hb_set_v hU.1 rfl (show _ < 201 by omega)
    have wM1 : ∀ b, b ≠ 253 → M1 b = M b := by intro b h; rw [← hM1]; exact hb_set_c h
    refine he_aload (n := 23) (i := 0) (by decide +kernel) rfl ?_
    refine he_dup_r (n := 24) (by decide +kernel) ?_
    refine hb_gfd (n := 27) (ci := 9) (j := 25) (ns := [4202, 143]) hm1 (by decide +kernel) rfl rfl (by decide) rfl ?_
    intro v24 hv24 lv24 uv24
    have q24 : v24.toInt = (o.length : Int) := by rw [← hv24, eM1 _ _ (.inl (by decide))]; exact hL
    refine he_iconst (n := 28) (c := 1) (by decide +kernel) (by decide) ?_
    intro c27 hc27
    refine he_iadd (n := 29) (by decide +kernel) (by omega) (by omega) ?_
    intro v28 hv28
    refine hb_pfd (n := 32) (ci := 9) (j := 25) (t := 0) (ns := [4202, 143]) hm1 (by decide +kernel) rfl rfl (by decide) (.inl rfl) ?_
    generalize hM2 : hb_set M1 234 25 v28 = M2
    have hm2 : mz_sh mz_GG M2 := by rw [← hM2]; exact hb_set_sh hm1 rfl rfl (by omega) (by omega)
    have eM2 : ∀ b j, b ≠ 234 ∨ j ≠ 25 → hv M2 b j = hv M1 b j := by intro b j h; rw [← hM2]; exact hb_set_n h
    have sM2 : hv M2 234 25 = v28.toInt := by rw [← hM2]; exact hb_set_v hm1 rfl (by decide)
    have wM2 : ∀ b, b ≠ 234 → M2 b = M1 b := by intro b h; rw [← hM2]; exact hb_set_c h
    refine he_iconst (n := 33) (c := 1) (by decide +kernel) (by decide) ?_
    intro c32 hc32
    refine he_retz (by decide +kernel) (by omega) ?_
    have hU1 : yU M0 M1 := ⟨hm1, fun b n1 hb => by rw [wM1 b (by omega)]; exact hU.2.1 b n1 hb, fun j n1 n2 n3 => by rw [eM1 _ _ (.inl (by decide))]; exact hU.2.2 j n1 n2 n3⟩
    refine K1 M2 _ (by omega) (yU_set hU1 hM2 hm2 (by decide)) ?_ (fun i hi => ?_) (by omega)
    · rw [sM2, List.length_append]
      show _ = ((o.length + 1 : Nat) : Int)
      omega
    · rw [List.length_append] at hi
      have hi : i < o.length + 1 := hi
      rw [eM2 _ _ (.inl (by decide))]
      by_cases ei : i = o.length
      · rw [ei, xL_last, show o.length = v17.toInt.toNat by omega]
        exact sM1
      · rw [eM1 _ _ (.inr (by omega)), xL_get (by omega)]
        exact hx i (by omega)
theorem xB_byte0 {M : Nat → mq_C} {q : Nat} (h0 : 0 ≤ hv M 252 q) (h1 : hv M 252 q ≤ 255) : xb (xB M 252) (8 * q) 8 = hv M 252 q := by
  have e : (fun i => xB M 252 (8 * 0 + i)) = xB M 252 := by
    funext i
    rw [show 8 * 0 + i = i by omega]
  have := xB_byte (M := M) (pk := 252) (f := 0) (q := q) (by rw [Nat.zero_add]; exact h0) (by rw [Nat.zero_add]; exact h1)
  rw [e, Nat.zero_add] at this
  exact this
theorem ym_op_l {d z u cnt : Nat} {M0 : Nat → mq_C} {Q : (Option Value ⊕ Nat) → mq_S → Prop} {x1 : Int32} (hc' : cnt ≤ 240) {Ro : List Int}
    (K1 : ∀ (M' : Nat → mq_C) (r : Int32), cnt ≤ 200 → yU M0 M' → hv M' 234 25 = (Ro.length : Int) → (∀ i, i < Ro.length → hv M' 253 i = Ro.getD i 0) → r.toInt = 1 → Q (.inl (some (.int r))) (M', z, u))
    (K2 : ∀ (M' : Nat → mq_C) (r : Int32), ¬ cnt ≤ 200 → yU M0 M' → r.toInt = 0 → Q (.inl (some (.int r))) (M', z, u)) : ∀ (m j : Nat) (M : Nat → mq_C) (o : List Int) (g k : Int32), j + m = cnt → o.length = j → j ≤ 200 → k.toInt = (j : Int) → g.toInt = 1 → hv M0 234 21 = (cnt : Int) → yU M0 M → hv M 234 25 = (o.length : Int) → (∀ i, i < o.length → hv M 253 i = o.getD i 0) → xby (xB M0 252) m (8 * j) o = Ro → mq_R mq_PP (d + 1) 120 20 [some (.ref 234), some (.int x1), some (.int g), some (.int k)] [] (M, z, u) Q := by
  intro m
  induction m with
  | zero =>
    intro j M o g k e1 e2 e3 e4 hg hc hU hL hx hR
    refine he_iload (n := 21) (i := 3) (by decide +kernel) rfl ?_
    refine he_aload (n := 22) (i := 0) (by decide +kernel) rfl ?_
    refine hb_gfd (n := 25) (ci := 9) (j := 21) (ns := [4198, 132]) hU.1 (by decide +kernel) rfl rfl (by decide) rfl ?_
    intro v22 hv22 lv22 uv22
    have q22 : v22.toInt = (cnt : Int) := by rw [← hv22, hU.2.2 21 (by decide) (by decide) (by decide)]; exact hc
    refine he_cmpge_t (n := 28) (t := 49) (by decide +kernel) (by omega) ?_
    refine he_iload (n := 50) (i := 2) (by decide +kernel) rfl ?_
    refine he_retz (by decide +kernel) (by omega) ?_
    have hR : o = Ro := hR
    subst hR
    exact K1 M _ (by omega) hU hL hx hg
  | succ m ih =>
    intro j M o g k e1 e2 e3 e4 hg hc hU hL hx hR
    refine he_iload (n := 21) (i := 3) (by decide +kernel) rfl ?_
    refine he_aload (n := 22) (i := 0) (by decide +kernel) rfl ?_
    refine hb_gfd (n := 25) (ci := 9) (j := 21) (ns := [4198, 132]) hU.1 (by decide +kernel) rfl rfl (by decide) rfl ?_
    intro v22 hv22 lv22 uv22
    have q22 : v22.toInt = (cnt : Int) := by rw [← hv22, hU.2.2 21 (by decide) (by decide) (by decide)]; exact hc
    refine he_cmpge_f (n := 28) (t := 49) (by decide +kernel) (by omega) ?_
    refine he_iload (n := 29) (i := 2) (by decide +kernel) rfl ?_
    refine he_ifeq_f (n := 32) (t := 49) (by decide +kernel) (by omega) ?_
    refine he_aload (n := 33) (i := 0) (by decide +kernel) rfl ?_
    refine he_aload (n := 34) (i := 0) (by decide +kernel) rfl ?_
    refine he_getr (n := 37) (ci := 9) (j := 22) (ns := [4199, 62]) (b := 252) hU.1 (by decide +kernel) rfl rfl (by decide +kernel) ?_
    refine he_iload (n := 38) (i := 3) (by decide +kernel) rfl ?_
    refine hb_ld (n := 39) (kind := 64) hU.1 (by decide +kernel) rfl rfl (.inl rfl) (by omega) (show _ < (240 : Int) by omega) hb_at1 ?_
    intro v38 hv38 lv38 uv38
    refine he_v1 (n := 42) (j := 110) (ci := 9) (mx := 2) (ns := [5166, 5168, 57, 151]) (by decide +kernel) ((hb_kd (a := 234) hU.1 rfl).trans rfl) (by show 0 ≤ 8; omega) (by show 2 ≤ 2; omega) ?_
    rw [mq_e110]
    have q38 : hv M0 252 j = v38.toInt := by rw [← hb_vc (hU.2.1 252 (by decide) (by decide)), ← hv38, show k.toInt.toNat = j by omega]
    have q38' : xb (xB M0 252) (8 * j) 8 = v38.toInt := by rw [xB_byte0 (by omega) (by omega)]; exact q38
    refine yg_give hU hL hx (by omega) ?_ ?_
    · intro M2 r hl hU2 hL2 hx2 hr
      show mq_R mq_PP (d + 1) 120 42 _ [.int r] (M2, z, u) Q
      refine he_istore (n := 43) (i := 2) (by decide +kernel) rfl ?_
      refine he_iinc (n := 46) (i := 3) (c := 1) (L' := fun v => [some (.ref (234)), some (.int x1), some (.int r), some (.int v)]) (by decide +kernel) (by decide) rfl (fun _ => rfl) (by omega) (by omega) ?_
      intro i43 hi43
      refine he_goto (t := 20) (by decide +kernel) ?_
      refine ih (j + 1) M2 _ _ _ (by omega) (by rw [List.length_append]; show o.length + 1 = j + 1; omega) (by omega) (by omega) hr hc hU2 hL2 hx2 ?_
      rw [← q38', show 8 * (j + 1) = 8 * j + 8 by omega]
      exact hR
    · intro r hl hr
      show mq_R mq_PP (d + 1) 120 42 _ [.int r] (M, z, u) Q
      refine he_istore (n := 43) (i := 2) (by decide +kernel) rfl ?_
      refine he_iinc (n := 46) (i := 3) (c := 1) (L' := fun v => [some (.ref (234)), some (.int x1), some (.int r), some (.int v)]) (by decide +kernel) (by decide) rfl (fun _ => rfl) (by omega) (by omega) ?_
      intro i43 hi43
      refine he_goto (t := 20) (by decide +kernel) ?_
      refine he_iload (n := 21) (i := 3) (by decide +kernel) rfl ?_
      refine he_aload (n := 22) (i := 0) (by decide +kernel) rfl ?_
      refine hb_gfd (n := 25) (ci := 9) (j := 21) (ns := [4198, 132]) hU.1 (by decide +kernel) rfl rfl (by decide) rfl ?_
      intro v22 hv22 lv22 uv22
      have q22' : v22.toInt = (cnt : Int) := by rw [← hv22, hU.2.2 21 (by decide) (by decide) (by decide)]; exact hc
      by_cases h25 : v22.toInt ≤ i43.toInt
      · skip
        refine he_cmpge_t (n := 28) (t := 49) (by decide +kernel) (by omega) ?_
        refine he_iload (n := 50) (i := 2) (by decide +kernel) rfl ?_
        refine he_retz (by decide +kernel) (by omega) ?_
        exact K2 M _ (by omega) hU (by omega)
      · skip
        refine he_cmpge_f (n := 28) (t := 49) (by decide +kernel) (by omega) ?_
        refine he_iload (n := 29) (i := 2) (by decide +kernel) rfl ?_
        refine he_ifeq_t (n := 32) (t := 49) (by decide +kernel) (by omega) ?_
        refine he_iload (n := 50) (i := 2) (by decide +kernel) rfl ?_
        refine he_retz (by decide +kernel) (by omega) ?_
        exact K2 M _ (by omega) hU (by omega)
theorem ym_opened {d z u cnt : Nat} {M : Nat → mq_C} {Q : (Option Value ⊕ Nat) → mq_S → Prop} {x1 : Int32} (hm : mz_sh mz_GG M) (hc : hv M 234 21 = (cnt : Int)) (hc' : cnt ≤ 240) (hx : x1.toInt = 0 ∨ x1.toInt = 8)
    (K : ∀ (M' : Nat → mq_C) (r : Int32), yU M M' → (∀ o', xop x1.toInt (8 * cnt) (xB M 252) = some o' → r.toInt = 1 ∧ hv M' 234 25 = (o'.length : Int) ∧ o'.length ≤ 200 ∧ ∀ i, i < o'.length → hv M' 253 i = o'.getD i 0) → (xop x1.toInt (8 * cnt) (xB M 252) = none → r.toInt = 0) → Q (.inl (some (.int r))) (M', z, u)) : mq_R mq_PP (d + 5) 120 0 [some (.ref 234), some (.int x1), none, none] [] (M, z, u) Q := by
  refine he_iload (n := 1) (i := 1) (by decide +kernel) rfl ?_
  refine he_iconst (n := 3) (c := 8) (by decide +kernel) (by decide) ?_
  intro c1 hc1
  by_cases h3 : x1.toInt = 8
  · skip
    refine he_cmpne_f (n := 6) (t := 11) (by decide +kernel) (by omega) ?_
    refine he_aload (n := 7) (i := 0) (by decide +kernel) rfl ?_
    refine he_v0 (n := 10) (j := 119) (ci := 9) (mx := 4) (ns := [5149, 5151, 53, 182]) (by decide +kernel) ((hb_kd (a := 234) hm rfl).trans rfl) (by show 0 ≤ 8; omega) (by show 1 ≤ 4; omega) ?_
    rw [mq_e119]
    have hop : xop x1.toInt (8 * cnt) (xB M 252) = xun (8 * cnt) (xB M 252) 1921 0 [] := by
      unfold xop
      rw [if_neg (by omega)]
    rw [hop] at K
    refine ym_inflated hm hc hc' ?_
    intro M2 r hU2 k1 k0
    show mq_R mq_PP (d + 5) 120 10 _ [.int r] (M2, z, u) Q
    refine he_retz (by decide +kernel) ?_ (K M2 r hU2 k1 k0)
    cases hR : xun (8 * cnt) (xB M 252) 1921 0 [] with
    | none => exact .inl (k0 hR)
    | some o' => exact .inr (k1 o' hR).1
  · skip
    refine he_cmpne_t (n := 6) (t := 11) (by decide +kernel) (by omega) ?_
    refine he_aload (n := 12) (i := 0) (by decide +kernel) rfl ?_
    refine he_iconst (n := 13) (c := 0) (by decide +kernel) (by decide) ?_
    intro c12 hc12
    refine hb_pfd (n := 16) (ci := 9) (j := 25) (t := 0) (ns := [4202, 143]) hm (by decide +kernel) rfl rfl (by decide) (.inl rfl) ?_
    generalize hM1 : hb_set M 234 25 c12 = M1
    have hm1 : mz_sh mz_GG M1 := by rw [← hM1]; exact hb_set_sh hm rfl rfl (by omega) (by omega)
    have eM1 : ∀ b j, b ≠ 234 ∨ j ≠ 25 → hv M1 b j = hv M b j := by intro b j h; rw [← hM1]; exact hb_set_n h
    have sM1 : hv M1 234 25 = c12.toInt := by rw [← hM1]; exact hb_set_v hm rfl (by decide)
    have wM1 : ∀ b, b ≠ 234 → M1 b = M b := by intro b h; rw [← hM1]; exact hb_set_c h
    refine he_iconst (n := 17) (c := 1) (by decide +kernel) (by decide) ?_
    intro c16 hc16
    refine he_istore (n := 18) (i := 2) (by decide +kernel) rfl ?_
    refine he_iconst (n := 19) (c := 0) (by decide +kernel) (by decide) ?_
    intro c18 hc18
    refine he_istore (n := 20) (i := 3) (by decide +kernel) rfl ?_
    have hop : xop x1.toInt (8 * cnt) (xB M 252) = if cnt ≤ 200 then some (xby (xB M 252) cnt 0 []) else none := by
      unfold xop
      rw [if_pos (by omega), show 8 * cnt / 8 = cnt by omega]
    rw [hop] at K
    have hU0 : yU M M := ⟨hm, fun _ _ _ => rfl, fun _ _ _ _ => rfl⟩
    have hU1 : yU M M1 := yU_set hU0 hM1 hm1 (by decide)
    refine ym_op_l (M0 := M) (cnt := cnt) hc' ?_ ?_ cnt 0 M1 [] _ _ (by omega) rfl (by omega) (by omega) (by omega) hc hU1 (by rw [sM1]; show _ = (0 : Int); omega) (fun i hi => absurd hi (Nat.not_lt_zero i)) rfl
    · intro M2 r h2 hU2 hL2 hx2 hr
      rw [if_pos h2] at K
      refine K M2 r hU2 (fun o' ho => ?_) (fun h => by cases h)
      cases ho
      exact ⟨hr, hL2, by have := yl_r hU2.1; have h8 : hv M2 234 25 = ((xby (xB M 252) cnt 0 []).length : Int) := hL2; omega, hx2⟩
    · intro M2 r h2 hU2 hr
      rw [if_neg h2] at K
      exact K M2 r hU2 (fun o' ho => by cases ho) (fun _ => hr)
