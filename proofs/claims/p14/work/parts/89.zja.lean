/-! readBits of the class, exactly. -/
/-- a row of lengths, written with marks -/
def xrb (fM : Nat → Int) (E N : Nat) (B : Nat → Int) : Nat → Nat → List Int → Option (Nat × List Int)
  | 0, a, l => some (a, l)
  | m + 1, a, l => if l.length < N then
      (match xsg fM 19 E B a with
      | none => none
      | some (s, a1) => if s < 16 then xrb fM E N B m a1 (l ++ [s])
        else if s = 16 then (if a1 + 2 ≤ E ∧ 0 < l.length ∧ l.length + (3 + xb B a1 2).toNat ≤ N then xrb fM E N B m (a1 + 2) (l ++ List.replicate (3 + xb B a1 2).toNat (l.getD (l.length - 1) 0)) else none)
        else if s = 17 then (if a1 + 3 ≤ E ∧ l.length + (3 + xb B a1 3).toNat ≤ N then xrb fM E N B m (a1 + 3) (l ++ List.replicate (3 + xb B a1 3).toNat 0) else none)
        else (if a1 + 7 ≤ E ∧ l.length + (11 + xb B a1 7).toNat ≤ N then xrb fM E N B m (a1 + 7) (l ++ List.replicate (11 + xb B a1 7).toNat 0) else none)) else some (a, l)
theorem xL_rep {l : List Int} {x : Int} {n t : Nat} : (l ++ List.replicate n x).getD t 0 = if t < l.length then l.getD t 0 else if t < l.length + n then x else 0 := by
  rw [List.getD_eq_getElem?_getD, List.getElem?_append]
  by_cases h : t < l.length
  · rw [if_pos h, if_pos h, List.getD_eq_getElem?_getD]
  · rw [if_neg h, if_neg h, List.getElem?_replicate]
    by_cases h2 : t - l.length < n
    · rw [if_pos h2, if_pos (by omega)]
      rfl
    · rw [if_neg h2, if_neg (by omega)]
      rfl
theorem xL_one {l : List Int} {x : Int} : l ++ [x] = l ++ List.replicate 1 x := rfl
theorem xj_rb_l {d z u pk f E ln : Nat} {M0 Mb : Nat → mq_C} {o : List Int} {Q : (Option Value ⊕ Nat) → mq_S → Prop} {N : Nat} {fM : Nat → Int} {x1 : Int32} (hp : mz_GG.1 pk = some (64, ln, 1, [(0, 0, 255)])) (he : 8 * f + E ≤ 8 * ln) (hl : ln ≤ 240) (h9 : pk < 9 ∨ 24 ≤ pk) (hN : N ≤ 316) (hx : x1.toInt = (N : Int)) {R : Option (Nat × List Int)}
    (K1 : ∀ (M' : Nat → mq_C) (a' : Nat) (l' : List Int), R = some (a', l') → l'.length = N → xV pk f E 0 M0 M' a' o → (∀ t, t < N → hv M' 11 t = l'.getD t 0) → (∀ b, b ≠ 9 → b ≠ 11 → M' b = Mb b) → Q (.inl none) (M', z, u))
    (K2 : ∀ (M' : Nat → mq_C) (a' : Nat), R = none → xV pk f E 1 M0 M' a' o → (∀ b, b ≠ 9 → b ≠ 11 → M' b = Mb b) → Q (.inl none) (M', z, u)) : ∀ (m j : Nat) (M : Nat → mq_C) (a : Nat) (l : List Int) (dn i : Int32) (o4 o5 o6 : Option Value), j + m = N → i.toInt = (j : Int) → dn.toInt = (l.length : Int) → j ≤ l.length → l.length ≤ N → xV pk f E 0 M0 M a o → xT M 12 19 fM → (∀ t, t < l.length → hv M 11 t = l.getD t 0) → (∀ b, b ≠ 9 → b ≠ 11 → M b = Mb b) → xrb fM E N (fun i => xB M0 pk (8 * f + i)) m a l = R → mq_R mq_PP (d + 1) 99 4 [some (.ref 9), some (.int x1), some (.int dn), some (.int i), o4, o5, o6] [] (M, z, u) Q := by
  have bad : ∀ (M : Nat → mq_C) (a : Nat) (dn i : Int32) (o4 o5 o6 : Option Value), R = none → xV pk f E 1 M0 M a o → (∀ b, b ≠ 9 → b ≠ 11 → M b = Mb b) → mq_R mq_PP (d + 1) 99 4 [some (.ref 9), some (.int x1), some (.int dn), some (.int i), o4, o5, o6] [] (M, z, u) Q := by
    intro M a dn i o4 o5 o6 hR hV hF
    have vB : hv M 9 5 = 1 := hV.2.2.2.1
    refine he_iload (n := 5) (i := 3) (by decide +kernel) rfl ?_
    refine he_iload (n := 6) (i := 1) (by decide +kernel) rfl ?_
    by_cases h6 : x1.toInt ≤ i.toInt
    · skip
      refine he_cmpge_t (n := 9) (t := 163) (by decide +kernel) (by omega) ?_
      refine he_ret (by decide +kernel) ?_
      exact K2 M a hR hV hF
    · skip
      refine he_cmpge_f (n := 9) (t := 163) (by decide +kernel) (by omega) ?_
      refine he_iload (n := 10) (i := 2) (by decide +kernel) rfl ?_
      refine he_iload (n := 11) (i := 1) (by decide +kernel) rfl ?_
      by_cases h11 : x1.toInt ≤ dn.toInt
      · skip
        refine he_cmpge_t (n := 14) (t := 163) (by decide +kernel) (by omega) ?_
        refine he_ret (by decide +kernel) ?_
        exact K2 M a hR hV hF
      · skip
        refine he_cmpge_f (n := 14) (t := 163) (by decide +kernel) (by omega) ?_
        refine he_aload (n := 15) (i := 0) (by decide +kernel) rfl ?_
        refine hb_gfd (n := 18) (ci := 8) (j := 5) (ns := [1074, 28]) hV.1.1 (by decide +kernel) rfl rfl (by decide) rfl ?_
        intro v15 hv15 lv15 uv15
        have q15 : v15.toInt = 1 := by rw [← hv15]; exact vB
        refine he_ifne_t (n := 21) (t := 163) (by decide +kernel) (by omega) ?_
        refine he_ret (by decide +kernel) ?_
        exact K2 M a hR hV hF
  intro m
  induction m with
  | zero =>
    intro j M a l dn i o4 o5 o6 e1 e2 e3 e4 e5 hV hT hx1 hF hR
    refine he_iload (n := 5) (i := 3) (by decide +kernel) rfl ?_
    refine he_iload (n := 6) (i := 1) (by decide +kernel) rfl ?_
    refine he_cmpge_t (n := 9) (t := 163) (by decide +kernel) (by omega) ?_
    refine he_ret (by decide +kernel) ?_
    exact K1 M a l hR.symm (by omega) hV (fun t ht => hx1 t (by omega)) hF
  | succ m ih =>
    intro j M a l dn i o4 o5 o6 e1 e2 e3 e4 e5 hV hT hx1 hF hR
    have vB : hv M 9 5 = 0 := hV.2.2.2.1
    rw [xrb] at hR
    refine he_iload (n := 5) (i := 3) (by decide +kernel) rfl ?_
    refine he_iload (n := 6) (i := 1) (by decide +kernel) rfl ?_
    refine he_cmpge_f (n := 9) (t := 163) (by decide +kernel) (by omega) ?_
    refine he_iload (n := 10) (i := 2) (by decide +kernel) rfl ?_
    refine he_iload (n := 11) (i := 1) (by decide +kernel) rfl ?_
    by_cases h11 : l.length < N
    rotate_left
    · rw [if_neg h11] at hR
      refine he_cmpge_t (n := 14) (t := 163) (by decide +kernel) (by omega) ?_
      refine he_ret (by decide +kernel) ?_
      exact K1 M a l hR.symm (by omega) hV (fun t ht => hx1 t (by omega)) hF
    rw [if_pos h11] at hR
    refine he_cmpge_f (n := 14) (t := 163) (by decide +kernel) (by omega) ?_
    refine he_aload (n := 15) (i := 0) (by decide +kernel) rfl ?_
    refine hb_gfd (n := 18) (ci := 8) (j := 5) (ns := [1074, 28]) hV.1.1 (by decide +kernel) rfl rfl (by decide) rfl ?_
    intro v15 hv15 lv15 uv15
    have q15 : v15.toInt = 0 := by rw [← hv15]; exact vB
    refine he_ifne_f (n := 21) (t := 163) (by decide +kernel) (by omega) ?_
    refine he_aload (n := 22) (i := 0) (by decide +kernel) rfl ?_
    refine he_aload (n := 23) (i := 0) (by decide +kernel) rfl ?_
    refine he_getr (n := 26) (ci := 8) (j := 7) (ns := [1076, 40]) (b := 12) hV.1.1 (by decide +kernel) rfl rfl (by decide +kernel) ?_
    refine he_v1 (n := 29) (j := 100) (ci := 8) (mx := 7) (ns := [2163, 2165, 4, 99]) (by decide +kernel) ((hb_kd (a := 9) hV.1.1 rfl).trans rfl) (by show 0 ≤ 8; omega) (by show 2 ≤ 7; omega) ?_
    rw [mq_e100]
    -- the end of a step
    have r116 : ∀ (bk' : Int) (M2 : Nat → mq_C) (mk va ti : Int32) (a2 tn : Nat), (bk' = 0 ∨ bk' = 1) → -1 ≤ va.toInt → va.toInt ≤ 15 → ti.toInt = (tn : Int) → 1 ≤ tn → tn ≤ 200 → xV pk f E bk' M0 M2 a2 o → (∀ b, b ≠ 9 → M2 b = M b) → (bk' = 1 → R = none) → (bk' = 0 → (if ¬ va.toInt = -1 ∧ l.length + tn ≤ N then xrb fM E N (fun i => xB M0 pk (8 * f + i)) m a2 (l ++ List.replicate tn va.toInt) else none) = R) → mq_R mq_PP (d + 1) 99 116 [some (.ref 9), some (.int x1), some (.int dn), some (.int i), some (.int mk), some (.int va), some (.int ti)] [] (M2, z, u) Q := by
      intro bk' M2 mk va ti a2 tn hbk g1 g2 g3 g4 g5 hV2 hF2 k1 k0
      have hFb : ∀ b, b ≠ 9 → b ≠ 11 → M2 b = Mb b := fun b n1 n2 => (hF2 b n1).trans (hF b n1 n2)
      refine he_iload (n := 118) (i := 5) (by decide +kernel) rfl ?_
      refine he_iconst (n := 119) (c := -1) (by decide +kernel) (by decide) ?_
      intro c118 hc118
      by_cases h119 : va.toInt = -1
      · skip
        refine he_cmpeq_t (n := 122) (t := 130) (by decide +kernel) (by omega) ?_
        refine he_aload (n := 131) (i := 0) (by decide +kernel) rfl ?_
        refine he_iconst (n := 132) (c := 1) (by decide +kernel) (by decide) ?_
        intro c131 hc131
        refine hb_pfd (n := 135) (ci := 8) (j := 5) (t := 1) (ns := [1074, 28]) hV2.1.1 (by decide +kernel) rfl rfl (by decide) (.inr ⟨rfl, he_01 (by omega)⟩) ?_
        generalize hM1 : hb_set M2 9 5 c131 = M1
        have hm1 : mz_sh mz_GG M1 := by rw [← hM1]; exact hb_set_sh hV2.1.1 rfl rfl (by omega) (by omega)
        have eM1 : ∀ b j, b ≠ 9 ∨ j ≠ 5 → hv M1 b j = hv M2 b j := by intro b j h; rw [← hM1]; exact hb_set_n h
        have sM1 : hv M1 9 5 = c131.toInt := by rw [← hM1]; exact hb_set_v hV2.1.1 rfl (by decide)
        have wM1 : ∀ b, b ≠ 9 → M1 b = M2 b := by intro b h; rw [← hM1]; exact hb_set_c h
        refine he_goto (t := 157) (by decide +kernel) ?_
        refine he_iinc (n := 160) (i := 3) (c := 1) (L' := fun v => [some (.ref (9)), some (.int x1), some (.int dn), some (.int v), some (.int mk), some (.int va), some (.int ti)]) (by decide +kernel) (by decide) rfl (fun _ => rfl) (by omega) (by omega) ?_
        intro i157 hi157
        refine he_goto (t := 4) (by decide +kernel) ?_
        refine bad M1 a2 _ _ _ _ _ ?_ (xV_br hV2 hM1 hm1 (by omega)) (fun b n1 n2 => (wM1 b n1).trans (hFb b n1 n2))
        rcases hbk with e | e
        · have := k0 e
          rw [if_neg (by omega)] at this
          exact this.symm
        · exact k1 e
      · skip
        refine he_cmpeq_f (n := 122) (t := 130) (by decide +kernel) (by omega) ?_
        refine he_iload (n := 124) (i := 6) (by decide +kernel) rfl ?_
        refine he_iload (n := 125) (i := 1) (by decide +kernel) rfl ?_
        refine he_iload (n := 126) (i := 2) (by decide +kernel) rfl ?_
        refine he_isub (n := 127) (by decide +kernel) (by omega) (by omega) ?_
        intro v126 hv126
        by_cases h127 : l.length + tn ≤ N
        · skip
          refine he_cmple_t (n := 130) (t := 138) (by decide +kernel) (by omega) ?_
          refine he_aload (n := 139) (i := 0) (by decide +kernel) rfl ?_
          refine he_getr (n := 142) (ci := 8) (j := 6) (ns := [1075, 32]) (b := 11) hV2.1.1 (by decide +kernel) rfl rfl (by decide +kernel) ?_
          refine he_iload (n := 143) (i := 2) (by decide +kernel) rfl ?_
          refine he_iload (n := 144) (i := 2) (by decide +kernel) rfl ?_
          refine he_iload (n := 146) (i := 6) (by decide +kernel) rfl ?_
          refine he_iadd (n := 147) (by decide +kernel) (by omega) (by omega) ?_
          intro v146 hv146
          refine he_iload (n := 149) (i := 5) (by decide +kernel) rfl ?_
          refine xe_s4 (n := 152) (j := 91) (mx := 5) (ns := [1058, 1059, 1002, 56]) (by decide +kernel) (by show 0 ≤ 8; omega) (by show 4 ≤ 5; omega) ?_
          rw [mq_e91]
          refine xj_fill (fr := l.length) (be := l.length + tn) hV2.1.1 (by omega) (by omega) (by omega) (by omega) (by omega) ?_
          intro M3 hm3 hF3 hx3
          show mq_R mq_PP (d + 1) 99 152 _ [] (M3, z, u) Q
          have hV3 : xV pk f E bk' M0 M3 a2 o := xV_fr hV2 hm3 (hF3 9 (by decide)) (hF3 10 (by decide)) (fun b hb => hF3 b (by omega))
          have hFb3 : ∀ b, b ≠ 9 → b ≠ 11 → M3 b = Mb b := fun b n1 n2 => (hF3 b n2).trans (hFb b n1 n2)
          refine he_iload (n := 153) (i := 2) (by decide +kernel) rfl ?_
          refine he_iload (n := 155) (i := 6) (by decide +kernel) rfl ?_
          refine he_iadd (n := 156) (by decide +kernel) (by omega) (by omega) ?_
          intro v155 hv155
          refine he_istore (n := 157) (i := 2) (by decide +kernel) rfl ?_
          refine he_iinc (n := 160) (i := 3) (c := 1) (L' := fun v => [some (.ref (9)), some (.int x1), some (.int v155), some (.int v), some (.int mk), some (.int va), some (.int ti)]) (by decide +kernel) (by decide) rfl (fun _ => rfl) (by omega) (by omega) ?_
          intro i157 hi157
          refine he_goto (t := 4) (by decide +kernel) ?_
          rcases hbk with e | e
          · have hR2 := k0 e
            rw [if_pos ⟨h119, h127⟩] at hR2
            subst e
            refine ih (j + 1) M3 a2 _ _ _ _ _ _ (by omega) (by omega) ?_ ?_ ?_ hV3 ?_ (fun t ht => ?_) hFb3 hR2
            · rw [List.length_append, List.length_replicate]; omega
            · rw [List.length_append, List.length_replicate]; omega
            · rw [List.length_append, List.length_replicate]; omega
            · exact ⟨fun b h1 h2 => by rw [hb_vc ((hF3 13 (by decide)).trans (hF2 13 (by decide)))]; exact hT.1 b h1 h2, fun i h1 h2 => by rw [hb_vc ((hF3 15 (by decide)).trans (hF2 15 (by decide)))]; exact hT.2 i h1 h2⟩
            · rw [List.length_append, List.length_replicate] at ht
              rw [hx3 t, xL_rep]
              by_cases c1 : t < l.length
              · rw [if_neg (by omega), if_pos c1, hb_vc (hF2 11 (by decide))]
                exact hx1 t c1
              · rw [if_pos ⟨by omega, by omega⟩, if_neg c1, if_pos (by omega)]
          · subst e
            exact bad M3 a2 _ _ _ _ _ (k1 rfl) hV3 hFb3
        · skip
          refine he_cmple_f (n := 130) (t := 138) (by decide +kernel) (by omega) ?_
          refine he_aload (n := 131) (i := 0) (by decide +kernel) rfl ?_
          refine he_iconst (n := 132) (c := 1) (by decide +kernel) (by decide) ?_
          intro c131 hc131
          refine hb_pfd (n := 135) (ci := 8) (j := 5) (t := 1) (ns := [1074, 28]) hV2.1.1 (by decide +kernel) rfl rfl (by decide) (.inr ⟨rfl, he_01 (by omega)⟩) ?_
          generalize hM1 : hb_set M2 9 5 c131 = M1
          have hm1 : mz_sh mz_GG M1 := by rw [← hM1]; exact hb_set_sh hV2.1.1 rfl rfl (by omega) (by omega)
          have eM1 : ∀ b j, b ≠ 9 ∨ j ≠ 5 → hv M1 b j = hv M2 b j := by intro b j h; rw [← hM1]; exact hb_set_n h
          have sM1 : hv M1 9 5 = c131.toInt := by rw [← hM1]; exact hb_set_v hV2.1.1 rfl (by decide)
          have wM1 : ∀ b, b ≠ 9 → M1 b = M2 b := by intro b h; rw [← hM1]; exact hb_set_c h
          refine he_goto (t := 157) (by decide +kernel) ?_
          refine he_iinc (n := 160) (i := 3) (c := 1) (L' := fun v => [some (.ref (9)), some (.int x1), some (.int dn), some (.int v), some (.int mk), some (.int va), some (.int ti)]) (by decide +kernel) (by decide) rfl (fun _ => rfl) (by omega) (by omega) ?_
          intro i157 hi157
          refine he_goto (t := 4) (by decide +kernel) ?_
          refine bad M1 a2 _ _ _ _ _ ?_ (xV_br hV2 hM1 hm1 (by omega)) (fun b n1 n2 => (wM1 b n1).trans (hFb b n1 n2))
          rcases hbk with e | e
          · have := k0 e
            rw [if_neg (by omega)] at this
            exact this.symm
          · exact k1 e
    have p4 : (2 : Int) ^ 2 = 4 := by decide
    have p8 : (2 : Int) ^ 3 = 8 := by decide
    have p128 : (2 : Int) ^ 7 = 128 := by decide
    refine xj_sign12 hp he hl h9 (by decide) hV hT ?_ ?_
    rotate_left
    · intro M1 s a1 hs hV1 hT1 hs0 hF1
      show mq_R mq_PP (d + 1) 99 29 _ [.int s] (M1, z, u) Q
      rw [hs] at hR
      refine he_istore (n := 31) (i := 4) (by decide +kernel) rfl ?_
      refine he_iconst (n := 32) (c := 0) (by decide +kernel) (by decide) ?_
      intro c31 hc31
      refine he_istore (n := 34) (i := 5) (by decide +kernel) rfl ?_
      refine he_iconst (n := 35) (c := 1) (by decide +kernel) (by decide) ?_
      intro c34 hc34
      refine he_istore (n := 37) (i := 6) (by decide +kernel) rfl ?_
      refine he_iload (n := 39) (i := 4) (by decide +kernel) rfl ?_
      refine he_iconst (n := 41) (c := 16) (by decide +kernel) (by decide) ?_
      intro c39 hc39
      refine he_cmpge_f (n := 44) (t := 51) (by decide +kernel) (by omega) ?_
      refine he_iload (n := 46) (i := 4) (by decide +kernel) rfl ?_
      refine he_istore (n := 48) (i := 5) (by decide +kernel) rfl ?_
      refine he_goto (t := 116) (by decide +kernel) ?_
      exact r116 1 M1 s s _ a1 1 (.inr rfl) (by omega) (by omega) (by omega) (by decide) (by decide) hV1 hF1 (fun _ => hR.symm) (fun h => absurd h (by decide))
    intro M1 s a1 hs hV1 hT1 hF1
    show mq_R mq_PP (d + 1) 99 29 _ [.int s] (M1, z, u) Q
    rw [hs] at hR
    have hsr := xs_r 15 1 0 0 0 a hs
    have hR : (if s.toInt < 16 then xrb fM E N (fun i => xB M0 pk (8 * f + i)) m a1 (l ++ [s.toInt])
        else if s.toInt = 16 then (if a1 + 2 ≤ E ∧ 0 < l.length ∧ l.length + (3 + xb (fun i => xB M0 pk (8 * f + i)) a1 2).toNat ≤ N then xrb fM E N (fun i => xB M0 pk (8 * f + i)) m (a1 + 2) (l ++ List.replicate (3 + xb (fun i => xB M0 pk (8 * f + i)) a1 2).toNat (l.getD (l.length - 1) 0)) else none)
        else if s.toInt = 17 then (if a1 + 3 ≤ E ∧ l.length + (3 + xb (fun i => xB M0 pk (8 * f + i)) a1 3).toNat ≤ N then xrb fM E N (fun i => xB M0 pk (8 * f + i)) m (a1 + 3) (l ++ List.replicate (3 + xb (fun i => xB M0 pk (8 * f + i)) a1 3).toNat 0) else none)
        else (if a1 + 7 ≤ E ∧ l.length + (11 + xb (fun i => xB M0 pk (8 * f + i)) a1 7).toNat ≤ N then xrb fM E N (fun i => xB M0 pk (8 * f + i)) m (a1 + 7) (l ++ List.replicate (11 + xb (fun i => xB M0 pk (8 * f + i)) a1 7).toNat 0) else none)) = R := hR
    refine he_istore (n := 31) (i := 4) (by decide +kernel) rfl ?_
    refine he_iconst (n := 32) (c := 0) (by decide +kernel) (by decide) ?_
    intro c31 hc31
    refine he_istore (n := 34) (i := 5) (by decide +kernel) rfl ?_
    refine he_iconst (n := 35) (c := 1) (by decide +kernel) (by decide) ?_
    intro c34 hc34
    refine he_istore (n := 37) (i := 6) (by decide +kernel) rfl ?_
    refine he_iload (n := 39) (i := 4) (by decide +kernel) rfl ?_
    refine he_iconst (n := 41) (c := 16) (by decide +kernel) (by decide) ?_
    intro c39 hc39
    by_cases h41 : s.toInt < 16
    · rw [if_pos h41, xL_one] at hR
      refine he_cmpge_f (n := 44) (t := 51) (by decide +kernel) (by omega) ?_
      refine he_iload (n := 46) (i := 4) (by decide +kernel) rfl ?_
      refine he_istore (n := 48) (i := 5) (by decide +kernel) rfl ?_
      refine he_goto (t := 116) (by decide +kernel) ?_
      exact r116 0 M1 s s _ a1 1 (.inl rfl) (by omega) (by omega) (by omega) (by decide) (by decide) hV1 hF1 (fun h => absurd h (by decide)) (fun _ => by rw [if_pos ⟨by omega, by omega⟩]; exact hR)
    · rw [if_neg h41] at hR
      refine he_cmpge_t (n := 44) (t := 51) (by decide +kernel) (by omega) ?_
      refine he_iload (n := 53) (i := 4) (by decide +kernel) rfl ?_
      refine he_iconst (n := 55) (c := 16) (by decide +kernel) (by decide) ?_
      intro c53 hc53
      by_cases h55 : s.toInt = 16
      · rw [if_pos h55] at hR
        refine he_cmpne_f (n := 58) (t := 88) (by decide +kernel) (by omega) ?_
        refine he_iload (n := 59) (i := 2) (by decide +kernel) rfl ?_
        have r74 : ∀ va : Int32, -1 ≤ va.toInt → va.toInt ≤ 15 → (0 < l.length → va.toInt = l.getD (l.length - 1) 0 ∧ 0 ≤ va.toInt) → (¬ 0 < l.length → va.toInt = -1) → mq_R mq_PP (d + 1) 99 74 [some (.ref 9), some (.int x1), some (.int dn), some (.int i), some (.int s), some (.int c31), some (.int c34)] [.int va] (M1, z, u) Q := by
          intro va g1 g2 g3 g4
          refine he_istore (n := 76) (i := 5) (by decide +kernel) rfl ?_
          refine he_iconst (n := 77) (c := 3) (by decide +kernel) (by decide) ?_
          intro c76 hc76
          refine he_aload (n := 78) (i := 0) (by decide +kernel) rfl ?_
          refine he_iconst (n := 79) (c := 2) (by decide +kernel) (by decide) ?_
          intro c78 hc78
          refine he_v1 (n := 82) (j := 94) (ci := 8) (mx := 4) (ns := [2150, 2152, 1, 67]) (by decide +kernel) ((hb_kd (a := 9) hV1.1.1 rfl).trans rfl) (by show 1 ≤ 8; omega) (by show 2 ≤ 4; omega) ?_
          rw [mq_e94]
          have hb := xb_b (B := (fun i => xB M0 pk (8 * f + i))) (fun i => xB_01 _) a1 2
          refine xj_take (k := 2) hp he hl h9 (by decide) (by omega) hV1 ?_ ?_
          · intro M2 r hE hV2 hr hF2
            show mq_R mq_PP (d + 1) 99 82 _ [.int r, .int c76] (M2, z, u) Q
            refine he_iadd (n := 83) (by decide +kernel) (by omega) (by omega) ?_
            intro v82 hv82
            refine he_istore (n := 85) (i := 6) (by decide +kernel) rfl ?_
            refine he_goto (t := 116) (by decide +kernel) ?_
            refine r116 0 M2 s va _ (a1 + 2) (3 + xb (fun i => xB M0 pk (8 * f + i)) a1 2).toNat (.inl rfl) g1 g2 (by omega) (by omega) (by omega) hV2 (fun b hb => (hF2 b hb).trans (hF1 b hb)) (fun h => absurd h (by decide)) (fun _ => ?_)
            rw [← hR]
            by_cases c1 : 0 < l.length
            · obtain ⟨c2, c3⟩ := g3 c1
              by_cases c4 : l.length + (3 + xb (fun i => xB M0 pk (8 * f + i)) a1 2).toNat ≤ N
              · rw [if_pos ⟨by omega, c4⟩, if_pos ⟨hE, c1, c4⟩, c2]
              · rw [if_neg (fun h => c4 h.2), if_neg (fun h => c4 h.2.2)]
            · rw [if_neg (fun h => h.1 (g4 c1)), if_neg (fun h => c1 h.2.1)]
          · intro M2 r hE hV2 hr hF2
            show mq_R mq_PP (d + 1) 99 82 _ [.int r, .int c76] (M2, z, u) Q
            refine he_iadd (n := 83) (by decide +kernel) (by omega) (by omega) ?_
            intro v82 hv82
            refine he_istore (n := 85) (i := 6) (by decide +kernel) rfl ?_
            refine he_goto (t := 116) (by decide +kernel) ?_
            refine r116 1 M2 s va _ a1 3 (.inr rfl) g1 g2 (by omega) (by omega) (by omega) hV2 (fun b hb => (hF2 b hb).trans (hF1 b hb)) (fun _ => ?_) (fun h => absurd h (by decide))
            rw [if_neg (fun h => hE h.1)] at hR
            exact hR.symm
        by_cases h59 : dn.toInt = 0
        · skip
          refine he_ifne_f (n := 62) (t := 66) (by decide +kernel) (by omega) ?_
          refine he_iconst (n := 63) (c := -1) (by decide +kernel) (by decide) ?_
          intro c62 hc62
          refine he_goto (t := 74) (by decide +kernel) ?_
          exact r74 _ (by omega) (by omega) (fun h => absurd h (by omega)) (fun _ => by omega)
        · skip
          refine he_ifne_t (n := 62) (t := 66) (by decide +kernel) (by omega) ?_
          refine he_aload (n := 67) (i := 0) (by decide +kernel) rfl ?_
          refine he_getr (n := 70) (ci := 8) (j := 6) (ns := [1075, 32]) (b := 11) hV1.1.1 (by decide +kernel) rfl rfl (by decide +kernel) ?_
          refine he_iload (n := 71) (i := 2) (by decide +kernel) rfl ?_
          refine he_iconst (n := 72) (c := 1) (by decide +kernel) (by decide) ?_
          intro c71 hc71
          refine he_isub (n := 73) (by decide +kernel) (by omega) (by omega) ?_
          intro v72 hv72
          refine hb_ld (n := 74) (kind := 64) hV1.1.1 (by decide +kernel) rfl rfl (.inl rfl) (by omega) (show _ < (316 : Int) by omega) hb_at1 ?_
          intro v73 hv73 lv73 uv73
          refine r74 _ (by omega) (by omega) (fun h => ⟨?_, by omega⟩) (fun h => absurd h (by omega))
          rw [← hv73, hb_vc (hF1 11 (by decide)), show v72.toInt.toNat = l.length - 1 by omega]
          exact hx1 _ (by omega)
      · rw [if_neg h55] at hR
        refine he_cmpne_t (n := 58) (t := 88) (by decide +kernel) (by omega) ?_
        refine he_iload (n := 90) (i := 4) (by decide +kernel) rfl ?_
        refine he_iconst (n := 92) (c := 17) (by decide +kernel) (by decide) ?_
        intro c90 hc90
        by_cases h92 : s.toInt = 17
        · rw [if_pos h92] at hR
          refine he_cmpne_f (n := 95) (t := 105) (by decide +kernel) (by omega) ?_
          refine he_iconst (n := 96) (c := 3) (by decide +kernel) (by decide) ?_
          intro c95 hc95
          refine he_aload (n := 97) (i := 0) (by decide +kernel) rfl ?_
          refine he_iconst (n := 98) (c := 3) (by decide +kernel) (by decide) ?_
          intro c97 hc97
          refine he_v1 (n := 101) (j := 94) (ci := 8) (mx := 4) (ns := [2150, 2152, 1, 67]) (by decide +kernel) ((hb_kd (a := 9) hV1.1.1 rfl).trans rfl) (by show 1 ≤ 8; omega) (by show 2 ≤ 4; omega) ?_
          rw [mq_e94]
          have hb := xb_b (B := (fun i => xB M0 pk (8 * f + i))) (fun i => xB_01 _) a1 3
          refine xj_take (k := 3) hp he hl h9 (by decide) (by omega) hV1 ?_ ?_
          · intro M2 r hE hV2 hr hF2
            show mq_R mq_PP (d + 1) 99 101 _ [.int r, .int c95] (M2, z, u) Q
            refine he_iadd (n := 102) (by decide +kernel) (by omega) (by omega) ?_
            intro v101 hv101
            refine he_goto (t := 114) (by decide +kernel) ?_
            refine he_istore (n := 116) (i := 6) (by decide +kernel) rfl ?_
            refine r116 0 M2 s c31 _ (a1 + 3) (3 + xb (fun i => xB M0 pk (8 * f + i)) a1 3).toNat (.inl rfl) (by omega) (by omega) (by omega) (by omega) (by omega) hV2 (fun b hb => (hF2 b hb).trans (hF1 b hb)) (fun h => absurd h (by decide)) (fun _ => ?_)
            rw [← hR, show c31.toInt = 0 by omega]
            by_cases c4 : l.length + (3 + xb (fun i => xB M0 pk (8 * f + i)) a1 3).toNat ≤ N
            · rw [if_pos ⟨by omega, c4⟩, if_pos ⟨hE, c4⟩]
            · rw [if_neg (fun h => c4 h.2), if_neg (fun h => c4 h.2)]
          · intro M2 r hE hV2 hr hF2
            show mq_R mq_PP (d + 1) 99 101 _ [.int r, .int c95] (M2, z, u) Q
            refine he_iadd (n := 102) (by decide +kernel) (by omega) (by omega) ?_
            intro v101 hv101
            refine he_goto (t := 114) (by decide +kernel) ?_
            refine he_istore (n := 116) (i := 6) (by decide +kernel) rfl ?_
            refine r116 1 M2 s c31 _ a1 3 (.inr rfl) (by omega) (by omega) (by omega) (by omega) (by omega) hV2 (fun b hb => (hF2 b hb).trans (hF1 b hb)) (fun _ => ?_) (fun h => absurd h (by decide))
            rw [if_neg (fun h => hE h.1)] at hR
            exact hR.symm
        · rw [if_neg h92] at hR
          refine he_cmpne_t (n := 95) (t := 105) (by decide +kernel) (by omega) ?_
          refine he_iconst (n := 107) (c := 11) (by decide +kernel) (by decide) ?_
          intro c105 hc105
          refine he_aload (n := 108) (i := 0) (by decide +kernel) rfl ?_
          refine he_iconst (n := 110) (c := 7) (by decide +kernel) (by decide) ?_
          intro c108 hc108
          refine he_v1 (n := 113) (j := 94) (ci := 8) (mx := 4) (ns := [2150, 2152, 1, 67]) (by decide +kernel) ((hb_kd (a := 9) hV1.1.1 rfl).trans rfl) (by show 1 ≤ 8; omega) (by show 2 ≤ 4; omega) ?_
          rw [mq_e94]
          have hb := xb_b (B := (fun i => xB M0 pk (8 * f + i))) (fun i => xB_01 _) a1 7
          refine xj_take (k := 7) hp he hl h9 (by decide) (by omega) hV1 ?_ ?_
          · intro M2 r hE hV2 hr hF2
            show mq_R mq_PP (d + 1) 99 113 _ [.int r, .int c105] (M2, z, u) Q
            refine he_iadd (n := 114) (by decide +kernel) (by omega) (by omega) ?_
            intro v113 hv113
            refine he_istore (n := 116) (i := 6) (by decide +kernel) rfl ?_
            refine r116 0 M2 s c31 _ (a1 + 7) (11 + xb (fun i => xB M0 pk (8 * f + i)) a1 7).toNat (.inl rfl) (by omega) (by omega) (by omega) (by omega) (by omega) hV2 (fun b hb => (hF2 b hb).trans (hF1 b hb)) (fun h => absurd h (by decide)) (fun _ => ?_)
            rw [← hR, show c31.toInt = 0 by omega]
            by_cases c4 : l.length + (11 + xb (fun i => xB M0 pk (8 * f + i)) a1 7).toNat ≤ N
            · rw [if_pos ⟨by omega, c4⟩, if_pos ⟨hE, c4⟩]
            · rw [if_neg (fun h => c4 h.2), if_neg (fun h => c4 h.2)]
          · intro M2 r hE hV2 hr hF2
            show mq_R mq_PP (d + 1) 99 113 _ [.int r, .int c105] (M2, z, u) Q
            refine he_iadd (n := 114) (by decide +kernel) (by omega) (by omega) ?_
            intro v113 hv113
            refine he_istore (n := 116) (i := 6) (by decide +kernel) rfl ?_
            refine r116 1 M2 s c31 _ a1 11 (.inr rfl) (by omega) (by omega) (by omega) (by omega) (by omega) hV2 (fun b hb => (hF2 b hb).trans (hF1 b hb)) (fun _ => ?_) (fun h => absurd h (by decide))
            rw [if_neg (fun h => hE h.1)] at hR
            exact hR.symm
theorem xj_readBits {d z u pk f E ln : Nat} {M0 : Nat → mq_C} {o : List Int} {Q : (Option Value ⊕ Nat) → mq_S → Prop} {a : Nat} {M : Nat → mq_C} {N : Nat} {fM : Nat → Int} {x1 : Int32} (hp : mz_GG.1 pk = some (64, ln, 1, [(0, 0, 255)])) (he : 8 * f + E ≤ 8 * ln) (hl : ln ≤ 240) (h9 : pk < 9 ∨ 24 ≤ pk) (hN : N ≤ 316) (hx : x1.toInt = (N : Int)) (hV : xV pk f E 0 M0 M a o) (hT : xT M 12 19 fM)
    (K1 : ∀ (M' : Nat → mq_C) (a' : Nat) (l' : List Int), xrb fM E N (fun i => xB M0 pk (8 * f + i)) N a [] = some (a', l') → l'.length = N → xV pk f E 0 M0 M' a' o → (∀ t, t < N → hv M' 11 t = l'.getD t 0) → (∀ b, b ≠ 9 → b ≠ 11 → M' b = M b) → Q (.inl none) (M', z, u))
    (K2 : ∀ (M' : Nat → mq_C) (a' : Nat), xrb fM E N (fun i => xB M0 pk (8 * f + i)) N a [] = none → xV pk f E 1 M0 M' a' o → (∀ b, b ≠ 9 → b ≠ 11 → M' b = M b) → Q (.inl none) (M', z, u)) : mq_R mq_PP (d + 1) 99 0 [some (.ref 9), some (.int x1), none, none, none, none, none] [] (M, z, u) Q := by
  refine he_iconst (n := 1) (c := 0) (by decide +kernel) (by decide) ?_
  intro c0 hc0
  refine he_istore (n := 2) (i := 2) (by decide +kernel) rfl ?_
  refine he_iconst (n := 3) (c := 0) (by decide +kernel) (by decide) ?_
  intro c2 hc2
  refine he_istore (n := 4) (i := 3) (by decide +kernel) rfl ?_
  exact xj_rb_l hp he hl h9 hN hx K1 K2 N 0 M a [] _ _ none none none (by omega) (by omega) (by show _ = (0 : Int); omega) (Nat.le_refl _) (Nat.zero_le _) hV hT (fun t ht => absurd ht (Nat.not_lt_zero t)) (fun _ _ _ => rfl) rfl
