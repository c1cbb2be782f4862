/-! The model's letters and stored, exactly. -/
theorem ym_let_b {d z u E nL nD : Nat} {fL fD : Nat → Int} {M0 Mb : Nat → mq_C} {Q : (Option Value ⊕ Nat) → mq_S → Prop} (hE : E ≤ 1920) (hnL : nL ≤ 320) (hnD : nD ≤ 320) {R : Option (Nat × List Int)}
    (K1 : ∀ (M' : Nat → mq_C) (r : Int32) (a' : Nat) (o' : List Int), R = some (a', o') → yV E 0 M0 M' a' o' → o'.length ≤ 200 → r.toInt = 1 → (∀ b, b ≠ 234 → b ≠ 253 → M' b = Mb b) → Q (.inl (some (.int r))) (M', z, u))
    (K2 : ∀ (M' : Nat → mq_C) (r : Int32) (sh' : Int) (a' : Nat) (o' : List Int), R = none → (sh' = 0 ∨ sh' = 1) → yV E sh' M0 M' a' o' → (r.toInt = 0 ∨ r.toInt = 1 ∧ sh' = 1) → (∀ b, b ≠ 234 → b ≠ 253 → M' b = Mb b) → Q (.inl (some (.int r))) (M', z, u)) {M : Nat → mq_C} {s : Int32} {sh' : Int} {a : Nat} {o : List Int} {o2 : Option Value} (hR : R = none) (hsh : sh' = 0 ∨ sh' = 1) (hs : s.toInt = -1 ∨ sh' = 1) (hV : yV E sh' M0 M a o) (hF : ∀ b, b ≠ 234 → b ≠ 253 → M b = Mb b) : mq_R mq_PP (d + 3) 117 6 [some (.ref 234), some (.int s), o2] [] (M, z, u) Q := by
  refine he_iload (n := 7) (i := 1) (by decide +kernel) rfl ?_
  refine he_iconst (n := 10) (c := 256) (by decide +kernel) (by decide) ?_
  intro c7 hc7
  by_cases h10 : s.toInt = c7.toInt
  · skip
    refine he_cmpeq_t (n := 13) (t := 69) (by decide +kernel) (by omega) ?_
    refine he_iconst (n := 70) (c := 1) (by decide +kernel) (by decide) ?_
    intro c69 hc69
    refine he_retz (by decide +kernel) (by omega) ?_
    exact K2 M _ sh' a o hR hsh hV (.inr ⟨by omega, by omega⟩) hF
  · skip
    refine he_cmpeq_f (n := 13) (t := 69) (by decide +kernel) (by omega) ?_
    refine he_iload (n := 14) (i := 1) (by decide +kernel) rfl ?_
    by_cases h14 : s.toInt < 0
    · skip
      refine he_iflt_t (n := 17) (t := 31) (by decide +kernel) (by omega) ?_
      refine he_iconst (n := 32) (c := 0) (by decide +kernel) (by decide) ?_
      intro c31 hc31
      refine he_retz (by decide +kernel) (by omega) ?_
      exact K2 M _ sh' a o hR hsh hV (.inl (by omega)) hF
    · skip
      refine he_iflt_f (n := 17) (t := 31) (by decide +kernel) (by omega) ?_
      refine he_iload (n := 18) (i := 1) (by decide +kernel) rfl ?_
      refine he_iconst (n := 21) (c := 285) (by decide +kernel) (by decide) ?_
      intro c18 hc18
      by_cases h21 : c18.toInt < s.toInt
      · skip
        refine he_cmpgt_t (n := 24) (t := 31) (by decide +kernel) (by omega) ?_
        refine he_iconst (n := 32) (c := 0) (by decide +kernel) (by decide) ?_
        intro c31 hc31
        refine he_retz (by decide +kernel) (by omega) ?_
        exact K2 M _ sh' a o hR hsh hV (.inl (by omega)) hF
      · skip
        refine he_cmpgt_f (n := 24) (t := 31) (by decide +kernel) (by omega) ?_
        refine he_aload (n := 25) (i := 0) (by decide +kernel) rfl ?_
        refine hb_gfd (n := 28) (ci := 9) (j := 24) (ns := [4201, 135]) hV.1.1 (by decide +kernel) rfl rfl (by decide) rfl ?_
        intro v25 hv25 lv25 uv25
        have q25 : v25.toInt = sh' := by rw [← hv25]; exact hV.2.2.2.1
        refine he_ifeq_f (n := 31) (t := 33) (by decide +kernel) (by omega) ?_
        refine he_iconst (n := 32) (c := 0) (by decide +kernel) (by decide) ?_
        intro c31 hc31
        refine he_retz (by decide +kernel) (by omega) ?_
        exact K2 M _ sh' a o hR hsh hV (.inl (by omega)) hF
theorem xcp_m {fD : Nat → Int} {nD E s a a' : Nat} {B : Nat → Int} {o o' : List Int} (h : xcp fD nD E B s a o = some (a', o')) : a ≤ a' := by
  unfold xcp at h
  split at h
  · cases h
  · next n a2 hx =>
    have h2 := xlen_m hx
    split at h
    · cases h
    · next dd a3 hd =>
      have h3 := xs_lt 15 1 0 0 0 a2 hd
      split at h
      · cases h
      · next far a4 hf =>
        have h4 := xdis_m hf
        split at h
        · cases h
          omega
        · cases h
theorem ym_let_l {d z u E nL nD : Nat} {fL fD : Nat → Int} {M0 Mb : Nat → mq_C} {Q : (Option Value ⊕ Nat) → mq_S → Prop} (hE : E ≤ 1920) (hnL : nL ≤ 320) (hnD : nD ≤ 320) {R : Option (Nat × List Int)}
    (K1 : ∀ (M' : Nat → mq_C) (r : Int32) (a' : Nat) (o' : List Int), R = some (a', o') → yV E 0 M0 M' a' o' → o'.length ≤ 200 → r.toInt = 1 → (∀ b, b ≠ 234 → b ≠ 253 → M' b = Mb b) → Q (.inl (some (.int r))) (M', z, u))
    (K2 : ∀ (M' : Nat → mq_C) (r : Int32) (sh' : Int) (a' : Nat) (o' : List Int), R = none → (sh' = 0 ∨ sh' = 1) → yV E sh' M0 M' a' o' → (r.toInt = 0 ∨ r.toInt = 1 ∧ sh' = 1) → (∀ b, b ≠ 234 → b ≠ 253 → M' b = Mb b) → Q (.inl (some (.int r))) (M', z, u)) : ∀ (m : Nat) (M : Nat → mq_C) (s : Int32) (a a1 : Nat) (o : List Int) (o2 : Option Value), xsg fL nL E (xB M0 252) a = some (s.toInt, a1) → E < a1 + m → yV E 0 M0 M a1 o → o.length ≤ 200 → yT M 0 nL fL → yT M 1 nD fD → (∀ b, b ≠ 234 → b ≠ 253 → M b = Mb b) → xlt fL nL fD nD E (xB M0 252) (m + 1) a o = R → mq_R mq_PP (d + 3) 117 6 [some (.ref 234), some (.int s), o2] [] (M, z, u) Q := by
  intro m
  induction m with
  | zero =>
    intro M s a a1 o o2 hs hm hV
    have := hV.2.2.2.2.1
    omega
  | succ m ih =>
    intro M s a a1 o o2 hs hm hV ho hT0 hT1 hF hR
    have hsr := xs_r 15 1 0 0 0 a hs
    -- once more
    have again : ∀ (M2 : Nat → mq_C) (a2 : Nat) (o3 : List Int) (g : Int32), a1 ≤ a2 → yV E 0 M0 M2 a2 o3 → o3.length ≤ 200 → (∀ b, b ≠ 234 → b ≠ 253 → M2 b = M b) → xlt fL nL fD nD E (xB M0 252) (m + 1) a2 o3 = R → mq_R mq_PP (d + 3) 117 60 [some (.ref 234), some (.int s), some (.int g)] [] (M2, z, u) Q := by
      intro M2 a2 o3 g ha2 hV2 ho3 hF2 hR2
      have hFb : ∀ b, b ≠ 234 → b ≠ 253 → M2 b = Mb b := fun b n1 n2 => (hF2 b n1 n2).trans (hF b n1 n2)
      have hT02 := yT_fr hT0 (hF2 255 (by decide) (by decide)) (hF2 256 (by decide) (by decide))
      have hT12 := yT_fr hT1 (hF2 255 (by decide) (by decide)) (hF2 256 (by decide) (by decide))
      refine he_aload (n := 61) (i := 0) (by decide +kernel) rfl ?_
      refine he_iconst (n := 62) (c := 0) (by decide +kernel) (by decide) ?_
      intro c61 hc61
      refine he_v1 (n := 65) (j := 113) (ci := 9) (mx := 7) (ns := [5183, 5185, 61, 163]) (by decide +kernel) ((hb_kd (a := 234) hV2.1.1 rfl).trans rfl) (by show 0 ≤ 8; omega) (by show 2 ≤ 7; omega) ?_
      rw [mq_e113]
      refine ym_sign (wn := 0) hE hnL (by decide) (by omega) hV2 hT02 ?_ ?_
      · intro M3 s2 a3 hs2 hV3 hF3
        show mq_R mq_PP (d + 3) 117 65 _ [.int s2] (M3, z, u) Q
        have hlt := xs_lt 15 1 0 0 0 a2 hs2
        refine he_istore (n := 66) (i := 1) (by decide +kernel) rfl ?_
        refine he_goto (t := 6) (by decide +kernel) ?_
        exact ih M3 s2 a2 a3 o3 _ hs2 (by omega) hV3 ho3 (yT_fr hT02 (hF3 255 (by decide)) (hF3 256 (by decide))) (yT_fr hT12 (hF3 255 (by decide)) (hF3 256 (by decide))) (fun b n1 n2 => (hF3 b n1).trans (hFb b n1 n2)) hR2
      · intro M3 s2 sh3 a3 hs2 hV3 hsh3 hd1 hd2 hd3 hF3
        show mq_R mq_PP (d + 3) 117 65 _ [.int s2] (M3, z, u) Q
        refine he_istore (n := 66) (i := 1) (by decide +kernel) rfl ?_
        refine he_goto (t := 6) (by decide +kernel) ?_
        refine ym_let_b (fL := fL) (fD := fD) hE hnL hnD K1 K2 ?_ hsh3 hd1 hV3 (fun b n1 n2 => (hF3 b n1).trans (hFb b n1 n2))
        rw [xlt, hs2] at hR2
        exact hR2.symm
    refine he_iload (n := 7) (i := 1) (by decide +kernel) rfl ?_
    refine he_iconst (n := 10) (c := 256) (by decide +kernel) (by decide) ?_
    intro c7 hc7
    by_cases h10 : s.toInt = 256
    · skip
      refine he_cmpeq_t (n := 13) (t := 69) (by decide +kernel) (by omega) ?_
      refine he_iconst (n := 70) (c := 1) (by decide +kernel) (by decide) ?_
      intro c69 hc69
      refine he_retz (by decide +kernel) (by omega) ?_
      refine K1 M _ a1 o ?_ hV ho (by omega) hF
      rw [← hR, xlt, hs]
      show (if s.toInt = 256 then _ else _) = _
      rw [if_pos h10]
    · skip
      refine he_cmpeq_f (n := 13) (t := 69) (by decide +kernel) (by omega) ?_
      refine he_iload (n := 14) (i := 1) (by decide +kernel) rfl ?_
      refine he_iflt_f (n := 17) (t := 31) (by decide +kernel) (by omega) ?_
      refine he_iload (n := 18) (i := 1) (by decide +kernel) rfl ?_
      refine he_iconst (n := 21) (c := 285) (by decide +kernel) (by decide) ?_
      intro c18 hc18
      by_cases h21 : c18.toInt < s.toInt
      · skip
        refine he_cmpgt_t (n := 24) (t := 31) (by decide +kernel) (by omega) ?_
        refine he_iconst (n := 32) (c := 0) (by decide +kernel) (by decide) ?_
        intro c31 hc31
        refine he_retz (by decide +kernel) (by omega) ?_
        refine K2 M _ 0 a1 o ?_ (.inl rfl) hV (.inl (by omega)) hF
        rw [← hR, xlt_cp hs h10 (by omega)]
        have hx : xcp fD nD E (xB M0 252) s.toInt.toNat a1 o = none := by
          unfold xcp
          have : xlen E (xB M0 252) s.toInt.toNat a1 = none := by
            unfold xlen
            rw [if_neg (by omega), if_neg (by omega), if_neg (by omega)]
          rw [this]
        rw [hx]
      · skip
        refine he_cmpgt_f (n := 24) (t := 31) (by decide +kernel) (by omega) ?_
        refine he_aload (n := 25) (i := 0) (by decide +kernel) rfl ?_
        refine hb_gfd (n := 28) (ci := 9) (j := 24) (ns := [4201, 135]) hV.1.1 (by decide +kernel) rfl rfl (by decide) rfl ?_
        intro v25 hv25 lv25 uv25
        have q25 : v25.toInt = 0 := by rw [← hv25]; exact hV.2.2.2.1
        refine he_ifeq_t (n := 31) (t := 33) (by decide +kernel) (by omega) ?_
        refine he_iload (n := 34) (i := 1) (by decide +kernel) rfl ?_
        refine he_iconst (n := 37) (c := 256) (by decide +kernel) (by decide) ?_
        intro c34 hc34
        by_cases h37 : s.toInt < 256
        · skip
          refine he_cmpge_f (n := 40) (t := 48) (by decide +kernel) (by omega) ?_
          refine he_aload (n := 41) (i := 0) (by decide +kernel) rfl ?_
          refine he_iload (n := 42) (i := 1) (by decide +kernel) rfl ?_
          refine he_v1 (n := 45) (j := 110) (ci := 9) (mx := 2) (ns := [5166, 5168, 57, 151]) (by decide +kernel) ((hb_kd (a := 234) hV.1.1 rfl).trans rfl) (by show 0 ≤ 8; omega) (by show 2 ≤ 2; omega) ?_
          rw [mq_e110]
          have hR1 : (if o.length < 200 then xlt fL nL fD nD E (xB M0 252) (m + 1) a1 (o ++ [s.toInt]) else none) = R := by
            rw [← hR]
            conv => rhs; rw [xlt, hs]
            show _ = (if s.toInt = 256 then _ else if s.toInt < 256 then _ else _)
            rw [if_neg h10, if_pos h37]
          refine ym_give hV (by omega) ?_ ?_
          · intro M2 r hl hV2 hr hF2
            show mq_R mq_PP (d + 3) 117 45 _ [.int r] (M2, z, u) Q
            rw [if_pos hl] at hR1
            refine he_goto (t := 53) (by decide +kernel) ?_
            refine he_istore (n := 54) (i := 2) (by decide +kernel) rfl ?_
            refine he_iload (n := 55) (i := 2) (by decide +kernel) rfl ?_
            refine he_ifne_t (n := 58) (t := 60) (by decide +kernel) (by omega) ?_
            exact again M2 a1 _ _ (Nat.le_refl _) hV2 (by rw [List.length_append]; show o.length + 1 ≤ 200; omega) hF2 hR1
          · intro r hl hr
            show mq_R mq_PP (d + 3) 117 45 _ [.int r] (M, z, u) Q
            rw [if_neg hl] at hR1
            refine he_goto (t := 53) (by decide +kernel) ?_
            refine he_istore (n := 54) (i := 2) (by decide +kernel) rfl ?_
            refine he_iload (n := 55) (i := 2) (by decide +kernel) rfl ?_
            refine he_ifne_f (n := 58) (t := 60) (by decide +kernel) (by omega) ?_
            refine he_iconst (n := 59) (c := 0) (by decide +kernel) (by decide) ?_
            intro c58 hc58
            refine he_retz (by decide +kernel) (by omega) ?_
            exact K2 M _ 0 a1 o hR1.symm (.inl rfl) hV (.inl (by omega)) hF
        · rw [xlt_cp hs h10 h37] at hR
          refine he_cmpge_t (n := 40) (t := 48) (by decide +kernel) (by omega) ?_
          refine he_aload (n := 49) (i := 0) (by decide +kernel) rfl ?_
          refine he_iload (n := 50) (i := 1) (by decide +kernel) rfl ?_
          refine he_v1 (n := 53) (j := 118) (ci := 9) (mx := 8) (ns := [5187, 5189, 62, 166]) (by decide +kernel) ((hb_kd (a := 234) hV.1.1 rfl).trans rfl) (by show 0 ≤ 8; omega) (by show 2 ≤ 8; omega) ?_
          rw [mq_e118]
          refine ym_copies (s := s.toInt.toNat) hE hnD hV ho hT1 (by omega) (by omega) (by omega) ?_ ?_
          · intro M2 r a2 o3 hx hV2 ho3 hr hF2
            show mq_R mq_PP (d + 3) 117 53 _ [.int r] (M2, z, u) Q
            rw [hx] at hR
            refine he_istore (n := 54) (i := 2) (by decide +kernel) rfl ?_
            refine he_iload (n := 55) (i := 2) (by decide +kernel) rfl ?_
            refine he_ifne_t (n := 58) (t := 60) (by decide +kernel) (by omega) ?_
            exact again M2 a2 o3 _ (xcp_m hx) hV2 ho3 hF2 hR
          · intro M2 r sh2 a2 o3 hx hsh2 hV2 hr hF2
            show mq_R mq_PP (d + 3) 117 53 _ [.int r] (M2, z, u) Q
            rw [hx] at hR
            refine he_istore (n := 54) (i := 2) (by decide +kernel) rfl ?_
            refine he_iload (n := 55) (i := 2) (by decide +kernel) rfl ?_
            refine he_ifne_f (n := 58) (t := 60) (by decide +kernel) (by omega) ?_
            refine he_iconst (n := 59) (c := 0) (by decide +kernel) (by decide) ?_
            intro c58 hc58
            refine he_retz (by decide +kernel) (by omega) ?_
            exact K2 M2 _ sh2 a2 o3 hR.symm hsh2 hV2 (.inl (by omega)) (fun b n1 n2 => (hF2 b n1 n2).trans (hF b n1 n2))
theorem ym_letters {d z u E nL nD : Nat} {fL fD : Nat → Int} {M0 : Nat → mq_C} {Q : (Option Value ⊕ Nat) → mq_S → Prop} (hE : E ≤ 1920) (hnL : nL ≤ 320) (hnD : nD ≤ 320) {M : Nat → mq_C} {a : Nat} {o : List Int} (hV : yV E 0 M0 M a o) (ho : o.length ≤ 200) (hT0 : yT M 0 nL fL) (hT1 : yT M 1 nD fD)
    (K1 : ∀ (M' : Nat → mq_C) (r : Int32) (a' : Nat) (o' : List Int), xlt fL nL fD nD E (xB M0 252) 1921 a o = some (a', o') → yV E 0 M0 M' a' o' → o'.length ≤ 200 → r.toInt = 1 → (∀ b, b ≠ 234 → b ≠ 253 → M' b = M b) → Q (.inl (some (.int r))) (M', z, u))
    (K2 : ∀ (M' : Nat → mq_C) (r : Int32) (sh' : Int) (a' : Nat) (o' : List Int), xlt fL nL fD nD E (xB M0 252) 1921 a o = none → (sh' = 0 ∨ sh' = 1) → yV E sh' M0 M' a' o' → (r.toInt = 0 ∨ r.toInt = 1 ∧ sh' = 1) → (∀ b, b ≠ 234 → b ≠ 253 → M' b = M b) → Q (.inl (some (.int r))) (M', z, u)) : mq_R mq_PP (d + 3) 117 0 [some (.ref 234), none, none] [] (M, z, u) Q := by
  refine he_aload (n := 1) (i := 0) (by decide +kernel) rfl ?_
  refine he_iconst (n := 2) (c := 0) (by decide +kernel) (by decide) ?_
  intro c1 hc1
  refine he_v1 (n := 5) (j := 113) (ci := 9) (mx := 7) (ns := [5183, 5185, 61, 163]) (by decide +kernel) ((hb_kd (a := 234) hV.1.1 rfl).trans rfl) (by show 0 ≤ 8; omega) (by show 2 ≤ 7; omega) ?_
  rw [mq_e113]
  refine ym_sign (wn := 0) hE hnL (by decide) (by omega) hV hT0 ?_ ?_
  · intro M2 s a2 hs hV2 hF2
    show mq_R mq_PP (d + 3) 117 5 _ [.int s] (M2, z, u) Q
    refine he_istore (n := 6) (i := 1) (by decide +kernel) rfl ?_
    exact ym_let_l (Mb := M) hE hnL hnD K1 K2 1920 M2 s a a2 o none hs (by have := xs_lt 15 1 0 0 0 a hs; omega) hV2 ho (yT_fr hT0 (hF2 255 (by decide)) (hF2 256 (by decide))) (yT_fr hT1 (hF2 255 (by decide)) (hF2 256 (by decide))) (fun b n1 _ => hF2 b n1) rfl
  · intro M2 s sh2 a2 hs hV2 hsh2 hd1 hd2 hd3 hF2
    show mq_R mq_PP (d + 3) 117 5 _ [.int s] (M2, z, u) Q
    refine he_istore (n := 6) (i := 1) (by decide +kernel) rfl ?_
    refine ym_let_b (fL := fL) (fD := fD) (Mb := M) hE hnL hnD K1 K2 ?_ hsh2 hd1 hV2 (fun b n1 _ => hF2 b n1)
    rw [xlt, hs]
