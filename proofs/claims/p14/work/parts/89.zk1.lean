/-! The model's sign, exactly. -/
/-- the rows of code w of the model -/
def yT (M : Nat → mq_C) (w n : Nat) (fl : Nat → Int) : Prop := (∀ b : Nat, 1 ≤ b → b ≤ 15 → hv M 255 (16 * w + b) = xc fl n b) ∧ ∀ i : Nat, i < n → 1 ≤ fl i → hv M 256 (320 * w + (xp fl n i).toNat) = (i : Int)
theorem yT_fr {M M' : Nat → mq_C} {w n : Nat} {fl : Nat → Int} (h : yT M w n fl) (h5 : M' 255 = M 255) (h6 : M' 256 = M 256) : yT M' w n fl := ⟨fun b h1 h2 => by rw [hb_vc h5]; exact h.1 b h1 h2, fun i h1 h2 => by rw [hb_vc h6]; exact h.2 i h1 h2⟩
theorem ym_sign_l {d z u E n wn : Nat} {fl : Nat → Int} {M0 Mb : Nat → mq_C} {o : List Int} {Q : (Option Value ⊕ Nat) → mq_S → Prop} {x1 : Int32} (hE : E ≤ 1920) (hn : n ≤ 320) (hw : wn ≤ 1) (hx : x1.toInt = (wn : Int)) {R : Option (Int × Nat)}
    (K1 : ∀ (M' : Nat → mq_C) (r : Int32) (a' : Nat), R = some (r.toInt, a') → yV E 0 M0 M' a' o → (∀ b, b ≠ 234 → M' b = Mb b) → Q (.inl (some (.int r))) (M', z, u))
    (K2 : ∀ (M' : Nat → mq_C) (r : Int32) (sh' : Int) (a' : Nat), R = none → yV E sh' M0 M' a' o → (sh' = 0 ∨ sh' = 1) → (r.toInt = -1 ∨ sh' = 1) → -1 ≤ r.toInt → r.toInt ≤ 319 → (∀ b, b ≠ 234 → M' b = Mb b) → Q (.inl (some (.int r))) (M', z, u)) : ∀ (m j : Nat) (M : Nat → mq_C) (cd fi be l : Int32) (a : Nat) (o6 : Option Value), m + j = 16 → 1 ≤ j → l.toInt = (j : Int) → 0 ≤ fi.toInt → fi.toInt ≤ cd.toInt → cd.toInt < 2 ^ (j - 1) → be.toInt = xq fl n j → yV E 0 M0 M a o → yT M wn n fl → (∀ b, b ≠ 234 → M b = Mb b) → xs fl n E (xB M0 252) m j cd.toInt (2 * fi.toInt) be.toInt a = R → mq_R mq_PP (d + 1) 113 10 [some (.ref 234), some (.int x1), some (.int cd), some (.int fi), some (.int be), some (.int l), o6] [] (M, z, u) Q := by
  have stop : ∀ (M : Nat → mq_C) (cd fi be l : Int32) (a : Nat) (o6 : Option Value), R = none → yV E 1 M0 M a o → (∀ b, b ≠ 234 → M b = Mb b) → mq_R mq_PP (d + 1) 113 10 [some (.ref 234), some (.int x1), some (.int cd), some (.int fi), some (.int be), some (.int l), o6] [] (M, z, u) Q := by
    intro M cd fi be l a o6 hR hV hF
    refine he_iload (n := 12) (i := 5) (by decide +kernel) rfl ?_
    refine he_iconst (n := 14) (c := 16) (by decide +kernel) (by decide) ?_
    intro c12 hc12
    by_cases h14 : c12.toInt ≤ l.toInt
    · skip
      refine he_cmpge_t (n := 17) (t := 95) (by decide +kernel) (by omega) ?_
      refine he_iconst (n := 96) (c := -1) (by decide +kernel) (by decide) ?_
      intro c95 hc95
      refine he_reti (by decide +kernel) ?_
      exact K2 M _ 1 a hR hV (.inr rfl) (.inr rfl) (by omega) (by omega) hF
    · skip
      refine he_cmpge_f (n := 17) (t := 95) (by decide +kernel) (by omega) ?_
      refine he_aload (n := 18) (i := 0) (by decide +kernel) rfl ?_
      refine hb_gfd (n := 21) (ci := 9) (j := 24) (ns := [4201, 135]) hV.1.1 (by decide +kernel) rfl rfl (by decide) rfl ?_
      intro v18 hv18 lv18 uv18
      have q18 : v18.toInt = 1 := by rw [← hv18]; exact hV.2.2.2.1
      refine he_ifne_t (n := 24) (t := 95) (by decide +kernel) (by omega) ?_
      refine he_iconst (n := 96) (c := -1) (by decide +kernel) (by decide) ?_
      intro c95 hc95
      refine he_reti (by decide +kernel) ?_
      exact K2 M _ 1 a hR hV (.inr rfl) (.inr rfl) (by omega) (by omega) hF
  intro m
  induction m with
  | zero =>
    intro j M cd fi be l a o6 e1 e2 e3 i1 i2 i3 i4 hV hT hF hR
    obtain rfl : R = none := hR.symm
    refine he_iload (n := 12) (i := 5) (by decide +kernel) rfl ?_
    refine he_iconst (n := 14) (c := 16) (by decide +kernel) (by decide) ?_
    intro c12 hc12
    refine he_cmpge_t (n := 17) (t := 95) (by decide +kernel) (by omega) ?_
    refine he_iconst (n := 96) (c := -1) (by decide +kernel) (by decide) ?_
    intro c95 hc95
    refine he_reti (by decide +kernel) ?_
    exact K2 M _ 0 a rfl hV (.inl rfl) (.inl (by omega)) (by omega) (by omega) hF
  | succ m ih =>
    intro j M cd fi be l a o6 e1 e2 e3 i1 i2 i3 i4 hV hT hF hR
    have p15 : (2 : Int) ^ (j - 1) ≤ 2 ^ 14 := xe_pow (by omega)
    have p15' : (2 : Int) ^ 14 = 16384 := by decide
    have hc0 := xc_0 fl n j
    have hql := xq_le (f := fl) (b := j + 1) n
    have hqs := xq_s (f := fl) (n := n) e2
    have hq0 := xq_0 (f := fl) (n := n) (b := j)
    have hcl := xc_le' (f := fl) (n := n) (b := j)
    have p2 : (2 : Int) ^ (j + 1 - 1) = 2 * 2 ^ (j - 1) := by
      obtain ⟨t, rfl⟩ : ∃ t, j = t + 1 := ⟨j - 1, by omega⟩
      show (2 : Int) ^ (t + 1) = 2 * 2 ^ t
      rw [Int.pow_succ]
      omega
    refine he_iload (n := 12) (i := 5) (by decide +kernel) rfl ?_
    refine he_iconst (n := 14) (c := 16) (by decide +kernel) (by decide) ?_
    intro c12 hc12
    refine he_cmpge_f (n := 17) (t := 95) (by decide +kernel) (by omega) ?_
    refine he_aload (n := 18) (i := 0) (by decide +kernel) rfl ?_
    refine hb_gfd (n := 21) (ci := 9) (j := 24) (ns := [4201, 135]) hV.1.1 (by decide +kernel) rfl rfl (by decide) rfl ?_
    intro v18 hv18 lv18 uv18
    have q18 : v18.toInt = 0 := by rw [← hv18]; exact hV.2.2.2.1
    refine he_ifne_f (n := 24) (t := 95) (by decide +kernel) (by omega) ?_
    refine he_iconst (n := 25) (c := 2) (by decide +kernel) (by decide) ?_
    intro c24 hc24
    refine he_iload (n := 26) (i := 2) (by decide +kernel) rfl ?_
    refine he_imul (n := 27) (p := 2 * cd.toInt) (by decide +kernel) (by rw [hc24]) (by omega) (by omega) ?_
    intro v26 hv26
    refine he_aload (n := 28) (i := 0) (by decide +kernel) rfl ?_
    refine he_v0 (n := 31) (j := 108) (ci := 9) (mx := 2) (ns := [5153, 5155, 54, 139]) (by decide +kernel) ((hb_kd (a := 234) hV.1.1 rfl).trans rfl) (by show 1 ≤ 8; omega) (by show 1 ≤ 2; omega) ?_
    rw [mq_e108]
    have r31 : ∀ (M2 : Nat → mq_C) (r : Int32) (sh' : Int) (a2 : Nat), (sh' = 0 ∨ sh' = 1) → (r.toInt = 0 ∨ r.toInt = 1) → yV E sh' M0 M2 a2 o → (∀ b, b ≠ 234 → M2 b = M b) → (sh' = 1 → R = none) → (sh' = 0 → a2 = a + 1 ∧ (if 2 * cd.toInt + r.toInt - 2 * fi.toInt < xc fl n j then some (xg fl n (be.toInt + (2 * cd.toInt + r.toInt - 2 * fi.toInt)), a + 1) else xs fl n E (xB M0 252) m (j + 1) (2 * cd.toInt + r.toInt) (2 * (2 * fi.toInt + xc fl n j)) (be.toInt + xc fl n j) (a + 1)) = R) → mq_R mq_PP (d + 1) 113 31 [some (.ref 234), some (.int x1), some (.int cd), some (.int fi), some (.int be), some (.int l), o6] [.int r, .int v26] (M2, z, u) Q := by
      intro M2 r sh' a2 hsh hr hV2 hF2 k1 k0
      have hT2 : yT M2 wn n fl := yT_fr hT (hF2 255 (by decide)) (hF2 256 (by decide))
      have hFb : ∀ b, b ≠ 234 → M2 b = Mb b := fun b hb => (hF2 b hb).trans (hF b hb)
      refine he_iadd (n := 32) (by decide +kernel) (by omega) (by omega) ?_
      intro v31 hv31
      refine he_istore (n := 33) (i := 2) (by decide +kernel) rfl ?_
      refine he_iconst (n := 34) (c := 2) (by decide +kernel) (by decide) ?_
      intro c33 hc33
      refine he_iload (n := 35) (i := 3) (by decide +kernel) rfl ?_
      refine he_imul (n := 36) (p := 2 * fi.toInt) (by decide +kernel) (by rw [hc33]) (by omega) (by omega) ?_
      intro v35 hv35
      refine he_istore (n := 37) (i := 3) (by decide +kernel) rfl ?_
      refine he_aload (n := 38) (i := 0) (by decide +kernel) rfl ?_
      refine he_getr (n := 41) (ci := 9) (j := 28) (ns := [4205, 71]) (b := 255) hV2.1.1 (by decide +kernel) rfl rfl (by decide +kernel) ?_
      refine he_iconst (n := 43) (c := 16) (by decide +kernel) (by decide) ?_
      intro c41 hc41
      refine he_iload (n := 44) (i := 1) (by decide +kernel) rfl ?_
      refine he_imul (n := 45) (p := 16 * x1.toInt) (by decide +kernel) (by rw [hc41]) (by omega) (by omega) ?_
      intro v44 hv44
      refine he_iload (n := 47) (i := 5) (by decide +kernel) rfl ?_
      refine he_iadd (n := 48) (by decide +kernel) (by omega) (by omega) ?_
      intro v47 hv47
      refine hb_ld (n := 49) (kind := 64) hV2.1.1 (by decide +kernel) rfl rfl (.inl rfl) (by omega) (show _ < (32 : Int) by omega) hb_at1 ?_
      intro v48 hv48 lv48 uv48
      have q48 : v48.toInt = xc fl n j := by rw [← hv48, show v47.toInt.toNat = 16 * wn + j by omega]; exact hT2.1 j e2 (by omega)
      refine he_istore (n := 51) (i := 6) (by decide +kernel) rfl ?_
      refine he_iload (n := 52) (i := 2) (by decide +kernel) rfl ?_
      refine he_iload (n := 53) (i := 3) (by decide +kernel) rfl ?_
      refine he_isub (n := 54) (by decide +kernel) (by omega) (by omega) ?_
      intro v53 hv53
      refine he_iload (n := 56) (i := 6) (by decide +kernel) rfl ?_
      by_cases hlt : v53.toInt < v48.toInt
      · skip
        refine he_cmpge_f (n := 59) (t := 77) (by decide +kernel) (by omega) ?_
        refine he_aload (n := 60) (i := 0) (by decide +kernel) rfl ?_
        refine he_getr (n := 63) (ci := 9) (j := 29) (ns := [4206, 74]) (b := 256) hV2.1.1 (by decide +kernel) rfl rfl (by decide +kernel) ?_
        refine he_iconst (n := 66) (c := 320) (by decide +kernel) (by decide) ?_
        intro c63 hc63
        refine he_iload (n := 67) (i := 1) (by decide +kernel) rfl ?_
        refine he_imul (n := 68) (p := 320 * x1.toInt) (by decide +kernel) (by rw [hc63]) (by omega) (by omega) ?_
        intro v67 hv67
        refine he_iload (n := 70) (i := 4) (by decide +kernel) rfl ?_
        refine he_iadd (n := 71) (by decide +kernel) (by omega) (by omega) ?_
        intro v70 hv70
        refine he_iload (n := 72) (i := 2) (by decide +kernel) rfl ?_
        refine he_iadd (n := 73) (by decide +kernel) (by omega) (by omega) ?_
        intro v72 hv72
        refine he_iload (n := 74) (i := 3) (by decide +kernel) rfl ?_
        refine he_isub (n := 75) (by decide +kernel) (by omega) (by omega) ?_
        intro v74 hv74
        refine hb_ld (n := 76) (kind := 64) hV2.1.1 (by decide +kernel) rfl rfl (.inl rfl) (by omega) (show _ < (640 : Int) by omega) hb_at1 ?_
        intro v75 hv75 lv75 uv75
        refine he_reti (by decide +kernel) ?_
        have e75 : v75.toInt = xg fl n (be.toInt + (2 * cd.toInt + r.toInt - 2 * fi.toInt)) := by
          have := xg_eq (f := fl) (n := n) (S := fun k => hv M2 256 (320 * wn + k.toNat)) hT2.2 e2 (k := 2 * cd.toInt + r.toInt - 2 * fi.toInt) (by omega) (by omega)
          rw [i4, ← this, ← hv75, show v74.toInt.toNat = 320 * wn + (xq fl n j + (2 * cd.toInt + r.toInt - 2 * fi.toInt)).toNat by omega]
        rcases hsh with h | h
        · obtain ⟨q1, q2⟩ := k0 h
          rw [if_pos (by omega)] at q2
          subst h
          rw [q1] at hV2
          exact K1 M2 _ (a + 1) (by rw [← q2, e75]) hV2 hFb
        · subst h
          exact K2 M2 _ 1 a2 (k1 rfl) hV2 (.inr rfl) (.inr rfl) (by omega) (by omega) hFb
      · skip
        refine he_cmpge_t (n := 59) (t := 77) (by decide +kernel) (by omega) ?_
        refine he_iload (n := 79) (i := 4) (by decide +kernel) rfl ?_
        refine he_iload (n := 81) (i := 6) (by decide +kernel) rfl ?_
        refine he_iadd (n := 82) (by decide +kernel) (by omega) (by omega) ?_
        intro v81 hv81
        refine he_istore (n := 84) (i := 4) (by decide +kernel) rfl ?_
        refine he_iload (n := 85) (i := 3) (by decide +kernel) rfl ?_
        refine he_iload (n := 87) (i := 6) (by decide +kernel) rfl ?_
        refine he_iadd (n := 88) (by decide +kernel) (by omega) (by omega) ?_
        intro v87 hv87
        refine he_istore (n := 89) (i := 3) (by decide +kernel) rfl ?_
        refine he_iinc (n := 92) (i := 5) (c := 1) (L' := fun v => [some (.ref (234)), some (.int x1), some (.int v31), some (.int v87), some (.int v81), some (.int v), some (.int v48)]) (by decide +kernel) (by decide) rfl (fun _ => rfl) (by omega) (by omega) ?_
        intro i89 hi89
        refine he_goto (t := 10) (by decide +kernel) ?_
        rcases hsh with h | h
        · obtain ⟨q1, q2⟩ := k0 h
          rw [if_neg (by omega)] at q2
          subst h
          rw [q1] at hV2
          refine ih (j + 1) M2 _ _ _ _ (a + 1) _ (by omega) (by omega) (by omega) (by omega) (by omega) (by omega) (by omega) hV2 hT2 hFb ?_
          rw [show v31.toInt = 2 * cd.toInt + r.toInt by omega, show v87.toInt = 2 * fi.toInt + xc fl n j by omega, show v81.toInt = be.toInt + xc fl n j by omega]
          exact q2
        · subst h
          exact stop M2 _ _ _ _ a2 _ (k1 rfl) hV2 hFb
    refine ym_bit hE hV ?_ ?_
    · intro M2 r hlt hV2 hr hF2
      show mq_R mq_PP (d + 1) 113 31 _ [.int r, .int v26] (M2, z, u) Q
      refine r31 M2 r 0 (a + 1) (.inl rfl) (by rw [hr]; exact xB_01 _) hV2 hF2 (fun h => absurd h (by decide)) (fun _ => ⟨rfl, ?_⟩)
      rw [xs, if_pos hlt] at hR
      rw [hr]
      exact hR
    · intro M2 r hlt hV2 hr hF2
      show mq_R mq_PP (d + 1) 113 31 _ [.int r, .int v26] (M2, z, u) Q
      rw [xs, if_neg hlt] at hR
      exact r31 M2 r 1 a (.inr rfl) (.inl hr) hV2 hF2 (fun _ => hR.symm) (fun h => absurd h (by decide))
theorem ym_sign {d z u E n wn : Nat} {fl : Nat → Int} {M0 : Nat → mq_C} {o : List Int} {Q : (Option Value ⊕ Nat) → mq_S → Prop} {x1 : Int32} (hE : E ≤ 1920) (hn : n ≤ 320) (hw : wn ≤ 1) (hx : x1.toInt = (wn : Int)) {M : Nat → mq_C} {a : Nat} (hV : yV E 0 M0 M a o) (hT : yT M wn n fl)
    (K1 : ∀ (M' : Nat → mq_C) (r : Int32) (a' : Nat), xsg fl n E (xB M0 252) a = some (r.toInt, a') → yV E 0 M0 M' a' o → (∀ b, b ≠ 234 → M' b = M b) → Q (.inl (some (.int r))) (M', z, u))
    (K2 : ∀ (M' : Nat → mq_C) (r : Int32) (sh' : Int) (a' : Nat), xsg fl n E (xB M0 252) a = none → yV E sh' M0 M' a' o → (sh' = 0 ∨ sh' = 1) → (r.toInt = -1 ∨ sh' = 1) → -1 ≤ r.toInt → r.toInt ≤ 319 → (∀ b, b ≠ 234 → M' b = M b) → Q (.inl (some (.int r))) (M', z, u)) : mq_R mq_PP (d + 1) 113 0 [some (.ref 234), some (.int x1), none, none, none, none, none] [] (M, z, u) Q := by
  refine he_iconst (n := 1) (c := 0) (by decide +kernel) (by decide) ?_
  intro c0 hc0
  refine he_istore (n := 2) (i := 2) (by decide +kernel) rfl ?_
  refine he_iconst (n := 3) (c := 0) (by decide +kernel) (by decide) ?_
  intro c2 hc2
  refine he_istore (n := 4) (i := 3) (by decide +kernel) rfl ?_
  refine he_iconst (n := 5) (c := 0) (by decide +kernel) (by decide) ?_
  intro c4 hc4
  refine he_istore (n := 7) (i := 4) (by decide +kernel) rfl ?_
  refine he_iconst (n := 8) (c := 1) (by decide +kernel) (by decide) ?_
  intro c7 hc7
  refine he_istore (n := 10) (i := 5) (by decide +kernel) rfl ?_
  refine ym_sign_l hE hn hw hx K1 K2 15 1 M _ _ _ _ a none (by decide) (by decide) (by omega) (by omega) (by omega) (by show _ < (1 : Int); omega) (by rw [xq_1]; omega) hV hT (fun _ _ => rfl) ?_
  unfold xsg
  rw [show c0.toInt = 0 by omega, show 2 * c2.toInt = 0 by omega, show c4.toInt = 0 by omega]
theorem ym_sign_s {d z u E a : Nat} {M0 M : Nat → mq_C} {o : List Int} {Q : (Option Value ⊕ Nat) → mq_S → Prop} {x1 : Int32} (hV : yV E 1 M0 M a o) (K : ∀ r : Int32, r.toInt = -1 → Q (.inl (some (.int r))) (M, z, u)) : mq_R mq_PP d 113 0 [some (.ref 234), some (.int x1), none, none, none, none, none] [] (M, z, u) Q := by
  refine he_iconst (n := 1) (c := 0) (by decide +kernel) (by decide) ?_
  intro c0 hc0
  refine he_istore (n := 2) (i := 2) (by decide +kernel) rfl ?_
  refine he_iconst (n := 3) (c := 0) (by decide +kernel) (by decide) ?_
  intro c2 hc2
  refine he_istore (n := 4) (i := 3) (by decide +kernel) rfl ?_
  refine he_iconst (n := 5) (c := 0) (by decide +kernel) (by decide) ?_
  intro c4 hc4
  refine he_istore (n := 7) (i := 4) (by decide +kernel) rfl ?_
  refine he_iconst (n := 8) (c := 1) (by decide +kernel) (by decide) ?_
  intro c7 hc7
  refine he_istore (n := 10) (i := 5) (by decide +kernel) rfl ?_
  refine he_iload (n := 12) (i := 5) (by decide +kernel) rfl ?_
  refine he_iconst (n := 14) (c := 16) (by decide +kernel) (by decide) ?_
  intro c12 hc12
  refine he_cmpge_f (n := 17) (t := 95) (by decide +kernel) (by omega) ?_
  refine he_aload (n := 18) (i := 0) (by decide +kernel) rfl ?_
  refine hb_gfd (n := 21) (ci := 9) (j := 24) (ns := [4201, 135]) hV.1.1 (by decide +kernel) rfl rfl (by decide) rfl ?_
  intro v18 hv18 lv18 uv18
  have q18 : v18.toInt = 1 := by rw [← hv18]; exact hV.2.2.2.1
  refine he_ifne_t (n := 24) (t := 95) (by decide +kernel) (by omega) ?_
  refine he_iconst (n := 96) (c := -1) (by decide +kernel) (by decide) ?_
  intro c95 hc95
  refine he_reti (by decide +kernel) ?_
  exact K _ (by omega)
