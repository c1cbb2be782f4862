/-! sign of the class, exactly. -/
/-- a code's rows: how many signs of each length, and the signs in order -/
def xT (M : Nat → mq_C) (c n : Nat) (fl : Nat → Int) : Prop := (∀ b : Nat, 1 ≤ b → b ≤ 15 → hv M (c + 1) b = xc fl n b) ∧ ∀ i : Nat, i < n → 1 ≤ fl i → hv M (c + 3) (xp fl n i).toNat = (i : Int)
theorem xT_br {M M' : Nat → mq_C} {c n j : Nat} {fl : Nat → Int} (h : xT M c n fl) (e : ∀ b i, b ≠ 9 ∨ i ≠ j → hv M' b i = hv M b i) (hc : 9 < c := by decide) : xT M' c n fl := ⟨fun b h1 h2 => by rw [e _ _ (.inl (by omega))]; exact h.1 b h1 h2, fun i h1 h2 => by rw [e _ _ (.inl (by omega))]; exact h.2 i h1 h2⟩
theorem xj_sign_l12 {bk : Int} {d z u pk f E ln : Nat} {M0 Mb : Nat → mq_C} {o : List Int} {Q : (Option Value ⊕ Nat) → mq_S → Prop} {n : Nat} {fl : Nat → Int} (hp : mz_GG.1 pk = some (64, ln, 1, [(0, 0, 255)])) (he : 8 * f + E ≤ 8 * ln) (hl : ln ≤ 240) (h9 : pk < 9 ∨ 24 ≤ pk) (hn : n ≤ 19) {R : Option (Int × Nat)}
    (K1 : ∀ (M' : Nat → mq_C) (r : Int32) (a' : Nat), R = some (r.toInt, a') → xV pk f E bk M0 M' a' o → xT M' 12 n fl → (∀ b, b ≠ 9 → M' b = Mb b) → Q (.inl (some (.int r))) (M', z, u))
    (K2 : ∀ (M' : Nat → mq_C) (r : Int32) (a' : Nat), R = none → xV pk f E 1 M0 M' a' o → xT M' 12 n fl → r.toInt = 0 → (∀ b, b ≠ 9 → M' b = Mb b) → Q (.inl (some (.int r))) (M', z, u)) : ∀ (m j : Nat) (M : Nat → mq_C) (cd fi be b : Int32) (a : Nat) (o6 : Option Value), m + j = 16 → 1 ≤ j → b.toInt = (j : Int) → 0 ≤ fi.toInt → fi.toInt ≤ 2 * cd.toInt → cd.toInt < 2 ^ (j - 1) → be.toInt = xq fl n j → xV pk f E bk M0 M a o → xT M 12 n fl → (∀ b, b ≠ 9 → M b = Mb b) → xs fl n E (fun i => xB M0 pk (8 * f + i)) m j cd.toInt fi.toInt be.toInt a = R → mq_R mq_PP d 100 10 [some (.ref 9), some (.ref 12), some (.int cd), some (.int fi), some (.int be), some (.int b), o6] [] (M, z, u) Q := by
  intro m
  induction m with
  | zero =>
    intro j M cd fi be b a o6 e1 e2 e3 i1 i2 i3 i4 hV hT hF hR
    obtain rfl : R = none := hR.symm
    refine he_iload (n := 12) (i := 5) (by decide +kernel) rfl ?_
    refine he_iconst (n := 14) (c := 15) (by decide +kernel) (by decide) ?_
    intro c12 hc12
    refine he_cmpgt_t (n := 17) (t := 113) (by decide +kernel) (by omega) ?_
    refine he_aload (n := 114) (i := 0) (by decide +kernel) rfl ?_
    refine he_iconst (n := 115) (c := 1) (by decide +kernel) (by decide) ?_
    intro c114 hc114
    refine hb_pfd (n := 118) (ci := 8) (j := 5) (t := 1) (ns := [1074, 28]) hV.1.1 (by decide +kernel) rfl rfl (by decide) (.inr ⟨rfl, he_01 (by omega)⟩) ?_
    generalize hM1 : hb_set M 9 5 c114 = M1
    have hm1 : mz_sh mz_GG M1 := by rw [← hM1]; exact hb_set_sh hV.1.1 rfl rfl (by omega) (by omega)
    have eM1 : ∀ b j, b ≠ 9 ∨ j ≠ 5 → hv M1 b j = hv M b j := by intro b j h; rw [← hM1]; exact hb_set_n h
    have sM1 : hv M1 9 5 = c114.toInt := by rw [← hM1]; exact hb_set_v hV.1.1 rfl (by decide)
    have wM1 : ∀ b, b ≠ 9 → M1 b = M b := by intro b h; rw [← hM1]; exact hb_set_c h
    refine he_iconst (n := 119) (c := 0) (by decide +kernel) (by decide) ?_
    intro c118 hc118
    refine he_reti (by decide +kernel) ?_
    exact K2 M1 _ a rfl (xV_br hV hM1 hm1 (by omega)) (xT_br hT eM1) (by omega) (fun b hb => (wM1 b hb).trans (hF b hb))
  | succ m ih =>
    intro j M cd fi be b a o6 e1 e2 e3 i1 i2 i3 i4 hV hT hF hR
    have vA : hv M 9 3 = 8 * (f : Int) + (a : Int) := hV.2.1
    have vE : hv M 9 4 = 8 * (f : Int) + (E : Int) := hV.2.2.1
    have p15 : (2 : Int) ^ (j - 1) ≤ 2 ^ 14 := xe_pow (by omega)
    have p15' : (2 : Int) ^ 14 = 16384 := by decide
    refine he_iload (n := 12) (i := 5) (by decide +kernel) rfl ?_
    refine he_iconst (n := 14) (c := 15) (by decide +kernel) (by decide) ?_
    intro c12 hc12
    refine he_cmpgt_f (n := 17) (t := 113) (by decide +kernel) (by omega) ?_
    refine he_aload (n := 18) (i := 0) (by decide +kernel) rfl ?_
    refine hb_gfd (n := 21) (ci := 8) (j := 3) (ns := [1072, 22]) hV.1.1 (by decide +kernel) rfl rfl (by decide) rfl ?_
    intro v18 hv18 lv18 uv18
    refine he_aload (n := 22) (i := 0) (by decide +kernel) rfl ?_
    refine hb_gfd (n := 25) (ci := 8) (j := 4) (ns := [1073, 25]) hV.1.1 (by decide +kernel) rfl rfl (by decide) rfl ?_
    intro v22 hv22 lv22 uv22
    by_cases hE : a < E
    · skip
      refine he_cmpge_f (n := 28) (t := 113) (by decide +kernel) (by omega) ?_
      refine he_iload (n := 29) (i := 2) (by decide +kernel) rfl ?_
      refine he_iconst (n := 30) (c := 1) (by decide +kernel) (by decide) ?_
      intro c29 hc29
      refine he_ex2 (o := 15) (n := 31) (by decide +kernel) rfl ?_
      intro v30 hv30
      have ev30 : v30 = cd <<< (c29 &&& 31) := hv30
      have bv30 := mz_i32 v30
      refine he_aload (n := 32) (i := 0) (by decide +kernel) rfl ?_
      refine xe_getr (n := 35) (ci := 8) (j := 2) (ns := [1071, 19]) (b := pk) (by decide +kernel) ((hb_kd (a := 9) hV.1.1 rfl).trans rfl) (hV.1.2.2) ?_
      refine he_aload (n := 36) (i := 0) (by decide +kernel) rfl ?_
      refine hb_gfd (n := 39) (ci := 8) (j := 3) (ns := [1072, 22]) hV.1.1 (by decide +kernel) rfl rfl (by decide) rfl ?_
      intro v36 hv36 lv36 uv36
      refine he_iconst (n := 40) (c := 3) (by decide +kernel) (by decide) ?_
      intro c39 hc39
      refine he_ex2 (o := 16) (n := 41) (by decide +kernel) rfl ?_
      intro v40 hv40
      have ev40 : v40 = v36 >>> (c39 &&& 31) := hv40
      have bv40 := mz_i32 v40
      have q36 : v36.toInt = 8 * (f : Int) + (a : Int) := by rw [← hv36]; exact vA
      have q40 : v40.toInt = v36.toInt / 8 := xe_shr3 (by omega) hc39 ev40
      refine hb_ld (n := 42) (kind := 64) hV.1.1 (by decide +kernel) hp rfl (.inl rfl) (by omega) (show _ < (ln : Int) by omega) hb_at1 ?_
      intro v41 hv41 lv41 uv41
      refine he_aload (n := 43) (i := 0) (by decide +kernel) rfl ?_
      refine hb_gfd (n := 46) (ci := 8) (j := 3) (ns := [1072, 22]) hV.1.1 (by decide +kernel) rfl rfl (by decide) rfl ?_
      intro v43 hv43 lv43 uv43
      refine he_iconst (n := 48) (c := 7) (by decide +kernel) (by decide) ?_
      intro c46 hc46
      refine he_ex2 (o := 12) (n := 49) (by decide +kernel) rfl ?_
      intro v48 hv48
      have ev48 : v48 = v43 &&& c46 := hv48
      have bv48 := mz_i32 v48
      refine he_ex2 (o := 16) (n := 50) (by decide +kernel) rfl ?_
      intro v49 hv49
      have ev49 : v49 = v41 >>> (v48 &&& 31) := hv49
      have bv49 := mz_i32 v49
      refine he_iconst (n := 51) (c := 1) (by decide +kernel) (by decide) ?_
      intro c50 hc50
      refine he_ex2 (o := 12) (n := 52) (by decide +kernel) rfl ?_
      intro v51 hv51
      have ev51 : v51 = v49 &&& c50 := hv51
      have bv51 := mz_i32 v51
      refine he_ex2 (o := 13) (n := 53) (by decide +kernel) rfl ?_
      intro v52 hv52
      have ev52 : v52 = v30 ||| v51 := hv52
      have bv52 := mz_i32 v52
      refine he_istore (n := 54) (i := 2) (by decide +kernel) rfl ?_
      refine he_aload (n := 55) (i := 0) (by decide +kernel) rfl ?_
      refine he_dup_r (n := 56) (by decide +kernel) ?_
      refine hb_gfd (n := 59) (ci := 8) (j := 3) (ns := [1072, 22]) hV.1.1 (by decide +kernel) rfl rfl (by decide) rfl ?_
      intro v56 hv56 lv56 uv56
      refine he_iconst (n := 60) (c := 1) (by decide +kernel) (by decide) ?_
      intro c59 hc59
      refine he_iadd (n := 61) (by decide +kernel) (by omega) (by omega) ?_
      intro v60 hv60
      have q43 : v43.toInt = 8 * (f : Int) + (a : Int) := by rw [← hv43]; exact vA
      have q56 : v56.toInt = 8 * (f : Int) + (a : Int) := by rw [← hv56]; exact vA
      have q48 : v48.toInt = v43.toInt % 8 := xe_and7 (by omega) hc46 ev48
      have q51 : v51.toInt = xB M0 pk (8 * f + a) := by
        rw [ev51, show c50 = 1 by rw [he_eqi]; exact hc50, ev49, xe_bit lv41 uv41 (by omega) (by omega), ← hv41]
        unfold xB
        rw [hb_vc (hV.1.2.1 pk h9), show v40.toInt.toNat = (8 * f + a) / 8 by omega, show v48.toInt.toNat = (8 * f + a) % 8 by omega]
      have q30 := xe_shl1 (x := cd) (by omega) (by omega) hc29 ev30
      have b51 : v51.toInt = 0 ∨ v51.toInt = 1 := by rw [q51]; exact xB_01 _
      have q52 := xe_or1 (x := v30) (m := cd.toInt) q30 (by omega) (by omega) b51 ev52
      refine hb_pfd (n := 64) (ci := 8) (j := 3) (t := 0) (ns := [1072, 22]) hV.1.1 (by decide +kernel) rfl rfl (by decide) (.inl rfl) ?_
      generalize hM1 : hb_set M 9 3 v60 = M1
      have hm1 : mz_sh mz_GG M1 := by rw [← hM1]; exact hb_set_sh hV.1.1 rfl rfl (by omega) (by omega)
      have eM1 : ∀ b j, b ≠ 9 ∨ j ≠ 3 → hv M1 b j = hv M b j := by intro b j h; rw [← hM1]; exact hb_set_n h
      have sM1 : hv M1 9 3 = v60.toInt := by rw [← hM1]; exact hb_set_v hV.1.1 rfl (by decide)
      have wM1 : ∀ b, b ≠ 9 → M1 b = M b := by intro b h; rw [← hM1]; exact hb_set_c h
      have hV1 : xV pk f E bk M0 M1 (a + 1) o := xV_at hV hM1 hm1 (by omega) (by omega)
      have hT1 : xT M1 12 n fl := by
        refine ⟨fun b h1 h2 => ?_, fun i h1 h2 => ?_⟩
        · rw [eM1 _ _ (.inl (by decide))]; exact hT.1 b h1 h2
        · rw [eM1 _ _ (.inl (by decide))]; exact hT.2 i h1 h2
      refine he_aload (n := 65) (i := 1) (by decide +kernel) rfl ?_
      refine he_getr (n := 68) (ci := 3) (j := 0) (ns := [1043, 103]) (b := 13) hm1 (by decide +kernel) rfl rfl (by decide +kernel) ?_
      refine he_iload (n := 70) (i := 5) (by decide +kernel) rfl ?_
      refine hb_ld (n := 71) (kind := 64) hm1 (by decide +kernel) rfl rfl (.inl rfl) (by omega) (show _ < (16 : Int) by omega) hb_at1 ?_
      intro v70 hv70 lv70 uv70
      refine he_istore (n := 73) (i := 6) (by decide +kernel) rfl ?_
      refine he_iload (n := 74) (i := 2) (by decide +kernel) rfl ?_
      refine he_iload (n := 75) (i := 3) (by decide +kernel) rfl ?_
      refine he_isub (n := 76) (by decide +kernel) (by omega) (by omega) ?_
      intro v75 hv75
      refine he_iload (n := 78) (i := 6) (by decide +kernel) rfl ?_
      have q70 : v70.toInt = xc fl n j := by rw [← hv70, show b.toInt.toNat = j by omega]; exact hT1.1 j e2 (by omega)
      have hc0 := xc_0 fl n j
      have hql := xq_le (f := fl) (b := j + 1) n
      have hqs := xq_s (f := fl) (n := n) e2
      have hq0 := xq_0 (f := fl) (n := n) (b := j)
      have eR : xs fl n E (fun i => xB M0 pk (8 * f + i)) (m + 1) j cd.toInt fi.toInt be.toInt a = (if v52.toInt - fi.toInt < xc fl n j then some (xg fl n (be.toInt + (v52.toInt - fi.toInt)), a + 1) else xs fl n E (fun i => xB M0 pk (8 * f + i)) m (j + 1) v52.toInt (2 * (fi.toInt + xc fl n j)) (be.toInt + xc fl n j) (a + 1)) := by
        rw [xs, if_pos hE, q52, q51]
      rw [eR] at hR
      by_cases hlt : v75.toInt < v70.toInt
      · rw [if_pos (by omega)] at hR
        refine he_cmpge_f (n := 81) (t := 93) (by decide +kernel) (by omega) ?_
        refine he_aload (n := 82) (i := 1) (by decide +kernel) rfl ?_
        refine he_getr (n := 85) (ci := 3) (j := 1) (ns := [1045, 106]) (b := 15) hm1 (by decide +kernel) rfl rfl (by decide +kernel) ?_
        refine he_iload (n := 87) (i := 4) (by decide +kernel) rfl ?_
        refine he_iload (n := 88) (i := 2) (by decide +kernel) rfl ?_
        refine he_iadd (n := 89) (by decide +kernel) (by omega) (by omega) ?_
        intro v88 hv88
        refine he_iload (n := 90) (i := 3) (by decide +kernel) rfl ?_
        refine he_isub (n := 91) (by decide +kernel) (by omega) (by omega) ?_
        intro v90 hv90
        refine hb_ld (n := 92) (kind := 64) hm1 (by decide +kernel) rfl rfl (.inl rfl) (by omega) (show _ < (19 : Int) by omega) hb_at1 ?_
        intro v91 hv91 lv91 uv91
        refine he_reti (by decide +kernel) ?_
        have e92 : v91.toInt = xg fl n (be.toInt + (v52.toInt - fi.toInt)) := by
          have := xg_eq (f := fl) (n := n) (S := fun k => hv M1 15 k.toNat) hT1.2 e2 (k := v52.toInt - fi.toInt) (by omega) (by omega)
          rw [i4, ← this, ← hv91, show v90.toInt.toNat = (xq fl n j + (v52.toInt - fi.toInt)).toNat by omega]
        exact K1 M1 _ (a + 1) (by rw [← hR, e92]) hV1 hT1 (fun b hb => (wM1 b hb).trans (hF b hb))
      · rw [if_neg (by omega)] at hR
        refine he_cmpge_t (n := 81) (t := 93) (by decide +kernel) (by omega) ?_
        refine he_iload (n := 95) (i := 4) (by decide +kernel) rfl ?_
        refine he_iload (n := 97) (i := 6) (by decide +kernel) rfl ?_
        refine he_iadd (n := 98) (by decide +kernel) (by omega) (by omega) ?_
        intro v97 hv97
        refine he_istore (n := 100) (i := 4) (by decide +kernel) rfl ?_
        refine he_iload (n := 101) (i := 3) (by decide +kernel) rfl ?_
        refine he_iload (n := 103) (i := 6) (by decide +kernel) rfl ?_
        refine he_iadd (n := 104) (by decide +kernel) (by omega) (by omega) ?_
        intro v103 hv103
        refine he_iconst (n := 105) (c := 1) (by decide +kernel) (by decide) ?_
        intro c104 hc104
        refine he_ex2 (o := 15) (n := 106) (by decide +kernel) rfl ?_
        intro v105 hv105
        have ev105 : v105 = v103 <<< (c104 &&& 31) := hv105
        have bv105 := mz_i32 v105
        refine he_istore (n := 107) (i := 3) (by decide +kernel) rfl ?_
        refine he_iinc (n := 110) (i := 5) (c := 1) (L' := fun v => [some (.ref (9)), some (.ref (12)), some (.int v52), some (.int v105), some (.int v97), some (.int v), some (.int v70)]) (by decide +kernel) (by decide) rfl (fun _ => rfl) (by omega) (by omega) ?_
        intro i107 hi107
        refine he_goto (t := 10) (by decide +kernel) ?_
        have q105 := xe_shl1 (x := v103) (by omega) (by omega) hc104 ev105
        refine ih (j + 1) M1 v52 v105 v97 _ (a + 1) _ (by omega) (by omega) (by omega) (by omega) (by omega) ?_ (by omega) hV1 hT1 (fun b hb => (wM1 b hb).trans (hF b hb)) ?_
        · have : (2 : Int) ^ (j + 1 - 1) = 2 * 2 ^ (j - 1) := by
            obtain ⟨t, rfl⟩ : ∃ t, j = t + 1 := ⟨j - 1, by omega⟩
            show (2 : Int) ^ (t + 1) = 2 * 2 ^ t
            rw [Int.pow_succ]
            omega
          omega
        · rw [show v105.toInt = 2 * (fi.toInt + xc fl n j) by omega, show v97.toInt = be.toInt + xc fl n j by omega]
          exact hR
    · rw [xs, if_neg hE] at hR
      refine he_cmpge_t (n := 28) (t := 113) (by decide +kernel) (by omega) ?_
      refine he_aload (n := 114) (i := 0) (by decide +kernel) rfl ?_
      refine he_iconst (n := 115) (c := 1) (by decide +kernel) (by decide) ?_
      intro c114 hc114
      refine hb_pfd (n := 118) (ci := 8) (j := 5) (t := 1) (ns := [1074, 28]) hV.1.1 (by decide +kernel) rfl rfl (by decide) (.inr ⟨rfl, he_01 (by omega)⟩) ?_
      generalize hM1 : hb_set M 9 5 c114 = M1
      have hm1 : mz_sh mz_GG M1 := by rw [← hM1]; exact hb_set_sh hV.1.1 rfl rfl (by omega) (by omega)
      have eM1 : ∀ b j, b ≠ 9 ∨ j ≠ 5 → hv M1 b j = hv M b j := by intro b j h; rw [← hM1]; exact hb_set_n h
      have sM1 : hv M1 9 5 = c114.toInt := by rw [← hM1]; exact hb_set_v hV.1.1 rfl (by decide)
      have wM1 : ∀ b, b ≠ 9 → M1 b = M b := by intro b h; rw [← hM1]; exact hb_set_c h
      refine he_iconst (n := 119) (c := 0) (by decide +kernel) (by decide) ?_
      intro c118 hc118
      refine he_reti (by decide +kernel) ?_
      exact K2 M1 _ a hR.symm (xV_br hV hM1 hm1 (by omega)) (xT_br hT eM1) (by omega) (fun b hb => (wM1 b hb).trans (hF b hb))
theorem xj_sign12 {bk : Int} {d z u pk f E ln : Nat} {M0 : Nat → mq_C} {o : List Int} {Q : (Option Value ⊕ Nat) → mq_S → Prop} {n : Nat} {fl : Nat → Int} {M : Nat → mq_C} {a : Nat} (hp : mz_GG.1 pk = some (64, ln, 1, [(0, 0, 255)])) (he : 8 * f + E ≤ 8 * ln) (hl : ln ≤ 240) (h9 : pk < 9 ∨ 24 ≤ pk) (hn : n ≤ 19) (hV : xV pk f E bk M0 M a o) (hT : xT M 12 n fl)
    (K1 : ∀ (M' : Nat → mq_C) (r : Int32) (a' : Nat), xsg fl n E (fun i => xB M0 pk (8 * f + i)) a = some (r.toInt, a') → xV pk f E bk M0 M' a' o → xT M' 12 n fl → (∀ b, b ≠ 9 → M' b = M b) → Q (.inl (some (.int r))) (M', z, u))
    (K2 : ∀ (M' : Nat → mq_C) (r : Int32) (a' : Nat), xsg fl n E (fun i => xB M0 pk (8 * f + i)) a = none → xV pk f E 1 M0 M' a' o → xT M' 12 n fl → r.toInt = 0 → (∀ b, b ≠ 9 → M' b = M b) → Q (.inl (some (.int r))) (M', z, u)) : mq_R mq_PP d 100 0 [some (.ref 9), some (.ref 12), none, none, none, none, none] [] (M, z, u) Q := by
  refine he_iconst (n := 1) (c := 0) (by decide +kernel) (by decide) ?_
  intro c0 hc0
  refine he_istore (n := 2) (i := 2) (by decide +kernel) rfl ?_
  refine he_iconst (n := 3) (c := 0) (by decide +kernel) (by decide) ?_
  intro c2 hc2
  refine he_istore (n := 4) (i := 3) (by decide +kernel) rfl ?_
  refine he_iconst (n := 5) (c := 0) (by decide +kernel) (by decide) ?_
  intro c4 hc4
  refine he_istore (n := 7) (i := 4) (by decide +kernel) rfl ?_
  refine he_iconst (n := 8) (c := 1) (by decide +kernel) (by decide) ?_
  intro c7 hc7
  refine he_istore (n := 10) (i := 5) (by decide +kernel) rfl ?_
  refine xj_sign_l12 hp he hl h9 hn K1 K2 15 1 M _ _ _ _ a none (by decide) (by decide) (by omega) (by omega) (by omega) (by show _ < (1 : Int); omega) (by rw [xq_1]; omega) hV hT (fun _ _ => rfl) ?_
  unfold xsg
  rw [show c0.toInt = 0 by omega, show c2.toInt = 0 by omega, show c4.toInt = 0 by omega]
theorem xj_sign_l16 {bk : Int} {d z u pk f E ln : Nat} {M0 Mb : Nat → mq_C} {o : List Int} {Q : (Option Value ⊕ Nat) → mq_S → Prop} {n : Nat} {fl : Nat → Int} (hp : mz_GG.1 pk = some (64, ln, 1, [(0, 0, 255)])) (he : 8 * f + E ≤ 8 * ln) (hl : ln ≤ 240) (h9 : pk < 9 ∨ 24 ≤ pk) (hn : n ≤ 286) {R : Option (Int × Nat)}
    (K1 : ∀ (M' : Nat → mq_C) (r : Int32) (a' : Nat), R = some (r.toInt, a') → xV pk f E bk M0 M' a' o → xT M' 16 n fl → (∀ b, b ≠ 9 → M' b = Mb b) → Q (.inl (some (.int r))) (M', z, u))
    (K2 : ∀ (M' : Nat → mq_C) (r : Int32) (a' : Nat), R = none → xV pk f E 1 M0 M' a' o → xT M' 16 n fl → r.toInt = 0 → (∀ b, b ≠ 9 → M' b = Mb b) → Q (.inl (some (.int r))) (M', z, u)) : ∀ (m j : Nat) (M : Nat → mq_C) (cd fi be b : Int32) (a : Nat) (o6 : Option Value), m + j = 16 → 1 ≤ j → b.toInt = (j : Int) → 0 ≤ fi.toInt → fi.toInt ≤ 2 * cd.toInt → cd.toInt < 2 ^ (j - 1) → be.toInt = xq fl n j → xV pk f E bk M0 M a o → xT M 16 n fl → (∀ b, b ≠ 9 → M b = Mb b) → xs fl n E (fun i => xB M0 pk (8 * f + i)) m j cd.toInt fi.toInt be.toInt a = R → mq_R mq_PP d 100 10 [some (.ref 9), some (.ref 16), some (.int cd), some (.int fi), some (.int be), some (.int b), o6] [] (M, z, u) Q := by
  intro m
  induction m with
  | zero =>
    intro j M cd fi be b a o6 e1 e2 e3 i1 i2 i3 i4 hV hT hF hR
    obtain rfl : R = none := hR.symm
    refine he_iload (n := 12) (i := 5) (by decide +kernel) rfl ?_
    refine he_iconst (n := 14) (c := 15) (by decide +kernel) (by decide) ?_
    intro c12 hc12
    refine he_cmpgt_t (n := 17) (t := 113) (by decide +kernel) (by omega) ?_
    refine he_aload (n := 114) (i := 0) (by decide +kernel) rfl ?_
    refine he_iconst (n := 115) (c := 1) (by decide +kernel) (by decide) ?_
    intro c114 hc114
    refine hb_pfd (n := 118) (ci := 8) (j := 5) (t := 1) (ns := [1074, 28]) hV.1.1 (by decide +kernel) rfl rfl (by decide) (.inr ⟨rfl, he_01 (by omega)⟩) ?_
    generalize hM1 : hb_set M 9 5 c114 = M1
    have hm1 : mz_sh mz_GG M1 := by rw [← hM1]; exact hb_set_sh hV.1.1 rfl rfl (by omega) (by omega)
    have eM1 : ∀ b j, b ≠ 9 ∨ j ≠ 5 → hv M1 b j = hv M b j := by intro b j h; rw [← hM1]; exact hb_set_n h
    have sM1 : hv M1 9 5 = c114.toInt := by rw [← hM1]; exact hb_set_v hV.1.1 rfl (by decide)
    have wM1 : ∀ b, b ≠ 9 → M1 b = M b := by intro b h; rw [← hM1]; exact hb_set_c h
    refine he_iconst (n := 119) (c := 0) (by decide +kernel) (by decide) ?_
    intro c118 hc118
    refine he_reti (by decide +kernel) ?_
    exact K2 M1 _ a rfl (xV_br hV hM1 hm1 (by omega)) (xT_br hT eM1) (by omega) (fun b hb => (wM1 b hb).trans (hF b hb))
  | succ m ih =>
    intro j M cd fi be b a o6 e1 e2 e3 i1 i2 i3 i4 hV hT hF hR
    have vA : hv M 9 3 = 8 * (f : Int) + (a : Int) := hV.2.1
    have vE : hv M 9 4 = 8 * (f : Int) + (E : Int) := hV.2.2.1
    have p15 : (2 : Int) ^ (j - 1) ≤ 2 ^ 14 := xe_pow (by omega)
    have p15' : (2 : Int) ^ 14 = 16384 := by decide
    refine he_iload (n := 12) (i := 5) (by decide +kernel) rfl ?_
    refine he_iconst (n := 14) (c := 15) (by decide +kernel) (by decide) ?_
    intro c12 hc12
    refine he_cmpgt_f (n := 17) (t := 113) (by decide +kernel) (by omega) ?_
    refine he_aload (n := 18) (i := 0) (by decide +kernel) rfl ?_
    refine hb_gfd (n := 21) (ci := 8) (j := 3) (ns := [1072, 22]) hV.1.1 (by decide +kernel) rfl rfl (by decide) rfl ?_
    intro v18 hv18 lv18 uv18
    refine he_aload (n := 22) (i := 0) (by decide +kernel) rfl ?_
    refine hb_gfd (n := 25) (ci := 8) (j := 4) (ns := [1073, 25]) hV.1.1 (by decide +kernel) rfl rfl (by decide) rfl ?_
    intro v22 hv22 lv22 uv22
    by_cases hE : a < E
    · skip
      refine he_cmpge_f (n := 28) (t := 113) (by decide +kernel) (by omega) ?_
      refine he_iload (n := 29) (i := 2) (by decide +kernel) rfl ?_
      refine he_iconst (n := 30) (c := 1) (by decide +kernel) (by decide) ?_
      intro c29 hc29
      refine he_ex2 (o := 15) (n := 31) (by decide +kernel) rfl ?_
      intro v30 hv30
      have ev30 : v30 = cd <<< (c29 &&& 31) := hv30
      have bv30 := mz_i32 v30
      refine he_aload (n := 32) (i := 0) (by decide +kernel) rfl ?_
      refine xe_getr (n := 35) (ci := 8) (j := 2) (ns := [1071, 19]) (b := pk) (by decide +kernel) ((hb_kd (a := 9) hV.1.1 rfl).trans rfl) (hV.1.2.2) ?_
      refine he_aload (n := 36) (i := 0) (by decide +kernel) rfl ?_
      refine hb_gfd (n := 39) (ci := 8) (j := 3) (ns := [1072, 22]) hV.1.1 (by decide +kernel) rfl rfl (by decide) rfl ?_
      intro v36 hv36 lv36 uv36
      refine he_iconst (n := 40) (c := 3) (by decide +kernel) (by decide) ?_
      intro c39 hc39
      refine he_ex2 (o := 16) (n := 41) (by decide +kernel) rfl ?_
      intro v40 hv40
      have ev40 : v40 = v36 >>> (c39 &&& 31) := hv40
      have bv40 := mz_i32 v40
      have q36 : v36.toInt = 8 * (f : Int) + (a : Int) := by rw [← hv36]; exact vA
      have q40 : v40.toInt = v36.toInt / 8 := xe_shr3 (by omega) hc39 ev40
      refine hb_ld (n := 42) (kind := 64) hV.1.1 (by decide +kernel) hp rfl (.inl rfl) (by omega) (show _ < (ln : Int) by omega) hb_at1 ?_
      intro v41 hv41 lv41 uv41
      refine he_aload (n := 43) (i := 0) (by decide +kernel) rfl ?_
      refine hb_gfd (n := 46) (ci := 8) (j := 3) (ns := [1072, 22]) hV.1.1 (by decide +kernel) rfl rfl (by decide) rfl ?_
      intro v43 hv43 lv43 uv43
      refine he_iconst (n := 48) (c := 7) (by decide +kernel) (by decide) ?_
      intro c46 hc46
      refine he_ex2 (o := 12) (n := 49) (by decide +kernel) rfl ?_
      intro v48 hv48
      have ev48 : v48 = v43 &&& c46 := hv48
      have bv48 := mz_i32 v48
      refine he_ex2 (o := 16) (n := 50) (by decide +kernel) rfl ?_
      intro v49 hv49
      have ev49 : v49 = v41 >>> (v48 &&& 31) := hv49
      have bv49 := mz_i32 v49
      refine he_iconst (n := 51) (c := 1) (by decide +kernel) (by decide) ?_
      intro c50 hc50
      refine he_ex2 (o := 12) (n := 52) (by decide +kernel) rfl ?_
      intro v51 hv51
      have ev51 : v51 = v49 &&& c50 := hv51
      have bv51 := mz_i32 v51
      refine he_ex2 (o := 13) (n := 53) (by decide +kernel) rfl ?_
      intro v52 hv52
      have ev52 : v52 = v30 ||| v51 := hv52
      have bv52 := mz_i32 v52
      refine he_istore (n := 54) (i := 2) (by decide +kernel) rfl ?_
      refine he_aload (n := 55) (i := 0) (by decide +kernel) rfl ?_
      refine he_dup_r (n := 56) (by decide +kernel) ?_
      refine hb_gfd (n := 59) (ci := 8) (j := 3) (ns := [1072, 22]) hV.1.1 (by decide +kernel) rfl rfl (by decide) rfl ?_
      intro v56 hv56 lv56 uv56
      refine he_iconst (n := 60) (c := 1) (by decide +kernel) (by decide) ?_
      intro c59 hc59
      refine he_iadd (n := 61) (by decide +kernel) (by omega) (by omega) ?_
      intro v60 hv60
      have q43 : v43.toInt = 8 * (f : Int) + (a : Int) := by rw [← hv43]; exact vA
      have q56 : v56.toInt = 8 * (f : Int) + (a : Int) := by rw [← hv56]; exact vA
      have q48 : v48.toInt = v43.toInt % 8 := xe_and7 (by omega) hc46 ev48
      have q51 : v51.toInt = xB M0 pk (8 * f + a) := by
        rw [ev51, show c50 = 1 by rw [he_eqi]; exact hc50, ev49, xe_bit lv41 uv41 (by omega) (by omega), ← hv41]
        unfold xB
        rw [hb_vc (hV.1.2.1 pk h9), show v40.toInt.toNat = (8 * f + a) / 8 by omega, show v48.toInt.toNat = (8 * f + a) % 8 by omega]
      have q30 := xe_shl1 (x := cd) (by omega) (by omega) hc29 ev30
      have b51 : v51.toInt = 0 ∨ v51.toInt = 1 := by rw [q51]; exact xB_01 _
      have q52 := xe_or1 (x := v30) (m := cd.toInt) q30 (by omega) (by omega) b51 ev52
      refine hb_pfd (n := 64) (ci := 8) (j := 3) (t := 0) (ns := [1072, 22]) hV.1.1 (by decide +kernel) rfl rfl (by decide) (.inl rfl) ?_
      generalize hM1 : hb_set M 9 3 v60 = M1
      have hm1 : mz_sh mz_GG M1 := by rw [← hM1]; exact hb_set_sh hV.1.1 rfl rfl (by omega) (by omega)
      have eM1 : ∀ b j, b ≠ 9 ∨ j ≠ 3 → hv M1 b j = hv M b j := by intro b j h; rw [← hM1]; exact hb_set_n h
      have sM1 : hv M1 9 3 = v60.toInt := by rw [← hM1]; exact hb_set_v hV.1.1 rfl (by decide)
      have wM1 : ∀ b, b ≠ 9 → M1 b = M b := by intro b h; rw [← hM1]; exact hb_set_c h
      have hV1 : xV pk f E bk M0 M1 (a + 1) o := xV_at hV hM1 hm1 (by omega) (by omega)
      have hT1 : xT M1 16 n fl := by
        refine ⟨fun b h1 h2 => ?_, fun i h1 h2 => ?_⟩
        · rw [eM1 _ _ (.inl (by decide))]; exact hT.1 b h1 h2
        · rw [eM1 _ _ (.inl (by decide))]; exact hT.2 i h1 h2
      refine he_aload (n := 65) (i := 1) (by decide +kernel) rfl ?_
      refine he_getr (n := 68) (ci := 3) (j := 0) (ns := [1043, 103]) (b := 17) hm1 (by decide +kernel) rfl rfl (by decide +kernel) ?_
      refine he_iload (n := 70) (i := 5) (by decide +kernel) rfl ?_
      refine hb_ld (n := 71) (kind := 64) hm1 (by decide +kernel) rfl rfl (.inl rfl) (by omega) (show _ < (16 : Int) by omega) hb_at1 ?_
      intro v70 hv70 lv70 uv70
      refine he_istore (n := 73) (i := 6) (by decide +kernel) rfl ?_
      refine he_iload (n := 74) (i := 2) (by decide +kernel) rfl ?_
      refine he_iload (n := 75) (i := 3) (by decide +kernel) rfl ?_
      refine he_isub (n := 76) (by decide +kernel) (by omega) (by omega) ?_
      intro v75 hv75
      refine he_iload (n := 78) (i := 6) (by decide +kernel) rfl ?_
      have q70 : v70.toInt = xc fl n j := by rw [← hv70, show b.toInt.toNat = j by omega]; exact hT1.1 j e2 (by omega)
      have hc0 := xc_0 fl n j
      have hql := xq_le (f := fl) (b := j + 1) n
      have hqs := xq_s (f := fl) (n := n) e2
      have hq0 := xq_0 (f := fl) (n := n) (b := j)
      have eR : xs fl n E (fun i => xB M0 pk (8 * f + i)) (m + 1) j cd.toInt fi.toInt be.toInt a = (if v52.toInt - fi.toInt < xc fl n j then some (xg fl n (be.toInt + (v52.toInt - fi.toInt)), a + 1) else xs fl n E (fun i => xB M0 pk (8 * f + i)) m (j + 1) v52.toInt (2 * (fi.toInt + xc fl n j)) (be.toInt + xc fl n j) (a + 1)) := by
        rw [xs, if_pos hE, q52, q51]
      rw [eR] at hR
      by_cases hlt : v75.toInt < v70.toInt
      · rw [if_pos (by omega)] at hR
        refine he_cmpge_f (n := 81) (t := 93) (by decide +kernel) (by omega) ?_
        refine he_aload (n := 82) (i := 1) (by decide +kernel) rfl ?_
        refine he_getr (n := 85) (ci := 3) (j := 1) (ns := [1045, 106]) (b := 19) hm1 (by decide +kernel) rfl rfl (by decide +kernel) ?_
        refine he_iload (n := 87) (i := 4) (by decide +kernel) rfl ?_
        refine he_iload (n := 88) (i := 2) (by decide +kernel) rfl ?_
        refine he_iadd (n := 89) (by decide +kernel) (by omega) (by omega) ?_
        intro v88 hv88
        refine he_iload (n := 90) (i := 3) (by decide +kernel) rfl ?_
        refine he_isub (n := 91) (by decide +kernel) (by omega) (by omega) ?_
        intro v90 hv90
        refine hb_ld (n := 92) (kind := 64) hm1 (by decide +kernel) rfl rfl (.inl rfl) (by omega) (show _ < (286 : Int) by omega) hb_at1 ?_
        intro v91 hv91 lv91 uv91
        refine he_reti (by decide +kernel) ?_
        have e92 : v91.toInt = xg fl n (be.toInt + (v52.toInt - fi.toInt)) := by
          have := xg_eq (f := fl) (n := n) (S := fun k => hv M1 19 k.toNat) hT1.2 e2 (k := v52.toInt - fi.toInt) (by omega) (by omega)
          rw [i4, ← this, ← hv91, show v90.toInt.toNat = (xq fl n j + (v52.toInt - fi.toInt)).toNat by omega]
        exact K1 M1 _ (a + 1) (by rw [← hR, e92]) hV1 hT1 (fun b hb => (wM1 b hb).trans (hF b hb))
      · rw [if_neg (by omega)] at hR
        refine he_cmpge_t (n := 81) (t := 93) (by decide +kernel) (by omega) ?_
        refine he_iload (n := 95) (i := 4) (by decide +kernel) rfl ?_
        refine he_iload (n := 97) (i := 6) (by decide +kernel) rfl ?_
        refine he_iadd (n := 98) (by decide +kernel) (by omega) (by omega) ?_
        intro v97 hv97
        refine he_istore (n := 100) (i := 4) (by decide +kernel) rfl ?_
        refine he_iload (n := 101) (i := 3) (by decide +kernel) rfl ?_
        refine he_iload (n := 103) (i := 6) (by decide +kernel) rfl ?_
        refine he_iadd (n := 104) (by decide +kernel) (by omega) (by omega) ?_
        intro v103 hv103
        refine he_iconst (n := 105) (c := 1) (by decide +kernel) (by decide) ?_
        intro c104 hc104
        refine he_ex2 (o := 15) (n := 106) (by decide +kernel) rfl ?_
        intro v105 hv105
        have ev105 : v105 = v103 <<< (c104 &&& 31) := hv105
        have bv105 := mz_i32 v105
        refine he_istore (n := 107) (i := 3) (by decide +kernel) rfl ?_
        refine he_iinc (n := 110) (i := 5) (c := 1) (L' := fun v => [some (.ref (9)), some (.ref (16)), some (.int v52), some (.int v105), some (.int v97), some (.int v), some (.int v70)]) (by decide +kernel) (by decide) rfl (fun _ => rfl) (by omega) (by omega) ?_
        intro i107 hi107
        refine he_goto (t := 10) (by decide +kernel) ?_
        have q105 := xe_shl1 (x := v103) (by omega) (by omega) hc104 ev105
        refine ih (j + 1) M1 v52 v105 v97 _ (a + 1) _ (by omega) (by omega) (by omega) (by omega) (by omega) ?_ (by omega) hV1 hT1 (fun b hb => (wM1 b hb).trans (hF b hb)) ?_
        · have : (2 : Int) ^ (j + 1 - 1) = 2 * 2 ^ (j - 1) := by
            obtain ⟨t, rfl⟩ : ∃ t, j = t + 1 := ⟨j - 1, by omega⟩
            show (2 : Int) ^ (t + 1) = 2 * 2 ^ t
            rw [Int.pow_succ]
            omega
          omega
        · rw [show v105.toInt = 2 * (fi.toInt + xc fl n j) by omega, show v97.toInt = be.toInt + xc fl n j by omega]
          exact hR
    · rw [xs, if_neg hE] at hR
      refine he_cmpge_t (n := 28) (t := 113) (by decide +kernel) (by omega) ?_
      refine he_aload (n := 114) (i := 0) (by decide +kernel) rfl ?_
      refine he_iconst (n := 115) (c := 1) (by decide +kernel) (by decide) ?_
      intro c114 hc114
      refine hb_pfd (n := 118) (ci := 8) (j := 5) (t := 1) (ns := [1074, 28]) hV.1.1 (by decide +kernel) rfl rfl (by decide) (.inr ⟨rfl, he_01 (by omega)⟩) ?_
      generalize hM1 : hb_set M 9 5 c114 = M1
      have hm1 : mz_sh mz_GG M1 := by rw [← hM1]; exact hb_set_sh hV.1.1 rfl rfl (by omega) (by omega)
      have eM1 : ∀ b j, b ≠ 9 ∨ j ≠ 5 → hv M1 b j = hv M b j := by intro b j h; rw [← hM1]; exact hb_set_n h
      have sM1 : hv M1 9 5 = c114.toInt := by rw [← hM1]; exact hb_set_v hV.1.1 rfl (by decide)
      have wM1 : ∀ b, b ≠ 9 → M1 b = M b := by intro b h; rw [← hM1]; exact hb_set_c h
      refine he_iconst (n := 119) (c := 0) (by decide +kernel) (by decide) ?_
      intro c118 hc118
      refine he_reti (by decide +kernel) ?_
      exact K2 M1 _ a hR.symm (xV_br hV hM1 hm1 (by omega)) (xT_br hT eM1) (by omega) (fun b hb => (wM1 b hb).trans (hF b hb))
theorem xj_sign16 {bk : Int} {d z u pk f E ln : Nat} {M0 : Nat → mq_C} {o : List Int} {Q : (Option Value ⊕ Nat) → mq_S → Prop} {n : Nat} {fl : Nat → Int} {M : Nat → mq_C} {a : Nat} (hp : mz_GG.1 pk = some (64, ln, 1, [(0, 0, 255)])) (he : 8 * f + E ≤ 8 * ln) (hl : ln ≤ 240) (h9 : pk < 9 ∨ 24 ≤ pk) (hn : n ≤ 286) (hV : xV pk f E bk M0 M a o) (hT : xT M 16 n fl)
    (K1 : ∀ (M' : Nat → mq_C) (r : Int32) (a' : Nat), xsg fl n E (fun i => xB M0 pk (8 * f + i)) a = some (r.toInt, a') → xV pk f E bk M0 M' a' o → xT M' 16 n fl → (∀ b, b ≠ 9 → M' b = M b) → Q (.inl (some (.int r))) (M', z, u))
    (K2 : ∀ (M' : Nat → mq_C) (r : Int32) (a' : Nat), xsg fl n E (fun i => xB M0 pk (8 * f + i)) a = none → xV pk f E 1 M0 M' a' o → xT M' 16 n fl → r.toInt = 0 → (∀ b, b ≠ 9 → M' b = M b) → Q (.inl (some (.int r))) (M', z, u)) : mq_R mq_PP d 100 0 [some (.ref 9), some (.ref 16), none, none, none, none, none] [] (M, z, u) Q := by
  refine he_iconst (n := 1) (c := 0) (by decide +kernel) (by decide) ?_
  intro c0 hc0
  refine he_istore (n := 2) (i := 2) (by decide +kernel) rfl ?_
  refine he_iconst (n := 3) (c := 0) (by decide +kernel) (by decide) ?_
  intro c2 hc2
  refine he_istore (n := 4) (i := 3) (by decide +kernel) rfl ?_
  refine he_iconst (n := 5) (c := 0) (by decide +kernel) (by decide) ?_
  intro c4 hc4
  refine he_istore (n := 7) (i := 4) (by decide +kernel) rfl ?_
  refine he_iconst (n := 8) (c := 1) (by decide +kernel) (by decide) ?_
  intro c7 hc7
  refine he_istore (n := 10) (i := 5) (by decide +kernel) rfl ?_
  refine xj_sign_l16 hp he hl h9 hn K1 K2 15 1 M _ _ _ _ a none (by decide) (by decide) (by omega) (by omega) (by omega) (by show _ < (1 : Int); omega) (by rw [xq_1]; omega) hV hT (fun _ _ => rfl) ?_
  unfold xsg
  rw [show c0.toInt = 0 by omega, show c2.toInt = 0 by omega, show c4.toInt = 0 by omega]
theorem xj_sign_l20 {bk : Int} {d z u pk f E ln : Nat} {M0 Mb : Nat → mq_C} {o : List Int} {Q : (Option Value ⊕ Nat) → mq_S → Prop} {n : Nat} {fl : Nat → Int} (hp : mz_GG.1 pk = some (64, ln, 1, [(0, 0, 255)])) (he : 8 * f + E ≤ 8 * ln) (hl : ln ≤ 240) (h9 : pk < 9 ∨ 24 ≤ pk) (hn : n ≤ 30) {R : Option (Int × Nat)}
    (K1 : ∀ (M' : Nat → mq_C) (r : Int32) (a' : Nat), R = some (r.toInt, a') → xV pk f E bk M0 M' a' o → xT M' 20 n fl → (∀ b, b ≠ 9 → M' b = Mb b) → Q (.inl (some (.int r))) (M', z, u))
    (K2 : ∀ (M' : Nat → mq_C) (r : Int32) (a' : Nat), R = none → xV pk f E 1 M0 M' a' o → xT M' 20 n fl → r.toInt = 0 → (∀ b, b ≠ 9 → M' b = Mb b) → Q (.inl (some (.int r))) (M', z, u)) : ∀ (m j : Nat) (M : Nat → mq_C) (cd fi be b : Int32) (a : Nat) (o6 : Option Value), m + j = 16 → 1 ≤ j → b.toInt = (j : Int) → 0 ≤ fi.toInt → fi.toInt ≤ 2 * cd.toInt → cd.toInt < 2 ^ (j - 1) → be.toInt = xq fl n j → xV pk f E bk M0 M a o → xT M 20 n fl → (∀ b, b ≠ 9 → M b = Mb b) → xs fl n E (fun i => xB M0 pk (8 * f + i)) m j cd.toInt fi.toInt be.toInt a = R → mq_R mq_PP d 100 10 [some (.ref 9), some (.ref 20), some (.int cd), some (.int fi), some (.int be), some (.int b), o6] [] (M, z, u) Q := by
  intro m
  induction m with
  | zero =>
    intro j M cd fi be b a o6 e1 e2 e3 i1 i2 i3 i4 hV hT hF hR
    obtain rfl : R = none := hR.symm
    refine he_iload (n := 12) (i := 5) (by decide +kernel) rfl ?_
    refine he_iconst (n := 14) (c := 15) (by decide +kernel) (by decide) ?_
    intro c12 hc12
    refine he_cmpgt_t (n := 17) (t := 113) (by decide +kernel) (by omega) ?_
    refine he_aload (n := 114) (i := 0) (by decide +kernel) rfl ?_
    refine he_iconst (n := 115) (c := 1) (by decide +kernel) (by decide) ?_
    intro c114 hc114
    refine hb_pfd (n := 118) (ci := 8) (j := 5) (t := 1) (ns := [1074, 28]) hV.1.1 (by decide +kernel) rfl rfl (by decide) (.inr ⟨rfl, he_01 (by omega)⟩) ?_
    generalize hM1 : hb_set M 9 5 c114 = M1
    have hm1 : mz_sh mz_GG M1 := by rw [← hM1]; exact hb_set_sh hV.1.1 rfl rfl (by omega) (by omega)
    have eM1 : ∀ b j, b ≠ 9 ∨ j ≠ 5 → hv M1 b j = hv M b j := by intro b j h; rw [← hM1]; exact hb_set_n h
    have sM1 : hv M1 9 5 = c114.toInt := by rw [← hM1]; exact hb_set_v hV.1.1 rfl (by decide)
    have wM1 : ∀ b, b ≠ 9 → M1 b = M b := by intro b h; rw [← hM1]; exact hb_set_c h
    refine he_iconst (n := 119) (c := 0) (by decide +kernel) (by decide) ?_
    intro c118 hc118
    refine he_reti (by decide +kernel) ?_
    exact K2 M1 _ a rfl (xV_br hV hM1 hm1 (by omega)) (xT_br hT eM1) (by omega) (fun b hb => (wM1 b hb).trans (hF b hb))
  | succ m ih =>
    intro j M cd fi be b a o6 e1 e2 e3 i1 i2 i3 i4 hV hT hF hR
    have vA : hv M 9 3 = 8 * (f : Int) + (a : Int) := hV.2.1
    have vE : hv M 9 4 = 8 * (f : Int) + (E : Int) := hV.2.2.1
    have p15 : (2 : Int) ^ (j - 1) ≤ 2 ^ 14 := xe_pow (by omega)
    have p15' : (2 : Int) ^ 14 = 16384 := by decide
    refine he_iload (n := 12) (i := 5) (by decide +kernel) rfl ?_
    refine he_iconst (n := 14) (c := 15) (by decide +kernel) (by decide) ?_
    intro c12 hc12
    refine he_cmpgt_f (n := 17) (t := 113) (by decide +kernel) (by omega) ?_
    refine he_aload (n := 18) (i := 0) (by decide +kernel) rfl ?_
    refine hb_gfd (n := 21) (ci := 8) (j := 3) (ns := [1072, 22]) hV.1.1 (by decide +kernel) rfl rfl (by decide) rfl ?_
    intro v18 hv18 lv18 uv18
    refine he_aload (n := 22) (i := 0) (by decide +kernel) rfl ?_
    refine hb_gfd (n := 25) (ci := 8) (j := 4) (ns := [1073, 25]) hV.1.1 (by decide +kernel) rfl rfl (by decide) rfl ?_
    intro v22 hv22 lv22 uv22
    by_cases hE : a < E
    · skip
      refine he_cmpge_f (n := 28) (t := 113) (by decide +kernel) (by omega) ?_
      refine he_iload (n := 29) (i := 2) (by decide +kernel) rfl ?_
      refine he_iconst (n := 30) (c := 1) (by decide +kernel) (by decide) ?_
      intro c29 hc29
      refine he_ex2 (o := 15) (n := 31) (by decide +kernel) rfl ?_
      intro v30 hv30
      have ev30 : v30 = cd <<< (c29 &&& 31) := hv30
      have bv30 := mz_i32 v30
      refine he_aload (n := 32) (i := 0) (by decide +kernel) rfl ?_
      refine xe_getr (n := 35) (ci := 8) (j := 2) (ns := [1071, 19]) (b := pk) (by decide +kernel) ((hb_kd (a := 9) hV.1.1 rfl).trans rfl) (hV.1.2.2) ?_
      refine he_aload (n := 36) (i := 0) (by decide +kernel) rfl ?_
      refine hb_gfd (n := 39) (ci := 8) (j := 3) (ns := [1072, 22]) hV.1.1 (by decide +kernel) rfl rfl (by decide) rfl ?_
      intro v36 hv36 lv36 uv36
      refine he_iconst (n := 40) (c := 3) (by decide +kernel) (by decide) ?_
      intro c39 hc39
      refine he_ex2 (o := 16) (n := 41) (by decide +kernel) rfl ?_
      intro v40 hv40
      have ev40 : v40 = v36 >>> (c39 &&& 31) := hv40
      have bv40 := mz_i32 v40
      have q36 : v36.toInt = 8 * (f : Int) + (a : Int) := by rw [← hv36]; exact vA
      have q40 : v40.toInt = v36.toInt / 8 := xe_shr3 (by omega) hc39 ev40
      refine hb_ld (n := 42) (kind := 64) hV.1.1 (by decide +kernel) hp rfl (.inl rfl) (by omega) (show _ < (ln : Int) by omega) hb_at1 ?_
      intro v41 hv41 lv41 uv41
      refine he_aload (n := 43) (i := 0) (by decide +kernel) rfl ?_
      refine hb_gfd (n := 46) (ci := 8) (j := 3) (ns := [1072, 22]) hV.1.1 (by decide +kernel) rfl rfl (by decide) rfl ?_
      intro v43 hv43 lv43 uv43
      refine he_iconst (n := 48) (c := 7) (by decide +kernel) (by decide) ?_
      intro c46 hc46
      refine he_ex2 (o := 12) (n := 49) (by decide +kernel) rfl ?_
      intro v48 hv48
      have ev48 : v48 = v43 &&& c46 := hv48
      have bv48 := mz_i32 v48
      refine he_ex2 (o := 16) (n := 50) (by decide +kernel) rfl ?_
      intro v49 hv49
      have ev49 : v49 = v41 >>> (v48 &&& 31) := hv49
      have bv49 := mz_i32 v49
      refine he_iconst (n := 51) (c := 1) (by decide +kernel) (by decide) ?_
      intro c50 hc50
      refine he_ex2 (o := 12) (n := 52) (by decide +kernel) rfl ?_
      intro v51 hv51
      have ev51 : v51 = v49 &&& c50 := hv51
      have bv51 := mz_i32 v51
      refine he_ex2 (o := 13) (n := 53) (by decide +kernel) rfl ?_
      intro v52 hv52
      have ev52 : v52 = v30 ||| v51 := hv52
      have bv52 := mz_i32 v52
      refine he_istore (n := 54) (i := 2) (by decide +kernel) rfl ?_
      refine he_aload (n := 55) (i := 0) (by decide +kernel) rfl ?_
      refine he_dup_r (n := 56) (by decide +kernel) ?_
      refine hb_gfd (n := 59) (ci := 8) (j := 3) (ns := [1072, 22]) hV.1.1 (by decide +kernel) rfl rfl (by decide) rfl ?_
      intro v56 hv56 lv56 uv56
      refine he_iconst (n := 60) (c := 1) (by decide +kernel) (by decide) ?_
      intro c59 hc59
      refine he_iadd (n := 61) (by decide +kernel) (by omega) (by omega) ?_
      intro v60 hv60
      have q43 : v43.toInt = 8 * (f : Int) + (a : Int) := by rw [← hv43]; exact vA
      have q56 : v56.toInt = 8 * (f : Int) + (a : Int) := by rw [← hv56]; exact vA
      have q48 : v48.toInt = v43.toInt % 8 := xe_and7 (by omega) hc46 ev48
      have q51 : v51.toInt = xB M0 pk (8 * f + a) := by
        rw [ev51, show c50 = 1 by rw [he_eqi]; exact hc50, ev49, xe_bit lv41 uv41 (by omega) (by omega), ← hv41]
        unfold xB
        rw [hb_vc (hV.1.2.1 pk h9), show v40.toInt.toNat = (8 * f + a) / 8 by omega, show v48.toInt.toNat = (8 * f + a) % 8 by omega]
      have q30 := xe_shl1 (x := cd) (by omega) (by omega) hc29 ev30
      have b51 : v51.toInt = 0 ∨ v51.toInt = 1 := by rw [q51]; exact xB_01 _
      have q52 := xe_or1 (x := v30) (m := cd.toInt) q30 (by omega) (by omega) b51 ev52
      refine hb_pfd (n := 64) (ci := 8) (j := 3) (t := 0) (ns := [1072, 22]) hV.1.1 (by decide +kernel) rfl rfl (by decide) (.inl rfl) ?_
      generalize hM1 : hb_set M 9 3 v60 = M1
      have hm1 : mz_sh mz_GG M1 := by rw [← hM1]; exact hb_set_sh hV.1.1 rfl rfl (by omega) (by omega)
      have eM1 : ∀ b j, b ≠ 9 ∨ j ≠ 3 → hv M1 b j = hv M b j := by intro b j h; rw [← hM1]; exact hb_set_n h
      have sM1 : hv M1 9 3 = v60.toInt := by rw [← hM1]; exact hb_set_v hV.1.1 rfl (by decide)
      have wM1 : ∀ b, b ≠ 9 → M1 b = M b := by intro b h; rw [← hM1]; exact hb_set_c h
      have hV1 : xV pk f E bk M0 M1 (a + 1) o := xV_at hV hM1 hm1 (by omega) (by omega)
      have hT1 : xT M1 20 n fl := by
        refine ⟨fun b h1 h2 => ?_, fun i h1 h2 => ?_⟩
        · rw [eM1 _ _ (.inl (by decide))]; exact hT.1 b h1 h2
        · rw [eM1 _ _ (.inl (by decide))]; exact hT.2 i h1 h2
      refine he_aload (n := 65) (i := 1) (by decide +kernel) rfl ?_
      refine he_getr (n := 68) (ci := 3) (j := 0) (ns := [1043, 103]) (b := 21) hm1 (by decide +kernel) rfl rfl (by decide +kernel) ?_
      refine he_iload (n := 70) (i := 5) (by decide +kernel) rfl ?_
      refine hb_ld (n := 71) (kind := 64) hm1 (by decide +kernel) rfl rfl (.inl rfl) (by omega) (show _ < (16 : Int) by omega) hb_at1 ?_
      intro v70 hv70 lv70 uv70
      refine he_istore (n := 73) (i := 6) (by decide +kernel) rfl ?_
      refine he_iload (n := 74) (i := 2) (by decide +kernel) rfl ?_
      refine he_iload (n := 75) (i := 3) (by decide +kernel) rfl ?_
      refine he_isub (n := 76) (by decide +kernel) (by omega) (by omega) ?_
      intro v75 hv75
      refine he_iload (n := 78) (i := 6) (by decide +kernel) rfl ?_
      have q70 : v70.toInt = xc fl n j := by rw [← hv70, show b.toInt.toNat = j by omega]; exact hT1.1 j e2 (by omega)
      have hc0 := xc_0 fl n j
      have hql := xq_le (f := fl) (b := j + 1) n
      have hqs := xq_s (f := fl) (n := n) e2
      have hq0 := xq_0 (f := fl) (n := n) (b := j)
      have eR : xs fl n E (fun i => xB M0 pk (8 * f + i)) (m + 1) j cd.toInt fi.toInt be.toInt a = (if v52.toInt - fi.toInt < xc fl n j then some (xg fl n (be.toInt + (v52.toInt - fi.toInt)), a + 1) else xs fl n E (fun i => xB M0 pk (8 * f + i)) m (j + 1) v52.toInt (2 * (fi.toInt + xc fl n j)) (be.toInt + xc fl n j) (a + 1)) := by
        rw [xs, if_pos hE, q52, q51]
      rw [eR] at hR
      by_cases hlt : v75.toInt < v70.toInt
      · rw [if_pos (by omega)] at hR
        refine he_cmpge_f (n := 81) (t := 93) (by decide +kernel) (by omega) ?_
        refine he_aload (n := 82) (i := 1) (by decide +kernel) rfl ?_
        refine he_getr (n := 85) (ci := 3) (j := 1) (ns := [1045, 106]) (b := 23) hm1 (by decide +kernel) rfl rfl (by decide +kernel) ?_
        refine he_iload (n := 87) (i := 4) (by decide +kernel) rfl ?_
        refine he_iload (n := 88) (i := 2) (by decide +kernel) rfl ?_
        refine he_iadd (n := 89) (by decide +kernel) (by omega) (by omega) ?_
        intro v88 hv88
        refine he_iload (n := 90) (i := 3) (by decide +kernel) rfl ?_
        refine he_isub (n := 91) (by decide +kernel) (by omega) (by omega) ?_
        intro v90 hv90
        refine hb_ld (n := 92) (kind := 64) hm1 (by decide +kernel) rfl rfl (.inl rfl) (by omega) (show _ < (30 : Int) by omega) hb_at1 ?_
        intro v91 hv91 lv91 uv91
        refine he_reti (by decide +kernel) ?_
        have e92 : v91.toInt = xg fl n (be.toInt + (v52.toInt - fi.toInt)) := by
          have := xg_eq (f := fl) (n := n) (S := fun k => hv M1 23 k.toNat) hT1.2 e2 (k := v52.toInt - fi.toInt) (by omega) (by omega)
          rw [i4, ← this, ← hv91, show v90.toInt.toNat = (xq fl n j + (v52.toInt - fi.toInt)).toNat by omega]
        exact K1 M1 _ (a + 1) (by rw [← hR, e92]) hV1 hT1 (fun b hb => (wM1 b hb).trans (hF b hb))
      · rw [if_neg (by omega)] at hR
        refine he_cmpge_t (n := 81) (t := 93) (by decide +kernel) (by omega) ?_
        refine he_iload (n := 95) (i := 4) (by decide +kernel) rfl ?_
        refine he_iload (n := 97) (i := 6) (by decide +kernel) rfl ?_
        refine he_iadd (n := 98) (by decide +kernel) (by omega) (by omega) ?_
        intro v97 hv97
        refine he_istore (n := 100) (i := 4) (by decide +kernel) rfl ?_
        refine he_iload (n := 101) (i := 3) (by decide +kernel) rfl ?_
        refine he_iload (n := 103) (i := 6) (by decide +kernel) rfl ?_
        refine he_iadd (n := 104) (by decide +kernel) (by omega) (by omega) ?_
        intro v103 hv103
        refine he_iconst (n := 105) (c := 1) (by decide +kernel) (by decide) ?_
        intro c104 hc104
        refine he_ex2 (o := 15) (n := 106) (by decide +kernel) rfl ?_
        intro v105 hv105
        have ev105 : v105 = v103 <<< (c104 &&& 31) := hv105
        have bv105 := mz_i32 v105
        refine he_istore (n := 107) (i := 3) (by decide +kernel) rfl ?_
        refine he_iinc (n := 110) (i := 5) (c := 1) (L' := fun v => [some (.ref (9)), some (.ref (20)), some (.int v52), some (.int v105), some (.int v97), some (.int v), some (.int v70)]) (by decide +kernel) (by decide) rfl (fun _ => rfl) (by omega) (by omega) ?_
        intro i107 hi107
        refine he_goto (t := 10) (by decide +kernel) ?_
        have q105 := xe_shl1 (x := v103) (by omega) (by omega) hc104 ev105
        refine ih (j + 1) M1 v52 v105 v97 _ (a + 1) _ (by omega) (by omega) (by omega) (by omega) (by omega) ?_ (by omega) hV1 hT1 (fun b hb => (wM1 b hb).trans (hF b hb)) ?_
        · have : (2 : Int) ^ (j + 1 - 1) = 2 * 2 ^ (j - 1) := by
            obtain ⟨t, rfl⟩ : ∃ t, j = t + 1 := ⟨j - 1, by omega⟩
            show (2 : Int) ^ (t + 1) = 2 * 2 ^ t
            rw [Int.pow_succ]
            omega
          omega
        · rw [show v105.toInt = 2 * (fi.toInt + xc fl n j) by omega, show v97.toInt = be.toInt + xc fl n j by omega]
          exact hR
    · rw [xs, if_neg hE] at hR
      refine he_cmpge_t (n := 28) (t := 113) (by decide +kernel) (by omega) ?_
      refine he_aload (n := 114) (i := 0) (by decide +kernel) rfl ?_
      refine he_iconst (n := 115) (c := 1) (by decide +kernel) (by decide) ?_
      intro c114 hc114
      refine hb_pfd (n := 118) (ci := 8) (j := 5) (t := 1) (ns := [1074, 28]) hV.1.1 (by decide +kernel) rfl rfl (by decide) (.inr ⟨rfl, he_01 (by omega)⟩) ?_
      generalize hM1 : hb_set M 9 5 c114 = M1
      have hm1 : mz_sh mz_GG M1 := by rw [← hM1]; exact hb_set_sh hV.1.1 rfl rfl (by omega) (by omega)
      have eM1 : ∀ b j, b ≠ 9 ∨ j ≠ 5 → hv M1 b j = hv M b j := by intro b j h; rw [← hM1]; exact hb_set_n h
      have sM1 : hv M1 9 5 = c114.toInt := by rw [← hM1]; exact hb_set_v hV.1.1 rfl (by decide)
      have wM1 : ∀ b, b ≠ 9 → M1 b = M b := by intro b h; rw [← hM1]; exact hb_set_c h
      refine he_iconst (n := 119) (c := 0) (by decide +kernel) (by decide) ?_
      intro c118 hc118
      refine he_reti (by decide +kernel) ?_
      exact K2 M1 _ a hR.symm (xV_br hV hM1 hm1 (by omega)) (xT_br hT eM1) (by omega) (fun b hb => (wM1 b hb).trans (hF b hb))
theorem xj_sign20 {bk : Int} {d z u pk f E ln : Nat} {M0 : Nat → mq_C} {o : List Int} {Q : (Option Value ⊕ Nat) → mq_S → Prop} {n : Nat} {fl : Nat → Int} {M : Nat → mq_C} {a : Nat} (hp : mz_GG.1 pk = some (64, ln, 1, [(0, 0, 255)])) (he : 8 * f + E ≤ 8 * ln) (hl : ln ≤ 240) (h9 : pk < 9 ∨ 24 ≤ pk) (hn : n ≤ 30) (hV : xV pk f E bk M0 M a o) (hT : xT M 20 n fl)
    (K1 : ∀ (M' : Nat → mq_C) (r : Int32) (a' : Nat), xsg fl n E (fun i => xB M0 pk (8 * f + i)) a = some (r.toInt, a') → xV pk f E bk M0 M' a' o → xT M' 20 n fl → (∀ b, b ≠ 9 → M' b = M b) → Q (.inl (some (.int r))) (M', z, u))
    (K2 : ∀ (M' : Nat → mq_C) (r : Int32) (a' : Nat), xsg fl n E (fun i => xB M0 pk (8 * f + i)) a = none → xV pk f E 1 M0 M' a' o → xT M' 20 n fl → r.toInt = 0 → (∀ b, b ≠ 9 → M' b = M b) → Q (.inl (some (.int r))) (M', z, u)) : mq_R mq_PP d 100 0 [some (.ref 9), some (.ref 20), none, none, none, none, none] [] (M, z, u) Q := by
  refine he_iconst (n := 1) (c := 0) (by decide +kernel) (by decide) ?_
  intro c0 hc0
  refine he_istore (n := 2) (i := 2) (by decide +kernel) rfl ?_
  refine he_iconst (n := 3) (c := 0) (by decide +kernel) (by decide) ?_
  intro c2 hc2
  refine he_istore (n := 4) (i := 3) (by decide +kernel) rfl ?_
  refine he_iconst (n := 5) (c := 0) (by decide +kernel) (by decide) ?_
  intro c4 hc4
  refine he_istore (n := 7) (i := 4) (by decide +kernel) rfl ?_
  refine he_iconst (n := 8) (c := 1) (by decide +kernel) (by decide) ?_
  intro c7 hc7
  refine he_istore (n := 10) (i := 5) (by decide +kernel) rfl ?_
  refine xj_sign_l20 hp he hl h9 hn K1 K2 15 1 M _ _ _ _ a none (by decide) (by decide) (by omega) (by omega) (by omega) (by show _ < (1 : Int); omega) (by rw [xq_1]; omega) hV hT (fun _ _ => rfl) ?_
  unfold xsg
  rw [show c0.toInt = 0 by omega, show c2.toInt = 0 by omega, show c4.toInt = 0 by omega]
theorem xj_sign_l24 {bk : Int} {d z u pk f E ln : Nat} {M0 Mb : Nat → mq_C} {o : List Int} {Q : (Option Value ⊕ Nat) → mq_S → Prop} {n : Nat} {fl : Nat → Int} (hp : mz_GG.1 pk = some (64, ln, 1, [(0, 0, 255)])) (he : 8 * f + E ≤ 8 * ln) (hl : ln ≤ 240) (h9 : pk < 9 ∨ 24 ≤ pk) (hn : n ≤ 288) {R : Option (Int × Nat)}
    (K1 : ∀ (M' : Nat → mq_C) (r : Int32) (a' : Nat), R = some (r.toInt, a') → xV pk f E bk M0 M' a' o → xT M' 24 n fl → (∀ b, b ≠ 9 → M' b = Mb b) → Q (.inl (some (.int r))) (M', z, u))
    (K2 : ∀ (M' : Nat → mq_C) (r : Int32) (a' : Nat), R = none → xV pk f E 1 M0 M' a' o → xT M' 24 n fl → r.toInt = 0 → (∀ b, b ≠ 9 → M' b = Mb b) → Q (.inl (some (.int r))) (M', z, u)) : ∀ (m j : Nat) (M : Nat → mq_C) (cd fi be b : Int32) (a : Nat) (o6 : Option Value), m + j = 16 → 1 ≤ j → b.toInt = (j : Int) → 0 ≤ fi.toInt → fi.toInt ≤ 2 * cd.toInt → cd.toInt < 2 ^ (j - 1) → be.toInt = xq fl n j → xV pk f E bk M0 M a o → xT M 24 n fl → (∀ b, b ≠ 9 → M b = Mb b) → xs fl n E (fun i => xB M0 pk (8 * f + i)) m j cd.toInt fi.toInt be.toInt a = R → mq_R mq_PP d 100 10 [some (.ref 9), some (.ref 24), some (.int cd), some (.int fi), some (.int be), some (.int b), o6] [] (M, z, u) Q := by
  intro m
  induction m with
  | zero =>
    intro j M cd fi be b a o6 e1 e2 e3 i1 i2 i3 i4 hV hT hF hR
    obtain rfl : R = none := hR.symm
    refine he_iload (n := 12) (i := 5) (by decide +kernel) rfl ?_
    refine he_iconst (n := 14) (c := 15) (by decide +kernel) (by decide) ?_
    intro c12 hc12
    refine he_cmpgt_t (n := 17) (t := 113) (by decide +kernel) (by omega) ?_
    refine he_aload (n := 114) (i := 0) (by decide +kernel) rfl ?_
    refine he_iconst (n := 115) (c := 1) (by decide +kernel) (by decide) ?_
    intro c114 hc114
    refine hb_pfd (n := 118) (ci := 8) (j := 5) (t := 1) (ns := [1074, 28]) hV.1.1 (by decide +kernel) rfl rfl (by decide) (.inr ⟨rfl, he_01 (by omega)⟩) ?_
    generalize hM1 : hb_set M 9 5 c114 = M1
    have hm1 : mz_sh mz_GG M1 := by rw [← hM1]; exact hb_set_sh hV.1.1 rfl rfl (by omega) (by omega)
    have eM1 : ∀ b j, b ≠ 9 ∨ j ≠ 5 → hv M1 b j = hv M b j := by intro b j h; rw [← hM1]; exact hb_set_n h
    have sM1 : hv M1 9 5 = c114.toInt := by rw [← hM1]; exact hb_set_v hV.1.1 rfl (by decide)
    have wM1 : ∀ b, b ≠ 9 → M1 b = M b := by intro b h; rw [← hM1]; exact hb_set_c h
    refine he_iconst (n := 119) (c := 0) (by decide +kernel) (by decide) ?_
    intro c118 hc118
    refine he_reti (by decide +kernel) ?_
    exact K2 M1 _ a rfl (xV_br hV hM1 hm1 (by omega)) (xT_br hT eM1) (by omega) (fun b hb => (wM1 b hb).trans (hF b hb))
  | succ m ih =>
    intro j M cd fi be b a o6 e1 e2 e3 i1 i2 i3 i4 hV hT hF hR
    have vA : hv M 9 3 = 8 * (f : Int) + (a : Int) := hV.2.1
    have vE : hv M 9 4 = 8 * (f : Int) + (E : Int) := hV.2.2.1
    have p15 : (2 : Int) ^ (j - 1) ≤ 2 ^ 14 := xe_pow (by omega)
    have p15' : (2 : Int) ^ 14 = 16384 := by decide
    refine he_iload (n := 12) (i := 5) (by decide +kernel) rfl ?_
    refine he_iconst (n := 14) (c := 15) (by decide +kernel) (by decide) ?_
    intro c12 hc12
    refine he_cmpgt_f (n := 17) (t := 113) (by decide +kernel) (by omega) ?_
    refine he_aload (n := 18) (i := 0) (by decide +kernel) rfl ?_
    refine hb_gfd (n := 21) (ci := 8) (j := 3) (ns := [1072, 22]) hV.1.1 (by decide +kernel) rfl rfl (by decide) rfl ?_
    intro v18 hv18 lv18 uv18
    refine he_aload (n := 22) (i := 0) (by decide +kernel) rfl ?_
    refine hb_gfd (n := 25) (ci := 8) (j := 4) (ns := [1073, 25]) hV.1.1 (by decide +kernel) rfl rfl (by decide) rfl ?_
    intro v22 hv22 lv22 uv22
    by_cases hE : a < E
    · skip
      refine he_cmpge_f (n := 28) (t := 113) (by decide +kernel) (by omega) ?_
      refine he_iload (n := 29) (i := 2) (by decide +kernel) rfl ?_
      refine he_iconst (n := 30) (c := 1) (by decide +kernel) (by decide) ?_
      intro c29 hc29
      refine he_ex2 (o := 15) (n := 31) (by decide +kernel) rfl ?_
      intro v30 hv30
      have ev30 : v30 = cd <<< (c29 &&& 31) := hv30
      have bv30 := mz_i32 v30
      refine he_aload (n := 32) (i := 0) (by decide +kernel) rfl ?_
      refine xe_getr (n := 35) (ci := 8) (j := 2) (ns := [1071, 19]) (b := pk) (by decide +kernel) ((hb_kd (a := 9) hV.1.1 rfl).trans rfl) (hV.1.2.2) ?_
      refine he_aload (n := 36) (i := 0) (by decide +kernel) rfl ?_
      refine hb_gfd (n := 39) (ci := 8) (j := 3) (ns := [1072, 22]) hV.1.1 (by decide +kernel) rfl rfl (by decide) rfl ?_
      intro v36 hv36 lv36 uv36
      refine he_iconst (n := 40) (c := 3) (by decide +kernel) (by decide) ?_
      intro c39 hc39
      refine he_ex2 (o := 16) (n := 41) (by decide +kernel) rfl ?_
      intro v40 hv40
      have ev40 : v40 = v36 >>> (c39 &&& 31) := hv40
      have bv40 := mz_i32 v40
      have q36 : v36.toInt = 8 * (f : Int) + (a : Int) := by rw [← hv36]; exact vA
      have q40 : v40.toInt = v36.toInt / 8 := xe_shr3 (by omega) hc39 ev40
      refine hb_ld (n := 42) (kind := 64) hV.1.1 (by decide +kernel) hp rfl (.inl rfl) (by omega) (show _ < (ln : Int) by omega) hb_at1 ?_
      intro v41 hv41 lv41 uv41
      refine he_aload (n := 43) (i := 0) (by decide +kernel) rfl ?_
      refine hb_gfd (n := 46) (ci := 8) (j := 3) (ns := [1072, 22]) hV.1.1 (by decide +kernel) rfl rfl (by decide) rfl ?_
      intro v43 hv43 lv43 uv43
      refine he_iconst (n := 48) (c := 7) (by decide +kernel) (by decide) ?_
      intro c46 hc46
      refine he_ex2 (o := 12) (n := 49) (by decide +kernel) rfl ?_
      intro v48 hv48
      have ev48 : v48 = v43 &&& c46 := hv48
      have bv48 := mz_i32 v48
      refine he_ex2 (o := 16) (n := 50) (by decide +kernel) rfl ?_
      intro v49 hv49
      have ev49 : v49 = v41 >>> (v48 &&& 31) := hv49
      have bv49 := mz_i32 v49
      refine he_iconst (n := 51) (c := 1) (by decide +kernel) (by decide) ?_
      intro c50 hc50
      refine he_ex2 (o := 12) (n := 52) (by decide +kernel) rfl ?_
      intro v51 hv51
      have ev51 : v51 = v49 &&& c50 := hv51
      have bv51 := mz_i32 v51
      refine he_ex2 (o := 13) (n := 53) (by decide +kernel) rfl ?_
      intro v52 hv52
      have ev52 : v52 = v30 ||| v51 := hv52
      have bv52 := mz_i32 v52
      refine he_istore (n := 54) (i := 2) (by decide +kernel) rfl ?_
      refine he_aload (n := 55) (i := 0) (by decide +kernel) rfl ?_
      refine he_dup_r (n := 56) (by decide +kernel) ?_
      refine hb_gfd (n := 59) (ci := 8) (j := 3) (ns := [1072, 22]) hV.1.1 (by decide +kernel) rfl rfl (by decide) rfl ?_
      intro v56 hv56 lv56 uv56
      refine he_iconst (n := 60) (c := 1) (by decide +kernel) (by decide) ?_
      intro c59 hc59
      refine he_iadd (n := 61) (by decide +kernel) (by omega) (by omega) ?_
      intro v60 hv60
      have q43 : v43.toInt = 8 * (f : Int) + (a : Int) := by rw [← hv43]; exact vA
      have q56 : v56.toInt = 8 * (f : Int) + (a : Int) := by rw [← hv56]; exact vA
      have q48 : v48.toInt = v43.toInt % 8 := xe_and7 (by omega) hc46 ev48
      have q51 : v51.toInt = xB M0 pk (8 * f + a) := by
        rw [ev51, show c50 = 1 by rw [he_eqi]; exact hc50, ev49, xe_bit lv41 uv41 (by omega) (by omega), ← hv41]
        unfold xB
        rw [hb_vc (hV.1.2.1 pk h9), show v40.toInt.toNat = (8 * f + a) / 8 by omega, show v48.toInt.toNat = (8 * f + a) % 8 by omega]
      have q30 := xe_shl1 (x := cd) (by omega) (by omega) hc29 ev30
      have b51 : v51.toInt = 0 ∨ v51.toInt = 1 := by rw [q51]; exact xB_01 _
      have q52 := xe_or1 (x := v30) (m := cd.toInt) q30 (by omega) (by omega) b51 ev52
      refine hb_pfd (n := 64) (ci := 8) (j := 3) (t := 0) (ns := [1072, 22]) hV.1.1 (by decide +kernel) rfl rfl (by decide) (.inl rfl) ?_
      generalize hM1 : hb_set M 9 3 v60 = M1
      have hm1 : mz_sh mz_GG M1 := by rw [← hM1]; exact hb_set_sh hV.1.1 rfl rfl (by omega) (by omega)
      have eM1 : ∀ b j, b ≠ 9 ∨ j ≠ 3 → hv M1 b j = hv M b j := by intro b j h; rw [← hM1]; exact hb_set_n h
      have sM1 : hv M1 9 3 = v60.toInt := by rw [← hM1]; exact hb_set_v hV.1.1 rfl (by decide)
      have wM1 : ∀ b, b ≠ 9 → M1 b = M b := by intro b h; rw [← hM1]; exact hb_set_c h
      have hV1 : xV pk f E bk M0 M1 (a + 1) o := xV_at hV hM1 hm1 (by omega) (by omega)
      have hT1 : xT M1 24 n fl := by
        refine ⟨fun b h1 h2 => ?_, fun i h1 h2 => ?_⟩
        · rw [eM1 _ _ (.inl (by decide))]; exact hT.1 b h1 h2
        · rw [eM1 _ _ (.inl (by decide))]; exact hT.2 i h1 h2
      refine he_aload (n := 65) (i := 1) (by decide +kernel) rfl ?_
      refine he_getr (n := 68) (ci := 3) (j := 0) (ns := [1043, 103]) (b := 25) hm1 (by decide +kernel) rfl rfl (by decide +kernel) ?_
      refine he_iload (n := 70) (i := 5) (by decide +kernel) rfl ?_
      refine hb_ld (n := 71) (kind := 64) hm1 (by decide +kernel) rfl rfl (.inl rfl) (by omega) (show _ < (16 : Int) by omega) hb_at1 ?_
      intro v70 hv70 lv70 uv70
      refine he_istore (n := 73) (i := 6) (by decide +kernel) rfl ?_
      refine he_iload (n := 74) (i := 2) (by decide +kernel) rfl ?_
      refine he_iload (n := 75) (i := 3) (by decide +kernel) rfl ?_
      refine he_isub (n := 76) (by decide +kernel) (by omega) (by omega) ?_
      intro v75 hv75
      refine he_iload (n := 78) (i := 6) (by decide +kernel) rfl ?_
      have q70 : v70.toInt = xc fl n j := by rw [← hv70, show b.toInt.toNat = j by omega]; exact hT1.1 j e2 (by omega)
      have hc0 := xc_0 fl n j
      have hql := xq_le (f := fl) (b := j + 1) n
      have hqs := xq_s (f := fl) (n := n) e2
      have hq0 := xq_0 (f := fl) (n := n) (b := j)
      have eR : xs fl n E (fun i => xB M0 pk (8 * f + i)) (m + 1) j cd.toInt fi.toInt be.toInt a = (if v52.toInt - fi.toInt < xc fl n j then some (xg fl n (be.toInt + (v52.toInt - fi.toInt)), a + 1) else xs fl n E (fun i => xB M0 pk (8 * f + i)) m (j + 1) v52.toInt (2 * (fi.toInt + xc fl n j)) (be.toInt + xc fl n j) (a + 1)) := by
        rw [xs, if_pos hE, q52, q51]
      rw [eR] at hR
      by_cases hlt : v75.toInt < v70.toInt
      · rw [if_pos (by omega)] at hR
        refine he_cmpge_f (n := 81) (t := 93) (by decide +kernel) (by omega) ?_
        refine he_aload (n := 82) (i := 1) (by decide +kernel) rfl ?_
        refine he_getr (n := 85) (ci := 3) (j := 1) (ns := [1045, 106]) (b := 27) hm1 (by decide +kernel) rfl rfl (by decide +kernel) ?_
        refine he_iload (n := 87) (i := 4) (by decide +kernel) rfl ?_
        refine he_iload (n := 88) (i := 2) (by decide +kernel) rfl ?_
        refine he_iadd (n := 89) (by decide +kernel) (by omega) (by omega) ?_
        intro v88 hv88
        refine he_iload (n := 90) (i := 3) (by decide +kernel) rfl ?_
        refine he_isub (n := 91) (by decide +kernel) (by omega) (by omega) ?_
        intro v90 hv90
        refine hb_ld (n := 92) (kind := 64) hm1 (by decide +kernel) rfl rfl (.inl rfl) (by omega) (show _ < (288 : Int) by omega) hb_at1 ?_
        intro v91 hv91 lv91 uv91
        refine he_reti (by decide +kernel) ?_
        have e92 : v91.toInt = xg fl n (be.toInt + (v52.toInt - fi.toInt)) := by
          have := xg_eq (f := fl) (n := n) (S := fun k => hv M1 27 k.toNat) hT1.2 e2 (k := v52.toInt - fi.toInt) (by omega) (by omega)
          rw [i4, ← this, ← hv91, show v90.toInt.toNat = (xq fl n j + (v52.toInt - fi.toInt)).toNat by omega]
        exact K1 M1 _ (a + 1) (by rw [← hR, e92]) hV1 hT1 (fun b hb => (wM1 b hb).trans (hF b hb))
      · rw [if_neg (by omega)] at hR
        refine he_cmpge_t (n := 81) (t := 93) (by decide +kernel) (by omega) ?_
        refine he_iload (n := 95) (i := 4) (by decide +kernel) rfl ?_
        refine he_iload (n := 97) (i := 6) (by decide +kernel) rfl ?_
        refine he_iadd (n := 98) (by decide +kernel) (by omega) (by omega) ?_
        intro v97 hv97
        refine he_istore (n := 100) (i := 4) (by decide +kernel) rfl ?_
        refine he_iload (n := 101) (i := 3) (by decide +kernel) rfl ?_
        refine he_iload (n := 103) (i := 6) (by decide +kernel) rfl ?_
        refine he_iadd (n := 104) (by decide +kernel) (by omega) (by omega) ?_
        intro v103 hv103
        refine he_iconst (n := 105) (c := 1) (by decide +kernel) (by decide) ?_
        intro c104 hc104
        refine he_ex2 (o := 15) (n := 106) (by decide +kernel) rfl ?_
        intro v105 hv105
        have ev105 : v105 = v103 <<< (c104 &&& 31) := hv105
        have bv105 := mz_i32 v105
        refine he_istore (n := 107) (i := 3) (by decide +kernel) rfl ?_
        refine he_iinc (n := 110) (i := 5) (c := 1) (L' := fun v => [some (.ref (9)), some (.ref (24)), some (.int v52), some (.int v105), some (.int v97), some (.int v), some (.int v70)]) (by decide +kernel) (by decide) rfl (fun _ => rfl) (by omega) (by omega) ?_
        intro i107 hi107
        refine he_goto (t := 10) (by decide +kernel) ?_
        have q105 := xe_shl1 (x := v103) (by omega) (by omega) hc104 ev105
        refine ih (j + 1) M1 v52 v105 v97 _ (a + 1) _ (by omega) (by omega) (by omega) (by omega) (by omega) ?_ (by omega) hV1 hT1 (fun b hb => (wM1 b hb).trans (hF b hb)) ?_
        · have : (2 : Int) ^ (j + 1 - 1) = 2 * 2 ^ (j - 1) := by
            obtain ⟨t, rfl⟩ : ∃ t, j = t + 1 := ⟨j - 1, by omega⟩
            show (2 : Int) ^ (t + 1) = 2 * 2 ^ t
            rw [Int.pow_succ]
            omega
          omega
        · rw [show v105.toInt = 2 * (fi.toInt + xc fl n j) by omega, show v97.toInt = be.toInt + xc fl n j by omega]
          exact hR
    · rw [xs, if_neg hE] at hR
      refine he_cmpge_t (n := 28) (t := 113) (by decide +kernel) (by omega) ?_
      refine he_aload (n := 114) (i := 0) (by decide +kernel) rfl ?_
      refine he_iconst (n := 115) (c := 1) (by decide +kernel) (by decide) ?_
      intro c114 hc114
      refine hb_pfd (n := 118) (ci := 8) (j := 5) (t := 1) (ns := [1074, 28]) hV.1.1 (by decide +kernel) rfl rfl (by decide) (.inr ⟨rfl, he_01 (by omega)⟩) ?_
      generalize hM1 : hb_set M 9 5 c114 = M1
      have hm1 : mz_sh mz_GG M1 := by rw [← hM1]; exact hb_set_sh hV.1.1 rfl rfl (by omega) (by omega)
      have eM1 : ∀ b j, b ≠ 9 ∨ j ≠ 5 → hv M1 b j = hv M b j := by intro b j h; rw [← hM1]; exact hb_set_n h
      have sM1 : hv M1 9 5 = c114.toInt := by rw [← hM1]; exact hb_set_v hV.1.1 rfl (by decide)
      have wM1 : ∀ b, b ≠ 9 → M1 b = M b := by intro b h; rw [← hM1]; exact hb_set_c h
      refine he_iconst (n := 119) (c := 0) (by decide +kernel) (by decide) ?_
      intro c118 hc118
      refine he_reti (by decide +kernel) ?_
      exact K2 M1 _ a hR.symm (xV_br hV hM1 hm1 (by omega)) (xT_br hT eM1) (by omega) (fun b hb => (wM1 b hb).trans (hF b hb))
theorem xj_sign24 {bk : Int} {d z u pk f E ln : Nat} {M0 : Nat → mq_C} {o : List Int} {Q : (Option Value ⊕ Nat) → mq_S → Prop} {n : Nat} {fl : Nat → Int} {M : Nat → mq_C} {a : Nat} (hp : mz_GG.1 pk = some (64, ln, 1, [(0, 0, 255)])) (he : 8 * f + E ≤ 8 * ln) (hl : ln ≤ 240) (h9 : pk < 9 ∨ 24 ≤ pk) (hn : n ≤ 288) (hV : xV pk f E bk M0 M a o) (hT : xT M 24 n fl)
    (K1 : ∀ (M' : Nat → mq_C) (r : Int32) (a' : Nat), xsg fl n E (fun i => xB M0 pk (8 * f + i)) a = some (r.toInt, a') → xV pk f E bk M0 M' a' o → xT M' 24 n fl → (∀ b, b ≠ 9 → M' b = M b) → Q (.inl (some (.int r))) (M', z, u))
    (K2 : ∀ (M' : Nat → mq_C) (r : Int32) (a' : Nat), xsg fl n E (fun i => xB M0 pk (8 * f + i)) a = none → xV pk f E 1 M0 M' a' o → xT M' 24 n fl → r.toInt = 0 → (∀ b, b ≠ 9 → M' b = M b) → Q (.inl (some (.int r))) (M', z, u)) : mq_R mq_PP d 100 0 [some (.ref 9), some (.ref 24), none, none, none, none, none] [] (M, z, u) Q := by
  refine he_iconst (n := 1) (c := 0) (by decide +kernel) (by decide) ?_
  intro c0 hc0
  refine he_istore (n := 2) (i := 2) (by decide +kernel) rfl ?_
  refine he_iconst (n := 3) (c := 0) (by decide +kernel) (by decide) ?_
  intro c2 hc2
  refine he_istore (n := 4) (i := 3) (by decide +kernel) rfl ?_
  refine he_iconst (n := 5) (c := 0) (by decide +kernel) (by decide) ?_
  intro c4 hc4
  refine he_istore (n := 7) (i := 4) (by decide +kernel) rfl ?_
  refine he_iconst (n := 8) (c := 1) (by decide +kernel) (by decide) ?_
  intro c7 hc7
  refine he_istore (n := 10) (i := 5) (by decide +kernel) rfl ?_
  refine xj_sign_l24 hp he hl h9 hn K1 K2 15 1 M _ _ _ _ a none (by decide) (by decide) (by omega) (by omega) (by omega) (by show _ < (1 : Int); omega) (by rw [xq_1]; omega) hV hT (fun _ _ => rfl) ?_
  unfold xsg
  rw [show c0.toInt = 0 by omega, show c2.toInt = 0 by omega, show c4.toInt = 0 by omega]
theorem xj_sign_l28 {bk : Int} {d z u pk f E ln : Nat} {M0 Mb : Nat → mq_C} {o : List Int} {Q : (Option Value ⊕ Nat) → mq_S → Prop} {n : Nat} {fl : Nat → Int} (hp : mz_GG.1 pk = some (64, ln, 1, [(0, 0, 255)])) (he : 8 * f + E ≤ 8 * ln) (hl : ln ≤ 240) (h9 : pk < 9 ∨ 24 ≤ pk) (hn : n ≤ 32) {R : Option (Int × Nat)}
    (K1 : ∀ (M' : Nat → mq_C) (r : Int32) (a' : Nat), R = some (r.toInt, a') → xV pk f E bk M0 M' a' o → xT M' 28 n fl → (∀ b, b ≠ 9 → M' b = Mb b) → Q (.inl (some (.int r))) (M', z, u))
    (K2 : ∀ (M' : Nat → mq_C) (r : Int32) (a' : Nat), R = none → xV pk f E 1 M0 M' a' o → xT M' 28 n fl → r.toInt = 0 → (∀ b, b ≠ 9 → M' b = Mb b) → Q (.inl (some (.int r))) (M', z, u)) : ∀ (m j : Nat) (M : Nat → mq_C) (cd fi be b : Int32) (a : Nat) (o6 : Option Value), m + j = 16 → 1 ≤ j → b.toInt = (j : Int) → 0 ≤ fi.toInt → fi.toInt ≤ 2 * cd.toInt → cd.toInt < 2 ^ (j - 1) → be.toInt = xq fl n j → xV pk f E bk M0 M a o → xT M 28 n fl → (∀ b, b ≠ 9 → M b = Mb b) → xs fl n E (fun i => xB M0 pk (8 * f + i)) m j cd.toInt fi.toInt be.toInt a = R → mq_R mq_PP d 100 10 [some (.ref 9), some (.ref 28), some (.int cd), some (.int fi), some (.int be), some (.int b), o6] [] (M, z, u) Q := by
  intro m
  induction m with
  | zero =>
    intro j M cd fi be b a o6 e1 e2 e3 i1 i2 i3 i4 hV hT hF hR
    obtain rfl : R = none := hR.symm
    refine he_iload (n := 12) (i := 5) (by decide +kernel) rfl ?_
    refine he_iconst (n := 14) (c := 15) (by decide +kernel) (by decide) ?_
    intro c12 hc12
    refine he_cmpgt_t (n := 17) (t := 113) (by decide +kernel) (by omega) ?_
    refine he_aload (n := 114) (i := 0) (by decide +kernel) rfl ?_
    refine he_iconst (n := 115) (c := 1) (by decide +kernel) (by decide) ?_
    intro c114 hc114
    refine hb_pfd (n := 118) (ci := 8) (j := 5) (t := 1) (ns := [1074, 28]) hV.1.1 (by decide +kernel) rfl rfl (by decide) (.inr ⟨rfl, he_01 (by omega)⟩) ?_
    generalize hM1 : hb_set M 9 5 c114 = M1
    have hm1 : mz_sh mz_GG M1 := by rw [← hM1]; exact hb_set_sh hV.1.1 rfl rfl (by omega) (by omega)
    have eM1 : ∀ b j, b ≠ 9 ∨ j ≠ 5 → hv M1 b j = hv M b j := by intro b j h; rw [← hM1]; exact hb_set_n h
    have sM1 : hv M1 9 5 = c114.toInt := by rw [← hM1]; exact hb_set_v hV.1.1 rfl (by decide)
    have wM1 : ∀ b, b ≠ 9 → M1 b = M b := by intro b h; rw [← hM1]; exact hb_set_c h
    refine he_iconst (n := 119) (c := 0) (by decide +kernel) (by decide) ?_
    intro c118 hc118
    refine he_reti (by decide +kernel) ?_
    exact K2 M1 _ a rfl (xV_br hV hM1 hm1 (by omega)) (xT_br hT eM1) (by omega) (fun b hb => (wM1 b hb).trans (hF b hb))
  | succ m ih =>
    intro j M cd fi be b a o6 e1 e2 e3 i1 i2 i3 i4 hV hT hF hR
    have vA : hv M 9 3 = 8 * (f : Int) + (a : Int) := hV.2.1
    have vE : hv M 9 4 = 8 * (f : Int) + (E : Int) := hV.2.2.1
    have p15 : (2 : Int) ^ (j - 1) ≤ 2 ^ 14 := xe_pow (by omega)
    have p15' : (2 : Int) ^ 14 = 16384 := by decide
    refine he_iload (n := 12) (i := 5) (by decide +kernel) rfl ?_
    refine he_iconst (n := 14) (c := 15) (by decide +kernel) (by decide) ?_
    intro c12 hc12
    refine he_cmpgt_f (n := 17) (t := 113) (by decide +kernel) (by omega) ?_
    refine he_aload (n := 18) (i := 0) (by decide +kernel) rfl ?_
    refine hb_gfd (n := 21) (ci := 8) (j := 3) (ns := [1072, 22]) hV.1.1 (by decide +kernel) rfl rfl (by decide) rfl ?_
    intro v18 hv18 lv18 uv18
    refine he_aload (n := 22) (i := 0) (by decide +kernel) rfl ?_
    refine hb_gfd (n := 25) (ci := 8) (j := 4) (ns := [1073, 25]) hV.1.1 (by decide +kernel) rfl rfl (by decide) rfl ?_
    intro v22 hv22 lv22 uv22
    by_cases hE : a < E
    · skip
      refine he_cmpge_f (n := 28) (t := 113) (by decide +kernel) (by omega) ?_
      refine he_iload (n := 29) (i := 2) (by decide +kernel) rfl ?_
      refine he_iconst (n := 30) (c := 1) (by decide +kernel) (by decide) ?_
      intro c29 hc29
      refine he_ex2 (o := 15) (n := 31) (by decide +kernel) rfl ?_
      intro v30 hv30
      have ev30 : v30 = cd <<< (c29 &&& 31) := hv30
      have bv30 := mz_i32 v30
      refine he_aload (n := 32) (i := 0) (by decide +kernel) rfl ?_
      refine xe_getr (n := 35) (ci := 8) (j := 2) (ns := [1071, 19]) (b := pk) (by decide +kernel) ((hb_kd (a := 9) hV.1.1 rfl).trans rfl) (hV.1.2.2) ?_
      refine he_aload (n := 36) (i := 0) (by decide +kernel) rfl ?_
      refine hb_gfd (n := 39) (ci := 8) (j := 3) (ns := [1072, 22]) hV.1.1 (by decide +kernel) rfl rfl (by decide) rfl ?_
      intro v36 hv36 lv36 uv36
      refine he_iconst (n := 40) (c := 3) (by decide +kernel) (by decide) ?_
      intro c39 hc39
      refine he_ex2 (o := 16) (n := 41) (by decide +kernel) rfl ?_
      intro v40 hv40
      have ev40 : v40 = v36 >>> (c39 &&& 31) := hv40
      have bv40 := mz_i32 v40
      have q36 : v36.toInt = 8 * (f : Int) + (a : Int) := by rw [← hv36]; exact vA
      have q40 : v40.toInt = v36.toInt / 8 := xe_shr3 (by omega) hc39 ev40
      refine hb_ld (n := 42) (kind := 64) hV.1.1 (by decide +kernel) hp rfl (.inl rfl) (by omega) (show _ < (ln : Int) by omega) hb_at1 ?_
      intro v41 hv41 lv41 uv41
      refine he_aload (n := 43) (i := 0) (by decide +kernel) rfl ?_
      refine hb_gfd (n := 46) (ci := 8) (j := 3) (ns := [1072, 22]) hV.1.1 (by decide +kernel) rfl rfl (by decide) rfl ?_
      intro v43 hv43 lv43 uv43
      refine he_iconst (n := 48) (c := 7) (by decide +kernel) (by decide) ?_
      intro c46 hc46
      refine he_ex2 (o := 12) (n := 49) (by decide +kernel) rfl ?_
      intro v48 hv48
      have ev48 : v48 = v43 &&& c46 := hv48
      have bv48 := mz_i32 v48
      refine he_ex2 (o := 16) (n := 50) (by decide +kernel) rfl ?_
      intro v49 hv49
      have ev49 : v49 = v41 >>> (v48 &&& 31) := hv49
      have bv49 := mz_i32 v49
      refine he_iconst (n := 51) (c := 1) (by decide +kernel) (by decide) ?_
      intro c50 hc50
      refine he_ex2 (o := 12) (n := 52) (by decide +kernel) rfl ?_
      intro v51 hv51
      have ev51 : v51 = v49 &&& c50 := hv51
      have bv51 := mz_i32 v51
      refine he_ex2 (o := 13) (n := 53) (by decide +kernel) rfl ?_
      intro v52 hv52
      have ev52 : v52 = v30 ||| v51 := hv52
      have bv52 := mz_i32 v52
      refine he_istore (n := 54) (i := 2) (by decide +kernel) rfl ?_
      refine he_aload (n := 55) (i := 0) (by decide +kernel) rfl ?_
      refine he_dup_r (n := 56) (by decide +kernel) ?_
      refine hb_gfd (n := 59) (ci := 8) (j := 3) (ns := [1072, 22]) hV.1.1 (by decide +kernel) rfl rfl (by decide) rfl ?_
      intro v56 hv56 lv56 uv56
      refine he_iconst (n := 60) (c := 1) (by decide +kernel) (by decide) ?_
      intro c59 hc59
      refine he_iadd (n := 61) (by decide +kernel) (by omega) (by omega) ?_
      intro v60 hv60
      have q43 : v43.toInt = 8 * (f : Int) + (a : Int) := by rw [← hv43]; exact vA
      have q56 : v56.toInt = 8 * (f : Int) + (a : Int) := by rw [← hv56]; exact vA
      have q48 : v48.toInt = v43.toInt % 8 := xe_and7 (by omega) hc46 ev48
      have q51 : v51.toInt = xB M0 pk (8 * f + a) := by
        rw [ev51, show c50 = 1 by rw [he_eqi]; exact hc50, ev49, xe_bit lv41 uv41 (by omega) (by omega), ← hv41]
        unfold xB
        rw [hb_vc (hV.1.2.1 pk h9), show v40.toInt.toNat = (8 * f + a) / 8 by omega, show v48.toInt.toNat = (8 * f + a) % 8 by omega]
      have q30 := xe_shl1 (x := cd) (by omega) (by omega) hc29 ev30
      have b51 : v51.toInt = 0 ∨ v51.toInt = 1 := by rw [q51]; exact xB_01 _
      have q52 := xe_or1 (x := v30) (m := cd.toInt) q30 (by omega) (by omega) b51 ev52
      refine hb_pfd (n := 64) (ci := 8) (j := 3) (t := 0) (ns := [1072, 22]) hV.1.1 (by decide +kernel) rfl rfl (by decide) (.inl rfl) ?_
      generalize hM1 : hb_set M 9 3 v60 = M1
      have hm1 : mz_sh mz_GG M1 := by rw [← hM1]; exact hb_set_sh hV.1.1 rfl rfl (by omega) (by omega)
      have eM1 : ∀ b j, b ≠ 9 ∨ j ≠ 3 → hv M1 b j = hv M b j := by intro b j h; rw [← hM1]; exact hb_set_n h
      have sM1 : hv M1 9 3 = v60.toInt := by rw [← hM1]; exact hb_set_v hV.1.1 rfl (by decide)
      have wM1 : ∀ b, b ≠ 9 → M1 b = M b := by intro b h; rw [← hM1]; exact hb_set_c h
      have hV1 : xV pk f E bk M0 M1 (a + 1) o := xV_at hV hM1 hm1 (by omega) (by omega)
      have hT1 : xT M1 28 n fl := by
        refine ⟨fun b h1 h2 => ?_, fun i h1 h2 => ?_⟩
        · rw [eM1 _ _ (.inl (by decide))]; exact hT.1 b h1 h2
        · rw [eM1 _ _ (.inl (by decide))]; exact hT.2 i h1 h2
      refine he_aload (n := 65) (i := 1) (by decide +kernel) rfl ?_
      refine he_getr (n := 68) (ci := 3) (j := 0) (ns := [1043, 103]) (b := 29) hm1 (by decide +kernel) rfl rfl (by decide +kernel) ?_
      refine he_iload (n := 70) (i := 5) (by decide +kernel) rfl ?_
      refine hb_ld (n := 71) (kind := 64) hm1 (by decide +kernel) rfl rfl (.inl rfl) (by omega) (show _ < (16 : Int) by omega) hb_at1 ?_
      intro v70 hv70 lv70 uv70
      refine he_istore (n := 73) (i := 6) (by decide +kernel) rfl ?_
      refine he_iload (n := 74) (i := 2) (by decide +kernel) rfl ?_
      refine he_iload (n := 75) (i := 3) (by decide +kernel) rfl ?_
      refine he_isub (n := 76) (by decide +kernel) (by omega) (by omega) ?_
      intro v75 hv75
      refine he_iload (n := 78) (i := 6) (by decide +kernel) rfl ?_
      have q70 : v70.toInt = xc fl n j := by rw [← hv70, show b.toInt.toNat = j by omega]; exact hT1.1 j e2 (by omega)
      have hc0 := xc_0 fl n j
      have hql := xq_le (f := fl) (b := j + 1) n
      have hqs := xq_s (f := fl) (n := n) e2
      have hq0 := xq_0 (f := fl) (n := n) (b := j)
      have eR : xs fl n E (fun i => xB M0 pk (8 * f + i)) (m + 1) j cd.toInt fi.toInt be.toInt a = (if v52.toInt - fi.toInt < xc fl n j then some (xg fl n (be.toInt + (v52.toInt - fi.toInt)), a + 1) else xs fl n E (fun i => xB M0 pk (8 * f + i)) m (j + 1) v52.toInt (2 * (fi.toInt + xc fl n j)) (be.toInt + xc fl n j) (a + 1)) := by
        rw [xs, if_pos hE, q52, q51]
      rw [eR] at hR
      by_cases hlt : v75.toInt < v70.toInt
      · rw [if_pos (by omega)] at hR
        refine he_cmpge_f (n := 81) (t := 93) (by decide +kernel) (by omega) ?_
        refine he_aload (n := 82) (i := 1) (by decide +kernel) rfl ?_
        refine he_getr (n := 85) (ci := 3) (j := 1) (ns := [1045, 106]) (b := 31) hm1 (by decide +kernel) rfl rfl (by decide +kernel) ?_
        refine he_iload (n := 87) (i := 4) (by decide +kernel) rfl ?_
        refine he_iload (n := 88) (i := 2) (by decide +kernel) rfl ?_
        refine he_iadd (n := 89) (by decide +kernel) (by omega) (by omega) ?_
        intro v88 hv88
        refine he_iload (n := 90) (i := 3) (by decide +kernel) rfl ?_
        refine he_isub (n := 91) (by decide +kernel) (by omega) (by omega) ?_
        intro v90 hv90
        refine hb_ld (n := 92) (kind := 64) hm1 (by decide +kernel) rfl rfl (.inl rfl) (by omega) (show _ < (32 : Int) by omega) hb_at1 ?_
        intro v91 hv91 lv91 uv91
        refine he_reti (by decide +kernel) ?_
        have e92 : v91.toInt = xg fl n (be.toInt + (v52.toInt - fi.toInt)) := by
          have := xg_eq (f := fl) (n := n) (S := fun k => hv M1 31 k.toNat) hT1.2 e2 (k := v52.toInt - fi.toInt) (by omega) (by omega)
          rw [i4, ← this, ← hv91, show v90.toInt.toNat = (xq fl n j + (v52.toInt - fi.toInt)).toNat by omega]
        exact K1 M1 _ (a + 1) (by rw [← hR, e92]) hV1 hT1 (fun b hb => (wM1 b hb).trans (hF b hb))
      · rw [if_neg (by omega)] at hR
        refine he_cmpge_t (n := 81) (t := 93) (by decide +kernel) (by omega) ?_
        refine he_iload (n := 95) (i := 4) (by decide +kernel) rfl ?_
        refine he_iload (n := 97) (i := 6) (by decide +kernel) rfl ?_
        refine he_iadd (n := 98) (by decide +kernel) (by omega) (by omega) ?_
        intro v97 hv97
        refine he_istore (n := 100) (i := 4) (by decide +kernel) rfl ?_
        refine he_iload (n := 101) (i := 3) (by decide +kernel) rfl ?_
        refine he_iload (n := 103) (i := 6) (by decide +kernel) rfl ?_
        refine he_iadd (n := 104) (by decide +kernel) (by omega) (by omega) ?_
        intro v103 hv103
        refine he_iconst (n := 105) (c := 1) (by decide +kernel) (by decide) ?_
        intro c104 hc104
        refine he_ex2 (o := 15) (n := 106) (by decide +kernel) rfl ?_
        intro v105 hv105
        have ev105 : v105 = v103 <<< (c104 &&& 31) := hv105
        have bv105 := mz_i32 v105
        refine he_istore (n := 107) (i := 3) (by decide +kernel) rfl ?_
        refine he_iinc (n := 110) (i := 5) (c := 1) (L' := fun v => [some (.ref (9)), some (.ref (28)), some (.int v52), some (.int v105), some (.int v97), some (.int v), some (.int v70)]) (by decide +kernel) (by decide) rfl (fun _ => rfl) (by omega) (by omega) ?_
        intro i107 hi107
        refine he_goto (t := 10) (by decide +kernel) ?_
        have q105 := xe_shl1 (x := v103) (by omega) (by omega) hc104 ev105
        refine ih (j + 1) M1 v52 v105 v97 _ (a + 1) _ (by omega) (by omega) (by omega) (by omega) (by omega) ?_ (by omega) hV1 hT1 (fun b hb => (wM1 b hb).trans (hF b hb)) ?_
        · have : (2 : Int) ^ (j + 1 - 1) = 2 * 2 ^ (j - 1) := by
            obtain ⟨t, rfl⟩ : ∃ t, j = t + 1 := ⟨j - 1, by omega⟩
            show (2 : Int) ^ (t + 1) = 2 * 2 ^ t
            rw [Int.pow_succ]
            omega
          omega
        · rw [show v105.toInt = 2 * (fi.toInt + xc fl n j) by omega, show v97.toInt = be.toInt + xc fl n j by omega]
          exact hR
    · rw [xs, if_neg hE] at hR
      refine he_cmpge_t (n := 28) (t := 113) (by decide +kernel) (by omega) ?_
      refine he_aload (n := 114) (i := 0) (by decide +kernel) rfl ?_
      refine he_iconst (n := 115) (c := 1) (by decide +kernel) (by decide) ?_
      intro c114 hc114
      refine hb_pfd (n := 118) (ci := 8) (j := 5) (t := 1) (ns := [1074, 28]) hV.1.1 (by decide +kernel) rfl rfl (by decide) (.inr ⟨rfl, he_01 (by omega)⟩) ?_
      generalize hM1 : hb_set M 9 5 c114 = M1
      have hm1 : mz_sh mz_GG M1 := by rw [← hM1]; exact hb_set_sh hV.1.1 rfl rfl (by omega) (by omega)
      have eM1 : ∀ b j, b ≠ 9 ∨ j ≠ 5 → hv M1 b j = hv M b j := by intro b j h; rw [← hM1]; exact hb_set_n h
      have sM1 : hv M1 9 5 = c114.toInt := by rw [← hM1]; exact hb_set_v hV.1.1 rfl (by decide)
      have wM1 : ∀ b, b ≠ 9 → M1 b = M b := by intro b h; rw [← hM1]; exact hb_set_c h
      refine he_iconst (n := 119) (c := 0) (by decide +kernel) (by decide) ?_
      intro c118 hc118
      refine he_reti (by decide +kernel) ?_
      exact K2 M1 _ a hR.symm (xV_br hV hM1 hm1 (by omega)) (xT_br hT eM1) (by omega) (fun b hb => (wM1 b hb).trans (hF b hb))
theorem xj_sign28 {bk : Int} {d z u pk f E ln : Nat} {M0 : Nat → mq_C} {o : List Int} {Q : (Option Value ⊕ Nat) → mq_S → Prop} {n : Nat} {fl : Nat → Int} {M : Nat → mq_C} {a : Nat} (hp : mz_GG.1 pk = some (64, ln, 1, [(0, 0, 255)])) (he : 8 * f + E ≤ 8 * ln) (hl : ln ≤ 240) (h9 : pk < 9 ∨ 24 ≤ pk) (hn : n ≤ 32) (hV : xV pk f E bk M0 M a o) (hT : xT M 28 n fl)
    (K1 : ∀ (M' : Nat → mq_C) (r : Int32) (a' : Nat), xsg fl n E (fun i => xB M0 pk (8 * f + i)) a = some (r.toInt, a') → xV pk f E bk M0 M' a' o → xT M' 28 n fl → (∀ b, b ≠ 9 → M' b = M b) → Q (.inl (some (.int r))) (M', z, u))
    (K2 : ∀ (M' : Nat → mq_C) (r : Int32) (a' : Nat), xsg fl n E (fun i => xB M0 pk (8 * f + i)) a = none → xV pk f E 1 M0 M' a' o → xT M' 28 n fl → r.toInt = 0 → (∀ b, b ≠ 9 → M' b = M b) → Q (.inl (some (.int r))) (M', z, u)) : mq_R mq_PP d 100 0 [some (.ref 9), some (.ref 28), none, none, none, none, none] [] (M, z, u) Q := by
  refine he_iconst (n := 1) (c := 0) (by decide +kernel) (by decide) ?_
  intro c0 hc0
  refine he_istore (n := 2) (i := 2) (by decide +kernel) rfl ?_
  refine he_iconst (n := 3) (c := 0) (by decide +kernel) (by decide) ?_
  intro c2 hc2
  refine he_istore (n := 4) (i := 3) (by decide +kernel) rfl ?_
  refine he_iconst (n := 5) (c := 0) (by decide +kernel) (by decide) ?_
  intro c4 hc4
  refine he_istore (n := 7) (i := 4) (by decide +kernel) rfl ?_
  refine he_iconst (n := 8) (c := 1) (by decide +kernel) (by decide) ?_
  intro c7 hc7
  refine he_istore (n := 10) (i := 5) (by decide +kernel) rfl ?_
  refine xj_sign_l28 hp he hl h9 hn K1 K2 15 1 M _ _ _ _ a none (by decide) (by decide) (by omega) (by omega) (by omega) (by show _ < (1 : Int); omega) (by rw [xq_1]; omega) hV hT (fun _ _ => rfl) ?_
  unfold xsg
  rw [show c0.toInt = 0 by omega, show c2.toInt = 0 by omega, show c4.toInt = 0 by omega]
