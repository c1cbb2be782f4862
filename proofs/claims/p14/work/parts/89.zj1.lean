/-! take of the class, exactly. -/
theorem xj_take_l {bk : Int} {d z u pk f E ln a : Nat} {M0 Mb : Nat → mq_C} {o : List Int} {Q : (Option Value ⊕ Nat) → mq_S → Prop} {x1 : Int32} {k : Nat} (hp : mz_GG.1 pk = some (64, ln, 1, [(0, 0, 255)])) (he : 8 * f + E ≤ 8 * ln) (hl : ln ≤ 240) (h9 : pk < 9 ∨ 24 ≤ pk) (hk : k ≤ 16) (hx : x1.toInt = (k : Int)) (hE : a + k ≤ E)
    (K : ∀ (M' : Nat → mq_C) (r : Int32), xV pk f E bk M0 M' (a + k) o → r.toInt = xb (fun i => xB M0 pk (8 * f + i)) a k → (∀ b, b ≠ 9 → M' b = Mb b) → Q (.inl (some (.int r))) (M', z, u)) : ∀ (m j : Nat) (M : Nat → mq_C) (v i : Int32), j + m = k → i.toInt = (j : Int) → v.toInt = xb (fun i => xB M0 pk (8 * f + i)) a j → xV pk f E bk M0 M (a + j) o → (∀ b, b ≠ 9 → M b = Mb b) → mq_R mq_PP d 94 24 [some (.ref 9), some (.int x1), some (.int v), some (.int i)] [] (M, z, u) Q := by
  have h01 : ∀ i, (fun i => xB M0 pk (8 * f + i)) i = 0 ∨ (fun i => xB M0 pk (8 * f + i)) i = 1 := fun i => xB_01 _
  intro m
  induction m with
  | zero =>
    intro j M v i e1 e2 e3 hV hF
    refine he_iload (n := 25) (i := 3) (by decide +kernel) rfl ?_
    refine he_iload (n := 26) (i := 1) (by decide +kernel) rfl ?_
    refine he_cmpge_t (n := 29) (t := 71) (by decide +kernel) (by omega) ?_
    refine he_iload (n := 72) (i := 2) (by decide +kernel) rfl ?_
    refine he_reti (by decide +kernel) ?_
    obtain rfl : j = k := by omega
    exact K M v hV e3 hF
  | succ m ih =>
    intro j M v i e1 e2 e3 hV hF
    have vA : hv M 9 3 = 8 * (f : Int) + ((a + j : Nat) : Int) := hV.2.1
    have hb := xb_b h01 a j
    refine he_iload (n := 25) (i := 3) (by decide +kernel) rfl ?_
    refine he_iload (n := 26) (i := 1) (by decide +kernel) rfl ?_
    refine he_cmpge_f (n := 29) (t := 71) (by decide +kernel) (by omega) ?_
    refine he_iload (n := 30) (i := 2) (by decide +kernel) rfl ?_
    refine he_aload (n := 31) (i := 0) (by decide +kernel) rfl ?_
    refine xe_getr (n := 34) (ci := 8) (j := 2) (ns := [1071, 19]) (b := pk) (by decide +kernel) ((hb_kd (a := 9) hV.1.1 rfl).trans rfl) (hV.1.2.2) ?_
    refine he_aload (n := 35) (i := 0) (by decide +kernel) rfl ?_
    refine hb_gfd (n := 38) (ci := 8) (j := 3) (ns := [1072, 22]) hV.1.1 (by decide +kernel) rfl rfl (by decide) rfl ?_
    intro v35 hv35 lv35 uv35
    refine he_iconst (n := 39) (c := 3) (by decide +kernel) (by decide) ?_
    intro c38 hc38
    refine he_ex2 (o := 16) (n := 40) (by decide +kernel) rfl ?_
    intro v39 hv39
    have ev39 : v39 = v35 >>> (c38 &&& 31) := hv39
    have bv39 := mz_i32 v39
    have q35 : v35.toInt = 8 * (f : Int) + ((a + j : Nat) : Int) := by rw [← hv35]; exact vA
    have q39 : v39.toInt = v35.toInt / 8 := xe_shr3 (by omega) hc38 ev39
    refine hb_ld (n := 41) (kind := 64) hV.1.1 (by decide +kernel) hp rfl (.inl rfl) (by omega) (show _ < (ln : Int) by omega) hb_at1 ?_
    intro v40 hv40 lv40 uv40
    refine he_aload (n := 42) (i := 0) (by decide +kernel) rfl ?_
    refine hb_gfd (n := 45) (ci := 8) (j := 3) (ns := [1072, 22]) hV.1.1 (by decide +kernel) rfl rfl (by decide) rfl ?_
    intro v42 hv42 lv42 uv42
    refine he_iconst (n := 47) (c := 7) (by decide +kernel) (by decide) ?_
    intro c45 hc45
    refine he_ex2 (o := 12) (n := 48) (by decide +kernel) rfl ?_
    intro v47 hv47
    have ev47 : v47 = v42 &&& c45 := hv47
    have bv47 := mz_i32 v47
    refine he_ex2 (o := 16) (n := 49) (by decide +kernel) rfl ?_
    intro v48 hv48
    have ev48 : v48 = v40 >>> (v47 &&& 31) := hv48
    have bv48 := mz_i32 v48
    refine he_iconst (n := 50) (c := 1) (by decide +kernel) (by decide) ?_
    intro c49 hc49
    refine he_ex2 (o := 12) (n := 51) (by decide +kernel) rfl ?_
    intro v50 hv50
    have ev50 : v50 = v48 &&& c49 := hv50
    have bv50 := mz_i32 v50
    refine he_iload (n := 52) (i := 3) (by decide +kernel) rfl ?_
    refine he_ex2 (o := 15) (n := 53) (by decide +kernel) rfl ?_
    intro v52 hv52
    have ev52 : v52 = v50 <<< (i &&& 31) := hv52
    have bv52 := mz_i32 v52
    refine he_ex2 (o := 13) (n := 54) (by decide +kernel) rfl ?_
    intro v53 hv53
    have ev53 : v53 = v ||| v52 := hv53
    have bv53 := mz_i32 v53
    refine he_istore (n := 55) (i := 2) (by decide +kernel) rfl ?_
    refine he_aload (n := 56) (i := 0) (by decide +kernel) rfl ?_
    refine he_dup_r (n := 57) (by decide +kernel) ?_
    refine hb_gfd (n := 60) (ci := 8) (j := 3) (ns := [1072, 22]) hV.1.1 (by decide +kernel) rfl rfl (by decide) rfl ?_
    intro v57 hv57 lv57 uv57
    refine he_iconst (n := 61) (c := 1) (by decide +kernel) (by decide) ?_
    intro c60 hc60
    refine he_iadd (n := 62) (by decide +kernel) (by omega) (by omega) ?_
    intro v61 hv61
    have q42 : v42.toInt = 8 * (f : Int) + ((a + j : Nat) : Int) := by rw [← hv42]; exact vA
    have q57 : v57.toInt = 8 * (f : Int) + ((a + j : Nat) : Int) := by rw [← hv57]; exact vA
    have q47 : v47.toInt = v42.toInt % 8 := xe_and7 (by omega) hc45 ev47
    have q50 : v50.toInt = xB M0 pk (8 * f + (a + j)) := by
      rw [ev50, show c49 = 1 by rw [he_eqi]; exact hc49, ev48, xe_bit lv40 uv40 (by omega) (by omega), ← hv40]
      unfold xB
      rw [hb_vc (hV.1.2.1 pk h9), show v39.toInt.toNat = (8 * f + (a + j)) / 8 by omega, show v47.toInt.toNat = (8 * f + (a + j)) % 8 by omega]
    have q53 : v53.toInt = xb (fun i => xB M0 pk (8 * f + i)) a (j + 1) := by
      rw [ev53, ev52, xe_or (k := j) (by omega) (by omega) (by omega) (by rw [q50]; exact xB_01 _) e2, e3, q50]
      rfl
    refine hb_pfd (n := 65) (ci := 8) (j := 3) (t := 0) (ns := [1072, 22]) hV.1.1 (by decide +kernel) rfl rfl (by decide) (.inl rfl) ?_
    generalize hM1 : hb_set M 9 3 v61 = M1
    have hm1 : mz_sh mz_GG M1 := by rw [← hM1]; exact hb_set_sh hV.1.1 rfl rfl (by omega) (by omega)
    have eM1 : ∀ b j, b ≠ 9 ∨ j ≠ 3 → hv M1 b j = hv M b j := by intro b j h; rw [← hM1]; exact hb_set_n h
    have sM1 : hv M1 9 3 = v61.toInt := by rw [← hM1]; exact hb_set_v hV.1.1 rfl (by decide)
    have wM1 : ∀ b, b ≠ 9 → M1 b = M b := by intro b h; rw [← hM1]; exact hb_set_c h
    refine he_iinc (n := 68) (i := 3) (c := 1) (L' := fun v => [some (.ref (9)), some (.int x1), some (.int v53), some (.int v)]) (by decide +kernel) (by decide) rfl (fun _ => rfl) (by omega) (by omega) ?_
    intro i65 hi65
    refine he_goto (t := 24) (by decide +kernel) ?_
    refine ih (j + 1) M1 v53 _ (by omega) (by omega) q53 ?_ (fun b hb => (wM1 b hb).trans (hF b hb))
    exact xV_at hV hM1 hm1 (by omega) (by omega)
theorem xj_take {bk : Int} {d z u pk f E ln a : Nat} {M0 M : Nat → mq_C} {o : List Int} {Q : (Option Value ⊕ Nat) → mq_S → Prop} {x1 : Int32} {k : Nat} (hp : mz_GG.1 pk = some (64, ln, 1, [(0, 0, 255)])) (he : 8 * f + E ≤ 8 * ln) (hl : ln ≤ 240) (h9 : pk < 9 ∨ 24 ≤ pk) (hk : k ≤ 16) (hx : x1.toInt = (k : Int)) (hV : xV pk f E bk M0 M a o)
    (K1 : ∀ (M' : Nat → mq_C) (r : Int32), a + k ≤ E → xV pk f E bk M0 M' (a + k) o → r.toInt = xb (fun i => xB M0 pk (8 * f + i)) a k → (∀ b, b ≠ 9 → M' b = M b) → Q (.inl (some (.int r))) (M', z, u))
    (K2 : ∀ (M' : Nat → mq_C) (r : Int32), ¬ a + k ≤ E → xV pk f E 1 M0 M' a o → r.toInt = 0 → (∀ b, b ≠ 9 → M' b = M b) → Q (.inl (some (.int r))) (M', z, u)) : mq_R mq_PP d 94 0 [some (.ref 9), some (.int x1), none, none] [] (M, z, u) Q := by
  have vA : hv M 9 3 = 8 * (f : Int) + (a : Int) := hV.2.1
  have vE : hv M 9 4 = 8 * (f : Int) + (E : Int) := hV.2.2.1
  refine he_aload (n := 1) (i := 0) (by decide +kernel) rfl ?_
  refine hb_gfd (n := 4) (ci := 8) (j := 4) (ns := [1073, 25]) hV.1.1 (by decide +kernel) rfl rfl (by decide) rfl ?_
  intro v1 hv1 lv1 uv1
  refine he_aload (n := 5) (i := 0) (by decide +kernel) rfl ?_
  refine hb_gfd (n := 8) (ci := 8) (j := 3) (ns := [1072, 22]) hV.1.1 (by decide +kernel) rfl rfl (by decide) rfl ?_
  intro v5 hv5 lv5 uv5
  refine he_isub (n := 9) (by decide +kernel) (by omega) (by omega) ?_
  intro v8 hv8
  refine he_iload (n := 10) (i := 1) (by decide +kernel) rfl ?_
  by_cases hE : a + k ≤ E
  · skip
    refine he_cmpge_t (n := 13) (t := 20) (by decide +kernel) (by omega) ?_
    refine he_iconst (n := 21) (c := 0) (by decide +kernel) (by decide) ?_
    intro c20 hc20
    refine he_istore (n := 22) (i := 2) (by decide +kernel) rfl ?_
    refine he_iconst (n := 23) (c := 0) (by decide +kernel) (by decide) ?_
    intro c22 hc22
    refine he_istore (n := 24) (i := 3) (by decide +kernel) rfl ?_
    exact xj_take_l hp he hl h9 hk hx hE (fun M' r h1 h2 h3 => K1 M' r hE h1 h2 h3) k 0 M _ _ (by omega) (by omega) (by rw [show xb (fun i => xB M0 pk (8 * f + i)) a 0 = 0 from rfl]; omega) hV (fun _ _ => rfl)
  · skip
    refine he_cmpge_f (n := 13) (t := 20) (by decide +kernel) (by omega) ?_
    refine he_aload (n := 14) (i := 0) (by decide +kernel) rfl ?_
    refine he_iconst (n := 15) (c := 1) (by decide +kernel) (by decide) ?_
    intro c14 hc14
    refine hb_pfd (n := 18) (ci := 8) (j := 5) (t := 1) (ns := [1074, 28]) hV.1.1 (by decide +kernel) rfl rfl (by decide) (.inr ⟨rfl, he_01 (by omega)⟩) ?_
    generalize hM1 : hb_set M 9 5 c14 = M1
    have hm1 : mz_sh mz_GG M1 := by rw [← hM1]; exact hb_set_sh hV.1.1 rfl rfl (by omega) (by omega)
    have eM1 : ∀ b j, b ≠ 9 ∨ j ≠ 5 → hv M1 b j = hv M b j := by intro b j h; rw [← hM1]; exact hb_set_n h
    have sM1 : hv M1 9 5 = c14.toInt := by rw [← hM1]; exact hb_set_v hV.1.1 rfl (by decide)
    have wM1 : ∀ b, b ≠ 9 → M1 b = M b := by intro b h; rw [← hM1]; exact hb_set_c h
    refine he_iconst (n := 19) (c := 0) (by decide +kernel) (by decide) ?_
    intro c18 hc18
    refine he_reti (by decide +kernel) ?_
    exact K2 M1 _ hE (xV_br hV hM1 hm1 (by omega)) (by omega) wM1
