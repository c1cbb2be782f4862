/-! The model's arrange, exactly. -/
/-- between: lengths below jl are done, of jl itself the first jk signs -/
def yA (Mb M : Nat → mq_C) (w n : Nat) (fl : Nat → Int) (jl jk : Nat) : Prop := mz_sh mz_GG M ∧ (∀ b, b ≠ 255 → b ≠ 256 → M b = Mb b) ∧ (∀ i, i < 16 * w ∨ 16 * w + 16 ≤ i → hv M 255 i = hv Mb 255 i) ∧ (∀ i, i < 320 * w ∨ 320 * w + 320 ≤ i → hv M 256 i = hv Mb 256 i) ∧ (∀ b, 1 ≤ b → b < jl → hv M 255 (16 * w + b) = xc fl n b) ∧ (jl ≤ 15 → hv M 255 (16 * w + jl) = hb_cnt (fun q => decide (fl q = (jl : Int))) jk) ∧ (∀ b, jl < b → b ≤ 15 → hv M 255 (16 * w + b) = 0) ∧ (∀ i, i < n → 1 ≤ fl i → fl i < (jl : Int) → hv M 256 (320 * w + (xp fl n i).toNat) = (i : Int)) ∧ ∀ i, i < jk → fl i = (jl : Int) → hv M 256 (320 * w + (xp fl n i).toNat) = (i : Int)
def ygd (w n : Nat) (fl : Nat → Int) : Prop := xf fl n = 32768 ∨ w = 1 ∧ (xq fl n 16 = 0 ∨ xq fl n 16 = 1 ∧ xc fl n 1 = 1)
theorem yc_s {fl : Nat → Int} {t : Int} {j : Nat} : hb_cnt (fun q => decide (fl q = t)) (j + 1) = hb_cnt (fun q => decide (fl q = t)) j + (if fl j = t then 1 else 0) := by
  show hb_cnt (fun q => decide (fl q = t)) j + (if decide (fl j = t) = true then 1 else 0) = _
  by_cases h : fl j = t
  · rw [if_pos (decide_eq_true h), if_pos h]
  · rw [if_neg (fun h' => h (of_decide_eq_true h')), if_neg h]
theorem xp_ne2 {f : Nat → Int} {n i j : Nat} (hi : i < n) (hj : j < n) (h1 : 1 ≤ f i) (h2 : 1 ≤ f j) (h : j ≠ i) : xp f n i ≠ xp f n j := by
  rcases Nat.lt_or_gt_of_ne h with h | h
  · exact xp_ne hi h h1 h2
  · exact (xp_ne hj h h2 h1).symm
theorem ym_arr_k {d z u fr n wn : Nat} {fl : Nat → Int} {Mb : Nat → mq_C} {Q : (Option Value ⊕ Nat) → mq_S → Prop} {x1 x2 x3 : Int32} (hw : wn ≤ 1) (h1 : x1.toInt = (wn : Int)) (h2 : x2.toInt = (fr : Int)) (h3 : x3.toInt = (n : Int)) (hn : fr + n ≤ 320) (hn2 : n ≤ 288) (hfl : ∀ i, i < n → fl i = hv Mb 254 (fr + i)) {jl : Nat} (j1 : 1 ≤ jl) (j2 : jl ≤ 15)
    (G : ∀ (M : Nat → mq_C) (fu us l : Int32) (o7 : Option Value), yA Mb M wn n fl jl n → us.toInt = xq fl n (jl + 1) → fu.toInt = hb_sum (fun t => xc fl n (t + 1) * 2 ^ (14 - t)) jl → l.toInt = ((jl + 1 : Nat) : Int) → mq_R mq_PP d 112 38 [some (.ref 234), some (.int x1), some (.int x2), some (.int x3), some (.int fu), some (.int us), some (.int l), o7] [] (M, z, u) Q) : ∀ (m jk : Nat) (M : Nat → mq_C) (fu us l k : Int32), jk + m = n → k.toInt = (jk : Int) → l.toInt = (jl : Int) → yA Mb M wn n fl jl jk → us.toInt = xq fl n jl + hb_cnt (fun q => decide (fl q = (jl : Int))) jk → fu.toInt = hb_sum (fun t => xc fl n (t + 1) * 2 ^ (14 - t)) (jl - 1) + hb_cnt (fun q => decide (fl q = (jl : Int))) jk * 2 ^ (15 - jl) → mq_R mq_PP d 112 48 [some (.ref 234), some (.int x1), some (.int x2), some (.int x3), some (.int fu), some (.int us), some (.int l), some (.int k)] [] (M, z, u) Q := by
  have hqs := xq_s (f := fl) (n := n) j1
  have hql := xq_le (f := fl) (b := jl + 1) n
  have hq0 := xq_0 (f := fl) (n := n) (b := jl)
  have hpw : (2 : Int) ^ (15 - jl) ≤ 2 ^ 14 := xe_pow (by omega)
  have hpw' : (2 : Int) ^ 14 = 16384 := by decide
  have hpp : (0 : Int) < 2 ^ (15 - jl) := Int.pow_pos (by decide)
  have hfb := xf_b (fl := fl) (n := n) hn2 (show jl - 1 ≤ 15 by omega)
  intro m
  induction m with
  | zero =>
    intro jk M fu us l k e1 e2 e3 hA hu hf
    obtain rfl : jk = n := by omega
    refine he_iload (n := 50) (i := 7) (by decide +kernel) rfl ?_
    refine he_iload (n := 51) (i := 3) (by decide +kernel) rfl ?_
    refine he_cmpge_t (n := 54) (t := 120) (by decide +kernel) (by omega) ?_
    refine he_iinc (n := 123) (i := 6) (c := 1) (L' := fun v => [some (.ref (234)), some (.int x1), some (.int x2), some (.int x3), some (.int fu), some (.int us), some (.int v), some (.int k)]) (by decide +kernel) (by decide) rfl (fun _ => rfl) (by omega) (by omega) ?_
    intro i120 hi120
    refine he_goto (t := 38) (by decide +kernel) ?_
    refine G M fu us _ _ hA ?_ ?_ (by omega)
    · rw [hqs, hu]
      rfl
    · rw [hf]
      obtain ⟨c, rfl⟩ : ∃ c, jl = c + 1 := ⟨jl - 1, by omega⟩
      show hb_sum (fun t => xc fl jk (t + 1) * 2 ^ (14 - t)) c + xc fl jk (c + 1) * 2 ^ (15 - (c + 1)) = hb_sum (fun t => xc fl jk (t + 1) * 2 ^ (14 - t)) c + xc fl jk (c + 1) * 2 ^ (14 - c)
      rw [show 15 - (c + 1) = 14 - c by omega]
  | succ m ih =>
    intro jk M fu us l k e1 e2 e3 hA hu hf
    obtain ⟨a1, a2, a3, a4, a5, a6, a7, a8, a9⟩ := id hA
    have hfj := hfl jk (by omega)
    have hcn : hb_cnt (fun q => decide (fl q = (jl : Int))) (jk + 1) ≤ xc fl n jl := hb_cnt_m (by omega)
    have hc0 := hb_cnt_0 (p := fun q => decide (fl q = (jl : Int))) jk
    have hcl := hb_cnt_le (fun q => decide (fl q = (jl : Int))) jk
    have hcs := yc_s (fl := fl) (t := (jl : Int)) (j := jk)
    have hmul : hb_cnt (fun q => decide (fl q = (jl : Int))) jk * 2 ^ (15 - jl) ≤ 288 * 16384 := Int.mul_le_mul (by omega) (by omega) (by omega) (by omega)
    have hmul0 : 0 ≤ hb_cnt (fun q => decide (fl q = (jl : Int))) jk * 2 ^ (15 - jl) := Int.mul_nonneg hc0 (by omega)
    refine he_iload (n := 50) (i := 7) (by decide +kernel) rfl ?_
    refine he_iload (n := 51) (i := 3) (by decide +kernel) rfl ?_
    refine he_cmpge_f (n := 54) (t := 120) (by decide +kernel) (by omega) ?_
    refine he_aload (n := 55) (i := 0) (by decide +kernel) rfl ?_
    refine he_getr (n := 58) (ci := 9) (j := 27) (ns := [4204, 68]) (b := 254) hA.1 (by decide +kernel) rfl rfl (by decide +kernel) ?_
    refine he_iload (n := 59) (i := 2) (by decide +kernel) rfl ?_
    refine he_iload (n := 61) (i := 7) (by decide +kernel) rfl ?_
    refine he_iadd (n := 62) (by decide +kernel) (by omega) (by omega) ?_
    intro v61 hv61
    refine hb_ld (n := 63) (kind := 64) hA.1 (by decide +kernel) rfl rfl (.inl rfl) (by omega) (show _ < (320 : Int) by omega) hb_at1 ?_
    intro v62 hv62 lv62 uv62
    refine he_iload (n := 65) (i := 6) (by decide +kernel) rfl ?_
    have q62 : v62.toInt = fl jk := by rw [hfj, ← hv62, hb_vc (a2 254 (by decide) (by decide)), show v61.toInt.toNat = fr + jk by omega]
    by_cases h65 : v62.toInt = l.toInt
    rotate_left
    · rw [if_neg (by omega)] at hcs
      refine he_cmpne_t (n := 68) (t := 114) (by decide +kernel) (by omega) ?_
      refine he_iinc (n := 117) (i := 7) (c := 1) (L' := fun v => [some (.ref (234)), some (.int x1), some (.int x2), some (.int x3), some (.int fu), some (.int us), some (.int l), some (.int v)]) (by decide +kernel) (by decide) rfl (fun _ => rfl) (by omega) (by omega) ?_
      intro i114 hi114
      refine he_goto (t := 48) (by decide +kernel) ?_
      refine ih (jk + 1) M fu us l _ (by omega) (by omega) e3 ⟨a1, a2, a3, a4, a5, fun _ => by have := a6 j2; rw [hcs]; omega, a7, a8, fun i i1 i2 => ?_⟩ (by rw [hcs]; omega) (by rw [hcs, show hb_cnt (fun q => decide (fl q = (jl : Int))) jk + 0 = hb_cnt (fun q => decide (fl q = (jl : Int))) jk by omega]; exact hf)
      by_cases hij : i = jk
      · subst hij
        omega
      · exact a9 i (by omega) i2
    rw [if_pos (by omega)] at hcs
    have ht : fl jk = (jl : Int) := by omega
    have q5 : us.toInt = xp fl n jk := by
      rw [hu]
      unfold xp
      rw [ht]
      rfl
    have hpj := xp_b (f := fl) (n := n) (i := jk) (by omega) (by omega)
    rw [ht] at hpj
    have hpj : xq fl n jl ≤ xp fl n jk ∧ xp fl n jk < xq fl n (jl + 1) := hpj
    refine he_cmpne_f (n := 68) (t := 114) (by decide +kernel) (by omega) ?_
    refine he_aload (n := 69) (i := 0) (by decide +kernel) rfl ?_
    refine he_getr (n := 72) (ci := 9) (j := 29) (ns := [4206, 74]) (b := 256) hA.1 (by decide +kernel) rfl rfl (by decide +kernel) ?_
    refine he_iconst (n := 75) (c := 320) (by decide +kernel) (by decide) ?_
    intro c72 hc72
    refine he_iload (n := 76) (i := 1) (by decide +kernel) rfl ?_
    refine he_imul (n := 77) (p := 320 * x1.toInt) (by decide +kernel) (by rw [hc72]) (by omega) (by omega) ?_
    intro v76 hv76
    refine he_iload (n := 79) (i := 5) (by decide +kernel) rfl ?_
    refine he_iadd (n := 80) (by decide +kernel) (by omega) (by omega) ?_
    intro v79 hv79
    refine he_iload (n := 82) (i := 7) (by decide +kernel) rfl ?_
    refine hb_sta (n := 83) (kind := 64) hA.1 (by decide +kernel) rfl rfl (.inl rfl) (by omega) (show _ < (640 : Int) by omega) ?_
    generalize hM1 : hb_set M 256 (v79.toInt.toNat) k = M1
    have hm1 : mz_sh mz_GG M1 := by rw [← hM1]; exact hb_set_sh hA.1 rfl hb_at1 (by omega) (by omega)
    have eM1 : ∀ b j, b ≠ 256 ∨ j ≠ v79.toInt.toNat → hv M1 b j = hv M b j := by intro b j h; rw [← hM1]; exact hb_set_n h
    have sM1 : hv M1 256 (v79.toInt.toNat) = k.toInt := by rw [← hM1]; exact hb_set_v hA.1 rfl (show _ < 640 by omega)
    have wM1 : ∀ b, b ≠ 256 → M1 b = M b := by intro b h; rw [← hM1]; exact hb_set_c h
    refine he_iinc (n := 86) (i := 5) (c := 1) (L' := fun v => [some (.ref (234)), some (.int x1), some (.int x2), some (.int x3), some (.int fu), some (.int v), some (.int l), some (.int k)]) (by decide +kernel) (by decide) rfl (fun _ => rfl) (by omega) (by omega) ?_
    intro i83 hi83
    refine he_aload (n := 87) (i := 0) (by decide +kernel) rfl ?_
    refine he_getr (n := 90) (ci := 9) (j := 28) (ns := [4205, 71]) (b := 255) hm1 (by decide +kernel) rfl rfl (by decide +kernel) ?_
    refine he_iconst (n := 92) (c := 16) (by decide +kernel) (by decide) ?_
    intro c90 hc90
    refine he_iload (n := 93) (i := 1) (by decide +kernel) rfl ?_
    refine he_imul (n := 94) (p := 16 * x1.toInt) (by decide +kernel) (by rw [hc90]) (by omega) (by omega) ?_
    intro v93 hv93
    refine he_iload (n := 96) (i := 6) (by decide +kernel) rfl ?_
    refine he_iadd (n := 97) (by decide +kernel) (by omega) (by omega) ?_
    intro v96 hv96
    refine he_dup2 (n := 98) (by decide +kernel) ?_
    refine hb_ld (n := 99) (kind := 64) hm1 (by decide +kernel) rfl rfl (.inl rfl) (by omega) (show _ < (32 : Int) by omega) hb_at1 ?_
    intro v98 hv98 lv98 uv98
    have q98 : v98.toInt = hb_cnt (fun q => decide (fl q = (jl : Int))) jk := by rw [← hv98, eM1 _ _ (.inl (by decide)), show v96.toInt.toNat = 16 * wn + jl by omega]; exact a6 j2
    refine he_iconst (n := 100) (c := 1) (by decide +kernel) (by decide) ?_
    intro c99 hc99
    refine he_iadd (n := 101) (by decide +kernel) (by omega) (by omega) ?_
    intro v100 hv100
    refine hb_sta (n := 102) (kind := 64) hm1 (by decide +kernel) rfl rfl (.inl rfl) (by omega) (show _ < (32 : Int) by omega) ?_
    generalize hM2 : hb_set M1 255 (v96.toInt.toNat) v100 = M2
    have hm2 : mz_sh mz_GG M2 := by rw [← hM2]; exact hb_set_sh hm1 rfl hb_at1 (by omega) (by omega)
    have eM2 : ∀ b j, b ≠ 255 ∨ j ≠ v96.toInt.toNat → hv M2 b j = hv M1 b j := by intro b j h; rw [← hM2]; exact hb_set_n h
    have sM2 : hv M2 255 (v96.toInt.toNat) = v100.toInt := by rw [← hM2]; exact hb_set_v hm1 rfl (show _ < 32 by omega)
    have wM2 : ∀ b, b ≠ 255 → M2 b = M1 b := by intro b h; rw [← hM2]; exact hb_set_c h
    refine he_iload (n := 104) (i := 4) (by decide +kernel) rfl ?_
    refine he_iconst (n := 105) (c := 1) (by decide +kernel) (by decide) ?_
    intro c104 hc104
    refine he_iconst (n := 107) (c := 15) (by decide +kernel) (by decide) ?_
    intro c105 hc105
    refine he_iload (n := 109) (i := 6) (by decide +kernel) rfl ?_
    refine he_isub (n := 110) (by decide +kernel) (by omega) (by omega) ?_
    intro v109 hv109
    refine he_ex2 (o := 15) (n := 111) (by decide +kernel) rfl ?_
    intro v110 hv110
    have ev110 : v110 = c104 <<< (v109 &&& 31) := hv110
    have bv110 := mz_i32 v110
    have q110 := xe_shlk (x := c104) (k := 15 - jl) (by omega) (by omega) (by omega) (by omega) ev110
    rw [hc104, Int.one_mul] at q110
    refine he_iadd (n := 112) (by decide +kernel) (by omega) (by omega) ?_
    intro v111 hv111
    refine he_istore (n := 114) (i := 4) (by decide +kernel) rfl ?_
    refine he_iinc (n := 117) (i := 7) (c := 1) (L' := fun v => [some (.ref (234)), some (.int x1), some (.int x2), some (.int x3), some (.int v111), some (.int i83), some (.int l), some (.int v)]) (by decide +kernel) (by decide) rfl (fun _ => rfl) (by omega) (by omega) ?_
    intro i114 hi114
    refine he_goto (t := 48) (by decide +kernel) ?_
    have e2p : (1 : Int) * 2 ^ (15 - jl) = 2 ^ (15 - jl) := Int.one_mul _
    have hadd : (hb_cnt (fun q => decide (fl q = (jl : Int))) jk + 1) * 2 ^ (15 - jl) = hb_cnt (fun q => decide (fl q = (jl : Int))) jk * 2 ^ (15 - jl) + 2 ^ (15 - jl) := by rw [Int.add_mul, Int.one_mul]
    refine ih (jk + 1) M2 _ _ l _ (by omega) (by omega) e3 ⟨hm2, fun b n1 n2 => by rw [wM2 b n1, wM1 b n2]; exact a2 b n1 n2, fun i hi => ?_, fun i hi => ?_, fun b b1 b2 => ?_, ?_, fun b b1 b2 => ?_, fun i i1 i2 i3 => ?_, fun i i1 i2 => ?_⟩ (by rw [hcs]; omega) (by rw [hcs, hadd]; omega)
    · rw [eM2 _ _ (.inr (by omega)), eM1 _ _ (.inl (by decide))]
      exact a3 i hi
    · rw [eM2 _ _ (.inl (by decide)), eM1 _ _ (.inr (by omega))]
      exact a4 i hi
    · rw [eM2 _ _ (.inr (by omega)), eM1 _ _ (.inl (by decide))]
      exact a5 b b1 b2
    · intro _
      rw [show 16 * wn + jl = v96.toInt.toNat by omega, sM2, hcs]
      omega
    · rw [eM2 _ _ (.inr (by omega)), eM1 _ _ (.inl (by decide))]
      exact a7 b b1 b2
    · have hne := xp_ne2 (f := fl) (n := n) (i := jk) (j := i) (by omega) i1 (by omega) i2 (by intro h; subst h; omega)
      have hpi := xp_b (f := fl) (n := n) (i := i) i1 i2
      have hqi := xq_0 (f := fl) (n := n) (b := (fl i).toNat)
      rw [eM2 _ _ (.inl (by decide)), eM1 _ _ (.inr (by omega))]
      exact a8 i i1 i2 i3
    · rw [eM2 _ _ (.inl (by decide))]
      by_cases hij : i = jk
      · subst hij
        rw [← q5, show 320 * wn + us.toInt.toNat = v79.toInt.toNat by omega, sM1]
        omega
      · have hne := xp_ne2 (f := fl) (n := n) (i := jk) (j := i) (by omega) (by omega) (by omega) (by omega) hij
        have hpi := xp_b (f := fl) (n := n) (i := i) (by omega) (by omega)
        have hqi := xq_0 (f := fl) (n := n) (b := (fl i).toNat)
        rw [eM1 _ _ (.inr (by omega))]
        exact a9 i (by omega) i2
theorem yb_r {M : Nat → mq_C} (hm : mz_sh mz_GG M) {i : Nat} (hi : i < 320) : 0 ≤ hv M 254 i ∧ hv M 254 i ≤ 15 := by
  obtain ⟨m1, m2, m3⟩ := hm 254 _ rfl
  have hl : i < (M 254).2.length := by rw [m2]; exact hi
  have hw : (M 254).2[i]? = some (M 254).2[i] := List.getElem?_eq_getElem hl
  generalize (M 254).2[i] = w at hw
  have hok := m3 _ _ hw
  rw [hb_at1] at hok
  have e : hv M 254 i = hb_w mz_GG (some w) := by show hb_w mz_GG ((M 254).2[i]?) = _; rw [hw]
  rw [e]
  cases w with
  | int v => exact hok
  | _ => exact hok.elim
theorem ym_arr_l {d z u fr n wn : Nat} {fl : Nat → Int} {Mb : Nat → mq_C} {Q : (Option Value ⊕ Nat) → mq_S → Prop} {x1 x2 x3 : Int32} (hw : wn ≤ 1) (h1 : x1.toInt = (wn : Int)) (h2 : x2.toInt = (fr : Int)) (h3 : x3.toInt = (n : Int)) (hn : fr + n ≤ 320) (hn2 : n ≤ 288) (hfl : ∀ i, i < n → fl i = hv Mb 254 (fr + i))
    (K : ∀ (M' : Nat → mq_C) (r : Int32), mz_sh mz_GG M' → (∀ b, b ≠ 255 → b ≠ 256 → M' b = Mb b) → (∀ i, i < 16 * wn ∨ 16 * wn + 16 ≤ i → hv M' 255 i = hv Mb 255 i) → (∀ i, i < 320 * wn ∨ 320 * wn + 320 ≤ i → hv M' 256 i = hv Mb 256 i) → yT M' wn n fl → (ygd wn n fl → r.toInt = 1) → (¬ ygd wn n fl → r.toInt = 0) → Q (.inl (some (.int r))) (M', z, u)) : ∀ (m jl : Nat) (M : Nat → mq_C) (fu us l : Int32) (o7 : Option Value), m + jl = 16 → 1 ≤ jl → l.toInt = (jl : Int) → yA Mb M wn n fl jl 0 → us.toInt = xq fl n jl → fu.toInt = hb_sum (fun t => xc fl n (t + 1) * 2 ^ (14 - t)) (jl - 1) → mq_R mq_PP d 112 38 [some (.ref 234), some (.int x1), some (.int x2), some (.int x3), some (.int fu), some (.int us), some (.int l), o7] [] (M, z, u) Q := by
  intro m
  induction m with
  | zero =>
    intro jl M fu us l o7 e1 e2 e3 hA hu hf
    obtain rfl : jl = 16 := by omega
    obtain ⟨a1, a2, a3, a4, a5, a6, a7, a8, a9⟩ := id hA
    have hT : yT M wn n fl := ⟨fun b b1 b2 => a5 b b1 (by omega), fun i i1 i2 => a8 i i1 i2 (by
      have := hfl i i1
      have hb := yb_r a1 (i := fr + i) (by omega)
      rw [hb_vc (a2 254 (by decide) (by decide))] at hb
      omega)⟩
    have hfx : fu.toInt = xf fl n := hf
    have h1c : hv M 255 (16 * wn + 1) = xc fl n 1 := a5 1 (by decide) (by decide)
    have fin : ∀ r : Int32, (ygd wn n fl → r.toInt = 1) → (¬ ygd wn n fl → r.toInt = 0) → Q (.inl (some (.int r))) (M, z, u) := fun r g1 g2 => K M r a1 a2 a3 a4 hT g1 g2
    unfold ygd at fin
    refine he_iload (n := 40) (i := 6) (by decide +kernel) rfl ?_
    refine he_iconst (n := 42) (c := 16) (by decide +kernel) (by decide) ?_
    intro c40 hc40
    refine he_cmpge_t (n := 45) (t := 126) (by decide +kernel) (by omega) ?_
    refine he_iload (n := 128) (i := 4) (by decide +kernel) rfl ?_
    refine he_iconst (n := 130) (c := 32768) (by decide +kernel) (by decide) ?_
    intro c128 hc128
    by_cases h130 : fu.toInt = 32768
    · skip
      refine he_cmpeq_t (n := 133) (t := 160) (by decide +kernel) (by omega) ?_
      refine he_iconst (n := 161) (c := 1) (by decide +kernel) (by decide) ?_
      intro c160 hc160
      refine he_goto (t := 165) (by decide +kernel) ?_
      refine he_retz (by decide +kernel) (by omega) ?_
      exact fin _ (fun _ => by omega) (fun h => absurd (.inl (by omega)) h)
    · skip
      refine he_cmpeq_f (n := 133) (t := 160) (by decide +kernel) (by omega) ?_
      refine he_iload (n := 134) (i := 1) (by decide +kernel) rfl ?_
      refine he_iconst (n := 135) (c := 1) (by decide +kernel) (by decide) ?_
      intro c134 hc134
      by_cases h135 : x1.toInt = 1
      rotate_left
      · skip
        refine he_cmpne_t (n := 138) (t := 164) (by decide +kernel) (by omega) ?_
        refine he_iconst (n := 165) (c := 0) (by decide +kernel) (by decide) ?_
        intro c164 hc164
        refine he_retz (by decide +kernel) (by omega) ?_
        exact fin _ (fun h => by omega) (fun _ => by omega)
      · skip
        refine he_cmpne_f (n := 138) (t := 164) (by decide +kernel) (by omega) ?_
        refine he_iload (n := 140) (i := 5) (by decide +kernel) rfl ?_
        by_cases h140 : us.toInt = 0
        · skip
          refine he_ifeq_t (n := 143) (t := 160) (by decide +kernel) (by omega) ?_
          refine he_iconst (n := 161) (c := 1) (by decide +kernel) (by decide) ?_
          intro c160 hc160
          refine he_goto (t := 165) (by decide +kernel) ?_
          refine he_retz (by decide +kernel) (by omega) ?_
          exact fin _ (fun _ => by omega) (fun h => absurd (.inr ⟨by omega, .inl (by omega)⟩) h)
        · skip
          refine he_ifeq_f (n := 143) (t := 160) (by decide +kernel) (by omega) ?_
          refine he_iload (n := 145) (i := 5) (by decide +kernel) rfl ?_
          refine he_iconst (n := 146) (c := 1) (by decide +kernel) (by decide) ?_
          intro c145 hc145
          by_cases h146 : us.toInt = 1
          rotate_left
          · skip
            refine he_cmpne_t (n := 149) (t := 164) (by decide +kernel) (by omega) ?_
            refine he_iconst (n := 165) (c := 0) (by decide +kernel) (by decide) ?_
            intro c164 hc164
            refine he_retz (by decide +kernel) (by omega) ?_
            exact fin _ (fun h => by omega) (fun _ => by omega)
          · skip
            refine he_cmpne_f (n := 149) (t := 164) (by decide +kernel) (by omega) ?_
            refine he_aload (n := 150) (i := 0) (by decide +kernel) rfl ?_
            refine he_getr (n := 153) (ci := 9) (j := 28) (ns := [4205, 71]) (b := 255) hA.1 (by decide +kernel) rfl rfl (by decide +kernel) ?_
            refine he_iconst (n := 155) (c := 17) (by decide +kernel) (by decide) ?_
            intro c153 hc153
            refine hb_ld (n := 156) (kind := 64) hA.1 (by decide +kernel) rfl rfl (.inl rfl) (by omega) (show _ < (32 : Int) by omega) hb_at1 ?_
            intro v155 hv155 lv155 uv155
            refine he_iconst (n := 157) (c := 1) (by decide +kernel) (by decide) ?_
            intro c156 hc156
            have q155 : v155.toInt = xc fl n 1 := by rw [← hv155, show c153.toInt.toNat = 16 * wn + 1 by omega]; exact h1c
            by_cases h157 : v155.toInt = 1
            · skip
              refine he_cmpne_f (n := 160) (t := 164) (by decide +kernel) (by omega) ?_
              refine he_iconst (n := 161) (c := 1) (by decide +kernel) (by decide) ?_
              intro c160 hc160
              refine he_goto (t := 165) (by decide +kernel) ?_
              refine he_retz (by decide +kernel) (by omega) ?_
              exact fin _ (fun _ => by omega) (fun h => absurd (.inr ⟨by omega, .inr ⟨by omega, by omega⟩⟩) h)
            · skip
              refine he_cmpne_t (n := 160) (t := 164) (by decide +kernel) (by omega) ?_
              refine he_iconst (n := 165) (c := 0) (by decide +kernel) (by decide) ?_
              intro c164 hc164
              refine he_retz (by decide +kernel) (by omega) ?_
              exact fin _ (fun h => by omega) (fun _ => by omega)
  | succ m ih =>
    intro jl M fu us l o7 e1 e2 e3 hA hu hf
    refine he_iload (n := 40) (i := 6) (by decide +kernel) rfl ?_
    refine he_iconst (n := 42) (c := 16) (by decide +kernel) (by decide) ?_
    intro c40 hc40
    refine he_cmpge_f (n := 45) (t := 126) (by decide +kernel) (by omega) ?_
    refine he_iconst (n := 46) (c := 0) (by decide +kernel) (by decide) ?_
    intro c45 hc45
    refine he_istore (n := 48) (i := 7) (by decide +kernel) rfl ?_
    refine ym_arr_k hw h1 h2 h3 hn hn2 hfl (jl := jl) e2 (by omega) (fun M2 fu2 us2 l2 o7' hA2 hu2 hf2 hl2 => ?_) n 0 M fu us l _ (by omega) (by omega) e3 hA ?_ ?_
    · obtain ⟨a1, a2, a3, a4, a5, a6, a7, a8, a9⟩ := hA2
      refine ih (jl + 1) M2 fu2 us2 l2 o7' (by omega) (by omega) hl2 ⟨a1, a2, a3, a4, fun b b1 b2 => ?_, ?_, fun b b1 b2 => a7 b (by omega) b2, fun i i1 i2 i3 => ?_, fun i i1 _ => absurd i1 (Nat.not_lt_zero i)⟩ hu2 hf2
      · by_cases hb : b = jl
        · subst hb
          exact a6 (by omega)
        · exact a5 b b1 (by omega)
      · intro hb
        rw [a7 (jl + 1) (by omega) hb]
        rfl
      · by_cases hi : fl i = (jl : Int)
        · exact a9 i i1 hi
        · exact a8 i i1 i2 (by omega)
    · show us.toInt = xq fl n jl + 0
      omega
    · show fu.toInt = hb_sum (fun t => xc fl n (t + 1) * 2 ^ (14 - t)) (jl - 1) + 0 * 2 ^ (15 - jl)
      rw [Int.zero_mul]
      omega
theorem ym_arr_z {d z u fr n wn : Nat} {fl : Nat → Int} {Mb : Nat → mq_C} {Q : (Option Value ⊕ Nat) → mq_S → Prop} {x1 x2 x3 : Int32} (hw : wn ≤ 1) (h1 : x1.toInt = (wn : Int)) (h2 : x2.toInt = (fr : Int)) (h3 : x3.toInt = (n : Int)) (hn : fr + n ≤ 320) (hn2 : n ≤ 288) (hfl : ∀ i, i < n → fl i = hv Mb 254 (fr + i))
    (K : ∀ (M' : Nat → mq_C) (r : Int32), mz_sh mz_GG M' → (∀ b, b ≠ 255 → b ≠ 256 → M' b = Mb b) → (∀ i, i < 16 * wn ∨ 16 * wn + 16 ≤ i → hv M' 255 i = hv Mb 255 i) → (∀ i, i < 320 * wn ∨ 320 * wn + 320 ≤ i → hv M' 256 i = hv Mb 256 i) → yT M' wn n fl → (ygd wn n fl → r.toInt = 1) → (¬ ygd wn n fl → r.toInt = 0) → Q (.inl (some (.int r))) (M', z, u)) : ∀ (m j : Nat) (M : Nat → mq_C) (c0 c1 l : Int32), m + j = 16 → l.toInt = (j : Int) → c0.toInt = 0 → c1.toInt = 0 → mz_sh mz_GG M → (∀ b, b ≠ 255 → M b = Mb b) → (∀ i, i < 16 * wn ∨ 16 * wn + 16 ≤ i → hv M 255 i = hv Mb 255 i) → (∀ b, b < j → hv M 255 (16 * wn + b) = 0) → mq_R mq_PP d 112 9 [some (.ref 234), some (.int x1), some (.int x2), some (.int x3), some (.int c0), some (.int c1), some (.int l), none] [] (M, z, u) Q := by
  intro m
  induction m with
  | zero =>
    intro j M c0 c1 l e1 e2 g0 g1 hm hF hO hZ
    refine he_iload (n := 11) (i := 6) (by decide +kernel) rfl ?_
    refine he_iconst (n := 13) (c := 16) (by decide +kernel) (by decide) ?_
    intro c11 hc11
    refine he_cmpge_t (n := 16) (t := 35) (by decide +kernel) (by omega) ?_
    refine he_iconst (n := 36) (c := 1) (by decide +kernel) (by decide) ?_
    intro c35 hc35
    refine he_istore (n := 38) (i := 6) (by decide +kernel) rfl ?_
    refine ym_arr_l hw h1 h2 h3 hn hn2 hfl K 15 1 M c0 c1 _ none (by decide) (by decide) (by omega) ⟨hm, fun b n1 _ => hF b n1, hO, fun i _ => hb_vc (hF 256 (by decide)) i, fun b b1 b2 => absurd b2 (by omega), fun _ => ?_, fun b b1 b2 => hZ b (by omega), fun i i1 i2 i3 => absurd i3 (by omega), fun i i1 _ => absurd i1 (Nat.not_lt_zero i)⟩ (by rw [xq_1]; exact g1) (by show _ = (0 : Int); exact g0)
    rw [hZ 1 (by omega)]
    rfl
  | succ m ih =>
    intro j M c0 c1 l e1 e2 g0 g1 hm hF hO hZ
    refine he_iload (n := 11) (i := 6) (by decide +kernel) rfl ?_
    refine he_iconst (n := 13) (c := 16) (by decide +kernel) (by decide) ?_
    intro c11 hc11
    refine he_cmpge_f (n := 16) (t := 35) (by decide +kernel) (by omega) ?_
    refine he_aload (n := 17) (i := 0) (by decide +kernel) rfl ?_
    refine he_getr (n := 20) (ci := 9) (j := 28) (ns := [4205, 71]) (b := 255) hm (by decide +kernel) rfl rfl (by decide +kernel) ?_
    refine he_iconst (n := 22) (c := 16) (by decide +kernel) (by decide) ?_
    intro c20 hc20
    refine he_iload (n := 23) (i := 1) (by decide +kernel) rfl ?_
    refine he_imul (n := 24) (p := 16 * x1.toInt) (by decide +kernel) (by rw [hc20]) (by omega) (by omega) ?_
    intro v23 hv23
    refine he_iload (n := 26) (i := 6) (by decide +kernel) rfl ?_
    refine he_iadd (n := 27) (by decide +kernel) (by omega) (by omega) ?_
    intro v26 hv26
    refine he_iconst (n := 28) (c := 0) (by decide +kernel) (by decide) ?_
    intro c27 hc27
    refine hb_sta (n := 29) (kind := 64) hm (by decide +kernel) rfl rfl (.inl rfl) (by omega) (show _ < (32 : Int) by omega) ?_
    generalize hM1 : hb_set M 255 (v26.toInt.toNat) c27 = M1
    have hm1 : mz_sh mz_GG M1 := by rw [← hM1]; exact hb_set_sh hm rfl hb_at1 (by omega) (by omega)
    have eM1 : ∀ b j, b ≠ 255 ∨ j ≠ v26.toInt.toNat → hv M1 b j = hv M b j := by intro b j h; rw [← hM1]; exact hb_set_n h
    have sM1 : hv M1 255 (v26.toInt.toNat) = c27.toInt := by rw [← hM1]; exact hb_set_v hm rfl (show _ < 32 by omega)
    have wM1 : ∀ b, b ≠ 255 → M1 b = M b := by intro b h; rw [← hM1]; exact hb_set_c h
    refine he_iinc (n := 32) (i := 6) (c := 1) (L' := fun v => [some (.ref (234)), some (.int x1), some (.int x2), some (.int x3), some (.int c0), some (.int c1), some (.int v), none]) (by decide +kernel) (by decide) rfl (fun _ => rfl) (by omega) (by omega) ?_
    intro i29 hi29
    refine he_goto (t := 9) (by decide +kernel) ?_
    refine ih (j + 1) M1 c0 c1 _ (by omega) (by omega) g0 g1 hm1 (fun b hb => (wM1 b hb).trans (hF b hb)) (fun i hi => ?_) (fun b hb => ?_)
    · rw [eM1 _ _ (.inr (by omega))]
      exact hO i hi
    · by_cases hbj : b = j
      · rw [hbj, show 16 * wn + j = v26.toInt.toNat by omega, sM1]
        omega
      · rw [eM1 _ _ (.inr (by omega))]
        exact hZ b (by omega)
theorem ym_arrange {d z u fr n wn : Nat} {fl : Nat → Int} {Mb : Nat → mq_C} {Q : (Option Value ⊕ Nat) → mq_S → Prop} {x1 x2 x3 : Int32} (hw : wn ≤ 1) (h1 : x1.toInt = (wn : Int)) (h2 : x2.toInt = (fr : Int)) (h3 : x3.toInt = (n : Int)) (hn : fr + n ≤ 320) (hn2 : n ≤ 288) (hfl : ∀ i, i < n → fl i = hv Mb 254 (fr + i)) (hm : mz_sh mz_GG Mb)
    (K : ∀ (M' : Nat → mq_C) (r : Int32), mz_sh mz_GG M' → (∀ b, b ≠ 255 → b ≠ 256 → M' b = Mb b) → (∀ i, i < 16 * wn ∨ 16 * wn + 16 ≤ i → hv M' 255 i = hv Mb 255 i) → (∀ i, i < 320 * wn ∨ 320 * wn + 320 ≤ i → hv M' 256 i = hv Mb 256 i) → yT M' wn n fl → (ygd wn n fl → r.toInt = 1) → (¬ ygd wn n fl → r.toInt = 0) → Q (.inl (some (.int r))) (M', z, u)) : mq_R mq_PP d 112 0 [some (.ref 234), some (.int x1), some (.int x2), some (.int x3), none, none, none, none] [] (Mb, z, u) Q := by
  refine he_iconst (n := 1) (c := 0) (by decide +kernel) (by decide) ?_
  intro c0 hc0
  refine he_istore (n := 3) (i := 4) (by decide +kernel) rfl ?_
  refine he_iconst (n := 4) (c := 0) (by decide +kernel) (by decide) ?_
  intro c3 hc3
  refine he_istore (n := 6) (i := 5) (by decide +kernel) rfl ?_
  refine he_iconst (n := 7) (c := 0) (by decide +kernel) (by decide) ?_
  intro c6 hc6
  refine he_istore (n := 9) (i := 6) (by decide +kernel) rfl ?_
  exact ym_arr_z hw h1 h2 h3 hn hn2 hfl K 16 0 Mb _ _ _ (by decide) (by omega) (by omega) (by omega) hm (fun _ _ => rfl) (fun _ _ => rfl) (fun b hb => absurd hb (Nat.not_lt_zero b))
