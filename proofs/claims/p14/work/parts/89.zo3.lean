/-! The class's isSound, exactly. -/
def xd0 : xRc := (0, 0, 0, 0, 0, 0)
theorem xo_gd {l : List xRc} {i : Nat} (h : i < l.length) : l.getD i xd0 = l[i] := by
  rw [List.getD_eq_getElem?_getD, List.getElem?_eq_getElem h]
  rfl
theorem xo_all {l : List xRc} {p : xRc → Bool} : l.all p = true ↔ ∀ i, i < l.length → p (l.getD i xd0) = true := by
  rw [List.all_eq_true]
  constructor
  · intro h i hi
    rw [xo_gd hi]
    exact h _ (List.getElem_mem hi)
  · intro h x hx
    obtain ⟨i, hi, rfl⟩ := List.getElem_of_mem hx
    have := h i hi
    rw [xo_gd hi] at this
    exact this
theorem xo_ga {l : List xRc} {r : xRc} {i : Nat} (h : i < l.length) : (l ++ [r]).getD i xd0 = l.getD i xd0 := by
  rw [List.getD_eq_getElem?_getD, List.getD_eq_getElem?_getD, List.getElem?_append_left h]
theorem xo_gb {l : List xRc} {r : xRc} : (l ++ [r]).getD l.length xd0 = r := by
  rw [List.getD_eq_getElem?_getD, List.getElem?_append_right (Nat.le_refl _), Nat.sub_self]
  rfl
theorem xo_snd47_l {d z u len n dir : Nat} {M0 : Nat → mq_C} {Q : (Option Value ⊕ Nat) → mq_S → Prop} {x1 x2 : Int32} {R : Option (List xRc × Nat)} (hlen : 4 ≤ len ∧ len ≤ 240) (h1 : x1.toInt = (len : Int) - 4) (h2 : x2.toInt = (dir : Int)) (hn : hv M0 48 (len - 3) = (n : Int)) (hn6 : n ≤ 6)
    (K : ∀ (M : Nat → mq_C) (r : Int32), mz_sh mz_GG M → (∀ b, b ≠ 47 → b < 52 ∨ 57 < b → M b = M0 b) → (∀ j, j ≠ 4 → hv M 47 j = hv M0 47 j) → (∀ l, R = some (l, len - 4) → r.toInt = 1 ∧ hv M 47 4 = (l.length : Int) ∧ l.length = n ∧ ∀ i, i < l.length → xcr M 47 i = l.getD i xd0) → ((R = none ∨ ∃ l a, R = some (l, a) ∧ a ≠ len - 4) → r.toInt = 0) → Q (.inl (some (.int r))) (M, z, u)) : ∀ (m : Nat) (l : List xRc) (a : Nat) (M : Nat → mq_C) (x3 k4 : Int32), l.length + m = n → k4.toInt = (l.length : Int) → x3.toInt = (a : Int) → dir ≤ a → a ≤ 70000 → xrcs (hv M0 48) (len - 4) dir m l a = R → mz_sh mz_GG M → (∀ b, b ≠ 47 → b < 52 ∨ 57 < b → M b = M0 b) → (∀ j, j ≠ 4 → hv M 47 j = hv M0 47 j) → (∀ i, i < l.length → xcr M 47 i = l.getD i xd0) → mq_R mq_PP (d + 2) 52 56 [some (.ref 47), some (.int x1), some (.int x2), some (.int x3), some (.int k4)] [] (M, z, u) Q := by
  intro m
  induction m with
  | zero =>
    intro l a M x3 k4 e1 e2 e3 e4 e5 eR hm hf hj hc
    have uB : ∀ t, hv M 48 t = hv M0 48 t := fun t => hb_vc (hf 48 (by decide) (by decide)) t
    have eR : some (l, a) = R := eR
    refine he_iload (n := 58) (i := 4) (by decide +kernel) rfl ?_
    refine he_aload (n := 59) (i := 0) (by decide +kernel) rfl ?_
    refine he_getr (n := 62) (ci := 1) (j := 0) (ns := [1214, 9]) (b := 48) hm (by decide +kernel) rfl rfl (by decide +kernel) ?_
    refine he_iload (n := 63) (i := 1) (by decide +kernel) rfl ?_
    refine he_iconst (n := 64) (c := 1) (by decide +kernel) (by decide) ?_
    intro c63 hc63
    refine he_iadd (n := 65) (by decide +kernel) (by omega) (by omega) ?_
    intro v64 hv64
    refine hb_ld (n := 66) (kind := 64) hm (by decide +kernel) rfl rfl (.inl rfl) (by omega) (show _ < (240 : Int) by omega) hb_at1 ?_
    intro v65 hv65 lv65 uv65
    have q65 : v65.toInt = (n : Int) := by rw [← hv65, show v64.toInt.toNat = len - 3 by omega, uB]; exact hn
    refine he_cmpge_t (n := 69) (t := 110) (by decide +kernel) (by omega) ?_
    refine he_aload (n := 111) (i := 0) (by decide +kernel) rfl ?_
    refine he_aload (n := 112) (i := 0) (by decide +kernel) rfl ?_
    refine he_getr (n := 115) (ci := 1) (j := 0) (ns := [1214, 9]) (b := 48) hm (by decide +kernel) rfl rfl (by decide +kernel) ?_
    refine he_iload (n := 116) (i := 1) (by decide +kernel) rfl ?_
    refine he_iconst (n := 117) (c := 1) (by decide +kernel) (by decide) ?_
    intro c116 hc116
    refine he_iadd (n := 118) (by decide +kernel) (by omega) (by omega) ?_
    intro v117 hv117
    refine hb_ld (n := 119) (kind := 64) hm (by decide +kernel) rfl rfl (.inl rfl) (by omega) (show _ < (240 : Int) by omega) hb_at1 ?_
    intro v118 hv118 lv118 uv118
    have q118 : v118.toInt = (n : Int) := by rw [← hv118, show v117.toInt.toNat = len - 3 by omega, uB]; exact hn
    refine hb_pfd (n := 122) (ci := 1) (j := 4) (t := 0) (ns := [1224, 30]) hm (by decide +kernel) rfl rfl (by decide) (.inl rfl) ?_
    generalize hM1 : hb_set M 47 4 v118 = M1
    have hm1 : mz_sh mz_GG M1 := by rw [← hM1]; exact hb_set_sh hm rfl rfl (by omega) (by omega)
    have eM1 : ∀ b j, b ≠ 47 ∨ j ≠ 4 → hv M1 b j = hv M b j := by intro b j h; rw [← hM1]; exact hb_set_n h
    have sM1 : hv M1 47 4 = v118.toInt := by rw [← hM1]; exact hb_set_v hm rfl (by decide)
    have wM1 : ∀ b, b ≠ 47 → M1 b = M b := by intro b h; rw [← hM1]; exact hb_set_c h
    refine he_iload (n := 123) (i := 3) (by decide +kernel) rfl ?_
    refine he_iload (n := 124) (i := 1) (by decide +kernel) rfl ?_
    have f1 : ∀ b, b ≠ 47 → b < 52 ∨ 57 < b → M1 b = M0 b := fun b g1 g2 => (wM1 b g1).trans (hf b g1 g2)
    have f2 : ∀ j, j ≠ 4 → hv M1 47 j = hv M0 47 j := fun j hj4 => (eM1 _ _ (.inr hj4)).trans (hj j hj4)
    have f3 : ∀ i, i < l.length → xcr M1 47 i = l.getD i xd0 := fun i hi => by rw [xcr_c (M := M) (fun b g1 g2 => hb_vc (wM1 b (by omega)) i)]; exact hc i hi
    by_cases h124 : x3.toInt = x1.toInt
    · skip
      refine he_cmpne_f (n := 127) (t := 131) (by decide +kernel) (by omega) ?_
      refine he_iconst (n := 128) (c := 1) (by decide +kernel) (by decide) ?_
      intro c127 hc127
      refine he_goto (t := 132) (by decide +kernel) ?_
      refine he_retz (by decide +kernel) (by omega) ?_
      refine K M1 _ hm1 f1 f2 (fun l' hl' => ?_) (fun h => ?_)
      · rw [← eR] at hl'
        cases hl'
        exact ⟨by omega, by rw [sM1]; omega, by omega, f3⟩
      · exfalso
        rcases h with h | ⟨l', a', h, h'⟩
        · rw [← eR] at h
          cases h
        · rw [← eR] at h
          cases h
          omega
    · skip
      refine he_cmpne_t (n := 127) (t := 131) (by decide +kernel) (by omega) ?_
      refine he_iconst (n := 132) (c := 0) (by decide +kernel) (by decide) ?_
      intro c131 hc131
      refine he_retz (by decide +kernel) (by omega) ?_
      refine K M1 _ hm1 f1 f2 (fun l' hl' => ?_) (fun _ => by omega)
      rw [← eR] at hl'
      cases hl'
      omega
  | succ m ih =>
    intro l a M x3 k4 e1 e2 e3 e4 e5 eR hm hf hj hc
    have uB : ∀ t, hv M 48 t = hv M0 48 t := fun t => hb_vc (hf 48 (by decide) (by decide)) t
    have eB : hv M 48 = hv M0 48 := funext uB
    refine he_iload (n := 58) (i := 4) (by decide +kernel) rfl ?_
    refine he_aload (n := 59) (i := 0) (by decide +kernel) rfl ?_
    refine he_getr (n := 62) (ci := 1) (j := 0) (ns := [1214, 9]) (b := 48) hm (by decide +kernel) rfl rfl (by decide +kernel) ?_
    refine he_iload (n := 63) (i := 1) (by decide +kernel) rfl ?_
    refine he_iconst (n := 64) (c := 1) (by decide +kernel) (by decide) ?_
    intro c63 hc63
    refine he_iadd (n := 65) (by decide +kernel) (by omega) (by omega) ?_
    intro v64 hv64
    refine hb_ld (n := 66) (kind := 64) hm (by decide +kernel) rfl rfl (.inl rfl) (by omega) (show _ < (240 : Int) by omega) hb_at1 ?_
    intro v65 hv65 lv65 uv65
    have q65 : v65.toInt = (n : Int) := by rw [← hv65, show v64.toInt.toNat = len - 3 by omega, uB]; exact hn
    refine he_cmpge_f (n := 69) (t := 110) (by decide +kernel) (by omega) ?_
    refine he_aload (n := 70) (i := 0) (by decide +kernel) rfl ?_
    refine he_iload (n := 72) (i := 4) (by decide +kernel) rfl ?_
    refine he_iload (n := 73) (i := 3) (by decide +kernel) rfl ?_
    refine he_iload (n := 74) (i := 1) (by decide +kernel) rfl ?_
    refine he_v3 (n := 77) (j := 53) (ci := 1) (mx := 8) (ns := [3017, 3019, 15, 90]) (by decide +kernel) ((hb_kd (a := 47) hm rfl).trans rfl) (by show 0 ≤ 8; omega) (by show 4 ≤ 8; omega) ?_
    rw [mq_e53]
    refine xo_rr47 (i := l.length) (a := a) (e := len - 4) hm (by omega) (by omega) e3 (by omega) (by omega) ?_
    intro M1 y3 hm1 w1 k1 y1 y0
    rw [eB] at y1 y0
    show mq_R mq_PP (d + 2) 52 77 _ [.int y3] (M1, z, u) Q
    have g1 : ∀ b, b ≠ 47 → b < 52 ∨ 57 < b → M1 b = M0 b := fun b p q => (w1 b q).trans (hf b p q)
    have g2 : ∀ j, j ≠ 4 → hv M1 47 j = hv M0 47 j := fun j p => (hb_vc (w1 47 (by decide)) j).trans (hj j p)
    have g3 : ∀ i, i < l.length → xcr M1 47 i = l.getD i xd0 := fun i hi => by rw [xcr_c (M := M) (fun b _ _ => k1 b i (by omega))]; exact hc i hi
    have eB1 : hv M1 48 = hv M0 48 := funext fun t => hb_vc (g1 48 (by decide) (by decide)) t
    have bad : xrcd (hv M0 48) (len - 4) dir l a = none → R = none := fun h => by rw [← eR]; show (match xrcd (hv M0 48) (len - 4) dir l a with | some (r, a') => xrcs (hv M0 48) (len - 4) dir m (l ++ [r]) a' | none => none) = none; rw [h]
    have fail : ∀ r : Int32, r.toInt = 0 → xrcd (hv M0 48) (len - 4) dir l a = none → Q (.inl (some (.int r))) (M1, z, u) := fun r hr h => K M1 r hm1 g1 g2 (fun l' hl' => by rw [bad h] at hl'; cases hl') (fun _ => hr)
    by_cases c1 : xrk (hv M0 48) (len - 4) a ∧ xrf (xrr (hv M0 48) a (hv M0 48 a).toNat) (hv M0 48 a).toNat
    rotate_left
    · have hy := y0 c1
      refine he_istore (n := 78) (i := 3) (by decide +kernel) rfl ?_
      refine he_iload (n := 79) (i := 3) (by decide +kernel) rfl ?_
      refine he_iconst (n := 80) (c := -1) (by decide +kernel) (by decide) ?_
      intro c79 hc79
      refine he_cmpeq_t (n := 83) (t := 102) (by decide +kernel) (by omega) ?_
      refine he_iconst (n := 103) (c := 0) (by decide +kernel) (by decide) ?_
      intro c102 hc102
      refine he_retz (by decide +kernel) (by omega) ?_
      exact fail _ (by omega) (if_neg (fun h => c1 ⟨h.1, h.2.1⟩))
    obtain ⟨hy, hrec⟩ := y1 c1
    have hk1 := c1.1.1
    have hk2 := c1.1.2.1
    refine he_istore (n := 78) (i := 3) (by decide +kernel) rfl ?_
    refine he_iload (n := 79) (i := 3) (by decide +kernel) rfl ?_
    refine he_iconst (n := 80) (c := -1) (by decide +kernel) (by decide) ?_
    intro c79 hc79
    refine he_cmpeq_f (n := 83) (t := 102) (by decide +kernel) (by omega) ?_
    refine he_aload (n := 84) (i := 0) (by decide +kernel) rfl ?_
    refine he_iload (n := 86) (i := 4) (by decide +kernel) rfl ?_
    refine he_iload (n := 87) (i := 2) (by decide +kernel) rfl ?_
    refine he_v2 (n := 90) (j := 54) (ci := 1) (mx := 4) (ns := [3022, 3024, 16, 94]) (by decide +kernel) ((hb_kd (a := 47) hm1 rfl).trans rfl) (by show 0 ≤ 8; omega) (by show 3 ≤ 4; omega) ?_
    rw [mq_e54]
    refine xo_body47 (i := l.length) (dir := dir) hm1 (by omega) (by omega) h2 (by omega) ?_
    intro r2 ra rb
    rw [eB1, hrec] at ra rb
    show mq_R mq_PP (d + 2) 52 90 _ [.int r2] (M1, z, u) Q
    by_cases c2 : xrb2 (hv M0 48) dir (xrr (hv M0 48) a (hv M0 48 a).toNat)
    rotate_left
    · have hr2 := rb c2
      refine he_ifeq_t (n := 93) (t := 102) (by decide +kernel) (by omega) ?_
      refine he_iconst (n := 103) (c := 0) (by decide +kernel) (by decide) ?_
      intro c102 hc102
      refine he_retz (by decide +kernel) (by omega) ?_
      exact fail _ (by omega) (if_neg (fun h => c2 h.2.2.1))
    have hr2 := ra c2
    refine he_ifeq_f (n := 93) (t := 102) (by decide +kernel) (by omega) ?_
    refine he_aload (n := 94) (i := 0) (by decide +kernel) rfl ?_
    refine he_iload (n := 96) (i := 4) (by decide +kernel) rfl ?_
    refine he_v1 (n := 99) (j := 55) (ci := 1) (mx := 7) (ns := [3026, 3028, 17, 98]) (by decide +kernel) ((hb_kd (a := 47) hm1 rfl).trans rfl) (by show 0 ≤ 8; omega) (by show 2 ≤ 7; omega) ?_
    rw [mq_e55]
    refine xo_apart47 (i := l.length) hm1 (by omega) (by omega) ?_
    intro r3 sa sb
    rw [hrec] at sa sb
    show mq_R mq_PP (d + 2) 52 99 _ [.int r3] (M1, z, u) Q
    by_cases c3 : (l.all fun k => decide (xap (xrr (hv M0 48) a (hv M0 48 a).toNat) k)) = true
    rotate_left
    · have hr3 := sb (Classical.byContradiction fun hne => c3 (xo_all.mpr fun i hi => decide_eq_true (Classical.byContradiction fun h => hne ⟨i, hi, by rw [g3 i hi]; exact h⟩)))
      refine he_ifne_f (n := 102) (t := 104) (by decide +kernel) (by omega) ?_
      refine he_iconst (n := 103) (c := 0) (by decide +kernel) (by decide) ?_
      intro c102 hc102
      refine he_retz (by decide +kernel) (by omega) ?_
      exact fail _ (by omega) (if_neg (fun h => c3 h.2.2.2))
    have hr3 := sa (fun k hk => by rw [g3 k hk]; exact of_decide_eq_true (xo_all.mp c3 k hk))
    refine he_ifne_t (n := 102) (t := 104) (by decide +kernel) (by omega) ?_
    refine he_iinc (n := 107) (i := 4) (c := 1) (L' := fun v => [some (.ref (47)), some (.int x1), some (.int x2), some (.int y3), some (.int v)]) (by decide +kernel) (by decide) rfl (fun _ => rfl) (by omega) (by omega) ?_
    intro i104 hi104
    refine he_goto (t := 56) (by decide +kernel) ?_
    refine ih (l ++ [xrr (hv M0 48) a (hv M0 48 a).toNat]) (a + 12 + (hv M0 48 a).toNat) M1 _ _ (by rw [List.length_append]; show _ + 1 + _ = _; omega) (by rw [List.length_append]; show _ = ((_ + 1 : Nat) : Int); omega) (by omega) (by omega) (by omega) ?_ hm1 g1 g2 (fun i hi => ?_)
    · rw [← eR]
      show _ = (match xrcd (hv M0 48) (len - 4) dir l a with | some (r, a') => xrcs (hv M0 48) (len - 4) dir m (l ++ [r]) a' | none => none)
      rw [show xrcd (hv M0 48) (len - 4) dir l a = some _ from if_pos ⟨c1.1, c1.2, c2, c3⟩]
    · rw [List.length_append] at hi
      have hi : i < l.length + 1 := hi
      by_cases e : i = l.length
      · rw [e, xo_gb]
        exact hrec
      · rw [xo_ga (by omega)]
        exact g3 i (by omega)
theorem xo_snd47 {d z u len : Nat} {M : Nat → mq_C} {Q : (Option Value ⊕ Nat) → mq_S → Prop} (hm : mz_sh mz_GG M) (hl : hv M 47 1 = (len : Int)) (hl2 : len ≤ 240)
    (K : ∀ (M' : Nat → mq_C) (r : Int32), mz_sh mz_GG M' → (∀ b, b ≠ 47 → b < 52 ∨ 57 < b → M' b = M b) → (∀ j, j ≠ 4 → hv M' 47 j = hv M 47 j) → (∀ l, xsnd (hv M 48) len = some l → r.toInt = 1 ∧ hv M' 47 4 = (l.length : Int) ∧ l.length ≤ 6 ∧ ∀ i, i < l.length → xcr M' 47 i = l.getD i xd0) → (xsnd (hv M 48) len = none → r.toInt = 0) → Q (.inl (some (.int r))) (M', z, u)) : mq_R mq_PP (d + 2) 52 0 [some (.ref 47), none, none, none, none] [] (M, z, u) Q := by
  refine he_aload (n := 1) (i := 0) (by decide +kernel) rfl ?_
  refine hb_gfd (n := 4) (ci := 1) (j := 1) (ns := [1217, 15]) hm (by decide +kernel) rfl rfl (by decide) rfl ?_
  intro v1 hv1 lv1 uv1
  refine he_iconst (n := 5) (c := 4) (by decide +kernel) (by decide) ?_
  intro c4 hc4
  refine he_isub (n := 6) (by decide +kernel) (by omega) (by omega) ?_
  intro v5 hv5
  refine he_istore (n := 7) (i := 1) (by decide +kernel) rfl ?_
  refine he_aload (n := 8) (i := 0) (by decide +kernel) rfl ?_
  refine he_iconst (n := 9) (c := 0) (by decide +kernel) (by decide) ?_
  intro c8 hc8
  refine hb_pfd (n := 12) (ci := 1) (j := 4) (t := 0) (ns := [1224, 30]) hm (by decide +kernel) rfl rfl (by decide) (.inl rfl) ?_
  generalize hM1 : hb_set M 47 4 c8 = M1
  have hm1 : mz_sh mz_GG M1 := by rw [← hM1]; exact hb_set_sh hm rfl rfl (by omega) (by omega)
  have eM1 : ∀ b j, b ≠ 47 ∨ j ≠ 4 → hv M1 b j = hv M b j := by intro b j h; rw [← hM1]; exact hb_set_n h
  have sM1 : hv M1 47 4 = c8.toInt := by rw [← hM1]; exact hb_set_v hm rfl (by decide)
  have wM1 : ∀ b, b ≠ 47 → M1 b = M b := by intro b h; rw [← hM1]; exact hb_set_c h
  refine he_iload (n := 13) (i := 1) (by decide +kernel) rfl ?_
  have f1 : ∀ b, b ≠ 47 → b < 52 ∨ 57 < b → M1 b = M b := fun b g1 _ => wM1 b g1
  have f2 : ∀ j, j ≠ 4 → hv M1 47 j = hv M 47 j := fun j hj4 => eM1 _ _ (.inr hj4)
  have uB : ∀ t, hv M1 48 t = hv M 48 t := fun t => eM1 _ _ (.inl (by decide))
  have no : ∀ r : Int32, r.toInt = 0 → ¬ (4 ≤ len ∧ hv M 48 (len - 4) = 80 ∧ hv M 48 (len - 3) ≤ 6) → Q (.inl (some (.int r))) (M1, z, u) := fun r hr hn => K M1 r hm1 f1 f2 (fun l hl' => by unfold xsnd at hl'; rw [if_neg hn] at hl'; cases hl') (fun _ => hr)
  by_cases g13 : v5.toInt < 0
  · skip
    refine he_iflt_t (n := 16) (t := 40) (by decide +kernel) (by omega) ?_
    refine he_iconst (n := 41) (c := 0) (by decide +kernel) (by decide) ?_
    intro c40 hc40
    refine he_retz (by decide +kernel) (by omega) ?_
    exact no _ (by omega) (fun h => by omega)
  refine he_iflt_f (n := 16) (t := 40) (by decide +kernel) (by omega) ?_
  refine he_aload (n := 17) (i := 0) (by decide +kernel) rfl ?_
  refine he_getr (n := 20) (ci := 1) (j := 0) (ns := [1214, 9]) (b := 48) hm1 (by decide +kernel) rfl rfl (by decide +kernel) ?_
  refine he_iload (n := 21) (i := 1) (by decide +kernel) rfl ?_
  refine hb_ld (n := 22) (kind := 64) hm1 (by decide +kernel) rfl rfl (.inl rfl) (by omega) (show _ < (240 : Int) by omega) hb_at1 ?_
  intro v21 hv21 lv21 uv21
  refine he_iconst (n := 24) (c := 80) (by decide +kernel) (by decide) ?_
  intro c22 hc22
  have q21 : hv M 48 (len - 4) = v21.toInt := by rw [← hv21, show v5.toInt.toNat = len - 4 by omega, uB]
  by_cases g24 : v21.toInt = c22.toInt
  rotate_left
  · skip
    refine he_cmpne_t (n := 27) (t := 40) (by decide +kernel) (by omega) ?_
    refine he_iconst (n := 41) (c := 0) (by decide +kernel) (by decide) ?_
    intro c40 hc40
    refine he_retz (by decide +kernel) (by omega) ?_
    exact no _ (by omega) (fun h => by omega)
  refine he_cmpne_f (n := 27) (t := 40) (by decide +kernel) (by omega) ?_
  refine he_aload (n := 28) (i := 0) (by decide +kernel) rfl ?_
  refine he_getr (n := 31) (ci := 1) (j := 0) (ns := [1214, 9]) (b := 48) hm1 (by decide +kernel) rfl rfl (by decide +kernel) ?_
  refine he_iload (n := 32) (i := 1) (by decide +kernel) rfl ?_
  refine he_iconst (n := 33) (c := 1) (by decide +kernel) (by decide) ?_
  intro c32 hc32
  refine he_iadd (n := 34) (by decide +kernel) (by omega) (by omega) ?_
  intro v33 hv33
  refine hb_ld (n := 35) (kind := 64) hm1 (by decide +kernel) rfl rfl (.inl rfl) (by omega) (show _ < (240 : Int) by omega) hb_at1 ?_
  intro v34 hv34 lv34 uv34
  refine he_iconst (n := 37) (c := 6) (by decide +kernel) (by decide) ?_
  intro c35 hc35
  have q34 : hv M 48 (len - 3) = v34.toInt := by rw [← hv34, show v33.toInt.toNat = len - 3 by omega, uB]
  by_cases g37 : v34.toInt ≤ c35.toInt
  rotate_left
  · skip
    refine he_cmple_f (n := 40) (t := 42) (by decide +kernel) (by omega) ?_
    refine he_iconst (n := 41) (c := 0) (by decide +kernel) (by decide) ?_
    intro c40 hc40
    refine he_retz (by decide +kernel) (by omega) ?_
    exact no _ (by omega) (fun h => by omega)
  refine he_cmple_t (n := 40) (t := 42) (by decide +kernel) (by omega) ?_
  refine he_aload (n := 43) (i := 0) (by decide +kernel) rfl ?_
  refine he_iload (n := 44) (i := 1) (by decide +kernel) rfl ?_
  refine he_iconst (n := 45) (c := 2) (by decide +kernel) (by decide) ?_
  intro c44 hc44
  refine he_iadd (n := 46) (by decide +kernel) (by omega) (by omega) ?_
  intro v45 hv45
  refine he_iconst (n := 47) (c := 2) (by decide +kernel) (by decide) ?_
  intro c46 hc46
  refine he_v2 (n := 50) (j := 56) (ci := 1) (mx := 5) (ns := [3013, 3015, 14, 86]) (by decide +kernel) ((hb_kd (a := 47) hm1 rfl).trans rfl) (by show 0 ≤ 8; omega) (by show 3 ≤ 5; omega) ?_
  rw [mq_e56]
  refine xo_num47 (a := len - 2) (n := 2) hm1 (by omega) (by omega) (by omega) (by omega) ?_
  intro x2 hx2
  show mq_R mq_PP (d + 2) 52 50 _ [.int x2] (M1, z, u) Q
  rw [show hv M1 48 = hv M 48 from funext uB] at hx2
  have p2 : xnN (hv M 48) (len - 2) 2 < 65536 := xnN_lt 2 (fun t ht => (xx_rng (c := _) hm (a := 48) (i := len - 2 + t) (lo := 0) (hi := 255) rfl (show len - 2 + t < 240 by omega) hb_at1).2)
  rw [xs32_p (by omega)] at hx2
  refine he_istore (n := 51) (i := 2) (by decide +kernel) rfl ?_
  refine he_iload (n := 52) (i := 2) (by decide +kernel) rfl ?_
  refine he_istore (n := 53) (i := 3) (by decide +kernel) rfl ?_
  refine he_iconst (n := 54) (c := 0) (by decide +kernel) (by decide) ?_
  intro cb53 hcb53
  refine he_istore (n := 56) (i := 4) (by decide +kernel) rfl ?_
  refine xo_snd47_l (M0 := M) (len := len) (n := v34.toInt.toNat) (dir := xnN (hv M 48) (len - 2) 2) (R := xrcs (hv M 48) (len - 4) (xnN (hv M 48) (len - 2) 2) v34.toInt.toNat [] (xnN (hv M 48) (len - 2) 2)) ⟨by omega, hl2⟩ (by omega) hx2 (by omega) (by omega) ?_ v34.toInt.toNat [] (xnN (hv M 48) (len - 2) 2) M1 _ _ (by show 0 + _ = _; omega) (by show _ = ((0 : Nat) : Int); omega) hx2 (Nat.le_refl _) (by omega) rfl hm1 f1 f2 (fun i hi => absurd hi (Nat.not_lt_zero i))
  intro M' r hm' k1 k2 k3 k4
  have hX : xsnd (hv M 48) len = (match xrcs (hv M 48) (len - 4) (xnN (hv M 48) (len - 2) 2) v34.toInt.toNat [] (xnN (hv M 48) (len - 2) 2) with | some (l, a) => if a = len - 4 then some l else none | none => none) := by
    unfold xsnd
    rw [if_pos ⟨by omega, by omega, by omega⟩, q34]
    rfl
  generalize xrcs (hv M 48) (len - 4) (xnN (hv M 48) (len - 2) 2) v34.toInt.toNat [] (xnN (hv M 48) (len - 2) 2) = R at k3 k4 hX
  refine K M' r hm' k1 k2 (fun l hl' => ?_) (fun h => ?_)
  · rw [hX] at hl'
    rcases R with _ | ⟨l1, a1⟩
    · cases hl'
    · have hl' : (if a1 = len - 4 then some l1 else none) = some l := hl'
      by_cases ea : a1 = len - 4
      · rw [if_pos ea] at hl'
        cases hl'
        obtain ⟨t1, t2, t3, t4⟩ := k3 l (by rw [ea])
        exact ⟨t1, t2, by omega, t4⟩
      · rw [if_neg ea] at hl'
        cases hl'
  · rw [hX] at h
    rcases R with _ | ⟨l1, a1⟩
    · exact k4 (.inl rfl)
    · have h : (if a1 = len - 4 then some l1 else none) = none := h
      by_cases ea : a1 = len - 4
      · rw [if_pos ea] at h
        cases h
      · exact k4 (.inr ⟨l1, a1, rfl, ea⟩)
theorem xo_snd58_l {d z u len n dir : Nat} {M0 : Nat → mq_C} {Q : (Option Value ⊕ Nat) → mq_S → Prop} {x1 x2 : Int32} {R : Option (List xRc × Nat)} (hlen : 4 ≤ len ∧ len ≤ 240) (h1 : x1.toInt = (len : Int) - 4) (h2 : x2.toInt = (dir : Int)) (hn : hv M0 59 (len - 3) = (n : Int)) (hn6 : n ≤ 6)
    (K : ∀ (M : Nat → mq_C) (r : Int32), mz_sh mz_GG M → (∀ b, b ≠ 58 → b < 63 ∨ 68 < b → M b = M0 b) → (∀ j, j ≠ 4 → hv M 58 j = hv M0 58 j) → (∀ l, R = some (l, len - 4) → r.toInt = 1 ∧ hv M 58 4 = (l.length : Int) ∧ l.length = n ∧ ∀ i, i < l.length → xcr M 58 i = l.getD i xd0) → ((R = none ∨ ∃ l a, R = some (l, a) ∧ a ≠ len - 4) → r.toInt = 0) → Q (.inl (some (.int r))) (M, z, u)) : ∀ (m : Nat) (l : List xRc) (a : Nat) (M : Nat → mq_C) (x3 k4 : Int32), l.length + m = n → k4.toInt = (l.length : Int) → x3.toInt = (a : Int) → dir ≤ a → a ≤ 70000 → xrcs (hv M0 59) (len - 4) dir m l a = R → mz_sh mz_GG M → (∀ b, b ≠ 58 → b < 63 ∨ 68 < b → M b = M0 b) → (∀ j, j ≠ 4 → hv M 58 j = hv M0 58 j) → (∀ i, i < l.length → xcr M 58 i = l.getD i xd0) → mq_R mq_PP (d + 2) 52 56 [some (.ref 58), some (.int x1), some (.int x2), some (.int x3), some (.int k4)] [] (M, z, u) Q := by
  intro m
  induction m with
  | zero =>
    intro l a M x3 k4 e1 e2 e3 e4 e5 eR hm hf hj hc
    have uB : ∀ t, hv M 59 t = hv M0 59 t := fun t => hb_vc (hf 59 (by decide) (by decide)) t
    have eR : some (l, a) = R := eR
    refine he_iload (n := 58) (i := 4) (by decide +kernel) rfl ?_
    refine he_aload (n := 59) (i := 0) (by decide +kernel) rfl ?_
    refine he_getr (n := 62) (ci := 1) (j := 0) (ns := [1214, 9]) (b := 59) hm (by decide +kernel) rfl rfl (by decide +kernel) ?_
    refine he_iload (n := 63) (i := 1) (by decide +kernel) rfl ?_
    refine he_iconst (n := 64) (c := 1) (by decide +kernel) (by decide) ?_
    intro c63 hc63
    refine he_iadd (n := 65) (by decide +kernel) (by omega) (by omega) ?_
    intro v64 hv64
    refine hb_ld (n := 66) (kind := 64) hm (by decide +kernel) rfl rfl (.inl rfl) (by omega) (show _ < (240 : Int) by omega) hb_at1 ?_
    intro v65 hv65 lv65 uv65
    have q65 : v65.toInt = (n : Int) := by rw [← hv65, show v64.toInt.toNat = len - 3 by omega, uB]; exact hn
    refine he_cmpge_t (n := 69) (t := 110) (by decide +kernel) (by omega) ?_
    refine he_aload (n := 111) (i := 0) (by decide +kernel) rfl ?_
    refine he_aload (n := 112) (i := 0) (by decide +kernel) rfl ?_
    refine he_getr (n := 115) (ci := 1) (j := 0) (ns := [1214, 9]) (b := 59) hm (by decide +kernel) rfl rfl (by decide +kernel) ?_
    refine he_iload (n := 116) (i := 1) (by decide +kernel) rfl ?_
    refine he_iconst (n := 117) (c := 1) (by decide +kernel) (by decide) ?_
    intro c116 hc116
    refine he_iadd (n := 118) (by decide +kernel) (by omega) (by omega) ?_
    intro v117 hv117
    refine hb_ld (n := 119) (kind := 64) hm (by decide +kernel) rfl rfl (.inl rfl) (by omega) (show _ < (240 : Int) by omega) hb_at1 ?_
    intro v118 hv118 lv118 uv118
    have q118 : v118.toInt = (n : Int) := by rw [← hv118, show v117.toInt.toNat = len - 3 by omega, uB]; exact hn
    refine hb_pfd (n := 122) (ci := 1) (j := 4) (t := 0) (ns := [1224, 30]) hm (by decide +kernel) rfl rfl (by decide) (.inl rfl) ?_
    generalize hM1 : hb_set M 58 4 v118 = M1
    have hm1 : mz_sh mz_GG M1 := by rw [← hM1]; exact hb_set_sh hm rfl rfl (by omega) (by omega)
    have eM1 : ∀ b j, b ≠ 58 ∨ j ≠ 4 → hv M1 b j = hv M b j := by intro b j h; rw [← hM1]; exact hb_set_n h
    have sM1 : hv M1 58 4 = v118.toInt := by rw [← hM1]; exact hb_set_v hm rfl (by decide)
    have wM1 : ∀ b, b ≠ 58 → M1 b = M b := by intro b h; rw [← hM1]; exact hb_set_c h
    refine he_iload (n := 123) (i := 3) (by decide +kernel) rfl ?_
    refine he_iload (n := 124) (i := 1) (by decide +kernel) rfl ?_
    have f1 : ∀ b, b ≠ 58 → b < 63 ∨ 68 < b → M1 b = M0 b := fun b g1 g2 => (wM1 b g1).trans (hf b g1 g2)
    have f2 : ∀ j, j ≠ 4 → hv M1 58 j = hv M0 58 j := fun j hj4 => (eM1 _ _ (.inr hj4)).trans (hj j hj4)
    have f3 : ∀ i, i < l.length → xcr M1 58 i = l.getD i xd0 := fun i hi => by rw [xcr_c (M := M) (fun b g1 g2 => hb_vc (wM1 b (by omega)) i)]; exact hc i hi
    by_cases h124 : x3.toInt = x1.toInt
    · skip
      refine he_cmpne_f (n := 127) (t := 131) (by decide +kernel) (by omega) ?_
      refine he_iconst (n := 128) (c := 1) (by decide +kernel) (by decide) ?_
      intro c127 hc127
      refine he_goto (t := 132) (by decide +kernel) ?_
      refine he_retz (by decide +kernel) (by omega) ?_
      refine K M1 _ hm1 f1 f2 (fun l' hl' => ?_) (fun h => ?_)
      · rw [← eR] at hl'
        cases hl'
        exact ⟨by omega, by rw [sM1]; omega, by omega, f3⟩
      · exfalso
        rcases h with h | ⟨l', a', h, h'⟩
        · rw [← eR] at h
          cases h
        · rw [← eR] at h
          cases h
          omega
    · skip
      refine he_cmpne_t (n := 127) (t := 131) (by decide +kernel) (by omega) ?_
      refine he_iconst (n := 132) (c := 0) (by decide +kernel) (by decide) ?_
      intro c131 hc131
      refine he_retz (by decide +kernel) (by omega) ?_
      refine K M1 _ hm1 f1 f2 (fun l' hl' => ?_) (fun _ => by omega)
      rw [← eR] at hl'
      cases hl'
      omega
  | succ m ih =>
    intro l a M x3 k4 e1 e2 e3 e4 e5 eR hm hf hj hc
    have uB : ∀ t, hv M 59 t = hv M0 59 t := fun t => hb_vc (hf 59 (by decide) (by decide)) t
    have eB : hv M 59 = hv M0 59 := funext uB
    refine he_iload (n := 58) (i := 4) (by decide +kernel) rfl ?_
    refine he_aload (n := 59) (i := 0) (by decide +kernel) rfl ?_
    refine he_getr (n := 62) (ci := 1) (j := 0) (ns := [1214, 9]) (b := 59) hm (by decide +kernel) rfl rfl (by decide +kernel) ?_
    refine he_iload (n := 63) (i := 1) (by decide +kernel) rfl ?_
    refine he_iconst (n := 64) (c := 1) (by decide +kernel) (by decide) ?_
    intro c63 hc63
    refine he_iadd (n := 65) (by decide +kernel) (by omega) (by omega) ?_
    intro v64 hv64
    refine hb_ld (n := 66) (kind := 64) hm (by decide +kernel) rfl rfl (.inl rfl) (by omega) (show _ < (240 : Int) by omega) hb_at1 ?_
    intro v65 hv65 lv65 uv65
    have q65 : v65.toInt = (n : Int) := by rw [← hv65, show v64.toInt.toNat = len - 3 by omega, uB]; exact hn
    refine he_cmpge_f (n := 69) (t := 110) (by decide +kernel) (by omega) ?_
    refine he_aload (n := 70) (i := 0) (by decide +kernel) rfl ?_
    refine he_iload (n := 72) (i := 4) (by decide +kernel) rfl ?_
    refine he_iload (n := 73) (i := 3) (by decide +kernel) rfl ?_
    refine he_iload (n := 74) (i := 1) (by decide +kernel) rfl ?_
    refine he_v3 (n := 77) (j := 53) (ci := 1) (mx := 8) (ns := [3017, 3019, 15, 90]) (by decide +kernel) ((hb_kd (a := 58) hm rfl).trans rfl) (by show 0 ≤ 8; omega) (by show 4 ≤ 8; omega) ?_
    rw [mq_e53]
    refine xo_rr58 (i := l.length) (a := a) (e := len - 4) hm (by omega) (by omega) e3 (by omega) (by omega) ?_
    intro M1 y3 hm1 w1 k1 y1 y0
    rw [eB] at y1 y0
    show mq_R mq_PP (d + 2) 52 77 _ [.int y3] (M1, z, u) Q
    have g1 : ∀ b, b ≠ 58 → b < 63 ∨ 68 < b → M1 b = M0 b := fun b p q => (w1 b q).trans (hf b p q)
    have g2 : ∀ j, j ≠ 4 → hv M1 58 j = hv M0 58 j := fun j p => (hb_vc (w1 58 (by decide)) j).trans (hj j p)
    have g3 : ∀ i, i < l.length → xcr M1 58 i = l.getD i xd0 := fun i hi => by rw [xcr_c (M := M) (fun b _ _ => k1 b i (by omega))]; exact hc i hi
    have eB1 : hv M1 59 = hv M0 59 := funext fun t => hb_vc (g1 59 (by decide) (by decide)) t
    have bad : xrcd (hv M0 59) (len - 4) dir l a = none → R = none := fun h => by rw [← eR]; show (match xrcd (hv M0 59) (len - 4) dir l a with | some (r, a') => xrcs (hv M0 59) (len - 4) dir m (l ++ [r]) a' | none => none) = none; rw [h]
    have fail : ∀ r : Int32, r.toInt = 0 → xrcd (hv M0 59) (len - 4) dir l a = none → Q (.inl (some (.int r))) (M1, z, u) := fun r hr h => K M1 r hm1 g1 g2 (fun l' hl' => by rw [bad h] at hl'; cases hl') (fun _ => hr)
    by_cases c1 : xrk (hv M0 59) (len - 4) a ∧ xrf (xrr (hv M0 59) a (hv M0 59 a).toNat) (hv M0 59 a).toNat
    rotate_left
    · have hy := y0 c1
      refine he_istore (n := 78) (i := 3) (by decide +kernel) rfl ?_
      refine he_iload (n := 79) (i := 3) (by decide +kernel) rfl ?_
      refine he_iconst (n := 80) (c := -1) (by decide +kernel) (by decide) ?_
      intro c79 hc79
      refine he_cmpeq_t (n := 83) (t := 102) (by decide +kernel) (by omega) ?_
      refine he_iconst (n := 103) (c := 0) (by decide +kernel) (by decide) ?_
      intro c102 hc102
      refine he_retz (by decide +kernel) (by omega) ?_
      exact fail _ (by omega) (if_neg (fun h => c1 ⟨h.1, h.2.1⟩))
    obtain ⟨hy, hrec⟩ := y1 c1
    have hk1 := c1.1.1
    have hk2 := c1.1.2.1
    refine he_istore (n := 78) (i := 3) (by decide +kernel) rfl ?_
    refine he_iload (n := 79) (i := 3) (by decide +kernel) rfl ?_
    refine he_iconst (n := 80) (c := -1) (by decide +kernel) (by decide) ?_
    intro c79 hc79
    refine he_cmpeq_f (n := 83) (t := 102) (by decide +kernel) (by omega) ?_
    refine he_aload (n := 84) (i := 0) (by decide +kernel) rfl ?_
    refine he_iload (n := 86) (i := 4) (by decide +kernel) rfl ?_
    refine he_iload (n := 87) (i := 2) (by decide +kernel) rfl ?_
    refine he_v2 (n := 90) (j := 54) (ci := 1) (mx := 4) (ns := [3022, 3024, 16, 94]) (by decide +kernel) ((hb_kd (a := 58) hm1 rfl).trans rfl) (by show 0 ≤ 8; omega) (by show 3 ≤ 4; omega) ?_
    rw [mq_e54]
    refine xo_body58 (i := l.length) (dir := dir) hm1 (by omega) (by omega) h2 (by omega) ?_
    intro r2 ra rb
    rw [eB1, hrec] at ra rb
    show mq_R mq_PP (d + 2) 52 90 _ [.int r2] (M1, z, u) Q
    by_cases c2 : xrb2 (hv M0 59) dir (xrr (hv M0 59) a (hv M0 59 a).toNat)
    rotate_left
    · have hr2 := rb c2
      refine he_ifeq_t (n := 93) (t := 102) (by decide +kernel) (by omega) ?_
      refine he_iconst (n := 103) (c := 0) (by decide +kernel) (by decide) ?_
      intro c102 hc102
      refine he_retz (by decide +kernel) (by omega) ?_
      exact fail _ (by omega) (if_neg (fun h => c2 h.2.2.1))
    have hr2 := ra c2
    refine he_ifeq_f (n := 93) (t := 102) (by decide +kernel) (by omega) ?_
    refine he_aload (n := 94) (i := 0) (by decide +kernel) rfl ?_
    refine he_iload (n := 96) (i := 4) (by decide +kernel) rfl ?_
    refine he_v1 (n := 99) (j := 55) (ci := 1) (mx := 7) (ns := [3026, 3028, 17, 98]) (by decide +kernel) ((hb_kd (a := 58) hm1 rfl).trans rfl) (by show 0 ≤ 8; omega) (by show 2 ≤ 7; omega) ?_
    rw [mq_e55]
    refine xo_apart58 (i := l.length) hm1 (by omega) (by omega) ?_
    intro r3 sa sb
    rw [hrec] at sa sb
    show mq_R mq_PP (d + 2) 52 99 _ [.int r3] (M1, z, u) Q
    by_cases c3 : (l.all fun k => decide (xap (xrr (hv M0 59) a (hv M0 59 a).toNat) k)) = true
    rotate_left
    · have hr3 := sb (Classical.byContradiction fun hne => c3 (xo_all.mpr fun i hi => decide_eq_true (Classical.byContradiction fun h => hne ⟨i, hi, by rw [g3 i hi]; exact h⟩)))
      refine he_ifne_f (n := 102) (t := 104) (by decide +kernel) (by omega) ?_
      refine he_iconst (n := 103) (c := 0) (by decide +kernel) (by decide) ?_
      intro c102 hc102
      refine he_retz (by decide +kernel) (by omega) ?_
      exact fail _ (by omega) (if_neg (fun h => c3 h.2.2.2))
    have hr3 := sa (fun k hk => by rw [g3 k hk]; exact of_decide_eq_true (xo_all.mp c3 k hk))
    refine he_ifne_t (n := 102) (t := 104) (by decide +kernel) (by omega) ?_
    refine he_iinc (n := 107) (i := 4) (c := 1) (L' := fun v => [some (.ref (58)), some (.int x1), some (.int x2), some (.int y3), some (.int v)]) (by decide +kernel) (by decide) rfl (fun _ => rfl) (by omega) (by omega) ?_
    intro i104 hi104
    refine he_goto (t := 56) (by decide +kernel) ?_
    refine ih (l ++ [xrr (hv M0 59) a (hv M0 59 a).toNat]) (a + 12 + (hv M0 59 a).toNat) M1 _ _ (by rw [List.length_append]; show _ + 1 + _ = _; omega) (by rw [List.length_append]; show _ = ((_ + 1 : Nat) : Int); omega) (by omega) (by omega) (by omega) ?_ hm1 g1 g2 (fun i hi => ?_)
    · rw [← eR]
      show _ = (match xrcd (hv M0 59) (len - 4) dir l a with | some (r, a') => xrcs (hv M0 59) (len - 4) dir m (l ++ [r]) a' | none => none)
      rw [show xrcd (hv M0 59) (len - 4) dir l a = some _ from if_pos ⟨c1.1, c1.2, c2, c3⟩]
    · rw [List.length_append] at hi
      have hi : i < l.length + 1 := hi
      by_cases e : i = l.length
      · rw [e, xo_gb]
        exact hrec
      · rw [xo_ga (by omega)]
        exact g3 i (by omega)
theorem xo_snd58 {d z u len : Nat} {M : Nat → mq_C} {Q : (Option Value ⊕ Nat) → mq_S → Prop} (hm : mz_sh mz_GG M) (hl : hv M 58 1 = (len : Int)) (hl2 : len ≤ 240)
    (K : ∀ (M' : Nat → mq_C) (r : Int32), mz_sh mz_GG M' → (∀ b, b ≠ 58 → b < 63 ∨ 68 < b → M' b = M b) → (∀ j, j ≠ 4 → hv M' 58 j = hv M 58 j) → (∀ l, xsnd (hv M 59) len = some l → r.toInt = 1 ∧ hv M' 58 4 = (l.length : Int) ∧ l.length ≤ 6 ∧ ∀ i, i < l.length → xcr M' 58 i = l.getD i xd0) → (xsnd (hv M 59) len = none → r.toInt = 0) → Q (.inl (some (.int r))) (M', z, u)) : mq_R mq_PP (d + 2) 52 0 [some (.ref 58), none, none, none, none] [] (M, z, u) Q := by
  refine he_aload (n := 1) (i := 0) (by decide +kernel) rfl ?_
  refine hb_gfd (n := 4) (ci := 1) (j := 1) (ns := [1217, 15]) hm (by decide +kernel) rfl rfl (by decide) rfl ?_
  intro v1 hv1 lv1 uv1
  refine he_iconst (n := 5) (c := 4) (by decide +kernel) (by decide) ?_
  intro c4 hc4
  refine he_isub (n := 6) (by decide +kernel) (by omega) (by omega) ?_
  intro v5 hv5
  refine he_istore (n := 7) (i := 1) (by decide +kernel) rfl ?_
  refine he_aload (n := 8) (i := 0) (by decide +kernel) rfl ?_
  refine he_iconst (n := 9) (c := 0) (by decide +kernel) (by decide) ?_
  intro c8 hc8
  refine hb_pfd (n := 12) (ci := 1) (j := 4) (t := 0) (ns := [1224, 30]) hm (by decide +kernel) rfl rfl (by decide) (.inl rfl) ?_
  generalize hM1 : hb_set M 58 4 c8 = M1
  have hm1 : mz_sh mz_GG M1 := by rw [← hM1]; exact hb_set_sh hm rfl rfl (by omega) (by omega)
  have eM1 : ∀ b j, b ≠ 58 ∨ j ≠ 4 → hv M1 b j = hv M b j := by intro b j h; rw [← hM1]; exact hb_set_n h
  have sM1 : hv M1 58 4 = c8.toInt := by rw [← hM1]; exact hb_set_v hm rfl (by decide)
  have wM1 : ∀ b, b ≠ 58 → M1 b = M b := by intro b h; rw [← hM1]; exact hb_set_c h
  refine he_iload (n := 13) (i := 1) (by decide +kernel) rfl ?_
  have f1 : ∀ b, b ≠ 58 → b < 63 ∨ 68 < b → M1 b = M b := fun b g1 _ => wM1 b g1
  have f2 : ∀ j, j ≠ 4 → hv M1 58 j = hv M 58 j := fun j hj4 => eM1 _ _ (.inr hj4)
  have uB : ∀ t, hv M1 59 t = hv M 59 t := fun t => eM1 _ _ (.inl (by decide))
  have no : ∀ r : Int32, r.toInt = 0 → ¬ (4 ≤ len ∧ hv M 59 (len - 4) = 80 ∧ hv M 59 (len - 3) ≤ 6) → Q (.inl (some (.int r))) (M1, z, u) := fun r hr hn => K M1 r hm1 f1 f2 (fun l hl' => by unfold xsnd at hl'; rw [if_neg hn] at hl'; cases hl') (fun _ => hr)
  by_cases g13 : v5.toInt < 0
  · skip
    refine he_iflt_t (n := 16) (t := 40) (by decide +kernel) (by omega) ?_
    refine he_iconst (n := 41) (c := 0) (by decide +kernel) (by decide) ?_
    intro c40 hc40
    refine he_retz (by decide +kernel) (by omega) ?_
    exact no _ (by omega) (fun h => by omega)
  refine he_iflt_f (n := 16) (t := 40) (by decide +kernel) (by omega) ?_
  refine he_aload (n := 17) (i := 0) (by decide +kernel) rfl ?_
  refine he_getr (n := 20) (ci := 1) (j := 0) (ns := [1214, 9]) (b := 59) hm1 (by decide +kernel) rfl rfl (by decide +kernel) ?_
  refine he_iload (n := 21) (i := 1) (by decide +kernel) rfl ?_
  refine hb_ld (n := 22) (kind := 64) hm1 (by decide +kernel) rfl rfl (.inl rfl) (by omega) (show _ < (240 : Int) by omega) hb_at1 ?_
  intro v21 hv21 lv21 uv21
  refine he_iconst (n := 24) (c := 80) (by decide +kernel) (by decide) ?_
  intro c22 hc22
  have q21 : hv M 59 (len - 4) = v21.toInt := by rw [← hv21, show v5.toInt.toNat = len - 4 by omega, uB]
  by_cases g24 : v21.toInt = c22.toInt
  rotate_left
  · skip
    refine he_cmpne_t (n := 27) (t := 40) (by decide +kernel) (by omega) ?_
    refine he_iconst (n := 41) (c := 0) (by decide +kernel) (by decide) ?_
    intro c40 hc40
    refine he_retz (by decide +kernel) (by omega) ?_
    exact no _ (by omega) (fun h => by omega)
  refine he_cmpne_f (n := 27) (t := 40) (by decide +kernel) (by omega) ?_
  refine he_aload (n := 28) (i := 0) (by decide +kernel) rfl ?_
  refine he_getr (n := 31) (ci := 1) (j := 0) (ns := [1214, 9]) (b := 59) hm1 (by decide +kernel) rfl rfl (by decide +kernel) ?_
  refine he_iload (n := 32) (i := 1) (by decide +kernel) rfl ?_
  refine he_iconst (n := 33) (c := 1) (by decide +kernel) (by decide) ?_
  intro c32 hc32
  refine he_iadd (n := 34) (by decide +kernel) (by omega) (by omega) ?_
  intro v33 hv33
  refine hb_ld (n := 35) (kind := 64) hm1 (by decide +kernel) rfl rfl (.inl rfl) (by omega) (show _ < (240 : Int) by omega) hb_at1 ?_
  intro v34 hv34 lv34 uv34
  refine he_iconst (n := 37) (c := 6) (by decide +kernel) (by decide) ?_
  intro c35 hc35
  have q34 : hv M 59 (len - 3) = v34.toInt := by rw [← hv34, show v33.toInt.toNat = len - 3 by omega, uB]
  by_cases g37 : v34.toInt ≤ c35.toInt
  rotate_left
  · skip
    refine he_cmple_f (n := 40) (t := 42) (by decide +kernel) (by omega) ?_
    refine he_iconst (n := 41) (c := 0) (by decide +kernel) (by decide) ?_
    intro c40 hc40
    refine he_retz (by decide +kernel) (by omega) ?_
    exact no _ (by omega) (fun h => by omega)
  refine he_cmple_t (n := 40) (t := 42) (by decide +kernel) (by omega) ?_
  refine he_aload (n := 43) (i := 0) (by decide +kernel) rfl ?_
  refine he_iload (n := 44) (i := 1) (by decide +kernel) rfl ?_
  refine he_iconst (n := 45) (c := 2) (by decide +kernel) (by decide) ?_
  intro c44 hc44
  refine he_iadd (n := 46) (by decide +kernel) (by omega) (by omega) ?_
  intro v45 hv45
  refine he_iconst (n := 47) (c := 2) (by decide +kernel) (by decide) ?_
  intro c46 hc46
  refine he_v2 (n := 50) (j := 56) (ci := 1) (mx := 5) (ns := [3013, 3015, 14, 86]) (by decide +kernel) ((hb_kd (a := 58) hm1 rfl).trans rfl) (by show 0 ≤ 8; omega) (by show 3 ≤ 5; omega) ?_
  rw [mq_e56]
  refine xo_num58 (a := len - 2) (n := 2) hm1 (by omega) (by omega) (by omega) (by omega) ?_
  intro x2 hx2
  show mq_R mq_PP (d + 2) 52 50 _ [.int x2] (M1, z, u) Q
  rw [show hv M1 59 = hv M 59 from funext uB] at hx2
  have p2 : xnN (hv M 59) (len - 2) 2 < 65536 := xnN_lt 2 (fun t ht => (xx_rng (c := _) hm (a := 59) (i := len - 2 + t) (lo := 0) (hi := 255) rfl (show len - 2 + t < 240 by omega) hb_at1).2)
  rw [xs32_p (by omega)] at hx2
  refine he_istore (n := 51) (i := 2) (by decide +kernel) rfl ?_
  refine he_iload (n := 52) (i := 2) (by decide +kernel) rfl ?_
  refine he_istore (n := 53) (i := 3) (by decide +kernel) rfl ?_
  refine he_iconst (n := 54) (c := 0) (by decide +kernel) (by decide) ?_
  intro cb53 hcb53
  refine he_istore (n := 56) (i := 4) (by decide +kernel) rfl ?_
  refine xo_snd58_l (M0 := M) (len := len) (n := v34.toInt.toNat) (dir := xnN (hv M 59) (len - 2) 2) (R := xrcs (hv M 59) (len - 4) (xnN (hv M 59) (len - 2) 2) v34.toInt.toNat [] (xnN (hv M 59) (len - 2) 2)) ⟨by omega, hl2⟩ (by omega) hx2 (by omega) (by omega) ?_ v34.toInt.toNat [] (xnN (hv M 59) (len - 2) 2) M1 _ _ (by show 0 + _ = _; omega) (by show _ = ((0 : Nat) : Int); omega) hx2 (Nat.le_refl _) (by omega) rfl hm1 f1 f2 (fun i hi => absurd hi (Nat.not_lt_zero i))
  intro M' r hm' k1 k2 k3 k4
  have hX : xsnd (hv M 59) len = (match xrcs (hv M 59) (len - 4) (xnN (hv M 59) (len - 2) 2) v34.toInt.toNat [] (xnN (hv M 59) (len - 2) 2) with | some (l, a) => if a = len - 4 then some l else none | none => none) := by
    unfold xsnd
    rw [if_pos ⟨by omega, by omega, by omega⟩, q34]
    rfl
  generalize xrcs (hv M 59) (len - 4) (xnN (hv M 59) (len - 2) 2) v34.toInt.toNat [] (xnN (hv M 59) (len - 2) 2) = R at k3 k4 hX
  refine K M' r hm' k1 k2 (fun l hl' => ?_) (fun h => ?_)
  · rw [hX] at hl'
    rcases R with _ | ⟨l1, a1⟩
    · cases hl'
    · have hl' : (if a1 = len - 4 then some l1 else none) = some l := hl'
      by_cases ea : a1 = len - 4
      · rw [if_pos ea] at hl'
        cases hl'
        obtain ⟨t1, t2, t3, t4⟩ := k3 l (by rw [ea])
        exact ⟨t1, t2, by omega, t4⟩
      · rw [if_neg ea] at hl'
        cases hl'
  · rw [hX] at h
    rcases R with _ | ⟨l1, a1⟩
    · exact k4 (.inl rfl)
    · have h : (if a1 = len - 4 then some l1 else none) = none := h
      by_cases ea : a1 = len - 4
      · rw [if_pos ea] at h
        cases h
      · exact k4 (.inr ⟨l1, a1, rfl, ea⟩)
theorem xo_snd69_l {d z u len n dir : Nat} {M0 : Nat → mq_C} {Q : (Option Value ⊕ Nat) → mq_S → Prop} {x1 x2 : Int32} {R : Option (List xRc × Nat)} (hlen : 4 ≤ len ∧ len ≤ 240) (h1 : x1.toInt = (len : Int) - 4) (h2 : x2.toInt = (dir : Int)) (hn : hv M0 70 (len - 3) = (n : Int)) (hn6 : n ≤ 6)
    (K : ∀ (M : Nat → mq_C) (r : Int32), mz_sh mz_GG M → (∀ b, b ≠ 69 → b < 74 ∨ 79 < b → M b = M0 b) → (∀ j, j ≠ 4 → hv M 69 j = hv M0 69 j) → (∀ l, R = some (l, len - 4) → r.toInt = 1 ∧ hv M 69 4 = (l.length : Int) ∧ l.length = n ∧ ∀ i, i < l.length → xcr M 69 i = l.getD i xd0) → ((R = none ∨ ∃ l a, R = some (l, a) ∧ a ≠ len - 4) → r.toInt = 0) → Q (.inl (some (.int r))) (M, z, u)) : ∀ (m : Nat) (l : List xRc) (a : Nat) (M : Nat → mq_C) (x3 k4 : Int32), l.length + m = n → k4.toInt = (l.length : Int) → x3.toInt = (a : Int) → dir ≤ a → a ≤ 70000 → xrcs (hv M0 70) (len - 4) dir m l a = R → mz_sh mz_GG M → (∀ b, b ≠ 69 → b < 74 ∨ 79 < b → M b = M0 b) → (∀ j, j ≠ 4 → hv M 69 j = hv M0 69 j) → (∀ i, i < l.length → xcr M 69 i = l.getD i xd0) → mq_R mq_PP (d + 2) 52 56 [some (.ref 69), some (.int x1), some (.int x2), some (.int x3), some (.int k4)] [] (M, z, u) Q := by
  intro m
  induction m with
  | zero =>
    intro l a M x3 k4 e1 e2 e3 e4 e5 eR hm hf hj hc
    have uB : ∀ t, hv M 70 t = hv M0 70 t := fun t => hb_vc (hf 70 (by decide) (by decide)) t
    have eR : some (l, a) = R := eR
    refine he_iload (n := 58) (i := 4) (by decide +kernel) rfl ?_
    refine he_aload (n := 59) (i := 0) (by decide +kernel) rfl ?_
    refine he_getr (n := 62) (ci := 1) (j := 0) (ns := [1214, 9]) (b := 70) hm (by decide +kernel) rfl rfl (by decide +kernel) ?_
    refine he_iload (n := 63) (i := 1) (by decide +kernel) rfl ?_
    refine he_iconst (n := 64) (c := 1) (by decide +kernel) (by decide) ?_
    intro c63 hc63
    refine he_iadd (n := 65) (by decide +kernel) (by omega) (by omega) ?_
    intro v64 hv64
    refine hb_ld (n := 66) (kind := 64) hm (by decide +kernel) rfl rfl (.inl rfl) (by omega) (show _ < (240 : Int) by omega) hb_at1 ?_
    intro v65 hv65 lv65 uv65
    have q65 : v65.toInt = (n : Int) := by rw [← hv65, show v64.toInt.toNat = len - 3 by omega, uB]; exact hn
    refine he_cmpge_t (n := 69) (t := 110) (by decide +kernel) (by omega) ?_
    refine he_aload (n := 111) (i := 0) (by decide +kernel) rfl ?_
    refine he_aload (n := 112) (i := 0) (by decide +kernel) rfl ?_
    refine he_getr (n := 115) (ci := 1) (j := 0) (ns := [1214, 9]) (b := 70) hm (by decide +kernel) rfl rfl (by decide +kernel) ?_
    refine he_iload (n := 116) (i := 1) (by decide +kernel) rfl ?_
    refine he_iconst (n := 117) (c := 1) (by decide +kernel) (by decide) ?_
    intro c116 hc116
    refine he_iadd (n := 118) (by decide +kernel) (by omega) (by omega) ?_
    intro v117 hv117
    refine hb_ld (n := 119) (kind := 64) hm (by decide +kernel) rfl rfl (.inl rfl) (by omega) (show _ < (240 : Int) by omega) hb_at1 ?_
    intro v118 hv118 lv118 uv118
    have q118 : v118.toInt = (n : Int) := by rw [← hv118, show v117.toInt.toNat = len - 3 by omega, uB]; exact hn
    refine hb_pfd (n := 122) (ci := 1) (j := 4) (t := 0) (ns := [1224, 30]) hm (by decide +kernel) rfl rfl (by decide) (.inl rfl) ?_
    generalize hM1 : hb_set M 69 4 v118 = M1
    have hm1 : mz_sh mz_GG M1 := by rw [← hM1]; exact hb_set_sh hm rfl rfl (by omega) (by omega)
    have eM1 : ∀ b j, b ≠ 69 ∨ j ≠ 4 → hv M1 b j = hv M b j := by intro b j h; rw [← hM1]; exact hb_set_n h
    have sM1 : hv M1 69 4 = v118.toInt := by rw [← hM1]; exact hb_set_v hm rfl (by decide)
    have wM1 : ∀ b, b ≠ 69 → M1 b = M b := by intro b h; rw [← hM1]; exact hb_set_c h
    refine he_iload (n := 123) (i := 3) (by decide +kernel) rfl ?_
    refine he_iload (n := 124) (i := 1) (by decide +kernel) rfl ?_
    have f1 : ∀ b, b ≠ 69 → b < 74 ∨ 79 < b → M1 b = M0 b := fun b g1 g2 => (wM1 b g1).trans (hf b g1 g2)
    have f2 : ∀ j, j ≠ 4 → hv M1 69 j = hv M0 69 j := fun j hj4 => (eM1 _ _ (.inr hj4)).trans (hj j hj4)
    have f3 : ∀ i, i < l.length → xcr M1 69 i = l.getD i xd0 := fun i hi => by rw [xcr_c (M := M) (fun b g1 g2 => hb_vc (wM1 b (by omega)) i)]; exact hc i hi
    by_cases h124 : x3.toInt = x1.toInt
    · skip
      refine he_cmpne_f (n := 127) (t := 131) (by decide +kernel) (by omega) ?_
      refine he_iconst (n := 128) (c := 1) (by decide +kernel) (by decide) ?_
      intro c127 hc127
      refine he_goto (t := 132) (by decide +kernel) ?_
      refine he_retz (by decide +kernel) (by omega) ?_
      refine K M1 _ hm1 f1 f2 (fun l' hl' => ?_) (fun h => ?_)
      · rw [← eR] at hl'
        cases hl'
        exact ⟨by omega, by rw [sM1]; omega, by omega, f3⟩
      · exfalso
        rcases h with h | ⟨l', a', h, h'⟩
        · rw [← eR] at h
          cases h
        · rw [← eR] at h
          cases h
          omega
    · skip
      refine he_cmpne_t (n := 127) (t := 131) (by decide +kernel) (by omega) ?_
      refine he_iconst (n := 132) (c := 0) (by decide +kernel) (by decide) ?_
      intro c131 hc131
      refine he_retz (by decide +kernel) (by omega) ?_
      refine K M1 _ hm1 f1 f2 (fun l' hl' => ?_) (fun _ => by omega)
      rw [← eR] at hl'
      cases hl'
      omega
  | succ m ih =>
    intro l a M x3 k4 e1 e2 e3 e4 e5 eR hm hf hj hc
    have uB : ∀ t, hv M 70 t = hv M0 70 t := fun t => hb_vc (hf 70 (by decide) (by decide)) t
    have eB : hv M 70 = hv M0 70 := funext uB
    refine he_iload (n := 58) (i := 4) (by decide +kernel) rfl ?_
    refine he_aload (n := 59) (i := 0) (by decide +kernel) rfl ?_
    refine he_getr (n := 62) (ci := 1) (j := 0) (ns := [1214, 9]) (b := 70) hm (by decide +kernel) rfl rfl (by decide +kernel) ?_
    refine he_iload (n := 63) (i := 1) (by decide +kernel) rfl ?_
    refine he_iconst (n := 64) (c := 1) (by decide +kernel) (by decide) ?_
    intro c63 hc63
    refine he_iadd (n := 65) (by decide +kernel) (by omega) (by omega) ?_
    intro v64 hv64
    refine hb_ld (n := 66) (kind := 64) hm (by decide +kernel) rfl rfl (.inl rfl) (by omega) (show _ < (240 : Int) by omega) hb_at1 ?_
    intro v65 hv65 lv65 uv65
    have q65 : v65.toInt = (n : Int) := by rw [← hv65, show v64.toInt.toNat = len - 3 by omega, uB]; exact hn
    refine he_cmpge_f (n := 69) (t := 110) (by decide +kernel) (by omega) ?_
    refine he_aload (n := 70) (i := 0) (by decide +kernel) rfl ?_
    refine he_iload (n := 72) (i := 4) (by decide +kernel) rfl ?_
    refine he_iload (n := 73) (i := 3) (by decide +kernel) rfl ?_
    refine he_iload (n := 74) (i := 1) (by decide +kernel) rfl ?_
    refine he_v3 (n := 77) (j := 53) (ci := 1) (mx := 8) (ns := [3017, 3019, 15, 90]) (by decide +kernel) ((hb_kd (a := 69) hm rfl).trans rfl) (by show 0 ≤ 8; omega) (by show 4 ≤ 8; omega) ?_
    rw [mq_e53]
    refine xo_rr69 (i := l.length) (a := a) (e := len - 4) hm (by omega) (by omega) e3 (by omega) (by omega) ?_
    intro M1 y3 hm1 w1 k1 y1 y0
    rw [eB] at y1 y0
    show mq_R mq_PP (d + 2) 52 77 _ [.int y3] (M1, z, u) Q
    have g1 : ∀ b, b ≠ 69 → b < 74 ∨ 79 < b → M1 b = M0 b := fun b p q => (w1 b q).trans (hf b p q)
    have g2 : ∀ j, j ≠ 4 → hv M1 69 j = hv M0 69 j := fun j p => (hb_vc (w1 69 (by decide)) j).trans (hj j p)
    have g3 : ∀ i, i < l.length → xcr M1 69 i = l.getD i xd0 := fun i hi => by rw [xcr_c (M := M) (fun b _ _ => k1 b i (by omega))]; exact hc i hi
    have eB1 : hv M1 70 = hv M0 70 := funext fun t => hb_vc (g1 70 (by decide) (by decide)) t
    have bad : xrcd (hv M0 70) (len - 4) dir l a = none → R = none := fun h => by rw [← eR]; show (match xrcd (hv M0 70) (len - 4) dir l a with | some (r, a') => xrcs (hv M0 70) (len - 4) dir m (l ++ [r]) a' | none => none) = none; rw [h]
    have fail : ∀ r : Int32, r.toInt = 0 → xrcd (hv M0 70) (len - 4) dir l a = none → Q (.inl (some (.int r))) (M1, z, u) := fun r hr h => K M1 r hm1 g1 g2 (fun l' hl' => by rw [bad h] at hl'; cases hl') (fun _ => hr)
    by_cases c1 : xrk (hv M0 70) (len - 4) a ∧ xrf (xrr (hv M0 70) a (hv M0 70 a).toNat) (hv M0 70 a).toNat
    rotate_left
    · have hy := y0 c1
      refine he_istore (n := 78) (i := 3) (by decide +kernel) rfl ?_
      refine he_iload (n := 79) (i := 3) (by decide +kernel) rfl ?_
      refine he_iconst (n := 80) (c := -1) (by decide +kernel) (by decide) ?_
      intro c79 hc79
      refine he_cmpeq_t (n := 83) (t := 102) (by decide +kernel) (by omega) ?_
      refine he_iconst (n := 103) (c := 0) (by decide +kernel) (by decide) ?_
      intro c102 hc102
      refine he_retz (by decide +kernel) (by omega) ?_
      exact fail _ (by omega) (if_neg (fun h => c1 ⟨h.1, h.2.1⟩))
    obtain ⟨hy, hrec⟩ := y1 c1
    have hk1 := c1.1.1
    have hk2 := c1.1.2.1
    refine he_istore (n := 78) (i := 3) (by decide +kernel) rfl ?_
    refine he_iload (n := 79) (i := 3) (by decide +kernel) rfl ?_
    refine he_iconst (n := 80) (c := -1) (by decide +kernel) (by decide) ?_
    intro c79 hc79
    refine he_cmpeq_f (n := 83) (t := 102) (by decide +kernel) (by omega) ?_
    refine he_aload (n := 84) (i := 0) (by decide +kernel) rfl ?_
    refine he_iload (n := 86) (i := 4) (by decide +kernel) rfl ?_
    refine he_iload (n := 87) (i := 2) (by decide +kernel) rfl ?_
    refine he_v2 (n := 90) (j := 54) (ci := 1) (mx := 4) (ns := [3022, 3024, 16, 94]) (by decide +kernel) ((hb_kd (a := 69) hm1 rfl).trans rfl) (by show 0 ≤ 8; omega) (by show 3 ≤ 4; omega) ?_
    rw [mq_e54]
    refine xo_body69 (i := l.length) (dir := dir) hm1 (by omega) (by omega) h2 (by omega) ?_
    intro r2 ra rb
    rw [eB1, hrec] at ra rb
    show mq_R mq_PP (d + 2) 52 90 _ [.int r2] (M1, z, u) Q
    by_cases c2 : xrb2 (hv M0 70) dir (xrr (hv M0 70) a (hv M0 70 a).toNat)
    rotate_left
    · have hr2 := rb c2
      refine he_ifeq_t (n := 93) (t := 102) (by decide +kernel) (by omega) ?_
      refine he_iconst (n := 103) (c := 0) (by decide +kernel) (by decide) ?_
      intro c102 hc102
      refine he_retz (by decide +kernel) (by omega) ?_
      exact fail _ (by omega) (if_neg (fun h => c2 h.2.2.1))
    have hr2 := ra c2
    refine he_ifeq_f (n := 93) (t := 102) (by decide +kernel) (by omega) ?_
    refine he_aload (n := 94) (i := 0) (by decide +kernel) rfl ?_
    refine he_iload (n := 96) (i := 4) (by decide +kernel) rfl ?_
    refine he_v1 (n := 99) (j := 55) (ci := 1) (mx := 7) (ns := [3026, 3028, 17, 98]) (by decide +kernel) ((hb_kd (a := 69) hm1 rfl).trans rfl) (by show 0 ≤ 8; omega) (by show 2 ≤ 7; omega) ?_
    rw [mq_e55]
    refine xo_apart69 (i := l.length) hm1 (by omega) (by omega) ?_
    intro r3 sa sb
    rw [hrec] at sa sb
    show mq_R mq_PP (d + 2) 52 99 _ [.int r3] (M1, z, u) Q
    by_cases c3 : (l.all fun k => decide (xap (xrr (hv M0 70) a (hv M0 70 a).toNat) k)) = true
    rotate_left
    · have hr3 := sb (Classical.byContradiction fun hne => c3 (xo_all.mpr fun i hi => decide_eq_true (Classical.byContradiction fun h => hne ⟨i, hi, by rw [g3 i hi]; exact h⟩)))
      refine he_ifne_f (n := 102) (t := 104) (by decide +kernel) (by omega) ?_
      refine he_iconst (n := 103) (c := 0) (by decide +kernel) (by decide) ?_
      intro c102 hc102
      refine he_retz (by decide +kernel) (by omega) ?_
      exact fail _ (by omega) (if_neg (fun h => c3 h.2.2.2))
    have hr3 := sa (fun k hk => by rw [g3 k hk]; exact of_decide_eq_true (xo_all.mp c3 k hk))
    refine he_ifne_t (n := 102) (t := 104) (by decide +kernel) (by omega) ?_
    refine he_iinc (n := 107) (i := 4) (c := 1) (L' := fun v => [some (.ref (69)), some (.int x1), some (.int x2), some (.int y3), some (.int v)]) (by decide +kernel) (by decide) rfl (fun _ => rfl) (by omega) (by omega) ?_
    intro i104 hi104
    refine he_goto (t := 56) (by decide +kernel) ?_
    refine ih (l ++ [xrr (hv M0 70) a (hv M0 70 a).toNat]) (a + 12 + (hv M0 70 a).toNat) M1 _ _ (by rw [List.length_append]; show _ + 1 + _ = _; omega) (by rw [List.length_append]; show _ = ((_ + 1 : Nat) : Int); omega) (by omega) (by omega) (by omega) ?_ hm1 g1 g2 (fun i hi => ?_)
    · rw [← eR]
      show _ = (match xrcd (hv M0 70) (len - 4) dir l a with | some (r, a') => xrcs (hv M0 70) (len - 4) dir m (l ++ [r]) a' | none => none)
      rw [show xrcd (hv M0 70) (len - 4) dir l a = some _ from if_pos ⟨c1.1, c1.2, c2, c3⟩]
    · rw [List.length_append] at hi
      have hi : i < l.length + 1 := hi
      by_cases e : i = l.length
      · rw [e, xo_gb]
        exact hrec
      · rw [xo_ga (by omega)]
        exact g3 i (by omega)
theorem xo_snd69 {d z u len : Nat} {M : Nat → mq_C} {Q : (Option Value ⊕ Nat) → mq_S → Prop} (hm : mz_sh mz_GG M) (hl : hv M 69 1 = (len : Int)) (hl2 : len ≤ 240)
    (K : ∀ (M' : Nat → mq_C) (r : Int32), mz_sh mz_GG M' → (∀ b, b ≠ 69 → b < 74 ∨ 79 < b → M' b = M b) → (∀ j, j ≠ 4 → hv M' 69 j = hv M 69 j) → (∀ l, xsnd (hv M 70) len = some l → r.toInt = 1 ∧ hv M' 69 4 = (l.length : Int) ∧ l.length ≤ 6 ∧ ∀ i, i < l.length → xcr M' 69 i = l.getD i xd0) → (xsnd (hv M 70) len = none → r.toInt = 0) → Q (.inl (some (.int r))) (M', z, u)) : mq_R mq_PP (d + 2) 52 0 [some (.ref 69), none, none, none, none] [] (M, z, u) Q := by
  refine he_aload (n := 1) (i := 0) (by decide +kernel) rfl ?_
  refine hb_gfd (n := 4) (ci := 1) (j := 1) (ns := [1217, 15]) hm (by decide +kernel) rfl rfl (by decide) rfl ?_
  intro v1 hv1 lv1 uv1
  refine he_iconst (n := 5) (c := 4) (by decide +kernel) (by decide) ?_
  intro c4 hc4
  refine he_isub (n := 6) (by decide +kernel) (by omega) (by omega) ?_
  intro v5 hv5
  refine he_istore (n := 7) (i := 1) (by decide +kernel) rfl ?_
  refine he_aload (n := 8) (i := 0) (by decide +kernel) rfl ?_
  refine he_iconst (n := 9) (c := 0) (by decide +kernel) (by decide) ?_
  intro c8 hc8
  refine hb_pfd (n := 12) (ci := 1) (j := 4) (t := 0) (ns := [1224, 30]) hm (by decide +kernel) rfl rfl (by decide) (.inl rfl) ?_
  generalize hM1 : hb_set M 69 4 c8 = M1
  have hm1 : mz_sh mz_GG M1 := by rw [← hM1]; exact hb_set_sh hm rfl rfl (by omega) (by omega)
  have eM1 : ∀ b j, b ≠ 69 ∨ j ≠ 4 → hv M1 b j = hv M b j := by intro b j h; rw [← hM1]; exact hb_set_n h
  have sM1 : hv M1 69 4 = c8.toInt := by rw [← hM1]; exact hb_set_v hm rfl (by decide)
  have wM1 : ∀ b, b ≠ 69 → M1 b = M b := by intro b h; rw [← hM1]; exact hb_set_c h
  refine he_iload (n := 13) (i := 1) (by decide +kernel) rfl ?_
  have f1 : ∀ b, b ≠ 69 → b < 74 ∨ 79 < b → M1 b = M b := fun b g1 _ => wM1 b g1
  have f2 : ∀ j, j ≠ 4 → hv M1 69 j = hv M 69 j := fun j hj4 => eM1 _ _ (.inr hj4)
  have uB : ∀ t, hv M1 70 t = hv M 70 t := fun t => eM1 _ _ (.inl (by decide))
  have no : ∀ r : Int32, r.toInt = 0 → ¬ (4 ≤ len ∧ hv M 70 (len - 4) = 80 ∧ hv M 70 (len - 3) ≤ 6) → Q (.inl (some (.int r))) (M1, z, u) := fun r hr hn => K M1 r hm1 f1 f2 (fun l hl' => by unfold xsnd at hl'; rw [if_neg hn] at hl'; cases hl') (fun _ => hr)
  by_cases g13 : v5.toInt < 0
  · skip
    refine he_iflt_t (n := 16) (t := 40) (by decide +kernel) (by omega) ?_
    refine he_iconst (n := 41) (c := 0) (by decide +kernel) (by decide) ?_
    intro c40 hc40
    refine he_retz (by decide +kernel) (by omega) ?_
    exact no _ (by omega) (fun h => by omega)
  refine he_iflt_f (n := 16) (t := 40) (by decide +kernel) (by omega) ?_
  refine he_aload (n := 17) (i := 0) (by decide +kernel) rfl ?_
  refine he_getr (n := 20) (ci := 1) (j := 0) (ns := [1214, 9]) (b := 70) hm1 (by decide +kernel) rfl rfl (by decide +kernel) ?_
  refine he_iload (n := 21) (i := 1) (by decide +kernel) rfl ?_
  refine hb_ld (n := 22) (kind := 64) hm1 (by decide +kernel) rfl rfl (.inl rfl) (by omega) (show _ < (240 : Int) by omega) hb_at1 ?_
  intro v21 hv21 lv21 uv21
  refine he_iconst (n := 24) (c := 80) (by decide +kernel) (by decide) ?_
  intro c22 hc22
  have q21 : hv M 70 (len - 4) = v21.toInt := by rw [← hv21, show v5.toInt.toNat = len - 4 by omega, uB]
  by_cases g24 : v21.toInt = c22.toInt
  rotate_left
  · skip
    refine he_cmpne_t (n := 27) (t := 40) (by decide +kernel) (by omega) ?_
    refine he_iconst (n := 41) (c := 0) (by decide +kernel) (by decide) ?_
    intro c40 hc40
    refine he_retz (by decide +kernel) (by omega) ?_
    exact no _ (by omega) (fun h => by omega)
  refine he_cmpne_f (n := 27) (t := 40) (by decide +kernel) (by omega) ?_
  refine he_aload (n := 28) (i := 0) (by decide +kernel) rfl ?_
  refine he_getr (n := 31) (ci := 1) (j := 0) (ns := [1214, 9]) (b := 70) hm1 (by decide +kernel) rfl rfl (by decide +kernel) ?_
  refine he_iload (n := 32) (i := 1) (by decide +kernel) rfl ?_
  refine he_iconst (n := 33) (c := 1) (by decide +kernel) (by decide) ?_
  intro c32 hc32
  refine he_iadd (n := 34) (by decide +kernel) (by omega) (by omega) ?_
  intro v33 hv33
  refine hb_ld (n := 35) (kind := 64) hm1 (by decide +kernel) rfl rfl (.inl rfl) (by omega) (show _ < (240 : Int) by omega) hb_at1 ?_
  intro v34 hv34 lv34 uv34
  refine he_iconst (n := 37) (c := 6) (by decide +kernel) (by decide) ?_
  intro c35 hc35
  have q34 : hv M 70 (len - 3) = v34.toInt := by rw [← hv34, show v33.toInt.toNat = len - 3 by omega, uB]
  by_cases g37 : v34.toInt ≤ c35.toInt
  rotate_left
  · skip
    refine he_cmple_f (n := 40) (t := 42) (by decide +kernel) (by omega) ?_
    refine he_iconst (n := 41) (c := 0) (by decide +kernel) (by decide) ?_
    intro c40 hc40
    refine he_retz (by decide +kernel) (by omega) ?_
    exact no _ (by omega) (fun h => by omega)
  refine he_cmple_t (n := 40) (t := 42) (by decide +kernel) (by omega) ?_
  refine he_aload (n := 43) (i := 0) (by decide +kernel) rfl ?_
  refine he_iload (n := 44) (i := 1) (by decide +kernel) rfl ?_
  refine he_iconst (n := 45) (c := 2) (by decide +kernel) (by decide) ?_
  intro c44 hc44
  refine he_iadd (n := 46) (by decide +kernel) (by omega) (by omega) ?_
  intro v45 hv45
  refine he_iconst (n := 47) (c := 2) (by decide +kernel) (by decide) ?_
  intro c46 hc46
  refine he_v2 (n := 50) (j := 56) (ci := 1) (mx := 5) (ns := [3013, 3015, 14, 86]) (by decide +kernel) ((hb_kd (a := 69) hm1 rfl).trans rfl) (by show 0 ≤ 8; omega) (by show 3 ≤ 5; omega) ?_
  rw [mq_e56]
  refine xo_num69 (a := len - 2) (n := 2) hm1 (by omega) (by omega) (by omega) (by omega) ?_
  intro x2 hx2
  show mq_R mq_PP (d + 2) 52 50 _ [.int x2] (M1, z, u) Q
  rw [show hv M1 70 = hv M 70 from funext uB] at hx2
  have p2 : xnN (hv M 70) (len - 2) 2 < 65536 := xnN_lt 2 (fun t ht => (xx_rng (c := _) hm (a := 70) (i := len - 2 + t) (lo := 0) (hi := 255) rfl (show len - 2 + t < 240 by omega) hb_at1).2)
  rw [xs32_p (by omega)] at hx2
  refine he_istore (n := 51) (i := 2) (by decide +kernel) rfl ?_
  refine he_iload (n := 52) (i := 2) (by decide +kernel) rfl ?_
  refine he_istore (n := 53) (i := 3) (by decide +kernel) rfl ?_
  refine he_iconst (n := 54) (c := 0) (by decide +kernel) (by decide) ?_
  intro cb53 hcb53
  refine he_istore (n := 56) (i := 4) (by decide +kernel) rfl ?_
  refine xo_snd69_l (M0 := M) (len := len) (n := v34.toInt.toNat) (dir := xnN (hv M 70) (len - 2) 2) (R := xrcs (hv M 70) (len - 4) (xnN (hv M 70) (len - 2) 2) v34.toInt.toNat [] (xnN (hv M 70) (len - 2) 2)) ⟨by omega, hl2⟩ (by omega) hx2 (by omega) (by omega) ?_ v34.toInt.toNat [] (xnN (hv M 70) (len - 2) 2) M1 _ _ (by show 0 + _ = _; omega) (by show _ = ((0 : Nat) : Int); omega) hx2 (Nat.le_refl _) (by omega) rfl hm1 f1 f2 (fun i hi => absurd hi (Nat.not_lt_zero i))
  intro M' r hm' k1 k2 k3 k4
  have hX : xsnd (hv M 70) len = (match xrcs (hv M 70) (len - 4) (xnN (hv M 70) (len - 2) 2) v34.toInt.toNat [] (xnN (hv M 70) (len - 2) 2) with | some (l, a) => if a = len - 4 then some l else none | none => none) := by
    unfold xsnd
    rw [if_pos ⟨by omega, by omega, by omega⟩, q34]
    rfl
  generalize xrcs (hv M 70) (len - 4) (xnN (hv M 70) (len - 2) 2) v34.toInt.toNat [] (xnN (hv M 70) (len - 2) 2) = R at k3 k4 hX
  refine K M' r hm' k1 k2 (fun l hl' => ?_) (fun h => ?_)
  · rw [hX] at hl'
    rcases R with _ | ⟨l1, a1⟩
    · cases hl'
    · have hl' : (if a1 = len - 4 then some l1 else none) = some l := hl'
      by_cases ea : a1 = len - 4
      · rw [if_pos ea] at hl'
        cases hl'
        obtain ⟨t1, t2, t3, t4⟩ := k3 l (by rw [ea])
        exact ⟨t1, t2, by omega, t4⟩
      · rw [if_neg ea] at hl'
        cases hl'
  · rw [hX] at h
    rcases R with _ | ⟨l1, a1⟩
    · exact k4 (.inl rfl)
    · have h : (if a1 = len - 4 then some l1 else none) = none := h
      by_cases ea : a1 = len - 4
      · rw [if_pos ea] at h
        cases h
      · exact k4 (.inr ⟨l1, a1, rfl, ea⟩)
theorem xo_snd80_l {d z u len n dir : Nat} {M0 : Nat → mq_C} {Q : (Option Value ⊕ Nat) → mq_S → Prop} {x1 x2 : Int32} {R : Option (List xRc × Nat)} (hlen : 4 ≤ len ∧ len ≤ 240) (h1 : x1.toInt = (len : Int) - 4) (h2 : x2.toInt = (dir : Int)) (hn : hv M0 81 (len - 3) = (n : Int)) (hn6 : n ≤ 6)
    (K : ∀ (M : Nat → mq_C) (r : Int32), mz_sh mz_GG M → (∀ b, b ≠ 80 → b < 85 ∨ 90 < b → M b = M0 b) → (∀ j, j ≠ 4 → hv M 80 j = hv M0 80 j) → (∀ l, R = some (l, len - 4) → r.toInt = 1 ∧ hv M 80 4 = (l.length : Int) ∧ l.length = n ∧ ∀ i, i < l.length → xcr M 80 i = l.getD i xd0) → ((R = none ∨ ∃ l a, R = some (l, a) ∧ a ≠ len - 4) → r.toInt = 0) → Q (.inl (some (.int r))) (M, z, u)) : ∀ (m : Nat) (l : List xRc) (a : Nat) (M : Nat → mq_C) (x3 k4 : Int32), l.length + m = n → k4.toInt = (l.length : Int) → x3.toInt = (a : Int) → dir ≤ a → a ≤ 70000 → xrcs (hv M0 81) (len - 4) dir m l a = R → mz_sh mz_GG M → (∀ b, b ≠ 80 → b < 85 ∨ 90 < b → M b = M0 b) → (∀ j, j ≠ 4 → hv M 80 j = hv M0 80 j) → (∀ i, i < l.length → xcr M 80 i = l.getD i xd0) → mq_R mq_PP (d + 2) 52 56 [some (.ref 80), some (.int x1), some (.int x2), some (.int x3), some (.int k4)] [] (M, z, u) Q := by
  intro m
  induction m with
  | zero =>
    intro l a M x3 k4 e1 e2 e3 e4 e5 eR hm hf hj hc
    have uB : ∀ t, hv M 81 t = hv M0 81 t := fun t => hb_vc (hf 81 (by decide) (by decide)) t
    have eR : some (l, a) = R := eR
    refine he_iload (n := 58) (i := 4) (by decide +kernel) rfl ?_
    refine he_aload (n := 59) (i := 0) (by decide +kernel) rfl ?_
    refine he_getr (n := 62) (ci := 1) (j := 0) (ns := [1214, 9]) (b := 81) hm (by decide +kernel) rfl rfl (by decide +kernel) ?_
    refine he_iload (n := 63) (i := 1) (by decide +kernel) rfl ?_
    refine he_iconst (n := 64) (c := 1) (by decide +kernel) (by decide) ?_
    intro c63 hc63
    refine he_iadd (n := 65) (by decide +kernel) (by omega) (by omega) ?_
    intro v64 hv64
    refine hb_ld (n := 66) (kind := 64) hm (by decide +kernel) rfl rfl (.inl rfl) (by omega) (show _ < (240 : Int) by omega) hb_at1 ?_
    intro v65 hv65 lv65 uv65
    have q65 : v65.toInt = (n : Int) := by rw [← hv65, show v64.toInt.toNat = len - 3 by omega, uB]; exact hn
    refine he_cmpge_t (n := 69) (t := 110) (by decide +kernel) (by omega) ?_
    refine he_aload (n := 111) (i := 0) (by decide +kernel) rfl ?_
    refine he_aload (n := 112) (i := 0) (by decide +kernel) rfl ?_
    refine he_getr (n := 115) (ci := 1) (j := 0) (ns := [1214, 9]) (b := 81) hm (by decide +kernel) rfl rfl (by decide +kernel) ?_
    refine he_iload (n := 116) (i := 1) (by decide +kernel) rfl ?_
    refine he_iconst (n := 117) (c := 1) (by decide +kernel) (by decide) ?_
    intro c116 hc116
    refine he_iadd (n := 118) (by decide +kernel) (by omega) (by omega) ?_
    intro v117 hv117
    refine hb_ld (n := 119) (kind := 64) hm (by decide +kernel) rfl rfl (.inl rfl) (by omega) (show _ < (240 : Int) by omega) hb_at1 ?_
    intro v118 hv118 lv118 uv118
    have q118 : v118.toInt = (n : Int) := by rw [← hv118, show v117.toInt.toNat = len - 3 by omega, uB]; exact hn
    refine hb_pfd (n := 122) (ci := 1) (j := 4) (t := 0) (ns := [1224, 30]) hm (by decide +kernel) rfl rfl (by decide) (.inl rfl) ?_
    generalize hM1 : hb_set M 80 4 v118 = M1
    have hm1 : mz_sh mz_GG M1 := by rw [← hM1]; exact hb_set_sh hm rfl rfl (by omega) (by omega)
    have eM1 : ∀ b j, b ≠ 80 ∨ j ≠ 4 → hv M1 b j = hv M b j := by intro b j h; rw [← hM1]; exact hb_set_n h
    have sM1 : hv M1 80 4 = v118.toInt := by rw [← hM1]; exact hb_set_v hm rfl (by decide)
    have wM1 : ∀ b, b ≠ 80 → M1 b = M b := by intro b h; rw [← hM1]; exact hb_set_c h
    refine he_iload (n := 123) (i := 3) (by decide +kernel) rfl ?_
    refine he_iload (n := 124) (i := 1) (by decide +kernel) rfl ?_
    have f1 : ∀ b, b ≠ 80 → b < 85 ∨ 90 < b → M1 b = M0 b := fun b g1 g2 => (wM1 b g1).trans (hf b g1 g2)
    have f2 : ∀ j, j ≠ 4 → hv M1 80 j = hv M0 80 j := fun j hj4 => (eM1 _ _ (.inr hj4)).trans (hj j hj4)
    have f3 : ∀ i, i < l.length → xcr M1 80 i = l.getD i xd0 := fun i hi => by rw [xcr_c (M := M) (fun b g1 g2 => hb_vc (wM1 b (by omega)) i)]; exact hc i hi
    by_cases h124 : x3.toInt = x1.toInt
    · skip
      refine he_cmpne_f (n := 127) (t := 131) (by decide +kernel) (by omega) ?_
      refine he_iconst (n := 128) (c := 1) (by decide +kernel) (by decide) ?_
      intro c127 hc127
      refine he_goto (t := 132) (by decide +kernel) ?_
      refine he_retz (by decide +kernel) (by omega) ?_
      refine K M1 _ hm1 f1 f2 (fun l' hl' => ?_) (fun h => ?_)
      · rw [← eR] at hl'
        cases hl'
        exact ⟨by omega, by rw [sM1]; omega, by omega, f3⟩
      · exfalso
        rcases h with h | ⟨l', a', h, h'⟩
        · rw [← eR] at h
          cases h
        · rw [← eR] at h
          cases h
          omega
    · skip
      refine he_cmpne_t (n := 127) (t := 131) (by decide +kernel) (by omega) ?_
      refine he_iconst (n := 132) (c := 0) (by decide +kernel) (by decide) ?_
      intro c131 hc131
      refine he_retz (by decide +kernel) (by omega) ?_
      refine K M1 _ hm1 f1 f2 (fun l' hl' => ?_) (fun _ => by omega)
      rw [← eR] at hl'
      cases hl'
      omega
  | succ m ih =>
    intro l a M x3 k4 e1 e2 e3 e4 e5 eR hm hf hj hc
    have uB : ∀ t, hv M 81 t = hv M0 81 t := fun t => hb_vc (hf 81 (by decide) (by decide)) t
    have eB : hv M 81 = hv M0 81 := funext uB
    refine he_iload (n := 58) (i := 4) (by decide +kernel) rfl ?_
    refine he_aload (n := 59) (i := 0) (by decide +kernel) rfl ?_
    refine he_getr (n := 62) (ci := 1) (j := 0) (ns := [1214, 9]) (b := 81) hm (by decide +kernel) rfl rfl (by decide +kernel) ?_
    refine he_iload (n := 63) (i := 1) (by decide +kernel) rfl ?_
    refine he_iconst (n := 64) (c := 1) (by decide +kernel) (by decide) ?_
    intro c63 hc63
    refine he_iadd (n := 65) (by decide +kernel) (by omega) (by omega) ?_
    intro v64 hv64
    refine hb_ld (n := 66) (kind := 64) hm (by decide +kernel) rfl rfl (.inl rfl) (by omega) (show _ < (240 : Int) by omega) hb_at1 ?_
    intro v65 hv65 lv65 uv65
    have q65 : v65.toInt = (n : Int) := by rw [← hv65, show v64.toInt.toNat = len - 3 by omega, uB]; exact hn
    refine he_cmpge_f (n := 69) (t := 110) (by decide +kernel) (by omega) ?_
    refine he_aload (n := 70) (i := 0) (by decide +kernel) rfl ?_
    refine he_iload (n := 72) (i := 4) (by decide +kernel) rfl ?_
    refine he_iload (n := 73) (i := 3) (by decide +kernel) rfl ?_
    refine he_iload (n := 74) (i := 1) (by decide +kernel) rfl ?_
    refine he_v3 (n := 77) (j := 53) (ci := 1) (mx := 8) (ns := [3017, 3019, 15, 90]) (by decide +kernel) ((hb_kd (a := 80) hm rfl).trans rfl) (by show 0 ≤ 8; omega) (by show 4 ≤ 8; omega) ?_
    rw [mq_e53]
    refine xo_rr80 (i := l.length) (a := a) (e := len - 4) hm (by omega) (by omega) e3 (by omega) (by omega) ?_
    intro M1 y3 hm1 w1 k1 y1 y0
    rw [eB] at y1 y0
    show mq_R mq_PP (d + 2) 52 77 _ [.int y3] (M1, z, u) Q
    have g1 : ∀ b, b ≠ 80 → b < 85 ∨ 90 < b → M1 b = M0 b := fun b p q => (w1 b q).trans (hf b p q)
    have g2 : ∀ j, j ≠ 4 → hv M1 80 j = hv M0 80 j := fun j p => (hb_vc (w1 80 (by decide)) j).trans (hj j p)
    have g3 : ∀ i, i < l.length → xcr M1 80 i = l.getD i xd0 := fun i hi => by rw [xcr_c (M := M) (fun b _ _ => k1 b i (by omega))]; exact hc i hi
    have eB1 : hv M1 81 = hv M0 81 := funext fun t => hb_vc (g1 81 (by decide) (by decide)) t
    have bad : xrcd (hv M0 81) (len - 4) dir l a = none → R = none := fun h => by rw [← eR]; show (match xrcd (hv M0 81) (len - 4) dir l a with | some (r, a') => xrcs (hv M0 81) (len - 4) dir m (l ++ [r]) a' | none => none) = none; rw [h]
    have fail : ∀ r : Int32, r.toInt = 0 → xrcd (hv M0 81) (len - 4) dir l a = none → Q (.inl (some (.int r))) (M1, z, u) := fun r hr h => K M1 r hm1 g1 g2 (fun l' hl' => by rw [bad h] at hl'; cases hl') (fun _ => hr)
    by_cases c1 : xrk (hv M0 81) (len - 4) a ∧ xrf (xrr (hv M0 81) a (hv M0 81 a).toNat) (hv M0 81 a).toNat
    rotate_left
    · have hy := y0 c1
      refine he_istore (n := 78) (i := 3) (by decide +kernel) rfl ?_
      refine he_iload (n := 79) (i := 3) (by decide +kernel) rfl ?_
      refine he_iconst (n := 80) (c := -1) (by decide +kernel) (by decide) ?_
      intro c79 hc79
      refine he_cmpeq_t (n := 83) (t := 102) (by decide +kernel) (by omega) ?_
      refine he_iconst (n := 103) (c := 0) (by decide +kernel) (by decide) ?_
      intro c102 hc102
      refine he_retz (by decide +kernel) (by omega) ?_
      exact fail _ (by omega) (if_neg (fun h => c1 ⟨h.1, h.2.1⟩))
    obtain ⟨hy, hrec⟩ := y1 c1
    have hk1 := c1.1.1
    have hk2 := c1.1.2.1
    refine he_istore (n := 78) (i := 3) (by decide +kernel) rfl ?_
    refine he_iload (n := 79) (i := 3) (by decide +kernel) rfl ?_
    refine he_iconst (n := 80) (c := -1) (by decide +kernel) (by decide) ?_
    intro c79 hc79
    refine he_cmpeq_f (n := 83) (t := 102) (by decide +kernel) (by omega) ?_
    refine he_aload (n := 84) (i := 0) (by decide +kernel) rfl ?_
    refine he_iload (n := 86) (i := 4) (by decide +kernel) rfl ?_
    refine he_iload (n := 87) (i := 2) (by decide +kernel) rfl ?_
    refine he_v2 (n := 90) (j := 54) (ci := 1) (mx := 4) (ns := [3022, 3024, 16, 94]) (by decide +kernel) ((hb_kd (a := 80) hm1 rfl).trans rfl) (by show 0 ≤ 8; omega) (by show 3 ≤ 4; omega) ?_
    rw [mq_e54]
    refine xo_body80 (i := l.length) (dir := dir) hm1 (by omega) (by omega) h2 (by omega) ?_
    intro r2 ra rb
    rw [eB1, hrec] at ra rb
    show mq_R mq_PP (d + 2) 52 90 _ [.int r2] (M1, z, u) Q
    by_cases c2 : xrb2 (hv M0 81) dir (xrr (hv M0 81) a (hv M0 81 a).toNat)
    rotate_left
    · have hr2 := rb c2
      refine he_ifeq_t (n := 93) (t := 102) (by decide +kernel) (by omega) ?_
      refine he_iconst (n := 103) (c := 0) (by decide +kernel) (by decide) ?_
      intro c102 hc102
      refine he_retz (by decide +kernel) (by omega) ?_
      exact fail _ (by omega) (if_neg (fun h => c2 h.2.2.1))
    have hr2 := ra c2
    refine he_ifeq_f (n := 93) (t := 102) (by decide +kernel) (by omega) ?_
    refine he_aload (n := 94) (i := 0) (by decide +kernel) rfl ?_
    refine he_iload (n := 96) (i := 4) (by decide +kernel) rfl ?_
    refine he_v1 (n := 99) (j := 55) (ci := 1) (mx := 7) (ns := [3026, 3028, 17, 98]) (by decide +kernel) ((hb_kd (a := 80) hm1 rfl).trans rfl) (by show 0 ≤ 8; omega) (by show 2 ≤ 7; omega) ?_
    rw [mq_e55]
    refine xo_apart80 (i := l.length) hm1 (by omega) (by omega) ?_
    intro r3 sa sb
    rw [hrec] at sa sb
    show mq_R mq_PP (d + 2) 52 99 _ [.int r3] (M1, z, u) Q
    by_cases c3 : (l.all fun k => decide (xap (xrr (hv M0 81) a (hv M0 81 a).toNat) k)) = true
    rotate_left
    · have hr3 := sb (Classical.byContradiction fun hne => c3 (xo_all.mpr fun i hi => decide_eq_true (Classical.byContradiction fun h => hne ⟨i, hi, by rw [g3 i hi]; exact h⟩)))
      refine he_ifne_f (n := 102) (t := 104) (by decide +kernel) (by omega) ?_
      refine he_iconst (n := 103) (c := 0) (by decide +kernel) (by decide) ?_
      intro c102 hc102
      refine he_retz (by decide +kernel) (by omega) ?_
      exact fail _ (by omega) (if_neg (fun h => c3 h.2.2.2))
    have hr3 := sa (fun k hk => by rw [g3 k hk]; exact of_decide_eq_true (xo_all.mp c3 k hk))
    refine he_ifne_t (n := 102) (t := 104) (by decide +kernel) (by omega) ?_
    refine he_iinc (n := 107) (i := 4) (c := 1) (L' := fun v => [some (.ref (80)), some (.int x1), some (.int x2), some (.int y3), some (.int v)]) (by decide +kernel) (by decide) rfl (fun _ => rfl) (by omega) (by omega) ?_
    intro i104 hi104
    refine he_goto (t := 56) (by decide +kernel) ?_
    refine ih (l ++ [xrr (hv M0 81) a (hv M0 81 a).toNat]) (a + 12 + (hv M0 81 a).toNat) M1 _ _ (by rw [List.length_append]; show _ + 1 + _ = _; omega) (by rw [List.length_append]; show _ = ((_ + 1 : Nat) : Int); omega) (by omega) (by omega) (by omega) ?_ hm1 g1 g2 (fun i hi => ?_)
    · rw [← eR]
      show _ = (match xrcd (hv M0 81) (len - 4) dir l a with | some (r, a') => xrcs (hv M0 81) (len - 4) dir m (l ++ [r]) a' | none => none)
      rw [show xrcd (hv M0 81) (len - 4) dir l a = some _ from if_pos ⟨c1.1, c1.2, c2, c3⟩]
    · rw [List.length_append] at hi
      have hi : i < l.length + 1 := hi
      by_cases e : i = l.length
      · rw [e, xo_gb]
        exact hrec
      · rw [xo_ga (by omega)]
        exact g3 i (by omega)
theorem xo_snd80 {d z u len : Nat} {M : Nat → mq_C} {Q : (Option Value ⊕ Nat) → mq_S → Prop} (hm : mz_sh mz_GG M) (hl : hv M 80 1 = (len : Int)) (hl2 : len ≤ 240)
    (K : ∀ (M' : Nat → mq_C) (r : Int32), mz_sh mz_GG M' → (∀ b, b ≠ 80 → b < 85 ∨ 90 < b → M' b = M b) → (∀ j, j ≠ 4 → hv M' 80 j = hv M 80 j) → (∀ l, xsnd (hv M 81) len = some l → r.toInt = 1 ∧ hv M' 80 4 = (l.length : Int) ∧ l.length ≤ 6 ∧ ∀ i, i < l.length → xcr M' 80 i = l.getD i xd0) → (xsnd (hv M 81) len = none → r.toInt = 0) → Q (.inl (some (.int r))) (M', z, u)) : mq_R mq_PP (d + 2) 52 0 [some (.ref 80), none, none, none, none] [] (M, z, u) Q := by
  refine he_aload (n := 1) (i := 0) (by decide +kernel) rfl ?_
  refine hb_gfd (n := 4) (ci := 1) (j := 1) (ns := [1217, 15]) hm (by decide +kernel) rfl rfl (by decide) rfl ?_
  intro v1 hv1 lv1 uv1
  refine he_iconst (n := 5) (c := 4) (by decide +kernel) (by decide) ?_
  intro c4 hc4
  refine he_isub (n := 6) (by decide +kernel) (by omega) (by omega) ?_
  intro v5 hv5
  refine he_istore (n := 7) (i := 1) (by decide +kernel) rfl ?_
  refine he_aload (n := 8) (i := 0) (by decide +kernel) rfl ?_
  refine he_iconst (n := 9) (c := 0) (by decide +kernel) (by decide) ?_
  intro c8 hc8
  refine hb_pfd (n := 12) (ci := 1) (j := 4) (t := 0) (ns := [1224, 30]) hm (by decide +kernel) rfl rfl (by decide) (.inl rfl) ?_
  generalize hM1 : hb_set M 80 4 c8 = M1
  have hm1 : mz_sh mz_GG M1 := by rw [← hM1]; exact hb_set_sh hm rfl rfl (by omega) (by omega)
  have eM1 : ∀ b j, b ≠ 80 ∨ j ≠ 4 → hv M1 b j = hv M b j := by intro b j h; rw [← hM1]; exact hb_set_n h
  have sM1 : hv M1 80 4 = c8.toInt := by rw [← hM1]; exact hb_set_v hm rfl (by decide)
  have wM1 : ∀ b, b ≠ 80 → M1 b = M b := by intro b h; rw [← hM1]; exact hb_set_c h
  refine he_iload (n := 13) (i := 1) (by decide +kernel) rfl ?_
  have f1 : ∀ b, b ≠ 80 → b < 85 ∨ 90 < b → M1 b = M b := fun b g1 _ => wM1 b g1
  have f2 : ∀ j, j ≠ 4 → hv M1 80 j = hv M 80 j := fun j hj4 => eM1 _ _ (.inr hj4)
  have uB : ∀ t, hv M1 81 t = hv M 81 t := fun t => eM1 _ _ (.inl (by decide))
  have no : ∀ r : Int32, r.toInt = 0 → ¬ (4 ≤ len ∧ hv M 81 (len - 4) = 80 ∧ hv M 81 (len - 3) ≤ 6) → Q (.inl (some (.int r))) (M1, z, u) := fun r hr hn => K M1 r hm1 f1 f2 (fun l hl' => by unfold xsnd at hl'; rw [if_neg hn] at hl'; cases hl') (fun _ => hr)
  by_cases g13 : v5.toInt < 0
  · skip
    refine he_iflt_t (n := 16) (t := 40) (by decide +kernel) (by omega) ?_
    refine he_iconst (n := 41) (c := 0) (by decide +kernel) (by decide) ?_
    intro c40 hc40
    refine he_retz (by decide +kernel) (by omega) ?_
    exact no _ (by omega) (fun h => by omega)
  refine he_iflt_f (n := 16) (t := 40) (by decide +kernel) (by omega) ?_
  refine he_aload (n := 17) (i := 0) (by decide +kernel) rfl ?_
  refine he_getr (n := 20) (ci := 1) (j := 0) (ns := [1214, 9]) (b := 81) hm1 (by decide +kernel) rfl rfl (by decide +kernel) ?_
  refine he_iload (n := 21) (i := 1) (by decide +kernel) rfl ?_
  refine hb_ld (n := 22) (kind := 64) hm1 (by decide +kernel) rfl rfl (.inl rfl) (by omega) (show _ < (240 : Int) by omega) hb_at1 ?_
  intro v21 hv21 lv21 uv21
  refine he_iconst (n := 24) (c := 80) (by decide +kernel) (by decide) ?_
  intro c22 hc22
  have q21 : hv M 81 (len - 4) = v21.toInt := by rw [← hv21, show v5.toInt.toNat = len - 4 by omega, uB]
  by_cases g24 : v21.toInt = c22.toInt
  rotate_left
  · skip
    refine he_cmpne_t (n := 27) (t := 40) (by decide +kernel) (by omega) ?_
    refine he_iconst (n := 41) (c := 0) (by decide +kernel) (by decide) ?_
    intro c40 hc40
    refine he_retz (by decide +kernel) (by omega) ?_
    exact no _ (by omega) (fun h => by omega)
  refine he_cmpne_f (n := 27) (t := 40) (by decide +kernel) (by omega) ?_
  refine he_aload (n := 28) (i := 0) (by decide +kernel) rfl ?_
  refine he_getr (n := 31) (ci := 1) (j := 0) (ns := [1214, 9]) (b := 81) hm1 (by decide +kernel) rfl rfl (by decide +kernel) ?_
  refine he_iload (n := 32) (i := 1) (by decide +kernel) rfl ?_
  refine he_iconst (n := 33) (c := 1) (by decide +kernel) (by decide) ?_
  intro c32 hc32
  refine he_iadd (n := 34) (by decide +kernel) (by omega) (by omega) ?_
  intro v33 hv33
  refine hb_ld (n := 35) (kind := 64) hm1 (by decide +kernel) rfl rfl (.inl rfl) (by omega) (show _ < (240 : Int) by omega) hb_at1 ?_
  intro v34 hv34 lv34 uv34
  refine he_iconst (n := 37) (c := 6) (by decide +kernel) (by decide) ?_
  intro c35 hc35
  have q34 : hv M 81 (len - 3) = v34.toInt := by rw [← hv34, show v33.toInt.toNat = len - 3 by omega, uB]
  by_cases g37 : v34.toInt ≤ c35.toInt
  rotate_left
  · skip
    refine he_cmple_f (n := 40) (t := 42) (by decide +kernel) (by omega) ?_
    refine he_iconst (n := 41) (c := 0) (by decide +kernel) (by decide) ?_
    intro c40 hc40
    refine he_retz (by decide +kernel) (by omega) ?_
    exact no _ (by omega) (fun h => by omega)
  refine he_cmple_t (n := 40) (t := 42) (by decide +kernel) (by omega) ?_
  refine he_aload (n := 43) (i := 0) (by decide +kernel) rfl ?_
  refine he_iload (n := 44) (i := 1) (by decide +kernel) rfl ?_
  refine he_iconst (n := 45) (c := 2) (by decide +kernel) (by decide) ?_
  intro c44 hc44
  refine he_iadd (n := 46) (by decide +kernel) (by omega) (by omega) ?_
  intro v45 hv45
  refine he_iconst (n := 47) (c := 2) (by decide +kernel) (by decide) ?_
  intro c46 hc46
  refine he_v2 (n := 50) (j := 56) (ci := 1) (mx := 5) (ns := [3013, 3015, 14, 86]) (by decide +kernel) ((hb_kd (a := 80) hm1 rfl).trans rfl) (by show 0 ≤ 8; omega) (by show 3 ≤ 5; omega) ?_
  rw [mq_e56]
  refine xo_num80 (a := len - 2) (n := 2) hm1 (by omega) (by omega) (by omega) (by omega) ?_
  intro x2 hx2
  show mq_R mq_PP (d + 2) 52 50 _ [.int x2] (M1, z, u) Q
  rw [show hv M1 81 = hv M 81 from funext uB] at hx2
  have p2 : xnN (hv M 81) (len - 2) 2 < 65536 := xnN_lt 2 (fun t ht => (xx_rng (c := _) hm (a := 81) (i := len - 2 + t) (lo := 0) (hi := 255) rfl (show len - 2 + t < 240 by omega) hb_at1).2)
  rw [xs32_p (by omega)] at hx2
  refine he_istore (n := 51) (i := 2) (by decide +kernel) rfl ?_
  refine he_iload (n := 52) (i := 2) (by decide +kernel) rfl ?_
  refine he_istore (n := 53) (i := 3) (by decide +kernel) rfl ?_
  refine he_iconst (n := 54) (c := 0) (by decide +kernel) (by decide) ?_
  intro cb53 hcb53
  refine he_istore (n := 56) (i := 4) (by decide +kernel) rfl ?_
  refine xo_snd80_l (M0 := M) (len := len) (n := v34.toInt.toNat) (dir := xnN (hv M 81) (len - 2) 2) (R := xrcs (hv M 81) (len - 4) (xnN (hv M 81) (len - 2) 2) v34.toInt.toNat [] (xnN (hv M 81) (len - 2) 2)) ⟨by omega, hl2⟩ (by omega) hx2 (by omega) (by omega) ?_ v34.toInt.toNat [] (xnN (hv M 81) (len - 2) 2) M1 _ _ (by show 0 + _ = _; omega) (by show _ = ((0 : Nat) : Int); omega) hx2 (Nat.le_refl _) (by omega) rfl hm1 f1 f2 (fun i hi => absurd hi (Nat.not_lt_zero i))
  intro M' r hm' k1 k2 k3 k4
  have hX : xsnd (hv M 81) len = (match xrcs (hv M 81) (len - 4) (xnN (hv M 81) (len - 2) 2) v34.toInt.toNat [] (xnN (hv M 81) (len - 2) 2) with | some (l, a) => if a = len - 4 then some l else none | none => none) := by
    unfold xsnd
    rw [if_pos ⟨by omega, by omega, by omega⟩, q34]
    rfl
  generalize xrcs (hv M 81) (len - 4) (xnN (hv M 81) (len - 2) 2) v34.toInt.toNat [] (xnN (hv M 81) (len - 2) 2) = R at k3 k4 hX
  refine K M' r hm' k1 k2 (fun l hl' => ?_) (fun h => ?_)
  · rw [hX] at hl'
    rcases R with _ | ⟨l1, a1⟩
    · cases hl'
    · have hl' : (if a1 = len - 4 then some l1 else none) = some l := hl'
      by_cases ea : a1 = len - 4
      · rw [if_pos ea] at hl'
        cases hl'
        obtain ⟨t1, t2, t3, t4⟩ := k3 l (by rw [ea])
        exact ⟨t1, t2, by omega, t4⟩
      · rw [if_neg ea] at hl'
        cases hl'
  · rw [hX] at h
    rcases R with _ | ⟨l1, a1⟩
    · exact k4 (.inl rfl)
    · have h : (if a1 = len - 4 then some l1 else none) = none := h
      by_cases ea : a1 = len - 4
      · rw [if_pos ea] at h
        cases h
      · exact k4 (.inr ⟨l1, a1, rfl, ea⟩)
