/-! Loaders on both sides: open, append, close, exactly. -/
/-- how many; parent, closed, how many archives, archives -/
abbrev xLV : Type := Int × (Nat → Int) × (Nat → Int) × (Nat → Int) × (Nat → Nat → Int)
def cvw (M : Nat → mq_C) : xLV := (hv M 8 4, fun i => hv M (91 + 5 * i) 0, fun i => hv M (91 + 5 * i) 1, fun i => hv M (91 + 5 * i) 3, fun i j => hv M (92 + 5 * i) j)
def mvw (M : Nat → mq_C) : xLV := (hv M 234 30, hv M 257, hv M 260, hv M 258, fun i j => hv M 259 (4 * i + j))
def xLK (a b : xLV) : Prop := b.1 = a.1 ∧ ∀ i : Nat, i < 4 → b.2.1 i = a.2.1 i ∧ b.2.2.1 i = a.2.2.1 i ∧ b.2.2.2.1 i = a.2.2.2.1 i ∧ ∀ j : Nat, j < 4 → b.2.2.2.2 i j = a.2.2.2.2 i j
def xLE (a b : xLV) : Prop := a.1 = b.1 ∧ ∀ i : Nat, i < 4 → ((i : Int) < a.1 → a.2.1 i = b.2.1 i) ∧ a.2.2.1 i = b.2.2.1 i ∧ a.2.2.2.1 i = b.2.2.2.1 i ∧ ∀ j : Nat, j < 4 → a.2.2.2.2 i j = b.2.2.2.2 i j
theorem xLK_r {a : xLV} : xLK a a := ⟨rfl, fun _ _ => ⟨rfl, rfl, rfl, fun _ _ => rfl⟩⟩
theorem xLK_c {M M' : Nat → mq_C} (h4 : hv M' 8 4 = hv M 8 4) (h : ∀ i : Nat, i < 4 → M' (91 + 5 * i) = M (91 + 5 * i) ∧ M' (92 + 5 * i) = M (92 + 5 * i)) : xLK (cvw M) (cvw M') := ⟨h4, fun i hi => ⟨hb_vc (h i hi).1 0, hb_vc (h i hi).1 1, hb_vc (h i hi).1 3, fun j _ => hb_vc (h i hi).2 j⟩⟩
theorem xLK_m {M M' : Nat → mq_C} (h4 : hv M' 234 30 = hv M 234 30) (h : M' 257 = M 257 ∧ M' 258 = M 258 ∧ M' 259 = M 259 ∧ M' 260 = M 260) : xLK (mvw M) (mvw M') := ⟨h4, fun i _ => ⟨hb_vc h.1 i, hb_vc h.2.2.2 i, hb_vc h.2.1 i, fun j _ => hb_vc h.2.2.1 _⟩⟩
theorem xLE_k {a b a' b' : xLV} (h : xLE a b) (ha : xLK a a') (hb : xLK b b') : xLE a' b' := by
  obtain ⟨h1, h2⟩ := h
  obtain ⟨a1, a2⟩ := ha
  obtain ⟨b1, b2⟩ := hb
  refine ⟨by omega, fun i hi => ?_⟩
  obtain ⟨p1, p2, p3, p4⟩ := h2 i hi
  obtain ⟨q1, q2, q3, q4⟩ := a2 i hi
  obtain ⟨r1, r2, r3, r4⟩ := b2 i hi
  refine ⟨fun h => ?_, by omega, by omega, fun j hj => ?_⟩
  · rw [q1, r1]
    exact p1 (by omega)
  · rw [q4 j hj, r4 j hj]
    exact p4 j hj
abbrev xfit (c x : Int) : Prop := ¬ c = 4 ∧ (c = 0 → x = -1) ∧ (¬ c = 0 → 0 ≤ x ∧ x < c)
def xSo (a b : xLV) (x r : Int) : Prop := (xfit a.1 x ∧ r = a.1 ∧ b.1 = a.1 + 1 ∧ ∀ i : Nat, i < 4 → b.2.1 i = (if (i : Int) = a.1 then x else a.2.1 i) ∧ b.2.2.1 i = a.2.2.1 i ∧ b.2.2.2.1 i = a.2.2.2.1 i ∧ ∀ j : Nat, j < 4 → b.2.2.2.2 i j = a.2.2.2.2 i j) ∨ (¬ xfit a.1 x ∧ r = -1 ∧ xLK a b)
abbrev xapc (a : xLV) (l s : Int) : Prop := (0 ≤ l ∧ l < a.1) ∧ (0 ≤ s ∧ s ≤ 3) ∧ a.2.2.1 l.toNat = 0 ∧ ¬ a.2.2.2.1 l.toNat = 4
def xSa (a b : xLV) (l s r : Int) : Prop := (xapc a l s ∧ r = 1 ∧ b.1 = a.1 ∧ ∀ i : Nat, i < 4 → b.2.1 i = a.2.1 i ∧ b.2.2.1 i = a.2.2.1 i ∧ b.2.2.2.1 i = (if (i : Int) = l then a.2.2.2.1 i + 1 else a.2.2.2.1 i) ∧ ∀ j : Nat, j < 4 → b.2.2.2.2 i j = (if (i : Int) = l ∧ (j : Int) = a.2.2.2.1 i then s else a.2.2.2.2 i j)) ∨ (¬ xapc a l s ∧ r = 0 ∧ xLK a b)
abbrev xclc (a : xLV) (l : Int) : Prop := (0 ≤ l ∧ l < a.1) ∧ a.2.2.1 l.toNat = 0
def xSc (a b : xLV) (l r : Int) : Prop := (xclc a l ∧ r = 1 ∧ b.1 = a.1 ∧ ∀ i : Nat, i < 4 → b.2.1 i = a.2.1 i ∧ b.2.2.1 i = (if (i : Int) = l then 1 else a.2.2.1 i) ∧ b.2.2.2.1 i = a.2.2.2.1 i ∧ ∀ j : Nat, j < 4 → b.2.2.2.2 i j = a.2.2.2.2 i j) ∨ (¬ xclc a l ∧ r = 0 ∧ xLK a b)
theorem xSo_d {a b a' b' : xLV} {x r r' : Int} (h : xLE a b) (ha : xSo a a' x r) (hb : xSo b b' x r') : xLE a' b' ∧ r = r' := by
  have h1 := h.1
  rcases ha with ⟨c1, c2, c3, c4⟩ | ⟨c1, c2, c3⟩
  · rcases hb with ⟨d1, d2, d3, d4⟩ | ⟨d1, d2, d3⟩
    · refine ⟨⟨by omega, fun i hi => ?_⟩, by omega⟩
      obtain ⟨p1, p2, p3, p4⟩ := h.2 i hi
      obtain ⟨q1, q2, q3, q4⟩ := c4 i hi
      obtain ⟨r1, r2, r3, r4⟩ := d4 i hi
      refine ⟨fun hl => ?_, by omega, by omega, fun j hj => ?_⟩
      · rw [q1, r1]
        by_cases e : (i : Int) = a.1
        · rw [if_pos e, if_pos (by omega)]
        · rw [if_neg e, if_neg (by omega)]
          exact p1 (by omega)
      · rw [q4 j hj, r4 j hj]
        exact p4 j hj
    · rw [← h1] at d1
      exact absurd c1 d1
  · rcases hb with ⟨d1, d2, d3, d4⟩ | ⟨d1, d2, d3⟩
    · rw [← h1] at d1
      exact absurd d1 c1
    · exact ⟨xLE_k h c3 d3, by omega⟩
theorem xapc_c {a b : xLV} {l s : Int} (h4 : a.1 ≤ 4) (h : xLE a b) : xapc a l s ↔ xapc b l s := by
  obtain ⟨h1, h2⟩ := h
  by_cases c : 0 ≤ l ∧ l < a.1
  · obtain ⟨p1, p2, p3, p4⟩ := h2 l.toNat (by omega)
    unfold xapc
    rw [p2, p3, h1]
  · exact ⟨fun q => absurd q.1 c, fun q => absurd (h1 ▸ q.1) c⟩
theorem xSa_d {a b a' b' : xLV} {l s r r' : Int} (h4 : a.1 ≤ 4) (h : xLE a b) (ha : xSa a a' l s r) (hb : xSa b b' l s r') : xLE a' b' ∧ r = r' := by
  have hc := xapc_c (l := l) (s := s) h4 h
  have h1 := h.1
  rcases ha with ⟨c1, c2, c3, c4⟩ | ⟨c1, c2, c3⟩
  · rcases hb with ⟨d1, d2, d3, d4⟩ | ⟨d1, d2, d3⟩
    · refine ⟨⟨by omega, fun i hi => ?_⟩, by omega⟩
      obtain ⟨p1, p2, p3, p4⟩ := h.2 i hi
      obtain ⟨q1, q2, q3, q4⟩ := c4 i hi
      obtain ⟨r1, r2, r3, r4⟩ := d4 i hi
      refine ⟨fun hl => ?_, by omega, ?_, fun j hj => ?_⟩
      · rw [q1, r1]
        exact p1 (by omega)
      · rw [q3, r3, p3]
      · rw [q4 j hj, r4 j hj, p3, p4 j hj]
    · exact absurd (hc.mp c1) d1
  · rcases hb with ⟨d1, d2, d3, d4⟩ | ⟨d1, d2, d3⟩
    · exact absurd (hc.mpr d1) c1
    · exact ⟨xLE_k h c3 d3, by omega⟩
theorem xSc_d {a b a' b' : xLV} {l r r' : Int} (h4 : a.1 ≤ 4) (h : xLE a b) (ha : xSc a a' l r) (hb : xSc b b' l r') : xLE a' b' ∧ r = r' := by
  have h1 := h.1
  have hc : xclc a l ↔ xclc b l := by
    by_cases c : 0 ≤ l ∧ l < a.1
    · obtain ⟨p1, p2, p3, p4⟩ := h.2 l.toNat (by omega)
      unfold xclc
      rw [p2, h1]
    · exact ⟨fun q => absurd q.1 c, fun q => absurd (h1 ▸ q.1) c⟩
  rcases ha with ⟨c1, c2, c3, c4⟩ | ⟨c1, c2, c3⟩
  · rcases hb with ⟨d1, d2, d3, d4⟩ | ⟨d1, d2, d3⟩
    · refine ⟨⟨by omega, fun i hi => ?_⟩, by omega⟩
      obtain ⟨p1, p2, p3, p4⟩ := h.2 i hi
      obtain ⟨q1, q2, q3, q4⟩ := c4 i hi
      obtain ⟨r1, r2, r3, r4⟩ := d4 i hi
      refine ⟨fun hl => ?_, ?_, by omega, fun j hj => ?_⟩
      · rw [q1, r1]
        exact p1 (by omega)
      · rw [q2, r2, p2]
      · rw [q4 j hj, r4 j hj]
        exact p4 j hj
    · exact absurd (hc.mp c1) d1
  · rcases hb with ⟨d1, d2, d3, d4⟩ | ⟨d1, d2, d3⟩
    · exact absurd (hc.mpr d1) c1
    · exact ⟨xLE_k h c3 d3, by omega⟩
theorem xn_op1 {d z u : Nat} {M : Nat → mq_C} {Q : (Option Value ⊕ Nat) → mq_S → Prop} {x1 x : Int32} {o2 : Option Value} (hm : mz_sh mz_GG M) (hx1 : (hv M 8 4 = 0 → x1.toInt = -1) ∧ (¬ hv M 8 4 = 0 → 0 ≤ x1.toInt ∧ x1.toInt < hv M 8 4) → x.toInt = 1) (hx0 : ¬ ((hv M 8 4 = 0 → x1.toInt = -1) ∧ (¬ hv M 8 4 = 0 → 0 ≤ x1.toInt ∧ x1.toInt < hv M 8 4)) → x.toInt = 0) (K : ∀ (M' : Nat → mq_C) (r : Int32), xSo (cvw M) (cvw M') x1.toInt r.toInt → Q (.inl (some (.int r))) (M', z, u)) : mq_R mq_PP d 6 25 [some (.ref 8), some (.int x1), o2] [.int x] (M, z, u) Q := by
  have rg := xx_rng (c := _) hm (a := 8) (i := 4) (lo := 0) (hi := 4) rfl (by decide) rfl
  refine he_istore (n := 26) (i := 2) (by decide +kernel) rfl ?_
  refine he_aload (n := 27) (i := 0) (by decide +kernel) rfl ?_
  refine hb_gfd (n := 30) (ci := 0) (j := 4) (ns := [2081, 35]) hm (by decide +kernel) rfl rfl (by decide) rfl ?_
  intro v27 hv27 lv27 uv27
  refine he_iconst (n := 31) (c := 4) (by decide +kernel) (by decide) ?_
  intro c30 hc30
  by_cases g4 : hv M 8 4 = 4
  · skip
    refine he_cmpeq_t (n := 34) (t := 38) (by decide +kernel) (by omega) ?_
    refine he_iconst (n := 39) (c := -1) (by decide +kernel) (by decide) ?_
    intro c38 hc38
    refine he_reti (by decide +kernel) ?_
    exact K M _ (.inr ⟨fun h => h.1 g4, by omega, xLK_r⟩)
  by_cases gf : (hv M 8 4 = 0 → x1.toInt = -1) ∧ (¬ hv M 8 4 = 0 → 0 ≤ x1.toInt ∧ x1.toInt < hv M 8 4)
  rotate_left
  · have hx0 := hx0 gf
    refine he_cmpeq_f (n := 34) (t := 38) (by decide +kernel) (by omega) ?_
    refine he_iload (n := 35) (i := 2) (by decide +kernel) rfl ?_
    refine he_ifne_f (n := 38) (t := 40) (by decide +kernel) (by omega) ?_
    refine he_iconst (n := 39) (c := -1) (by decide +kernel) (by decide) ?_
    intro c38 hc38
    refine he_reti (by decide +kernel) ?_
    exact K M _ (.inr ⟨fun h => gf h.2, by omega, xLK_r⟩)
  have hx1 := hx1 gf
  have hcase : hv M 8 4 = 0 ∨ hv M 8 4 = 1 ∨ hv M 8 4 = 2 ∨ hv M 8 4 = 3 := by omega
  rcases hcase with hc | hc | hc | hc
  · have hx1r : -1 ≤ x1.toInt ∧ x1.toInt ≤ -1 := by
      have g0 := gf.1
      have g1 := gf.2
      rw [hc] at g0 g1
      omega
    refine he_cmpeq_f (n := 34) (t := 38) (by decide +kernel) (by omega) ?_
    refine he_iload (n := 35) (i := 2) (by decide +kernel) rfl ?_
    refine he_ifne_t (n := 38) (t := 40) (by decide +kernel) (by omega) ?_
    refine he_aload (n := 41) (i := 0) (by decide +kernel) rfl ?_
    refine he_getr (n := 44) (ci := 0) (j := 3) (ns := [2080, 31]) (b := 38) hm (by decide +kernel) rfl rfl (by decide +kernel) ?_
    refine he_aload (n := 45) (i := 0) (by decide +kernel) rfl ?_
    refine hb_gfd (n := 48) (ci := 0) (j := 4) (ns := [2081, 35]) hm (by decide +kernel) rfl rfl (by decide) rfl ?_
    intro v45 hv45 lv45 uv45
    refine he_aald (n := 49) (kind := 75) (b := 91) hm (by decide +kernel) rfl rfl (by decide) (by omega) (by rw [show v45.toInt.toNat = 0 by omega]; decide +kernel) ?_
    refine he_iload (n := 50) (i := 1) (by decide +kernel) rfl ?_
    refine hb_pfd (n := 53) (ci := 5) (j := 0) (t := 0) (ns := [2023, 143]) hm (by decide +kernel) rfl rfl (by decide) (.inl rfl) ?_
    generalize hM1 : hb_set M 91 0 x1 = M1
    have hm1 : mz_sh mz_GG M1 := by rw [← hM1]; exact hb_set_sh hm rfl rfl (by omega) (by omega)
    have eM1 : ∀ b j, b ≠ 91 ∨ j ≠ 0 → hv M1 b j = hv M b j := by intro b j h; rw [← hM1]; exact hb_set_n h
    have sM1 : hv M1 91 0 = x1.toInt := by rw [← hM1]; exact hb_set_v hm rfl (by decide)
    have wM1 : ∀ b, b ≠ 91 → M1 b = M b := by intro b h; rw [← hM1]; exact hb_set_c h
    refine he_aload (n := 54) (i := 0) (by decide +kernel) rfl ?_
    refine he_dup_r (n := 55) (by decide +kernel) ?_
    have q8 : hv M1 8 4 = hv M 8 4 := eM1 _ _ (.inl (by decide))
    refine hb_gfd (n := 58) (ci := 0) (j := 4) (ns := [2081, 35]) hm1 (by decide +kernel) rfl rfl (by decide) rfl ?_
    intro v55 hv55 lv55 uv55
    refine he_iconst (n := 59) (c := 1) (by decide +kernel) (by decide) ?_
    intro c58 hc58
    refine he_iadd (n := 60) (by decide +kernel) (by omega) (by omega) ?_
    intro v59 hv59
    refine hb_pfd (n := 63) (ci := 0) (j := 4) (t := 0) (ns := [2081, 35]) hm1 (by decide +kernel) rfl rfl (by decide) (.inl rfl) ?_
    generalize hM2 : hb_set M1 8 4 v59 = M2
    have hm2 : mz_sh mz_GG M2 := by rw [← hM2]; exact hb_set_sh hm1 rfl rfl (by omega) (by omega)
    have eM2 : ∀ b j, b ≠ 8 ∨ j ≠ 4 → hv M2 b j = hv M1 b j := by intro b j h; rw [← hM2]; exact hb_set_n h
    have sM2 : hv M2 8 4 = v59.toInt := by rw [← hM2]; exact hb_set_v hm1 rfl (by decide)
    have wM2 : ∀ b, b ≠ 8 → M2 b = M1 b := by intro b h; rw [← hM2]; exact hb_set_c h
    refine he_aload (n := 64) (i := 0) (by decide +kernel) rfl ?_
    refine hb_gfd (n := 67) (ci := 0) (j := 4) (ns := [2081, 35]) hm2 (by decide +kernel) rfl rfl (by decide) rfl ?_
    intro v64 hv64 lv64 uv64
    refine he_iconst (n := 68) (c := 1) (by decide +kernel) (by decide) ?_
    intro c67 hc67
    refine he_isub (n := 69) (by decide +kernel) (by omega) (by omega) ?_
    intro v68 hv68
    refine he_reti (by decide +kernel) ?_
    refine K M2 _ (.inl ⟨⟨g4, gf⟩, by show _ = hv M 8 4; omega, by show hv M2 8 4 = hv M 8 4 + 1; rw [sM2]; omega, fun i hi => ⟨?_, ?_, ?_, fun j hj => ?_⟩⟩)
    · show hv M2 (91 + 5 * i) 0 = if (i : Int) = hv M 8 4 then x1.toInt else hv M (91 + 5 * i) 0
      rw [eM2 _ _ (.inl (by omega))]
      by_cases e : i = 0
      · rw [if_pos (by omega), e]
        exact sM1
      · rw [if_neg (by omega), eM1 _ _ (.inl (by omega))]
    · show hv M2 (91 + 5 * i) 1 = hv M (91 + 5 * i) 1
      rw [eM2 _ _ (.inl (by omega)), eM1 _ _ (.inr (by decide))]
    · show hv M2 (91 + 5 * i) 3 = hv M (91 + 5 * i) 3
      rw [eM2 _ _ (.inl (by omega)), eM1 _ _ (.inr (by decide))]
    · show hv M2 (92 + 5 * i) j = hv M (92 + 5 * i) j
      rw [eM2 _ _ (.inl (by omega)), eM1 _ _ (.inl (by omega))]
  · have hx1r : -1 ≤ x1.toInt ∧ x1.toInt ≤ 0 := by
      have g0 := gf.1
      have g1 := gf.2
      rw [hc] at g0 g1
      omega
    refine he_cmpeq_f (n := 34) (t := 38) (by decide +kernel) (by omega) ?_
    refine he_iload (n := 35) (i := 2) (by decide +kernel) rfl ?_
    refine he_ifne_t (n := 38) (t := 40) (by decide +kernel) (by omega) ?_
    refine he_aload (n := 41) (i := 0) (by decide +kernel) rfl ?_
    refine he_getr (n := 44) (ci := 0) (j := 3) (ns := [2080, 31]) (b := 38) hm (by decide +kernel) rfl rfl (by decide +kernel) ?_
    refine he_aload (n := 45) (i := 0) (by decide +kernel) rfl ?_
    refine hb_gfd (n := 48) (ci := 0) (j := 4) (ns := [2081, 35]) hm (by decide +kernel) rfl rfl (by decide) rfl ?_
    intro v45 hv45 lv45 uv45
    refine he_aald (n := 49) (kind := 75) (b := 96) hm (by decide +kernel) rfl rfl (by decide) (by omega) (by rw [show v45.toInt.toNat = 1 by omega]; decide +kernel) ?_
    refine he_iload (n := 50) (i := 1) (by decide +kernel) rfl ?_
    refine hb_pfd (n := 53) (ci := 5) (j := 0) (t := 0) (ns := [2023, 143]) hm (by decide +kernel) rfl rfl (by decide) (.inl rfl) ?_
    generalize hM1 : hb_set M 96 0 x1 = M1
    have hm1 : mz_sh mz_GG M1 := by rw [← hM1]; exact hb_set_sh hm rfl rfl (by omega) (by omega)
    have eM1 : ∀ b j, b ≠ 96 ∨ j ≠ 0 → hv M1 b j = hv M b j := by intro b j h; rw [← hM1]; exact hb_set_n h
    have sM1 : hv M1 96 0 = x1.toInt := by rw [← hM1]; exact hb_set_v hm rfl (by decide)
    have wM1 : ∀ b, b ≠ 96 → M1 b = M b := by intro b h; rw [← hM1]; exact hb_set_c h
    refine he_aload (n := 54) (i := 0) (by decide +kernel) rfl ?_
    refine he_dup_r (n := 55) (by decide +kernel) ?_
    have q8 : hv M1 8 4 = hv M 8 4 := eM1 _ _ (.inl (by decide))
    refine hb_gfd (n := 58) (ci := 0) (j := 4) (ns := [2081, 35]) hm1 (by decide +kernel) rfl rfl (by decide) rfl ?_
    intro v55 hv55 lv55 uv55
    refine he_iconst (n := 59) (c := 1) (by decide +kernel) (by decide) ?_
    intro c58 hc58
    refine he_iadd (n := 60) (by decide +kernel) (by omega) (by omega) ?_
    intro v59 hv59
    refine hb_pfd (n := 63) (ci := 0) (j := 4) (t := 0) (ns := [2081, 35]) hm1 (by decide +kernel) rfl rfl (by decide) (.inl rfl) ?_
    generalize hM2 : hb_set M1 8 4 v59 = M2
    have hm2 : mz_sh mz_GG M2 := by rw [← hM2]; exact hb_set_sh hm1 rfl rfl (by omega) (by omega)
    have eM2 : ∀ b j, b ≠ 8 ∨ j ≠ 4 → hv M2 b j = hv M1 b j := by intro b j h; rw [← hM2]; exact hb_set_n h
    have sM2 : hv M2 8 4 = v59.toInt := by rw [← hM2]; exact hb_set_v hm1 rfl (by decide)
    have wM2 : ∀ b, b ≠ 8 → M2 b = M1 b := by intro b h; rw [← hM2]; exact hb_set_c h
    refine he_aload (n := 64) (i := 0) (by decide +kernel) rfl ?_
    refine hb_gfd (n := 67) (ci := 0) (j := 4) (ns := [2081, 35]) hm2 (by decide +kernel) rfl rfl (by decide) rfl ?_
    intro v64 hv64 lv64 uv64
    refine he_iconst (n := 68) (c := 1) (by decide +kernel) (by decide) ?_
    intro c67 hc67
    refine he_isub (n := 69) (by decide +kernel) (by omega) (by omega) ?_
    intro v68 hv68
    refine he_reti (by decide +kernel) ?_
    refine K M2 _ (.inl ⟨⟨g4, gf⟩, by show _ = hv M 8 4; omega, by show hv M2 8 4 = hv M 8 4 + 1; rw [sM2]; omega, fun i hi => ⟨?_, ?_, ?_, fun j hj => ?_⟩⟩)
    · show hv M2 (91 + 5 * i) 0 = if (i : Int) = hv M 8 4 then x1.toInt else hv M (91 + 5 * i) 0
      rw [eM2 _ _ (.inl (by omega))]
      by_cases e : i = 1
      · rw [if_pos (by omega), e]
        exact sM1
      · rw [if_neg (by omega), eM1 _ _ (.inl (by omega))]
    · show hv M2 (91 + 5 * i) 1 = hv M (91 + 5 * i) 1
      rw [eM2 _ _ (.inl (by omega)), eM1 _ _ (.inr (by decide))]
    · show hv M2 (91 + 5 * i) 3 = hv M (91 + 5 * i) 3
      rw [eM2 _ _ (.inl (by omega)), eM1 _ _ (.inr (by decide))]
    · show hv M2 (92 + 5 * i) j = hv M (92 + 5 * i) j
      rw [eM2 _ _ (.inl (by omega)), eM1 _ _ (.inl (by omega))]
  · have hx1r : -1 ≤ x1.toInt ∧ x1.toInt ≤ 1 := by
      have g0 := gf.1
      have g1 := gf.2
      rw [hc] at g0 g1
      omega
    refine he_cmpeq_f (n := 34) (t := 38) (by decide +kernel) (by omega) ?_
    refine he_iload (n := 35) (i := 2) (by decide +kernel) rfl ?_
    refine he_ifne_t (n := 38) (t := 40) (by decide +kernel) (by omega) ?_
    refine he_aload (n := 41) (i := 0) (by decide +kernel) rfl ?_
    refine he_getr (n := 44) (ci := 0) (j := 3) (ns := [2080, 31]) (b := 38) hm (by decide +kernel) rfl rfl (by decide +kernel) ?_
    refine he_aload (n := 45) (i := 0) (by decide +kernel) rfl ?_
    refine hb_gfd (n := 48) (ci := 0) (j := 4) (ns := [2081, 35]) hm (by decide +kernel) rfl rfl (by decide) rfl ?_
    intro v45 hv45 lv45 uv45
    refine he_aald (n := 49) (kind := 75) (b := 101) hm (by decide +kernel) rfl rfl (by decide) (by omega) (by rw [show v45.toInt.toNat = 2 by omega]; decide +kernel) ?_
    refine he_iload (n := 50) (i := 1) (by decide +kernel) rfl ?_
    refine hb_pfd (n := 53) (ci := 5) (j := 0) (t := 0) (ns := [2023, 143]) hm (by decide +kernel) rfl rfl (by decide) (.inl rfl) ?_
    generalize hM1 : hb_set M 101 0 x1 = M1
    have hm1 : mz_sh mz_GG M1 := by rw [← hM1]; exact hb_set_sh hm rfl rfl (by omega) (by omega)
    have eM1 : ∀ b j, b ≠ 101 ∨ j ≠ 0 → hv M1 b j = hv M b j := by intro b j h; rw [← hM1]; exact hb_set_n h
    have sM1 : hv M1 101 0 = x1.toInt := by rw [← hM1]; exact hb_set_v hm rfl (by decide)
    have wM1 : ∀ b, b ≠ 101 → M1 b = M b := by intro b h; rw [← hM1]; exact hb_set_c h
    refine he_aload (n := 54) (i := 0) (by decide +kernel) rfl ?_
    refine he_dup_r (n := 55) (by decide +kernel) ?_
    have q8 : hv M1 8 4 = hv M 8 4 := eM1 _ _ (.inl (by decide))
    refine hb_gfd (n := 58) (ci := 0) (j := 4) (ns := [2081, 35]) hm1 (by decide +kernel) rfl rfl (by decide) rfl ?_
    intro v55 hv55 lv55 uv55
    refine he_iconst (n := 59) (c := 1) (by decide +kernel) (by decide) ?_
    intro c58 hc58
    refine he_iadd (n := 60) (by decide +kernel) (by omega) (by omega) ?_
    intro v59 hv59
    refine hb_pfd (n := 63) (ci := 0) (j := 4) (t := 0) (ns := [2081, 35]) hm1 (by decide +kernel) rfl rfl (by decide) (.inl rfl) ?_
    generalize hM2 : hb_set M1 8 4 v59 = M2
    have hm2 : mz_sh mz_GG M2 := by rw [← hM2]; exact hb_set_sh hm1 rfl rfl (by omega) (by omega)
    have eM2 : ∀ b j, b ≠ 8 ∨ j ≠ 4 → hv M2 b j = hv M1 b j := by intro b j h; rw [← hM2]; exact hb_set_n h
    have sM2 : hv M2 8 4 = v59.toInt := by rw [← hM2]; exact hb_set_v hm1 rfl (by decide)
    have wM2 : ∀ b, b ≠ 8 → M2 b = M1 b := by intro b h; rw [← hM2]; exact hb_set_c h
    refine he_aload (n := 64) (i := 0) (by decide +kernel) rfl ?_
    refine hb_gfd (n := 67) (ci := 0) (j := 4) (ns := [2081, 35]) hm2 (by decide +kernel) rfl rfl (by decide) rfl ?_
    intro v64 hv64 lv64 uv64
    refine he_iconst (n := 68) (c := 1) (by decide +kernel) (by decide) ?_
    intro c67 hc67
    refine he_isub (n := 69) (by decide +kernel) (by omega) (by omega) ?_
    intro v68 hv68
    refine he_reti (by decide +kernel) ?_
    refine K M2 _ (.inl ⟨⟨g4, gf⟩, by show _ = hv M 8 4; omega, by show hv M2 8 4 = hv M 8 4 + 1; rw [sM2]; omega, fun i hi => ⟨?_, ?_, ?_, fun j hj => ?_⟩⟩)
    · show hv M2 (91 + 5 * i) 0 = if (i : Int) = hv M 8 4 then x1.toInt else hv M (91 + 5 * i) 0
      rw [eM2 _ _ (.inl (by omega))]
      by_cases e : i = 2
      · rw [if_pos (by omega), e]
        exact sM1
      · rw [if_neg (by omega), eM1 _ _ (.inl (by omega))]
    · show hv M2 (91 + 5 * i) 1 = hv M (91 + 5 * i) 1
      rw [eM2 _ _ (.inl (by omega)), eM1 _ _ (.inr (by decide))]
    · show hv M2 (91 + 5 * i) 3 = hv M (91 + 5 * i) 3
      rw [eM2 _ _ (.inl (by omega)), eM1 _ _ (.inr (by decide))]
    · show hv M2 (92 + 5 * i) j = hv M (92 + 5 * i) j
      rw [eM2 _ _ (.inl (by omega)), eM1 _ _ (.inl (by omega))]
  · have hx1r : -1 ≤ x1.toInt ∧ x1.toInt ≤ 2 := by
      have g0 := gf.1
      have g1 := gf.2
      rw [hc] at g0 g1
      omega
    refine he_cmpeq_f (n := 34) (t := 38) (by decide +kernel) (by omega) ?_
    refine he_iload (n := 35) (i := 2) (by decide +kernel) rfl ?_
    refine he_ifne_t (n := 38) (t := 40) (by decide +kernel) (by omega) ?_
    refine he_aload (n := 41) (i := 0) (by decide +kernel) rfl ?_
    refine he_getr (n := 44) (ci := 0) (j := 3) (ns := [2080, 31]) (b := 38) hm (by decide +kernel) rfl rfl (by decide +kernel) ?_
    refine he_aload (n := 45) (i := 0) (by decide +kernel) rfl ?_
    refine hb_gfd (n := 48) (ci := 0) (j := 4) (ns := [2081, 35]) hm (by decide +kernel) rfl rfl (by decide) rfl ?_
    intro v45 hv45 lv45 uv45
    refine he_aald (n := 49) (kind := 75) (b := 106) hm (by decide +kernel) rfl rfl (by decide) (by omega) (by rw [show v45.toInt.toNat = 3 by omega]; decide +kernel) ?_
    refine he_iload (n := 50) (i := 1) (by decide +kernel) rfl ?_
    refine hb_pfd (n := 53) (ci := 5) (j := 0) (t := 0) (ns := [2023, 143]) hm (by decide +kernel) rfl rfl (by decide) (.inl rfl) ?_
    generalize hM1 : hb_set M 106 0 x1 = M1
    have hm1 : mz_sh mz_GG M1 := by rw [← hM1]; exact hb_set_sh hm rfl rfl (by omega) (by omega)
    have eM1 : ∀ b j, b ≠ 106 ∨ j ≠ 0 → hv M1 b j = hv M b j := by intro b j h; rw [← hM1]; exact hb_set_n h
    have sM1 : hv M1 106 0 = x1.toInt := by rw [← hM1]; exact hb_set_v hm rfl (by decide)
    have wM1 : ∀ b, b ≠ 106 → M1 b = M b := by intro b h; rw [← hM1]; exact hb_set_c h
    refine he_aload (n := 54) (i := 0) (by decide +kernel) rfl ?_
    refine he_dup_r (n := 55) (by decide +kernel) ?_
    have q8 : hv M1 8 4 = hv M 8 4 := eM1 _ _ (.inl (by decide))
    refine hb_gfd (n := 58) (ci := 0) (j := 4) (ns := [2081, 35]) hm1 (by decide +kernel) rfl rfl (by decide) rfl ?_
    intro v55 hv55 lv55 uv55
    refine he_iconst (n := 59) (c := 1) (by decide +kernel) (by decide) ?_
    intro c58 hc58
    refine he_iadd (n := 60) (by decide +kernel) (by omega) (by omega) ?_
    intro v59 hv59
    refine hb_pfd (n := 63) (ci := 0) (j := 4) (t := 0) (ns := [2081, 35]) hm1 (by decide +kernel) rfl rfl (by decide) (.inl rfl) ?_
    generalize hM2 : hb_set M1 8 4 v59 = M2
    have hm2 : mz_sh mz_GG M2 := by rw [← hM2]; exact hb_set_sh hm1 rfl rfl (by omega) (by omega)
    have eM2 : ∀ b j, b ≠ 8 ∨ j ≠ 4 → hv M2 b j = hv M1 b j := by intro b j h; rw [← hM2]; exact hb_set_n h
    have sM2 : hv M2 8 4 = v59.toInt := by rw [← hM2]; exact hb_set_v hm1 rfl (by decide)
    have wM2 : ∀ b, b ≠ 8 → M2 b = M1 b := by intro b h; rw [← hM2]; exact hb_set_c h
    refine he_aload (n := 64) (i := 0) (by decide +kernel) rfl ?_
    refine hb_gfd (n := 67) (ci := 0) (j := 4) (ns := [2081, 35]) hm2 (by decide +kernel) rfl rfl (by decide) rfl ?_
    intro v64 hv64 lv64 uv64
    refine he_iconst (n := 68) (c := 1) (by decide +kernel) (by decide) ?_
    intro c67 hc67
    refine he_isub (n := 69) (by decide +kernel) (by omega) (by omega) ?_
    intro v68 hv68
    refine he_reti (by decide +kernel) ?_
    refine K M2 _ (.inl ⟨⟨g4, gf⟩, by show _ = hv M 8 4; omega, by show hv M2 8 4 = hv M 8 4 + 1; rw [sM2]; omega, fun i hi => ⟨?_, ?_, ?_, fun j hj => ?_⟩⟩)
    · show hv M2 (91 + 5 * i) 0 = if (i : Int) = hv M 8 4 then x1.toInt else hv M (91 + 5 * i) 0
      rw [eM2 _ _ (.inl (by omega))]
      by_cases e : i = 3
      · rw [if_pos (by omega), e]
        exact sM1
      · rw [if_neg (by omega), eM1 _ _ (.inl (by omega))]
    · show hv M2 (91 + 5 * i) 1 = hv M (91 + 5 * i) 1
      rw [eM2 _ _ (.inl (by omega)), eM1 _ _ (.inr (by decide))]
    · show hv M2 (91 + 5 * i) 3 = hv M (91 + 5 * i) 3
      rw [eM2 _ _ (.inl (by omega)), eM1 _ _ (.inr (by decide))]
    · show hv M2 (92 + 5 * i) j = hv M (92 + 5 * i) j
      rw [eM2 _ _ (.inl (by omega)), eM1 _ _ (.inl (by omega))]
theorem xn_open {d z u : Nat} {M : Nat → mq_C} {Q : (Option Value ⊕ Nat) → mq_S → Prop} {x1 : Int32} (hm : mz_sh mz_GG M) (K : ∀ (M' : Nat → mq_C) (r : Int32), xSo (cvw M) (cvw M') x1.toInt r.toInt → Q (.inl (some (.int r))) (M', z, u)) : mq_R mq_PP (d + 1) 6 0 [some (.ref 8), some (.int x1), none] [] (M, z, u) Q := by
  refine he_aload (n := 1) (i := 0) (by decide +kernel) rfl ?_
  refine hb_gfd (n := 4) (ci := 0) (j := 4) (ns := [2081, 35]) hm (by decide +kernel) rfl rfl (by decide) rfl ?_
  intro v1 hv1 lv1 uv1
  by_cases g : hv M 8 4 = 0
  · skip
    refine he_ifne_f (n := 7) (t := 20) (by decide +kernel) (by omega) ?_
    refine he_iload (n := 8) (i := 1) (by decide +kernel) rfl ?_
    refine he_iconst (n := 9) (c := -1) (by decide +kernel) (by decide) ?_
    intro c8 hc8
    by_cases g9 : x1.toInt = -1
    rotate_left
    · skip
      refine he_cmpne_t (n := 12) (t := 16) (by decide +kernel) (by omega) ?_
      refine he_iconst (n := 17) (c := 0) (by decide +kernel) (by decide) ?_
      intro c16 hc16
      refine he_goto (t := 25) (by decide +kernel) ?_
      exact xn_op1 hm (fun h => absurd (h.1 g) g9) (fun _ => by omega) K
    · skip
      refine he_cmpne_f (n := 12) (t := 16) (by decide +kernel) (by omega) ?_
      refine he_iconst (n := 13) (c := 1) (by decide +kernel) (by decide) ?_
      intro c12 hc12
      refine he_goto (t := 25) (by decide +kernel) ?_
      exact xn_op1 hm (fun _ => by omega) (fun h => absurd ⟨fun _ => g9, fun q => absurd g q⟩ h) K
  · skip
    refine he_ifne_t (n := 7) (t := 20) (by decide +kernel) (by omega) ?_
    refine he_aload (n := 21) (i := 0) (by decide +kernel) rfl ?_
    refine he_iload (n := 22) (i := 1) (by decide +kernel) rfl ?_
    refine he_v1 (n := 25) (j := 19) (ci := 0) (mx := 2) (ns := [3084, 3086, 26, 140]) (by decide +kernel) ((hb_kd (a := 8) hm rfl).trans rfl) (by show 0 ≤ 8; omega) (by show 2 ≤ 2; omega) ?_
    rw [mq_e19]
    refine xq_isl hm ?_
    intro r a1 a0
    show mq_R mq_PP (d + 1) 6 25 _ [.int r] (M, z, u) Q
    exact xn_op1 hm (fun h => a1 (h.2 g)) (fun h => a0 (fun q => h ⟨fun p => absurd p g, fun _ => q⟩)) K
theorem xn_aa91 {d z u : Nat} {M : Nat → mq_C} {Q : (Option Value ⊕ Nat) → mq_S → Prop} {x1 : Int32} (hm : mz_sh mz_GG M) (h0 : 0 ≤ x1.toInt) (h3 : x1.toInt ≤ 3) (K1 : ∀ (M' : Nat → mq_C) (r : Int32), hv M 91 1 = 0 → ¬ hv M 91 3 = 4 → r.toInt = 1 → hv M' 91 3 = hv M 91 3 + 1 → hv M' 92 (hv M 91 3).toNat = x1.toInt → (∀ c j, ¬ (c = 91 ∧ j = 3) → ¬ (c = 92 ∧ j = (hv M 91 3).toNat) → hv M' c j = hv M c j) → Q (.inl (some (.int r))) (M', z, u)) (K0 : ∀ r : Int32, ¬ (hv M 91 1 = 0 ∧ ¬ hv M 91 3 = 4) → r.toInt = 0 → Q (.inl (some (.int r))) (M, z, u)) : mq_R mq_PP d 72 0 [some (.ref 91), some (.int x1)] [] (M, z, u) Q := by
  refine he_aload (n := 1) (i := 0) (by decide +kernel) rfl ?_
  refine hb_gfd (n := 4) (ci := 5) (j := 1) (ns := [2024, 15]) hm (by decide +kernel) rfl rfl (by decide) rfl ?_
  intro v1 hv1 lv1 uv1
  by_cases g1 : hv M 91 1 = 0
  rotate_left
  · skip
    refine he_ifne_t (n := 7) (t := 15) (by decide +kernel) (by omega) ?_
    refine he_iconst (n := 16) (c := 0) (by decide +kernel) (by decide) ?_
    intro c15 hc15
    refine he_retz (by decide +kernel) (by omega) ?_
    exact K0 _ (fun h => g1 h.1) (by omega)
  refine he_ifne_f (n := 7) (t := 15) (by decide +kernel) (by omega) ?_
  refine he_aload (n := 8) (i := 0) (by decide +kernel) rfl ?_
  refine hb_gfd (n := 11) (ci := 5) (j := 3) (ns := [2028, 23]) hm (by decide +kernel) rfl rfl (by decide) rfl ?_
  intro v8 hv8 lv8 uv8
  refine he_iconst (n := 12) (c := 4) (by decide +kernel) (by decide) ?_
  intro c11 hc11
  by_cases g3 : hv M 91 3 = 4
  · skip
    refine he_cmpne_f (n := 15) (t := 17) (by decide +kernel) (by omega) ?_
    refine he_iconst (n := 16) (c := 0) (by decide +kernel) (by decide) ?_
    intro c15 hc15
    refine he_retz (by decide +kernel) (by omega) ?_
    exact K0 _ (fun h => h.2 g3) (by omega)
  refine he_cmpne_t (n := 15) (t := 17) (by decide +kernel) (by omega) ?_
  refine he_aload (n := 18) (i := 0) (by decide +kernel) rfl ?_
  refine he_getr (n := 21) (ci := 5) (j := 2) (ns := [2026, 19]) (b := 92) hm (by decide +kernel) rfl rfl (by decide +kernel) ?_
  refine he_aload (n := 22) (i := 0) (by decide +kernel) rfl ?_
  refine hb_gfd (n := 25) (ci := 5) (j := 3) (ns := [2028, 23]) hm (by decide +kernel) rfl rfl (by decide) rfl ?_
  intro v22 hv22 lv22 uv22
  refine he_iload (n := 26) (i := 1) (by decide +kernel) rfl ?_
  refine hb_sta (n := 27) (kind := 64) hm (by decide +kernel) rfl rfl (.inl rfl) (by omega) (show _ < (4 : Int) by omega) ?_
  generalize hM1 : hb_set M 92 (v22.toInt.toNat) x1 = M1
  have hm1 : mz_sh mz_GG M1 := by rw [← hM1]; exact hb_set_sh hm rfl hb_at1 (by omega) (by omega)
  have eM1 : ∀ b j, b ≠ 92 ∨ j ≠ v22.toInt.toNat → hv M1 b j = hv M b j := by intro b j h; rw [← hM1]; exact hb_set_n h
  have sM1 : hv M1 92 (v22.toInt.toNat) = x1.toInt := by rw [← hM1]; exact hb_set_v hm rfl (show _ < 4 by omega)
  have wM1 : ∀ b, b ≠ 92 → M1 b = M b := by intro b h; rw [← hM1]; exact hb_set_c h
  have q3 : hv M1 91 3 = hv M 91 3 := eM1 _ _ (.inl (by decide))
  refine he_aload (n := 28) (i := 0) (by decide +kernel) rfl ?_
  refine he_dup_r (n := 29) (by decide +kernel) ?_
  refine hb_gfd (n := 32) (ci := 5) (j := 3) (ns := [2028, 23]) hm1 (by decide +kernel) rfl rfl (by decide) rfl ?_
  intro v29 hv29 lv29 uv29
  refine he_iconst (n := 33) (c := 1) (by decide +kernel) (by decide) ?_
  intro c32 hc32
  refine he_iadd (n := 34) (by decide +kernel) (by omega) (by omega) ?_
  intro v33 hv33
  refine hb_pfd (n := 37) (ci := 5) (j := 3) (t := 0) (ns := [2028, 23]) hm1 (by decide +kernel) rfl rfl (by decide) (.inl rfl) ?_
  generalize hM2 : hb_set M1 91 3 v33 = M2
  have hm2 : mz_sh mz_GG M2 := by rw [← hM2]; exact hb_set_sh hm1 rfl rfl (by omega) (by omega)
  have eM2 : ∀ b j, b ≠ 91 ∨ j ≠ 3 → hv M2 b j = hv M1 b j := by intro b j h; rw [← hM2]; exact hb_set_n h
  have sM2 : hv M2 91 3 = v33.toInt := by rw [← hM2]; exact hb_set_v hm1 rfl (by decide)
  have wM2 : ∀ b, b ≠ 91 → M2 b = M1 b := by intro b h; rw [← hM2]; exact hb_set_c h
  refine he_iconst (n := 38) (c := 1) (by decide +kernel) (by decide) ?_
  intro c37 hc37
  refine he_retz (by decide +kernel) (by omega) ?_
  refine K1 M2 _ g1 g3 (by omega) (by rw [sM2]; omega) ?_ (fun c j p q => ?_)
  · rw [eM2 _ _ (.inl (by decide)), show (hv M 91 3).toNat = v22.toInt.toNat by omega]
    exact sM1
  · rw [eM2 c j (by omega), eM1 c j (by omega)]
theorem xn_aa96 {d z u : Nat} {M : Nat → mq_C} {Q : (Option Value ⊕ Nat) → mq_S → Prop} {x1 : Int32} (hm : mz_sh mz_GG M) (h0 : 0 ≤ x1.toInt) (h3 : x1.toInt ≤ 3) (K1 : ∀ (M' : Nat → mq_C) (r : Int32), hv M 96 1 = 0 → ¬ hv M 96 3 = 4 → r.toInt = 1 → hv M' 96 3 = hv M 96 3 + 1 → hv M' 97 (hv M 96 3).toNat = x1.toInt → (∀ c j, ¬ (c = 96 ∧ j = 3) → ¬ (c = 97 ∧ j = (hv M 96 3).toNat) → hv M' c j = hv M c j) → Q (.inl (some (.int r))) (M', z, u)) (K0 : ∀ r : Int32, ¬ (hv M 96 1 = 0 ∧ ¬ hv M 96 3 = 4) → r.toInt = 0 → Q (.inl (some (.int r))) (M, z, u)) : mq_R mq_PP d 72 0 [some (.ref 96), some (.int x1)] [] (M, z, u) Q := by
  refine he_aload (n := 1) (i := 0) (by decide +kernel) rfl ?_
  refine hb_gfd (n := 4) (ci := 5) (j := 1) (ns := [2024, 15]) hm (by decide +kernel) rfl rfl (by decide) rfl ?_
  intro v1 hv1 lv1 uv1
  by_cases g1 : hv M 96 1 = 0
  rotate_left
  · skip
    refine he_ifne_t (n := 7) (t := 15) (by decide +kernel) (by omega) ?_
    refine he_iconst (n := 16) (c := 0) (by decide +kernel) (by decide) ?_
    intro c15 hc15
    refine he_retz (by decide +kernel) (by omega) ?_
    exact K0 _ (fun h => g1 h.1) (by omega)
  refine he_ifne_f (n := 7) (t := 15) (by decide +kernel) (by omega) ?_
  refine he_aload (n := 8) (i := 0) (by decide +kernel) rfl ?_
  refine hb_gfd (n := 11) (ci := 5) (j := 3) (ns := [2028, 23]) hm (by decide +kernel) rfl rfl (by decide) rfl ?_
  intro v8 hv8 lv8 uv8
  refine he_iconst (n := 12) (c := 4) (by decide +kernel) (by decide) ?_
  intro c11 hc11
  by_cases g3 : hv M 96 3 = 4
  · skip
    refine he_cmpne_f (n := 15) (t := 17) (by decide +kernel) (by omega) ?_
    refine he_iconst (n := 16) (c := 0) (by decide +kernel) (by decide) ?_
    intro c15 hc15
    refine he_retz (by decide +kernel) (by omega) ?_
    exact K0 _ (fun h => h.2 g3) (by omega)
  refine he_cmpne_t (n := 15) (t := 17) (by decide +kernel) (by omega) ?_
  refine he_aload (n := 18) (i := 0) (by decide +kernel) rfl ?_
  refine he_getr (n := 21) (ci := 5) (j := 2) (ns := [2026, 19]) (b := 97) hm (by decide +kernel) rfl rfl (by decide +kernel) ?_
  refine he_aload (n := 22) (i := 0) (by decide +kernel) rfl ?_
  refine hb_gfd (n := 25) (ci := 5) (j := 3) (ns := [2028, 23]) hm (by decide +kernel) rfl rfl (by decide) rfl ?_
  intro v22 hv22 lv22 uv22
  refine he_iload (n := 26) (i := 1) (by decide +kernel) rfl ?_
  refine hb_sta (n := 27) (kind := 64) hm (by decide +kernel) rfl rfl (.inl rfl) (by omega) (show _ < (4 : Int) by omega) ?_
  generalize hM1 : hb_set M 97 (v22.toInt.toNat) x1 = M1
  have hm1 : mz_sh mz_GG M1 := by rw [← hM1]; exact hb_set_sh hm rfl hb_at1 (by omega) (by omega)
  have eM1 : ∀ b j, b ≠ 97 ∨ j ≠ v22.toInt.toNat → hv M1 b j = hv M b j := by intro b j h; rw [← hM1]; exact hb_set_n h
  have sM1 : hv M1 97 (v22.toInt.toNat) = x1.toInt := by rw [← hM1]; exact hb_set_v hm rfl (show _ < 4 by omega)
  have wM1 : ∀ b, b ≠ 97 → M1 b = M b := by intro b h; rw [← hM1]; exact hb_set_c h
  have q3 : hv M1 96 3 = hv M 96 3 := eM1 _ _ (.inl (by decide))
  refine he_aload (n := 28) (i := 0) (by decide +kernel) rfl ?_
  refine he_dup_r (n := 29) (by decide +kernel) ?_
  refine hb_gfd (n := 32) (ci := 5) (j := 3) (ns := [2028, 23]) hm1 (by decide +kernel) rfl rfl (by decide) rfl ?_
  intro v29 hv29 lv29 uv29
  refine he_iconst (n := 33) (c := 1) (by decide +kernel) (by decide) ?_
  intro c32 hc32
  refine he_iadd (n := 34) (by decide +kernel) (by omega) (by omega) ?_
  intro v33 hv33
  refine hb_pfd (n := 37) (ci := 5) (j := 3) (t := 0) (ns := [2028, 23]) hm1 (by decide +kernel) rfl rfl (by decide) (.inl rfl) ?_
  generalize hM2 : hb_set M1 96 3 v33 = M2
  have hm2 : mz_sh mz_GG M2 := by rw [← hM2]; exact hb_set_sh hm1 rfl rfl (by omega) (by omega)
  have eM2 : ∀ b j, b ≠ 96 ∨ j ≠ 3 → hv M2 b j = hv M1 b j := by intro b j h; rw [← hM2]; exact hb_set_n h
  have sM2 : hv M2 96 3 = v33.toInt := by rw [← hM2]; exact hb_set_v hm1 rfl (by decide)
  have wM2 : ∀ b, b ≠ 96 → M2 b = M1 b := by intro b h; rw [← hM2]; exact hb_set_c h
  refine he_iconst (n := 38) (c := 1) (by decide +kernel) (by decide) ?_
  intro c37 hc37
  refine he_retz (by decide +kernel) (by omega) ?_
  refine K1 M2 _ g1 g3 (by omega) (by rw [sM2]; omega) ?_ (fun c j p q => ?_)
  · rw [eM2 _ _ (.inl (by decide)), show (hv M 96 3).toNat = v22.toInt.toNat by omega]
    exact sM1
  · rw [eM2 c j (by omega), eM1 c j (by omega)]
theorem xn_aa101 {d z u : Nat} {M : Nat → mq_C} {Q : (Option Value ⊕ Nat) → mq_S → Prop} {x1 : Int32} (hm : mz_sh mz_GG M) (h0 : 0 ≤ x1.toInt) (h3 : x1.toInt ≤ 3) (K1 : ∀ (M' : Nat → mq_C) (r : Int32), hv M 101 1 = 0 → ¬ hv M 101 3 = 4 → r.toInt = 1 → hv M' 101 3 = hv M 101 3 + 1 → hv M' 102 (hv M 101 3).toNat = x1.toInt → (∀ c j, ¬ (c = 101 ∧ j = 3) → ¬ (c = 102 ∧ j = (hv M 101 3).toNat) → hv M' c j = hv M c j) → Q (.inl (some (.int r))) (M', z, u)) (K0 : ∀ r : Int32, ¬ (hv M 101 1 = 0 ∧ ¬ hv M 101 3 = 4) → r.toInt = 0 → Q (.inl (some (.int r))) (M, z, u)) : mq_R mq_PP d 72 0 [some (.ref 101), some (.int x1)] [] (M, z, u) Q := by
  refine he_aload (n := 1) (i := 0) (by decide +kernel) rfl ?_
  refine hb_gfd (n := 4) (ci := 5) (j := 1) (ns := [2024, 15]) hm (by decide +kernel) rfl rfl (by decide) rfl ?_
  intro v1 hv1 lv1 uv1
  by_cases g1 : hv M 101 1 = 0
  rotate_left
  · skip
    refine he_ifne_t (n := 7) (t := 15) (by decide +kernel) (by omega) ?_
    refine he_iconst (n := 16) (c := 0) (by decide +kernel) (by decide) ?_
    intro c15 hc15
    refine he_retz (by decide +kernel) (by omega) ?_
    exact K0 _ (fun h => g1 h.1) (by omega)
  refine he_ifne_f (n := 7) (t := 15) (by decide +kernel) (by omega) ?_
  refine he_aload (n := 8) (i := 0) (by decide +kernel) rfl ?_
  refine hb_gfd (n := 11) (ci := 5) (j := 3) (ns := [2028, 23]) hm (by decide +kernel) rfl rfl (by decide) rfl ?_
  intro v8 hv8 lv8 uv8
  refine he_iconst (n := 12) (c := 4) (by decide +kernel) (by decide) ?_
  intro c11 hc11
  by_cases g3 : hv M 101 3 = 4
  · skip
    refine he_cmpne_f (n := 15) (t := 17) (by decide +kernel) (by omega) ?_
    refine he_iconst (n := 16) (c := 0) (by decide +kernel) (by decide) ?_
    intro c15 hc15
    refine he_retz (by decide +kernel) (by omega) ?_
    exact K0 _ (fun h => h.2 g3) (by omega)
  refine he_cmpne_t (n := 15) (t := 17) (by decide +kernel) (by omega) ?_
  refine he_aload (n := 18) (i := 0) (by decide +kernel) rfl ?_
  refine he_getr (n := 21) (ci := 5) (j := 2) (ns := [2026, 19]) (b := 102) hm (by decide +kernel) rfl rfl (by decide +kernel) ?_
  refine he_aload (n := 22) (i := 0) (by decide +kernel) rfl ?_
  refine hb_gfd (n := 25) (ci := 5) (j := 3) (ns := [2028, 23]) hm (by decide +kernel) rfl rfl (by decide) rfl ?_
  intro v22 hv22 lv22 uv22
  refine he_iload (n := 26) (i := 1) (by decide +kernel) rfl ?_
  refine hb_sta (n := 27) (kind := 64) hm (by decide +kernel) rfl rfl (.inl rfl) (by omega) (show _ < (4 : Int) by omega) ?_
  generalize hM1 : hb_set M 102 (v22.toInt.toNat) x1 = M1
  have hm1 : mz_sh mz_GG M1 := by rw [← hM1]; exact hb_set_sh hm rfl hb_at1 (by omega) (by omega)
  have eM1 : ∀ b j, b ≠ 102 ∨ j ≠ v22.toInt.toNat → hv M1 b j = hv M b j := by intro b j h; rw [← hM1]; exact hb_set_n h
  have sM1 : hv M1 102 (v22.toInt.toNat) = x1.toInt := by rw [← hM1]; exact hb_set_v hm rfl (show _ < 4 by omega)
  have wM1 : ∀ b, b ≠ 102 → M1 b = M b := by intro b h; rw [← hM1]; exact hb_set_c h
  have q3 : hv M1 101 3 = hv M 101 3 := eM1 _ _ (.inl (by decide))
  refine he_aload (n := 28) (i := 0) (by decide +kernel) rfl ?_
  refine he_dup_r (n := 29) (by decide +kernel) ?_
  refine hb_gfd (n := 32) (ci := 5) (j := 3) (ns := [2028, 23]) hm1 (by decide +kernel) rfl rfl (by decide) rfl ?_
  intro v29 hv29 lv29 uv29
  refine he_iconst (n := 33) (c := 1) (by decide +kernel) (by decide) ?_
  intro c32 hc32
  refine he_iadd (n := 34) (by decide +kernel) (by omega) (by omega) ?_
  intro v33 hv33
  refine hb_pfd (n := 37) (ci := 5) (j := 3) (t := 0) (ns := [2028, 23]) hm1 (by decide +kernel) rfl rfl (by decide) (.inl rfl) ?_
  generalize hM2 : hb_set M1 101 3 v33 = M2
  have hm2 : mz_sh mz_GG M2 := by rw [← hM2]; exact hb_set_sh hm1 rfl rfl (by omega) (by omega)
  have eM2 : ∀ b j, b ≠ 101 ∨ j ≠ 3 → hv M2 b j = hv M1 b j := by intro b j h; rw [← hM2]; exact hb_set_n h
  have sM2 : hv M2 101 3 = v33.toInt := by rw [← hM2]; exact hb_set_v hm1 rfl (by decide)
  have wM2 : ∀ b, b ≠ 101 → M2 b = M1 b := by intro b h; rw [← hM2]; exact hb_set_c h
  refine he_iconst (n := 38) (c := 1) (by decide +kernel) (by decide) ?_
  intro c37 hc37
  refine he_retz (by decide +kernel) (by omega) ?_
  refine K1 M2 _ g1 g3 (by omega) (by rw [sM2]; omega) ?_ (fun c j p q => ?_)
  · rw [eM2 _ _ (.inl (by decide)), show (hv M 101 3).toNat = v22.toInt.toNat by omega]
    exact sM1
  · rw [eM2 c j (by omega), eM1 c j (by omega)]
theorem xn_aa106 {d z u : Nat} {M : Nat → mq_C} {Q : (Option Value ⊕ Nat) → mq_S → Prop} {x1 : Int32} (hm : mz_sh mz_GG M) (h0 : 0 ≤ x1.toInt) (h3 : x1.toInt ≤ 3) (K1 : ∀ (M' : Nat → mq_C) (r : Int32), hv M 106 1 = 0 → ¬ hv M 106 3 = 4 → r.toInt = 1 → hv M' 106 3 = hv M 106 3 + 1 → hv M' 107 (hv M 106 3).toNat = x1.toInt → (∀ c j, ¬ (c = 106 ∧ j = 3) → ¬ (c = 107 ∧ j = (hv M 106 3).toNat) → hv M' c j = hv M c j) → Q (.inl (some (.int r))) (M', z, u)) (K0 : ∀ r : Int32, ¬ (hv M 106 1 = 0 ∧ ¬ hv M 106 3 = 4) → r.toInt = 0 → Q (.inl (some (.int r))) (M, z, u)) : mq_R mq_PP d 72 0 [some (.ref 106), some (.int x1)] [] (M, z, u) Q := by
  refine he_aload (n := 1) (i := 0) (by decide +kernel) rfl ?_
  refine hb_gfd (n := 4) (ci := 5) (j := 1) (ns := [2024, 15]) hm (by decide +kernel) rfl rfl (by decide) rfl ?_
  intro v1 hv1 lv1 uv1
  by_cases g1 : hv M 106 1 = 0
  rotate_left
  · skip
    refine he_ifne_t (n := 7) (t := 15) (by decide +kernel) (by omega) ?_
    refine he_iconst (n := 16) (c := 0) (by decide +kernel) (by decide) ?_
    intro c15 hc15
    refine he_retz (by decide +kernel) (by omega) ?_
    exact K0 _ (fun h => g1 h.1) (by omega)
  refine he_ifne_f (n := 7) (t := 15) (by decide +kernel) (by omega) ?_
  refine he_aload (n := 8) (i := 0) (by decide +kernel) rfl ?_
  refine hb_gfd (n := 11) (ci := 5) (j := 3) (ns := [2028, 23]) hm (by decide +kernel) rfl rfl (by decide) rfl ?_
  intro v8 hv8 lv8 uv8
  refine he_iconst (n := 12) (c := 4) (by decide +kernel) (by decide) ?_
  intro c11 hc11
  by_cases g3 : hv M 106 3 = 4
  · skip
    refine he_cmpne_f (n := 15) (t := 17) (by decide +kernel) (by omega) ?_
    refine he_iconst (n := 16) (c := 0) (by decide +kernel) (by decide) ?_
    intro c15 hc15
    refine he_retz (by decide +kernel) (by omega) ?_
    exact K0 _ (fun h => h.2 g3) (by omega)
  refine he_cmpne_t (n := 15) (t := 17) (by decide +kernel) (by omega) ?_
  refine he_aload (n := 18) (i := 0) (by decide +kernel) rfl ?_
  refine he_getr (n := 21) (ci := 5) (j := 2) (ns := [2026, 19]) (b := 107) hm (by decide +kernel) rfl rfl (by decide +kernel) ?_
  refine he_aload (n := 22) (i := 0) (by decide +kernel) rfl ?_
  refine hb_gfd (n := 25) (ci := 5) (j := 3) (ns := [2028, 23]) hm (by decide +kernel) rfl rfl (by decide) rfl ?_
  intro v22 hv22 lv22 uv22
  refine he_iload (n := 26) (i := 1) (by decide +kernel) rfl ?_
  refine hb_sta (n := 27) (kind := 64) hm (by decide +kernel) rfl rfl (.inl rfl) (by omega) (show _ < (4 : Int) by omega) ?_
  generalize hM1 : hb_set M 107 (v22.toInt.toNat) x1 = M1
  have hm1 : mz_sh mz_GG M1 := by rw [← hM1]; exact hb_set_sh hm rfl hb_at1 (by omega) (by omega)
  have eM1 : ∀ b j, b ≠ 107 ∨ j ≠ v22.toInt.toNat → hv M1 b j = hv M b j := by intro b j h; rw [← hM1]; exact hb_set_n h
  have sM1 : hv M1 107 (v22.toInt.toNat) = x1.toInt := by rw [← hM1]; exact hb_set_v hm rfl (show _ < 4 by omega)
  have wM1 : ∀ b, b ≠ 107 → M1 b = M b := by intro b h; rw [← hM1]; exact hb_set_c h
  have q3 : hv M1 106 3 = hv M 106 3 := eM1 _ _ (.inl (by decide))
  refine he_aload (n := 28) (i := 0) (by decide +kernel) rfl ?_
  refine he_dup_r (n := 29) (by decide +kernel) ?_
  refine hb_gfd (n := 32) (ci := 5) (j := 3) (ns := [2028, 23]) hm1 (by decide +kernel) rfl rfl (by decide) rfl ?_
  intro v29 hv29 lv29 uv29
  refine he_iconst (n := 33) (c := 1) (by decide +kernel) (by decide) ?_
  intro c32 hc32
  refine he_iadd (n := 34) (by decide +kernel) (by omega) (by omega) ?_
  intro v33 hv33
  refine hb_pfd (n := 37) (ci := 5) (j := 3) (t := 0) (ns := [2028, 23]) hm1 (by decide +kernel) rfl rfl (by decide) (.inl rfl) ?_
  generalize hM2 : hb_set M1 106 3 v33 = M2
  have hm2 : mz_sh mz_GG M2 := by rw [← hM2]; exact hb_set_sh hm1 rfl rfl (by omega) (by omega)
  have eM2 : ∀ b j, b ≠ 106 ∨ j ≠ 3 → hv M2 b j = hv M1 b j := by intro b j h; rw [← hM2]; exact hb_set_n h
  have sM2 : hv M2 106 3 = v33.toInt := by rw [← hM2]; exact hb_set_v hm1 rfl (by decide)
  have wM2 : ∀ b, b ≠ 106 → M2 b = M1 b := by intro b h; rw [← hM2]; exact hb_set_c h
  refine he_iconst (n := 38) (c := 1) (by decide +kernel) (by decide) ?_
  intro c37 hc37
  refine he_retz (by decide +kernel) (by omega) ?_
  refine K1 M2 _ g1 g3 (by omega) (by rw [sM2]; omega) ?_ (fun c j p q => ?_)
  · rw [eM2 _ _ (.inl (by decide)), show (hv M 106 3).toNat = v22.toInt.toNat by omega]
    exact sM1
  · rw [eM2 c j (by omega), eM1 c j (by omega)]
theorem xn_app {d z u : Nat} {M : Nat → mq_C} {Q : (Option Value ⊕ Nat) → mq_S → Prop} {x1 x2 : Int32} (hm : mz_sh mz_GG M) (K : ∀ (M' : Nat → mq_C) (r : Int32), xSa (cvw M) (cvw M') x1.toInt x2.toInt r.toInt → Q (.inl (some (.int r))) (M', z, u)) : mq_R mq_PP (d + 1) 7 0 [some (.ref 8), some (.int x1), some (.int x2)] [] (M, z, u) Q := by
  have rg := xx_rng (c := _) hm (a := 8) (i := 4) (lo := 0) (hi := 4) rfl (by decide) rfl
  refine he_aload (n := 1) (i := 0) (by decide +kernel) rfl ?_
  refine he_iload (n := 2) (i := 1) (by decide +kernel) rfl ?_
  refine he_v1 (n := 5) (j := 19) (ci := 0) (mx := 2) (ns := [3084, 3086, 26, 140]) (by decide +kernel) ((hb_kd (a := 8) hm rfl).trans rfl) (by show 0 ≤ 8; omega) (by show 2 ≤ 2; omega) ?_
  rw [mq_e19]
  refine xq_isl hm ?_
  intro r1 a1 a0
  show mq_R mq_PP (d + 1) 7 5 _ [.int r1] (M, z, u) Q
  by_cases g1 : 0 ≤ x1.toInt ∧ x1.toInt < hv M 8 4
  rotate_left
  · have a0 := a0 g1
    refine he_ifeq_t (n := 8) (t := 32) (by decide +kernel) (by omega) ?_
    refine he_iconst (n := 33) (c := 0) (by decide +kernel) (by decide) ?_
    intro cb32 hcb32
    refine he_retz (by decide +kernel) (by omega) ?_
    exact K M _ (.inr ⟨fun h => g1 h.1, by omega, xLK_r⟩)
  have a1 := a1 g1
  refine he_ifeq_f (n := 8) (t := 32) (by decide +kernel) (by omega) ?_
  refine he_iload (n := 9) (i := 2) (by decide +kernel) rfl ?_
  refine he_s1 (n := 12) (j := 17) (mx := 1) (ns := [2234, 2235, 1001, 121]) (by decide +kernel) (by show 0 ≤ 8; omega) (by show 1 ≤ 1; omega) ?_
  rw [mq_e17]
  refine xn_slot ?_
  intro r2 b1 b0
  show mq_R mq_PP (d + 1) 7 12 _ [.int r2] (M, z, u) Q
  by_cases g2 : 0 ≤ x2.toInt ∧ x2.toInt ≤ 3
  rotate_left
  · have b0 := b0 g2
    refine he_ifeq_t (n := 15) (t := 32) (by decide +kernel) (by omega) ?_
    refine he_iconst (n := 33) (c := 0) (by decide +kernel) (by decide) ?_
    intro ce32 hce32
    refine he_retz (by decide +kernel) (by omega) ?_
    exact K M _ (.inr ⟨fun h => g2 h.2.1, by omega, xLK_r⟩)
  have b1 := b1 g2
  refine he_ifeq_f (n := 15) (t := 32) (by decide +kernel) (by omega) ?_
  refine he_aload (n := 16) (i := 0) (by decide +kernel) rfl ?_
  refine he_getr (n := 19) (ci := 0) (j := 3) (ns := [2080, 31]) (b := 38) hm (by decide +kernel) rfl rfl (by decide +kernel) ?_
  refine he_iload (n := 20) (i := 1) (by decide +kernel) rfl ?_
  have hcase : x1.toInt = 0 ∨ x1.toInt = 1 ∨ x1.toInt = 2 ∨ x1.toInt = 3 := by omega
  rcases hcase with hc | hc | hc | hc
  · have en : x1.toInt.toNat = 0 := by omega
    have e1 : (cvw M).2.2.1 x1.toInt.toNat = hv M 91 1 := by rw [en]; rfl
    have e3 : (cvw M).2.2.2.1 x1.toInt.toNat = hv M 91 3 := by rw [en]; rfl
    have rg3 := xx_rng (c := _) hm (a := 91) (i := 3) (lo := 0) (hi := 4) rfl (by decide) rfl
    refine he_aald (n := 21) (kind := 75) (b := 91) hm (by decide +kernel) rfl rfl (by decide) (by omega) (by rw [show x1.toInt.toNat = 0 by omega]; decide +kernel) ?_
    refine he_iload (n := 22) (i := 2) (by decide +kernel) rfl ?_
    refine he_v1 (n := 25) (j := 72) (ci := 5) (mx := 2) (ns := [3092, 3093, 3094, 146]) (by decide +kernel) ((hb_kd (a := 91) hm rfl).trans rfl) (by show 0 ≤ 8; omega) (by show 2 ≤ 2; omega) ?_
    rw [mq_e72]
    refine xn_aa91 hm g2.1 g2.2 ?_ ?_
    · intro M' r3 k1 k3 kr kn ka kf
      show mq_R mq_PP (d + 1) 7 25 _ [.int r3] (M', z, u) Q
      refine he_ifeq_f (n := 28) (t := 32) (by decide +kernel) (by omega) ?_
      refine he_iconst (n := 29) (c := 1) (by decide +kernel) (by decide) ?_
      intro cg28 hcg28
      refine he_goto (t := 33) (by decide +kernel) ?_
      refine he_retz (by decide +kernel) (by omega) ?_
      refine K M' _ (.inl ⟨⟨g1, g2, e1.trans k1, fun h => k3 (e3.symm.trans h)⟩, by omega, kf 8 4 (by omega) (by omega), fun i hi => ⟨?_, ?_, ?_, fun j hj => ?_⟩⟩)
      · exact kf (91 + 5 * i) 0 (by omega) (by omega)
      · exact kf (91 + 5 * i) 1 (by omega) (by omega)
      · show hv M' (91 + 5 * i) 3 = if (i : Int) = x1.toInt then hv M (91 + 5 * i) 3 + 1 else hv M (91 + 5 * i) 3
        by_cases e : i = 0
        · rw [if_pos (by omega), e]
          exact kn
        · rw [if_neg (by omega)]
          exact kf (91 + 5 * i) 3 (by omega) (by omega)
      · show hv M' (92 + 5 * i) j = if (i : Int) = x1.toInt ∧ (j : Int) = hv M (91 + 5 * i) 3 then x2.toInt else hv M (92 + 5 * i) j
        by_cases e : i = 0
        · subst e
          have rg3 : 0 ≤ hv M (91 + 5 * 0) 3 ∧ hv M (91 + 5 * 0) 3 ≤ 4 := rg3
          by_cases q : (j : Int) = hv M (91 + 5 * 0) 3
          · rw [if_pos ⟨by omega, q⟩, show j = (hv M (91 + 5 * 0) 3).toNat by omega]
            exact ka
          · rw [if_neg (fun h => q h.2)]
            exact kf (92 + 5 * 0) j (by omega) (fun h => q (by have h2 : j = (hv M (91 + 5 * 0) 3).toNat := h.2; omega))
        · rw [if_neg (fun h => e (by omega))]
          exact kf (92 + 5 * i) j (by omega) (by omega)
    · intro r3 kc kr
      show mq_R mq_PP (d + 1) 7 25 _ [.int r3] (M, z, u) Q
      refine he_ifeq_t (n := 28) (t := 32) (by decide +kernel) (by omega) ?_
      refine he_iconst (n := 33) (c := 0) (by decide +kernel) (by decide) ?_
      intro cg32 hcg32
      refine he_retz (by decide +kernel) (by omega) ?_
      exact K M _ (.inr ⟨fun h => kc ⟨e1.symm.trans h.2.2.1, fun q => h.2.2.2 (e3.trans q)⟩, by omega, xLK_r⟩)
  · have en : x1.toInt.toNat = 1 := by omega
    have e1 : (cvw M).2.2.1 x1.toInt.toNat = hv M 96 1 := by rw [en]; rfl
    have e3 : (cvw M).2.2.2.1 x1.toInt.toNat = hv M 96 3 := by rw [en]; rfl
    have rg3 := xx_rng (c := _) hm (a := 96) (i := 3) (lo := 0) (hi := 4) rfl (by decide) rfl
    refine he_aald (n := 21) (kind := 75) (b := 96) hm (by decide +kernel) rfl rfl (by decide) (by omega) (by rw [show x1.toInt.toNat = 1 by omega]; decide +kernel) ?_
    refine he_iload (n := 22) (i := 2) (by decide +kernel) rfl ?_
    refine he_v1 (n := 25) (j := 72) (ci := 5) (mx := 2) (ns := [3092, 3093, 3094, 146]) (by decide +kernel) ((hb_kd (a := 96) hm rfl).trans rfl) (by show 0 ≤ 8; omega) (by show 2 ≤ 2; omega) ?_
    rw [mq_e72]
    refine xn_aa96 hm g2.1 g2.2 ?_ ?_
    · intro M' r3 k1 k3 kr kn ka kf
      show mq_R mq_PP (d + 1) 7 25 _ [.int r3] (M', z, u) Q
      refine he_ifeq_f (n := 28) (t := 32) (by decide +kernel) (by omega) ?_
      refine he_iconst (n := 29) (c := 1) (by decide +kernel) (by decide) ?_
      intro cg28 hcg28
      refine he_goto (t := 33) (by decide +kernel) ?_
      refine he_retz (by decide +kernel) (by omega) ?_
      refine K M' _ (.inl ⟨⟨g1, g2, e1.trans k1, fun h => k3 (e3.symm.trans h)⟩, by omega, kf 8 4 (by omega) (by omega), fun i hi => ⟨?_, ?_, ?_, fun j hj => ?_⟩⟩)
      · exact kf (91 + 5 * i) 0 (by omega) (by omega)
      · exact kf (91 + 5 * i) 1 (by omega) (by omega)
      · show hv M' (91 + 5 * i) 3 = if (i : Int) = x1.toInt then hv M (91 + 5 * i) 3 + 1 else hv M (91 + 5 * i) 3
        by_cases e : i = 1
        · rw [if_pos (by omega), e]
          exact kn
        · rw [if_neg (by omega)]
          exact kf (91 + 5 * i) 3 (by omega) (by omega)
      · show hv M' (92 + 5 * i) j = if (i : Int) = x1.toInt ∧ (j : Int) = hv M (91 + 5 * i) 3 then x2.toInt else hv M (92 + 5 * i) j
        by_cases e : i = 1
        · subst e
          have rg3 : 0 ≤ hv M (91 + 5 * 1) 3 ∧ hv M (91 + 5 * 1) 3 ≤ 4 := rg3
          by_cases q : (j : Int) = hv M (91 + 5 * 1) 3
          · rw [if_pos ⟨by omega, q⟩, show j = (hv M (91 + 5 * 1) 3).toNat by omega]
            exact ka
          · rw [if_neg (fun h => q h.2)]
            exact kf (92 + 5 * 1) j (by omega) (fun h => q (by have h2 : j = (hv M (91 + 5 * 1) 3).toNat := h.2; omega))
        · rw [if_neg (fun h => e (by omega))]
          exact kf (92 + 5 * i) j (by omega) (by omega)
    · intro r3 kc kr
      show mq_R mq_PP (d + 1) 7 25 _ [.int r3] (M, z, u) Q
      refine he_ifeq_t (n := 28) (t := 32) (by decide +kernel) (by omega) ?_
      refine he_iconst (n := 33) (c := 0) (by decide +kernel) (by decide) ?_
      intro cg32 hcg32
      refine he_retz (by decide +kernel) (by omega) ?_
      exact K M _ (.inr ⟨fun h => kc ⟨e1.symm.trans h.2.2.1, fun q => h.2.2.2 (e3.trans q)⟩, by omega, xLK_r⟩)
  · have en : x1.toInt.toNat = 2 := by omega
    have e1 : (cvw M).2.2.1 x1.toInt.toNat = hv M 101 1 := by rw [en]; rfl
    have e3 : (cvw M).2.2.2.1 x1.toInt.toNat = hv M 101 3 := by rw [en]; rfl
    have rg3 := xx_rng (c := _) hm (a := 101) (i := 3) (lo := 0) (hi := 4) rfl (by decide) rfl
    refine he_aald (n := 21) (kind := 75) (b := 101) hm (by decide +kernel) rfl rfl (by decide) (by omega) (by rw [show x1.toInt.toNat = 2 by omega]; decide +kernel) ?_
    refine he_iload (n := 22) (i := 2) (by decide +kernel) rfl ?_
    refine he_v1 (n := 25) (j := 72) (ci := 5) (mx := 2) (ns := [3092, 3093, 3094, 146]) (by decide +kernel) ((hb_kd (a := 101) hm rfl).trans rfl) (by show 0 ≤ 8; omega) (by show 2 ≤ 2; omega) ?_
    rw [mq_e72]
    refine xn_aa101 hm g2.1 g2.2 ?_ ?_
    · intro M' r3 k1 k3 kr kn ka kf
      show mq_R mq_PP (d + 1) 7 25 _ [.int r3] (M', z, u) Q
      refine he_ifeq_f (n := 28) (t := 32) (by decide +kernel) (by omega) ?_
      refine he_iconst (n := 29) (c := 1) (by decide +kernel) (by decide) ?_
      intro cg28 hcg28
      refine he_goto (t := 33) (by decide +kernel) ?_
      refine he_retz (by decide +kernel) (by omega) ?_
      refine K M' _ (.inl ⟨⟨g1, g2, e1.trans k1, fun h => k3 (e3.symm.trans h)⟩, by omega, kf 8 4 (by omega) (by omega), fun i hi => ⟨?_, ?_, ?_, fun j hj => ?_⟩⟩)
      · exact kf (91 + 5 * i) 0 (by omega) (by omega)
      · exact kf (91 + 5 * i) 1 (by omega) (by omega)
      · show hv M' (91 + 5 * i) 3 = if (i : Int) = x1.toInt then hv M (91 + 5 * i) 3 + 1 else hv M (91 + 5 * i) 3
        by_cases e : i = 2
        · rw [if_pos (by omega), e]
          exact kn
        · rw [if_neg (by omega)]
          exact kf (91 + 5 * i) 3 (by omega) (by omega)
      · show hv M' (92 + 5 * i) j = if (i : Int) = x1.toInt ∧ (j : Int) = hv M (91 + 5 * i) 3 then x2.toInt else hv M (92 + 5 * i) j
        by_cases e : i = 2
        · subst e
          have rg3 : 0 ≤ hv M (91 + 5 * 2) 3 ∧ hv M (91 + 5 * 2) 3 ≤ 4 := rg3
          by_cases q : (j : Int) = hv M (91 + 5 * 2) 3
          · rw [if_pos ⟨by omega, q⟩, show j = (hv M (91 + 5 * 2) 3).toNat by omega]
            exact ka
          · rw [if_neg (fun h => q h.2)]
            exact kf (92 + 5 * 2) j (by omega) (fun h => q (by have h2 : j = (hv M (91 + 5 * 2) 3).toNat := h.2; omega))
        · rw [if_neg (fun h => e (by omega))]
          exact kf (92 + 5 * i) j (by omega) (by omega)
    · intro r3 kc kr
      show mq_R mq_PP (d + 1) 7 25 _ [.int r3] (M, z, u) Q
      refine he_ifeq_t (n := 28) (t := 32) (by decide +kernel) (by omega) ?_
      refine he_iconst (n := 33) (c := 0) (by decide +kernel) (by decide) ?_
      intro cg32 hcg32
      refine he_retz (by decide +kernel) (by omega) ?_
      exact K M _ (.inr ⟨fun h => kc ⟨e1.symm.trans h.2.2.1, fun q => h.2.2.2 (e3.trans q)⟩, by omega, xLK_r⟩)
  · have en : x1.toInt.toNat = 3 := by omega
    have e1 : (cvw M).2.2.1 x1.toInt.toNat = hv M 106 1 := by rw [en]; rfl
    have e3 : (cvw M).2.2.2.1 x1.toInt.toNat = hv M 106 3 := by rw [en]; rfl
    have rg3 := xx_rng (c := _) hm (a := 106) (i := 3) (lo := 0) (hi := 4) rfl (by decide) rfl
    refine he_aald (n := 21) (kind := 75) (b := 106) hm (by decide +kernel) rfl rfl (by decide) (by omega) (by rw [show x1.toInt.toNat = 3 by omega]; decide +kernel) ?_
    refine he_iload (n := 22) (i := 2) (by decide +kernel) rfl ?_
    refine he_v1 (n := 25) (j := 72) (ci := 5) (mx := 2) (ns := [3092, 3093, 3094, 146]) (by decide +kernel) ((hb_kd (a := 106) hm rfl).trans rfl) (by show 0 ≤ 8; omega) (by show 2 ≤ 2; omega) ?_
    rw [mq_e72]
    refine xn_aa106 hm g2.1 g2.2 ?_ ?_
    · intro M' r3 k1 k3 kr kn ka kf
      show mq_R mq_PP (d + 1) 7 25 _ [.int r3] (M', z, u) Q
      refine he_ifeq_f (n := 28) (t := 32) (by decide +kernel) (by omega) ?_
      refine he_iconst (n := 29) (c := 1) (by decide +kernel) (by decide) ?_
      intro cg28 hcg28
      refine he_goto (t := 33) (by decide +kernel) ?_
      refine he_retz (by decide +kernel) (by omega) ?_
      refine K M' _ (.inl ⟨⟨g1, g2, e1.trans k1, fun h => k3 (e3.symm.trans h)⟩, by omega, kf 8 4 (by omega) (by omega), fun i hi => ⟨?_, ?_, ?_, fun j hj => ?_⟩⟩)
      · exact kf (91 + 5 * i) 0 (by omega) (by omega)
      · exact kf (91 + 5 * i) 1 (by omega) (by omega)
      · show hv M' (91 + 5 * i) 3 = if (i : Int) = x1.toInt then hv M (91 + 5 * i) 3 + 1 else hv M (91 + 5 * i) 3
        by_cases e : i = 3
        · rw [if_pos (by omega), e]
          exact kn
        · rw [if_neg (by omega)]
          exact kf (91 + 5 * i) 3 (by omega) (by omega)
      · show hv M' (92 + 5 * i) j = if (i : Int) = x1.toInt ∧ (j : Int) = hv M (91 + 5 * i) 3 then x2.toInt else hv M (92 + 5 * i) j
        by_cases e : i = 3
        · subst e
          have rg3 : 0 ≤ hv M (91 + 5 * 3) 3 ∧ hv M (91 + 5 * 3) 3 ≤ 4 := rg3
          by_cases q : (j : Int) = hv M (91 + 5 * 3) 3
          · rw [if_pos ⟨by omega, q⟩, show j = (hv M (91 + 5 * 3) 3).toNat by omega]
            exact ka
          · rw [if_neg (fun h => q h.2)]
            exact kf (92 + 5 * 3) j (by omega) (fun h => q (by have h2 : j = (hv M (91 + 5 * 3) 3).toNat := h.2; omega))
        · rw [if_neg (fun h => e (by omega))]
          exact kf (92 + 5 * i) j (by omega) (by omega)
    · intro r3 kc kr
      show mq_R mq_PP (d + 1) 7 25 _ [.int r3] (M, z, u) Q
      refine he_ifeq_t (n := 28) (t := 32) (by decide +kernel) (by omega) ?_
      refine he_iconst (n := 33) (c := 0) (by decide +kernel) (by decide) ?_
      intro cg32 hcg32
      refine he_retz (by decide +kernel) (by omega) ?_
      exact K M _ (.inr ⟨fun h => kc ⟨e1.symm.trans h.2.2.1, fun q => h.2.2.2 (e3.trans q)⟩, by omega, xLK_r⟩)
theorem xn_close {d z u : Nat} {M : Nat → mq_C} {Q : (Option Value ⊕ Nat) → mq_S → Prop} {x1 : Int32} (hm : mz_sh mz_GG M) (K : ∀ (M' : Nat → mq_C) (r : Int32), xSc (cvw M) (cvw M') x1.toInt r.toInt → Q (.inl (some (.int r))) (M', z, u)) : mq_R mq_PP (d + 1) 8 0 [some (.ref 8), some (.int x1)] [] (M, z, u) Q := by
  have rg := xx_rng (c := _) hm (a := 8) (i := 4) (lo := 0) (hi := 4) rfl (by decide) rfl
  refine he_aload (n := 1) (i := 0) (by decide +kernel) rfl ?_
  refine he_iload (n := 2) (i := 1) (by decide +kernel) rfl ?_
  refine he_v1 (n := 5) (j := 19) (ci := 0) (mx := 2) (ns := [3084, 3086, 26, 140]) (by decide +kernel) ((hb_kd (a := 8) hm rfl).trans rfl) (by show 0 ≤ 8; omega) (by show 2 ≤ 2; omega) ?_
  rw [mq_e19]
  refine xq_isl hm ?_
  intro r1 a1 a0
  show mq_R mq_PP (d + 1) 8 5 _ [.int r1] (M, z, u) Q
  by_cases g1 : 0 ≤ x1.toInt ∧ x1.toInt < hv M 8 4
  rotate_left
  · have a0 := a0 g1
    refine he_ifeq_t (n := 8) (t := 20) (by decide +kernel) (by omega) ?_
    refine he_iconst (n := 21) (c := 0) (by decide +kernel) (by decide) ?_
    intro cb20 hcb20
    refine he_retz (by decide +kernel) (by omega) ?_
    exact K M _ (.inr ⟨fun h => g1 h.1, by omega, xLK_r⟩)
  have a1 := a1 g1
  have hcase : x1.toInt = 0 ∨ x1.toInt = 1 ∨ x1.toInt = 2 ∨ x1.toInt = 3 := by omega
  rcases hcase with hc | hc | hc | hc
  · have en : x1.toInt.toNat = 0 := by omega
    have e1 : (cvw M).2.2.1 x1.toInt.toNat = hv M 91 1 := by rw [en]; rfl
    refine he_ifeq_f (n := 8) (t := 20) (by decide +kernel) (by omega) ?_
    refine he_aload (n := 9) (i := 0) (by decide +kernel) rfl ?_
    refine he_getr (n := 12) (ci := 0) (j := 3) (ns := [2080, 31]) (b := 38) hm (by decide +kernel) rfl rfl (by decide +kernel) ?_
    refine he_iload (n := 13) (i := 1) (by decide +kernel) rfl ?_
    refine he_aald (n := 14) (kind := 75) (b := 91) hm (by decide +kernel) rfl rfl (by decide) (by omega) (by rw [show x1.toInt.toNat = 0 by omega]; decide +kernel) ?_
    refine hb_gfd (n := 17) (ci := 5) (j := 1) (ns := [2025, 149]) hm (by decide +kernel) rfl rfl (by decide) rfl ?_
    intro vb14 hvb14 lvb14 uvb14
    by_cases g : hv M 91 1 = 0
    rotate_left
    · skip
      refine he_ifeq_f (n := 20) (t := 22) (by decide +kernel) (by omega) ?_
      refine he_iconst (n := 21) (c := 0) (by decide +kernel) (by decide) ?_
      intro cb20 hcb20
      refine he_retz (by decide +kernel) (by omega) ?_
      exact K M _ (.inr ⟨fun h => g (e1.symm.trans h.2), by omega, xLK_r⟩)
    · skip
      refine he_ifeq_t (n := 20) (t := 22) (by decide +kernel) (by omega) ?_
      refine he_aload (n := 23) (i := 0) (by decide +kernel) rfl ?_
      refine he_getr (n := 26) (ci := 0) (j := 3) (ns := [2080, 31]) (b := 38) hm (by decide +kernel) rfl rfl (by decide +kernel) ?_
      refine he_iload (n := 27) (i := 1) (by decide +kernel) rfl ?_
      refine he_aald (n := 28) (kind := 75) (b := 91) hm (by decide +kernel) rfl rfl (by decide) (by omega) (by rw [show x1.toInt.toNat = 0 by omega]; decide +kernel) ?_
      refine he_iconst (n := 29) (c := 1) (by decide +kernel) (by decide) ?_
      intro cb28 hcb28
      refine hb_pfd (n := 32) (ci := 5) (j := 1) (t := 1) (ns := [2025, 149]) hm (by decide +kernel) rfl rfl (by decide) (.inr ⟨rfl, he_01 (by omega)⟩) ?_
      generalize hMb1 : hb_set M 91 1 cb28 = Mb1
      have hmb1 : mz_sh mz_GG Mb1 := by rw [← hMb1]; exact hb_set_sh hm rfl rfl (by omega) (by omega)
      have eMb1 : ∀ b j, b ≠ 91 ∨ j ≠ 1 → hv Mb1 b j = hv M b j := by intro b j h; rw [← hMb1]; exact hb_set_n h
      have sMb1 : hv Mb1 91 1 = cb28.toInt := by rw [← hMb1]; exact hb_set_v hm rfl (by decide)
      have wMb1 : ∀ b, b ≠ 91 → Mb1 b = M b := by intro b h; rw [← hMb1]; exact hb_set_c h
      refine he_iconst (n := 33) (c := 1) (by decide +kernel) (by decide) ?_
      intro cb32 hcb32
      refine he_retz (by decide +kernel) (by omega) ?_
      refine K Mb1 _ (.inl ⟨⟨g1, e1.trans g⟩, by omega, (show hv Mb1 8 4 = hv M 8 4 from eMb1 _ _ (.inl (by decide))), fun i hi => ⟨?_, ?_, ?_, fun j hj => ?_⟩⟩)
      · show hv Mb1 (91 + 5 * i) 0 = hv M (91 + 5 * i) 0
        exact eMb1 _ _ (.inr (by decide))
      · show hv Mb1 (91 + 5 * i) 1 = if (i : Int) = x1.toInt then 1 else hv M (91 + 5 * i) 1
        by_cases e : i = 0
        · rw [if_pos (by omega), e]
          have e2 : hv Mb1 91 1 = 1 := by rw [sMb1]; omega
          exact e2
        · rw [if_neg (by omega)]
          exact eMb1 _ _ (.inl (by omega))
      · show hv Mb1 (91 + 5 * i) 3 = hv M (91 + 5 * i) 3
        exact eMb1 _ _ (.inr (by decide))
      · show hv Mb1 (92 + 5 * i) j = hv M (92 + 5 * i) j
        exact eMb1 _ _ (.inl (by omega))
  · have en : x1.toInt.toNat = 1 := by omega
    have e1 : (cvw M).2.2.1 x1.toInt.toNat = hv M 96 1 := by rw [en]; rfl
    refine he_ifeq_f (n := 8) (t := 20) (by decide +kernel) (by omega) ?_
    refine he_aload (n := 9) (i := 0) (by decide +kernel) rfl ?_
    refine he_getr (n := 12) (ci := 0) (j := 3) (ns := [2080, 31]) (b := 38) hm (by decide +kernel) rfl rfl (by decide +kernel) ?_
    refine he_iload (n := 13) (i := 1) (by decide +kernel) rfl ?_
    refine he_aald (n := 14) (kind := 75) (b := 96) hm (by decide +kernel) rfl rfl (by decide) (by omega) (by rw [show x1.toInt.toNat = 1 by omega]; decide +kernel) ?_
    refine hb_gfd (n := 17) (ci := 5) (j := 1) (ns := [2025, 149]) hm (by decide +kernel) rfl rfl (by decide) rfl ?_
    intro vb14 hvb14 lvb14 uvb14
    by_cases g : hv M 96 1 = 0
    rotate_left
    · skip
      refine he_ifeq_f (n := 20) (t := 22) (by decide +kernel) (by omega) ?_
      refine he_iconst (n := 21) (c := 0) (by decide +kernel) (by decide) ?_
      intro cb20 hcb20
      refine he_retz (by decide +kernel) (by omega) ?_
      exact K M _ (.inr ⟨fun h => g (e1.symm.trans h.2), by omega, xLK_r⟩)
    · skip
      refine he_ifeq_t (n := 20) (t := 22) (by decide +kernel) (by omega) ?_
      refine he_aload (n := 23) (i := 0) (by decide +kernel) rfl ?_
      refine he_getr (n := 26) (ci := 0) (j := 3) (ns := [2080, 31]) (b := 38) hm (by decide +kernel) rfl rfl (by decide +kernel) ?_
      refine he_iload (n := 27) (i := 1) (by decide +kernel) rfl ?_
      refine he_aald (n := 28) (kind := 75) (b := 96) hm (by decide +kernel) rfl rfl (by decide) (by omega) (by rw [show x1.toInt.toNat = 1 by omega]; decide +kernel) ?_
      refine he_iconst (n := 29) (c := 1) (by decide +kernel) (by decide) ?_
      intro cb28 hcb28
      refine hb_pfd (n := 32) (ci := 5) (j := 1) (t := 1) (ns := [2025, 149]) hm (by decide +kernel) rfl rfl (by decide) (.inr ⟨rfl, he_01 (by omega)⟩) ?_
      generalize hMb1 : hb_set M 96 1 cb28 = Mb1
      have hmb1 : mz_sh mz_GG Mb1 := by rw [← hMb1]; exact hb_set_sh hm rfl rfl (by omega) (by omega)
      have eMb1 : ∀ b j, b ≠ 96 ∨ j ≠ 1 → hv Mb1 b j = hv M b j := by intro b j h; rw [← hMb1]; exact hb_set_n h
      have sMb1 : hv Mb1 96 1 = cb28.toInt := by rw [← hMb1]; exact hb_set_v hm rfl (by decide)
      have wMb1 : ∀ b, b ≠ 96 → Mb1 b = M b := by intro b h; rw [← hMb1]; exact hb_set_c h
      refine he_iconst (n := 33) (c := 1) (by decide +kernel) (by decide) ?_
      intro cb32 hcb32
      refine he_retz (by decide +kernel) (by omega) ?_
      refine K Mb1 _ (.inl ⟨⟨g1, e1.trans g⟩, by omega, (show hv Mb1 8 4 = hv M 8 4 from eMb1 _ _ (.inl (by decide))), fun i hi => ⟨?_, ?_, ?_, fun j hj => ?_⟩⟩)
      · show hv Mb1 (91 + 5 * i) 0 = hv M (91 + 5 * i) 0
        exact eMb1 _ _ (.inr (by decide))
      · show hv Mb1 (91 + 5 * i) 1 = if (i : Int) = x1.toInt then 1 else hv M (91 + 5 * i) 1
        by_cases e : i = 1
        · rw [if_pos (by omega), e]
          have e2 : hv Mb1 96 1 = 1 := by rw [sMb1]; omega
          exact e2
        · rw [if_neg (by omega)]
          exact eMb1 _ _ (.inl (by omega))
      · show hv Mb1 (91 + 5 * i) 3 = hv M (91 + 5 * i) 3
        exact eMb1 _ _ (.inr (by decide))
      · show hv Mb1 (92 + 5 * i) j = hv M (92 + 5 * i) j
        exact eMb1 _ _ (.inl (by omega))
  · have en : x1.toInt.toNat = 2 := by omega
    have e1 : (cvw M).2.2.1 x1.toInt.toNat = hv M 101 1 := by rw [en]; rfl
    refine he_ifeq_f (n := 8) (t := 20) (by decide +kernel) (by omega) ?_
    refine he_aload (n := 9) (i := 0) (by decide +kernel) rfl ?_
    refine he_getr (n := 12) (ci := 0) (j := 3) (ns := [2080, 31]) (b := 38) hm (by decide +kernel) rfl rfl (by decide +kernel) ?_
    refine he_iload (n := 13) (i := 1) (by decide +kernel) rfl ?_
    refine he_aald (n := 14) (kind := 75) (b := 101) hm (by decide +kernel) rfl rfl (by decide) (by omega) (by rw [show x1.toInt.toNat = 2 by omega]; decide +kernel) ?_
    refine hb_gfd (n := 17) (ci := 5) (j := 1) (ns := [2025, 149]) hm (by decide +kernel) rfl rfl (by decide) rfl ?_
    intro vb14 hvb14 lvb14 uvb14
    by_cases g : hv M 101 1 = 0
    rotate_left
    · skip
      refine he_ifeq_f (n := 20) (t := 22) (by decide +kernel) (by omega) ?_
      refine he_iconst (n := 21) (c := 0) (by decide +kernel) (by decide) ?_
      intro cb20 hcb20
      refine he_retz (by decide +kernel) (by omega) ?_
      exact K M _ (.inr ⟨fun h => g (e1.symm.trans h.2), by omega, xLK_r⟩)
    · skip
      refine he_ifeq_t (n := 20) (t := 22) (by decide +kernel) (by omega) ?_
      refine he_aload (n := 23) (i := 0) (by decide +kernel) rfl ?_
      refine he_getr (n := 26) (ci := 0) (j := 3) (ns := [2080, 31]) (b := 38) hm (by decide +kernel) rfl rfl (by decide +kernel) ?_
      refine he_iload (n := 27) (i := 1) (by decide +kernel) rfl ?_
      refine he_aald (n := 28) (kind := 75) (b := 101) hm (by decide +kernel) rfl rfl (by decide) (by omega) (by rw [show x1.toInt.toNat = 2 by omega]; decide +kernel) ?_
      refine he_iconst (n := 29) (c := 1) (by decide +kernel) (by decide) ?_
      intro cb28 hcb28
      refine hb_pfd (n := 32) (ci := 5) (j := 1) (t := 1) (ns := [2025, 149]) hm (by decide +kernel) rfl rfl (by decide) (.inr ⟨rfl, he_01 (by omega)⟩) ?_
      generalize hMb1 : hb_set M 101 1 cb28 = Mb1
      have hmb1 : mz_sh mz_GG Mb1 := by rw [← hMb1]; exact hb_set_sh hm rfl rfl (by omega) (by omega)
      have eMb1 : ∀ b j, b ≠ 101 ∨ j ≠ 1 → hv Mb1 b j = hv M b j := by intro b j h; rw [← hMb1]; exact hb_set_n h
      have sMb1 : hv Mb1 101 1 = cb28.toInt := by rw [← hMb1]; exact hb_set_v hm rfl (by decide)
      have wMb1 : ∀ b, b ≠ 101 → Mb1 b = M b := by intro b h; rw [← hMb1]; exact hb_set_c h
      refine he_iconst (n := 33) (c := 1) (by decide +kernel) (by decide) ?_
      intro cb32 hcb32
      refine he_retz (by decide +kernel) (by omega) ?_
      refine K Mb1 _ (.inl ⟨⟨g1, e1.trans g⟩, by omega, (show hv Mb1 8 4 = hv M 8 4 from eMb1 _ _ (.inl (by decide))), fun i hi => ⟨?_, ?_, ?_, fun j hj => ?_⟩⟩)
      · show hv Mb1 (91 + 5 * i) 0 = hv M (91 + 5 * i) 0
        exact eMb1 _ _ (.inr (by decide))
      · show hv Mb1 (91 + 5 * i) 1 = if (i : Int) = x1.toInt then 1 else hv M (91 + 5 * i) 1
        by_cases e : i = 2
        · rw [if_pos (by omega), e]
          have e2 : hv Mb1 101 1 = 1 := by rw [sMb1]; omega
          exact e2
        · rw [if_neg (by omega)]
          exact eMb1 _ _ (.inl (by omega))
      · show hv Mb1 (91 + 5 * i) 3 = hv M (91 + 5 * i) 3
        exact eMb1 _ _ (.inr (by decide))
      · show hv Mb1 (92 + 5 * i) j = hv M (92 + 5 * i) j
        exact eMb1 _ _ (.inl (by omega))
  · have en : x1.toInt.toNat = 3 := by omega
    have e1 : (cvw M).2.2.1 x1.toInt.toNat = hv M 106 1 := by rw [en]; rfl
    refine he_ifeq_f (n := 8) (t := 20) (by decide +kernel) (by omega) ?_
    refine he_aload (n := 9) (i := 0) (by decide +kernel) rfl ?_
    refine he_getr (n := 12) (ci := 0) (j := 3) (ns := [2080, 31]) (b := 38) hm (by decide +kernel) rfl rfl (by decide +kernel) ?_
    refine he_iload (n := 13) (i := 1) (by decide +kernel) rfl ?_
    refine he_aald (n := 14) (kind := 75) (b := 106) hm (by decide +kernel) rfl rfl (by decide) (by omega) (by rw [show x1.toInt.toNat = 3 by omega]; decide +kernel) ?_
    refine hb_gfd (n := 17) (ci := 5) (j := 1) (ns := [2025, 149]) hm (by decide +kernel) rfl rfl (by decide) rfl ?_
    intro vb14 hvb14 lvb14 uvb14
    by_cases g : hv M 106 1 = 0
    rotate_left
    · skip
      refine he_ifeq_f (n := 20) (t := 22) (by decide +kernel) (by omega) ?_
      refine he_iconst (n := 21) (c := 0) (by decide +kernel) (by decide) ?_
      intro cb20 hcb20
      refine he_retz (by decide +kernel) (by omega) ?_
      exact K M _ (.inr ⟨fun h => g (e1.symm.trans h.2), by omega, xLK_r⟩)
    · skip
      refine he_ifeq_t (n := 20) (t := 22) (by decide +kernel) (by omega) ?_
      refine he_aload (n := 23) (i := 0) (by decide +kernel) rfl ?_
      refine he_getr (n := 26) (ci := 0) (j := 3) (ns := [2080, 31]) (b := 38) hm (by decide +kernel) rfl rfl (by decide +kernel) ?_
      refine he_iload (n := 27) (i := 1) (by decide +kernel) rfl ?_
      refine he_aald (n := 28) (kind := 75) (b := 106) hm (by decide +kernel) rfl rfl (by decide) (by omega) (by rw [show x1.toInt.toNat = 3 by omega]; decide +kernel) ?_
      refine he_iconst (n := 29) (c := 1) (by decide +kernel) (by decide) ?_
      intro cb28 hcb28
      refine hb_pfd (n := 32) (ci := 5) (j := 1) (t := 1) (ns := [2025, 149]) hm (by decide +kernel) rfl rfl (by decide) (.inr ⟨rfl, he_01 (by omega)⟩) ?_
      generalize hMb1 : hb_set M 106 1 cb28 = Mb1
      have hmb1 : mz_sh mz_GG Mb1 := by rw [← hMb1]; exact hb_set_sh hm rfl rfl (by omega) (by omega)
      have eMb1 : ∀ b j, b ≠ 106 ∨ j ≠ 1 → hv Mb1 b j = hv M b j := by intro b j h; rw [← hMb1]; exact hb_set_n h
      have sMb1 : hv Mb1 106 1 = cb28.toInt := by rw [← hMb1]; exact hb_set_v hm rfl (by decide)
      have wMb1 : ∀ b, b ≠ 106 → Mb1 b = M b := by intro b h; rw [← hMb1]; exact hb_set_c h
      refine he_iconst (n := 33) (c := 1) (by decide +kernel) (by decide) ?_
      intro cb32 hcb32
      refine he_retz (by decide +kernel) (by omega) ?_
      refine K Mb1 _ (.inl ⟨⟨g1, e1.trans g⟩, by omega, (show hv Mb1 8 4 = hv M 8 4 from eMb1 _ _ (.inl (by decide))), fun i hi => ⟨?_, ?_, ?_, fun j hj => ?_⟩⟩)
      · show hv Mb1 (91 + 5 * i) 0 = hv M (91 + 5 * i) 0
        exact eMb1 _ _ (.inr (by decide))
      · show hv Mb1 (91 + 5 * i) 1 = if (i : Int) = x1.toInt then 1 else hv M (91 + 5 * i) 1
        by_cases e : i = 3
        · rw [if_pos (by omega), e]
          have e2 : hv Mb1 106 1 = 1 := by rw [sMb1]; omega
          exact e2
        · rw [if_neg (by omega)]
          exact eMb1 _ _ (.inl (by omega))
      · show hv Mb1 (91 + 5 * i) 3 = hv M (91 + 5 * i) 3
        exact eMb1 _ _ (.inr (by decide))
      · show hv Mb1 (92 + 5 * i) j = hv M (92 + 5 * i) j
        exact eMb1 _ _ (.inl (by omega))
theorem ym_op1 {d z u : Nat} {M M1 : Nat → mq_C} {Q : (Option Value ⊕ Nat) → mq_S → Prop} {x1 : Int32} (hm1 : mz_sh mz_GG M1) (h1 : ∀ b, b ≠ 234 → M1 b = M b) (h30 : hv M1 234 30 = hv M 234 30) (g4 : ¬ hv M 234 30 = 4) (gf : (hv M 234 30 = 0 → x1.toInt = -1) ∧ (¬ hv M 234 30 = 0 → 0 ≤ x1.toInt ∧ x1.toInt < hv M 234 30)) (K : ∀ (M' : Nat → mq_C) (r : Int32), xSo (mvw M) (mvw M') x1.toInt r.toInt → Q (.inl (some (.int r))) (M', z, u)) : mq_R mq_PP d 140 41 [some (.ref 234), some (.int x1)] [] (M1, z, u) Q := by
  have rg := xx_rng (c := _) hm1 (a := 234) (i := 30) (lo := 0) (hi := 4) rfl (by decide) rfl
  have hcase : hv M 234 30 = 0 ∨ hv M 234 30 = 1 ∨ hv M 234 30 = 2 ∨ hv M 234 30 = 3 := by omega
  rcases hcase with hc | hc | hc | hc
  · have hx1r : -1 ≤ x1.toInt ∧ x1.toInt ≤ 0 := by
      have g0 := gf.1
      have g1 := gf.2
      rw [hc] at g0 g1
      omega
    refine he_aload (n := 42) (i := 0) (by decide +kernel) rfl ?_
    refine he_getr (n := 45) (ci := 9) (j := 31) (ns := [4208, 77]) (b := 257) hm1 (by decide +kernel) rfl rfl (by decide +kernel) ?_
    refine he_aload (n := 46) (i := 0) (by decide +kernel) rfl ?_
    refine hb_gfd (n := 49) (ci := 9) (j := 30) (ns := [4207, 244]) hm1 (by decide +kernel) rfl rfl (by decide) rfl ?_
    intro vq46 hvq46 lvq46 uvq46
    refine he_iload (n := 50) (i := 1) (by decide +kernel) rfl ?_
    refine hb_sta (n := 51) (kind := 64) hm1 (by decide +kernel) rfl rfl (.inl rfl) (by omega) (show _ < (4 : Int) by omega) ?_
    generalize hMq1 : hb_set M1 257 (vq46.toInt.toNat) x1 = Mq1
    have hmq1 : mz_sh mz_GG Mq1 := by rw [← hMq1]; exact hb_set_sh hm1 rfl (yat257_0 (by omega)) (by omega) (by omega)
    have eMq1 : ∀ b j, b ≠ 257 ∨ j ≠ vq46.toInt.toNat → hv Mq1 b j = hv M1 b j := by intro b j h; rw [← hMq1]; exact hb_set_n h
    have sMq1 : hv Mq1 257 (vq46.toInt.toNat) = x1.toInt := by rw [← hMq1]; exact hb_set_v hm1 rfl (show _ < 4 by omega)
    have wMq1 : ∀ b, b ≠ 257 → Mq1 b = M1 b := by intro b h; rw [← hMq1]; exact hb_set_c h
    have q30 : hv Mq1 234 30 = hv M1 234 30 := eMq1 _ _ (.inl (by decide))
    refine he_aload (n := 52) (i := 0) (by decide +kernel) rfl ?_
    refine he_dup_r (n := 53) (by decide +kernel) ?_
    refine hb_gfd (n := 56) (ci := 9) (j := 30) (ns := [4207, 244]) hmq1 (by decide +kernel) rfl rfl (by decide) rfl ?_
    intro vq53 hvq53 lvq53 uvq53
    refine he_iconst (n := 57) (c := 1) (by decide +kernel) (by decide) ?_
    intro cq56 hcq56
    refine he_iadd (n := 58) (by decide +kernel) (by omega) (by omega) ?_
    intro vq57 hvq57
    refine hb_pfd (n := 61) (ci := 9) (j := 30) (t := 0) (ns := [4207, 244]) hmq1 (by decide +kernel) rfl rfl (by decide) (.inl rfl) ?_
    generalize hMq2 : hb_set Mq1 234 30 vq57 = Mq2
    have hmq2 : mz_sh mz_GG Mq2 := by rw [← hMq2]; exact hb_set_sh hmq1 rfl rfl (by omega) (by omega)
    have eMq2 : ∀ b j, b ≠ 234 ∨ j ≠ 30 → hv Mq2 b j = hv Mq1 b j := by intro b j h; rw [← hMq2]; exact hb_set_n h
    have sMq2 : hv Mq2 234 30 = vq57.toInt := by rw [← hMq2]; exact hb_set_v hmq1 rfl (by decide)
    have wMq2 : ∀ b, b ≠ 234 → Mq2 b = Mq1 b := by intro b h; rw [← hMq2]; exact hb_set_c h
    refine he_aload (n := 62) (i := 0) (by decide +kernel) rfl ?_
    refine hb_gfd (n := 65) (ci := 9) (j := 30) (ns := [4207, 244]) hmq2 (by decide +kernel) rfl rfl (by decide) rfl ?_
    intro vq62 hvq62 lvq62 uvq62
    refine he_iconst (n := 66) (c := 1) (by decide +kernel) (by decide) ?_
    intro cq65 hcq65
    refine he_isub (n := 67) (by decide +kernel) (by omega) (by omega) ?_
    intro vq66 hvq66
    refine he_reti (by decide +kernel) ?_
    refine K Mq2 _ (.inl ⟨⟨g4, gf⟩, by show _ = hv M 234 30; omega, by show hv Mq2 234 30 = hv M 234 30 + 1; rw [sMq2]; omega, fun i hi => ⟨?_, ?_, ?_, fun j hj => ?_⟩⟩)
    · show hv Mq2 257 i = if (i : Int) = hv M 234 30 then x1.toInt else hv M 257 i
      rw [eMq2 _ _ (.inl (by decide))]
      by_cases e : i = 0
      · rw [if_pos (by omega), e, show 0 = vq46.toInt.toNat by omega]
        exact sMq1
      · rw [if_neg (by omega), eMq1 _ _ (.inr (by omega))]
        exact hb_vc (h1 257 (by decide)) i
    · show hv Mq2 260 i = hv M 260 i
      rw [eMq2 _ _ (.inl (by decide)), eMq1 _ _ (.inl (by decide))]
      exact hb_vc (h1 260 (by decide)) i
    · show hv Mq2 258 i = hv M 258 i
      rw [eMq2 _ _ (.inl (by decide)), eMq1 _ _ (.inl (by decide))]
      exact hb_vc (h1 258 (by decide)) i
    · show hv Mq2 259 (4 * i + j) = hv M 259 (4 * i + j)
      rw [eMq2 _ _ (.inl (by decide)), eMq1 _ _ (.inl (by decide))]
      exact hb_vc (h1 259 (by decide)) _
  · have hx1r : 0 ≤ x1.toInt ∧ x1.toInt ≤ 0 := by
      have g0 := gf.1
      have g1 := gf.2
      rw [hc] at g0 g1
      omega
    refine he_aload (n := 42) (i := 0) (by decide +kernel) rfl ?_
    refine he_getr (n := 45) (ci := 9) (j := 31) (ns := [4208, 77]) (b := 257) hm1 (by decide +kernel) rfl rfl (by decide +kernel) ?_
    refine he_aload (n := 46) (i := 0) (by decide +kernel) rfl ?_
    refine hb_gfd (n := 49) (ci := 9) (j := 30) (ns := [4207, 244]) hm1 (by decide +kernel) rfl rfl (by decide) rfl ?_
    intro vq46 hvq46 lvq46 uvq46
    refine he_iload (n := 50) (i := 1) (by decide +kernel) rfl ?_
    refine hb_sta (n := 51) (kind := 64) hm1 (by decide +kernel) rfl rfl (.inl rfl) (by omega) (show _ < (4 : Int) by omega) ?_
    generalize hMq1 : hb_set M1 257 (vq46.toInt.toNat) x1 = Mq1
    have hmq1 : mz_sh mz_GG Mq1 := by rw [← hMq1]; exact hb_set_sh hm1 rfl (yat257_1 (by omega)) (by omega) (by omega)
    have eMq1 : ∀ b j, b ≠ 257 ∨ j ≠ vq46.toInt.toNat → hv Mq1 b j = hv M1 b j := by intro b j h; rw [← hMq1]; exact hb_set_n h
    have sMq1 : hv Mq1 257 (vq46.toInt.toNat) = x1.toInt := by rw [← hMq1]; exact hb_set_v hm1 rfl (show _ < 4 by omega)
    have wMq1 : ∀ b, b ≠ 257 → Mq1 b = M1 b := by intro b h; rw [← hMq1]; exact hb_set_c h
    have q30 : hv Mq1 234 30 = hv M1 234 30 := eMq1 _ _ (.inl (by decide))
    refine he_aload (n := 52) (i := 0) (by decide +kernel) rfl ?_
    refine he_dup_r (n := 53) (by decide +kernel) ?_
    refine hb_gfd (n := 56) (ci := 9) (j := 30) (ns := [4207, 244]) hmq1 (by decide +kernel) rfl rfl (by decide) rfl ?_
    intro vq53 hvq53 lvq53 uvq53
    refine he_iconst (n := 57) (c := 1) (by decide +kernel) (by decide) ?_
    intro cq56 hcq56
    refine he_iadd (n := 58) (by decide +kernel) (by omega) (by omega) ?_
    intro vq57 hvq57
    refine hb_pfd (n := 61) (ci := 9) (j := 30) (t := 0) (ns := [4207, 244]) hmq1 (by decide +kernel) rfl rfl (by decide) (.inl rfl) ?_
    generalize hMq2 : hb_set Mq1 234 30 vq57 = Mq2
    have hmq2 : mz_sh mz_GG Mq2 := by rw [← hMq2]; exact hb_set_sh hmq1 rfl rfl (by omega) (by omega)
    have eMq2 : ∀ b j, b ≠ 234 ∨ j ≠ 30 → hv Mq2 b j = hv Mq1 b j := by intro b j h; rw [← hMq2]; exact hb_set_n h
    have sMq2 : hv Mq2 234 30 = vq57.toInt := by rw [← hMq2]; exact hb_set_v hmq1 rfl (by decide)
    have wMq2 : ∀ b, b ≠ 234 → Mq2 b = Mq1 b := by intro b h; rw [← hMq2]; exact hb_set_c h
    refine he_aload (n := 62) (i := 0) (by decide +kernel) rfl ?_
    refine hb_gfd (n := 65) (ci := 9) (j := 30) (ns := [4207, 244]) hmq2 (by decide +kernel) rfl rfl (by decide) rfl ?_
    intro vq62 hvq62 lvq62 uvq62
    refine he_iconst (n := 66) (c := 1) (by decide +kernel) (by decide) ?_
    intro cq65 hcq65
    refine he_isub (n := 67) (by decide +kernel) (by omega) (by omega) ?_
    intro vq66 hvq66
    refine he_reti (by decide +kernel) ?_
    refine K Mq2 _ (.inl ⟨⟨g4, gf⟩, by show _ = hv M 234 30; omega, by show hv Mq2 234 30 = hv M 234 30 + 1; rw [sMq2]; omega, fun i hi => ⟨?_, ?_, ?_, fun j hj => ?_⟩⟩)
    · show hv Mq2 257 i = if (i : Int) = hv M 234 30 then x1.toInt else hv M 257 i
      rw [eMq2 _ _ (.inl (by decide))]
      by_cases e : i = 1
      · rw [if_pos (by omega), e, show 1 = vq46.toInt.toNat by omega]
        exact sMq1
      · rw [if_neg (by omega), eMq1 _ _ (.inr (by omega))]
        exact hb_vc (h1 257 (by decide)) i
    · show hv Mq2 260 i = hv M 260 i
      rw [eMq2 _ _ (.inl (by decide)), eMq1 _ _ (.inl (by decide))]
      exact hb_vc (h1 260 (by decide)) i
    · show hv Mq2 258 i = hv M 258 i
      rw [eMq2 _ _ (.inl (by decide)), eMq1 _ _ (.inl (by decide))]
      exact hb_vc (h1 258 (by decide)) i
    · show hv Mq2 259 (4 * i + j) = hv M 259 (4 * i + j)
      rw [eMq2 _ _ (.inl (by decide)), eMq1 _ _ (.inl (by decide))]
      exact hb_vc (h1 259 (by decide)) _
  · have hx1r : 0 ≤ x1.toInt ∧ x1.toInt ≤ 1 := by
      have g0 := gf.1
      have g1 := gf.2
      rw [hc] at g0 g1
      omega
    refine he_aload (n := 42) (i := 0) (by decide +kernel) rfl ?_
    refine he_getr (n := 45) (ci := 9) (j := 31) (ns := [4208, 77]) (b := 257) hm1 (by decide +kernel) rfl rfl (by decide +kernel) ?_
    refine he_aload (n := 46) (i := 0) (by decide +kernel) rfl ?_
    refine hb_gfd (n := 49) (ci := 9) (j := 30) (ns := [4207, 244]) hm1 (by decide +kernel) rfl rfl (by decide) rfl ?_
    intro vq46 hvq46 lvq46 uvq46
    refine he_iload (n := 50) (i := 1) (by decide +kernel) rfl ?_
    refine hb_sta (n := 51) (kind := 64) hm1 (by decide +kernel) rfl rfl (.inl rfl) (by omega) (show _ < (4 : Int) by omega) ?_
    generalize hMq1 : hb_set M1 257 (vq46.toInt.toNat) x1 = Mq1
    have hmq1 : mz_sh mz_GG Mq1 := by rw [← hMq1]; exact hb_set_sh hm1 rfl (yat257_2 (by omega)) (by omega) (by omega)
    have eMq1 : ∀ b j, b ≠ 257 ∨ j ≠ vq46.toInt.toNat → hv Mq1 b j = hv M1 b j := by intro b j h; rw [← hMq1]; exact hb_set_n h
    have sMq1 : hv Mq1 257 (vq46.toInt.toNat) = x1.toInt := by rw [← hMq1]; exact hb_set_v hm1 rfl (show _ < 4 by omega)
    have wMq1 : ∀ b, b ≠ 257 → Mq1 b = M1 b := by intro b h; rw [← hMq1]; exact hb_set_c h
    have q30 : hv Mq1 234 30 = hv M1 234 30 := eMq1 _ _ (.inl (by decide))
    refine he_aload (n := 52) (i := 0) (by decide +kernel) rfl ?_
    refine he_dup_r (n := 53) (by decide +kernel) ?_
    refine hb_gfd (n := 56) (ci := 9) (j := 30) (ns := [4207, 244]) hmq1 (by decide +kernel) rfl rfl (by decide) rfl ?_
    intro vq53 hvq53 lvq53 uvq53
    refine he_iconst (n := 57) (c := 1) (by decide +kernel) (by decide) ?_
    intro cq56 hcq56
    refine he_iadd (n := 58) (by decide +kernel) (by omega) (by omega) ?_
    intro vq57 hvq57
    refine hb_pfd (n := 61) (ci := 9) (j := 30) (t := 0) (ns := [4207, 244]) hmq1 (by decide +kernel) rfl rfl (by decide) (.inl rfl) ?_
    generalize hMq2 : hb_set Mq1 234 30 vq57 = Mq2
    have hmq2 : mz_sh mz_GG Mq2 := by rw [← hMq2]; exact hb_set_sh hmq1 rfl rfl (by omega) (by omega)
    have eMq2 : ∀ b j, b ≠ 234 ∨ j ≠ 30 → hv Mq2 b j = hv Mq1 b j := by intro b j h; rw [← hMq2]; exact hb_set_n h
    have sMq2 : hv Mq2 234 30 = vq57.toInt := by rw [← hMq2]; exact hb_set_v hmq1 rfl (by decide)
    have wMq2 : ∀ b, b ≠ 234 → Mq2 b = Mq1 b := by intro b h; rw [← hMq2]; exact hb_set_c h
    refine he_aload (n := 62) (i := 0) (by decide +kernel) rfl ?_
    refine hb_gfd (n := 65) (ci := 9) (j := 30) (ns := [4207, 244]) hmq2 (by decide +kernel) rfl rfl (by decide) rfl ?_
    intro vq62 hvq62 lvq62 uvq62
    refine he_iconst (n := 66) (c := 1) (by decide +kernel) (by decide) ?_
    intro cq65 hcq65
    refine he_isub (n := 67) (by decide +kernel) (by omega) (by omega) ?_
    intro vq66 hvq66
    refine he_reti (by decide +kernel) ?_
    refine K Mq2 _ (.inl ⟨⟨g4, gf⟩, by show _ = hv M 234 30; omega, by show hv Mq2 234 30 = hv M 234 30 + 1; rw [sMq2]; omega, fun i hi => ⟨?_, ?_, ?_, fun j hj => ?_⟩⟩)
    · show hv Mq2 257 i = if (i : Int) = hv M 234 30 then x1.toInt else hv M 257 i
      rw [eMq2 _ _ (.inl (by decide))]
      by_cases e : i = 2
      · rw [if_pos (by omega), e, show 2 = vq46.toInt.toNat by omega]
        exact sMq1
      · rw [if_neg (by omega), eMq1 _ _ (.inr (by omega))]
        exact hb_vc (h1 257 (by decide)) i
    · show hv Mq2 260 i = hv M 260 i
      rw [eMq2 _ _ (.inl (by decide)), eMq1 _ _ (.inl (by decide))]
      exact hb_vc (h1 260 (by decide)) i
    · show hv Mq2 258 i = hv M 258 i
      rw [eMq2 _ _ (.inl (by decide)), eMq1 _ _ (.inl (by decide))]
      exact hb_vc (h1 258 (by decide)) i
    · show hv Mq2 259 (4 * i + j) = hv M 259 (4 * i + j)
      rw [eMq2 _ _ (.inl (by decide)), eMq1 _ _ (.inl (by decide))]
      exact hb_vc (h1 259 (by decide)) _
  · have hx1r : 0 ≤ x1.toInt ∧ x1.toInt ≤ 2 := by
      have g0 := gf.1
      have g1 := gf.2
      rw [hc] at g0 g1
      omega
    refine he_aload (n := 42) (i := 0) (by decide +kernel) rfl ?_
    refine he_getr (n := 45) (ci := 9) (j := 31) (ns := [4208, 77]) (b := 257) hm1 (by decide +kernel) rfl rfl (by decide +kernel) ?_
    refine he_aload (n := 46) (i := 0) (by decide +kernel) rfl ?_
    refine hb_gfd (n := 49) (ci := 9) (j := 30) (ns := [4207, 244]) hm1 (by decide +kernel) rfl rfl (by decide) rfl ?_
    intro vq46 hvq46 lvq46 uvq46
    refine he_iload (n := 50) (i := 1) (by decide +kernel) rfl ?_
    refine hb_sta (n := 51) (kind := 64) hm1 (by decide +kernel) rfl rfl (.inl rfl) (by omega) (show _ < (4 : Int) by omega) ?_
    generalize hMq1 : hb_set M1 257 (vq46.toInt.toNat) x1 = Mq1
    have hmq1 : mz_sh mz_GG Mq1 := by rw [← hMq1]; exact hb_set_sh hm1 rfl (yat257_3 (by omega)) (by omega) (by omega)
    have eMq1 : ∀ b j, b ≠ 257 ∨ j ≠ vq46.toInt.toNat → hv Mq1 b j = hv M1 b j := by intro b j h; rw [← hMq1]; exact hb_set_n h
    have sMq1 : hv Mq1 257 (vq46.toInt.toNat) = x1.toInt := by rw [← hMq1]; exact hb_set_v hm1 rfl (show _ < 4 by omega)
    have wMq1 : ∀ b, b ≠ 257 → Mq1 b = M1 b := by intro b h; rw [← hMq1]; exact hb_set_c h
    have q30 : hv Mq1 234 30 = hv M1 234 30 := eMq1 _ _ (.inl (by decide))
    refine he_aload (n := 52) (i := 0) (by decide +kernel) rfl ?_
    refine he_dup_r (n := 53) (by decide +kernel) ?_
    refine hb_gfd (n := 56) (ci := 9) (j := 30) (ns := [4207, 244]) hmq1 (by decide +kernel) rfl rfl (by decide) rfl ?_
    intro vq53 hvq53 lvq53 uvq53
    refine he_iconst (n := 57) (c := 1) (by decide +kernel) (by decide) ?_
    intro cq56 hcq56
    refine he_iadd (n := 58) (by decide +kernel) (by omega) (by omega) ?_
    intro vq57 hvq57
    refine hb_pfd (n := 61) (ci := 9) (j := 30) (t := 0) (ns := [4207, 244]) hmq1 (by decide +kernel) rfl rfl (by decide) (.inl rfl) ?_
    generalize hMq2 : hb_set Mq1 234 30 vq57 = Mq2
    have hmq2 : mz_sh mz_GG Mq2 := by rw [← hMq2]; exact hb_set_sh hmq1 rfl rfl (by omega) (by omega)
    have eMq2 : ∀ b j, b ≠ 234 ∨ j ≠ 30 → hv Mq2 b j = hv Mq1 b j := by intro b j h; rw [← hMq2]; exact hb_set_n h
    have sMq2 : hv Mq2 234 30 = vq57.toInt := by rw [← hMq2]; exact hb_set_v hmq1 rfl (by decide)
    have wMq2 : ∀ b, b ≠ 234 → Mq2 b = Mq1 b := by intro b h; rw [← hMq2]; exact hb_set_c h
    refine he_aload (n := 62) (i := 0) (by decide +kernel) rfl ?_
    refine hb_gfd (n := 65) (ci := 9) (j := 30) (ns := [4207, 244]) hmq2 (by decide +kernel) rfl rfl (by decide) rfl ?_
    intro vq62 hvq62 lvq62 uvq62
    refine he_iconst (n := 66) (c := 1) (by decide +kernel) (by decide) ?_
    intro cq65 hcq65
    refine he_isub (n := 67) (by decide +kernel) (by omega) (by omega) ?_
    intro vq66 hvq66
    refine he_reti (by decide +kernel) ?_
    refine K Mq2 _ (.inl ⟨⟨g4, gf⟩, by show _ = hv M 234 30; omega, by show hv Mq2 234 30 = hv M 234 30 + 1; rw [sMq2]; omega, fun i hi => ⟨?_, ?_, ?_, fun j hj => ?_⟩⟩)
    · show hv Mq2 257 i = if (i : Int) = hv M 234 30 then x1.toInt else hv M 257 i
      rw [eMq2 _ _ (.inl (by decide))]
      by_cases e : i = 3
      · rw [if_pos (by omega), e, show 3 = vq46.toInt.toNat by omega]
        exact sMq1
      · rw [if_neg (by omega), eMq1 _ _ (.inr (by omega))]
        exact hb_vc (h1 257 (by decide)) i
    · show hv Mq2 260 i = hv M 260 i
      rw [eMq2 _ _ (.inl (by decide)), eMq1 _ _ (.inl (by decide))]
      exact hb_vc (h1 260 (by decide)) i
    · show hv Mq2 258 i = hv M 258 i
      rw [eMq2 _ _ (.inl (by decide)), eMq1 _ _ (.inl (by decide))]
      exact hb_vc (h1 258 (by decide)) i
    · show hv Mq2 259 (4 * i + j) = hv M 259 (4 * i + j)
      rw [eMq2 _ _ (.inl (by decide)), eMq1 _ _ (.inl (by decide))]
      exact hb_vc (h1 259 (by decide)) _
theorem ym_open {d z u : Nat} {M : Nat → mq_C} {Q : (Option Value ⊕ Nat) → mq_S → Prop} {x1 : Int32} (hm : mz_sh mz_GG M) (K : ∀ (M' : Nat → mq_C) (r : Int32), xSo (mvw M) (mvw M') x1.toInt r.toInt → Q (.inl (some (.int r))) (M', z, u)) : mq_R mq_PP (d + 1) 140 0 [some (.ref 234), some (.int x1)] [] (M, z, u) Q := by
  refine he_aload (n := 1) (i := 0) (by decide +kernel) rfl ?_
  refine he_iconst (n := 2) (c := 0) (by decide +kernel) (by decide) ?_
  intro c1 hc1
  refine hb_pfd (n := 5) (ci := 9) (j := 0) (t := 0) (ns := [4177, 126]) hm (by decide +kernel) rfl rfl (by decide) (.inl rfl) ?_
  generalize hM1 : hb_set M 234 0 c1 = M1
  have hm1 : mz_sh mz_GG M1 := by rw [← hM1]; exact hb_set_sh hm rfl rfl (by omega) (by omega)
  have eM1 : ∀ b j, b ≠ 234 ∨ j ≠ 0 → hv M1 b j = hv M b j := by intro b j h; rw [← hM1]; exact hb_set_n h
  have sM1 : hv M1 234 0 = c1.toInt := by rw [← hM1]; exact hb_set_v hm rfl (by decide)
  have wM1 : ∀ b, b ≠ 234 → M1 b = M b := by intro b h; rw [← hM1]; exact hb_set_c h
  refine he_aload (n := 6) (i := 0) (by decide +kernel) rfl ?_
  refine hb_gfd (n := 9) (ci := 9) (j := 30) (ns := [4207, 244]) hm1 (by decide +kernel) rfl rfl (by decide) rfl ?_
  intro v6 hv6 lv6 uv6
  refine he_iconst (n := 10) (c := 4) (by decide +kernel) (by decide) ?_
  intro c9 hc9
  have k30 : hv M1 234 30 = hv M 234 30 := eM1 _ _ (.inr (by decide))
  have hk : xLK (mvw M) (mvw M1) := xLK_m k30 ⟨wM1 257 (by decide), wM1 258 (by decide), wM1 259 (by decide), wM1 260 (by decide)⟩
  by_cases g4 : hv M 234 30 = 4
  · skip
    refine he_cmpeq_t (n := 13) (t := 39) (by decide +kernel) (by omega) ?_
    refine he_iconst (n := 40) (c := -1) (by decide +kernel) (by decide) ?_
    intro c39 hc39
    refine he_reti (by decide +kernel) ?_
    exact K M1 _ (.inr ⟨fun h => h.1 g4, by omega, hk⟩)
  refine he_cmpeq_f (n := 13) (t := 39) (by decide +kernel) (by omega) ?_
  refine he_aload (n := 14) (i := 0) (by decide +kernel) rfl ?_
  refine hb_gfd (n := 17) (ci := 9) (j := 30) (ns := [4207, 244]) hm1 (by decide +kernel) rfl rfl (by decide) rfl ?_
  intro v14 hv14 lv14 uv14
  by_cases g : hv M 234 30 = 0
  · skip
    refine he_ifne_f (n := 20) (t := 28) (by decide +kernel) (by omega) ?_
    refine he_iload (n := 21) (i := 1) (by decide +kernel) rfl ?_
    refine he_iconst (n := 22) (c := -1) (by decide +kernel) (by decide) ?_
    intro c21 hc21
    by_cases g9 : x1.toInt = -1
    · skip
      refine he_cmpeq_t (n := 25) (t := 41) (by decide +kernel) (by omega) ?_
      exact ym_op1 hm1 wM1 k30 g4 ⟨fun _ => g9, fun q => absurd g q⟩ K
    · skip
      refine he_cmpeq_f (n := 25) (t := 41) (by decide +kernel) (by omega) ?_
      refine he_goto (t := 39) (by decide +kernel) ?_
      refine he_iconst (n := 40) (c := -1) (by decide +kernel) (by decide) ?_
      intro c39 hc39
      refine he_reti (by decide +kernel) ?_
      exact K M1 _ (.inr ⟨fun h => g9 (h.2.1 g), by omega, hk⟩)
  · skip
    refine he_ifne_t (n := 20) (t := 28) (by decide +kernel) (by omega) ?_
    refine he_iload (n := 29) (i := 1) (by decide +kernel) rfl ?_
    refine he_aload (n := 30) (i := 0) (by decide +kernel) rfl ?_
    refine hb_gfd (n := 33) (ci := 9) (j := 30) (ns := [4207, 244]) hm1 (by decide +kernel) rfl rfl (by decide) rfl ?_
    intro v30 hv30 lv30 uv30
    refine he_s2 (n := 36) (j := 107) (mx := 2) (ns := [5207, 5208, 1011, 210]) (by decide +kernel) (by show 0 ≤ 8; omega) (by show 2 ≤ 2; omega) ?_
    rw [mq_e107]
    refine ym_out ?_
    intro r a0 a1
    show mq_R mq_PP (d + 1) 140 36 _ [.int r] (M1, z, u) Q
    rw [← hv30, k30] at a0 a1
    by_cases gc : 0 ≤ x1.toInt ∧ x1.toInt < hv M 234 30
    · have a0 := a0 gc
      refine he_ifeq_t (n := 39) (t := 41) (by decide +kernel) (by omega) ?_
      exact ym_op1 hm1 wM1 k30 g4 ⟨fun q => absurd q g, fun _ => gc⟩ K
    · have a1 := a1 gc
      refine he_ifeq_f (n := 39) (t := 41) (by decide +kernel) (by omega) ?_
      refine he_iconst (n := 40) (c := -1) (by decide +kernel) (by decide) ?_
      intro cb39 hcb39
      refine he_reti (by decide +kernel) ?_
      exact K M1 _ (.inr ⟨fun h => gc (h.2.2 g), by omega, hk⟩)
theorem ym_app {d z u : Nat} {M : Nat → mq_C} {Q : (Option Value ⊕ Nat) → mq_S → Prop} {x1 x2 : Int32} (hm : mz_sh mz_GG M) (K : ∀ (M' : Nat → mq_C) (r : Int32), xSa (mvw M) (mvw M') x1.toInt x2.toInt r.toInt → Q (.inl (some (.int r))) (M', z, u)) : mq_R mq_PP (d + 1) 141 0 [some (.ref 234), some (.int x1), some (.int x2)] [] (M, z, u) Q := by
  have rg := xx_rng (c := _) hm (a := 234) (i := 30) (lo := 0) (hi := 4) rfl (by decide) rfl
  refine he_aload (n := 1) (i := 0) (by decide +kernel) rfl ?_
  refine he_iconst (n := 2) (c := 0) (by decide +kernel) (by decide) ?_
  intro c1 hc1
  refine hb_pfd (n := 5) (ci := 9) (j := 0) (t := 0) (ns := [4177, 126]) hm (by decide +kernel) rfl rfl (by decide) (.inl rfl) ?_
  generalize hM1 : hb_set M 234 0 c1 = M1
  have hm1 : mz_sh mz_GG M1 := by rw [← hM1]; exact hb_set_sh hm rfl rfl (by omega) (by omega)
  have eM1 : ∀ b j, b ≠ 234 ∨ j ≠ 0 → hv M1 b j = hv M b j := by intro b j h; rw [← hM1]; exact hb_set_n h
  have sM1 : hv M1 234 0 = c1.toInt := by rw [← hM1]; exact hb_set_v hm rfl (by decide)
  have wM1 : ∀ b, b ≠ 234 → M1 b = M b := by intro b h; rw [← hM1]; exact hb_set_c h
  refine he_iload (n := 6) (i := 1) (by decide +kernel) rfl ?_
  refine he_aload (n := 7) (i := 0) (by decide +kernel) rfl ?_
  refine hb_gfd (n := 10) (ci := 9) (j := 30) (ns := [4207, 244]) hm1 (by decide +kernel) rfl rfl (by decide) rfl ?_
  intro v7 hv7 lv7 uv7
  have k30 : hv M1 234 30 = hv M 234 30 := eM1 _ _ (.inr (by decide))
  have hk : xLK (mvw M) (mvw M1) := xLK_m k30 ⟨wM1 257 (by decide), wM1 258 (by decide), wM1 259 (by decide), wM1 260 (by decide)⟩
  refine he_s2 (n := 13) (j := 107) (mx := 2) (ns := [5207, 5208, 1011, 210]) (by decide +kernel) (by show 0 ≤ 8; omega) (by show 2 ≤ 2; omega) ?_
  rw [mq_e107]
  refine ym_out ?_
  intro r1 a0 a1
  show mq_R mq_PP (d + 1) 141 13 _ [.int r1] (M1, z, u) Q
  rw [← hv7, k30] at a0 a1
  by_cases g1 : 0 ≤ x1.toInt ∧ x1.toInt < hv M 234 30
  rotate_left
  · have a1 := a1 g1
    refine he_ifne_t (n := 16) (t := 24) (by decide +kernel) (by omega) ?_
    refine he_iconst (n := 25) (c := 0) (by decide +kernel) (by decide) ?_
    intro cb24 hcb24
    refine he_retz (by decide +kernel) (by omega) ?_
    exact K M1 _ (.inr ⟨fun h => g1 h.1, by omega, hk⟩)
  have a0 := a0 g1
  refine he_ifne_f (n := 16) (t := 24) (by decide +kernel) (by omega) ?_
  refine he_iload (n := 17) (i := 2) (by decide +kernel) rfl ?_
  refine he_iconst (n := 18) (c := 4) (by decide +kernel) (by decide) ?_
  intro cb17 hcb17
  refine he_s2 (n := 21) (j := 107) (mx := 2) (ns := [5207, 5208, 1011, 210]) (by decide +kernel) (by show 0 ≤ 8; omega) (by show 2 ≤ 2; omega) ?_
  rw [mq_e107]
  refine ym_out ?_
  intro r2 b0 b1
  show mq_R mq_PP (d + 1) 141 21 _ [.int r2] (M1, z, u) Q
  by_cases g2 : 0 ≤ x2.toInt ∧ x2.toInt ≤ 3
  rotate_left
  · have b1 := b1 (by omega)
    refine he_ifeq_f (n := 24) (t := 26) (by decide +kernel) (by omega) ?_
    refine he_iconst (n := 25) (c := 0) (by decide +kernel) (by decide) ?_
    intro ce24 hce24
    refine he_retz (by decide +kernel) (by omega) ?_
    exact K M1 _ (.inr ⟨fun h => g2 h.2.1, by omega, hk⟩)
  have b0 := b0 (by omega)
  refine he_ifeq_t (n := 24) (t := 26) (by decide +kernel) (by omega) ?_
  refine he_aload (n := 27) (i := 0) (by decide +kernel) rfl ?_
  refine he_getr (n := 30) (ci := 9) (j := 34) (ns := [4211, 86]) (b := 260) hm1 (by decide +kernel) rfl rfl (by decide +kernel) ?_
  refine he_iload (n := 31) (i := 1) (by decide +kernel) rfl ?_
  refine hb_ld (n := 32) (kind := 65) hm1 (by decide +kernel) rfl rfl (.inr rfl) (by omega) (show _ < (4 : Int) by omega) hb_at1 ?_
  intro ve31 hve31 lve31 uve31
  have k260 : hv M1 260 x1.toInt.toNat = hv M 260 x1.toInt.toNat := hb_vc (wM1 260 (by decide)) _
  have k258 : ∀ i, hv M1 258 i = hv M 258 i := hb_vc (wM1 258 (by decide))
  have k258x := k258 x1.toInt.toNat
  have e1 : (mvw M).2.2.1 x1.toInt.toNat = hv M 260 x1.toInt.toNat := rfl
  have e3 : (mvw M).2.2.2.1 x1.toInt.toNat = hv M 258 x1.toInt.toNat := rfl
  by_cases g : hv M 260 x1.toInt.toNat = 0
  rotate_left
  · skip
    refine he_ifne_t (n := 35) (t := 45) (by decide +kernel) (by omega) ?_
    refine he_iconst (n := 46) (c := 0) (by decide +kernel) (by decide) ?_
    intro ce45 hce45
    refine he_retz (by decide +kernel) (by omega) ?_
    exact K M1 _ (.inr ⟨fun h => g h.2.2.1, by omega, hk⟩)
  refine he_ifne_f (n := 35) (t := 45) (by decide +kernel) (by omega) ?_
  refine he_aload (n := 36) (i := 0) (by decide +kernel) rfl ?_
  refine he_getr (n := 39) (ci := 9) (j := 32) (ns := [4209, 80]) (b := 258) hm1 (by decide +kernel) rfl rfl (by decide +kernel) ?_
  refine he_iload (n := 40) (i := 1) (by decide +kernel) rfl ?_
  refine hb_ld (n := 41) (kind := 64) hm1 (by decide +kernel) rfl rfl (.inl rfl) (by omega) (show _ < (4 : Int) by omega) hb_at1 ?_
  intro ve40 hve40 lve40 uve40
  refine he_iconst (n := 42) (c := 4) (by decide +kernel) (by decide) ?_
  intro ce41 hce41
  by_cases g3 : hv M 258 x1.toInt.toNat = 4
  · skip
    refine he_cmpne_f (n := 45) (t := 47) (by decide +kernel) (by omega) ?_
    refine he_iconst (n := 46) (c := 0) (by decide +kernel) (by decide) ?_
    intro ce45 hce45
    refine he_retz (by decide +kernel) (by omega) ?_
    exact K M1 _ (.inr ⟨fun h => h.2.2.2 g3, by omega, hk⟩)
  refine he_cmpne_t (n := 45) (t := 47) (by decide +kernel) (by omega) ?_
  refine he_aload (n := 48) (i := 0) (by decide +kernel) rfl ?_
  refine he_getr (n := 51) (ci := 9) (j := 33) (ns := [4210, 83]) (b := 259) hm1 (by decide +kernel) rfl rfl (by decide +kernel) ?_
  refine he_iconst (n := 52) (c := 4) (by decide +kernel) (by decide) ?_
  intro ce51 hce51
  refine he_iload (n := 53) (i := 1) (by decide +kernel) rfl ?_
  refine he_imul (n := 54) (p := 4 * x1.toInt) (by decide +kernel) (by rw [hce51]) (by omega) (by omega) ?_
  intro ve53 hve53
  refine he_aload (n := 55) (i := 0) (by decide +kernel) rfl ?_
  refine he_getr (n := 58) (ci := 9) (j := 32) (ns := [4209, 80]) (b := 258) hm1 (by decide +kernel) rfl rfl (by decide +kernel) ?_
  refine he_iload (n := 59) (i := 1) (by decide +kernel) rfl ?_
  refine hb_ld (n := 60) (kind := 64) hm1 (by decide +kernel) rfl rfl (.inl rfl) (by omega) (show _ < (4 : Int) by omega) hb_at1 ?_
  intro ve59 hve59 lve59 uve59
  refine he_iadd (n := 61) (by decide +kernel) (by omega) (by omega) ?_
  intro ve60 hve60
  refine he_iload (n := 62) (i := 2) (by decide +kernel) rfl ?_
  refine hb_sta (n := 63) (kind := 64) hm1 (by decide +kernel) rfl rfl (.inl rfl) (by omega) (show _ < (16 : Int) by omega) ?_
  generalize hMe1 : hb_set M1 259 (ve60.toInt.toNat) x2 = Me1
  have hme1 : mz_sh mz_GG Me1 := by rw [← hMe1]; exact hb_set_sh hm1 rfl hb_at1 (by omega) (by omega)
  have eMe1 : ∀ b j, b ≠ 259 ∨ j ≠ ve60.toInt.toNat → hv Me1 b j = hv M1 b j := by intro b j h; rw [← hMe1]; exact hb_set_n h
  have sMe1 : hv Me1 259 (ve60.toInt.toNat) = x2.toInt := by rw [← hMe1]; exact hb_set_v hm1 rfl (show _ < 16 by omega)
  have wMe1 : ∀ b, b ≠ 259 → Me1 b = M1 b := by intro b h; rw [← hMe1]; exact hb_set_c h
  have q58 : hv Me1 258 x1.toInt.toNat = hv M1 258 x1.toInt.toNat := eMe1 _ _ (.inl (by decide))
  refine he_aload (n := 64) (i := 0) (by decide +kernel) rfl ?_
  refine he_getr (n := 67) (ci := 9) (j := 32) (ns := [4209, 80]) (b := 258) hme1 (by decide +kernel) rfl rfl (by decide +kernel) ?_
  refine he_iload (n := 68) (i := 1) (by decide +kernel) rfl ?_
  refine he_dup2 (n := 69) (by decide +kernel) ?_
  refine hb_ld (n := 70) (kind := 64) hme1 (by decide +kernel) rfl rfl (.inl rfl) (by omega) (show _ < (4 : Int) by omega) hb_at1 ?_
  intro ve69 hve69 lve69 uve69
  refine he_iconst (n := 71) (c := 1) (by decide +kernel) (by decide) ?_
  intro ce70 hce70
  refine he_iadd (n := 72) (by decide +kernel) (by omega) (by omega) ?_
  intro ve71 hve71
  refine hb_sta (n := 73) (kind := 64) hme1 (by decide +kernel) rfl rfl (.inl rfl) (by omega) (show _ < (4 : Int) by omega) ?_
  generalize hMe2 : hb_set Me1 258 (x1.toInt.toNat) ve71 = Me2
  have hme2 : mz_sh mz_GG Me2 := by rw [← hMe2]; exact hb_set_sh hme1 rfl hb_at1 (by omega) (by omega)
  have eMe2 : ∀ b j, b ≠ 258 ∨ j ≠ x1.toInt.toNat → hv Me2 b j = hv Me1 b j := by intro b j h; rw [← hMe2]; exact hb_set_n h
  have sMe2 : hv Me2 258 (x1.toInt.toNat) = ve71.toInt := by rw [← hMe2]; exact hb_set_v hme1 rfl (show _ < 4 by omega)
  have wMe2 : ∀ b, b ≠ 258 → Me2 b = Me1 b := by intro b h; rw [← hMe2]; exact hb_set_c h
  refine he_iconst (n := 74) (c := 1) (by decide +kernel) (by decide) ?_
  intro ce73 hce73
  refine he_retz (by decide +kernel) (by omega) ?_
  refine K Me2 _ (.inl ⟨⟨g1, g2, g, g3⟩, by omega, ?_, fun i hi => ⟨?_, ?_, ?_, fun j hj => ?_⟩⟩)
  · show hv Me2 234 30 = hv M 234 30
    rw [eMe2 _ _ (.inl (by decide)), eMe1 _ _ (.inl (by decide))]
    exact k30
  · show hv Me2 257 i = hv M 257 i
    rw [eMe2 _ _ (.inl (by decide)), eMe1 _ _ (.inl (by decide))]
    exact hb_vc (wM1 257 (by decide)) i
  · show hv Me2 260 i = hv M 260 i
    rw [eMe2 _ _ (.inl (by decide)), eMe1 _ _ (.inl (by decide))]
    exact hb_vc (wM1 260 (by decide)) i
  · show hv Me2 258 i = if (i : Int) = x1.toInt then hv M 258 i + 1 else hv M 258 i
    by_cases e : (i : Int) = x1.toInt
    · rw [if_pos e, show i = x1.toInt.toNat by omega, sMe2]
      omega
    · rw [if_neg e, eMe2 _ _ (.inr (by omega)), eMe1 _ _ (.inl (by decide))]
      exact k258 i
  · show hv Me2 259 (4 * i + j) = if (i : Int) = x1.toInt ∧ (j : Int) = hv M 258 i then x2.toInt else hv M 259 (4 * i + j)
    rw [eMe2 _ _ (.inl (by decide))]
    by_cases e : (i : Int) = x1.toInt
    · have hi2 : i = x1.toInt.toNat := by omega
      subst hi2
      by_cases q : (j : Int) = hv M 258 x1.toInt.toNat
      · rw [if_pos ⟨e, q⟩, show 4 * x1.toInt.toNat + j = ve60.toInt.toNat by omega]
        exact sMe1
      · rw [if_neg (fun h => q h.2), eMe1 _ _ (.inr (by omega))]
        exact hb_vc (wM1 259 (by decide)) _
    · rw [if_neg (fun h => e h.1), eMe1 _ _ (.inr (by omega))]
      exact hb_vc (wM1 259 (by decide)) _
theorem ym_close {d z u : Nat} {M : Nat → mq_C} {Q : (Option Value ⊕ Nat) → mq_S → Prop} {x1 : Int32} (hm : mz_sh mz_GG M) (K : ∀ (M' : Nat → mq_C) (r : Int32), xSc (mvw M) (mvw M') x1.toInt r.toInt → Q (.inl (some (.int r))) (M', z, u)) : mq_R mq_PP (d + 1) 142 0 [some (.ref 234), some (.int x1)] [] (M, z, u) Q := by
  have rg := xx_rng (c := _) hm (a := 234) (i := 30) (lo := 0) (hi := 4) rfl (by decide) rfl
  refine he_aload (n := 1) (i := 0) (by decide +kernel) rfl ?_
  refine he_iconst (n := 2) (c := 0) (by decide +kernel) (by decide) ?_
  intro c1 hc1
  refine hb_pfd (n := 5) (ci := 9) (j := 0) (t := 0) (ns := [4177, 126]) hm (by decide +kernel) rfl rfl (by decide) (.inl rfl) ?_
  generalize hM1 : hb_set M 234 0 c1 = M1
  have hm1 : mz_sh mz_GG M1 := by rw [← hM1]; exact hb_set_sh hm rfl rfl (by omega) (by omega)
  have eM1 : ∀ b j, b ≠ 234 ∨ j ≠ 0 → hv M1 b j = hv M b j := by intro b j h; rw [← hM1]; exact hb_set_n h
  have sM1 : hv M1 234 0 = c1.toInt := by rw [← hM1]; exact hb_set_v hm rfl (by decide)
  have wM1 : ∀ b, b ≠ 234 → M1 b = M b := by intro b h; rw [← hM1]; exact hb_set_c h
  refine he_iload (n := 6) (i := 1) (by decide +kernel) rfl ?_
  refine he_aload (n := 7) (i := 0) (by decide +kernel) rfl ?_
  refine hb_gfd (n := 10) (ci := 9) (j := 30) (ns := [4207, 244]) hm1 (by decide +kernel) rfl rfl (by decide) rfl ?_
  intro v7 hv7 lv7 uv7
  have k30 : hv M1 234 30 = hv M 234 30 := eM1 _ _ (.inr (by decide))
  have hk : xLK (mvw M) (mvw M1) := xLK_m k30 ⟨wM1 257 (by decide), wM1 258 (by decide), wM1 259 (by decide), wM1 260 (by decide)⟩
  refine he_s2 (n := 13) (j := 107) (mx := 2) (ns := [5207, 5208, 1011, 210]) (by decide +kernel) (by show 0 ≤ 8; omega) (by show 2 ≤ 2; omega) ?_
  rw [mq_e107]
  refine ym_out ?_
  intro r1 a0 a1
  show mq_R mq_PP (d + 1) 142 13 _ [.int r1] (M1, z, u) Q
  rw [← hv7, k30] at a0 a1
  by_cases g1 : 0 ≤ x1.toInt ∧ x1.toInt < hv M 234 30
  rotate_left
  · have a1 := a1 g1
    refine he_ifne_t (n := 16) (t := 40) (by decide +kernel) (by omega) ?_
    refine he_iconst (n := 41) (c := 0) (by decide +kernel) (by decide) ?_
    intro cb40 hcb40
    refine he_retz (by decide +kernel) (by omega) ?_
    exact K M1 _ (.inr ⟨fun h => g1 h.1, by omega, hk⟩)
  have a0 := a0 g1
  refine he_ifne_f (n := 16) (t := 40) (by decide +kernel) (by omega) ?_
  refine he_aload (n := 17) (i := 0) (by decide +kernel) rfl ?_
  refine he_getr (n := 20) (ci := 9) (j := 34) (ns := [4211, 86]) (b := 260) hm1 (by decide +kernel) rfl rfl (by decide +kernel) ?_
  refine he_iload (n := 21) (i := 1) (by decide +kernel) rfl ?_
  refine he_aload (n := 22) (i := 0) (by decide +kernel) rfl ?_
  refine hb_gfd (n := 25) (ci := 9) (j := 30) (ns := [4207, 244]) hm1 (by decide +kernel) rfl rfl (by decide) rfl ?_
  intro vb22 hvb22 lvb22 uvb22
  refine he_s2 (n := 28) (j := 107) (mx := 2) (ns := [5207, 5208, 1011, 210]) (by decide +kernel) (by show 1 ≤ 8; omega) (by show 2 ≤ 2; omega) ?_
  rw [mq_e107]
  refine ym_out ?_
  intro r2 b0 b1
  show mq_R mq_PP (d + 1) 142 28 _ [.int r2, .ref 260] (M1, z, u) Q
  rw [← hvb22, k30] at b0 b1
  have b0 := b0 g1
  refine he_ifeq_t (n := 31) (t := 35) (by decide +kernel) (by omega) ?_
  refine he_iload (n := 36) (i := 1) (by decide +kernel) rfl ?_
  refine hb_ld (n := 37) (kind := 65) hm1 (by decide +kernel) rfl rfl (.inr rfl) (by omega) (show _ < (4 : Int) by omega) hb_at1 ?_
  intro ve36 hve36 lve36 uve36
  have k260 : ∀ i, hv M1 260 i = hv M 260 i := hb_vc (wM1 260 (by decide))
  have k260x := k260 x1.toInt.toNat
  by_cases g : hv M 260 x1.toInt.toNat = 0
  rotate_left
  · skip
    refine he_ifeq_f (n := 40) (t := 42) (by decide +kernel) (by omega) ?_
    refine he_iconst (n := 41) (c := 0) (by decide +kernel) (by decide) ?_
    intro ce40 hce40
    refine he_retz (by decide +kernel) (by omega) ?_
    exact K M1 _ (.inr ⟨fun h => g h.2, by omega, hk⟩)
  refine he_ifeq_t (n := 40) (t := 42) (by decide +kernel) (by omega) ?_
  refine he_aload (n := 43) (i := 0) (by decide +kernel) rfl ?_
  refine he_getr (n := 46) (ci := 9) (j := 34) (ns := [4211, 86]) (b := 260) hm1 (by decide +kernel) rfl rfl (by decide +kernel) ?_
  refine he_iload (n := 47) (i := 1) (by decide +kernel) rfl ?_
  refine he_iconst (n := 48) (c := 1) (by decide +kernel) (by decide) ?_
  intro ce47 hce47
  refine hb_sta (n := 49) (kind := 65) hm1 (by decide +kernel) rfl rfl (.inr ⟨rfl, he_01 (by omega)⟩) (by omega) (show _ < (4 : Int) by omega) ?_
  generalize hMe1 : hb_set M1 260 (x1.toInt.toNat) ce47 = Me1
  have hme1 : mz_sh mz_GG Me1 := by rw [← hMe1]; exact hb_set_sh hm1 rfl hb_at1 (by omega) (by omega)
  have eMe1 : ∀ b j, b ≠ 260 ∨ j ≠ x1.toInt.toNat → hv Me1 b j = hv M1 b j := by intro b j h; rw [← hMe1]; exact hb_set_n h
  have sMe1 : hv Me1 260 (x1.toInt.toNat) = ce47.toInt := by rw [← hMe1]; exact hb_set_v hm1 rfl (show _ < 4 by omega)
  have wMe1 : ∀ b, b ≠ 260 → Me1 b = M1 b := by intro b h; rw [← hMe1]; exact hb_set_c h
  refine he_iconst (n := 50) (c := 1) (by decide +kernel) (by decide) ?_
  intro ce49 hce49
  refine he_retz (by decide +kernel) (by omega) ?_
  refine K Me1 _ (.inl ⟨⟨g1, g⟩, by omega, ?_, fun i hi => ⟨?_, ?_, ?_, fun j hj => ?_⟩⟩)
  · show hv Me1 234 30 = hv M 234 30
    rw [eMe1 _ _ (.inl (by decide))]
    exact k30
  · show hv Me1 257 i = hv M 257 i
    rw [eMe1 _ _ (.inl (by decide))]
    exact hb_vc (wM1 257 (by decide)) i
  · show hv Me1 260 i = if (i : Int) = x1.toInt then 1 else hv M 260 i
    by_cases e : (i : Int) = x1.toInt
    · rw [if_pos e, show i = x1.toInt.toNat by omega, sMe1]
      omega
    · rw [if_neg e, eMe1 _ _ (.inr (by omega))]
      exact k260 i
  · show hv Me1 258 i = hv M 258 i
    rw [eMe1 _ _ (.inl (by decide))]
    exact hb_vc (wM1 258 (by decide)) i
  · show hv Me1 259 (4 * i + j) = hv M 259 (4 * i + j)
    rw [eMe1 _ _ (.inl (by decide))]
    exact hb_vc (wM1 259 (by decide)) _
