/-! The model's copies and letters, exactly. -/
/-- what a sign above 256 does -/
def xcp (fD : Nat → Int) (nD E : Nat) (B : Nat → Int) (s a : Nat) (o : List Int) : Option (Nat × List Int) := match xlen E B s a with
  | none => none
  | some (n, a2) => match xsg fD nD E B a2 with
    | none => none
    | some (dd, a3) => match xdis E B dd.toNat a3 with
      | none => none
      | some (far, a4) => if far ≤ o.length ∧ n ≤ 200 - o.length then some (a4, xcb far n o) else none
theorem xlt_cp {fL fD : Nat → Int} {nL nD E m a a1 : Nat} {B : Nat → Int} {o : List Int} {s : Int} (hs : xsg fL nL E B a = some (s, a1)) (h1 : ¬ s = 256) (h2 : ¬ s < 256) : xlt fL nL fD nD E B (m + 1) a o = (match xcp fD nD E B s.toNat a1 o with
    | none => none
    | some (a4, o4) => xlt fL nL fD nD E B m a4 o4) := by
  rw [xlt, hs]
  show (if s = 256 then _ else if s < 256 then _ else _) = _
  rw [if_neg h1, if_neg h2]
  unfold xcp
  cases xlen E B s.toNat a1 with
  | none => rfl
  | some p =>
    obtain ⟨n, a2⟩ := p
    dsimp only
    cases xsg fD nD E B a2 with
    | none => rfl
    | some p =>
      obtain ⟨dd, a3⟩ := p
      dsimp only
      cases xdis E B dd.toNat a3 with
      | none => rfl
      | some p =>
        obtain ⟨far, a4⟩ := p
        dsimp only
        by_cases h : far ≤ o.length ∧ n ≤ 200 - o.length
        · simp only [if_pos h]
        · simp only [if_neg h]
theorem ym_cp_l {sh : Int} {d z u E a far T : Nat} {M0 Mb : Nat → mq_C} {Q : (Option Value ⊕ Nat) → mq_S → Prop} {x1 x3 x5 : Int32} {o2 o4 : Option Value} (h5 : x5.toInt = (far : Int)) (hfar : 1 ≤ far) {R : List Int}
    (K1 : ∀ (M' : Nat → mq_C) (r : Int32), T ≤ 200 → yV E sh M0 M' a R → r.toInt = 1 → (∀ b, b ≠ 234 → b ≠ 253 → M' b = Mb b) → Q (.inl (some (.int r))) (M', z, u))
    (K2 : ∀ (M' : Nat → mq_C) (r : Int32) (o' : List Int), ¬ T ≤ 200 → yV E sh M0 M' a o' → r.toInt = 0 → (∀ b, b ≠ 234 → b ≠ 253 → M' b = Mb b) → Q (.inl (some (.int r))) (M', z, u)) : ∀ (m : Nat) (M : Nat → mq_C) (o : List Int) (g k : Int32), k.toInt + (m : Int) = x3.toInt → 0 ≤ k.toInt → x3.toInt ≤ 258 → far ≤ o.length → o.length ≤ 200 → g.toInt = 1 → yV E sh M0 M a o → (∀ b, b ≠ 234 → b ≠ 253 → M b = Mb b) → o.length + m = T → xcb far m o = R → mq_R mq_PP (d + 1) 118 162 [some (.ref 234), some (.int x1), o2, some (.int x3), o4, some (.int x5), some (.int g), some (.int k)] [] (M, z, u) Q := by
  intro m
  induction m with
  | zero =>
    intro M o g k e1 e2 e3 e4 e5 hg hV hF hT hR
    refine he_iload (n := 164) (i := 7) (by decide +kernel) rfl ?_
    refine he_iload (n := 165) (i := 3) (by decide +kernel) rfl ?_
    refine he_cmpge_t (n := 168) (t := 197) (by decide +kernel) (by omega) ?_
    refine he_iload (n := 199) (i := 6) (by decide +kernel) rfl ?_
    refine he_retz (by decide +kernel) (by omega) ?_
    exact K1 M _ (by omega) (by rw [← hR]; exact hV) hg hF
  | succ m ih =>
    intro M o g k e1 e2 e3 e4 e5 hg hV hF hT hR
    have vL : hv M 234 25 = (o.length : Int) := hV.2.2.2.2.2.1
    refine he_iload (n := 164) (i := 7) (by decide +kernel) rfl ?_
    refine he_iload (n := 165) (i := 3) (by decide +kernel) rfl ?_
    refine he_cmpge_f (n := 168) (t := 197) (by decide +kernel) (by omega) ?_
    refine he_iload (n := 170) (i := 6) (by decide +kernel) rfl ?_
    refine he_ifeq_f (n := 173) (t := 197) (by decide +kernel) (by omega) ?_
    refine he_aload (n := 174) (i := 0) (by decide +kernel) rfl ?_
    refine he_aload (n := 175) (i := 0) (by decide +kernel) rfl ?_
    refine he_getr (n := 178) (ci := 9) (j := 26) (ns := [4203, 65]) (b := 253) hV.1.1 (by decide +kernel) rfl rfl (by decide +kernel) ?_
    refine he_aload (n := 179) (i := 0) (by decide +kernel) rfl ?_
    refine hb_gfd (n := 182) (ci := 9) (j := 25) (ns := [4202, 143]) hV.1.1 (by decide +kernel) rfl rfl (by decide) rfl ?_
    intro v179 hv179 lv179 uv179
    refine he_iload (n := 184) (i := 5) (by decide +kernel) rfl ?_
    have q179 : v179.toInt = (o.length : Int) := by rw [← hv179]; exact vL
    refine he_isub (n := 185) (by decide +kernel) (by omega) (by omega) ?_
    intro v184 hv184
    refine hb_ld (n := 186) (kind := 64) hV.1.1 (by decide +kernel) rfl rfl (.inl rfl) (by omega) (show _ < (201 : Int) by omega) hb_at1 ?_
    intro v185 hv185 lv185 uv185
    have q185 : v185.toInt = o.getD (o.length - far) 0 := by rw [← hv185, show v184.toInt.toNat = o.length - far by omega]; exact hV.2.2.2.2.2.2 _ (by omega)
    refine he_v1 (n := 189) (j := 110) (ci := 9) (mx := 2) (ns := [5166, 5168, 57, 151]) (by decide +kernel) ((hb_kd (a := 234) hV.1.1 rfl).trans rfl) (by show 0 ≤ 8; omega) (by show 2 ≤ 2; omega) ?_
    rw [mq_e110]
    refine ym_give hV (by omega) ?_ ?_
    · intro M2 r hl hV2 hr hF2
      show mq_R mq_PP (d + 1) 118 189 _ [.int r] (M2, z, u) Q
      refine he_istore (n := 191) (i := 6) (by decide +kernel) rfl ?_
      refine he_iinc (n := 194) (i := 7) (c := 1) (L' := fun v => [some (.ref (234)), some (.int x1), o2, some (.int x3), o4, some (.int x5), some (.int r), some (.int v)]) (by decide +kernel) (by decide) rfl (fun _ => rfl) (by omega) (by omega) ?_
      intro i191 hi191
      refine he_goto (t := 162) (by decide +kernel) ?_
      refine ih M2 _ _ _ (by omega) (by omega) e3 (by rw [List.length_append]; omega) (by rw [List.length_append]; show o.length + 1 ≤ 200; omega) hr hV2 (fun b n1 n2 => (hF2 b n1 n2).trans (hF b n1 n2)) (by rw [List.length_append]; show o.length + 1 + m = T; omega) ?_
      rw [q185]
      exact hR
    · intro r hl hr
      show mq_R mq_PP (d + 1) 118 189 _ [.int r] (M, z, u) Q
      refine he_istore (n := 191) (i := 6) (by decide +kernel) rfl ?_
      refine he_iinc (n := 194) (i := 7) (c := 1) (L' := fun v => [some (.ref (234)), some (.int x1), o2, some (.int x3), o4, some (.int x5), some (.int r), some (.int v)]) (by decide +kernel) (by decide) rfl (fun _ => rfl) (by omega) (by omega) ?_
      intro i191 hi191
      refine he_goto (t := 162) (by decide +kernel) ?_
      refine he_iload (n := 164) (i := 7) (by decide +kernel) rfl ?_
      refine he_iload (n := 165) (i := 3) (by decide +kernel) rfl ?_
      by_cases h165 : x3.toInt ≤ i191.toInt
      · skip
        refine he_cmpge_t (n := 168) (t := 197) (by decide +kernel) (by omega) ?_
        refine he_iload (n := 199) (i := 6) (by decide +kernel) rfl ?_
        refine he_retz (by decide +kernel) (by omega) ?_
        exact K2 M _ o (by omega) hV (by omega) hF
      · skip
        refine he_cmpge_f (n := 168) (t := 197) (by decide +kernel) (by omega) ?_
        refine he_iload (n := 170) (i := 6) (by decide +kernel) rfl ?_
        refine he_ifeq_t (n := 173) (t := 197) (by decide +kernel) (by omega) ?_
        refine he_iload (n := 199) (i := 6) (by decide +kernel) rfl ?_
        refine he_retz (by decide +kernel) (by omega) ?_
        exact K2 M _ o (by omega) hV (by omega) hF
theorem yl_r {M : Nat → mq_C} (hm : mz_sh mz_GG M) : 0 ≤ hv M 234 25 ∧ hv M 234 25 ≤ 200 := by
  obtain ⟨m1, m2, m3⟩ := hm 234 _ rfl
  have m2 : (M 234).2.length = 65 := m2
  have hl : 25 < (M 234).2.length := by omega
  have hw : (M 234).2[25]? = some (M 234).2[25] := List.getElem?_eq_getElem hl
  generalize (M 234).2[25] = w at hw
  have hok := m3 _ _ hw
  have e : hv M 234 25 = hb_w mz_GG (some w) := by show hb_w mz_GG ((M 234).2[25]?) = _; rw [hw]
  rw [e]
  cases w with
  | int v => exact hok
  | _ => exact hok.elim
theorem ym_copies {d z u E a s nD : Nat} {fD : Nat → Int} {M0 M : Nat → mq_C} {o : List Int} {Q : (Option Value ⊕ Nat) → mq_S → Prop} {x1 : Int32} (hE : E ≤ 1920) (hn : nD ≤ 320) (hV : yV E 0 M0 M a o) (ho : o.length ≤ 200) (hT : yT M 1 nD fD) (h1 : x1.toInt = (s : Int)) (hs : 257 ≤ s) (hs' : s ≤ 285)
    (K1 : ∀ (M' : Nat → mq_C) (r : Int32) (a' : Nat) (o' : List Int), xcp fD nD E (xB M0 252) s a o = some (a', o') → yV E 0 M0 M' a' o' → o'.length ≤ 200 → r.toInt = 1 → (∀ b, b ≠ 234 → b ≠ 253 → M' b = M b) → Q (.inl (some (.int r))) (M', z, u))
    (K2 : ∀ (M' : Nat → mq_C) (r : Int32) (sh' : Int) (a' : Nat) (o' : List Int), xcp fD nD E (xB M0 252) s a o = none → (sh' = 0 ∨ sh' = 1) → yV E sh' M0 M' a' o' → r.toInt = 0 → (∀ b, b ≠ 234 → b ≠ 253 → M' b = M b) → Q (.inl (some (.int r))) (M', z, u)) : mq_R mq_PP (d + 2) 118 0 [some (.ref 234), some (.int x1), none, none, none, none, none, none] [] (M, z, u) Q := by
  have fail0 : ∀ (M' : Nat → mq_C) (r : Int32) (sh' : Int) (a' : Nat) (o' : List Int), xcp fD nD E (xB M0 252) s a o = none → (sh' = 0 ∨ sh' = 1) → yV E sh' M0 M' a' o' → r.toInt = 0 → (∀ b, b ≠ 234 → b ≠ 253 → M' b = M b) → Q (.inl (some (.int r))) (M', z, u) := K2
  -- the distance is there
  have r134 : ∀ (sh : Int) (M4 : Nat → mq_C) (x2 x3 x4 fa : Int32) (a4 n far : Nat), (sh = 0 ∨ sh = 1) → x3.toInt = (n : Int) → n ≤ 258 → fa.toInt = (far : Int) → 1 ≤ far → far ≤ 65536 → yV E sh M0 M4 a4 o → (∀ b, b ≠ 234 → M4 b = M b) → (sh = 1 → xcp fD nD E (xB M0 252) s a o = none) → (sh = 0 → xcp fD nD E (xB M0 252) s a o = if far ≤ o.length ∧ n ≤ 200 - o.length then some (a4, xcb far n o) else none) → mq_R mq_PP (d + 2) 118 134 [some (.ref 234), some (.int x1), some (.int x2), some (.int x3), some (.int x4), none, none, none] [.int fa] (M4, z, u) Q := by
    intro sh M4 x2 x3 x4 fa a4 n far hsh h3 hn2 hfa hf1 hf2 hV4 hF4 k1 k0
    refine he_istore (n := 136) (i := 5) (by decide +kernel) rfl ?_
    refine he_aload (n := 137) (i := 0) (by decide +kernel) rfl ?_
    refine hb_gfd (n := 140) (ci := 9) (j := 24) (ns := [4201, 135]) hV4.1.1 (by decide +kernel) rfl rfl (by decide) rfl ?_
    intro v137 hv137 lv137 uv137
    have q137 : v137.toInt = sh := by rw [← hv137]; exact hV4.2.2.2.1
    by_cases h140 : v137.toInt = 0
    · obtain rfl : sh = 0 := by omega
      have hx := k0 rfl
      refine he_ifne_f (n := 143) (t := 156) (by decide +kernel) (by omega) ?_
      refine he_iload (n := 145) (i := 5) (by decide +kernel) rfl ?_
      refine he_aload (n := 146) (i := 0) (by decide +kernel) rfl ?_
      refine hb_gfd (n := 149) (ci := 9) (j := 25) (ns := [4202, 143]) hV4.1.1 (by decide +kernel) rfl rfl (by decide) rfl ?_
      intro v146 hv146 lv146 uv146
      have q146 : v146.toInt = (o.length : Int) := by rw [← hv146]; exact hV4.2.2.2.2.2.1
      by_cases h149 : far ≤ o.length
      · skip
        refine he_cmpgt_f (n := 152) (t := 156) (by decide +kernel) (by omega) ?_
        refine he_iconst (n := 153) (c := 1) (by decide +kernel) (by decide) ?_
        intro c152 hc152
        refine he_goto (t := 157) (by decide +kernel) ?_
        refine he_istore (n := 159) (i := 6) (by decide +kernel) rfl ?_
        refine he_iconst (n := 160) (c := 0) (by decide +kernel) (by decide) ?_
        intro c159 hc159
        refine he_istore (n := 162) (i := 7) (by decide +kernel) rfl ?_
        refine ym_cp_l (T := o.length + n) (a := a4) (Mb := M) hfa hf1 ?_ ?_ n M4 o _ _ (by omega) (by omega) (by omega) h149 ho (by omega) hV4 (fun b n1 _ => hF4 b n1) rfl rfl
        · intro M5 r hT5 hV5 hr hF5
          refine K1 M5 r a4 _ (by rw [hx, if_pos ⟨h149, by omega⟩]) hV5 (by have := hV5.2.2.2.2.2.1; have := yl_r hV5.1.1; omega) hr hF5
        · intro M5 r o5 hT5 hV5 hr hF5
          exact K2 M5 r 0 a4 o5 (by rw [hx, if_neg (by omega)]) (.inl rfl) hV5 hr hF5
      · have hx0 : xcp fD nD E (xB M0 252) s a o = none := by rw [hx, if_neg (fun h => h149 h.1)]
        refine he_cmpgt_t (n := 152) (t := 156) (by decide +kernel) (by omega) ?_
        refine he_iconst (n := 157) (c := 0) (by decide +kernel) (by decide) ?_
        intro c156 hc156
        refine he_istore (n := 159) (i := 6) (by decide +kernel) rfl ?_
        refine he_iconst (n := 160) (c := 0) (by decide +kernel) (by decide) ?_
        intro c159 hc159
        refine he_istore (n := 162) (i := 7) (by decide +kernel) rfl ?_
        refine he_iload (n := 164) (i := 7) (by decide +kernel) rfl ?_
        refine he_iload (n := 165) (i := 3) (by decide +kernel) rfl ?_
        by_cases h165 : x3.toInt ≤ c159.toInt
        · skip
          refine he_cmpge_t (n := 168) (t := 197) (by decide +kernel) (by omega) ?_
          refine he_iload (n := 199) (i := 6) (by decide +kernel) rfl ?_
          refine he_retz (by decide +kernel) (by omega) ?_
          exact K2 M4 _ 0 a4 o hx0 (.inl rfl) hV4 (by omega) (fun b n1 _ => hF4 b n1)
        · skip
          refine he_cmpge_f (n := 168) (t := 197) (by decide +kernel) (by omega) ?_
          refine he_iload (n := 170) (i := 6) (by decide +kernel) rfl ?_
          refine he_ifeq_t (n := 173) (t := 197) (by decide +kernel) (by omega) ?_
          refine he_iload (n := 199) (i := 6) (by decide +kernel) rfl ?_
          refine he_retz (by decide +kernel) (by omega) ?_
          exact K2 M4 _ 0 a4 o hx0 (.inl rfl) hV4 (by omega) (fun b n1 _ => hF4 b n1)
    · obtain rfl : sh = 1 := by omega
      refine he_ifne_t (n := 143) (t := 156) (by decide +kernel) (by omega) ?_
      refine he_iconst (n := 157) (c := 0) (by decide +kernel) (by decide) ?_
      intro c156 hc156
      refine he_istore (n := 159) (i := 6) (by decide +kernel) rfl ?_
      refine he_iconst (n := 160) (c := 0) (by decide +kernel) (by decide) ?_
      intro c159 hc159
      refine he_istore (n := 162) (i := 7) (by decide +kernel) rfl ?_
      refine he_iload (n := 164) (i := 7) (by decide +kernel) rfl ?_
      refine he_iload (n := 165) (i := 3) (by decide +kernel) rfl ?_
      by_cases h165 : x3.toInt ≤ c159.toInt
      · skip
        refine he_cmpge_t (n := 168) (t := 197) (by decide +kernel) (by omega) ?_
        refine he_iload (n := 199) (i := 6) (by decide +kernel) rfl ?_
        refine he_retz (by decide +kernel) (by omega) ?_
        exact K2 M4 _ 1 a4 o (k1 rfl) (.inr rfl) hV4 (by omega) (fun b n1 _ => hF4 b n1)
      · skip
        refine he_cmpge_f (n := 168) (t := 197) (by decide +kernel) (by omega) ?_
        refine he_iload (n := 170) (i := 6) (by decide +kernel) rfl ?_
        refine he_ifeq_t (n := 173) (t := 197) (by decide +kernel) (by omega) ?_
        refine he_iload (n := 199) (i := 6) (by decide +kernel) rfl ?_
        refine he_retz (by decide +kernel) (by omega) ?_
        exact K2 M4 _ 1 a4 o (k1 rfl) (.inr rfl) hV4 (by omega) (fun b n1 _ => hF4 b n1)
  -- the distance's sign is there
  have r79 : ∀ (sh : Int) (M3 : Nat → mq_C) (x2 x3 dd : Int32) (a3 n : Nat), (sh = 0 ∨ sh = 1) → x3.toInt = (n : Int) → n ≤ 258 → -1 ≤ dd.toInt → dd.toInt ≤ 319 → yV E sh M0 M3 a3 o → (∀ b, b ≠ 234 → M3 b = M b) → ((dd.toInt = -1 ∨ sh = 1) → xcp fD nD E (xB M0 252) s a o = none) → (sh = 0 → 0 ≤ dd.toInt → xcp fD nD E (xB M0 252) s a o = (match xdis E (xB M0 252) dd.toInt.toNat a3 with
      | none => none
      | some (far, a4) => if far ≤ o.length ∧ n ≤ 200 - o.length then some (a4, xcb far n o) else none)) → mq_R mq_PP (d + 2) 118 79 [some (.ref 234), some (.int x1), some (.int x2), some (.int x3), none, none, none, none] [.int dd] (M3, z, u) Q := by
    intro sh M3 x2 x3 dd a3 n hsh h3 hn2 d1 d2 hV3 hF3 k1 k0
    have hF3' : ∀ b, b ≠ 234 → b ≠ 253 → M3 b = M b := fun b n1 _ => hF3 b n1
    refine he_istore (n := 81) (i := 4) (by decide +kernel) rfl ?_
    refine he_iload (n := 83) (i := 4) (by decide +kernel) rfl ?_
    by_cases h83 : dd.toInt < 0
    · skip
      refine he_iflt_t (n := 86) (t := 93) (by decide +kernel) (by omega) ?_
      refine he_iconst (n := 94) (c := 0) (by decide +kernel) (by decide) ?_
      intro c93 hc93
      refine he_retz (by decide +kernel) (by omega) ?_
      exact K2 M3 _ sh a3 o (k1 (.inl (by omega))) hsh hV3 (by omega) hF3'
    · skip
      refine he_iflt_f (n := 86) (t := 93) (by decide +kernel) (by omega) ?_
      refine he_iload (n := 88) (i := 4) (by decide +kernel) rfl ?_
      refine he_iconst (n := 90) (c := 29) (by decide +kernel) (by decide) ?_
      intro c88 hc88
      by_cases h90 : dd.toInt ≤ 29
      rotate_left
      · skip
        refine he_cmple_f (n := 93) (t := 95) (by decide +kernel) (by omega) ?_
        refine he_iconst (n := 94) (c := 0) (by decide +kernel) (by decide) ?_
        intro c93 hc93
        refine he_retz (by decide +kernel) (by omega) ?_
        refine K2 M3 _ sh a3 o ?_ hsh hV3 (by omega) hF3'
        rcases hsh with e | e
        · rw [k0 e (by omega)]
          unfold xdis
          rw [if_neg (by omega), if_neg (by omega)]
        · exact k1 (.inr e)
      refine he_cmple_t (n := 93) (t := 95) (by decide +kernel) (by omega) ?_
      refine he_iload (n := 97) (i := 4) (by decide +kernel) rfl ?_
      refine he_iconst (n := 98) (c := 4) (by decide +kernel) (by decide) ?_
      intro c97 hc97
      by_cases h98 : dd.toInt < 4
      · skip
        refine he_cmpge_f (n := 101) (t := 108) (by decide +kernel) (by omega) ?_
        refine he_iload (n := 103) (i := 4) (by decide +kernel) rfl ?_
        refine he_iconst (n := 104) (c := 1) (by decide +kernel) (by decide) ?_
        intro c103 hc103
        refine he_iadd (n := 105) (by decide +kernel) (by omega) (by omega) ?_
        intro v104 hv104
        refine he_goto (t := 134) (by decide +kernel) ?_
        refine r134 sh M3 x2 x3 dd _ a3 n (dd.toInt.toNat + 1) hsh h3 hn2 (by omega) (by omega) (by omega) hV3 hF3 (fun e => k1 (.inr e)) (fun e => ?_)
        rw [k0 e (by omega)]
        unfold xdis
        rw [if_pos (by omega)]
      · skip
        refine he_cmpge_t (n := 101) (t := 108) (by decide +kernel) (by omega) ?_
        refine he_iconst (n := 109) (c := 1) (by decide +kernel) (by decide) ?_
        intro c108 hc108
        refine he_iconst (n := 110) (c := 2) (by decide +kernel) (by decide) ?_
        intro c109 hc109
        refine he_iload (n := 112) (i := 4) (by decide +kernel) rfl ?_
        refine he_iconst (n := 113) (c := 2) (by decide +kernel) (by decide) ?_
        intro c112 hc112
        refine xe_rem (c := 2) (n := 114) (by decide +kernel) hc112 (by decide) (by omega) ?_
        intro v113 hv113
        refine he_iadd (n := 115) (by decide +kernel) (by omega) (by omega) ?_
        intro v114 hv114
        refine he_iload (n := 117) (i := 4) (by decide +kernel) rfl ?_
        refine he_iconst (n := 118) (c := 2) (by decide +kernel) (by decide) ?_
        intro c117 hc117
        refine xe_div (c := 2) (n := 119) (by decide +kernel) hc117 (by decide) (by omega) ?_
        intro v118 hv118
        refine he_iconst (n := 120) (c := 1) (by decide +kernel) (by decide) ?_
        intro c119 hc119
        refine he_isub (n := 121) (by decide +kernel) (by omega) (by omega) ?_
        intro v120 hv120
        refine he_ex2 (o := 15) (n := 122) (by decide +kernel) rfl ?_
        intro v121 hv121
        have ev121 : v121 = v114 <<< (v120 &&& 31) := hv121
        have bv121 := mz_i32 v121
        have hsh2 := xe_shm (x := v114) (k := dd.toInt.toNat / 2 - 1) (by omega) (by omega) (by omega) (by omega) ev121
        refine he_iadd (n := 123) (by decide +kernel) (by omega) (by omega) ?_
        intro v122 hv122
        refine he_aload (n := 124) (i := 0) (by decide +kernel) rfl ?_
        refine he_iload (n := 126) (i := 4) (by decide +kernel) rfl ?_
        refine he_iconst (n := 127) (c := 2) (by decide +kernel) (by decide) ?_
        intro c126 hc126
        refine xe_div (c := 2) (n := 128) (by decide +kernel) hc126 (by decide) (by omega) ?_
        intro v127 hv127
        refine he_iconst (n := 129) (c := 1) (by decide +kernel) (by decide) ?_
        intro c128 hc128
        refine he_isub (n := 130) (by decide +kernel) (by omega) (by omega) ?_
        intro v129 hv129
        refine he_v1 (n := 133) (j := 109) (ci := 9) (mx := 4) (ns := [5157, 5159, 55, 146]) (by decide +kernel) ((hb_kd (a := 234) hV3.1.1 rfl).trans rfl) (by show 1 ≤ 8; omega) (by show 2 ≤ 4; omega) ?_
        rw [mq_e109]
        have e114 : v114.toInt.toNat = 2 + dd.toInt.toNat % 2 := by omega
        rw [e114] at hsh2
        have hpw : (2 + dd.toInt.toNat % 2) * 2 ^ (dd.toInt.toNat / 2 - 1) ≤ 3 * 8192 := Nat.mul_le_mul (by omega) (Nat.pow_le_pow_right (by decide) (show dd.toInt.toNat / 2 - 1 ≤ 13 by omega))
        have hxb := xb_b (B := (xB M0 252)) (fun i => xB_01 _) a3 (dd.toInt.toNat / 2 - 1)
        have hpq : (2 : Int) ^ (dd.toInt.toNat / 2 - 1) ≤ 2 ^ 13 := xe_pow (by omega)
        have hpq' : (2 : Int) ^ 13 = 8192 := by decide
        have hxd : xdis E (xB M0 252) dd.toInt.toNat a3 = if a3 + (dd.toInt.toNat / 2 - 1) ≤ E then some (1 + (2 + dd.toInt.toNat % 2) * 2 ^ (dd.toInt.toNat / 2 - 1) + (xb (xB M0 252) a3 (dd.toInt.toNat / 2 - 1)).toNat, a3 + (dd.toInt.toNat / 2 - 1)) else none := by
          unfold xdis
          rw [if_neg (by omega), if_pos (by omega)]
        refine ym_num (k := dd.toInt.toNat / 2 - 1) hE (by omega) (by omega) hV3 ?_ ?_
        · intro M4 r hEk hV4 hr hF4
          show mq_R mq_PP (d + 2) 118 133 _ [.int r, .int v122] (M4, z, u) Q
          refine he_iadd (n := 134) (by decide +kernel) (by omega) (by omega) ?_
          intro v133 hv133
          refine r134 sh M4 x2 x3 dd _ _ n (1 + (2 + dd.toInt.toNat % 2) * 2 ^ (dd.toInt.toNat / 2 - 1) + (xb (xB M0 252) a3 (dd.toInt.toNat / 2 - 1)).toNat) hsh h3 hn2 (by omega) (by omega) (by omega) hV4 (fun b hb => (hF4 b hb).trans (hF3 b hb)) (fun e => k1 (.inr e)) (fun e => ?_)
          rw [k0 e (by omega), hxd, if_pos hEk]
        · intro M4 r a4 hEk hV4 hr0 hr1 hF4
          show mq_R mq_PP (d + 2) 118 133 _ [.int r, .int v122] (M4, z, u) Q
          refine he_iadd (n := 134) (by decide +kernel) (by omega) (by omega) ?_
          intro v133 hv133
          refine r134 1 M4 x2 x3 dd _ a4 n (1 + (2 + dd.toInt.toNat % 2) * 2 ^ (dd.toInt.toNat / 2 - 1) + r.toInt.toNat) (.inr rfl) h3 hn2 (by omega) (by omega) (by omega) hV4 (fun b hb => (hF4 b hb).trans (hF3 b hb)) (fun _ => ?_) (fun e => absurd e (by decide))
          rcases hsh with e | e
          · rw [k0 e (by omega), hxd, if_neg hEk]
          · exact k1 (.inr e)
  -- the count is there
  have r73 : ∀ (sh : Int) (M2 : Nat → mq_C) (x2 nn : Int32) (a2 n : Nat), (sh = 0 ∨ sh = 1) → nn.toInt = (n : Int) → n ≤ 258 → yV E sh M0 M2 a2 o → (∀ b, b ≠ 234 → M2 b = M b) → (sh = 1 → xcp fD nD E (xB M0 252) s a o = none) → (sh = 0 → xcp fD nD E (xB M0 252) s a o = (match xsg fD nD E (xB M0 252) a2 with
      | none => none
      | some (dd, a3) => match xdis E (xB M0 252) dd.toNat a3 with
        | none => none
        | some (far, a4) => if far ≤ o.length ∧ n ≤ 200 - o.length then some (a4, xcb far n o) else none)) → mq_R mq_PP (d + 2) 118 73 [some (.ref 234), some (.int x1), some (.int x2), none, none, none, none, none] [.int nn] (M2, z, u) Q := by
    intro sh M2 x2 nn a2 n hsh h3 hn2 hV2 hF2 k1 k0
    refine he_istore (n := 74) (i := 3) (by decide +kernel) rfl ?_
    refine he_aload (n := 75) (i := 0) (by decide +kernel) rfl ?_
    refine he_iconst (n := 76) (c := 1) (by decide +kernel) (by decide) ?_
    intro c75 hc75
    refine he_v1 (n := 79) (j := 113) (ci := 9) (mx := 7) (ns := [5183, 5185, 61, 163]) (by decide +kernel) ((hb_kd (a := 234) hV2.1.1 rfl).trans rfl) (by show 0 ≤ 8; omega) (by show 2 ≤ 7; omega) ?_
    rw [mq_e113]
    rcases hsh with e | e
    · subst e
      have hx := k0 rfl
      refine ym_sign (wn := 1) hE hn (by decide) (by omega) hV2 (yT_fr hT (hF2 255 (by decide)) (hF2 256 (by decide))) ?_ ?_
      · intro M3 dd a3 hd hV3 hF3
        show mq_R mq_PP (d + 2) 118 79 _ [.int dd] (M3, z, u) Q
        have hdr := xs_r 15 1 0 0 0 a2 hd
        rw [hd] at hx
        exact r79 0 M3 x2 nn dd a3 n (.inl rfl) h3 hn2 (by omega) (by omega) hV3 (fun b hb => (hF3 b hb).trans (hF2 b hb)) (fun h => by omega) (fun _ _ => hx)
      · intro M3 dd sh3 a3 hd hV3 hs3 hd1 hd2 hd3 hF3
        show mq_R mq_PP (d + 2) 118 79 _ [.int dd] (M3, z, u) Q
        rw [hd] at hx
        exact r79 sh3 M3 x2 nn dd a3 n hs3 h3 hn2 hd2 hd3 hV3 (fun b hb => (hF3 b hb).trans (hF2 b hb)) (fun _ => hx) (fun h1 h2 => by omega)
    · subst e
      refine ym_sign_s hV2 ?_
      intro dd hd
      show mq_R mq_PP (d + 2) 118 79 _ [.int dd] (M2, z, u) Q
      exact r79 1 M2 x2 nn dd a2 n (.inr rfl) h3 hn2 (by omega) (by omega) hV2 hF2 (fun _ => k1 rfl) (fun h => absurd h (by decide))
  refine he_iload (n := 1) (i := 1) (by decide +kernel) rfl ?_
  refine he_iconst (n := 4) (c := 265) (by decide +kernel) (by decide) ?_
  intro c1 hc1
  by_cases h4 : s ≤ 264
  · skip
    refine he_cmplt_t (n := 7) (t := 14) (by decide +kernel) (by omega) ?_
    refine he_iconst (n := 15) (c := 0) (by decide +kernel) (by decide) ?_
    intro c14 hc14
    refine he_goto (t := 25) (by decide +kernel) ?_
    refine he_istore (n := 26) (i := 2) (by decide +kernel) rfl ?_
    refine he_iload (n := 27) (i := 1) (by decide +kernel) rfl ?_
    refine he_iconst (n := 30) (c := 285) (by decide +kernel) (by decide) ?_
    intro c27 hc27
    refine he_cmpne_t (n := 33) (t := 39) (by decide +kernel) (by omega) ?_
    refine he_iload (n := 40) (i := 1) (by decide +kernel) rfl ?_
    refine he_iconst (n := 43) (c := 265) (by decide +kernel) (by decide) ?_
    intro c40 hc40
    refine he_cmpge_f (n := 46) (t := 54) (by decide +kernel) (by omega) ?_
    refine he_iload (n := 47) (i := 1) (by decide +kernel) rfl ?_
    refine he_iconst (n := 50) (c := 254) (by decide +kernel) (by decide) ?_
    intro c47 hc47
    refine he_isub (n := 51) (by decide +kernel) (by omega) (by omega) ?_
    intro v50 hv50
    refine he_goto (t := 73) (by decide +kernel) ?_
    refine r73 0 M _ _ a (s - 254) (.inl rfl) (by omega) (by omega) hV (fun _ _ => rfl) (fun e => absurd e (by decide)) (fun _ => ?_)
    have hxl : xlen E (xB M0 252) s a = some (s - 254, a) := by
      unfold xlen
      rw [if_pos h4]
    unfold xcp
    rw [hxl]
  · skip
    refine he_cmplt_f (n := 7) (t := 14) (by decide +kernel) (by omega) ?_
    refine he_iload (n := 8) (i := 1) (by decide +kernel) rfl ?_
    refine he_iconst (n := 11) (c := 285) (by decide +kernel) (by decide) ?_
    intro c8 hc8
    by_cases h11 : s = 285
    · skip
      refine he_cmpne_f (n := 14) (t := 18) (by decide +kernel) (by omega) ?_
      refine he_iconst (n := 15) (c := 0) (by decide +kernel) (by decide) ?_
      intro c14 hc14
      refine he_goto (t := 25) (by decide +kernel) ?_
      refine he_istore (n := 26) (i := 2) (by decide +kernel) rfl ?_
      refine he_iload (n := 27) (i := 1) (by decide +kernel) rfl ?_
      refine he_iconst (n := 30) (c := 285) (by decide +kernel) (by decide) ?_
      intro c27 hc27
      refine he_cmpne_f (n := 33) (t := 39) (by decide +kernel) (by omega) ?_
      refine he_iconst (n := 36) (c := 258) (by decide +kernel) (by decide) ?_
      intro c33 hc33
      refine he_goto (t := 73) (by decide +kernel) ?_
      refine r73 0 M _ _ a 258 (.inl rfl) (by omega) (by omega) hV (fun _ _ => rfl) (fun e => absurd e (by decide)) (fun _ => ?_)
      have hxl : xlen E (xB M0 252) s a = some (258, a) := by
        unfold xlen
        rw [if_neg h4, if_neg (by omega), if_pos h11]
      unfold xcp
      rw [hxl]
    · skip
      refine he_cmpne_t (n := 14) (t := 18) (by decide +kernel) (by omega) ?_
      refine he_iload (n := 19) (i := 1) (by decide +kernel) rfl ?_
      refine he_iconst (n := 22) (c := 261) (by decide +kernel) (by decide) ?_
      intro c19 hc19
      refine he_isub (n := 23) (by decide +kernel) (by omega) (by omega) ?_
      intro v22 hv22
      refine he_iconst (n := 24) (c := 4) (by decide +kernel) (by decide) ?_
      intro c23 hc23
      refine xe_div (c := 4) (n := 25) (by decide +kernel) hc23 (by decide) (by omega) ?_
      intro v24 hv24
      refine he_istore (n := 26) (i := 2) (by decide +kernel) rfl ?_
      refine he_iload (n := 27) (i := 1) (by decide +kernel) rfl ?_
      refine he_iconst (n := 30) (c := 285) (by decide +kernel) (by decide) ?_
      intro c27 hc27
      refine he_cmpne_t (n := 33) (t := 39) (by decide +kernel) (by omega) ?_
      refine he_iload (n := 40) (i := 1) (by decide +kernel) rfl ?_
      refine he_iconst (n := 43) (c := 265) (by decide +kernel) (by decide) ?_
      intro c40 hc40
      refine he_cmpge_t (n := 46) (t := 54) (by decide +kernel) (by omega) ?_
      refine he_iconst (n := 55) (c := 3) (by decide +kernel) (by decide) ?_
      intro c54 hc54
      refine he_iconst (n := 56) (c := 4) (by decide +kernel) (by decide) ?_
      intro c55 hc55
      refine he_iload (n := 57) (i := 1) (by decide +kernel) rfl ?_
      refine he_iconst (n := 60) (c := 261) (by decide +kernel) (by decide) ?_
      intro c57 hc57
      refine he_isub (n := 61) (by decide +kernel) (by omega) (by omega) ?_
      intro v60 hv60
      refine he_iconst (n := 62) (c := 4) (by decide +kernel) (by decide) ?_
      intro c61 hc61
      refine xe_rem (c := 4) (n := 63) (by decide +kernel) hc61 (by decide) (by omega) ?_
      intro v62 hv62
      refine he_iadd (n := 64) (by decide +kernel) (by omega) (by omega) ?_
      intro v63 hv63
      refine he_iload (n := 65) (i := 2) (by decide +kernel) rfl ?_
      refine he_ex2 (o := 15) (n := 66) (by decide +kernel) rfl ?_
      intro v65 hv65
      have ev65 : v65 = v63 <<< (v24 &&& 31) := hv65
      have bv65 := mz_i32 v65
      have hsh := xe_shm (x := v63) (k := (s - 261) / 4) (by omega) (by omega) (by omega) (by omega) ev65
      refine he_iadd (n := 67) (by decide +kernel) (by omega) (by omega) ?_
      intro v66 hv66
      refine he_aload (n := 68) (i := 0) (by decide +kernel) rfl ?_
      refine he_iload (n := 69) (i := 2) (by decide +kernel) rfl ?_
      refine he_v1 (n := 72) (j := 109) (ci := 9) (mx := 4) (ns := [5157, 5159, 55, 146]) (by decide +kernel) ((hb_kd (a := 234) hV.1.1 rfl).trans rfl) (by show 1 ≤ 8; omega) (by show 2 ≤ 4; omega) ?_
      rw [mq_e109]
      have e63 : v63.toInt.toNat = 4 + (s - 261) % 4 := by omega
      rw [e63] at hsh
      have hpw : (4 + (s - 261) % 4) * 2 ^ ((s - 261) / 4) ≤ 7 * 32 := Nat.mul_le_mul (by omega) (Nat.pow_le_pow_right (by decide) (show (s - 261) / 4 ≤ 5 by omega))
      have hxb := xb_b (B := (xB M0 252)) (fun i => xB_01 _) a ((s - 261) / 4)
      have h258 : (4 + (s - 261) % 4) * 2 ^ ((s - 261) / 4) + (xb (xB M0 252) a ((s - 261) / 4)).toNat ≤ 255 := xlen_b hxb.2 (by omega) (by omega)
      have hxl : xlen E (xB M0 252) s a = if a + (s - 261) / 4 ≤ E then some (3 + (4 + (s - 261) % 4) * 2 ^ ((s - 261) / 4) + (xb (xB M0 252) a ((s - 261) / 4)).toNat, a + (s - 261) / 4) else none := by
        unfold xlen
        rw [if_neg h4, if_pos (by omega)]
      refine ym_num (k := (s - 261) / 4) hE (by omega) (by omega) hV ?_ ?_
      · intro M2 r hEk hV2 hr hF2
        show mq_R mq_PP (d + 2) 118 72 _ [.int r, .int v66] (M2, z, u) Q
        refine he_iadd (n := 73) (by decide +kernel) (by omega) (by omega) ?_
        intro v72 hv72
        refine r73 0 M2 _ _ _ (3 + (4 + (s - 261) % 4) * 2 ^ ((s - 261) / 4) + (xb (xB M0 252) a ((s - 261) / 4)).toNat) (.inl rfl) (by omega) (by omega) hV2 hF2 (fun e => absurd e (by decide)) (fun _ => ?_)
        unfold xcp
        rw [hxl, if_pos hEk]
      · intro M2 r a2 hEk hV2 hr0 hr1 hF2
        show mq_R mq_PP (d + 2) 118 72 _ [.int r, .int v66] (M2, z, u) Q
        have h258' : (4 + (s - 261) % 4) * 2 ^ ((s - 261) / 4) + r.toInt.toNat ≤ 255 := xlen_b hr1 (by omega) (by omega)
        refine he_iadd (n := 73) (by decide +kernel) (by omega) (by omega) ?_
        intro v72 hv72
        refine r73 1 M2 _ _ a2 (3 + (4 + (s - 261) % 4) * 2 ^ ((s - 261) / 4) + r.toInt.toNat) (.inr rfl) (by omega) (by omega) hV2 hF2 (fun _ => ?_) (fun e => absurd e (by decide))
        unfold xcp
        rw [hxl, if_neg hEk]
