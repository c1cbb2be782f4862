/-! finish of the model, whole. -/
theorem hn_f131 {d z u s : Nat} {Q : (Option Value ⊕ Nat) → mq_S → Prop} {M : Nat → mq_C} {x1 : Int32} (hs : s < 4) (p1 : x1.toInt = (s : Int)) (r19 : 0 ≤ hv M 234 19) (r19' : hv M 234 19 ≤ 6) (r17 : 0 ≤ hv M 234 17) (tot : hv M 234 17 + hb_sum (hn_g M) 6 + 4 ≤ 240) {l2 l3 l4 : Int32} {sz : Int} (h0 : 0 ≤ sz) (h1 : sz + 11 ≤ 240) (i0 : 0 ≤ l2.toInt) (i1 : l2.toInt ≤ 30)
    (K : ∀ (Mc : Nat → mq_C) (l2' : Int32), hn_F s (sz + 11) M Mc → l2'.toInt = l2.toInt + 6 → mq_R mq_PP (d + 2) 127 72 [some (.ref 234), some (.int x1), some (.int l2'), some (.int l3), some (.int l4)] [] (Mc, z, u) Q) {Mc : Nat → mq_C} (h : hn_F s sz M Mc) : mq_R mq_PP (d + 2) 127 131 [some (.ref 234), some (.int x1), some (.int l2), some (.int l3), some (.int l4)] [] (Mc, z, u) Q := by
  refine he_aload (n := 132) (i := 0) (by decide +kernel) rfl ?_
  refine he_iload (n := 133) (i := 1) (by decide +kernel) rfl ?_
  refine he_aload (n := 134) (i := 0) (by decide +kernel) rfl ?_
  refine he_getr (n := 137) (ci := 9) (j := 20) (ns := [4197, 59]) (b := 251) h.1 (by decide +kernel) rfl rfl (by decide +kernel) ?_
  refine he_iload (n := 138) (i := 2) (by decide +kernel) rfl ?_
  refine he_iconst (n := 139) (c := 1) (by decide +kernel) (by decide) ?_
  intro c138 hc138
  refine he_iadd (n := 140) (by decide +kernel) (by omega) (by omega) ?_
  intro v139 hv139
  refine hb_ld (n := 141) (kind := 64) h.1 (by decide +kernel) rfl rfl (.inl rfl) (by omega) (show _ < (36 : Int) by omega) hb_at1 ?_
  intro v140 hv140 lv140 uv140
  refine he_v2 (n := 144) (j := 125) (ci := 9) (mx := 3) (ns := [5210, 5212, 65, 206]) (by decide +kernel) ((hb_kd (a := 234) h.1 rfl).trans rfl) (by decide) (by show 3 ≤ 3; omega) ?_
  rw [mq_e125]
  refine hn_add h hs p1 (by omega) (by omega) ?_
  intro Ma ha
  show mq_R mq_PP (d + 2) 127 144 _ [] (Ma, z, u) Q
  refine he_aload (n := 145) (i := 0) (by decide +kernel) rfl ?_
  refine he_iload (n := 146) (i := 1) (by decide +kernel) rfl ?_
  refine he_aload (n := 147) (i := 0) (by decide +kernel) rfl ?_
  refine he_getr (n := 150) (ci := 9) (j := 20) (ns := [4197, 59]) (b := 251) ha.1 (by decide +kernel) rfl rfl (by decide +kernel) ?_
  refine he_iload (n := 151) (i := 2) (by decide +kernel) rfl ?_
  refine he_iconst (n := 152) (c := 2) (by decide +kernel) (by decide) ?_
  intro c151 hc151
  refine he_iadd (n := 153) (by decide +kernel) (by omega) (by omega) ?_
  intro v152 hv152
  refine hb_ld (n := 154) (kind := 64) ha.1 (by decide +kernel) rfl rfl (.inl rfl) (by omega) (show _ < (36 : Int) by omega) hb_at1 ?_
  intro v153 hv153 lv153 uv153
  refine he_v2 (n := 157) (j := 126) (ci := 9) (mx := 3) (ns := [5214, 5216, 66, 214]) (by decide +kernel) ((hb_kd (a := 234) ha.1 rfl).trans rfl) (by decide) (by show 3 ≤ 3; omega) ?_
  rw [mq_e126]
  refine hn_add2 ha hs p1 (by omega) (by omega) ?_
  intro Mb hb
  show mq_R mq_PP (d + 2) 127 157 _ [] (Mb, z, u) Q
  refine he_aload (n := 158) (i := 0) (by decide +kernel) rfl ?_
  refine he_iload (n := 159) (i := 1) (by decide +kernel) rfl ?_
  refine he_aload (n := 160) (i := 0) (by decide +kernel) rfl ?_
  refine he_getr (n := 163) (ci := 9) (j := 20) (ns := [4197, 59]) (b := 251) hb.1 (by decide +kernel) rfl rfl (by decide +kernel) ?_
  refine he_iload (n := 164) (i := 2) (by decide +kernel) rfl ?_
  refine he_iconst (n := 165) (c := 2) (by decide +kernel) (by decide) ?_
  intro c164 hc164
  refine he_iadd (n := 166) (by decide +kernel) (by omega) (by omega) ?_
  intro v165 hv165
  refine hb_ld (n := 167) (kind := 64) hb.1 (by decide +kernel) rfl rfl (.inl rfl) (by omega) (show _ < (36 : Int) by omega) hb_at1 ?_
  intro v166 hv166 lv166 uv166
  refine he_iconst (n := 169) (c := 16) (by decide +kernel) (by decide) ?_
  intro c167 hc167
  refine he_any2 (o := 16) (n := 170) (by decide +kernel) rfl ?_
  intro v169
  have bv169 := mz_i32 v169
  refine he_v2 (n := 173) (j := 126) (ci := 9) (mx := 3) (ns := [5214, 5216, 66, 214]) (by decide +kernel) ((hb_kd (a := 234) hb.1 rfl).trans rfl) (by decide) (by show 3 ≤ 3; omega) ?_
  rw [mq_e126]
  refine hn_add2 hb hs p1 (by omega) (by omega) ?_
  intro Md hdd
  show mq_R mq_PP (d + 2) 127 173 _ [] (Md, z, u) Q
  refine he_aload (n := 174) (i := 0) (by decide +kernel) rfl ?_
  refine he_iload (n := 175) (i := 1) (by decide +kernel) rfl ?_
  refine he_aload (n := 176) (i := 0) (by decide +kernel) rfl ?_
  refine he_getr (n := 179) (ci := 9) (j := 20) (ns := [4197, 59]) (b := 251) hdd.1 (by decide +kernel) rfl rfl (by decide +kernel) ?_
  refine he_iload (n := 180) (i := 2) (by decide +kernel) rfl ?_
  refine he_iconst (n := 181) (c := 3) (by decide +kernel) (by decide) ?_
  intro c180 hc180
  refine he_iadd (n := 182) (by decide +kernel) (by omega) (by omega) ?_
  intro v181 hv181
  refine hb_ld (n := 183) (kind := 64) hdd.1 (by decide +kernel) rfl rfl (.inl rfl) (by omega) (show _ < (36 : Int) by omega) hb_at1 ?_
  intro v182 hv182 lv182 uv182
  refine he_v2 (n := 186) (j := 126) (ci := 9) (mx := 3) (ns := [5214, 5216, 66, 214]) (by decide +kernel) ((hb_kd (a := 234) hdd.1 rfl).trans rfl) (by decide) (by show 3 ≤ 3; omega) ?_
  rw [mq_e126]
  refine hn_add2 hdd hs p1 (by omega) (by omega) ?_
  intro Me he
  show mq_R mq_PP (d + 2) 127 186 _ [] (Me, z, u) Q
  refine he_aload (n := 187) (i := 0) (by decide +kernel) rfl ?_
  refine he_iload (n := 188) (i := 1) (by decide +kernel) rfl ?_
  refine he_aload (n := 189) (i := 0) (by decide +kernel) rfl ?_
  refine he_getr (n := 192) (ci := 9) (j := 20) (ns := [4197, 59]) (b := 251) he.1 (by decide +kernel) rfl rfl (by decide +kernel) ?_
  refine he_iload (n := 193) (i := 2) (by decide +kernel) rfl ?_
  refine he_iconst (n := 194) (c := 4) (by decide +kernel) (by decide) ?_
  intro c193 hc193
  refine he_iadd (n := 195) (by decide +kernel) (by omega) (by omega) ?_
  intro v194 hv194
  refine hb_ld (n := 196) (kind := 64) he.1 (by decide +kernel) rfl rfl (.inl rfl) (by omega) (show _ < (36 : Int) by omega) hb_at1 ?_
  intro v195 hv195 lv195 uv195
  refine he_v2 (n := 199) (j := 126) (ci := 9) (mx := 3) (ns := [5214, 5216, 66, 214]) (by decide +kernel) ((hb_kd (a := 234) he.1 rfl).trans rfl) (by decide) (by show 3 ≤ 3; omega) ?_
  rw [mq_e126]
  refine hn_add2 he hs p1 (by omega) (by omega) ?_
  intro Mf hf
  show mq_R mq_PP (d + 2) 127 199 _ [] (Mf, z, u) Q
  refine he_aload (n := 200) (i := 0) (by decide +kernel) rfl ?_
  refine he_iload (n := 201) (i := 1) (by decide +kernel) rfl ?_
  refine he_aload (n := 202) (i := 0) (by decide +kernel) rfl ?_
  refine he_getr (n := 205) (ci := 9) (j := 20) (ns := [4197, 59]) (b := 251) hf.1 (by decide +kernel) rfl rfl (by decide +kernel) ?_
  refine he_iload (n := 206) (i := 2) (by decide +kernel) rfl ?_
  refine he_iconst (n := 207) (c := 5) (by decide +kernel) (by decide) ?_
  intro c206 hc206
  refine he_iadd (n := 208) (by decide +kernel) (by omega) (by omega) ?_
  intro v207 hv207
  refine hb_ld (n := 209) (kind := 64) hf.1 (by decide +kernel) rfl rfl (.inl rfl) (by omega) (show _ < (36 : Int) by omega) hb_at1 ?_
  intro v208 hv208 lv208 uv208
  refine he_v2 (n := 212) (j := 126) (ci := 9) (mx := 3) (ns := [5214, 5216, 66, 214]) (by decide +kernel) ((hb_kd (a := 234) hf.1 rfl).trans rfl) (by decide) (by show 3 ≤ 3; omega) ?_
  rw [mq_e126]
  refine hn_add2 hf hs p1 (by omega) (by omega) ?_
  intro Mg hg
  show mq_R mq_PP (d + 2) 127 212 _ [] (Mg, z, u) Q
  refine he_iinc (n := 215) (i := 2) (c := 6) (L' := fun v => [some (.ref (234)), some (.int x1), some (.int v), some (.int l3), some (.int l4)]) (by decide +kernel) (by decide) rfl (fun _ => rfl) (by omega) (by omega) ?_
  intro i212 hi212
  refine he_goto (t := 72) (by decide +kernel) ?_
  refine K _ _ ?_ (by omega)
  rw [show sz + 11 = sz + 1 + 1 + 1 + 1 + 1 + 1 + 1 + 1 + 1 + 1 + 1 by omega]
  exact hg
theorem hn_f72 {d z u s : Nat} {Q : (Option Value ⊕ Nat) → mq_S → Prop} {M : Nat → mq_C} {x1 : Int32} (hs : s < 4) (p1 : x1.toInt = (s : Int)) (r19 : 0 ≤ hv M 234 19) (r19' : hv M 234 19 ≤ 6) (r17 : 0 ≤ hv M 234 17) (tot : hv M 234 17 + hb_sum (hn_g M) 6 + 4 ≤ 240)
    (K : ∀ Mc : Nat → mq_C, hn_F s (hv M 234 17 + hb_sum (hn_g M) 6 + 4) M Mc → ∀ (l2 : Int32) (o3 o4 : Option Value), mq_R mq_PP (d + 2) 127 243 [some (.ref 234), some (.int x1), some (.int l2), o3, o4] [] (Mc, z, u) Q) : ∀ (m : Nat) (Mc : Nat → mq_C) (l2 : Int32) (o3 o4 : Option Value) (e : Nat), (e : Int) + (m : Int) = hv M 234 19 → l2.toInt = 6 * (e : Int) → hn_F s (hv M 234 17 + hb_sum (hn_g M) e) M Mc → mq_R mq_PP (d + 2) 127 72 [some (.ref 234), some (.int x1), some (.int l2), o3, o4] [] (Mc, z, u) Q := by
  intro m
  induction m with
  | zero =>
    intro Mc l2 o3 o4 e e1 e2 h
    refine he_iload (n := 73) (i := 2) (by decide +kernel) rfl ?_
    refine he_iconst (n := 75) (c := 6) (by decide +kernel) (by decide) ?_
    intro c73 hc73
    refine he_aload (n := 76) (i := 0) (by decide +kernel) rfl ?_
    refine hb_gfd (n := 79) (ci := 9) (j := 19) (ns := [4196, 197]) h.1 (by decide +kernel) rfl rfl (by decide) rfl ?_
    intro v76 hv76 lv76 uv76
    have q76 : v76.toInt = hv M 234 19 := by rw [← hv76, hb_vc (h.2.1 234 (by decide) (by decide))]
    refine he_imul (n := 80) (p := 6 * v76.toInt) (by decide +kernel) (by rw [hc73]) (by omega) (by omega) ?_
    intro v79 hv79
    refine he_cmpge_t (n := 83) (t := 218) (by decide +kernel) (by omega) ?_
    have t2 := hn_tail (f := hn_g M) (c := e) (fun i he => by unfold hn_g; rw [if_neg (by omega)]) (6 - e)
    rw [show e + (6 - e) = 6 by omega] at t2
    rw [← t2] at h
    exact hn_f218 hs p1 r19 r19' r17 tot K h l2 o3 o4
  | succ m ih =>
    intro Mc l2 o3 o4 e e1 e2 h
    have hs0 := hn_g0 (M := M) e
    have hsm : hb_sum (hn_g M) (e + 1) ≤ hb_sum (hn_g M) 6 := hb_sum_m 6 (by omega) (fun i _ => by
      unfold hn_g
      have := hn_nm (hv M 251 (6 * i))
      split <;> omega)
    have e9 : hb_sum (hn_g M) (e + 1) = hb_sum (hn_g M) e + hn_g M e := rfl
    refine he_iload (n := 73) (i := 2) (by decide +kernel) rfl ?_
    refine he_iconst (n := 75) (c := 6) (by decide +kernel) (by decide) ?_
    intro c73 hc73
    refine he_aload (n := 76) (i := 0) (by decide +kernel) rfl ?_
    refine hb_gfd (n := 79) (ci := 9) (j := 19) (ns := [4196, 197]) h.1 (by decide +kernel) rfl rfl (by decide) rfl ?_
    intro v76 hv76 lv76 uv76
    have q76 : v76.toInt = hv M 234 19 := by rw [← hv76, hb_vc (h.2.1 234 (by decide) (by decide))]
    refine he_imul (n := 80) (p := 6 * v76.toInt) (by decide +kernel) (by rw [hc73]) (by omega) (by omega) ?_
    intro v79 hv79
    refine he_cmpge_f (n := 83) (t := 218) (by decide +kernel) (by omega) ?_
    refine he_aload (n := 84) (i := 0) (by decide +kernel) rfl ?_
    refine he_getr (n := 87) (ci := 9) (j := 20) (ns := [4197, 59]) (b := 251) h.1 (by decide +kernel) rfl rfl (by decide +kernel) ?_
    refine he_iload (n := 88) (i := 2) (by decide +kernel) rfl ?_
    refine hb_ld (n := 89) (kind := 64) h.1 (by decide +kernel) rfl rfl (.inl rfl) (by omega) (show _ < (36 : Int) by omega) hb_at1 ?_
    intro v88 hv88 lv88 uv88
    have e8 : hn_g M e = 12 + hb_nm v88.toInt := by
      unfold hn_g
      rw [if_pos (by omega), ← hv88, hb_vc (h.2.1 251 (by decide) (by decide)), show 6 * e = l2.toInt.toNat by omega]
    refine he_s1 (n := 92) (j := 123) (mx := 4) (ns := [5142, 5143, 1011, 194]) (by decide +kernel) (by decide) (by show 1 ≤ 4; omega) ?_
    rw [mq_e123]
    refine hn_ns ?_
    intro r hr
    have hrb := hn_nm v88.toInt
    show mq_R mq_PP (d + 2) 127 92 _ [.int r] (Mc, z, u) Q
    refine he_istore (n := 93) (i := 3) (by decide +kernel) rfl ?_
    refine he_aload (n := 94) (i := 0) (by decide +kernel) rfl ?_
    refine he_iload (n := 95) (i := 1) (by decide +kernel) rfl ?_
    refine he_iload (n := 96) (i := 3) (by decide +kernel) rfl ?_
    refine he_v2 (n := 99) (j := 125) (ci := 9) (mx := 3) (ns := [5210, 5212, 65, 206]) (by decide +kernel) ((hb_kd (a := 234) h.1 rfl).trans rfl) (by decide) (by show 3 ≤ 3; omega) ?_
    rw [mq_e125]
    refine hn_add h hs p1 (by omega) (by omega) ?_
    intro Ma ha
    show mq_R mq_PP (d + 2) 127 99 _ [] (Ma, z, u) Q
    refine he_iconst (n := 100) (c := 0) (by decide +kernel) (by decide) ?_
    intro c99 hc99
    refine he_istore (n := 102) (i := 4) (by decide +kernel) rfl ?_
    refine hn_f102 (l3 := r) (sz := hv M 234 17 + hb_sum (hn_g M) e + 1) hs p1 r19 r19' r17 tot (by omega) (by omega) (by omega) (by omega) (by omega) ?_ r.toInt.toNat Ma c99 (by omega) (by omega) ?_
    · intro Mb l4 hb
      refine hn_f131 (sz := hv M 234 17 + hb_sum (hn_g M) e + 1 + r.toInt) hs p1 r19 r19' r17 tot (by omega) (by omega) (by omega) (by omega) ?_ hb
      intro Mn l2' hn hl2
      refine ih Mn l2' _ _ (e + 1) (by omega) (by omega) ?_
      rw [show hv M 234 17 + hb_sum (hn_g M) (e + 1) = hv M 234 17 + hb_sum (hn_g M) e + 1 + r.toInt + 11 by omega]
      exact hn
    · rw [show hv M 234 17 + hb_sum (hn_g M) e + 1 + c99.toInt = hv M 234 17 + hb_sum (hn_g M) e + 1 by omega]
      exact ha
theorem hn_f45 {d z u s : Nat} {Q : (Option Value ⊕ Nat) → mq_S → Prop} {M : Nat → mq_C} {x1 : Int32} (hs : s < 4) (p1 : x1.toInt = (s : Int)) (r19 : 0 ≤ hv M 234 19) (r19' : hv M 234 19 ≤ 6) (r17 : 0 ≤ hv M 234 17) (tot : hv M 234 17 + hb_sum (hn_g M) 6 + 4 ≤ 240)
    (K : ∀ Mc : Nat → mq_C, hn_F s (hv M 234 17 + hb_sum (hn_g M) 6 + 4) M Mc → ∀ (l2 : Int32) (o3 o4 : Option Value), mq_R mq_PP (d + 2) 127 243 [some (.ref 234), some (.int x1), some (.int l2), o3, o4] [] (Mc, z, u) Q) : ∀ (m : Nat) (Mc : Nat → mq_C) (l2 : Int32), l2.toInt + (m : Int) = hv M 234 17 → 0 ≤ l2.toInt → hn_F s l2.toInt M Mc → mq_R mq_PP (d + 2) 127 45 [some (.ref 234), some (.int x1), some (.int l2), none, none] [] (Mc, z, u) Q := by
  have hs6 := hn_g0 (M := M) 6
  intro m
  induction m with
  | zero =>
    intro Mc l2 e1 e2 h
    refine he_iload (n := 46) (i := 2) (by decide +kernel) rfl ?_
    refine he_aload (n := 47) (i := 0) (by decide +kernel) rfl ?_
    refine hb_gfd (n := 50) (ci := 9) (j := 17) (ns := [4194, 191]) h.1 (by decide +kernel) rfl rfl (by decide) rfl ?_
    intro v47 hv47 lv47 uv47
    have q47 : v47.toInt = hv M 234 17 := by rw [← hv47, hb_vc (h.2.1 234 (by decide) (by decide))]
    refine he_cmpge_t (n := 53) (t := 70) (by decide +kernel) (by omega) ?_
    refine he_iconst (n := 71) (c := 0) (by decide +kernel) (by decide) ?_
    intro c70 hc70
    refine he_istore (n := 72) (i := 2) (by decide +kernel) rfl ?_
    refine hn_f72 hs p1 r19 r19' r17 tot K (hv M 234 19).toNat Mc c70 none none 0 (by omega) (by omega) ?_
    have e0 : hb_sum (hn_g M) 0 = 0 := rfl
    rw [e0, show hv M 234 17 + 0 = l2.toInt by omega]
    exact h
  | succ m ih =>
    intro Mc l2 e1 e2 h
    refine he_iload (n := 46) (i := 2) (by decide +kernel) rfl ?_
    refine he_aload (n := 47) (i := 0) (by decide +kernel) rfl ?_
    refine hb_gfd (n := 50) (ci := 9) (j := 17) (ns := [4194, 191]) h.1 (by decide +kernel) rfl rfl (by decide) rfl ?_
    intro v47 hv47 lv47 uv47
    have q47 : v47.toInt = hv M 234 17 := by rw [← hv47, hb_vc (h.2.1 234 (by decide) (by decide))]
    refine he_cmpge_f (n := 53) (t := 70) (by decide +kernel) (by omega) ?_
    refine he_aload (n := 54) (i := 0) (by decide +kernel) rfl ?_
    refine he_iload (n := 55) (i := 1) (by decide +kernel) rfl ?_
    refine he_aload (n := 56) (i := 0) (by decide +kernel) rfl ?_
    refine he_getr (n := 59) (ci := 9) (j := 18) (ns := [4195, 56]) (b := 250) h.1 (by decide +kernel) rfl rfl (by decide +kernel) ?_
    refine he_iload (n := 60) (i := 2) (by decide +kernel) rfl ?_
    refine hb_ld (n := 61) (kind := 64) h.1 (by decide +kernel) rfl rfl (.inl rfl) (by omega) (show _ < (240 : Int) by omega) hb_at1 ?_
    intro v60 hv60 lv60 uv60
    refine he_v2 (n := 64) (j := 125) (ci := 9) (mx := 3) (ns := [5210, 5212, 65, 206]) (by decide +kernel) ((hb_kd (a := 234) h.1 rfl).trans rfl) (by decide) (by show 3 ≤ 3; omega) ?_
    rw [mq_e125]
    refine hn_add h hs p1 (by omega) (by omega) ?_
    intro Ma ha
    show mq_R mq_PP (d + 2) 127 64 _ [] (Ma, z, u) Q
    refine he_iinc (n := 67) (i := 2) (c := 1) (L' := fun v => [some (.ref (234)), some (.int x1), some (.int v), none, none]) (by decide +kernel) (by decide) rfl (fun _ => rfl) (by omega) (by omega) ?_
    intro i64 hi64
    refine he_goto (t := 45) (by decide +kernel) ?_
    refine ih Ma i64 (by omega) (by omega) ?_
    rw [show i64.toInt = l2.toInt + 1 by omega]
    exact ha
theorem hn_k13 {s : Nat} {M : Nat → mq_C} (hs : s < 4) : hxk (26 + s) M = hx13 s M := by
  have : s = 0 ∨ s = 1 ∨ s = 2 ∨ s = 3 := by omega
  rcases this with rfl | rfl | rfl | rfl <;> rfl
theorem hn_sp3 (k a i : Nat) (hk : k ≠ 25 ∧ k ≠ 26 ∧ k ≠ 27 ∧ k ≠ 28 ∧ k ≠ 29) (h : a = 235 ∨ a = 236 ∨ a = 237 ∨ a = 234 ∧ (i = 0 ∨ i = 17 ∨ i = 19)) : hsp k a i = false := by
  match k with
  | 0 | 1 | 2 | 3 | 4 | 5 | 6 | 7 | 8 | 9 | 10 | 11 | 12 | 13 | 14 | 15 | 16 | 17 | 18 | 19 | 20 | 21 | 22 | 23 | 24 | 25 | 26 | 27 | 28 | 29 => first | (exact absurd hk (by decide)) | (exact decide_eq_false (by omega))
  | n + 30 => rfl
theorem hn_fS {M M' : Nat → mq_C} (hw : ∀ a, a < 272 → a ≠ 234 → a ≠ 235 → a ≠ 236 → a ≠ 237 → M' a = M a) (he : ∀ i, i ≠ 0 → i ≠ 17 → i ≠ 19 → hv M' 234 i = hv M 234 i) : mz_fr mz_q140 M M' ∧ (∀ a, a < 8 → M' a = M a) ∧ hb_same mz_GG mz_q140 M M' := by
  refine ⟨fun a ha hb => hw a ha ?_ ?_ ?_ ?_, fun a ha => hw a (by omega) (by omega) (by omega) (by omega) (by omega), ?_⟩
  iterate 4
    · rintro rfl
      cases hb
  · refine hb_same_of (fun t => decide (t.1 < 272 ∧ t.1 ≠ 235 ∧ t.1 ≠ 236 ∧ t.1 ≠ 237 ∧ (t.1 = 234 → t.2 ≠ 0 ∧ t.2 ≠ 17 ∧ t.2 ≠ 19))) ?_ (by decide +kernel)
    intro t ht
    obtain ⟨h0, h1, h2, h3, h4⟩ := of_decide_eq_true ht
    by_cases e : t.1 = 234
    · rw [e]
      obtain ⟨b1, b2, b3⟩ := h4 e
      exact he _ b1 b2 b3
    · exact hb_vc (hw _ h0 e h1 h2 h3) _
theorem hs_mfinish (hC : ∀ c ∈ mz_Cs, c.2 < 4 → mz_Ct mz_GG mq_PP HX c.1 c.2) : mz_Ct mz_GG mq_PP HX mz_q140 4 := by
  refine hc_mfinish ?_
  intro d z u M Q x1 hd hz hm hx K
  obtain ⟨d, rfl⟩ : ∃ d', d = d' + 2 := ⟨d - 2, by omega⟩
  refine he_aload (n := 1) (i := 0) (by decide +kernel) rfl ?_
  refine he_iconst (n := 2) (c := 0) (by decide +kernel) (by decide) ?_
  intro c1 hc1
  refine hb_pfd (n := 5) (ci := 9) (j := 0) (t := 0) (ns := [4177, 126]) hm (by decide +kernel) rfl rfl (by decide) (.inl rfl) ?_
  generalize hM1 : hb_set M 234 0 c1 = M1
  have hm1 : mz_sh mz_GG M1 := by rw [← hM1]; exact hb_set_sh hm rfl rfl (by omega) (by omega)
  have eM1 : ∀ b j, b ≠ 234 ∨ j ≠ 0 → hv M1 b j = hv M b j := by intro b j h; rw [← hM1]; exact hb_set_n h
  have sM1 : hv M1 234 0 = c1.toInt := by rw [← hM1]; exact hb_set_v hm rfl (by decide)
  have wM1 : ∀ b, b ≠ 234 → M1 b = M b := by intro b h; rw [← hM1]; exact hb_set_c h
  refine he_iload (n := 6) (i := 1) (by decide +kernel) rfl ?_
  refine he_iconst (n := 7) (c := 4) (by decide +kernel) (by decide) ?_
  intro c6 hc6
  have hx1 : HX M1 := fun t => by rw [← hM1]; exact hxk_s (hm_sp t _ _ (by omega)) (hx t)
  have fail : ∀ (M' : Nat → mq_C) (r : Int32), mz_sh mz_GG M' → HX M' → (∀ a, a < 272 → M' a = M1 a) → 0 ≤ r.toInt → r.toInt ≤ 1 → Q (.inl (some (.int r))) (M', z, u) := by
    intro M' r h1 h2 h3 h4 h5
    obtain ⟨b1, b2, b3⟩ := hn_fS (M := M) (M' := M') (fun a ha n1 _ _ _ => (h3 a ha).trans (wM1 a n1)) (fun i n1 _ _ => (hb_vc (h3 234 (by decide)) i).trans (eM1 _ _ (.inr n1)))
    exact K M' r h1 h2 b1 b2 b3 (by omega) (by omega)
  have good : ∀ (Mo : Nat → mq_C) (ro : Int32), mz_sh mz_GG Mo → HX Mo → (∀ a, a < 272 → Mo a = M1 a) → ro.toInt = 0 → 0 ≤ x1.toInt → x1.toInt ≤ 3 → mq_R mq_PP (d + 2) 127 10 [some (.ref 234), some (.int x1), none, none, none] [.int ro] (Mo, z, u) Q := by
    intro Mo ro hmo hxo heo hro hl hu
    refine he_ifne_f (n := 13) (t := 34) (by decide +kernel) (by omega) ?_
    refine he_aload (n := 14) (i := 0) (by decide +kernel) rfl ?_
    refine he_getr (n := 17) (ci := 9) (j := 3) (ns := [4180, 16]) (b := 237) hmo (by decide +kernel) rfl rfl (by decide +kernel) ?_
    refine he_iload (n := 18) (i := 1) (by decide +kernel) rfl ?_
    refine he_iconst (n := 19) (c := 4) (by decide +kernel) (by decide) ?_
    intro c18 hc18
    refine he_s2 (n := 22) (j := 107) (mx := 2) (ns := [5207, 5208, 1011, 210]) (by decide +kernel) (by show 1 ≤ 8; omega) (by show 2 ≤ 2; omega) ?_
    rw [mq_e107]
    refine hu_out (hC (mz_q38, 1) (List.mem_of_getElem? (show mz_Cs[38]? = _ from rfl)) (by decide)) (by omega) hz hmo hxo ?_ ?_ ?_
    rotate_left
    · intros
      omega
    · intros
      omega
    intro Mp rp hmp gxp gwp g8p gep hrp _ _
    have hep : ∀ a, a < 272 → Mp a = M1 a := fun a ha => (gwp a ha rfl).trans (heo a ha)
    show mq_R mq_PP (d + 2) 127 22 _ [.int rp, .ref 237] (Mp, z, u) Q
    refine he_ifeq_t (n := 25) (t := 29) (by decide +kernel) (by omega) ?_
    refine he_iload (n := 30) (i := 1) (by decide +kernel) rfl ?_
    refine hb_ld (n := 31) (kind := 65) hmp (by decide +kernel) rfl rfl (.inr rfl) (by omega) (show _ < (4 : Int) by omega) hb_at1 ?_
    intro v30 hv30 lv30 uv30
    by_cases h31 : v30.toInt = 0
    · skip
      refine he_ifeq_t (n := 34) (t := 36) (by decide +kernel) (by omega) ?_
      refine he_aload (n := 37) (i := 0) (by decide +kernel) rfl ?_
      refine he_getr (n := 40) (ci := 9) (j := 3) (ns := [4180, 16]) (b := 237) hmp (by decide +kernel) rfl rfl (by decide +kernel) ?_
      refine he_iload (n := 41) (i := 1) (by decide +kernel) rfl ?_
      refine he_iconst (n := 42) (c := 1) (by decide +kernel) (by decide) ?_
      intro c41 hc41
      refine hb_sta (n := 43) (kind := 65) hmp (by decide +kernel) rfl rfl (.inr ⟨rfl, he_01 (by omega)⟩) (by omega) (show _ < (4 : Int) by omega) ?_
      generalize hM2 : hb_set Mp 237 (x1.toInt.toNat) c41 = M2
      have hm2 : mz_sh mz_GG M2 := by rw [← hM2]; exact hb_set_sh hmp rfl hb_at1 (by omega) (by omega)
      have eM2 : ∀ b j, b ≠ 237 ∨ j ≠ x1.toInt.toNat → hv M2 b j = hv Mp b j := by intro b j h; rw [← hM2]; exact hb_set_n h
      have sM2 : hv M2 237 (x1.toInt.toNat) = c41.toInt := by rw [← hM2]; exact hb_set_v hmp rfl (show _ < 4 by omega)
      have wM2 : ∀ b, b ≠ 237 → M2 b = Mp b := by intro b h; rw [← hM2]; exact hb_set_c h
      refine he_iconst (n := 44) (c := 0) (by decide +kernel) (by decide) ?_
      intro c43 hc43
      refine he_istore (n := 45) (i := 2) (by decide +kernel) rfl ?_
      obtain ⟨s, hse⟩ : ∃ s : Nat, x1.toInt = (s : Int) := ⟨x1.toInt.toNat, by omega⟩
      have hs : s < 4 := by omega
      have h13 : hx13 s Mp := by rw [← hn_k13 hs]; exact gxp (26 + s)
      have h12 : hx12 Mp := gxp 25
      have z37 : hv Mp 237 s = 0 := by rw [show s = x1.toInt.toNat by omega, hv30]; exact h31
      have z36 := h13 z37
      have t37 : hv M2 237 s = 1 := by rw [show s = x1.toInt.toNat by omega, sM2]; omega
      obtain ⟨⟨r1, r2⟩, ⟨r3, r4⟩, r5, r6⟩ := hn_rg hm2
      have hgT : hb_sum (hn_g M2) 6 = hb_sum (fun e => if (e : Int) < hv Mp 234 19 then 12 + hb_nm (hv Mp 251 (6 * e)) else 0) 6 := hb_sum_c 6 (fun i _ => by unfold hn_g; rw [hb_vc (wM2 234 (by decide)), hb_vc (wM2 251 (by decide))])
      have tot : hv M2 234 17 + hb_sum (hn_g M2) 6 + 4 ≤ 240 := by
        rw [hgT, hb_vc (wM2 234 (by decide))]
        exact h12
      have hF0 : hn_F s 0 M2 M2 := ⟨hm2, fun _ _ _ => rfl, by rw [hb_vc (wM2 236 (by decide))]; exact z36, fun _ _ => rfl⟩
      refine hn_f45 (M := M2) hs hse r1 r2 r3 tot ?_ (hv M2 234 17).toNat M2 c43 (by omega) (by omega) (by rw [show c43.toInt = 0 by omega]; exact hF0)
      intro Mc hF l2 o3 o4
      refine he_aload (n := 244) (i := 0) (by decide +kernel) rfl ?_
      refine he_iconst (n := 245) (c := 0) (by decide +kernel) (by decide) ?_
      intro ce244 hce244
      refine hb_pfd (n := 248) (ci := 9) (j := 19) (t := 0) (ns := [4196, 197]) hF.1 (by decide +kernel) rfl rfl (by decide) (.inl rfl) ?_
      generalize hMe1 : hb_set Mc 234 19 ce244 = Me1
      have hme1 : mz_sh mz_GG Me1 := by rw [← hMe1]; exact hb_set_sh hF.1 rfl rfl (by omega) (by omega)
      have eMe1 : ∀ b j, b ≠ 234 ∨ j ≠ 19 → hv Me1 b j = hv Mc b j := by intro b j h; rw [← hMe1]; exact hb_set_n h
      have sMe1 : hv Me1 234 19 = ce244.toInt := by rw [← hMe1]; exact hb_set_v hF.1 rfl (by decide)
      have wMe1 : ∀ b, b ≠ 234 → Me1 b = Mc b := by intro b h; rw [← hMe1]; exact hb_set_c h
      refine he_aload (n := 249) (i := 0) (by decide +kernel) rfl ?_
      refine he_iconst (n := 250) (c := 0) (by decide +kernel) (by decide) ?_
      intro ce249 hce249
      refine hb_pfd (n := 253) (ci := 9) (j := 17) (t := 0) (ns := [4194, 191]) hme1 (by decide +kernel) rfl rfl (by decide) (.inl rfl) ?_
      generalize hMe2 : hb_set Me1 234 17 ce249 = Me2
      have hme2 : mz_sh mz_GG Me2 := by rw [← hMe2]; exact hb_set_sh hme1 rfl rfl (by omega) (by omega)
      have eMe2 : ∀ b j, b ≠ 234 ∨ j ≠ 17 → hv Me2 b j = hv Me1 b j := by intro b j h; rw [← hMe2]; exact hb_set_n h
      have sMe2 : hv Me2 234 17 = ce249.toInt := by rw [← hMe2]; exact hb_set_v hme1 rfl (by decide)
      have wMe2 : ∀ b, b ≠ 234 → Me2 b = Me1 b := by intro b h; rw [← hMe2]; exact hb_set_c h
      refine he_iconst (n := 254) (c := 1) (by decide +kernel) (by decide) ?_
      intro ce253 hce253
      refine he_retz (by decide +kernel) (by omega) ?_
      have hwE : ∀ a, a ≠ 234 → a ≠ 235 → a ≠ 236 → a ≠ 237 → Me2 a = Mp a := fun a n1 n2 n3 n4 => by rw [wMe2 a n1, wMe1 a n1, hF.2.1 a n2 n3, wM2 a n4]
      have heE : ∀ i, i ≠ 17 → i ≠ 19 → hv Me2 234 i = hv Mp 234 i := fun i n1 n2 => by rw [eMe2 _ _ (.inr n1), eMe1 _ _ (.inr n2), hb_vc (hF.2.1 234 (by decide) (by decide)), hb_vc (wM2 234 (by decide))]
      have h237 : ∀ i, hv Me2 237 i = hv M2 237 i := fun i => by rw [hb_vc (wMe2 237 (by decide)), hb_vc (wMe1 237 (by decide)), hb_vc (hF.2.1 237 (by decide) (by decide))]
      have h236 : ∀ i, i ≠ s → hv Me2 236 i = hv Mp 236 i := fun i hi => by rw [hb_vc (wMe2 236 (by decide)), hb_vc (wMe1 236 (by decide)), hF.2.2.2 i hi, hb_vc (wM2 236 (by decide))]
      have hxE : HX Me2 := by
        intro k
        by_cases e : k = 25
        · subst e
          show hx12 Me2
          unfold hx12
          have a1 : hv Me2 234 19 = 0 := by rw [eMe2 _ _ (.inr (by decide)), sMe1]; omega
          have a2 : hv Me2 234 17 = 0 := by rw [sMe2]; omega
          rw [a2, hb_sum_c 6 (g := fun _ => 0) (fun i _ => by rw [if_neg (by omega)])]
          show (0 : Int) + (0 + 0 + 0 + 0 + 0 + 0 + 0) + 4 ≤ 240
          omega
        · by_cases e2 : k = 26 ∨ k = 27 ∨ k = 28 ∨ k = 29
          · obtain ⟨t, ht, rfl⟩ : ∃ t, t < 4 ∧ k = 26 + t := ⟨k - 26, by omega, by omega⟩
            rw [hn_k13 ht]
            intro h0
            by_cases es : t = s
            · subst es
              rw [h237] at h0
              omega
            · have h13t : hx13 t Mp := by rw [← hn_k13 ht]; exact gxp (26 + t)
              rw [h236 t es]
              refine h13t ?_
              rw [← h0, h237, eM2 _ _ (.inr (by omega))]
          · refine hxk_c (fun a i hs' => ?_) (gxp k)
            by_cases h1 : a = 235 ∨ a = 236 ∨ a = 237 ∨ a = 234 ∧ (i = 0 ∨ i = 17 ∨ i = 19)
            · rw [hn_sp3 k a i (by omega) h1] at hs'
              cases hs'
            · by_cases h2 : a = 234
              · rw [h2]
                exact heE i (by omega) (by omega)
              · exact hb_vc (hwE a h2 (by omega) (by omega) (by omega)) i
      obtain ⟨b1, b2, b3⟩ := hn_fS (M := M) (M' := Me2) (fun a ha n1 n2 n3 n4 => ((hwE a n1 n2 n3 n4).trans (hep a ha)).trans (wM1 a n1)) (fun i n1 n2 n3 => ((heE i n2 n3).trans (hb_vc (hep 234 (by decide)) i)).trans (eM1 _ _ (.inr n1)))
      exact K Me2 _ hme2 hxE b1 b2 b3 (by omega) (by omega)
    · skip
      refine he_ifeq_f (n := 34) (t := 36) (by decide +kernel) (by omega) ?_
      refine he_iconst (n := 35) (c := 0) (by decide +kernel) (by decide) ?_
      intro c34 hc34
      refine he_retz (by decide +kernel) (by omega) ?_
      exact fail Mp _ hmp gxp hep (by omega) (by omega)
  refine he_s2 (n := 10) (j := 107) (mx := 2) (ns := [5207, 5208, 1011, 210]) (by decide +kernel) (by decide) (by show 2 ≤ 2; omega) ?_
  rw [mq_e107]
  refine hu_out (hC (mz_q38, 1) (List.mem_of_getElem? (show mz_Cs[38]? = _ from rfl)) (by decide)) (by omega) hz hm1 hx1 ?_ ?_ ?_
  · intro Mo ro hmo gx gw g8 ge l1 l2 l3
    exact good Mo ro hmo gx (fun a ha => gw a ha rfl) (by omega) (by omega) (by omega)
  · intro Mo ro hmo gx gw g8 ge
    intros
    show mq_R mq_PP (d + 2) 127 10 _ [.int ro] (Mo, z, u) Q
    refine he_ifne_t (n := 13) (t := 34) (by decide +kernel) (by omega) ?_
    refine he_iconst (n := 35) (c := 0) (by decide +kernel) (by decide) ?_
    intro c34 hc34
    refine he_retz (by decide +kernel) (by omega) ?_
    exact fail Mo _ hmo gx (fun a ha => gw a ha rfl) (by omega) (by omega)
  · intro Mo ro hmo gx gw g8 ge
    intros
    show mq_R mq_PP (d + 2) 127 10 _ [.int ro] (Mo, z, u) Q
    refine he_ifne_t (n := 13) (t := 34) (by decide +kernel) (by omega) ?_
    refine he_iconst (n := 35) (c := 0) (by decide +kernel) (by decide) ?_
    intro c34 hc34
    refine he_retz (by decide +kernel) (by omega) ?_
    exact fail Mo _ hmo gx (fun a ha => gw a ha rfl) (by omega) (by omega)
