/-! The law's cases: each call keeps what holds between calls (printed by b_law2.py). -/
section LQ
variable {d k pc n z u : Nat} {L : mq_L} {st : List Value} {M : Nat → mq_C} {Q : (Option Value ⊕ Nat) → mq_S → Prop}
theorem lq_i2l {x : Int32} (hat : mq_at mq_PP k pc = some (31, [n], [])) (h : ∀ w : Int64, w = x.toInt64 → mq_R mq_PP d k n L (.long w :: st) (M, z, u) Q) : mq_R mq_PP d k pc L (.int x :: st) (M, z, u) Q := he_go hat rfl (h _ rfl)
theorem lq_lconst {c : Int} (hat : mq_at mq_PP k pc = some (1, [n], [c])) (h : ∀ w : Int64, w = Int64.ofInt c → mq_R mq_PP d k n L (.long w :: st) (M, z, u) Q) : mq_R mq_PP d k pc L st (M, z, u) Q := he_go hat rfl (h _ rfl)
theorem lq_land {x y : Int64} (hat : mq_at mq_PP k pc = some (24, [n], [])) (h : ∀ w : Int64, w = x &&& y → mq_R mq_PP d k n L (.long w :: st) (M, z, u) Q) : mq_R mq_PP d k pc L (.long y :: .long x :: st) (M, z, u) Q := he_go hat rfl (h _ rfl)
theorem lq_lor {x y : Int64} (hat : mq_at mq_PP k pc = some (25, [n], [])) (h : ∀ w : Int64, w = x ||| y → mq_R mq_PP d k n L (.long w :: st) (M, z, u) Q) : mq_R mq_PP d k pc L (.long y :: .long x :: st) (M, z, u) Q := he_go hat rfl (h _ rfl)
theorem lq_lshl {x : Int64} {y : Int32} (hat : mq_at mq_PP k pc = some (27, [n], [])) (h : ∀ w : Int64, w = x <<< (y.toInt64 &&& 63) → mq_R mq_PP d k n L (.long w :: st) (M, z, u) Q) : mq_R mq_PP d k pc L (.int y :: .long x :: st) (M, z, u) Q := he_go hat rfl (h _ rfl)
end LQ
theorem l6_len {N M : Nat → mq_C} (h : lrr N M) : ∀ s : Nat, s < 4 → hv N (47 + 11 * s) 1 = hv M 236 s := by
  obtain ⟨_, _, _, _, h5, h6, h7, h8, _⟩ := h
  intro s hs
  have h4 : s = 0 ∨ s = 1 ∨ s = 2 ∨ s = 3 := by omega
  rcases h4 with rfl | rfl | rfl | rfl
  · exact h5
  · exact h6
  · exact h7
  · exact h8
theorem lrd_n {N M : Nat → mq_C} (h : lrr N M) (h6 : l6 N M) : ∀ s : Nat, s < 4 → xrd (xcbt N s) (xcl N s) = xrd (ybt M s) (hv M 236 s).toNat := by
  intro s hs
  have hl := l6_len h s hs
  have e : xcl N s = (hv M 236 s).toNat := by
    unfold xcl
    rw [hl]
  rw [← e]
  exact xrd_c (fun t ht => h6.2.2.2.1 s hs t (by have h9 : t < (hv N (47 + 11 * s) 1).toNat := ht; rw [hl] at h9; omega))
abbrev LJ (N : Nat) (xs : Nat → Int32) (M : Nat → mq_C) : Prop := mz_sh mz_GG M ∧ HX M ∧ lw M ∧ (lr M ∧ l6 M M ∧ xEA M ∧ xLE (cvw M) (mvw M)) ∧ M 0 = (60, mq_sc N xs) ∧ ∃ w, M 271 = (66, [.long w])
theorem lc_0 {N n z u : Nat} {xs : Nat → Int32} {M : Nat → mq_C} {Q : (Option Value ⊕ Nat) → mq_S → Prop} {i : Int32} {o5 o6 : Option Value} (hN : N ≤ 2048) (hn : n + 4 ≤ N) (hi : i.toInt = (n : Int)) (hz : 272 ≤ z) (hj : LJ N xs M)
    (k : ∀ (M' : Nat → mq_C) (z' u' : Nat) (o5' o6' : Option Value), z ≤ z' → z' ≤ z + 1 → u' ≤ u + 6 → LJ N xs M' → mq_R mq_PP 1000 173 665 [some (.ref 0), some (.ref 8), some (.ref 234), some (.ref 271), some (.int i), o5', o6'] [] (M', z', u') Q) : mq_R mq_PP 1000 173 116 [some (.ref 0), some (.ref 8), some (.ref 234), some (.ref 271), some (.int i), o5, o6] [] (M, z, u) Q := by
  obtain ⟨hm, hx, hl, ⟨hr, h6, hE7, hL7⟩, h0, w0, h2⟩ := hj
  have hm0 := hm
  refine he_aload (n := 117) (i := 1) (by decide +kernel) rfl ?_
  refine he_aload (n := 118) (i := 0) (by decide +kernel) rfl ?_
  refine he_iload (n := 120) (i := 4) (by decide +kernel) rfl ?_
  refine he_iconst (n := 121) (c := 1) (by decide +kernel) (by decide) ?_
  intro c120 hc120
  refine he_iadd (n := 122) (by decide +kernel) (by omega) (by omega) ?_
  intro v121 hv121
  refine lb_ld (n := 123) (m := n + 1) h0 (by decide +kernel) (by omega) (by omega) ?_
  refine lq_i2l (n := 124) (by decide +kernel) ?_
  intro w123 ew123
  refine he_iconst (n := 126) (c := 32) (by decide +kernel) (by decide) ?_
  intro c124 hc124
  refine lq_lshl (n := 127) (by decide +kernel) ?_
  intro w126 ew126
  refine he_aload (n := 128) (i := 0) (by decide +kernel) rfl ?_
  refine he_iload (n := 130) (i := 4) (by decide +kernel) rfl ?_
  refine he_iconst (n := 131) (c := 2) (by decide +kernel) (by decide) ?_
  intro c130 hc130
  refine he_iadd (n := 132) (by decide +kernel) (by omega) (by omega) ?_
  intro v131 hv131
  refine lb_ld (n := 133) (m := n + 2) h0 (by decide +kernel) (by omega) (by omega) ?_
  refine lq_i2l (n := 134) (by decide +kernel) ?_
  intro w133 ew133
  refine lq_lconst (c := 4294967295) (n := 137) (by decide +kernel) ?_
  intro w134 ew134
  refine lq_land (n := 138) (by decide +kernel) ?_
  intro w137 ew137
  refine lq_lor (n := 139) (by decide +kernel) ?_
  intro w138 ew138
  refine he_aload (n := 140) (i := 0) (by decide +kernel) rfl ?_
  refine he_iload (n := 142) (i := 4) (by decide +kernel) rfl ?_
  refine he_iconst (n := 143) (c := 3) (by decide +kernel) (by decide) ?_
  intro c142 hc142
  refine he_iadd (n := 144) (by decide +kernel) (by omega) (by omega) ?_
  intro v143 hv143
  refine lb_ld (n := 145) (m := n + 3) h0 (by decide +kernel) (by omega) (by omega) ?_
  refine he_v2 (n := 148) (j := 1) (ci := 0) (mx := 4) (ns := [2123, 2124, 2125, 36]) (by decide +kernel) ((hb_kd (a := 8) hm rfl).trans rfl) (by show 0 ≤ 8; omega) (by show 4 ≤ 4; omega) ?_
  rw [mq_e1]
  refine lv_put (by decide) hz hm hx hl ?_
  intro M1 a1 hm1 hx1 hl1 g1 t1 q1f q1_0 q1_1 q1_2 q1_3 q1_4 q1_5 q1_6 q1L
  have h01 := (g1 0 (by decide)).trans h0
  have h21 := t1.trans h2
  show mq_R mq_PP (999 + 1) 173 148 _ [.int a1] (M1, z, u) Q
  refine he_pop_i (n := 149) (by decide +kernel) ?_
  refine he_aload (n := 150) (i := 2) (by decide +kernel) rfl ?_
  refine he_aload (n := 151) (i := 0) (by decide +kernel) rfl ?_
  refine he_iload (n := 153) (i := 4) (by decide +kernel) rfl ?_
  refine he_iconst (n := 154) (c := 1) (by decide +kernel) (by decide) ?_
  intro c153 hc153
  refine he_iadd (n := 155) (by decide +kernel) (by omega) (by omega) ?_
  intro v154 hv154
  refine lb_ld (n := 156) (m := n + 1) h01 (by decide +kernel) (by omega) (by omega) ?_
  refine lq_i2l (n := 157) (by decide +kernel) ?_
  intro w156 ew156
  refine he_iconst (n := 159) (c := 32) (by decide +kernel) (by decide) ?_
  intro c157 hc157
  refine lq_lshl (n := 160) (by decide +kernel) ?_
  intro w159 ew159
  refine he_aload (n := 161) (i := 0) (by decide +kernel) rfl ?_
  refine he_iload (n := 163) (i := 4) (by decide +kernel) rfl ?_
  refine he_iconst (n := 164) (c := 2) (by decide +kernel) (by decide) ?_
  intro c163 hc163
  refine he_iadd (n := 165) (by decide +kernel) (by omega) (by omega) ?_
  intro v164 hv164
  refine lb_ld (n := 166) (m := n + 2) h01 (by decide +kernel) (by omega) (by omega) ?_
  refine lq_i2l (n := 167) (by decide +kernel) ?_
  intro w166 ew166
  refine lq_lconst (c := 4294967295) (n := 170) (by decide +kernel) ?_
  intro w167 ew167
  refine lq_land (n := 171) (by decide +kernel) ?_
  intro w170 ew170
  refine lq_lor (n := 172) (by decide +kernel) ?_
  intro w171 ew171
  refine he_aload (n := 173) (i := 0) (by decide +kernel) rfl ?_
  refine he_iload (n := 175) (i := 4) (by decide +kernel) rfl ?_
  refine he_iconst (n := 176) (c := 3) (by decide +kernel) (by decide) ?_
  intro c175 hc175
  refine he_iadd (n := 177) (by decide +kernel) (by omega) (by omega) ?_
  intro v176 hv176
  refine lb_ld (n := 178) (m := n + 3) h01 (by decide +kernel) (by omega) (by omega) ?_
  refine he_v2 (n := 181) (j := 122) (ci := 9) (mx := 5) (ns := [5133, 5134, 5135, 40]) (by decide +kernel) ((hb_kd (a := 234) hm1 rfl).trans rfl) (by show 0 ≤ 8; omega) (by show 4 ≤ 5; omega) ?_
  rw [mq_e122]
  refine lv_mput (by decide) hz hm1 hx1 hl1 ?_
  intro M2 a2 hm2 hx2 hl2 g2 t2 q2f q2_0 q2_1 q2_2 q2_3 q2_4 q2L
  have h02 := (g2 0 (by decide)).trans h01
  have h22 := t2.trans h21
  show mq_R mq_PP (999 + 1) 173 181 _ [.int a2] (M2, z, u) Q
  refine he_pop_i (n := 182) (by decide +kernel) ?_
  refine he_goto (t := 665) (by decide +kernel) ?_
  have h6m : l6 M M1 := l6_hi q1f h6
  have hrm : lrr M M1 := lz_m hr (lz_hi q1f)
  have g81 : M1 1 = M 1 := g1 1 (by decide)
  have eW : w171 = w138 := by rw [ew171, ew170, ew167, ew166, ew159, ew156, ew138, ew137, ew134, ew133, ew126, ew123, show c157 = c124 from Int32.toInt_inj.mp (by omega)]
  rw [eW] at q2_4
  have hd := lz_put hr q1_0 q1_1 q1_2 q1f q2_0 q2_1 q2_2 q2f
  have h62 : l6 M2 M2 := l6_lo q2f ⟨l6_put h6m.1 hrm.1 ⟨fun _ => trivial, fun h => by have h9 := q1_0; unfold lr_put at h9; omega⟩ q1_5 q2_4 hd.2, l6b_k q1_1.1 q1_3.1 q2_3.1 h6m.2.1, l6r_k q1_1.2.1 q1_3.2.1 q2_2.1 q2_1.2 h6m.2.2.1, l6s_k q1_3.2.2 q2_3.2 q2_2.2.1 h6m.2.2.2.1, l6t_k q1_4 g81 h6m.2.2.2.2⟩
  have hE2 : xEA M2 := xEA_k (fun b p q => q2f b (by omega)) (xEA_k q1_6 hE7)
  have hL2 : xLE (cvw M2) (mvw M2) := xLE_k (xLE_k (xLE_k hL7 xLK_r (xLK_m (hb_vc (q1f 234 (by decide) (by decide)) 30) ⟨q1f 257 (by decide) (by decide), q1f 258 (by decide) (by decide), q1f 259 (by decide) (by decide), q1f 260 (by decide) (by decide)⟩)) q1L q2L) (xLK_c (hb_vc (q2f 8 (by decide)) 4) (fun i hi => ⟨q2f _ (by omega), q2f _ (by omega)⟩)) xLK_r
  exact k M2 z u _ _ (by omega) (by omega) (by omega) ⟨hm2, hx2, hl2, ⟨hd.1, h62, hE2, hL2⟩, h02, _, h22⟩
theorem lc_1 {N n z u : Nat} {xs : Nat → Int32} {M : Nat → mq_C} {Q : (Option Value ⊕ Nat) → mq_S → Prop} {i : Int32} {o5 o6 : Option Value} (hN : N ≤ 2048) (hn : n + 4 ≤ N) (hi : i.toInt = (n : Int)) (hz : 272 ≤ z) (hj : LJ N xs M)
    (k : ∀ (M' : Nat → mq_C) (z' u' : Nat) (o5' o6' : Option Value), z ≤ z' → z' ≤ z + 1 → u' ≤ u + 6 → LJ N xs M' → mq_R mq_PP 1000 173 665 [some (.ref 0), some (.ref 8), some (.ref 234), some (.ref 271), some (.int i), o5', o6'] [] (M', z', u') Q) : mq_R mq_PP 1000 173 185 [some (.ref 0), some (.ref 8), some (.ref 234), some (.ref 271), some (.int i), o5, o6] [] (M, z, u) Q := by
  obtain ⟨hm, hx, hl, ⟨hr, h6, hE7, hL7⟩, h0, w0, h2⟩ := hj
  have hm0 := hm
  refine he_aload (n := 186) (i := 1) (by decide +kernel) rfl ?_
  refine he_aload (n := 187) (i := 0) (by decide +kernel) rfl ?_
  refine he_iload (n := 189) (i := 4) (by decide +kernel) rfl ?_
  refine he_iconst (n := 190) (c := 1) (by decide +kernel) (by decide) ?_
  intro c189 hc189
  refine he_iadd (n := 191) (by decide +kernel) (by omega) (by omega) ?_
  intro v190 hv190
  refine lb_ld (n := 192) (m := n + 1) h0 (by decide +kernel) (by omega) (by omega) ?_
  refine he_aload (n := 193) (i := 0) (by decide +kernel) rfl ?_
  refine he_iload (n := 195) (i := 4) (by decide +kernel) rfl ?_
  refine he_iconst (n := 196) (c := 2) (by decide +kernel) (by decide) ?_
  intro c195 hc195
  refine he_iadd (n := 197) (by decide +kernel) (by omega) (by omega) ?_
  intro v196 hv196
  refine lb_ld (n := 198) (m := n + 2) h0 (by decide +kernel) (by omega) (by omega) ?_
  refine he_v2 (n := 201) (j := 2) (ci := 0) (mx := 5) (ns := [2131, 2132, 2133, 41]) (by decide +kernel) ((hb_kd (a := 8) hm rfl).trans rfl) (by show 0 ≤ 8; omega) (by show 3 ≤ 5; omega) ?_
  rw [mq_e2]
  refine lv_enter (by decide) hz hm hx hl h6.2.2.2.2 ?_
  intro M1 a1 hm1 hx1 hl1 g1 t1 q1f q1_0 q1_1 q1_2 q1_3 q1_4 q1_5 q1L
  have h01 := (g1 0 (by decide)).trans h0
  have h21 := t1.trans h2
  show mq_R mq_PP (999 + 1) 173 201 _ [.int a1] (M1, z, u) Q
  refine he_pop_i (n := 202) (by decide +kernel) ?_
  refine he_aload (n := 203) (i := 2) (by decide +kernel) rfl ?_
  refine he_aload (n := 204) (i := 0) (by decide +kernel) rfl ?_
  refine he_iload (n := 206) (i := 4) (by decide +kernel) rfl ?_
  refine he_iconst (n := 207) (c := 1) (by decide +kernel) (by decide) ?_
  intro c206 hc206
  refine he_iadd (n := 208) (by decide +kernel) (by omega) (by omega) ?_
  intro v207 hv207
  refine lb_ld (n := 209) (m := n + 1) h01 (by decide +kernel) (by omega) (by omega) ?_
  refine he_aload (n := 210) (i := 0) (by decide +kernel) rfl ?_
  refine he_iload (n := 212) (i := 4) (by decide +kernel) rfl ?_
  refine he_iconst (n := 213) (c := 2) (by decide +kernel) (by decide) ?_
  intro c212 hc212
  refine he_iadd (n := 214) (by decide +kernel) (by omega) (by omega) ?_
  intro v213 hv213
  refine lb_ld (n := 215) (m := n + 2) h01 (by decide +kernel) (by omega) (by omega) ?_
  refine he_v2 (n := 218) (j := 124) (ci := 9) (mx := 7) (ns := [5138, 5139, 5140, 45]) (by decide +kernel) ((hb_kd (a := 234) hm1 rfl).trans rfl) (by show 0 ≤ 8; omega) (by show 3 ≤ 7; omega) ?_
  rw [mq_e124]
  refine lv_menter (by decide) hz hm1 hx1 hl1 ?_
  intro M2 a2 hm2 hx2 hl2 g2 t2 q2f q2_0 q2_1 q2_2 q2_3 q2L
  have h02 := (g2 0 (by decide)).trans h01
  have h22 := t2.trans h21
  show mq_R mq_PP (999 + 1) 173 218 _ [.int a2] (M2, z, u) Q
  refine he_pop_i (n := 219) (by decide +kernel) ?_
  refine he_goto (t := 665) (by decide +kernel) ?_
  have h6m : l6 M M1 := l6_hi q1f h6
  have hrm : lrr M M1 := lz_m hr (lz_hi q1f)
  have g81 : M1 1 = M 1 := g1 1 (by decide)
  have hd := lz_enter hr q1_0 q1_1 q1f q2_0 q2_1 q2f
  have h6e := l6_enter h6m.1 h6m.2.1 h6m.2.2.1 hrm.1 hrm.2.1 hrm.2.2.1 (xx_rng (c := _) hm1 (a := 234) (i := 19) (lo := 0) (hi := 6) rfl (by decide) rfl).1 (xx_rng (c := _) hm1 (a := 234) (i := 19) (lo := 0) (hi := 6) rfl (by decide) rfl).2 (xx_rng (c := _) hm (a := 33) (i := 3) (lo := 0) (hi := 240) rfl (by decide) rfl).1 q1_0 q1_4 q2_3 hd.2 q2_2.1
  have h62 : l6 M2 M2 := l6_lo q2f ⟨h6e.1, h6e.2.1, h6e.2.2, l6s_k q1_2 q2_2.2 q2_1.1 h6m.2.2.2.1, l6t_k q1_3 g81 h6m.2.2.2.2⟩
  have hE2 : xEA M2 := xEA_k (fun b p q => q2f b (by omega)) (xEA_k q1_5 hE7)
  have hL2 : xLE (cvw M2) (mvw M2) := xLE_k (xLE_k (xLE_k hL7 xLK_r (xLK_m (hb_vc (q1f 234 (by decide) (by decide)) 30) ⟨q1f 257 (by decide) (by decide), q1f 258 (by decide) (by decide), q1f 259 (by decide) (by decide), q1f 260 (by decide) (by decide)⟩)) q1L q2L) (xLK_c (hb_vc (q2f 8 (by decide)) 4) (fun i hi => ⟨q2f _ (by omega), q2f _ (by omega)⟩)) xLK_r
  exact k M2 z u _ _ (by omega) (by omega) (by omega) ⟨hm2, hx2, hl2, ⟨hd.1, h62, hE2, hL2⟩, h02, _, h22⟩
theorem lc_2 {N n z u : Nat} {xs : Nat → Int32} {M : Nat → mq_C} {Q : (Option Value ⊕ Nat) → mq_S → Prop} {i : Int32} {o5 o6 : Option Value} (hN : N ≤ 2048) (hn : n + 4 ≤ N) (hi : i.toInt = (n : Int)) (hz : 272 ≤ z) (hj : LJ N xs M)
    (k : ∀ (M' : Nat → mq_C) (z' u' : Nat) (o5' o6' : Option Value), z ≤ z' → z' ≤ z + 1 → u' ≤ u + 6 → LJ N xs M' → mq_R mq_PP 1000 173 665 [some (.ref 0), some (.ref 8), some (.ref 234), some (.ref 271), some (.int i), o5', o6'] [] (M', z', u') Q) : mq_R mq_PP 1000 173 222 [some (.ref 0), some (.ref 8), some (.ref 234), some (.ref 271), some (.int i), o5, o6] [] (M, z, u) Q := by
  obtain ⟨hm, hx, hl, ⟨hr, h6, hE7, hL7⟩, h0, w0, h2⟩ := hj
  have hm0 := hm
  refine he_aload (n := 223) (i := 1) (by decide +kernel) rfl ?_
  refine he_aload (n := 224) (i := 0) (by decide +kernel) rfl ?_
  refine he_iload (n := 226) (i := 4) (by decide +kernel) rfl ?_
  refine he_iconst (n := 227) (c := 1) (by decide +kernel) (by decide) ?_
  intro c226 hc226
  refine he_iadd (n := 228) (by decide +kernel) (by omega) (by omega) ?_
  intro v227 hv227
  refine lb_ld (n := 229) (m := n + 1) h0 (by decide +kernel) (by omega) (by omega) ?_
  refine he_v1 (n := 232) (j := 3) (ci := 0) (mx := 2) (ns := [2230, 2231, 2232, 46]) (by decide +kernel) ((hb_kd (a := 8) hm rfl).trans rfl) (by show 0 ≤ 8; omega) (by show 2 ≤ 2; omega) ?_
  rw [mq_e3]
  refine lv_finish (by decide) hz hm hx hl h6.2.2.2.2 hE7 ?_
  intro M1 a1 hm1 hx1 hl1 g1 t1 q1f q1_0 q1_1 q1_2 q1_3 q1_4 q1L
  have h01 := (g1 0 (by decide)).trans h0
  have h21 := t1.trans h2
  show mq_R mq_PP (999 + 1) 173 232 _ [.int a1] (M1, z, u) Q
  refine he_pop_i (n := 233) (by decide +kernel) ?_
  refine he_aload (n := 234) (i := 2) (by decide +kernel) rfl ?_
  refine he_aload (n := 235) (i := 0) (by decide +kernel) rfl ?_
  refine he_iload (n := 237) (i := 4) (by decide +kernel) rfl ?_
  refine he_iconst (n := 238) (c := 1) (by decide +kernel) (by decide) ?_
  intro c237 hc237
  refine he_iadd (n := 239) (by decide +kernel) (by omega) (by omega) ?_
  intro v238 hv238
  refine lb_ld (n := 240) (m := n + 1) h01 (by decide +kernel) (by omega) (by omega) ?_
  refine he_v1 (n := 243) (j := 127) (ci := 9) (mx := 5) (ns := [5203, 5204, 5205, 50]) (by decide +kernel) ((hb_kd (a := 234) hm1 rfl).trans rfl) (by show 0 ≤ 8; omega) (by show 2 ≤ 5; omega) ?_
  rw [mq_e127]
  refine lv_mfinish (by decide) hz hm1 hx1 hl1 (lz_th q1f hr.2.2.2.2.2.2.2.2) (by have h1 := hr.2.1; have h2 := hr.2.2.1; have h3 := hl.1; rw [hb_vc (q1f 234 (by decide) (by decide)), lz_g (hb_vc (q1f 234 (by decide) (by decide)) 19) (q1f 251 (by decide) (by decide))]; omega) ?_
  intro M2 a2 hm2 hx2 hl2 g2 t2 q2f q2_0 q2_1 q2_2 q2_3 q2_4 q2L
  have h02 := (g2 0 (by decide)).trans h01
  have h22 := t2.trans h21
  show mq_R mq_PP (999 + 1) 173 243 _ [.int a2] (M2, z, u) Q
  refine he_pop_i (n := 244) (by decide +kernel) ?_
  refine he_goto (t := 665) (by decide +kernel) ?_
  have h6m : l6 M M1 := l6_hi q1f h6
  have hrm : lrr M M1 := lz_m hr (lz_hi q1f)
  have g81 : M1 1 = M 1 := g1 1 (by decide)
  have hd := lz_finish hr q1_0 q1_1 q1f q2_0 q2_1 q2_2 q2f
  have h6e := l6_fin hm1 h6m.1 h6m.2.1 h6m.2.2.1 h6m.2.2.2.1 hrm.2.1 hrm.2.2.1 hrm.2.2.2.1 (xx_rng (c := _) hm1 (a := 234) (i := 19) (lo := 0) (hi := 6) rfl (by decide) rfl).1 (xx_rng (c := _) hm1 (a := 234) (i := 19) (lo := 0) (hi := 6) rfl (by decide) rfl).2 (xx_rng (c := _) hm (a := 33) (i := 3) (lo := 0) (hi := 240) rfl (by decide) rfl).1 (xx_rng (c := _) hm (a := 33) (i := 5) (lo := 0) (hi := 240) rfl (by decide) rfl).1 (by have := hl.1; omega) q1_1 (fun h => by have h9 := q1_0; unfold lr_fin at h9; omega) (fun h => by have h9 := q1_0; unfold lr_fin at h9; omega) q1_3 q2_4 hd.2 q2_3.1 q2_3.2.1 q2_3.2.2 (fun h => by have h9 := q2_0; have h8 := hd.2; unfold lr_fin at h9; omega)
  have h62 : l6 M2 M2 := l6_lo q2f ⟨h6e.1, h6e.2.1, h6e.2.2.1, h6e.2.2.2, l6t_k q1_2 g81 h6m.2.2.2.2⟩
  have hE2 : xEA M2 := xEA_k (fun b p q => q2f b (by omega)) q1_4
  have hL2 : xLE (cvw M2) (mvw M2) := xLE_k (xLE_k (xLE_k hL7 xLK_r (xLK_m (hb_vc (q1f 234 (by decide) (by decide)) 30) ⟨q1f 257 (by decide) (by decide), q1f 258 (by decide) (by decide), q1f 259 (by decide) (by decide), q1f 260 (by decide) (by decide)⟩)) q1L q2L) (xLK_c (hb_vc (q2f 8 (by decide)) 4) (fun i hi => ⟨q2f _ (by omega), q2f _ (by omega)⟩)) xLK_r
  exact k M2 z u _ _ (by omega) (by omega) (by omega) ⟨hm2, hx2, hl2, ⟨hd.1, h62, hE2, hL2⟩, h02, _, h22⟩
theorem lc_3 {N n z u : Nat} {xs : Nat → Int32} {M : Nat → mq_C} {Q : (Option Value ⊕ Nat) → mq_S → Prop} {i : Int32} {o5 o6 : Option Value} (hN : N ≤ 2048) (hn : n + 4 ≤ N) (hi : i.toInt = (n : Int)) (hz : 272 ≤ z) (hj : LJ N xs M)
    (k : ∀ (M' : Nat → mq_C) (z' u' : Nat) (o5' o6' : Option Value), z ≤ z' → z' ≤ z + 1 → u' ≤ u + 6 → LJ N xs M' → mq_R mq_PP 1000 173 665 [some (.ref 0), some (.ref 8), some (.ref 234), some (.ref 271), some (.int i), o5', o6'] [] (M', z', u') Q) : mq_R mq_PP 1000 173 247 [some (.ref 0), some (.ref 8), some (.ref 234), some (.ref 271), some (.int i), o5, o6] [] (M, z, u) Q := by
  obtain ⟨hm, hx, hl, ⟨hr, h6, hE7, hL7⟩, h0, w0, h2⟩ := hj
  have hm0 := hm
  refine he_aload (n := 248) (i := 1) (by decide +kernel) rfl ?_
  refine he_aload (n := 249) (i := 0) (by decide +kernel) rfl ?_
  refine he_iload (n := 251) (i := 4) (by decide +kernel) rfl ?_
  refine he_iconst (n := 252) (c := 1) (by decide +kernel) (by decide) ?_
  intro c251 hc251
  refine he_iadd (n := 253) (by decide +kernel) (by omega) (by omega) ?_
  intro v252 hv252
  refine lb_ld (n := 254) (m := n + 1) h0 (by decide +kernel) (by omega) (by omega) ?_
  refine he_aload (n := 255) (i := 0) (by decide +kernel) rfl ?_
  refine he_iload (n := 257) (i := 4) (by decide +kernel) rfl ?_
  refine he_iconst (n := 258) (c := 2) (by decide +kernel) (by decide) ?_
  intro c257 hc257
  refine he_iadd (n := 259) (by decide +kernel) (by omega) (by omega) ?_
  intro v258 hv258
  refine lb_ld (n := 260) (m := n + 2) h0 (by decide +kernel) (by omega) (by omega) ?_
  refine he_aload (n := 261) (i := 0) (by decide +kernel) rfl ?_
  refine he_iload (n := 263) (i := 4) (by decide +kernel) rfl ?_
  refine he_iconst (n := 264) (c := 3) (by decide +kernel) (by decide) ?_
  intro c263 hc263
  refine he_iadd (n := 265) (by decide +kernel) (by omega) (by omega) ?_
  intro v264 hv264
  refine lb_ld (n := 266) (m := n + 3) h0 (by decide +kernel) (by omega) (by omega) ?_
  refine he_v3 (n := 269) (j := 4) (ci := 0) (mx := 4) (ns := [3068, 3069, 3070, 51]) (by decide +kernel) ((hb_kd (a := 8) hm rfl).trans rfl) (by show 0 ≤ 8; omega) (by show 4 ≤ 4; omega) ?_
  rw [mq_e4]
  refine lv_spoil (by decide) hz hm hx hl h6.2.2.2.2 hE7 ?_
  intro M1 a1 hm1 hx1 hl1 g1 t1 q1f q1_0 q1_1 q1_2 q1_3 q1L
  have h01 := (g1 0 (by decide)).trans h0
  have h21 := t1.trans h2
  show mq_R mq_PP (999 + 1) 173 269 _ [.int a1] (M1, z, u) Q
  refine he_pop_i (n := 270) (by decide +kernel) ?_
  refine he_aload (n := 271) (i := 2) (by decide +kernel) rfl ?_
  refine he_aload (n := 272) (i := 0) (by decide +kernel) rfl ?_
  refine he_iload (n := 274) (i := 4) (by decide +kernel) rfl ?_
  refine he_iconst (n := 275) (c := 1) (by decide +kernel) (by decide) ?_
  intro c274 hc274
  refine he_iadd (n := 276) (by decide +kernel) (by omega) (by omega) ?_
  intro v275 hv275
  refine lb_ld (n := 277) (m := n + 1) h01 (by decide +kernel) (by omega) (by omega) ?_
  refine he_aload (n := 278) (i := 0) (by decide +kernel) rfl ?_
  refine he_iload (n := 280) (i := 4) (by decide +kernel) rfl ?_
  refine he_iconst (n := 281) (c := 2) (by decide +kernel) (by decide) ?_
  intro c280 hc280
  refine he_iadd (n := 282) (by decide +kernel) (by omega) (by omega) ?_
  intro v281 hv281
  refine lb_ld (n := 283) (m := n + 2) h01 (by decide +kernel) (by omega) (by omega) ?_
  refine he_aload (n := 284) (i := 0) (by decide +kernel) rfl ?_
  refine he_iload (n := 286) (i := 4) (by decide +kernel) rfl ?_
  refine he_iconst (n := 287) (c := 3) (by decide +kernel) (by decide) ?_
  intro c286 hc286
  refine he_iadd (n := 288) (by decide +kernel) (by omega) (by omega) ?_
  intro v287 hv287
  refine lb_ld (n := 289) (m := n + 3) h01 (by decide +kernel) (by omega) (by omega) ?_
  refine he_v3 (n := 292) (j := 128) (ci := 9) (mx := 4) (ns := [5218, 5219, 5220, 55]) (by decide +kernel) ((hb_kd (a := 234) hm1 rfl).trans rfl) (by show 0 ≤ 8; omega) (by show 4 ≤ 4; omega) ?_
  rw [mq_e128]
  refine lv_mspoil (by decide) hz hm1 hx1 hl1 ?_
  intro M2 a2 hm2 hx2 hl2 g2 t2 q2f q2_0 q2_1 q2_2 q2L
  have h02 := (g2 0 (by decide)).trans h01
  have h22 := t2.trans h21
  show mq_R mq_PP (999 + 1) 173 292 _ [.int a2] (M2, z, u) Q
  refine he_pop_i (n := 293) (by decide +kernel) ?_
  refine he_goto (t := 665) (by decide +kernel) ?_
  have h6m : l6 M M1 := l6_hi q1f h6
  have hrm : lrr M M1 := lz_m hr (lz_hi q1f)
  have g81 : M1 1 = M 1 := g1 1 (by decide)
  have h6e := l6_spoil h6m.2.2.2.1 (l6_len hrm) hm1 q1_2 q2_2 q2_0.2.2.1
  have hd : lr M2 ∧ True := ⟨lz_c (lz_m (lz_c (lz_m hr (lz_hi q1f)) q1_0) q2_0) (lz_lo q2f), trivial⟩
  have h62 : l6 M2 M2 := l6_lo q2f ⟨l6a_k q1_0.1.1 q1_2.1.1 q2_1.1 h6m.1, l6b_k q1_0.1.2.1 q1_2.1.2.1 q2_1.2 h6m.2.1, l6r_k q1_0.1.2.2.1 q1_2.1.2.2 q2_0.2.1 q2_0.1.2.2 h6m.2.2.1, h6e.2, l6t_k q1_1 g81 h6m.2.2.2.2⟩
  have hE2 : xEA M2 := xEA_k (fun b p q => q2f b (by omega)) q1_3
  have hL2 : xLE (cvw M2) (mvw M2) := xLE_k (xLE_k (xLE_k hL7 xLK_r (xLK_m (hb_vc (q1f 234 (by decide) (by decide)) 30) ⟨q1f 257 (by decide) (by decide), q1f 258 (by decide) (by decide), q1f 259 (by decide) (by decide), q1f 260 (by decide) (by decide)⟩)) q1L q2L) (xLK_c (hb_vc (q2f 8 (by decide)) 4) (fun i hi => ⟨q2f _ (by omega), q2f _ (by omega)⟩)) xLK_r
  exact k M2 z u _ _ (by omega) (by omega) (by omega) ⟨hm2, hx2, hl2, ⟨hd.1, h62, hE2, hL2⟩, h02, _, h22⟩
theorem lc_4 {N n z u : Nat} {xs : Nat → Int32} {M : Nat → mq_C} {Q : (Option Value ⊕ Nat) → mq_S → Prop} {i : Int32} {o5 o6 : Option Value} (hN : N ≤ 2048) (hn : n + 4 ≤ N) (hi : i.toInt = (n : Int)) (hz : 272 ≤ z) (hj : LJ N xs M)
    (k : ∀ (M' : Nat → mq_C) (z' u' : Nat) (o5' o6' : Option Value), z ≤ z' → z' ≤ z + 1 → u' ≤ u + 6 → LJ N xs M' → mq_R mq_PP 1000 173 665 [some (.ref 0), some (.ref 8), some (.ref 234), some (.ref 271), some (.int i), o5', o6'] [] (M', z', u') Q) : mq_R mq_PP 1000 173 296 [some (.ref 0), some (.ref 8), some (.ref 234), some (.ref 271), some (.int i), o5, o6] [] (M, z, u) Q := by
  obtain ⟨hm, hx, hl, ⟨hr, h6, hE7, hL7⟩, h0, w0, h2⟩ := hj
  have hm0 := hm
  refine he_aload (n := 297) (i := 1) (by decide +kernel) rfl ?_
  refine he_aload (n := 298) (i := 0) (by decide +kernel) rfl ?_
  refine he_iload (n := 300) (i := 4) (by decide +kernel) rfl ?_
  refine he_iconst (n := 301) (c := 1) (by decide +kernel) (by decide) ?_
  intro c300 hc300
  refine he_iadd (n := 302) (by decide +kernel) (by omega) (by omega) ?_
  intro v301 hv301
  refine lb_ld (n := 303) (m := n + 1) h0 (by decide +kernel) (by omega) (by omega) ?_
  refine he_aload (n := 304) (i := 0) (by decide +kernel) rfl ?_
  refine he_iload (n := 306) (i := 4) (by decide +kernel) rfl ?_
  refine he_iconst (n := 307) (c := 2) (by decide +kernel) (by decide) ?_
  intro c306 hc306
  refine he_iadd (n := 308) (by decide +kernel) (by omega) (by omega) ?_
  intro v307 hv307
  refine lb_ld (n := 309) (m := n + 2) h0 (by decide +kernel) (by omega) (by omega) ?_
  refine he_v2 (n := 312) (j := 5) (ci := 0) (mx := 3) (ns := [3076, 3077, 3078, 56]) (by decide +kernel) ((hb_kd (a := 8) hm rfl).trans rfl) (by show 0 ≤ 8; omega) (by show 3 ≤ 3; omega) ?_
  rw [mq_e5]
  refine lv_peek (by decide) hz hm hx hl ?_
  intro M1 a1 hm1 hx1 hl1 g1 t1 q1f q1_0 q1_1 q1_2 q1_3 q1_4 q1L
  have h01 := (g1 0 (by decide)).trans h0
  have h21 := t1.trans h2
  show mq_R mq_PP (999 + 1) 173 312 _ [.int a1] (M1, z, u) Q
  refine he_pop_i (n := 313) (by decide +kernel) ?_
  refine he_aload (n := 314) (i := 2) (by decide +kernel) rfl ?_
  refine he_aload (n := 315) (i := 0) (by decide +kernel) rfl ?_
  refine he_iload (n := 317) (i := 4) (by decide +kernel) rfl ?_
  refine he_iconst (n := 318) (c := 1) (by decide +kernel) (by decide) ?_
  intro c317 hc317
  refine he_iadd (n := 319) (by decide +kernel) (by omega) (by omega) ?_
  intro v318 hv318
  refine lb_ld (n := 320) (m := n + 1) h01 (by decide +kernel) (by omega) (by omega) ?_
  refine he_aload (n := 321) (i := 0) (by decide +kernel) rfl ?_
  refine he_iload (n := 323) (i := 4) (by decide +kernel) rfl ?_
  refine he_iconst (n := 324) (c := 2) (by decide +kernel) (by decide) ?_
  intro c323 hc323
  refine he_iadd (n := 325) (by decide +kernel) (by omega) (by omega) ?_
  intro v324 hv324
  refine lb_ld (n := 326) (m := n + 2) h01 (by decide +kernel) (by omega) (by omega) ?_
  refine he_v2 (n := 329) (j := 129) (ci := 9) (mx := 3) (ns := [5222, 5223, 5224, 59]) (by decide +kernel) ((hb_kd (a := 234) hm1 rfl).trans rfl) (by show 0 ≤ 8; omega) (by show 3 ≤ 3; omega) ?_
  rw [mq_e129]
  refine lv_mpeek (by decide) hz hm1 hx1 hl1 ?_
  intro M2 a2 hm2 hx2 hl2 g2 t2 q2f q2_0 q2_1 q2_2 q2L
  have h02 := (g2 0 (by decide)).trans h01
  have h22 := t2.trans h21
  show mq_R mq_PP (999 + 1) 173 329 _ [.int a2] (M2, z, u) Q
  refine he_pop_i (n := 330) (by decide +kernel) ?_
  refine he_goto (t := 665) (by decide +kernel) ?_
  have h6m : l6 M M1 := l6_hi q1f h6
  have hrm : lrr M M1 := lz_m hr (lz_hi q1f)
  have g81 : M1 1 = M 1 := g1 1 (by decide)
  have hd : lr M2 ∧ a1.toInt = a2.toInt := ⟨lz_c (lz_m (lz_c (lz_m hr (lz_hi q1f)) q1_0) q2_0) (lz_lo q2f), l6_peek h6m.2.2.2.1 (l6_len hrm) q1_3 q2_2⟩
  have h62 : l6 M2 M2 := l6_keep h6 q1_0.1.1 q1_0.1.2.1 q1_0.1.2.2.1 q1_1.1 q1_1.2 q1_2 g81 q1f q2_0.1.2.2 q2_1.1 q2_1.2.1 q2_0.2.1 q2_1.2.2 q2_0.2.2.1 q2f
  have hE2 : xEA M2 := xEA_k (fun b p q => q2f b (by omega)) (xEA_k q1_4 hE7)
  have hL2 : xLE (cvw M2) (mvw M2) := xLE_k (xLE_k (xLE_k hL7 xLK_r (xLK_m (hb_vc (q1f 234 (by decide) (by decide)) 30) ⟨q1f 257 (by decide) (by decide), q1f 258 (by decide) (by decide), q1f 259 (by decide) (by decide), q1f 260 (by decide) (by decide)⟩)) q1L q2L) (xLK_c (hb_vc (q2f 8 (by decide)) 4) (fun i hi => ⟨q2f _ (by omega), q2f _ (by omega)⟩)) xLK_r
  exact k M2 z u _ _ (by omega) (by omega) (by omega) ⟨hm2, hx2, hl2, ⟨hd.1, h62, hE2, hL2⟩, h02, _, h22⟩
theorem lc_5 {N n z u : Nat} {xs : Nat → Int32} {M : Nat → mq_C} {Q : (Option Value ⊕ Nat) → mq_S → Prop} {i : Int32} {o5 o6 : Option Value} (hN : N ≤ 2048) (hn : n + 4 ≤ N) (hi : i.toInt = (n : Int)) (hz : 272 ≤ z) (hj : LJ N xs M)
    (k : ∀ (M' : Nat → mq_C) (z' u' : Nat) (o5' o6' : Option Value), z ≤ z' → z' ≤ z + 1 → u' ≤ u + 6 → LJ N xs M' → mq_R mq_PP 1000 173 665 [some (.ref 0), some (.ref 8), some (.ref 234), some (.ref 271), some (.int i), o5', o6'] [] (M', z', u') Q) : mq_R mq_PP 1000 173 333 [some (.ref 0), some (.ref 8), some (.ref 234), some (.ref 271), some (.int i), o5, o6] [] (M, z, u) Q := by
  obtain ⟨hm, hx, hl, ⟨hr, h6, hE7, hL7⟩, h0, w0, h2⟩ := hj
  have hm0 := hm
  refine he_aload (n := 334) (i := 1) (by decide +kernel) rfl ?_
  refine he_aload (n := 335) (i := 0) (by decide +kernel) rfl ?_
  refine he_iload (n := 337) (i := 4) (by decide +kernel) rfl ?_
  refine he_iconst (n := 338) (c := 1) (by decide +kernel) (by decide) ?_
  intro c337 hc337
  refine he_iadd (n := 339) (by decide +kernel) (by omega) (by omega) ?_
  intro v338 hv338
  refine lb_ld (n := 340) (m := n + 1) h0 (by decide +kernel) (by omega) (by omega) ?_
  refine he_v1 (n := 343) (j := 6) (ci := 0) (mx := 3) (ns := [3080, 3081, 3082, 60]) (by decide +kernel) ((hb_kd (a := 8) hm rfl).trans rfl) (by show 0 ≤ 8; omega) (by show 2 ≤ 3; omega) ?_
  rw [mq_e6]
  refine lv_open (by decide) hz hm hx hl ?_
  intro M1 a1 hm1 hx1 hl1 g1 t1 q1f q1_0 q1_1 q1_2 q1_3 q1_4
  have h01 := (g1 0 (by decide)).trans h0
  have h21 := t1.trans h2
  show mq_R mq_PP (999 + 1) 173 343 _ [.int a1] (M1, z, u) Q
  refine he_pop_i (n := 344) (by decide +kernel) ?_
  refine he_aload (n := 345) (i := 2) (by decide +kernel) rfl ?_
  refine he_aload (n := 346) (i := 0) (by decide +kernel) rfl ?_
  refine he_iload (n := 348) (i := 4) (by decide +kernel) rfl ?_
  refine he_iconst (n := 349) (c := 1) (by decide +kernel) (by decide) ?_
  intro c348 hc348
  refine he_iadd (n := 350) (by decide +kernel) (by omega) (by omega) ?_
  intro v349 hv349
  refine lb_ld (n := 351) (m := n + 1) h01 (by decide +kernel) (by omega) (by omega) ?_
  refine he_v1 (n := 354) (j := 140) (ci := 9) (mx := 2) (ns := [5226, 5227, 5228, 64]) (by decide +kernel) ((hb_kd (a := 234) hm1 rfl).trans rfl) (by show 0 ≤ 8; omega) (by show 2 ≤ 2; omega) ?_
  rw [mq_e140]
  refine lv_mopen (by decide) hz hm1 hx1 hl1 ?_
  intro M2 a2 hm2 hx2 hl2 g2 t2 q2f q2_0 q2_1 q2_2
  have h02 := (g2 0 (by decide)).trans h01
  have h22 := t2.trans h21
  show mq_R mq_PP (999 + 1) 173 354 _ [.int a2] (M2, z, u) Q
  refine he_pop_i (n := 355) (by decide +kernel) ?_
  refine he_goto (t := 665) (by decide +kernel) ?_
  have h6m : l6 M M1 := l6_hi q1f h6
  have hrm : lrr M M1 := lz_m hr (lz_hi q1f)
  have g81 : M1 1 = M 1 := g1 1 (by decide)
  have hd : lr M2 ∧ True := ⟨lz_c (lz_m (lz_c (lz_m hr (lz_hi q1f)) q1_0) q2_0) (lz_lo q2f), trivial⟩
  have h62 : l6 M2 M2 := l6_keep h6 q1_0.1.1 q1_0.1.2.1 q1_0.1.2.2.1 q1_1.1 q1_1.2 q1_2 g81 q1f q2_0.1.2.2 q2_1.1 q2_1.2.1 q2_0.2.1 q2_1.2.2 q2_0.2.2.1 q2f
  have hE2 : xEA M2 := xEA_k (fun b p q => q2f b (by omega)) (xEA_k q1_4 hE7)
  have hL2 : xLE (cvw M2) (mvw M2) := xLE_k (xSo_d (xLE_k hL7 xLK_r (xLK_m (hb_vc (q1f 234 (by decide) (by decide)) 30) ⟨q1f 257 (by decide) (by decide), q1f 258 (by decide) (by decide), q1f 259 (by decide) (by decide), q1f 260 (by decide) (by decide)⟩)) q1_3 q2_2).1 (xLK_c (hb_vc (q2f 8 (by decide)) 4) (fun i hi => ⟨q2f _ (by omega), q2f _ (by omega)⟩)) xLK_r
  exact k M2 z u _ _ (by omega) (by omega) (by omega) ⟨hm2, hx2, hl2, ⟨hd.1, h62, hE2, hL2⟩, h02, _, h22⟩
theorem lc_6 {N n z u : Nat} {xs : Nat → Int32} {M : Nat → mq_C} {Q : (Option Value ⊕ Nat) → mq_S → Prop} {i : Int32} {o5 o6 : Option Value} (hN : N ≤ 2048) (hn : n + 4 ≤ N) (hi : i.toInt = (n : Int)) (hz : 272 ≤ z) (hj : LJ N xs M)
    (k : ∀ (M' : Nat → mq_C) (z' u' : Nat) (o5' o6' : Option Value), z ≤ z' → z' ≤ z + 1 → u' ≤ u + 6 → LJ N xs M' → mq_R mq_PP 1000 173 665 [some (.ref 0), some (.ref 8), some (.ref 234), some (.ref 271), some (.int i), o5', o6'] [] (M', z', u') Q) : mq_R mq_PP 1000 173 358 [some (.ref 0), some (.ref 8), some (.ref 234), some (.ref 271), some (.int i), o5, o6] [] (M, z, u) Q := by
  obtain ⟨hm, hx, hl, ⟨hr, h6, hE7, hL7⟩, h0, w0, h2⟩ := hj
  have hm0 := hm
  refine he_aload (n := 359) (i := 1) (by decide +kernel) rfl ?_
  refine he_aload (n := 360) (i := 0) (by decide +kernel) rfl ?_
  refine he_iload (n := 362) (i := 4) (by decide +kernel) rfl ?_
  refine he_iconst (n := 363) (c := 1) (by decide +kernel) (by decide) ?_
  intro c362 hc362
  refine he_iadd (n := 364) (by decide +kernel) (by omega) (by omega) ?_
  intro v363 hv363
  refine lb_ld (n := 365) (m := n + 1) h0 (by decide +kernel) (by omega) (by omega) ?_
  refine he_aload (n := 366) (i := 0) (by decide +kernel) rfl ?_
  refine he_iload (n := 368) (i := 4) (by decide +kernel) rfl ?_
  refine he_iconst (n := 369) (c := 2) (by decide +kernel) (by decide) ?_
  intro c368 hc368
  refine he_iadd (n := 370) (by decide +kernel) (by omega) (by omega) ?_
  intro v369 hv369
  refine lb_ld (n := 371) (m := n + 2) h0 (by decide +kernel) (by omega) (by omega) ?_
  refine he_v2 (n := 374) (j := 7) (ci := 0) (mx := 3) (ns := [3088, 3089, 3090, 65]) (by decide +kernel) ((hb_kd (a := 8) hm rfl).trans rfl) (by show 0 ≤ 8; omega) (by show 3 ≤ 3; omega) ?_
  rw [mq_e7]
  refine lv_append (by decide) hz hm hx hl ?_
  intro M1 a1 hm1 hx1 hl1 g1 t1 q1f q1_0 q1_1 q1_2 q1_3 q1_4
  have h01 := (g1 0 (by decide)).trans h0
  have h21 := t1.trans h2
  show mq_R mq_PP (999 + 1) 173 374 _ [.int a1] (M1, z, u) Q
  refine he_pop_i (n := 375) (by decide +kernel) ?_
  refine he_aload (n := 376) (i := 2) (by decide +kernel) rfl ?_
  refine he_aload (n := 377) (i := 0) (by decide +kernel) rfl ?_
  refine he_iload (n := 379) (i := 4) (by decide +kernel) rfl ?_
  refine he_iconst (n := 380) (c := 1) (by decide +kernel) (by decide) ?_
  intro c379 hc379
  refine he_iadd (n := 381) (by decide +kernel) (by omega) (by omega) ?_
  intro v380 hv380
  refine lb_ld (n := 382) (m := n + 1) h01 (by decide +kernel) (by omega) (by omega) ?_
  refine he_aload (n := 383) (i := 0) (by decide +kernel) rfl ?_
  refine he_iload (n := 385) (i := 4) (by decide +kernel) rfl ?_
  refine he_iconst (n := 386) (c := 2) (by decide +kernel) (by decide) ?_
  intro c385 hc385
  refine he_iadd (n := 387) (by decide +kernel) (by omega) (by omega) ?_
  intro v386 hv386
  refine lb_ld (n := 388) (m := n + 2) h01 (by decide +kernel) (by omega) (by omega) ?_
  refine he_v2 (n := 391) (j := 141) (ci := 9) (mx := 3) (ns := [5230, 5231, 5232, 68]) (by decide +kernel) ((hb_kd (a := 234) hm1 rfl).trans rfl) (by show 0 ≤ 8; omega) (by show 3 ≤ 3; omega) ?_
  rw [mq_e141]
  refine lv_mappend (by decide) hz hm1 hx1 hl1 ?_
  intro M2 a2 hm2 hx2 hl2 g2 t2 q2f q2_0 q2_1 q2_2
  have h02 := (g2 0 (by decide)).trans h01
  have h22 := t2.trans h21
  show mq_R mq_PP (999 + 1) 173 391 _ [.int a2] (M2, z, u) Q
  refine he_pop_i (n := 392) (by decide +kernel) ?_
  refine he_goto (t := 665) (by decide +kernel) ?_
  have h6m : l6 M M1 := l6_hi q1f h6
  have hrm : lrr M M1 := lz_m hr (lz_hi q1f)
  have g81 : M1 1 = M 1 := g1 1 (by decide)
  have hd : lr M2 ∧ True := ⟨lz_c (lz_m (lz_c (lz_m hr (lz_hi q1f)) q1_0) q2_0) (lz_lo q2f), trivial⟩
  have h62 : l6 M2 M2 := l6_keep h6 q1_0.1.1 q1_0.1.2.1 q1_0.1.2.2.1 q1_1.1 q1_1.2 q1_2 g81 q1f q2_0.1.2.2 q2_1.1 q2_1.2.1 q2_0.2.1 q2_1.2.2 q2_0.2.2.1 q2f
  have hE2 : xEA M2 := xEA_k (fun b p q => q2f b (by omega)) (xEA_k q1_4 hE7)
  have hL2 : xLE (cvw M2) (mvw M2) := xLE_k (xSa_d (xx_rng (c := _) hm (a := 8) (i := 4) (lo := 0) (hi := 4) rfl (by decide) rfl).2 (xLE_k hL7 xLK_r (xLK_m (hb_vc (q1f 234 (by decide) (by decide)) 30) ⟨q1f 257 (by decide) (by decide), q1f 258 (by decide) (by decide), q1f 259 (by decide) (by decide), q1f 260 (by decide) (by decide)⟩)) q1_3 q2_2).1 (xLK_c (hb_vc (q2f 8 (by decide)) 4) (fun i hi => ⟨q2f _ (by omega), q2f _ (by omega)⟩)) xLK_r
  exact k M2 z u _ _ (by omega) (by omega) (by omega) ⟨hm2, hx2, hl2, ⟨hd.1, h62, hE2, hL2⟩, h02, _, h22⟩
theorem lc_7 {N n z u : Nat} {xs : Nat → Int32} {M : Nat → mq_C} {Q : (Option Value ⊕ Nat) → mq_S → Prop} {i : Int32} {o5 o6 : Option Value} (hN : N ≤ 2048) (hn : n + 4 ≤ N) (hi : i.toInt = (n : Int)) (hz : 272 ≤ z) (hj : LJ N xs M)
    (k : ∀ (M' : Nat → mq_C) (z' u' : Nat) (o5' o6' : Option Value), z ≤ z' → z' ≤ z + 1 → u' ≤ u + 6 → LJ N xs M' → mq_R mq_PP 1000 173 665 [some (.ref 0), some (.ref 8), some (.ref 234), some (.ref 271), some (.int i), o5', o6'] [] (M', z', u') Q) : mq_R mq_PP 1000 173 395 [some (.ref 0), some (.ref 8), some (.ref 234), some (.ref 271), some (.int i), o5, o6] [] (M, z, u) Q := by
  obtain ⟨hm, hx, hl, ⟨hr, h6, hE7, hL7⟩, h0, w0, h2⟩ := hj
  have hm0 := hm
  refine he_aload (n := 396) (i := 1) (by decide +kernel) rfl ?_
  refine he_aload (n := 397) (i := 0) (by decide +kernel) rfl ?_
  refine he_iload (n := 399) (i := 4) (by decide +kernel) rfl ?_
  refine he_iconst (n := 400) (c := 1) (by decide +kernel) (by decide) ?_
  intro c399 hc399
  refine he_iadd (n := 401) (by decide +kernel) (by omega) (by omega) ?_
  intro v400 hv400
  refine lb_ld (n := 402) (m := n + 1) h0 (by decide +kernel) (by omega) (by omega) ?_
  refine he_v1 (n := 405) (j := 8) (ci := 0) (mx := 2) (ns := [3096, 3097, 3098, 69]) (by decide +kernel) ((hb_kd (a := 8) hm rfl).trans rfl) (by show 0 ≤ 8; omega) (by show 2 ≤ 2; omega) ?_
  rw [mq_e8]
  refine lv_close (by decide) hz hm hx hl ?_
  intro M1 a1 hm1 hx1 hl1 g1 t1 q1f q1_0 q1_1 q1_2 q1_3 q1_4
  have h01 := (g1 0 (by decide)).trans h0
  have h21 := t1.trans h2
  show mq_R mq_PP (999 + 1) 173 405 _ [.int a1] (M1, z, u) Q
  refine he_pop_i (n := 406) (by decide +kernel) ?_
  refine he_aload (n := 407) (i := 2) (by decide +kernel) rfl ?_
  refine he_aload (n := 408) (i := 0) (by decide +kernel) rfl ?_
  refine he_iload (n := 410) (i := 4) (by decide +kernel) rfl ?_
  refine he_iconst (n := 411) (c := 1) (by decide +kernel) (by decide) ?_
  intro c410 hc410
  refine he_iadd (n := 412) (by decide +kernel) (by omega) (by omega) ?_
  intro v411 hv411
  refine lb_ld (n := 413) (m := n + 1) h01 (by decide +kernel) (by omega) (by omega) ?_
  refine he_v1 (n := 416) (j := 142) (ci := 9) (mx := 2) (ns := [5234, 5235, 5236, 72]) (by decide +kernel) ((hb_kd (a := 234) hm1 rfl).trans rfl) (by show 0 ≤ 8; omega) (by show 2 ≤ 2; omega) ?_
  rw [mq_e142]
  refine lv_mclose (by decide) hz hm1 hx1 hl1 ?_
  intro M2 a2 hm2 hx2 hl2 g2 t2 q2f q2_0 q2_1 q2_2
  have h02 := (g2 0 (by decide)).trans h01
  have h22 := t2.trans h21
  show mq_R mq_PP (999 + 1) 173 416 _ [.int a2] (M2, z, u) Q
  refine he_pop_i (n := 417) (by decide +kernel) ?_
  refine he_goto (t := 665) (by decide +kernel) ?_
  have h6m : l6 M M1 := l6_hi q1f h6
  have hrm : lrr M M1 := lz_m hr (lz_hi q1f)
  have g81 : M1 1 = M 1 := g1 1 (by decide)
  have hd : lr M2 ∧ True := ⟨lz_c (lz_m (lz_c (lz_m hr (lz_hi q1f)) q1_0) q2_0) (lz_lo q2f), trivial⟩
  have h62 : l6 M2 M2 := l6_keep h6 q1_0.1.1 q1_0.1.2.1 q1_0.1.2.2.1 q1_1.1 q1_1.2 q1_2 g81 q1f q2_0.1.2.2 q2_1.1 q2_1.2.1 q2_0.2.1 q2_1.2.2 q2_0.2.2.1 q2f
  have hE2 : xEA M2 := xEA_k (fun b p q => q2f b (by omega)) (xEA_k q1_4 hE7)
  have hL2 : xLE (cvw M2) (mvw M2) := xLE_k (xSc_d (xx_rng (c := _) hm (a := 8) (i := 4) (lo := 0) (hi := 4) rfl (by decide) rfl).2 (xLE_k hL7 xLK_r (xLK_m (hb_vc (q1f 234 (by decide) (by decide)) 30) ⟨q1f 257 (by decide) (by decide), q1f 258 (by decide) (by decide), q1f 259 (by decide) (by decide), q1f 260 (by decide) (by decide)⟩)) q1_3 q2_2).1 (xLK_c (hb_vc (q2f 8 (by decide)) 4) (fun i hi => ⟨q2f _ (by omega), q2f _ (by omega)⟩)) xLK_r
  exact k M2 z u _ _ (by omega) (by omega) (by omega) ⟨hm2, hx2, hl2, ⟨hd.1, h62, hE2, hL2⟩, h02, _, h22⟩
theorem lc_8 {N n z u : Nat} {xs : Nat → Int32} {M : Nat → mq_C} {Q : (Option Value ⊕ Nat) → mq_S → Prop} {i : Int32} {o5 o6 : Option Value} (hN : N ≤ 2048) (hn : n + 4 ≤ N) (hi : i.toInt = (n : Int)) (hz : 272 ≤ z) (hj : LJ N xs M)
    (k : ∀ (M' : Nat → mq_C) (z' u' : Nat) (o5' o6' : Option Value), z ≤ z' → z' ≤ z + 1 → u' ≤ u + 6 → LJ N xs M' → mq_R mq_PP 1000 173 665 [some (.ref 0), some (.ref 8), some (.ref 234), some (.ref 271), some (.int i), o5', o6'] [] (M', z', u') Q) : mq_R mq_PP 1000 173 420 [some (.ref 0), some (.ref 8), some (.ref 234), some (.ref 271), some (.int i), o5, o6] [] (M, z, u) Q := by
  obtain ⟨hm, hx, hl, ⟨hr, h6, hE7, hL7⟩, h0, w0, h2⟩ := hj
  have hm0 := hm
  refine he_aload (n := 421) (i := 1) (by decide +kernel) rfl ?_
  refine he_aload (n := 422) (i := 0) (by decide +kernel) rfl ?_
  refine he_iload (n := 424) (i := 4) (by decide +kernel) rfl ?_
  refine he_iconst (n := 425) (c := 1) (by decide +kernel) (by decide) ?_
  intro c424 hc424
  refine he_iadd (n := 426) (by decide +kernel) (by omega) (by omega) ?_
  intro v425 hv425
  refine lb_ld (n := 427) (m := n + 1) h0 (by decide +kernel) (by omega) (by omega) ?_
  refine he_aload (n := 428) (i := 0) (by decide +kernel) rfl ?_
  refine he_iload (n := 430) (i := 4) (by decide +kernel) rfl ?_
  refine he_iconst (n := 431) (c := 2) (by decide +kernel) (by decide) ?_
  intro c430 hc430
  refine he_iadd (n := 432) (by decide +kernel) (by omega) (by omega) ?_
  intro v431 hv431
  refine lb_ld (n := 433) (m := n + 2) h0 (by decide +kernel) (by omega) (by omega) ?_
  refine he_aload (n := 434) (i := 3) (by decide +kernel) rfl ?_
  refine lb_s4 (n := 437) (j := 170) (mx := 5) (ns := [3157, 3158, 1000, 73]) (by decide +kernel) (by show 0 ≤ 8; omega) (by show 4 ≤ 5; omega) ?_
  rw [show mq_en mq_PP 170 [.ref 8, .int (xs (n + 1)), .int (xs (n + 2)), .ref 271] = [some (.ref 8), some (.int (xs (n + 1))), some (.int (xs (n + 2))), some (.ref 271), none] from rfl]
  refine lh_load (by decide) hz hm hx hl h2 ?_
  intro M1 z1 u1 a1 w1 za1 zb1 ub1 hm1 hx1 hl1 g1 h21 q1f q1_0 q1_1 q1_2 q1_3 q1L
  have h01 := (g1 0 (by decide)).trans h0
  have hz1 : 272 ≤ z1 := by omega
  show mq_R mq_PP (999 + 1) 173 437 _ [.int a1] (M1, z1, u1) Q
  refine he_istore (n := 439) (i := 5) (by decide +kernel) rfl ?_
  refine he_aload (n := 440) (i := 2) (by decide +kernel) rfl ?_
  refine he_aload (n := 441) (i := 0) (by decide +kernel) rfl ?_
  refine he_iload (n := 443) (i := 4) (by decide +kernel) rfl ?_
  refine he_iconst (n := 444) (c := 1) (by decide +kernel) (by decide) ?_
  intro c443 hc443
  refine he_iadd (n := 445) (by decide +kernel) (by omega) (by omega) ?_
  intro v444 hv444
  refine lb_ld (n := 446) (m := n + 1) h01 (by decide +kernel) (by omega) (by omega) ?_
  refine he_aload (n := 447) (i := 0) (by decide +kernel) rfl ?_
  refine he_iload (n := 449) (i := 4) (by decide +kernel) rfl ?_
  refine he_iconst (n := 450) (c := 2) (by decide +kernel) (by decide) ?_
  intro c449 hc449
  refine he_iadd (n := 451) (by decide +kernel) (by omega) (by omega) ?_
  intro v450 hv450
  refine lb_ld (n := 452) (m := n + 2) h01 (by decide +kernel) (by omega) (by omega) ?_
  refine he_v2 (n := 455) (j := 156) (ci := 9) (mx := 3) (ns := [5238, 5239, 6000, 78]) (by decide +kernel) ((hb_kd (a := 234) hm1 rfl).trans rfl) (by show 0 ≤ 8; omega) (by show 3 ≤ 3; omega) ?_
  rw [mq_e156]
  refine lu_mload (by decide) hz1 hm1 hx1 hl1 ?_
  intro M2 a2 hm2 hx2 hl2 g2 t2 q2f q2_0 q2_1 q2L
  have h02 := (g2 0 (by decide)).trans h01
  have h22 := t2.trans h21
  show mq_R mq_PP (999 + 1) 173 455 _ [.int a2] (M2, z1, u1) Q
  refine he_istore (n := 457) (i := 6) (by decide +kernel) rfl ?_
  refine he_goto (t := 665) (by decide +kernel) ?_
  have h6m : l6 M M1 := l6_hi q1f h6
  have hrm : lrr M M1 := lz_m hr (lz_hi q1f)
  have g81 : M1 1 = M 1 := g1 1 (by decide)
  have hd : lr M2 ∧ True := ⟨lz_c (lz_m (lz_c (lz_m hr (lz_hi q1f)) q1_0) q2_0) (lz_lo q2f), trivial⟩
  have h62 : l6 M2 M2 := l6_keep h6 q1_0.1.1 q1_0.1.2.1 q1_0.1.2.2.1 q1_1.1 q1_1.2 q1_2 g81 q1f q2_0.1.2.2 q2_1.1 q2_1.2.1 q2_0.2.1 q2_1.2.2 q2_0.2.2.1 q2f
  have hE2 : xEA M2 := xEA_k (fun b p q => q2f b (by omega)) (xEA_k q1_3 hE7)
  have hL2 : xLE (cvw M2) (mvw M2) := xLE_k (xLE_k (xLE_k hL7 xLK_r (xLK_m (hb_vc (q1f 234 (by decide) (by decide)) 30) ⟨q1f 257 (by decide) (by decide), q1f 258 (by decide) (by decide), q1f 259 (by decide) (by decide), q1f 260 (by decide) (by decide)⟩)) q1L q2L) (xLK_c (hb_vc (q2f 8 (by decide)) 4) (fun i hi => ⟨q2f _ (by omega), q2f _ (by omega)⟩)) xLK_r
  exact k M2 z1 u1 _ _ (by omega) (by omega) (by omega) ⟨hm2, hx2, hl2, ⟨hd.1, h62, hE2, hL2⟩, h02, _, h22⟩
theorem lc_9 {N n z u : Nat} {xs : Nat → Int32} {M : Nat → mq_C} {Q : (Option Value ⊕ Nat) → mq_S → Prop} {i : Int32} {o5 o6 : Option Value} (hN : N ≤ 2048) (hn : n + 4 ≤ N) (hi : i.toInt = (n : Int)) (hz : 272 ≤ z) (hj : LJ N xs M)
    (k : ∀ (M' : Nat → mq_C) (z' u' : Nat) (o5' o6' : Option Value), z ≤ z' → z' ≤ z + 1 → u' ≤ u + 6 → LJ N xs M' → mq_R mq_PP 1000 173 665 [some (.ref 0), some (.ref 8), some (.ref 234), some (.ref 271), some (.int i), o5', o6'] [] (M', z', u') Q) : mq_R mq_PP 1000 173 460 [some (.ref 0), some (.ref 8), some (.ref 234), some (.ref 271), some (.int i), o5, o6] [] (M, z, u) Q := by
  obtain ⟨hm, hx, hl, ⟨hr, h6, hE7, hL7⟩, h0, w0, h2⟩ := hj
  have hm0 := hm
  refine he_aload (n := 461) (i := 1) (by decide +kernel) rfl ?_
  refine he_v0 (n := 464) (j := 10) (ci := 0) (mx := 1) (ns := [3100, 3101, 3102, 79]) (by decide +kernel) ((hb_kd (a := 8) hm rfl).trans rfl) (by show 0 ≤ 8; omega) (by show 1 ≤ 1; omega) ?_
  rw [mq_e10]
  refine lv_fault (by decide) hz hm hx hl ?_
  intro M1 a1 hm1 hx1 hl1 g1 t1 q1f q1_0 q1_1 q1_2 q1_3 q1L
  have h01 := (g1 0 (by decide)).trans h0
  have h21 := t1.trans h2
  show mq_R mq_PP (999 + 1) 173 464 _ [.int a1] (M1, z, u) Q
  refine he_pop_i (n := 465) (by decide +kernel) ?_
  refine he_aload (n := 466) (i := 2) (by decide +kernel) rfl ?_
  refine he_v0 (n := 469) (j := 157) (ci := 9) (mx := 1) (ns := [6093, 6094, 6095, 82]) (by decide +kernel) ((hb_kd (a := 234) hm1 rfl).trans rfl) (by show 0 ≤ 8; omega) (by show 1 ≤ 1; omega) ?_
  rw [mq_e157]
  refine lu_mfault (by decide) hz hm1 hx1 hl1 ?_
  intro M2 a2 hm2 hx2 hl2 g2 t2 q2f q2_0 q2_1 q2L
  have h02 := (g2 0 (by decide)).trans h01
  have h22 := t2.trans h21
  show mq_R mq_PP (999 + 1) 173 469 _ [.int a2] (M2, z, u) Q
  refine he_pop_i (n := 470) (by decide +kernel) ?_
  refine he_goto (t := 665) (by decide +kernel) ?_
  have h6m : l6 M M1 := l6_hi q1f h6
  have hrm : lrr M M1 := lz_m hr (lz_hi q1f)
  have g81 : M1 1 = M 1 := g1 1 (by decide)
  have hd : lr M2 ∧ True := ⟨lz_c (lz_m (lz_c (lz_m hr (lz_hi q1f)) q1_0) q2_0) (lz_lo q2f), trivial⟩
  have h62 : l6 M2 M2 := l6_keep h6 q1_0.1.1 q1_0.1.2.1 q1_0.1.2.2.1 q1_1.1 q1_1.2 q1_2 g81 q1f q2_0.1.2.2 q2_1.1 q2_1.2.1 q2_0.2.1 q2_1.2.2 q2_0.2.2.1 q2f
  have hE2 : xEA M2 := xEA_k (fun b p q => q2f b (by omega)) (xEA_k q1_3 hE7)
  have hL2 : xLE (cvw M2) (mvw M2) := xLE_k (xLE_k (xLE_k hL7 xLK_r (xLK_m (hb_vc (q1f 234 (by decide) (by decide)) 30) ⟨q1f 257 (by decide) (by decide), q1f 258 (by decide) (by decide), q1f 259 (by decide) (by decide), q1f 260 (by decide) (by decide)⟩)) q1L q2L) (xLK_c (hb_vc (q2f 8 (by decide)) 4) (fun i hi => ⟨q2f _ (by omega), q2f _ (by omega)⟩)) xLK_r
  exact k M2 z u _ _ (by omega) (by omega) (by omega) ⟨hm2, hx2, hl2, ⟨hd.1, h62, hE2, hL2⟩, h02, _, h22⟩
theorem lc_10 {N n z u : Nat} {xs : Nat → Int32} {M : Nat → mq_C} {Q : (Option Value ⊕ Nat) → mq_S → Prop} {i : Int32} {o5 o6 : Option Value} (hN : N ≤ 2048) (hn : n + 4 ≤ N) (hi : i.toInt = (n : Int)) (hz : 272 ≤ z) (hj : LJ N xs M)
    (k : ∀ (M' : Nat → mq_C) (z' u' : Nat) (o5' o6' : Option Value), z ≤ z' → z' ≤ z + 1 → u' ≤ u + 6 → LJ N xs M' → mq_R mq_PP 1000 173 665 [some (.ref 0), some (.ref 8), some (.ref 234), some (.ref 271), some (.int i), o5', o6'] [] (M', z', u') Q) : mq_R mq_PP 1000 173 473 [some (.ref 0), some (.ref 8), some (.ref 234), some (.ref 271), some (.int i), o5, o6] [] (M, z, u) Q := by
  obtain ⟨hm, hx, hl, ⟨hr, h6, hE7, hL7⟩, h0, w0, h2⟩ := hj
  have hm0 := hm
  refine he_aload (n := 474) (i := 1) (by decide +kernel) rfl ?_
  refine he_v0 (n := 477) (j := 11) (ci := 0) (mx := 1) (ns := [3104, 3105, 3106, 83]) (by decide +kernel) ((hb_kd (a := 8) hm rfl).trans rfl) (by show 0 ≤ 8; omega) (by show 1 ≤ 1; omega) ?_
  rw [mq_e11]
  refine lv_culprit (by decide) hz hm hx hl ?_
  intro M1 a1 hm1 hx1 hl1 g1 t1 q1f q1_0 q1_1 q1_2 q1_3 q1L
  have h01 := (g1 0 (by decide)).trans h0
  have h21 := t1.trans h2
  show mq_R mq_PP (999 + 1) 173 477 _ [.int a1] (M1, z, u) Q
  refine he_pop_i (n := 478) (by decide +kernel) ?_
  refine he_aload (n := 479) (i := 2) (by decide +kernel) rfl ?_
  refine he_v0 (n := 482) (j := 158) (ci := 9) (mx := 1) (ns := [6097, 6098, 6099, 86]) (by decide +kernel) ((hb_kd (a := 234) hm1 rfl).trans rfl) (by show 0 ≤ 8; omega) (by show 1 ≤ 1; omega) ?_
  rw [mq_e158]
  refine lu_mculprit (by decide) hz hm1 hx1 hl1 ?_
  intro M2 a2 hm2 hx2 hl2 g2 t2 q2f q2_0 q2_1 q2L
  have h02 := (g2 0 (by decide)).trans h01
  have h22 := t2.trans h21
  show mq_R mq_PP (999 + 1) 173 482 _ [.int a2] (M2, z, u) Q
  refine he_pop_i (n := 483) (by decide +kernel) ?_
  refine he_goto (t := 665) (by decide +kernel) ?_
  have h6m : l6 M M1 := l6_hi q1f h6
  have hrm : lrr M M1 := lz_m hr (lz_hi q1f)
  have g81 : M1 1 = M 1 := g1 1 (by decide)
  have hd : lr M2 ∧ True := ⟨lz_c (lz_m (lz_c (lz_m hr (lz_hi q1f)) q1_0) q2_0) (lz_lo q2f), trivial⟩
  have h62 : l6 M2 M2 := l6_keep h6 q1_0.1.1 q1_0.1.2.1 q1_0.1.2.2.1 q1_1.1 q1_1.2 q1_2 g81 q1f q2_0.1.2.2 q2_1.1 q2_1.2.1 q2_0.2.1 q2_1.2.2 q2_0.2.2.1 q2f
  have hE2 : xEA M2 := xEA_k (fun b p q => q2f b (by omega)) (xEA_k q1_3 hE7)
  have hL2 : xLE (cvw M2) (mvw M2) := xLE_k (xLE_k (xLE_k hL7 xLK_r (xLK_m (hb_vc (q1f 234 (by decide) (by decide)) 30) ⟨q1f 257 (by decide) (by decide), q1f 258 (by decide) (by decide), q1f 259 (by decide) (by decide), q1f 260 (by decide) (by decide)⟩)) q1L q2L) (xLK_c (hb_vc (q2f 8 (by decide)) 4) (fun i hi => ⟨q2f _ (by omega), q2f _ (by omega)⟩)) xLK_r
  exact k M2 z u _ _ (by omega) (by omega) (by omega) ⟨hm2, hx2, hl2, ⟨hd.1, h62, hE2, hL2⟩, h02, _, h22⟩
theorem lc_11 {N n z u : Nat} {xs : Nat → Int32} {M : Nat → mq_C} {Q : (Option Value ⊕ Nat) → mq_S → Prop} {i : Int32} {o5 o6 : Option Value} (hN : N ≤ 2048) (hn : n + 4 ≤ N) (hi : i.toInt = (n : Int)) (hz : 272 ≤ z) (hj : LJ N xs M)
    (k : ∀ (M' : Nat → mq_C) (z' u' : Nat) (o5' o6' : Option Value), z ≤ z' → z' ≤ z + 1 → u' ≤ u + 6 → LJ N xs M' → mq_R mq_PP 1000 173 665 [some (.ref 0), some (.ref 8), some (.ref 234), some (.ref 271), some (.int i), o5', o6'] [] (M', z', u') Q) : mq_R mq_PP 1000 173 486 [some (.ref 0), some (.ref 8), some (.ref 234), some (.ref 271), some (.int i), o5, o6] [] (M, z, u) Q := by
  obtain ⟨hm, hx, hl, ⟨hr, h6, hE7, hL7⟩, h0, w0, h2⟩ := hj
  have hm0 := hm
  refine he_aload (n := 487) (i := 1) (by decide +kernel) rfl ?_
  refine he_aload (n := 488) (i := 0) (by decide +kernel) rfl ?_
  refine he_iload (n := 490) (i := 4) (by decide +kernel) rfl ?_
  refine he_iconst (n := 491) (c := 1) (by decide +kernel) (by decide) ?_
  intro c490 hc490
  refine he_iadd (n := 492) (by decide +kernel) (by omega) (by omega) ?_
  intro v491 hv491
  refine lb_ld (n := 493) (m := n + 1) h0 (by decide +kernel) (by omega) (by omega) ?_
  refine he_aload (n := 494) (i := 0) (by decide +kernel) rfl ?_
  refine he_iload (n := 496) (i := 4) (by decide +kernel) rfl ?_
  refine he_iconst (n := 497) (c := 2) (by decide +kernel) (by decide) ?_
  intro c496 hc496
  refine he_iadd (n := 498) (by decide +kernel) (by omega) (by omega) ?_
  intro v497 hv497
  refine lb_ld (n := 499) (m := n + 2) h0 (by decide +kernel) (by omega) (by omega) ?_
  refine he_v2 (n := 502) (j := 12) (ci := 0) (mx := 3) (ns := [3108, 3109, 3110, 87]) (by decide +kernel) ((hb_kd (a := 8) hm rfl).trans rfl) (by show 0 ≤ 8; omega) (by show 3 ≤ 3; omega) ?_
  rw [mq_e12]
  refine lv_type (by decide) hz hm hx hl ?_
  intro M1 a1 hm1 hx1 hl1 g1 t1 q1f q1_0 q1_1 q1_2 q1_3 q1L
  have h01 := (g1 0 (by decide)).trans h0
  have h21 := t1.trans h2
  show mq_R mq_PP (999 + 1) 173 502 _ [.int a1] (M1, z, u) Q
  refine he_pop_i (n := 503) (by decide +kernel) ?_
  refine he_aload (n := 504) (i := 2) (by decide +kernel) rfl ?_
  refine he_aload (n := 505) (i := 0) (by decide +kernel) rfl ?_
  refine he_iload (n := 507) (i := 4) (by decide +kernel) rfl ?_
  refine he_iconst (n := 508) (c := 1) (by decide +kernel) (by decide) ?_
  intro c507 hc507
  refine he_iadd (n := 509) (by decide +kernel) (by omega) (by omega) ?_
  intro v508 hv508
  refine lb_ld (n := 510) (m := n + 1) h01 (by decide +kernel) (by omega) (by omega) ?_
  refine he_aload (n := 511) (i := 0) (by decide +kernel) rfl ?_
  refine he_iload (n := 513) (i := 4) (by decide +kernel) rfl ?_
  refine he_iconst (n := 514) (c := 2) (by decide +kernel) (by decide) ?_
  intro c513 hc513
  refine he_iadd (n := 515) (by decide +kernel) (by omega) (by omega) ?_
  intro v514 hv514
  refine lb_ld (n := 516) (m := n + 2) h01 (by decide +kernel) (by omega) (by omega) ?_
  refine he_v2 (n := 519) (j := 159) (ci := 9) (mx := 3) (ns := [6101, 6102, 6103, 90]) (by decide +kernel) ((hb_kd (a := 234) hm1 rfl).trans rfl) (by show 0 ≤ 8; omega) (by show 3 ≤ 3; omega) ?_
  rw [mq_e159]
  refine lu_mtype (by decide) hz hm1 hx1 hl1 ?_
  intro M2 a2 hm2 hx2 hl2 g2 t2 q2f q2_0 q2_1 q2L
  have h02 := (g2 0 (by decide)).trans h01
  have h22 := t2.trans h21
  show mq_R mq_PP (999 + 1) 173 519 _ [.int a2] (M2, z, u) Q
  refine he_pop_i (n := 520) (by decide +kernel) ?_
  refine he_goto (t := 665) (by decide +kernel) ?_
  have h6m : l6 M M1 := l6_hi q1f h6
  have hrm : lrr M M1 := lz_m hr (lz_hi q1f)
  have g81 : M1 1 = M 1 := g1 1 (by decide)
  have hd : lr M2 ∧ True := ⟨lz_c (lz_m (lz_c (lz_m hr (lz_hi q1f)) q1_0) q2_0) (lz_lo q2f), trivial⟩
  have h62 : l6 M2 M2 := l6_keep h6 q1_0.1.1 q1_0.1.2.1 q1_0.1.2.2.1 q1_1.1 q1_1.2 q1_2 g81 q1f q2_0.1.2.2 q2_1.1 q2_1.2.1 q2_0.2.1 q2_1.2.2 q2_0.2.2.1 q2f
  have hE2 : xEA M2 := xEA_k (fun b p q => q2f b (by omega)) (xEA_k q1_3 hE7)
  have hL2 : xLE (cvw M2) (mvw M2) := xLE_k (xLE_k (xLE_k hL7 xLK_r (xLK_m (hb_vc (q1f 234 (by decide) (by decide)) 30) ⟨q1f 257 (by decide) (by decide), q1f 258 (by decide) (by decide), q1f 259 (by decide) (by decide), q1f 260 (by decide) (by decide)⟩)) q1L q2L) (xLK_c (hb_vc (q2f 8 (by decide)) 4) (fun i hi => ⟨q2f _ (by omega), q2f _ (by omega)⟩)) xLK_r
  exact k M2 z u _ _ (by omega) (by omega) (by omega) ⟨hm2, hx2, hl2, ⟨hd.1, h62, hE2, hL2⟩, h02, _, h22⟩
theorem lc_12 {N n z u : Nat} {xs : Nat → Int32} {M : Nat → mq_C} {Q : (Option Value ⊕ Nat) → mq_S → Prop} {i : Int32} {o5 o6 : Option Value} (hN : N ≤ 2048) (hn : n + 4 ≤ N) (hi : i.toInt = (n : Int)) (hz : 272 ≤ z) (hj : LJ N xs M)
    (k : ∀ (M' : Nat → mq_C) (z' u' : Nat) (o5' o6' : Option Value), z ≤ z' → z' ≤ z + 1 → u' ≤ u + 6 → LJ N xs M' → mq_R mq_PP 1000 173 665 [some (.ref 0), some (.ref 8), some (.ref 234), some (.ref 271), some (.int i), o5', o6'] [] (M', z', u') Q) : mq_R mq_PP 1000 173 523 [some (.ref 0), some (.ref 8), some (.ref 234), some (.ref 271), some (.int i), o5, o6] [] (M, z, u) Q := by
  obtain ⟨hm, hx, hl, ⟨hr, h6, hE7, hL7⟩, h0, w0, h2⟩ := hj
  have hm0 := hm
  refine he_aload (n := 524) (i := 1) (by decide +kernel) rfl ?_
  refine he_aload (n := 525) (i := 0) (by decide +kernel) rfl ?_
  refine he_iload (n := 527) (i := 4) (by decide +kernel) rfl ?_
  refine he_iconst (n := 528) (c := 1) (by decide +kernel) (by decide) ?_
  intro c527 hc527
  refine he_iadd (n := 529) (by decide +kernel) (by omega) (by omega) ?_
  intro v528 hv528
  refine lb_ld (n := 530) (m := n + 1) h0 (by decide +kernel) (by omega) (by omega) ?_
  refine he_aload (n := 531) (i := 0) (by decide +kernel) rfl ?_
  refine he_iload (n := 533) (i := 4) (by decide +kernel) rfl ?_
  refine he_iconst (n := 534) (c := 2) (by decide +kernel) (by decide) ?_
  intro c533 hc533
  refine he_iadd (n := 535) (by decide +kernel) (by omega) (by omega) ?_
  intro v534 hv534
  refine lb_ld (n := 536) (m := n + 2) h0 (by decide +kernel) (by omega) (by omega) ?_
  refine he_aload (n := 537) (i := 0) (by decide +kernel) rfl ?_
  refine he_iload (n := 539) (i := 4) (by decide +kernel) rfl ?_
  refine he_iconst (n := 540) (c := 3) (by decide +kernel) (by decide) ?_
  intro c539 hc539
  refine he_iadd (n := 541) (by decide +kernel) (by omega) (by omega) ?_
  intro v540 hv540
  refine lb_ld (n := 542) (m := n + 3) h0 (by decide +kernel) (by omega) (by omega) ?_
  refine he_v3 (n := 545) (j := 13) (ci := 0) (mx := 4) (ns := [3112, 3113, 3114, 91]) (by decide +kernel) ((hb_kd (a := 8) hm rfl).trans rfl) (by show 0 ≤ 8; omega) (by show 4 ≤ 4; omega) ?_
  rw [mq_e13]
  refine lv_all (by decide) hz hm hx hl hE7 ?_
  intro M1 a1 hm1 hx1 hl1 g1 t1 q1f q1_0 q1_1 q1_2 q1_3 q1_4 q1L
  have h01 := (g1 0 (by decide)).trans h0
  have h21 := t1.trans h2
  show mq_R mq_PP (999 + 1) 173 545 _ [.int a1] (M1, z, u) Q
  refine he_aload (n := 546) (i := 2) (by decide +kernel) rfl ?_
  refine he_aload (n := 547) (i := 0) (by decide +kernel) rfl ?_
  refine he_iload (n := 549) (i := 4) (by decide +kernel) rfl ?_
  refine he_iconst (n := 550) (c := 1) (by decide +kernel) (by decide) ?_
  intro c549 hc549
  refine he_iadd (n := 551) (by decide +kernel) (by omega) (by omega) ?_
  intro v550 hv550
  refine lb_ld (n := 552) (m := n + 1) h01 (by decide +kernel) (by omega) (by omega) ?_
  refine he_aload (n := 553) (i := 0) (by decide +kernel) rfl ?_
  refine he_iload (n := 555) (i := 4) (by decide +kernel) rfl ?_
  refine he_iconst (n := 556) (c := 2) (by decide +kernel) (by decide) ?_
  intro c555 hc555
  refine he_iadd (n := 557) (by decide +kernel) (by omega) (by omega) ?_
  intro v556 hv556
  refine lb_ld (n := 558) (m := n + 2) h01 (by decide +kernel) (by omega) (by omega) ?_
  refine he_aload (n := 559) (i := 0) (by decide +kernel) rfl ?_
  refine he_iload (n := 561) (i := 4) (by decide +kernel) rfl ?_
  refine he_iconst (n := 562) (c := 3) (by decide +kernel) (by decide) ?_
  intro c561 hc561
  refine he_iadd (n := 563) (by decide +kernel) (by omega) (by omega) ?_
  intro v562 hv562
  refine lb_ld (n := 564) (m := n + 3) h01 (by decide +kernel) (by omega) (by omega) ?_
  refine he_v3 (n := 567) (j := 161) (ci := 9) (mx := 4) (ns := [6105, 6106, 6107, 95]) (by decide +kernel) ((hb_kd (a := 234) hm1 rfl).trans rfl) (by show 1 ≤ 8; omega) (by show 4 ≤ 4; omega) ?_
  rw [mq_e161]
  refine lv_mall (by decide) hz hm1 hx1 hl1 hm0 hE7 (lrd_n (lz_m hr (lz_hi q1f)) (l6_hi q1f h6)) (xLE_k hL7 xLK_r (xLK_m (hb_vc (q1f 234 (by decide) (by decide)) 30) ⟨q1f 257 (by decide) (by decide), q1f 258 (by decide) (by decide), q1f 259 (by decide) (by decide), q1f 260 (by decide) (by decide)⟩)) ?_
  intro M2 a2 hm2 hx2 hl2 g2 t2 q2f q2_0 q2_1 q2_2 q2L
  have h02 := (g2 0 (by decide)).trans h01
  have h22 := t2.trans h21
  show mq_R mq_PP (999 + 1) 173 567 _ [.int a2, .int a1] (M2, z, u) Q
  have h6m : l6 M M1 := l6_hi q1f h6
  have hrm : lrr M M1 := lz_m hr (lz_hi q1f)
  have g81 : M1 1 = M 1 := g1 1 (by decide)
  have hd : lr M2 ∧ a1.toInt = a2.toInt := ⟨lz_c (lz_m (lz_c (lz_m hr (lz_hi q1f)) q1_0) q2_0) (lz_lo q2f), by rw [q1_3, q2_2]⟩
  have h62 : l6 M2 M2 := l6_keep h6 q1_0.1.1 q1_0.1.2.1 q1_0.1.2.2.1 q1_1.1 q1_1.2 q1_2 g81 q1f q2_0.1.2.2 q2_1.1 q2_1.2.1 q2_0.2.1 q2_1.2.2 q2_0.2.2.1 q2f
  have hE2 : xEA M2 := xEA_k (fun b p q => q2f b (by omega)) (xEA_k q1_4 hE7)
  have hL2 : xLE (cvw M2) (mvw M2) := xLE_k (xLE_k (xLE_k hL7 xLK_r (xLK_m (hb_vc (q1f 234 (by decide) (by decide)) 30) ⟨q1f 257 (by decide) (by decide), q1f 258 (by decide) (by decide), q1f 259 (by decide) (by decide), q1f 260 (by decide) (by decide)⟩)) q1L q2L) (xLK_c (hb_vc (q2f 8 (by decide)) 4) (fun i hi => ⟨q2f _ (by omega), q2f _ (by omega)⟩)) xLK_r
  refine he_cmpeq_t (n := 570) (t := 665) (by decide +kernel) hd.2 ?_
  exact k M2 z u _ _ (by omega) (by omega) (by omega) ⟨hm2, hx2, hl2, ⟨hd.1, h62, hE2, hL2⟩, h02, _, h22⟩
theorem lc_13 {N n z u : Nat} {xs : Nat → Int32} {M : Nat → mq_C} {Q : (Option Value ⊕ Nat) → mq_S → Prop} {i : Int32} {o5 o6 : Option Value} (hN : N ≤ 2048) (hn : n + 4 ≤ N) (hi : i.toInt = (n : Int)) (hz : 272 ≤ z) (hj : LJ N xs M)
    (k : ∀ (M' : Nat → mq_C) (z' u' : Nat) (o5' o6' : Option Value), z ≤ z' → z' ≤ z + 1 → u' ≤ u + 6 → LJ N xs M' → mq_R mq_PP 1000 173 665 [some (.ref 0), some (.ref 8), some (.ref 234), some (.ref 271), some (.int i), o5', o6'] [] (M', z', u') Q) : mq_R mq_PP 1000 173 572 [some (.ref 0), some (.ref 8), some (.ref 234), some (.ref 271), some (.int i), o5, o6] [] (M, z, u) Q := by
  obtain ⟨hm, hx, hl, ⟨hr, h6, hE7, hL7⟩, h0, w0, h2⟩ := hj
  have hm0 := hm
  refine he_aload (n := 573) (i := 1) (by decide +kernel) rfl ?_
  refine he_aload (n := 574) (i := 0) (by decide +kernel) rfl ?_
  refine he_iload (n := 576) (i := 4) (by decide +kernel) rfl ?_
  refine he_iconst (n := 577) (c := 1) (by decide +kernel) (by decide) ?_
  intro c576 hc576
  refine he_iadd (n := 578) (by decide +kernel) (by omega) (by omega) ?_
  intro v577 hv577
  refine lb_ld (n := 579) (m := n + 1) h0 (by decide +kernel) (by omega) (by omega) ?_
  refine he_aload (n := 580) (i := 0) (by decide +kernel) rfl ?_
  refine he_iload (n := 582) (i := 4) (by decide +kernel) rfl ?_
  refine he_iconst (n := 583) (c := 2) (by decide +kernel) (by decide) ?_
  intro c582 hc582
  refine he_iadd (n := 584) (by decide +kernel) (by omega) (by omega) ?_
  intro v583 hv583
  refine lb_ld (n := 585) (m := n + 2) h0 (by decide +kernel) (by omega) (by omega) ?_
  refine he_v2 (n := 588) (j := 14) (ci := 0) (mx := 3) (ns := [3148, 3149, 3150, 96]) (by decide +kernel) ((hb_kd (a := 8) hm rfl).trans rfl) (by show 0 ≤ 8; omega) (by show 3 ≤ 3; omega) ?_
  rw [mq_e14]
  refine lv_content (by decide) hz hm hx hl ?_
  intro M1 a1 hm1 hx1 hl1 g1 t1 q1f q1_0 q1_1 q1_2 q1_3 q1L
  have h01 := (g1 0 (by decide)).trans h0
  have h21 := t1.trans h2
  show mq_R mq_PP (999 + 1) 173 588 _ [.int a1] (M1, z, u) Q
  refine he_pop_i (n := 589) (by decide +kernel) ?_
  refine he_aload (n := 590) (i := 2) (by decide +kernel) rfl ?_
  refine he_aload (n := 591) (i := 0) (by decide +kernel) rfl ?_
  refine he_iload (n := 593) (i := 4) (by decide +kernel) rfl ?_
  refine he_iconst (n := 594) (c := 1) (by decide +kernel) (by decide) ?_
  intro c593 hc593
  refine he_iadd (n := 595) (by decide +kernel) (by omega) (by omega) ?_
  intro v594 hv594
  refine lb_ld (n := 596) (m := n + 1) h01 (by decide +kernel) (by omega) (by omega) ?_
  refine he_aload (n := 597) (i := 0) (by decide +kernel) rfl ?_
  refine he_iload (n := 599) (i := 4) (by decide +kernel) rfl ?_
  refine he_iconst (n := 600) (c := 2) (by decide +kernel) (by decide) ?_
  intro c599 hc599
  refine he_iadd (n := 601) (by decide +kernel) (by omega) (by omega) ?_
  intro v600 hv600
  refine lb_ld (n := 602) (m := n + 2) h01 (by decide +kernel) (by omega) (by omega) ?_
  refine he_v2 (n := 605) (j := 163) (ci := 9) (mx := 3) (ns := [6113, 6114, 6115, 99]) (by decide +kernel) ((hb_kd (a := 234) hm1 rfl).trans rfl) (by show 0 ≤ 8; omega) (by show 3 ≤ 3; omega) ?_
  rw [mq_e163]
  refine lu_mcontent (by decide) hz hm1 hx1 hl1 ?_
  intro M2 a2 hm2 hx2 hl2 g2 t2 q2f q2_0 q2_1 q2L
  have h02 := (g2 0 (by decide)).trans h01
  have h22 := t2.trans h21
  show mq_R mq_PP (999 + 1) 173 605 _ [.int a2] (M2, z, u) Q
  refine he_pop_i (n := 606) (by decide +kernel) ?_
  refine he_goto (t := 665) (by decide +kernel) ?_
  have h6m : l6 M M1 := l6_hi q1f h6
  have hrm : lrr M M1 := lz_m hr (lz_hi q1f)
  have g81 : M1 1 = M 1 := g1 1 (by decide)
  have hd : lr M2 ∧ True := ⟨lz_c (lz_m (lz_c (lz_m hr (lz_hi q1f)) q1_0) q2_0) (lz_lo q2f), trivial⟩
  have h62 : l6 M2 M2 := l6_keep h6 q1_0.1.1 q1_0.1.2.1 q1_0.1.2.2.1 q1_1.1 q1_1.2 q1_2 g81 q1f q2_0.1.2.2 q2_1.1 q2_1.2.1 q2_0.2.1 q2_1.2.2 q2_0.2.2.1 q2f
  have hE2 : xEA M2 := xEA_k (fun b p q => q2f b (by omega)) (xEA_k q1_3 hE7)
  have hL2 : xLE (cvw M2) (mvw M2) := xLE_k (xLE_k (xLE_k hL7 xLK_r (xLK_m (hb_vc (q1f 234 (by decide) (by decide)) 30) ⟨q1f 257 (by decide) (by decide), q1f 258 (by decide) (by decide), q1f 259 (by decide) (by decide), q1f 260 (by decide) (by decide)⟩)) q1L q2L) (xLK_c (hb_vc (q2f 8 (by decide)) 4) (fun i hi => ⟨q2f _ (by omega), q2f _ (by omega)⟩)) xLK_r
  exact k M2 z u _ _ (by omega) (by omega) (by omega) ⟨hm2, hx2, hl2, ⟨hd.1, h62, hE2, hL2⟩, h02, _, h22⟩
theorem lc_14 {N n z u : Nat} {xs : Nat → Int32} {M : Nat → mq_C} {Q : (Option Value ⊕ Nat) → mq_S → Prop} {i : Int32} {o5 o6 : Option Value} (hN : N ≤ 2048) (hn : n + 4 ≤ N) (hi : i.toInt = (n : Int)) (hz : 272 ≤ z) (hj : LJ N xs M)
    (k : ∀ (M' : Nat → mq_C) (z' u' : Nat) (o5' o6' : Option Value), z ≤ z' → z' ≤ z + 1 → u' ≤ u + 6 → LJ N xs M' → mq_R mq_PP 1000 173 665 [some (.ref 0), some (.ref 8), some (.ref 234), some (.ref 271), some (.int i), o5', o6'] [] (M', z', u') Q) : mq_R mq_PP 1000 173 609 [some (.ref 0), some (.ref 8), some (.ref 234), some (.ref 271), some (.int i), o5, o6] [] (M, z, u) Q := by
  obtain ⟨hm, hx, hl, ⟨hr, h6, hE7, hL7⟩, h0, w0, h2⟩ := hj
  have hm0 := hm
  refine he_aload (n := 610) (i := 1) (by decide +kernel) rfl ?_
  refine he_aload (n := 611) (i := 0) (by decide +kernel) rfl ?_
  refine he_iload (n := 613) (i := 4) (by decide +kernel) rfl ?_
  refine he_iconst (n := 614) (c := 1) (by decide +kernel) (by decide) ?_
  intro c613 hc613
  refine he_iadd (n := 615) (by decide +kernel) (by omega) (by omega) ?_
  intro v614 hv614
  refine lb_ld (n := 616) (m := n + 1) h0 (by decide +kernel) (by omega) (by omega) ?_
  refine he_aload (n := 617) (i := 0) (by decide +kernel) rfl ?_
  refine he_iload (n := 619) (i := 4) (by decide +kernel) rfl ?_
  refine he_iconst (n := 620) (c := 2) (by decide +kernel) (by decide) ?_
  intro c619 hc619
  refine he_iadd (n := 621) (by decide +kernel) (by omega) (by omega) ?_
  intro v620 hv620
  refine lb_ld (n := 622) (m := n + 2) h0 (by decide +kernel) (by omega) (by omega) ?_
  refine he_aload (n := 623) (i := 3) (by decide +kernel) rfl ?_
  refine lb_s4 (n := 626) (j := 171) (mx := 5) (ns := [4125, 4126, 1000, 100]) (by decide +kernel) (by show 0 ≤ 8; omega) (by show 4 ≤ 5; omega) ?_
  rw [show mq_en mq_PP 171 [.ref 8, .int (xs (n + 1)), .int (xs (n + 2)), .ref 271] = [some (.ref 8), some (.int (xs (n + 1))), some (.int (xs (n + 2))), some (.ref 271), none] from rfl]
  refine lh_services (by decide) hz hm hx hl h2 ?_
  intro M1 z1 u1 a1 w1 za1 zb1 ub1 hm1 hx1 hl1 g1 h21 q1f q1_0 q1_1 q1_2 q1_3 q1L
  have h01 := (g1 0 (by decide)).trans h0
  have hz1 : 272 ≤ z1 := by omega
  show mq_R mq_PP (999 + 1) 173 626 _ [.int a1] (M1, z1, u1) Q
  refine he_istore (n := 628) (i := 5) (by decide +kernel) rfl ?_
  refine he_aload (n := 629) (i := 2) (by decide +kernel) rfl ?_
  refine he_aload (n := 630) (i := 0) (by decide +kernel) rfl ?_
  refine he_iload (n := 632) (i := 4) (by decide +kernel) rfl ?_
  refine he_iconst (n := 633) (c := 1) (by decide +kernel) (by decide) ?_
  intro c632 hc632
  refine he_iadd (n := 634) (by decide +kernel) (by omega) (by omega) ?_
  intro v633 hv633
  refine lb_ld (n := 635) (m := n + 1) h01 (by decide +kernel) (by omega) (by omega) ?_
  refine he_aload (n := 636) (i := 0) (by decide +kernel) rfl ?_
  refine he_iload (n := 638) (i := 4) (by decide +kernel) rfl ?_
  refine he_iconst (n := 639) (c := 2) (by decide +kernel) (by decide) ?_
  intro c638 hc638
  refine he_iadd (n := 640) (by decide +kernel) (by omega) (by omega) ?_
  intro v639 hv639
  refine lb_ld (n := 641) (m := n + 2) h01 (by decide +kernel) (by omega) (by omega) ?_
  refine he_v2 (n := 644) (j := 164) (ci := 9) (mx := 5) (ns := [6121, 6122, 6123, 102]) (by decide +kernel) ((hb_kd (a := 234) hm1 rfl).trans rfl) (by show 0 ≤ 8; omega) (by show 3 ≤ 5; omega) ?_
  rw [mq_e164]
  refine lu_mservices (by decide) hz1 hm1 hx1 hl1 ?_
  intro M2 a2 hm2 hx2 hl2 g2 t2 q2f q2_0 q2_1 q2L
  have h02 := (g2 0 (by decide)).trans h01
  have h22 := t2.trans h21
  show mq_R mq_PP (999 + 1) 173 644 _ [.int a2] (M2, z1, u1) Q
  refine he_istore (n := 646) (i := 6) (by decide +kernel) rfl ?_
  refine he_goto (t := 665) (by decide +kernel) ?_
  have h6m : l6 M M1 := l6_hi q1f h6
  have hrm : lrr M M1 := lz_m hr (lz_hi q1f)
  have g81 : M1 1 = M 1 := g1 1 (by decide)
  have hd : lr M2 ∧ True := ⟨lz_c (lz_m (lz_c (lz_m hr (lz_hi q1f)) q1_0) q2_0) (lz_lo q2f), trivial⟩
  have h62 : l6 M2 M2 := l6_keep h6 q1_0.1.1 q1_0.1.2.1 q1_0.1.2.2.1 q1_1.1 q1_1.2 q1_2 g81 q1f q2_0.1.2.2 q2_1.1 q2_1.2.1 q2_0.2.1 q2_1.2.2 q2_0.2.2.1 q2f
  have hE2 : xEA M2 := xEA_k (fun b p q => q2f b (by omega)) (xEA_k q1_3 hE7)
  have hL2 : xLE (cvw M2) (mvw M2) := xLE_k (xLE_k (xLE_k hL7 xLK_r (xLK_m (hb_vc (q1f 234 (by decide) (by decide)) 30) ⟨q1f 257 (by decide) (by decide), q1f 258 (by decide) (by decide), q1f 259 (by decide) (by decide), q1f 260 (by decide) (by decide)⟩)) q1L q2L) (xLK_c (hb_vc (q2f 8 (by decide)) 4) (fun i hi => ⟨q2f _ (by omega), q2f _ (by omega)⟩)) xLK_r
  exact k M2 z1 u1 _ _ (by omega) (by omega) (by omega) ⟨hm2, hx2, hl2, ⟨hd.1, h62, hE2, hL2⟩, h02, _, h22⟩
theorem lc_15 {N n z u : Nat} {xs : Nat → Int32} {M : Nat → mq_C} {Q : (Option Value ⊕ Nat) → mq_S → Prop} {i : Int32} {o5 o6 : Option Value} (hN : N ≤ 2048) (hn : n + 4 ≤ N) (hi : i.toInt = (n : Int)) (hz : 272 ≤ z) (hj : LJ N xs M)
    (k : ∀ (M' : Nat → mq_C) (z' u' : Nat) (o5' o6' : Option Value), z ≤ z' → z' ≤ z + 1 → u' ≤ u + 6 → LJ N xs M' → mq_R mq_PP 1000 173 665 [some (.ref 0), some (.ref 8), some (.ref 234), some (.ref 271), some (.int i), o5', o6'] [] (M', z', u') Q) : mq_R mq_PP 1000 173 649 [some (.ref 0), some (.ref 8), some (.ref 234), some (.ref 271), some (.int i), o5, o6] [] (M, z, u) Q := by
  obtain ⟨hm, hx, hl, ⟨hr, h6, hE7, hL7⟩, h0, w0, h2⟩ := hj
  have hm0 := hm
  refine he_aload (n := 650) (i := 1) (by decide +kernel) rfl ?_
  refine he_aload (n := 651) (i := 3) (by decide +kernel) rfl ?_
  refine he_s2 (n := 654) (j := 172) (mx := 3) (ns := [4136, 4137, 1000, 103]) (by decide +kernel) (by show 0 ≤ 8; omega) (by show 2 ≤ 3; omega) ?_
  rw [show mq_en mq_PP 172 [.ref 8, .ref 271] = [some (.ref 8), some (.ref 271), none] from rfl]
  refine lh_next (by decide) hz hm hx hl h2 ?_
  intro M1 z1 u1 a1 w1 za1 zb1 ub1 hm1 hx1 hl1 g1 h21 q1f q1_0 q1_1 q1_2 q1_3 q1L
  have h01 := (g1 0 (by decide)).trans h0
  have hz1 : 272 ≤ z1 := by omega
  show mq_R mq_PP (999 + 1) 173 654 _ [.int a1] (M1, z1, u1) Q
  refine he_istore (n := 656) (i := 5) (by decide +kernel) rfl ?_
  refine he_aload (n := 657) (i := 2) (by decide +kernel) rfl ?_
  refine he_v0 (n := 660) (j := 169) (ci := 9) (mx := 3) (ns := [6126, 6127, 6128, 106]) (by decide +kernel) ((hb_kd (a := 234) hm1 rfl).trans rfl) (by show 0 ≤ 8; omega) (by show 1 ≤ 3; omega) ?_
  rw [mq_e169]
  refine lu_mnext (by decide) hz1 hm1 hx1 hl1 ?_
  intro M2 a2 hm2 hx2 hl2 g2 t2 q2f q2_0 q2_1 q2L
  have h02 := (g2 0 (by decide)).trans h01
  have h22 := t2.trans h21
  show mq_R mq_PP (999 + 1) 173 660 _ [.int a2] (M2, z1, u1) Q
  refine he_istore (n := 662) (i := 6) (by decide +kernel) rfl ?_
  refine he_goto (t := 665) (by decide +kernel) ?_
  have h6m : l6 M M1 := l6_hi q1f h6
  have hrm : lrr M M1 := lz_m hr (lz_hi q1f)
  have g81 : M1 1 = M 1 := g1 1 (by decide)
  have hd : lr M2 ∧ True := ⟨lz_c (lz_m (lz_c (lz_m hr (lz_hi q1f)) q1_0) q2_0) (lz_lo q2f), trivial⟩
  have h62 : l6 M2 M2 := l6_keep h6 q1_0.1.1 q1_0.1.2.1 q1_0.1.2.2.1 q1_1.1 q1_1.2 q1_2 g81 q1f q2_0.1.2.2 q2_1.1 q2_1.2.1 q2_0.2.1 q2_1.2.2 q2_0.2.2.1 q2f
  have hE2 : xEA M2 := xEA_k (fun b p q => q2f b (by omega)) (xEA_k q1_3 hE7)
  have hL2 : xLE (cvw M2) (mvw M2) := xLE_k (xLE_k (xLE_k hL7 xLK_r (xLK_m (hb_vc (q1f 234 (by decide) (by decide)) 30) ⟨q1f 257 (by decide) (by decide), q1f 258 (by decide) (by decide), q1f 259 (by decide) (by decide), q1f 260 (by decide) (by decide)⟩)) q1L q2L) (xLK_c (hb_vc (q2f 8 (by decide)) 4) (fun i hi => ⟨q2f _ (by omega), q2f _ (by omega)⟩)) xLK_r
  exact k M2 z1 u1 _ _ (by omega) (by omega) (by omega) ⟨hm2, hx2, hl2, ⟨hd.1, h62, hE2, hL2⟩, h02, _, h22⟩
