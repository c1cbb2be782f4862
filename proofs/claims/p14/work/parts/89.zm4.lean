/-! The model's finish, exactly. -/
theorem xrow_s {M : Nat → mq_C} {a n : Nat} : xrow M a (n + 1) = xrow M a n ++ [hv M a n] := by unfold xrow; rw [List.range_succ, List.map_append]; rfl
theorem xbz_0 {v : Int} (h0 : 0 ≤ v) (h1 : v ≤ 255) : xbz v 0 = v := by
  unfold xbz
  simp only [Nat.reduceMul, Nat.reducePow]
  omega
theorem xbz_d {v : Int} {j : Nat} : xbz (v / (2 ^ (8 * j) : Nat)) 0 = xbz v j := by
  unfold xbz
  show v / _ / ((1 : Nat) : Int) % 256 = _
  rw [show ((1 : Nat) : Int) = 1 from rfl, Int.ediv_one]
theorem xnz_16 {v w : Int} (h : w = v / (2 ^ 16 : Nat)) : xnz v 4 = xnz v 2 ++ xnz w 2 := by
  show [xbz v 0, xbz v 1, xbz v 2, xbz v 3] = [xbz v 0, xbz v 1, xbz w 0, xbz w 1]
  have e2 : xbz w 0 = xbz v 2 := by rw [h]; exact xbz_d (j := 2)
  have e3 : xbz w 1 = xbz v 3 := by
    rw [h]
    unfold xbz
    simp only [Nat.reduceMul, Nat.reducePow]
    omega
  rw [e2, e3]
theorem ym_fin_a {d z u s : Nat} {Mb : Nat → mq_C} {Q : (Option Value ⊕ Nat) → mq_S → Prop} {x1 : Int32} (hs : x1.toInt = (s : Int)) (h4 : s < 4) (hz : hv Mb 236 s = 0) {B : Nat} (hB : hv Mb 234 17 = (B : Int)) (hT : (B : Int) + 4 ≤ 240) {o3 o4 : Option Value} (K : ∀ (M : Nat → mq_C) (i : Int32), yGR s Mb M (xrow Mb 250 B) → mq_R mq_PP (d + 2) 127 70 [some (.ref 234), some (.int x1), some (.int i), o3, o4] [] (M, z, u) Q) : ∀ (m j : Nat) (M : Nat → mq_C) (i : Int32), j + m = B → i.toInt = (j : Int) → yGR s Mb M (xrow Mb 250 j) → mq_R mq_PP (d + 2) 127 45 [some (.ref 234), some (.int x1), some (.int i), o3, o4] [] (M, z, u) Q := by
  intro m
  induction m with
  | zero =>
    intro j M i e1 e2 hA
    obtain rfl : j = B := by omega
    refine he_iload (n := 46) (i := 2) (by decide +kernel) rfl ?_
    refine he_aload (n := 47) (i := 0) (by decide +kernel) rfl ?_
    refine hb_gfd (n := 50) (ci := 9) (j := 17) (ns := [4194, 191]) hA.1 (by decide +kernel) rfl rfl (by decide) rfl ?_
    intro v47 hv47 lv47 uv47
    have q47 : v47.toInt = (j : Int) := by rw [← hv47, yGR_v hA (by decide) (by decide)]; exact hB
    refine he_cmpge_t (n := 53) (t := 70) (by decide +kernel) (by omega) ?_
    exact K M i hA
  | succ m ih =>
    intro j M i e1 e2 hA
    have hl : hv M 236 s = (j : Int) := by rw [hA.2.2.2.1, xrow_l, hz]; omega
    refine he_iload (n := 46) (i := 2) (by decide +kernel) rfl ?_
    refine he_aload (n := 47) (i := 0) (by decide +kernel) rfl ?_
    refine hb_gfd (n := 50) (ci := 9) (j := 17) (ns := [4194, 191]) hA.1 (by decide +kernel) rfl rfl (by decide) rfl ?_
    intro v47 hv47 lv47 uv47
    have q47 : v47.toInt = (B : Int) := by rw [← hv47, yGR_v hA (by decide) (by decide)]; exact hB
    refine he_cmpge_f (n := 53) (t := 70) (by decide +kernel) (by omega) ?_
    refine he_aload (n := 54) (i := 0) (by decide +kernel) rfl ?_
    refine he_iload (n := 55) (i := 1) (by decide +kernel) rfl ?_
    refine he_aload (n := 56) (i := 0) (by decide +kernel) rfl ?_
    refine he_getr (n := 59) (ci := 9) (j := 18) (ns := [4195, 56]) (b := 250) hA.1 (by decide +kernel) rfl rfl (by decide +kernel) ?_
    refine he_iload (n := 60) (i := 2) (by decide +kernel) rfl ?_
    refine hb_ld (n := 61) (kind := 64) hA.1 (by decide +kernel) rfl rfl (.inl rfl) (by omega) (show _ < (240 : Int) by omega) hb_at1 ?_
    intro v60 hv60 lv60 uv60
    have q60 : v60.toInt = hv Mb 250 j := by rw [← hv60, yGR_v hA (by decide) (by decide), show i.toInt.toNat = j by omega]
    refine he_v2 (n := 64) (j := 125) (ci := 9) (mx := 3) (ns := [5210, 5212, 65, 206]) (by decide +kernel) ((hb_kd (a := 234) hA.1 rfl).trans rfl) (by show 0 ≤ 8; omega) (by show 3 ≤ 3; omega) ?_
    rw [mq_e125]
    refine ym_add hA.1 hs h4 (by omega) (by omega) ?_
    intro M1 hA1
    show mq_R mq_PP (d + 2) 127 64 _ [] (M1, z, u) Q
    rw [xbz_0 lv60 uv60, q60] at hA1
    refine he_iinc (n := 67) (i := 2) (c := 1) (L' := fun v => [some (.ref (234)), some (.int x1), some (.int v), o3, o4]) (by decide +kernel) (by decide) rfl (fun _ => rfl) (by omega) (by omega) ?_
    intro ie64 hie64
    refine he_goto (t := 45) (by decide +kernel) ?_
    refine ih (j + 1) M1 _ (by omega) (by omega) ?_
    rw [xrow_s]
    exact yGR_t (by omega) hA hA1
theorem ym_fin_n {d z u s : Nat} {Mb : Nat → mq_C} {Q : (Option Value ⊕ Nat) → mq_S → Prop} {x1 : Int32} (hs : x1.toInt = (s : Int)) (h4 : s < 4) (hz : hv Mb 236 s = 0) {l : List Int} {n : Nat} {i x3 : Int32} {nm : Int} (hi0 : 0 ≤ i.toInt) (hi6 : i.toInt < 36) (hnm : hv Mb 251 i.toInt.toNat = nm) (hn : n ≤ 4) (h3 : x3.toInt = (n : Int)) (hT : (l.length : Int) + (n : Int) ≤ 240) (K : ∀ (M : Nat → mq_C) (x4 : Int32), yGR s Mb M (l ++ xnz nm n) → mq_R mq_PP (d + 2) 127 131 [some (.ref 234), some (.int x1), some (.int i), some (.int x3), some (.int x4)] [] (M, z, u) Q) : ∀ (m j : Nat) (M : Nat → mq_C) (x4 : Int32), j + m = n → x4.toInt = (j : Int) → yGR s Mb M (l ++ xnz nm j) → mq_R mq_PP (d + 2) 127 102 [some (.ref 234), some (.int x1), some (.int i), some (.int x3), some (.int x4)] [] (M, z, u) Q := by
  intro m
  induction m with
  | zero =>
    intro j M x4 e1 e2 hA
    obtain rfl : j = n := by omega
    refine he_iload (n := 104) (i := 4) (by decide +kernel) rfl ?_
    refine he_iload (n := 105) (i := 3) (by decide +kernel) rfl ?_
    refine he_cmpge_t (n := 108) (t := 131) (by decide +kernel) (by omega) ?_
    exact K M x4 hA
  | succ m ih =>
    intro j M x4 e1 e2 hA
    have hl : hv M 236 s = (l.length : Int) + (j : Int) := by rw [hA.2.2.2.1, List.length_append, xnz_l, hz]; omega
    refine he_iload (n := 104) (i := 4) (by decide +kernel) rfl ?_
    refine he_iload (n := 105) (i := 3) (by decide +kernel) rfl ?_
    refine he_cmpge_f (n := 108) (t := 131) (by decide +kernel) (by omega) ?_
    refine he_aload (n := 109) (i := 0) (by decide +kernel) rfl ?_
    refine he_iload (n := 110) (i := 1) (by decide +kernel) rfl ?_
    refine he_aload (n := 111) (i := 0) (by decide +kernel) rfl ?_
    refine he_getr (n := 114) (ci := 9) (j := 20) (ns := [4197, 59]) (b := 251) hA.1 (by decide +kernel) rfl rfl (by decide +kernel) ?_
    refine he_iload (n := 115) (i := 2) (by decide +kernel) rfl ?_
    refine hb_ld (n := 116) (kind := 64) hA.1 (by decide +kernel) rfl rfl (.inl rfl) (by omega) (show _ < (36 : Int) by omega) hb_at1 ?_
    intro v115 hv115 lv115 uv115
    refine he_iconst (n := 118) (c := 8) (by decide +kernel) (by decide) ?_
    intro c116 hc116
    refine he_iload (n := 120) (i := 4) (by decide +kernel) rfl ?_
    refine he_imul (n := 121) (p := 8 * x4.toInt) (by decide +kernel) (by rw [hc116]) (by omega) (by omega) ?_
    intro v120 hv120
    refine he_ex2 (o := 16) (n := 122) (by decide +kernel) rfl ?_
    intro v121 hv121
    have ev121 : v121 = v115 >>> (v120 &&& 31) := hv121
    have bv121 := mz_i32 v121
    have q115 : v115.toInt = nm := by rw [← hv115, yGR_v hA (by decide) (by decide)]; exact hnm
    have q121 : v121.toInt = nm / (2 ^ (8 * j) : Nat) := by rw [ev121, ← q115]; exact mz_shr32 (k := 8 * j) (by omega) (by omega)
    refine he_v2 (n := 125) (j := 125) (ci := 9) (mx := 3) (ns := [5210, 5212, 65, 206]) (by decide +kernel) ((hb_kd (a := 234) hA.1 rfl).trans rfl) (by show 0 ≤ 8; omega) (by show 3 ≤ 3; omega) ?_
    rw [mq_e125]
    refine ym_add hA.1 hs h4 (by omega) (by omega) ?_
    intro M1 hA1
    show mq_R mq_PP (d + 2) 127 125 _ [] (M1, z, u) Q
    rw [q121, xbz_d] at hA1
    refine he_iinc (n := 128) (i := 4) (c := 1) (L' := fun v => [some (.ref (234)), some (.int x1), some (.int i), some (.int x3), some (.int v)]) (by decide +kernel) (by decide) rfl (fun _ => rfl) (by omega) (by omega) ?_
    intro ie125 hie125
    refine he_goto (t := 102) (by decide +kernel) ?_
    refine ih (j + 1) M1 _ (by omega) (by omega) ?_
    rw [xnz_s, ← List.append_assoc]
    exact yGR_t (by omega) hA hA1
theorem ym_fin_b {d z u s : Nat} {Mb : Nat → mq_C} {Q : (Option Value ⊕ Nat) → mq_S → Prop} {x1 : Int32} (hs : x1.toInt = (s : Int)) (h4 : s < 4) (hz : hv Mb 236 s = 0) {R : List Int} {n : Nat} (hn : hv Mb 234 19 = (n : Int)) (hn6 : n ≤ 6) (hT : ((R ++ yrecs Mb n).length : Int) + 4 ≤ 240) (K : ∀ (M : Nat → mq_C) (i : Int32) (o3 o4 : Option Value), yGR s Mb M (R ++ yrecs Mb n) → mq_R mq_PP (d + 2) 127 218 [some (.ref 234), some (.int x1), some (.int i), o3, o4] [] (M, z, u) Q) : ∀ (m j : Nat) (M : Nat → mq_C) (i : Int32) (o3 o4 : Option Value), j + m = n → i.toInt = 6 * (j : Int) → yGR s Mb M (R ++ yrecs Mb j) → mq_R mq_PP (d + 2) 127 72 [some (.ref 234), some (.int x1), some (.int i), o3, o4] [] (M, z, u) Q := by
  intro m
  induction m with
  | zero =>
    intro j M i o3 o4 e1 e2 hA
    obtain rfl : j = n := by omega
    refine he_iload (n := 73) (i := 2) (by decide +kernel) rfl ?_
    refine he_iconst (n := 75) (c := 6) (by decide +kernel) (by decide) ?_
    intro c73 hc73
    refine he_aload (n := 76) (i := 0) (by decide +kernel) rfl ?_
    refine hb_gfd (n := 79) (ci := 9) (j := 19) (ns := [4196, 197]) hA.1 (by decide +kernel) rfl rfl (by decide) rfl ?_
    intro v76 hv76 lv76 uv76
    have q76 : v76.toInt = (j : Int) := by rw [← hv76, yGR_v hA (by decide) (by decide)]; exact hn
    refine he_imul (n := 80) (p := 6 * v76.toInt) (by decide +kernel) (by rw [hc73]) (by omega) (by omega) ?_
    intro v79 hv79
    refine he_cmpge_t (n := 83) (t := 218) (by decide +kernel) (by omega) ?_
    exact K M i o3 o4 hA
  | succ m ih =>
    intro j M i o3 o4 e1 e2 hA
    have hle : (R ++ yrecs Mb (j + 1)).length ≤ (R ++ yrecs Mb n).length := by
      rw [List.length_append, List.length_append]
      have := yrecs_le (M := Mb) (j + 1) n (by omega)
      omega
    have hrl : ((R ++ yrecs Mb (j + 1)).length : Int) = ((R ++ yrecs Mb j).length : Int) + 12 + hb_nm (hv Mb 251 (6 * j)) := by
      show ((R ++ (yrecs Mb j ++ yrec Mb j)).length : Int) = _
      have := xrec_l (nm := hv Mb 251 (6 * j)) (me := hv Mb 251 (6 * j + 1)) (su := hv Mb 251 (6 * j + 2)) (le := hv Mb 251 (6 * j + 3)) (dr := hv Mb 251 (6 * j + 4)) (bo := hv Mb 251 (6 * j + 5))
      have e : (yrec Mb j).length = (xrec (hv Mb 251 (6 * j)) (hv Mb 251 (6 * j + 1)) (hv Mb 251 (6 * j + 2)) (hv Mb 251 (6 * j + 3)) (hv Mb 251 (6 * j + 4)) (hv Mb 251 (6 * j + 5))).length := rfl
      rw [List.length_append, List.length_append, List.length_append]
      omega
    have hnr := hn_nm (hv Mb 251 (6 * j))
    generalize hP : ((R ++ yrecs Mb j).length : Int) = P at *
    have lA : hv M 236 s = P := by rw [hA.2.2.2.1, hz, hP]; omega
    refine he_iload (n := 73) (i := 2) (by decide +kernel) rfl ?_
    refine he_iconst (n := 75) (c := 6) (by decide +kernel) (by decide) ?_
    intro c73 hc73
    refine he_aload (n := 76) (i := 0) (by decide +kernel) rfl ?_
    refine hb_gfd (n := 79) (ci := 9) (j := 19) (ns := [4196, 197]) hA.1 (by decide +kernel) rfl rfl (by decide) rfl ?_
    intro v76 hv76 lv76 uv76
    have q76 : v76.toInt = (n : Int) := by rw [← hv76, yGR_v hA (by decide) (by decide)]; exact hn
    refine he_imul (n := 80) (p := 6 * v76.toInt) (by decide +kernel) (by rw [hc73]) (by omega) (by omega) ?_
    intro v79 hv79
    refine he_cmpge_f (n := 83) (t := 218) (by decide +kernel) (by omega) ?_
    refine he_aload (n := 84) (i := 0) (by decide +kernel) rfl ?_
    refine he_getr (n := 87) (ci := 9) (j := 20) (ns := [4197, 59]) (b := 251) hA.1 (by decide +kernel) rfl rfl (by decide +kernel) ?_
    refine he_iload (n := 88) (i := 2) (by decide +kernel) rfl ?_
    refine hb_ld (n := 89) (kind := 64) hA.1 (by decide +kernel) rfl rfl (.inl rfl) (by omega) (show _ < (36 : Int) by omega) hb_at1 ?_
    intro v88 hv88 lv88 uv88
    have ei : i.toInt.toNat = 6 * j := by omega
    have q88 : v88.toInt = hv Mb 251 (6 * j) := by rw [← hv88, yGR_v hA (by decide) (by decide), ei]
    refine he_s1 (n := 92) (j := 123) (mx := 4) (ns := [5142, 5143, 1011, 194]) (by decide +kernel) (by show 0 ≤ 8; omega) (by show 1 ≤ 4; omega) ?_
    rw [mq_e123]
    refine hn_ns ?_
    intro r89 hr89
    rw [q88] at hr89
    show mq_R mq_PP (d + 2) 127 92 _ [.int r89] (M, z, u) Q
    refine he_istore (n := 93) (i := 3) (by decide +kernel) rfl ?_
    refine he_aload (n := 94) (i := 0) (by decide +kernel) rfl ?_
    refine he_iload (n := 95) (i := 1) (by decide +kernel) rfl ?_
    refine he_iload (n := 96) (i := 3) (by decide +kernel) rfl ?_
    refine he_v2 (n := 99) (j := 125) (ci := 9) (mx := 3) (ns := [5210, 5212, 65, 206]) (by decide +kernel) ((hb_kd (a := 234) hA.1 rfl).trans rfl) (by show 0 ≤ 8; omega) (by show 3 ≤ 3; omega) ?_
    rw [mq_e125]
    refine ym_add hA.1 hs h4 (by omega) (by omega) ?_
    intro M1 hA1
    show mq_R mq_PP (d + 2) 127 99 _ [] (M1, z, u) Q
    have hB1 := yGR_t (by omega) hA hA1
    rw [hr89] at hB1
    refine he_iconst (n := 100) (c := 0) (by decide +kernel) (by decide) ?_
    intro cb99 hcb99
    refine he_istore (n := 102) (i := 4) (by decide +kernel) rfl ?_
    refine ym_fin_n (l := (R ++ yrecs Mb j) ++ [xbz (hb_nm (hv Mb 251 (6 * j))) 0]) (n := (hb_nm (hv Mb 251 (6 * j))).toNat) hs h4 hz (by omega) (by omega) (by rw [ei]) (by omega) (by omega) (by rw [List.length_append]; show (((R ++ yrecs Mb j).length + 1 : Nat) : Int) + _ ≤ 240; omega) ?_ _ 0 M1 _ (Nat.zero_add _) (by omega) (by rw [show xnz (hv Mb 251 (6 * j)) 0 = [] from rfl, List.append_nil]; exact hB1)
    intro M2 x4 hB2
    have lB2 : hv M2 236 s = P + 1 + hb_nm (hv Mb 251 (6 * j)) := by
      rw [hB2.2.2.2.1, List.length_append, List.length_append, xnz_l, hz]
      show _ + (((R ++ yrecs Mb j).length + 1 + _ : Nat) : Int) = _
      omega
    refine he_aload (n := 132) (i := 0) (by decide +kernel) rfl ?_
    refine he_iload (n := 133) (i := 1) (by decide +kernel) rfl ?_
    refine he_aload (n := 134) (i := 0) (by decide +kernel) rfl ?_
    refine he_getr (n := 137) (ci := 9) (j := 20) (ns := [4197, 59]) (b := 251) hB2.1 (by decide +kernel) rfl rfl (by decide +kernel) ?_
    refine he_iload (n := 138) (i := 2) (by decide +kernel) rfl ?_
    refine he_iconst (n := 139) (c := 1) (by decide +kernel) (by decide) ?_
    intro cc138 hcc138
    refine he_iadd (n := 140) (by decide +kernel) (by omega) (by omega) ?_
    intro vc139 hvc139
    refine hb_ld (n := 141) (kind := 64) hB2.1 (by decide +kernel) rfl rfl (.inl rfl) (by omega) (show _ < (36 : Int) by omega) hb_at1 ?_
    intro vc140 hvc140 lvc140 uvc140
    have q140 : vc140.toInt = hv Mb 251 (6 * j + 1) := by rw [← hvc140, yGR_v hB2 (by decide) (by decide), show vc139.toInt.toNat = 6 * j + 1 by omega]
    refine he_v2 (n := 144) (j := 125) (ci := 9) (mx := 3) (ns := [5210, 5212, 65, 206]) (by decide +kernel) ((hb_kd (a := 234) hB2.1 rfl).trans rfl) (by show 0 ≤ 8; omega) (by show 3 ≤ 3; omega) ?_
    rw [mq_e125]
    refine ym_add hB2.1 hs h4 (by omega) (by omega) ?_
    intro M3 hC0
    show mq_R mq_PP (d + 2) 127 144 _ [] (M3, z, u) Q
    rw [q140] at hC0
    have hD0 := yGR_t (by omega) hB2 hC0
    have lD0 : hv M3 236 s = P + 1 + hb_nm (hv Mb 251 (6 * j)) + 1 := by rw [hC0.2.2.2.1, lB2]; show _ + ((1 : Nat) : Int) = _; omega
    refine he_aload (n := 145) (i := 0) (by decide +kernel) rfl ?_
    refine he_iload (n := 146) (i := 1) (by decide +kernel) rfl ?_
    refine he_aload (n := 147) (i := 0) (by decide +kernel) rfl ?_
    refine he_getr (n := 150) (ci := 9) (j := 20) (ns := [4197, 59]) (b := 251) hD0.1 (by decide +kernel) rfl rfl (by decide +kernel) ?_
    refine he_iload (n := 151) (i := 2) (by decide +kernel) rfl ?_
    refine he_iconst (n := 152) (c := 2) (by decide +kernel) (by decide) ?_
    intro cd151 hcd151
    refine he_iadd (n := 153) (by decide +kernel) (by omega) (by omega) ?_
    intro vd152 hvd152
    refine hb_ld (n := 154) (kind := 64) hD0.1 (by decide +kernel) rfl rfl (.inl rfl) (by omega) (show _ < (36 : Int) by omega) hb_at1 ?_
    intro vd153 hvd153 lvd153 uvd153
    have q153 : vd153.toInt = hv Mb 251 (6 * j + 2) := by rw [← hvd153, yGR_v hD0 (by decide) (by decide), show vd152.toInt.toNat = 6 * j + 2 by omega]
    refine he_v2 (n := 157) (j := 126) (ci := 9) (mx := 3) (ns := [5214, 5216, 66, 214]) (by decide +kernel) ((hb_kd (a := 234) hD0.1 rfl).trans rfl) (by show 0 ≤ 8; omega) (by show 3 ≤ 3; omega) ?_
    rw [mq_e126]
    refine ym_two hD0.1 hs h4 (by omega) (by omega) ?_
    intro M4 hC1
    show mq_R mq_PP (d + 2) 127 157 _ [] (M4, z, u) Q
    rw [q153] at hC1
    have hD1 := yGR_t (by omega) hD0 hC1
    have lD1 : hv M4 236 s = P + 1 + hb_nm (hv Mb 251 (6 * j)) + 3 := by rw [hC1.2.2.2.1, xnz_l, lD0]; omega
    refine he_aload (n := 158) (i := 0) (by decide +kernel) rfl ?_
    refine he_iload (n := 159) (i := 1) (by decide +kernel) rfl ?_
    refine he_aload (n := 160) (i := 0) (by decide +kernel) rfl ?_
    refine he_getr (n := 163) (ci := 9) (j := 20) (ns := [4197, 59]) (b := 251) hD1.1 (by decide +kernel) rfl rfl (by decide +kernel) ?_
    refine he_iload (n := 164) (i := 2) (by decide +kernel) rfl ?_
    refine he_iconst (n := 165) (c := 2) (by decide +kernel) (by decide) ?_
    intro ce164 hce164
    refine he_iadd (n := 166) (by decide +kernel) (by omega) (by omega) ?_
    intro ve165 hve165
    refine hb_ld (n := 167) (kind := 64) hD1.1 (by decide +kernel) rfl rfl (.inl rfl) (by omega) (show _ < (36 : Int) by omega) hb_at1 ?_
    intro ve166 hve166 lve166 uve166
    refine he_iconst (n := 169) (c := 16) (by decide +kernel) (by decide) ?_
    intro ce167 hce167
    refine he_ex2 (o := 16) (n := 170) (by decide +kernel) rfl ?_
    intro ve169 hve169
    have eve169 : ve169 = ve166 >>> (ce167 &&& 31) := hve169
    have bve169 := mz_i32 ve169
    have q166 : ve166.toInt = hv Mb 251 (6 * j + 2) := by rw [← hve166, yGR_v hD1 (by decide) (by decide), show ve165.toInt.toNat = 6 * j + 2 by omega]
    refine he_v2 (n := 173) (j := 126) (ci := 9) (mx := 3) (ns := [5214, 5216, 66, 214]) (by decide +kernel) ((hb_kd (a := 234) hD1.1 rfl).trans rfl) (by show 0 ≤ 8; omega) (by show 3 ≤ 3; omega) ?_
    rw [mq_e126]
    refine ym_two hD1.1 hs h4 (by omega) (by omega) ?_
    intro M5 hC2
    show mq_R mq_PP (d + 2) 127 173 _ [] (M5, z, u) Q
    have q169 : ve169.toInt = hv Mb 251 (6 * j + 2) / (2 ^ 16 : Nat) := by rw [eve169, ← q166]; exact mz_shr32 (k := 16) (by decide) hce167
    have hD2 := yGR_t (by omega) hD1 hC2
    have lD2 : hv M5 236 s = P + 1 + hb_nm (hv Mb 251 (6 * j)) + 5 := by rw [hC2.2.2.2.1, xnz_l, lD1]; omega
    refine he_aload (n := 174) (i := 0) (by decide +kernel) rfl ?_
    refine he_iload (n := 175) (i := 1) (by decide +kernel) rfl ?_
    refine he_aload (n := 176) (i := 0) (by decide +kernel) rfl ?_
    refine he_getr (n := 179) (ci := 9) (j := 20) (ns := [4197, 59]) (b := 251) hD2.1 (by decide +kernel) rfl rfl (by decide +kernel) ?_
    refine he_iload (n := 180) (i := 2) (by decide +kernel) rfl ?_
    refine he_iconst (n := 181) (c := 3) (by decide +kernel) (by decide) ?_
    intro cf180 hcf180
    refine he_iadd (n := 182) (by decide +kernel) (by omega) (by omega) ?_
    intro vf181 hvf181
    refine hb_ld (n := 183) (kind := 64) hD2.1 (by decide +kernel) rfl rfl (.inl rfl) (by omega) (show _ < (36 : Int) by omega) hb_at1 ?_
    intro vf182 hvf182 lvf182 uvf182
    have q182 : vf182.toInt = hv Mb 251 (6 * j + 3) := by rw [← hvf182, yGR_v hD2 (by decide) (by decide), show vf181.toInt.toNat = 6 * j + 3 by omega]
    refine he_v2 (n := 186) (j := 126) (ci := 9) (mx := 3) (ns := [5214, 5216, 66, 214]) (by decide +kernel) ((hb_kd (a := 234) hD2.1 rfl).trans rfl) (by show 0 ≤ 8; omega) (by show 3 ≤ 3; omega) ?_
    rw [mq_e126]
    refine ym_two hD2.1 hs h4 (by omega) (by omega) ?_
    intro M6 hC3
    show mq_R mq_PP (d + 2) 127 186 _ [] (M6, z, u) Q
    rw [q182] at hC3
    have hD3 := yGR_t (by omega) hD2 hC3
    have lD3 : hv M6 236 s = P + 1 + hb_nm (hv Mb 251 (6 * j)) + 7 := by rw [hC3.2.2.2.1, xnz_l, lD2]; omega
    refine he_aload (n := 187) (i := 0) (by decide +kernel) rfl ?_
    refine he_iload (n := 188) (i := 1) (by decide +kernel) rfl ?_
    refine he_aload (n := 189) (i := 0) (by decide +kernel) rfl ?_
    refine he_getr (n := 192) (ci := 9) (j := 20) (ns := [4197, 59]) (b := 251) hD3.1 (by decide +kernel) rfl rfl (by decide +kernel) ?_
    refine he_iload (n := 193) (i := 2) (by decide +kernel) rfl ?_
    refine he_iconst (n := 194) (c := 4) (by decide +kernel) (by decide) ?_
    intro cg193 hcg193
    refine he_iadd (n := 195) (by decide +kernel) (by omega) (by omega) ?_
    intro vg194 hvg194
    refine hb_ld (n := 196) (kind := 64) hD3.1 (by decide +kernel) rfl rfl (.inl rfl) (by omega) (show _ < (36 : Int) by omega) hb_at1 ?_
    intro vg195 hvg195 lvg195 uvg195
    have q195 : vg195.toInt = hv Mb 251 (6 * j + 4) := by rw [← hvg195, yGR_v hD3 (by decide) (by decide), show vg194.toInt.toNat = 6 * j + 4 by omega]
    refine he_v2 (n := 199) (j := 126) (ci := 9) (mx := 3) (ns := [5214, 5216, 66, 214]) (by decide +kernel) ((hb_kd (a := 234) hD3.1 rfl).trans rfl) (by show 0 ≤ 8; omega) (by show 3 ≤ 3; omega) ?_
    rw [mq_e126]
    refine ym_two hD3.1 hs h4 (by omega) (by omega) ?_
    intro M7 hC4
    show mq_R mq_PP (d + 2) 127 199 _ [] (M7, z, u) Q
    rw [q195] at hC4
    have hD4 := yGR_t (by omega) hD3 hC4
    have lD4 : hv M7 236 s = P + 1 + hb_nm (hv Mb 251 (6 * j)) + 9 := by rw [hC4.2.2.2.1, xnz_l, lD3]; omega
    refine he_aload (n := 200) (i := 0) (by decide +kernel) rfl ?_
    refine he_iload (n := 201) (i := 1) (by decide +kernel) rfl ?_
    refine he_aload (n := 202) (i := 0) (by decide +kernel) rfl ?_
    refine he_getr (n := 205) (ci := 9) (j := 20) (ns := [4197, 59]) (b := 251) hD4.1 (by decide +kernel) rfl rfl (by decide +kernel) ?_
    refine he_iload (n := 206) (i := 2) (by decide +kernel) rfl ?_
    refine he_iconst (n := 207) (c := 5) (by decide +kernel) (by decide) ?_
    intro ch206 hch206
    refine he_iadd (n := 208) (by decide +kernel) (by omega) (by omega) ?_
    intro vh207 hvh207
    refine hb_ld (n := 209) (kind := 64) hD4.1 (by decide +kernel) rfl rfl (.inl rfl) (by omega) (show _ < (36 : Int) by omega) hb_at1 ?_
    intro vh208 hvh208 lvh208 uvh208
    have q208 : vh208.toInt = hv Mb 251 (6 * j + 5) := by rw [← hvh208, yGR_v hD4 (by decide) (by decide), show vh207.toInt.toNat = 6 * j + 5 by omega]
    refine he_v2 (n := 212) (j := 126) (ci := 9) (mx := 3) (ns := [5214, 5216, 66, 214]) (by decide +kernel) ((hb_kd (a := 234) hD4.1 rfl).trans rfl) (by show 0 ≤ 8; omega) (by show 3 ≤ 3; omega) ?_
    rw [mq_e126]
    refine ym_two hD4.1 hs h4 (by omega) (by omega) ?_
    intro M8 hC5
    show mq_R mq_PP (d + 2) 127 212 _ [] (M8, z, u) Q
    rw [q208] at hC5
    have hD5 := yGR_t (by omega) hD4 hC5
    have lD5 : hv M8 236 s = P + 1 + hb_nm (hv Mb 251 (6 * j)) + 11 := by rw [hC5.2.2.2.1, xnz_l, lD4]; omega
    refine he_iinc (n := 215) (i := 2) (c := 6) (L' := fun v => [some (.ref (234)), some (.int x1), some (.int v), some (.int r89), some (.int x4)]) (by decide +kernel) (by decide) rfl (fun _ => rfl) (by omega) (by omega) ?_
    intro ik212 hik212
    refine he_goto (t := 72) (by decide +kernel) ?_
    refine ih (j + 1) M8 _ _ _ (by omega) (by omega) ?_
    have eL : R ++ yrecs Mb (j + 1) = R ++ yrecs Mb j ++ [xbz (hb_nm (hv Mb 251 (6 * j))) 0] ++ xnz (hv Mb 251 (6 * j)) (hb_nm (hv Mb 251 (6 * j))).toNat ++ [xbz (hv Mb 251 (6 * j + 1)) 0] ++ xnz (hv Mb 251 (6 * j + 2)) 2 ++ xnz ve169.toInt 2 ++ xnz (hv Mb 251 (6 * j + 3)) 2 ++ xnz (hv Mb 251 (6 * j + 4)) 2 ++ xnz (hv Mb 251 (6 * j + 5)) 2 := by
      show R ++ (yrecs Mb j ++ xrec _ _ _ _ _ _) = _
      unfold xrec
      rw [xnz_16 q169]
      simp only [List.append_assoc]
      rfl
    rw [eL]
    exact hD5
theorem ym_finish {d z u s : Nat} {Q : (Option Value ⊕ Nat) → mq_S → Prop} {x1 : Int32} (hs : x1.toInt = (s : Int)) (h4 : s < 4) {M : Nat → mq_C} (hm : mz_sh mz_GG M) (t0 : hv M 237 s = 0) (hz : hv M 236 s = 0) {B n : Nat} (hB : hv M 234 17 = (B : Int)) (hn : hv M 234 19 = (n : Int)) (hn6 : n ≤ 6) (hT : (B : Int) + ((yrecs M n).length : Int) + 4 ≤ 240) (K : ∀ (M1 M2 M' : Nat → mq_C) (r : Int32), r.toInt = 1 → (∀ b, b ≠ 234 → b ≠ 237 → M1 b = M b) → (∀ j, j ≠ 0 → hv M1 234 j = hv M 234 j) → hv M1 234 0 = 0 → (∀ j, j ≠ s → hv M1 237 j = hv M 237 j) → hv M1 237 s = 1 → yGR s M1 M2 (xrow M 250 B ++ yrecs M n ++ [80, (n : Int)] ++ xnz (B : Int) 2) → mz_sh mz_GG M' → (∀ b, b ≠ 234 → M' b = M2 b) → (∀ j, j ≠ 17 → j ≠ 19 → hv M' 234 j = hv M2 234 j) → hv M' 234 17 = 0 → hv M' 234 19 = 0 → Q (.inl (some (.int r))) (M', z, u)) : mq_R mq_PP (d + 2) 127 0 [some (.ref 234), some (.int x1), none, none, none] [] (M, z, u) Q := by
  refine he_aload (n := 1) (i := 0) (by decide +kernel) rfl ?_
  refine he_iconst (n := 2) (c := 0) (by decide +kernel) (by decide) ?_
  intro c1 hc1
  refine hb_pfd (n := 5) (ci := 9) (j := 0) (t := 0) (ns := [4177, 126]) hm (by decide +kernel) rfl rfl (by decide) (.inl rfl) ?_
  generalize hM1 : hb_set M 234 0 c1 = M1
  have hm1 : mz_sh mz_GG M1 := by rw [← hM1]; exact hb_set_sh hm rfl rfl (by omega) (by omega)
  have eM1 : ∀ b j, b ≠ 234 ∨ j ≠ 0 → hv M1 b j = hv M b j := by intro b j h; rw [← hM1]; exact hb_set_n h
  have sM1 : hv M1 234 0 = c1.toInt := by rw [← hM1]; exact hb_set_v hm rfl (by decide)
  have wM1 : ∀ b, b ≠ 234 → M1 b = M b := by intro b h; rw [← hM1]; exact hb_set_c h
  refine he_iload (n := 6) (i := 1) (by decide +kernel) rfl ?_
  refine he_iconst (n := 7) (c := 4) (by decide +kernel) (by decide) ?_
  intro c6 hc6
  refine he_s2 (n := 10) (j := 107) (mx := 2) (ns := [5207, 5208, 1011, 210]) (by decide +kernel) (by show 0 ≤ 8; omega) (by show 2 ≤ 2; omega) ?_
  rw [mq_e107]
  refine ym_out ?_
  intro r7 hr7 _
  have hr7 := hr7 (by omega)
  show mq_R mq_PP (d + 2) 127 10 _ [.int r7] (M1, z, u) Q
  refine he_ifne_f (n := 13) (t := 34) (by decide +kernel) (by omega) ?_
  refine he_aload (n := 14) (i := 0) (by decide +kernel) rfl ?_
  refine he_getr (n := 17) (ci := 9) (j := 3) (ns := [4180, 16]) (b := 237) hm1 (by decide +kernel) rfl rfl (by decide +kernel) ?_
  refine he_iload (n := 18) (i := 1) (by decide +kernel) rfl ?_
  refine he_iconst (n := 19) (c := 4) (by decide +kernel) (by decide) ?_
  intro ca18 hca18
  refine he_s2 (n := 22) (j := 107) (mx := 2) (ns := [5207, 5208, 1011, 210]) (by decide +kernel) (by show 1 ≤ 8; omega) (by show 2 ≤ 2; omega) ?_
  rw [mq_e107]
  refine ym_out ?_
  intro r19 hr19 _
  have hr19 := hr19 (by omega)
  show mq_R mq_PP (d + 2) 127 22 _ [.int r19, .ref 237] (M1, z, u) Q
  refine he_ifeq_t (n := 25) (t := 29) (by decide +kernel) (by omega) ?_
  refine he_iload (n := 30) (i := 1) (by decide +kernel) rfl ?_
  refine hb_ld (n := 31) (kind := 65) hm1 (by decide +kernel) rfl rfl (.inr rfl) (by omega) (show _ < (4 : Int) by omega) hb_at1 ?_
  intro vb30 hvb30 lvb30 uvb30
  have es : x1.toInt.toNat = s := by omega
  have q30 : vb30.toInt = 0 := by rw [← hvb30, eM1 _ _ (.inl (by decide)), es]; exact t0
  refine he_ifeq_t (n := 34) (t := 36) (by decide +kernel) (by omega) ?_
  refine he_aload (n := 37) (i := 0) (by decide +kernel) rfl ?_
  refine he_getr (n := 40) (ci := 9) (j := 3) (ns := [4180, 16]) (b := 237) hm1 (by decide +kernel) rfl rfl (by decide +kernel) ?_
  refine he_iload (n := 41) (i := 1) (by decide +kernel) rfl ?_
  refine he_iconst (n := 42) (c := 1) (by decide +kernel) (by decide) ?_
  intro cc41 hcc41
  refine hb_sta (n := 43) (kind := 65) hm1 (by decide +kernel) rfl rfl (.inr ⟨rfl, he_01 (by omega)⟩) (by omega) (show _ < (4 : Int) by omega) ?_
  generalize hMc1 : hb_set M1 237 (x1.toInt.toNat) cc41 = Mc1
  have hmc1 : mz_sh mz_GG Mc1 := by rw [← hMc1]; exact hb_set_sh hm1 rfl hb_at1 (by omega) (by omega)
  have eMc1 : ∀ b j, b ≠ 237 ∨ j ≠ x1.toInt.toNat → hv Mc1 b j = hv M1 b j := by intro b j h; rw [← hMc1]; exact hb_set_n h
  have sMc1 : hv Mc1 237 (x1.toInt.toNat) = cc41.toInt := by rw [← hMc1]; exact hb_set_v hm1 rfl (show _ < 4 by omega)
  have wMc1 : ∀ b, b ≠ 237 → Mc1 b = M1 b := by intro b h; rw [← hMc1]; exact hb_set_c h
  refine he_iconst (n := 44) (c := 0) (by decide +kernel) (by decide) ?_
  intro cc43 hcc43
  refine he_istore (n := 45) (i := 2) (by decide +kernel) rfl ?_
  have v1 : ∀ b j, b ≠ 234 → b ≠ 237 → hv Mc1 b j = hv M b j := fun b j h1 h2 => by rw [eMc1 _ _ (.inl h2), eM1 _ _ (.inl h1)]
  have v2 : ∀ j, j ≠ 0 → hv Mc1 234 j = hv M 234 j := fun j hj => by rw [eMc1 _ _ (.inl (by decide)), eM1 _ _ (.inr hj)]
  have er : yrecs Mc1 n = yrecs M n := yrecs_c n (fun j _ => v1 _ _ (by decide) (by decide))
  have eb : xrow Mc1 250 B = xrow M 250 B := by
    unfold xrow
    exact List.map_congr_left fun j _ => v1 _ _ (by decide) (by decide)
  have hz1 : hv Mc1 236 s = 0 := by rw [v1 _ _ (by decide) (by decide)]; exact hz
  have lt : ((xrow M 250 B ++ yrecs M n).length : Int) = (B : Int) + ((yrecs M n).length : Int) := by rw [List.length_append, xrow_l]; omega
  refine ym_fin_a (B := B) hs h4 hz1 (by rw [v2 _ (by decide)]; exact hB) (by omega) ?_ B 0 Mc1 _ (Nat.zero_add _) (by omega) (yGR_0 hmc1)
  intro M3 i3 hA3
  refine he_iconst (n := 71) (c := 0) (by decide +kernel) (by decide) ?_
  intro cd70 hcd70
  refine he_istore (n := 72) (i := 2) (by decide +kernel) rfl ?_
  refine ym_fin_b (R := xrow Mc1 250 B) (n := n) hs h4 hz1 (by rw [v2 _ (by decide)]; exact hn) hn6 (by rw [er, eb]; omega) ?_ n 0 M3 _ _ _ (Nat.zero_add _) (by omega) (by show yGR s Mc1 M3 (xrow Mc1 250 B ++ []); rw [List.append_nil]; exact hA3)
  intro M4 i4 o3 o4 hA4
  rw [er, eb] at hA4
  have l4 : hv M4 236 s = (B : Int) + ((yrecs M n).length : Int) := by rw [hA4.2.2.2.1, hz1, lt]; omega
  refine he_aload (n := 219) (i := 0) (by decide +kernel) rfl ?_
  refine he_iload (n := 220) (i := 1) (by decide +kernel) rfl ?_
  refine he_iconst (n := 222) (c := 80) (by decide +kernel) (by decide) ?_
  intro ce220 hce220
  refine he_v2 (n := 225) (j := 125) (ci := 9) (mx := 3) (ns := [5210, 5212, 65, 206]) (by decide +kernel) ((hb_kd (a := 234) hA4.1 rfl).trans rfl) (by show 0 ≤ 8; omega) (by show 3 ≤ 3; omega) ?_
  rw [mq_e125]
  refine ym_add hA4.1 hs h4 (by omega) (by omega) ?_
  intro M5 hA5
  show mq_R mq_PP (d + 2) 127 225 _ [] (M5, z, u) Q
  have h80 : xbz ce220.toInt 0 = 80 := by rw [hce220]; rfl
  rw [h80] at hA5
  have l5 : hv M5 236 s = (B : Int) + ((yrecs M n).length : Int) + 1 := by rw [hA5.2.2.2.1, l4]; rfl
  have hB5 := yGR_t (by omega) hA4 hA5
  refine he_aload (n := 226) (i := 0) (by decide +kernel) rfl ?_
  refine he_iload (n := 227) (i := 1) (by decide +kernel) rfl ?_
  refine he_aload (n := 228) (i := 0) (by decide +kernel) rfl ?_
  refine hb_gfd (n := 231) (ci := 9) (j := 19) (ns := [4196, 197]) hA5.1 (by decide +kernel) rfl rfl (by decide) rfl ?_
  intro vf228 hvf228 lvf228 uvf228
  have q228 : vf228.toInt = (n : Int) := by rw [← hvf228, yGR_v hB5 (by decide) (by decide), v2 _ (by decide)]; exact hn
  refine he_v2 (n := 234) (j := 125) (ci := 9) (mx := 3) (ns := [5210, 5212, 65, 206]) (by decide +kernel) ((hb_kd (a := 234) hA5.1 rfl).trans rfl) (by show 0 ≤ 8; omega) (by show 3 ≤ 3; omega) ?_
  rw [mq_e125]
  refine ym_add hA5.1 hs h4 (by omega) (by omega) ?_
  intro M6 hA6
  show mq_R mq_PP (d + 2) 127 234 _ [] (M6, z, u) Q
  rw [q228, xbz_0 (by omega) (by omega)] at hA6
  have l6 : hv M6 236 s = (B : Int) + ((yrecs M n).length : Int) + 2 := by rw [hA6.2.2.2.1, l5]; show _ + ((1 : Nat) : Int) = _; omega
  have hB6 := yGR_t (by omega) hB5 hA6
  refine he_aload (n := 235) (i := 0) (by decide +kernel) rfl ?_
  refine he_iload (n := 236) (i := 1) (by decide +kernel) rfl ?_
  refine he_aload (n := 237) (i := 0) (by decide +kernel) rfl ?_
  refine hb_gfd (n := 240) (ci := 9) (j := 17) (ns := [4194, 191]) hA6.1 (by decide +kernel) rfl rfl (by decide) rfl ?_
  intro vg237 hvg237 lvg237 uvg237
  have q237 : vg237.toInt = (B : Int) := by rw [← hvg237, yGR_v hB6 (by decide) (by decide), v2 _ (by decide)]; exact hB
  refine he_v2 (n := 243) (j := 126) (ci := 9) (mx := 3) (ns := [5214, 5216, 66, 214]) (by decide +kernel) ((hb_kd (a := 234) hA6.1 rfl).trans rfl) (by show 0 ≤ 8; omega) (by show 3 ≤ 3; omega) ?_
  rw [mq_e126]
  refine ym_two hA6.1 hs h4 (by omega) (by omega) ?_
  intro M7 hA7
  show mq_R mq_PP (d + 2) 127 243 _ [] (M7, z, u) Q
  rw [q237] at hA7
  have hB7 := yGR_t (by omega) hB6 hA7
  refine he_aload (n := 244) (i := 0) (by decide +kernel) rfl ?_
  refine he_iconst (n := 245) (c := 0) (by decide +kernel) (by decide) ?_
  intro ch244 hch244
  refine hb_pfd (n := 248) (ci := 9) (j := 19) (t := 0) (ns := [4196, 197]) hA7.1 (by decide +kernel) rfl rfl (by decide) (.inl rfl) ?_
  generalize hMh1 : hb_set M7 234 19 ch244 = Mh1
  have hmh1 : mz_sh mz_GG Mh1 := by rw [← hMh1]; exact hb_set_sh hA7.1 rfl rfl (by omega) (by omega)
  have eMh1 : ∀ b j, b ≠ 234 ∨ j ≠ 19 → hv Mh1 b j = hv M7 b j := by intro b j h; rw [← hMh1]; exact hb_set_n h
  have sMh1 : hv Mh1 234 19 = ch244.toInt := by rw [← hMh1]; exact hb_set_v hA7.1 rfl (by decide)
  have wMh1 : ∀ b, b ≠ 234 → Mh1 b = M7 b := by intro b h; rw [← hMh1]; exact hb_set_c h
  refine he_aload (n := 249) (i := 0) (by decide +kernel) rfl ?_
  refine he_iconst (n := 250) (c := 0) (by decide +kernel) (by decide) ?_
  intro ch249 hch249
  refine hb_pfd (n := 253) (ci := 9) (j := 17) (t := 0) (ns := [4194, 191]) hmh1 (by decide +kernel) rfl rfl (by decide) (.inl rfl) ?_
  generalize hMh2 : hb_set Mh1 234 17 ch249 = Mh2
  have hmh2 : mz_sh mz_GG Mh2 := by rw [← hMh2]; exact hb_set_sh hmh1 rfl rfl (by omega) (by omega)
  have eMh2 : ∀ b j, b ≠ 234 ∨ j ≠ 17 → hv Mh2 b j = hv Mh1 b j := by intro b j h; rw [← hMh2]; exact hb_set_n h
  have sMh2 : hv Mh2 234 17 = ch249.toInt := by rw [← hMh2]; exact hb_set_v hmh1 rfl (by decide)
  have wMh2 : ∀ b, b ≠ 234 → Mh2 b = Mh1 b := by intro b h; rw [← hMh2]; exact hb_set_c h
  refine he_iconst (n := 254) (c := 1) (by decide +kernel) (by decide) ?_
  intro ch253 hch253
  refine he_retz (by decide +kernel) (by omega) ?_
  refine K Mc1 M7 Mh2 _ (by omega) (fun b n1 n2 => (wMc1 b n2).trans (wM1 b n1)) v2 ?_ (fun j hj => ?_) ?_ ?_ hmh2 (fun b hb => (wMh2 b hb).trans (wMh1 b hb)) (fun j n1 n2 => ?_) ?_ ?_
  · rw [eMc1 _ _ (.inl (by decide)), sM1]; omega
  · rw [eMc1 _ _ (.inr (by omega)), eM1 _ _ (.inl (by decide))]
  · have e := sMc1
    rw [es] at e
    rw [e]; omega
  · have e : xrow M 250 B ++ yrecs M n ++ [80, (n : Int)] ++ xnz (B : Int) 2 = xrow M 250 B ++ yrecs M n ++ [80] ++ [(n : Int)] ++ xnz (B : Int) 2 := by simp only [List.append_assoc]; rfl
    rw [e]
    exact hB7
  · rw [eMh2 _ _ (.inr n1), eMh1 _ _ (.inr n2)]
  · rw [sMh2]; omega
  · rw [eMh2 _ _ (.inr (by decide)), sMh1]; omega
