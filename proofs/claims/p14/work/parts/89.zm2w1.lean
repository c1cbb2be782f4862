/-! writeTo, exactly: archive 1. -/
theorem xn_wt1 {d z u : Nat} {M : Nat → mq_C} {Q : (Option Value ⊕ Nat) → mq_S → Prop} {x2 : Option Value} (hm : mz_sh mz_GG M) (b0 : 0 ≤ hv M 33 3) (r0 : 0 ≤ hv M 33 5) (e0 : 0 ≤ hv M 33 6) (e1 : hv M 33 6 ≤ 6) (hr : hv M 33 3 + hv M 33 5 + 4 ≤ 240) (K : ∀ M' : Nat → mq_C, mz_sh mz_GG M' → (∀ b, b ≠ 33 → b ≠ 58 → b ≠ 59 → M' b = M b) → (∀ j, j ≠ 3 → j ≠ 5 → j ≠ 6 → hv M' 33 j = hv M 33 j) → hv M' 33 3 = 0 → hv M' 33 5 = 0 → hv M' 33 6 = 0 → (∀ j, j ≠ 1 → hv M' 58 j = hv M 58 j) → hv M' 58 1 = hv M 33 3 + hv M 33 5 + 4 → (∀ t : Nat, (t : Int) < hv M 33 3 → hv M' 59 t = hv M 35 t) → (∀ t : Nat, (t : Int) < hv M 33 5 → hv M' 59 ((hv M 33 3).toNat + t) = hv M 36 t) → hv M' 59 (hv M 33 3 + hv M 33 5).toNat = 80 → hv M' 59 ((hv M 33 3 + hv M 33 5).toNat + 1) = hv M 33 6 → hv M' 59 ((hv M 33 3 + hv M 33 5).toNat + 2) = hv M 33 3 → hv M' 59 ((hv M 33 3 + hv M 33 5).toNat + 3) = 0 → Q (.inl none) (M', z, u)) : mq_R mq_PP d 80 0 [some (.ref 33), some (.ref 58), x2] [] (M, z, u) Q := by
  refine he_aload (n := 1) (i := 0) (by decide +kernel) rfl ?_
  refine hb_gfd (n := 4) (ci := 6) (j := 3) (ns := [1117, 22]) hm (by decide +kernel) rfl rfl (by decide) rfl ?_
  intro v1 hv1 lv1 uv1
  refine he_aload (n := 5) (i := 0) (by decide +kernel) rfl ?_
  refine hb_gfd (n := 8) (ci := 6) (j := 5) (ns := [1119, 28]) hm (by decide +kernel) rfl rfl (by decide) rfl ?_
  intro v5 hv5 lv5 uv5
  refine he_iadd (n := 9) (by decide +kernel) (by omega) (by omega) ?_
  intro v8 hv8
  refine he_istore (n := 10) (i := 2) (by decide +kernel) rfl ?_
  refine he_aload (n := 11) (i := 0) (by decide +kernel) rfl ?_
  refine he_getr (n := 14) (ci := 6) (j := 2) (ns := [1116, 19]) (b := 35) hm (by decide +kernel) rfl rfl (by decide +kernel) ?_
  refine he_iconst (n := 15) (c := 0) (by decide +kernel) (by decide) ?_
  intro c14 hc14
  refine he_aload (n := 16) (i := 1) (by decide +kernel) rfl ?_
  refine he_getr (n := 19) (ci := 1) (j := 0) (ns := [1216, 44]) (b := 59) hm (by decide +kernel) rfl rfl (by decide +kernel) ?_
  refine he_iconst (n := 20) (c := 0) (by decide +kernel) (by decide) ?_
  intro c19 hc19
  refine he_aload (n := 21) (i := 0) (by decide +kernel) rfl ?_
  refine hb_gfd (n := 24) (ci := 6) (j := 3) (ns := [1117, 22]) hm (by decide +kernel) rfl rfl (by decide) rfl ?_
  intro v21 hv21 lv21 uv21
  have q1 : v1.toInt = hv M 33 3 := hv1.symm
  have q5 : v5.toInt = hv M 33 5 := hv5.symm
  have q21 : v21.toInt = hv M 33 3 := hv21.symm
  refine xe_copy (ns := [2210, 34]) (n := 27) (a := 35) (b := 59) hm (by decide +kernel) rfl rfl (by decide) (by decide) (by omega) (by omega) (by omega) (by omega) (by omega) ?_
  intro M3 hm3 wM3 rM3
  have vM3 : ∀ b j, b ≠ 59 → hv M3 b j = hv M b j := fun b j hb => by show hb_w mz_GG ((M3 b).2[j]?) = _; rw [wM3 b hb]; rfl
  refine he_aload (n := 28) (i := 0) (by decide +kernel) rfl ?_
  refine he_getr (n := 31) (ci := 6) (j := 4) (ns := [1118, 25]) (b := 36) hm3 (by decide +kernel) rfl rfl (by decide +kernel) ?_
  refine he_iconst (n := 32) (c := 0) (by decide +kernel) (by decide) ?_
  intro ce31 hce31
  refine he_aload (n := 33) (i := 1) (by decide +kernel) rfl ?_
  refine he_getr (n := 36) (ci := 1) (j := 0) (ns := [1216, 44]) (b := 59) hm3 (by decide +kernel) rfl rfl (by decide +kernel) ?_
  refine he_aload (n := 37) (i := 0) (by decide +kernel) rfl ?_
  refine hb_gfd (n := 40) (ci := 6) (j := 3) (ns := [1117, 22]) hm3 (by decide +kernel) rfl rfl (by decide) rfl ?_
  intro ve37 hve37 lve37 uve37
  refine he_aload (n := 41) (i := 0) (by decide +kernel) rfl ?_
  refine hb_gfd (n := 44) (ci := 6) (j := 5) (ns := [1119, 28]) hm3 (by decide +kernel) rfl rfl (by decide) rfl ?_
  intro ve41 hve41 lve41 uve41
  have q37 : ve37.toInt = hv M 33 3 := by rw [← hve37]; exact vM3 _ _ (by decide)
  have q41 : ve41.toInt = hv M 33 5 := by rw [← hve41]; exact vM3 _ _ (by decide)
  refine xe_copy (ns := [2210, 34]) (n := 47) (a := 36) (b := 59) hm3 (by decide +kernel) rfl rfl (by decide) (by decide) (by omega) (by omega) (by omega) (by omega) (by omega) ?_
  intro M4 hm4 wM4 rM4
  have vM4 : ∀ b j, b ≠ 59 → hv M4 b j = hv M b j := fun b j hb => by show hb_w mz_GG ((M4 b).2[j]?) = _; rw [wM4 b hb]; exact vM3 b j hb
  refine he_aload (n := 48) (i := 1) (by decide +kernel) rfl ?_
  refine he_getr (n := 51) (ci := 1) (j := 0) (ns := [1216, 44]) (b := 59) hm4 (by decide +kernel) rfl rfl (by decide +kernel) ?_
  refine he_iload (n := 52) (i := 2) (by decide +kernel) rfl ?_
  refine he_iconst (n := 54) (c := 80) (by decide +kernel) (by decide) ?_
  intro cf52 hcf52
  refine hb_sta (n := 55) (kind := 64) hm4 (by decide +kernel) rfl rfl (.inl rfl) (by omega) (show _ < (240 : Int) by omega) ?_
  generalize hMf1 : hb_set M4 59 (v8.toInt.toNat) cf52 = Mf1
  have hmf1 : mz_sh mz_GG Mf1 := by rw [← hMf1]; exact hb_set_sh hm4 rfl hb_at1 (by omega) (by omega)
  have eMf1 : ∀ b j, b ≠ 59 ∨ j ≠ v8.toInt.toNat → hv Mf1 b j = hv M4 b j := by intro b j h; rw [← hMf1]; exact hb_set_n h
  have sMf1 : hv Mf1 59 (v8.toInt.toNat) = cf52.toInt := by rw [← hMf1]; exact hb_set_v hm4 rfl (show _ < 240 by omega)
  have wMf1 : ∀ b, b ≠ 59 → Mf1 b = M4 b := by intro b h; rw [← hMf1]; exact hb_set_c h
  refine he_aload (n := 56) (i := 1) (by decide +kernel) rfl ?_
  refine he_getr (n := 59) (ci := 1) (j := 0) (ns := [1216, 44]) (b := 59) hmf1 (by decide +kernel) rfl rfl (by decide +kernel) ?_
  refine he_iload (n := 60) (i := 2) (by decide +kernel) rfl ?_
  refine he_iconst (n := 61) (c := 1) (by decide +kernel) (by decide) ?_
  intro cf60 hcf60
  refine he_iadd (n := 62) (by decide +kernel) (by omega) (by omega) ?_
  intro vf61 hvf61
  refine he_aload (n := 63) (i := 0) (by decide +kernel) rfl ?_
  refine hb_gfd (n := 66) (ci := 6) (j := 6) (ns := [1120, 31]) hmf1 (by decide +kernel) rfl rfl (by decide) rfl ?_
  intro vf63 hvf63 lvf63 uvf63
  have q63 : vf63.toInt = hv M 33 6 := by rw [← hvf63, eMf1 _ _ (.inl (by decide))]; exact vM4 _ _ (by decide)
  refine hb_sta (n := 67) (kind := 64) hmf1 (by decide +kernel) rfl rfl (.inl rfl) (by omega) (show _ < (240 : Int) by omega) ?_
  generalize hMf2 : hb_set Mf1 59 (vf61.toInt.toNat) vf63 = Mf2
  have hmf2 : mz_sh mz_GG Mf2 := by rw [← hMf2]; exact hb_set_sh hmf1 rfl hb_at1 (by omega) (by omega)
  have eMf2 : ∀ b j, b ≠ 59 ∨ j ≠ vf61.toInt.toNat → hv Mf2 b j = hv Mf1 b j := by intro b j h; rw [← hMf2]; exact hb_set_n h
  have sMf2 : hv Mf2 59 (vf61.toInt.toNat) = vf63.toInt := by rw [← hMf2]; exact hb_set_v hmf1 rfl (show _ < 240 by omega)
  have wMf2 : ∀ b, b ≠ 59 → Mf2 b = Mf1 b := by intro b h; rw [← hMf2]; exact hb_set_c h
  refine he_aload (n := 68) (i := 1) (by decide +kernel) rfl ?_
  refine he_getr (n := 71) (ci := 1) (j := 0) (ns := [1216, 44]) (b := 59) hmf2 (by decide +kernel) rfl rfl (by decide +kernel) ?_
  refine he_iload (n := 72) (i := 2) (by decide +kernel) rfl ?_
  refine he_iconst (n := 73) (c := 2) (by decide +kernel) (by decide) ?_
  intro cf72 hcf72
  refine he_iadd (n := 74) (by decide +kernel) (by omega) (by omega) ?_
  intro vf73 hvf73
  refine he_aload (n := 75) (i := 0) (by decide +kernel) rfl ?_
  refine hb_gfd (n := 78) (ci := 6) (j := 3) (ns := [1117, 22]) hmf2 (by decide +kernel) rfl rfl (by decide) rfl ?_
  intro vf75 hvf75 lvf75 uvf75
  have q75 : vf75.toInt = hv M 33 3 := by rw [← hvf75, eMf2 _ _ (.inl (by decide)), eMf1 _ _ (.inl (by decide))]; exact vM4 _ _ (by decide)
  refine he_iconst (n := 81) (c := 255) (by decide +kernel) (by decide) ?_
  intro cf78 hcf78
  refine he_ex2 (o := 12) (n := 82) (by decide +kernel) rfl ?_
  intro vf81 hvf81
  have evf81 : vf81 = vf75 &&& cf78 := hvf81
  have bvf81 := mz_i32 vf81
  have q81 : vf81.toInt = hv M 33 3 := by
    have h := lx_and255 hcf78 evf81
    have h' := (mz_un_p (x := vf75) (by omega)).1
    have h'' : (vf75.toBitVec.toNat : Int) = vf75.toInt := h'.symm
    rw [h, h'']
    omega
  refine hb_sta (n := 83) (kind := 64) hmf2 (by decide +kernel) rfl rfl (.inl rfl) (by omega) (show _ < (240 : Int) by omega) ?_
  generalize hMf3 : hb_set Mf2 59 (vf73.toInt.toNat) vf81 = Mf3
  have hmf3 : mz_sh mz_GG Mf3 := by rw [← hMf3]; exact hb_set_sh hmf2 rfl hb_at1 (by omega) (by omega)
  have eMf3 : ∀ b j, b ≠ 59 ∨ j ≠ vf73.toInt.toNat → hv Mf3 b j = hv Mf2 b j := by intro b j h; rw [← hMf3]; exact hb_set_n h
  have sMf3 : hv Mf3 59 (vf73.toInt.toNat) = vf81.toInt := by rw [← hMf3]; exact hb_set_v hmf2 rfl (show _ < 240 by omega)
  have wMf3 : ∀ b, b ≠ 59 → Mf3 b = Mf2 b := by intro b h; rw [← hMf3]; exact hb_set_c h
  refine he_aload (n := 84) (i := 1) (by decide +kernel) rfl ?_
  refine he_getr (n := 87) (ci := 1) (j := 0) (ns := [1216, 44]) (b := 59) hmf3 (by decide +kernel) rfl rfl (by decide +kernel) ?_
  refine he_iload (n := 88) (i := 2) (by decide +kernel) rfl ?_
  refine he_iconst (n := 89) (c := 3) (by decide +kernel) (by decide) ?_
  intro cf88 hcf88
  refine he_iadd (n := 90) (by decide +kernel) (by omega) (by omega) ?_
  intro vf89 hvf89
  refine he_aload (n := 91) (i := 0) (by decide +kernel) rfl ?_
  refine hb_gfd (n := 94) (ci := 6) (j := 3) (ns := [1117, 22]) hmf3 (by decide +kernel) rfl rfl (by decide) rfl ?_
  intro vf91 hvf91 lvf91 uvf91
  have q91 : vf91.toInt = hv M 33 3 := by rw [← hvf91, eMf3 _ _ (.inl (by decide)), eMf2 _ _ (.inl (by decide)), eMf1 _ _ (.inl (by decide))]; exact vM4 _ _ (by decide)
  refine he_iconst (n := 96) (c := 8) (by decide +kernel) (by decide) ?_
  intro cf94 hcf94
  refine he_ex2 (o := 17) (n := 97) (by decide +kernel) rfl ?_
  intro vf96 hvf96
  have evf96 : vf96 = (vf91.toUInt32 >>> (cf94.toUInt32 &&& Int32.toUInt32 31)).toInt32 := hvf96
  have bvf96 := mz_i32 vf96
  have q96 : vf96.toInt = 0 := by
    have h := lx_shr8 hcf94 evf96
    have h' := (mz_un_p (x := vf91) (by omega)).1
    have h'' : (vf91.toBitVec.toNat : Int) = vf91.toInt := h'.symm
    have h3 := mz_un_s (x := vf96) (show vf96.toBitVec.toNat < 2147483648 by omega)
    have h4 : vf96.toInt = (vf96.toBitVec.toNat : Int) := h3
    omega
  refine hb_sta (n := 98) (kind := 64) hmf3 (by decide +kernel) rfl rfl (.inl rfl) (by omega) (show _ < (240 : Int) by omega) ?_
  generalize hMf4 : hb_set Mf3 59 (vf89.toInt.toNat) vf96 = Mf4
  have hmf4 : mz_sh mz_GG Mf4 := by rw [← hMf4]; exact hb_set_sh hmf3 rfl hb_at1 (by omega) (by omega)
  have eMf4 : ∀ b j, b ≠ 59 ∨ j ≠ vf89.toInt.toNat → hv Mf4 b j = hv Mf3 b j := by intro b j h; rw [← hMf4]; exact hb_set_n h
  have sMf4 : hv Mf4 59 (vf89.toInt.toNat) = vf96.toInt := by rw [← hMf4]; exact hb_set_v hmf3 rfl (show _ < 240 by omega)
  have wMf4 : ∀ b, b ≠ 59 → Mf4 b = Mf3 b := by intro b h; rw [← hMf4]; exact hb_set_c h
  refine he_aload (n := 99) (i := 1) (by decide +kernel) rfl ?_
  refine he_iload (n := 100) (i := 2) (by decide +kernel) rfl ?_
  refine he_iconst (n := 101) (c := 4) (by decide +kernel) (by decide) ?_
  intro cf100 hcf100
  refine he_iadd (n := 102) (by decide +kernel) (by omega) (by omega) ?_
  intro vf101 hvf101
  refine hb_pfd (n := 105) (ci := 1) (j := 1) (t := 0) (ns := [1219, 49]) hmf4 (by decide +kernel) rfl rfl (by decide) (.inl rfl) ?_
  generalize hMf5 : hb_set Mf4 58 1 vf101 = Mf5
  have hmf5 : mz_sh mz_GG Mf5 := by rw [← hMf5]; exact hb_set_sh hmf4 rfl rfl (by omega) (by omega)
  have eMf5 : ∀ b j, b ≠ 58 ∨ j ≠ 1 → hv Mf5 b j = hv Mf4 b j := by intro b j h; rw [← hMf5]; exact hb_set_n h
  have sMf5 : hv Mf5 58 1 = vf101.toInt := by rw [← hMf5]; exact hb_set_v hmf4 rfl (by decide)
  have wMf5 : ∀ b, b ≠ 58 → Mf5 b = Mf4 b := by intro b h; rw [← hMf5]; exact hb_set_c h
  refine he_aload (n := 106) (i := 0) (by decide +kernel) rfl ?_
  refine he_iconst (n := 107) (c := 0) (by decide +kernel) (by decide) ?_
  intro cf106 hcf106
  refine hb_pfd (n := 110) (ci := 6) (j := 3) (t := 0) (ns := [1117, 22]) hmf5 (by decide +kernel) rfl rfl (by decide) (.inl rfl) ?_
  generalize hMf6 : hb_set Mf5 33 3 cf106 = Mf6
  have hmf6 : mz_sh mz_GG Mf6 := by rw [← hMf6]; exact hb_set_sh hmf5 rfl rfl (by omega) (by omega)
  have eMf6 : ∀ b j, b ≠ 33 ∨ j ≠ 3 → hv Mf6 b j = hv Mf5 b j := by intro b j h; rw [← hMf6]; exact hb_set_n h
  have sMf6 : hv Mf6 33 3 = cf106.toInt := by rw [← hMf6]; exact hb_set_v hmf5 rfl (by decide)
  have wMf6 : ∀ b, b ≠ 33 → Mf6 b = Mf5 b := by intro b h; rw [← hMf6]; exact hb_set_c h
  refine he_aload (n := 111) (i := 0) (by decide +kernel) rfl ?_
  refine he_iconst (n := 112) (c := 0) (by decide +kernel) (by decide) ?_
  intro cf111 hcf111
  refine hb_pfd (n := 115) (ci := 6) (j := 5) (t := 0) (ns := [1119, 28]) hmf6 (by decide +kernel) rfl rfl (by decide) (.inl rfl) ?_
  generalize hMf7 : hb_set Mf6 33 5 cf111 = Mf7
  have hmf7 : mz_sh mz_GG Mf7 := by rw [← hMf7]; exact hb_set_sh hmf6 rfl rfl (by omega) (by omega)
  have eMf7 : ∀ b j, b ≠ 33 ∨ j ≠ 5 → hv Mf7 b j = hv Mf6 b j := by intro b j h; rw [← hMf7]; exact hb_set_n h
  have sMf7 : hv Mf7 33 5 = cf111.toInt := by rw [← hMf7]; exact hb_set_v hmf6 rfl (by decide)
  have wMf7 : ∀ b, b ≠ 33 → Mf7 b = Mf6 b := by intro b h; rw [← hMf7]; exact hb_set_c h
  refine he_aload (n := 116) (i := 0) (by decide +kernel) rfl ?_
  refine he_iconst (n := 117) (c := 0) (by decide +kernel) (by decide) ?_
  intro cf116 hcf116
  refine hb_pfd (n := 120) (ci := 6) (j := 6) (t := 0) (ns := [1120, 31]) hmf7 (by decide +kernel) rfl rfl (by decide) (.inl rfl) ?_
  generalize hMf8 : hb_set Mf7 33 6 cf116 = Mf8
  have hmf8 : mz_sh mz_GG Mf8 := by rw [← hMf8]; exact hb_set_sh hmf7 rfl rfl (by omega) (by omega)
  have eMf8 : ∀ b j, b ≠ 33 ∨ j ≠ 6 → hv Mf8 b j = hv Mf7 b j := by intro b j h; rw [← hMf8]; exact hb_set_n h
  have sMf8 : hv Mf8 33 6 = cf116.toInt := by rw [← hMf8]; exact hb_set_v hmf7 rfl (by decide)
  have wMf8 : ∀ b, b ≠ 33 → Mf8 b = Mf7 b := by intro b h; rw [← hMf8]; exact hb_set_c h
  refine he_ret (by decide +kernel) ?_
  have up : ∀ t : Nat, hv Mf8 59 t = hv Mf4 59 t := fun t => by rw [eMf8 _ _ (.inl (by decide)), eMf7 _ _ (.inl (by decide)), eMf6 _ _ (.inl (by decide)), eMf5 _ _ (.inl (by decide))]
  refine K Mf8 hmf8 (fun b n1 n2 n3 => ?_) (fun j n3 n5 n6 => ?_) ?_ ?_ ?_ (fun j hj => ?_) ?_ (fun t ht => ?_) (fun t ht => ?_) ?_ ?_ ?_ ?_
  · rw [wMf8 b n1, wMf7 b n1, wMf6 b n1, wMf5 b n2, wMf4 b n3, wMf3 b n3, wMf2 b n3, wMf1 b n3, wM4 b n3, wM3 b n3]
  · rw [eMf8 _ _ (.inr n6), eMf7 _ _ (.inr n5), eMf6 _ _ (.inr n3), eMf5 _ _ (.inl (by decide)), eMf4 _ _ (.inl (by decide)), eMf3 _ _ (.inl (by decide)), eMf2 _ _ (.inl (by decide)), eMf1 _ _ (.inl (by decide))]
    exact vM4 _ _ (by decide)
  · rw [eMf8 _ _ (.inr (by decide)), eMf7 _ _ (.inr (by decide)), sMf6]
    omega
  · rw [eMf8 _ _ (.inr (by decide)), sMf7]
    omega
  · rw [sMf8]
    omega
  · rw [eMf8 _ _ (.inl (by decide)), eMf7 _ _ (.inl (by decide)), eMf6 _ _ (.inl (by decide)), eMf5 _ _ (.inr hj), eMf4 _ _ (.inl (by decide)), eMf3 _ _ (.inl (by decide)), eMf2 _ _ (.inl (by decide)), eMf1 _ _ (.inl (by decide))]
    exact vM4 _ _ (by decide)
  · rw [eMf8 _ _ (.inl (by decide)), eMf7 _ _ (.inl (by decide)), eMf6 _ _ (.inl (by decide)), sMf5]
    omega
  · rw [up t, eMf4 _ _ (.inr (by omega)), eMf3 _ _ (.inr (by omega)), eMf2 _ _ (.inr (by omega)), eMf1 _ _ (.inr (by omega)), rM4 t, if_neg (by omega), rM3 t, if_pos (by omega)]
    congr 1
    omega
  · rw [up _, eMf4 _ _ (.inr (by omega)), eMf3 _ _ (.inr (by omega)), eMf2 _ _ (.inr (by omega)), eMf1 _ _ (.inr (by omega)), rM4 _, if_pos (by omega), vM3 _ _ (by decide)]
    congr 1
    omega
  · rw [up _, eMf4 _ _ (.inr (by omega)), eMf3 _ _ (.inr (by omega)), eMf2 _ _ (.inr (by omega)), show (hv M 33 3 + hv M 33 5).toNat = v8.toInt.toNat by omega, sMf1]
    omega
  · rw [up _, eMf4 _ _ (.inr (by omega)), eMf3 _ _ (.inr (by omega)), show (hv M 33 3 + hv M 33 5).toNat + 1 = vf61.toInt.toNat by omega, sMf2]
    omega
  · rw [up _, eMf4 _ _ (.inr (by omega)), show (hv M 33 3 + hv M 33 5).toNat + 2 = vf73.toInt.toNat by omega, sMf3]
    omega
  · rw [up _, show (hv M 33 3 + hv M 33 5).toNat + 3 = vf89.toInt.toNat by omega, sMf4]
    omega
