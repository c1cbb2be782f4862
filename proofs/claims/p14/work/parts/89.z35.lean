/-! finish of the model, exactly. -/
/-- there is an archive just where it has a length -/
def lx_th (M : Nat → mq_C) : Prop := ∀ s : Nat, s < 4 → (hv M 237 s = 0 ∧ hv M 236 s = 0) ∨ (hv M 237 s = 1 ∧ 4 ≤ hv M 236 s)
theorem lx_mfinish {d z u : Nat} {M : Nat → mq_C} {Q : (Option Value ⊕ Nat) → mq_S → Prop} {x1 : Int32} (hd : 4 ≤ d) (hz : 272 ≤ z) (hm : mz_sh mz_GG M) (hx : HX M) (ht : lx_th M)
    (K : ∀ (M' : Nat → mq_C) (r : Int32), mz_sh mz_GG M' → HX M' → mz_fr mz_q140 M M' → (∀ a, a < 8 → M' a = M a) → hb_same mz_GG mz_q140 M M' → lx_th M' → lr_fin x1.toInt (hv M 234 17) (hb_sum (hn_g M) 6) (hv M 234 19) (hv M 236 0) (hv M 236 1) (hv M 236 2) (hv M 236 3) (hv M' 234 17) (hb_sum (hn_g M') 6) (hv M' 234 19) (hv M' 236 0) (hv M' 236 1) (hv M' 236 2) (hv M' 236 3) r.toInt → Q (.inl (some (.int r))) (M', z, u)) : mq_R mq_PP d 127 0 [some (.ref 234), some (.int x1), none, none, none] [] (M, z, u) Q := by
  have hC : ∀ c ∈ mz_Cs, c.2 < 4 → mz_Ct mz_GG mq_PP HX c.1 c.2 := fun c hc _ => ha_all c hc
  have t0 := ht 0 (by decide)
  have t1 := ht 1 (by decide)
  have t2 := ht 2 (by decide)
  have t3 := ht 3 (by decide)
  obtain ⟨d, rfl⟩ : ∃ d', d = d' + 2 := ⟨d - 2, by omega⟩
  refine he_aload (n := 1) (i := 0) (by decide +kernel) rfl ?_
  refine he_iconst (n := 2) (c := 0) (by decide +kernel) (by decide) ?_
  intro c1 hc1
  refine hb_pfd (n := 5) (ci := 9) (j := 0) (t := 0) (ns := [4177, 126]) hm (by decide +kernel) rfl rfl (by decide) (.inl rfl) ?_
  generalize hM1 : hb_set M 234 0 c1 = M1
  have hm1 : mz_sh mz_GG M1 := by rw [← hM1]; exact hb_set_sh hm rfl rfl (by omega) (by omega)
  have eM1 : ∀ b j, b ≠ 234 ∨ j ≠ 0 → hv M1 b j = hv M b j := by intro b j h; rw [← hM1]; exact hb_set_n h
  have sM1 : hv M1 234 0 = c1.toInt := by rw [← hM1]; exact hb_set_v hm rfl (by decide)
  have wM1 : ∀ b, b ≠ 234 → M1 b = M b := by intro b h; rw [← hM1]; exact hb_set_c h
  refine he_iload (n := 6) (i := 1) (by decide +kernel) rfl ?_
  refine he_iconst (n := 7) (c := 4) (by decide +kernel) (by decide) ?_
  intro c6 hc6
  have hx1 : HX M1 := fun t => by rw [← hM1]; exact hxk_s (hm_sp t _ _ (by omega)) (hx t)
  have fail : ∀ (M' : Nat → mq_C) (r : Int32), mz_sh mz_GG M' → HX M' → (∀ a, a < 272 → M' a = M1 a) → r.toInt = 0 → (x1.toInt < 0 ∨ 3 < x1.toInt ∨ ∃ s : Nat, s < 4 ∧ x1.toInt = (s : Int) ∧ ¬ hv M 237 s = 0) → Q (.inl (some (.int r))) (M', z, u) := by
    intro M' r h1 h2 h3 h4 h5
    obtain ⟨b1, b2, b3⟩ := hn_fS (M := M) (M' := M') (fun a ha n1 _ _ _ => (h3 a ha).trans (wM1 a n1)) (fun i n1 _ _ => (hb_vc (h3 234 (by decide)) i).trans (eM1 _ _ (.inr n1)))
    have q36 : ∀ i, hv M' 236 i = hv M 236 i := fun i => hb_vc ((h3 236 (by decide)).trans (wM1 236 (by decide))) i
    have q37 : ∀ i, hv M' 237 i = hv M 237 i := fun i => hb_vc ((h3 237 (by decide)).trans (wM1 237 (by decide))) i
    have q17 : hv M' 234 17 = hv M 234 17 := (hb_vc (h3 234 (by decide)) 17).trans (eM1 _ _ (.inr (by decide)))
    have q19 : hv M' 234 19 = hv M 234 19 := (hb_vc (h3 234 (by decide)) 19).trans (eM1 _ _ (.inr (by decide)))
    have qg : hb_sum (hn_g M') 6 = hb_sum (hn_g M) 6 := hb_sum_c 6 (fun i _ => by unfold hn_g; rw [q19, hb_vc ((h3 251 (by decide)).trans (wM1 251 (by decide)))])
    refine K M' r h1 h2 b1 b2 b3 (fun s hs => by rw [q36, q37]; exact ht s hs) ?_
    rw [q17, q19, qg, q36, q36, q36, q36]
    rcases h5 with h5 | h5 | ⟨s, hs, e, h5⟩
    · exact (show lr_fin _ _ _ _ _ _ _ _ _ _ _ _ _ _ _ _ from .inl ⟨by omega, (.inl (by omega)), by omega, by omega, by omega, by omega, by omega, by omega, by omega⟩)
    · exact (show lr_fin _ _ _ _ _ _ _ _ _ _ _ _ _ _ _ _ from .inl ⟨by omega, (.inr (.inl (by omega))), by omega, by omega, by omega, by omega, by omega, by omega, by omega⟩)
    · have hs4 : s = 0 ∨ s = 1 ∨ s = 2 ∨ s = 3 := by omega
      rcases hs4 with rfl | rfl | rfl | rfl
      · exact (show lr_fin _ _ _ _ _ _ _ _ _ _ _ _ _ _ _ _ from .inl ⟨by omega, (.inr (.inr (.inl ⟨by omega, by omega⟩))), by omega, by omega, by omega, by omega, by omega, by omega, by omega⟩)
      · exact (show lr_fin _ _ _ _ _ _ _ _ _ _ _ _ _ _ _ _ from .inl ⟨by omega, (.inr (.inr (.inr (.inl ⟨by omega, by omega⟩)))), by omega, by omega, by omega, by omega, by omega, by omega, by omega⟩)
      · exact (show lr_fin _ _ _ _ _ _ _ _ _ _ _ _ _ _ _ _ from .inl ⟨by omega, (.inr (.inr (.inr (.inr (.inl ⟨by omega, by omega⟩))))), by omega, by omega, by omega, by omega, by omega, by omega, by omega⟩)
      · exact (show lr_fin _ _ _ _ _ _ _ _ _ _ _ _ _ _ _ _ from .inl ⟨by omega, (.inr (.inr (.inr (.inr (.inr ⟨by omega, by omega⟩))))), by omega, by omega, by omega, by omega, by omega, by omega, by omega⟩)
  have good : ∀ (Mo : Nat → mq_C) (ro : Int32), mz_sh mz_GG Mo → HX Mo → (∀ a, a < 272 → Mo a = M1 a) → ro.toInt = 0 → 0 ≤ x1.toInt → x1.toInt ≤ 3 → mq_R mq_PP (d + 2) 127 10 [some (.ref 234), some (.int x1), none, none, none] [.int ro] (Mo, z, u) Q := by
    intro Mo ro hmo hxo heo hro hl hu
    refine he_ifne_f (n := 13) (t := 34) (by decide +kernel) (by omega) ?_
    refine he_aload (n := 14) (i := 0) (by decide +kernel) rfl ?_
    refine he_getr (n := 17) (ci := 9) (j := 3) (ns := [4180, 16]) (b := 237) hmo (by decide +kernel) rfl rfl (by decide +kernel) ?_
    refine he_iload (n := 18) (i := 1) (by decide +kernel) rfl ?_
    refine he_iconst (n := 19) (c := 4) (by decide +kernel) (by decide) ?_
    intro c18 hc18
    refine he_s2 (n := 22) (j := 107) (mx := 2) (ns := [5207, 5208, 1011, 210]) (by decide +kernel) (by show 1 ≤ 8; omega) (by show 2 ≤ 2; omega) ?_
    rw [mq_e107]
    refine hu_out (hC (mz_q38, 1) (List.mem_of_getElem? (show mz_Cs[38]? = _ from rfl)) (by decide)) (by omega) hz hmo hxo ?_ ?_ ?_
    rotate_left
    · intros
      omega
    · intros
      omega
    intro Mp rp hmp gxp gwp g8p gep hrp _ _
    have hep : ∀ a, a < 272 → Mp a = M1 a := fun a ha => (gwp a ha rfl).trans (heo a ha)
    show mq_R mq_PP (d + 2) 127 22 _ [.int rp, .ref 237] (Mp, z, u) Q
    refine he_ifeq_t (n := 25) (t := 29) (by decide +kernel) (by omega) ?_
    refine he_iload (n := 30) (i := 1) (by decide +kernel) rfl ?_
    refine hb_ld (n := 31) (kind := 65) hmp (by decide +kernel) rfl rfl (.inr rfl) (by omega) (show _ < (4 : Int) by omega) hb_at1 ?_
    intro v30 hv30 lv30 uv30
    by_cases h31 : v30.toInt = 0
    · skip
      refine he_ifeq_t (n := 34) (t := 36) (by decide +kernel) (by omega) ?_
      refine he_aload (n := 37) (i := 0) (by decide +kernel) rfl ?_
      refine he_getr (n := 40) (ci := 9) (j := 3) (ns := [4180, 16]) (b := 237) hmp (by decide +kernel) rfl rfl (by decide +kernel) ?_
      refine he_iload (n := 41) (i := 1) (by decide +kernel) rfl ?_
      refine he_iconst (n := 42) (c := 1) (by decide +kernel) (by decide) ?_
      intro c41 hc41
      refine hb_sta (n := 43) (kind := 65) hmp (by decide +kernel) rfl rfl (.inr ⟨rfl, he_01 (by omega)⟩) (by omega) (show _ < (4 : Int) by omega) ?_
      generalize hM2 : hb_set Mp 237 (x1.toInt.toNat) c41 = M2
      have hm2 : mz_sh mz_GG M2 := by rw [← hM2]; exact hb_set_sh hmp rfl hb_at1 (by omega) (by omega)
      have eM2 : ∀ b j, b ≠ 237 ∨ j ≠ x1.toInt.toNat → hv M2 b j = hv Mp b j := by intro b j h; rw [← hM2]; exact hb_set_n h
      have sM2 : hv M2 237 (x1.toInt.toNat) = c41.toInt := by rw [← hM2]; exact hb_set_v hmp rfl (show _ < 4 by omega)
      have wM2 : ∀ b, b ≠ 237 → M2 b = Mp b := by intro b h; rw [← hM2]; exact hb_set_c h
      refine he_iconst (n := 44) (c := 0) (by decide +kernel) (by decide) ?_
      intro c43 hc43
      refine he_istore (n := 45) (i := 2) (by decide +kernel) rfl ?_
      obtain ⟨s, hse⟩ : ∃ s : Nat, x1.toInt = (s : Int) := ⟨x1.toInt.toNat, by omega⟩
      have hs : s < 4 := by omega
      have h13 : hx13 s Mp := by rw [← hn_k13 hs]; exact gxp (26 + s)
      have h12 : hx12 Mp := gxp 25
      have z37 : hv Mp 237 s = 0 := by rw [show s = x1.toInt.toNat by omega, hv30]; exact h31
      have z36 := h13 z37
      have t37 : hv M2 237 s = 1 := by rw [show s = x1.toInt.toNat by omega, sM2]; omega
      obtain ⟨⟨r1, r2⟩, ⟨r3, r4⟩, r5, r6⟩ := hn_rg hm2
      have hgT : hb_sum (hn_g M2) 6 = hb_sum (fun e => if (e : Int) < hv Mp 234 19 then 12 + hb_nm (hv Mp 251 (6 * e)) else 0) 6 := hb_sum_c 6 (fun i _ => by unfold hn_g; rw [hb_vc (wM2 234 (by decide)), hb_vc (wM2 251 (by decide))])
      have tot : hv M2 234 17 + hb_sum (hn_g M2) 6 + 4 ≤ 240 := by
        rw [hgT, hb_vc (wM2 234 (by decide))]
        exact h12
      have hF0 : hn_F s 0 M2 M2 := ⟨hm2, fun _ _ _ => rfl, by rw [hb_vc (wM2 236 (by decide))]; exact z36, fun _ _ => rfl⟩
      refine hn_f45 (M := M2) hs hse r1 r2 r3 tot ?_ (hv M2 234 17).toNat M2 c43 (by omega) (by omega) (by rw [show c43.toInt = 0 by omega]; exact hF0)
      intro Mc hF l2 o3 o4
      refine he_aload (n := 244) (i := 0) (by decide +kernel) rfl ?_
      refine he_iconst (n := 245) (c := 0) (by decide +kernel) (by decide) ?_
      intro ce244 hce244
      refine hb_pfd (n := 248) (ci := 9) (j := 19) (t := 0) (ns := [4196, 197]) hF.1 (by decide +kernel) rfl rfl (by decide) (.inl rfl) ?_
      generalize hMe1 : hb_set Mc 234 19 ce244 = Me1
      have hme1 : mz_sh mz_GG Me1 := by rw [← hMe1]; exact hb_set_sh hF.1 rfl rfl (by omega) (by omega)
      have eMe1 : ∀ b j, b ≠ 234 ∨ j ≠ 19 → hv Me1 b j = hv Mc b j := by intro b j h; rw [← hMe1]; exact hb_set_n h
      have sMe1 : hv Me1 234 19 = ce244.toInt := by rw [← hMe1]; exact hb_set_v hF.1 rfl (by decide)
      have wMe1 : ∀ b, b ≠ 234 → Me1 b = Mc b := by intro b h; rw [← hMe1]; exact hb_set_c h
      refine he_aload (n := 249) (i := 0) (by decide +kernel) rfl ?_
      refine he_iconst (n := 250) (c := 0) (by decide +kernel) (by decide) ?_
      intro ce249 hce249
      refine hb_pfd (n := 253) (ci := 9) (j := 17) (t := 0) (ns := [4194, 191]) hme1 (by decide +kernel) rfl rfl (by decide) (.inl rfl) ?_
      generalize hMe2 : hb_set Me1 234 17 ce249 = Me2
      have hme2 : mz_sh mz_GG Me2 := by rw [← hMe2]; exact hb_set_sh hme1 rfl rfl (by omega) (by omega)
      have eMe2 : ∀ b j, b ≠ 234 ∨ j ≠ 17 → hv Me2 b j = hv Me1 b j := by intro b j h; rw [← hMe2]; exact hb_set_n h
      have sMe2 : hv Me2 234 17 = ce249.toInt := by rw [← hMe2]; exact hb_set_v hme1 rfl (by decide)
      have wMe2 : ∀ b, b ≠ 234 → Me2 b = Me1 b := by intro b h; rw [← hMe2]; exact hb_set_c h
      refine he_iconst (n := 254) (c := 1) (by decide +kernel) (by decide) ?_
      intro ce253 hce253
      refine he_retz (by decide +kernel) (by omega) ?_
      have hwE : ∀ a, a ≠ 234 → a ≠ 235 → a ≠ 236 → a ≠ 237 → Me2 a = Mp a := fun a n1 n2 n3 n4 => by rw [wMe2 a n1, wMe1 a n1, hF.2.1 a n2 n3, wM2 a n4]
      have heE : ∀ i, i ≠ 17 → i ≠ 19 → hv Me2 234 i = hv Mp 234 i := fun i n1 n2 => by rw [eMe2 _ _ (.inr n1), eMe1 _ _ (.inr n2), hb_vc (hF.2.1 234 (by decide) (by decide)), hb_vc (wM2 234 (by decide))]
      have h237 : ∀ i, hv Me2 237 i = hv M2 237 i := fun i => by rw [hb_vc (wMe2 237 (by decide)), hb_vc (wMe1 237 (by decide)), hb_vc (hF.2.1 237 (by decide) (by decide))]
      have h236 : ∀ i, i ≠ s → hv Me2 236 i = hv Mp 236 i := fun i hi => by rw [hb_vc (wMe2 236 (by decide)), hb_vc (wMe1 236 (by decide)), hF.2.2.2 i hi, hb_vc (wM2 236 (by decide))]
      have hxE : HX Me2 := by
        intro k
        by_cases e : k = 25
        · subst e
          show hx12 Me2
          unfold hx12
          have a1 : hv Me2 234 19 = 0 := by rw [eMe2 _ _ (.inr (by decide)), sMe1]; omega
          have a2 : hv Me2 234 17 = 0 := by rw [sMe2]; omega
          rw [a2, hb_sum_c 6 (g := fun _ => 0) (fun i _ => by rw [if_neg (by omega)])]
          show (0 : Int) + (0 + 0 + 0 + 0 + 0 + 0 + 0) + 4 ≤ 240
          omega
        · by_cases e2 : k = 26 ∨ k = 27 ∨ k = 28 ∨ k = 29
          · obtain ⟨t, ht, rfl⟩ : ∃ t, t < 4 ∧ k = 26 + t := ⟨k - 26, by omega, by omega⟩
            rw [hn_k13 ht]
            intro h0
            by_cases es : t = s
            · subst es
              rw [h237] at h0
              omega
            · have h13t : hx13 t Mp := by rw [← hn_k13 ht]; exact gxp (26 + t)
              rw [h236 t es]
              refine h13t ?_
              rw [← h0, h237, eM2 _ _ (.inr (by omega))]
          · refine hxk_c (fun a i hs' => ?_) (gxp k)
            by_cases h1 : a = 235 ∨ a = 236 ∨ a = 237 ∨ a = 234 ∧ (i = 0 ∨ i = 17 ∨ i = 19)
            · rw [hn_sp3 k a i (by omega) h1] at hs'
              cases hs'
            · by_cases h2 : a = 234
              · rw [h2]
                exact heE i (by omega) (by omega)
              · exact hb_vc (hwE a h2 (by omega) (by omega) (by omega)) i
      obtain ⟨b1, b2, b3⟩ := hn_fS (M := M) (M' := Me2) (fun a ha n1 n2 n3 n4 => ((hwE a n1 n2 n3 n4).trans (hep a ha)).trans (wM1 a n1)) (fun i n1 n2 n3 => ((heE i n2 n3).trans (hb_vc (hep 234 (by decide)) i)).trans (eM1 _ _ (.inr n1)))
      have zs : hv Me2 236 s = hv M 234 17 + hb_sum (hn_g M) 6 + 4 := by
        rw [hb_vc (wMe2 236 (by decide)), hb_vc (wMe1 236 (by decide)), hF.2.2.1, hb_vc (wM2 234 (by decide)), hb_vc (hep 234 (by decide)), eM1 _ _ (.inr (by decide)), hgT]
        rw [hb_sum_c 6 (g := hn_g M) (fun i _ => by unfold hn_g; rw [hb_vc (hep 234 (by decide)), eM1 _ _ (.inr (by decide)), hb_vc ((hep 251 (by decide)).trans (wM1 251 (by decide)))])]
      have y36 : ∀ i, i ≠ s → hv Me2 236 i = hv M 236 i := fun i hi => (h236 i hi).trans (hb_vc ((hep 236 (by decide)).trans (wM1 236 (by decide))) i)
      have y37 : ∀ i, i ≠ s → hv Me2 237 i = hv M 237 i := fun i hi => by rw [h237, eM2 _ _ (.inr (by omega)), hb_vc ((hep 237 (by decide)).trans (wM1 237 (by decide)))]
      have y37s : hv Me2 237 s = 1 := (h237 s).trans t37
      have a1 : hv Me2 234 19 = 0 := by rw [eMe2 _ _ (.inr (by decide)), sMe1]; omega
      have a2 : hv Me2 234 17 = 0 := by rw [sMe2]; omega
      have a3 : hb_sum (hn_g Me2) 6 = 0 := by
        rw [hb_sum_c 6 (g := fun _ => 0) (fun i _ => by unfold hn_g; rw [if_neg (by omega)])]
        rfl
      have z0 : hv M 236 s = 0 := by rw [← hb_vc ((hep 236 (by decide)).trans (wM1 236 (by decide)))]; exact z36
      have g6 := hn_g0 (M := M) 6
      have g17 := (hn_rg hm).2.1.1
      refine K Me2 _ hme2 hxE b1 b2 b3 (fun i hi => ?_) ?_
      · by_cases es : i = s
        · rw [es, y37s, zs]
          exact .inr ⟨rfl, by omega⟩
        · rw [y36 i es, y37 i es]
          exact ht i hi
      · rw [a1, a2, a3]
        have hs4 : s = 0 ∨ s = 1 ∨ s = 2 ∨ s = 3 := by omega
        rcases hs4 with rfl | rfl | rfl | rfl
        · have o1 := y36 1 (by decide)
          have o2 := y36 2 (by decide)
          have o3 := y36 3 (by decide)
          exact (show lr_fin _ _ _ _ _ _ _ _ _ _ _ _ _ _ _ _ from (.inr (.inl ⟨by omega, by omega, by omega, by omega, by omega, by omega, by omega, by omega, by omega, by omega⟩)))
        · have o1 := y36 0 (by decide)
          have o2 := y36 2 (by decide)
          have o3 := y36 3 (by decide)
          exact (show lr_fin _ _ _ _ _ _ _ _ _ _ _ _ _ _ _ _ from (.inr (.inr (.inl ⟨by omega, by omega, by omega, by omega, by omega, by omega, by omega, by omega, by omega, by omega⟩))))
        · have o1 := y36 0 (by decide)
          have o2 := y36 1 (by decide)
          have o3 := y36 3 (by decide)
          exact (show lr_fin _ _ _ _ _ _ _ _ _ _ _ _ _ _ _ _ from (.inr (.inr (.inr (.inl ⟨by omega, by omega, by omega, by omega, by omega, by omega, by omega, by omega, by omega, by omega⟩)))))
        · have o1 := y36 0 (by decide)
          have o2 := y36 1 (by decide)
          have o3 := y36 2 (by decide)
          exact (show lr_fin _ _ _ _ _ _ _ _ _ _ _ _ _ _ _ _ from (.inr (.inr (.inr (.inr ⟨by omega, by omega, by omega, by omega, by omega, by omega, by omega, by omega, by omega, by omega⟩)))))
    · skip
      refine he_ifeq_f (n := 34) (t := 36) (by decide +kernel) (by omega) ?_
      refine he_iconst (n := 35) (c := 0) (by decide +kernel) (by decide) ?_
      intro c34 hc34
      refine he_retz (by decide +kernel) (by omega) ?_
      refine fail Mp _ hmp gxp hep (by omega) (.inr (.inr ⟨x1.toInt.toNat, by omega, by omega, ?_⟩))
      rw [← hb_vc ((hep 237 (by decide)).trans (wM1 237 (by decide))), hv30]
      exact h31
  refine he_s2 (n := 10) (j := 107) (mx := 2) (ns := [5207, 5208, 1011, 210]) (by decide +kernel) (by decide) (by show 2 ≤ 2; omega) ?_
  rw [mq_e107]
  refine hu_out (hC (mz_q38, 1) (List.mem_of_getElem? (show mz_Cs[38]? = _ from rfl)) (by decide)) (by omega) hz hm1 hx1 ?_ ?_ ?_
  · intro Mo ro hmo gx gw g8 ge l1 l2 l3
    exact good Mo ro hmo gx (fun a ha => gw a ha rfl) (by omega) (by omega) (by omega)
  · intro Mo ro hmo gx gw g8 ge
    intros
    show mq_R mq_PP (d + 2) 127 10 _ [.int ro] (Mo, z, u) Q
    refine he_ifne_t (n := 13) (t := 34) (by decide +kernel) (by omega) ?_
    refine he_iconst (n := 35) (c := 0) (by decide +kernel) (by decide) ?_
    intro c34 hc34
    refine he_retz (by decide +kernel) (by omega) ?_
    exact fail Mo _ hmo gx (fun a ha => gw a ha rfl) (by omega) (by omega)
  · intro Mo ro hmo gx gw g8 ge
    intros
    show mq_R mq_PP (d + 2) 127 10 _ [.int ro] (Mo, z, u) Q
    refine he_ifne_t (n := 13) (t := 34) (by decide +kernel) (by omega) ?_
    refine he_iconst (n := 35) (c := 0) (by decide +kernel) (by decide) ?_
    intro c34 hc34
    refine he_retz (by decide +kernel) (by omega) ?_
    exact fail Mo _ hmo gx (fun a ha => gw a ha rfl) (by omega) (by omega)
