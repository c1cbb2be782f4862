/-! readMarks of the class, exactly. -/
def xord (k : Nat) : Nat := [16, 17, 18, 0, 8, 7, 9, 6, 10, 5, 11, 4, 12, 3, 13, 2, 14, 1, 15].getD k 0
def xmk (B : Nat → Int) (a : Nat) : Nat → Nat → Int
  | 0, _ => 0
  | c + 1, j => if j = xord c then xb B (a + 3 * c) 3 else xmk B a c j
theorem xe_mo : ∀ j : Fin 19, mq_MO[j.val]? = some (.int (Int32.ofNat (xord j.val))) ∧ (Int32.ofNat (xord j.val)).toInt = (xord j.val : Int) ∧ xord j.val < 19 := by decide +kernel
theorem xe_ord {d k pc n z u j : Nat} {L : mq_L} {st : List Value} {M : Nat → mq_C} {Q : (Option Value ⊕ Nat) → mq_S → Prop} {i : Int32} (h1 : M 1 = (60, mq_MO)) (hi : i.toInt = (j : Int)) (hj : j < 19) (hat : mq_at mq_PP k pc = some (58, [n, 64], [])) (h : ∀ v : Int32, v.toInt = (xord j : Int) → mq_R mq_PP d k n L (.int v :: st) (M, z, u) Q) : mq_R mq_PP d k pc L (.int i :: .ref 1 :: st) (M, z, u) Q := by
  obtain ⟨e1, e2, e3⟩ := xe_mo ⟨j, hj⟩
  have e : i.toNatClampNeg = j := by
    show i.toInt.toNat = j
    omega
  rw [mq_R_at hat, mq_x_aldo h1 (by rw [Int32.lt_iff_toInt_lt, hi]; show ¬ (j : Int) < 0; omega) (by rw [e]; exact e1) rfl]
  exact h _ e2
theorem xV_fr {bk : Int} {pk f E a : Nat} {M0 M M' : Nat → mq_C} {o : List Int} (h : xV pk f E bk M0 M a o) (hs : mz_sh mz_GG M') (h9 : M' 9 = M 9) (h10 : M' 10 = M 10) (hF : ∀ b, b < 9 ∨ 24 ≤ b → M' b = M b) : xV pk f E bk M0 M' a o := by
  obtain ⟨h1, h2, h3, h4, h5, h6, h7⟩ := h
  refine ⟨⟨hs, fun b hb => (hF b hb).trans (h1.2.1 b hb), by rw [h9]; exact h1.2.2⟩, ?_, ?_, ?_, h5, ?_, fun i hi => ?_⟩
  · rw [hb_vc h9]; exact h2
  · rw [hb_vc h9]; exact h3
  · rw [hb_vc h9]; exact h4
  · rw [hb_vc h9]; exact h6
  · rw [hb_vc h10]; exact h7 i hi
theorem xc_c {f g : Nat → Int} {n b : Nat} (h : ∀ i, i < n → f i = g i) : xc f n b = xc g n b := hb_cnt_c (fun i hi => by rw [h i hi])
theorem xf_c {f g : Nat → Int} {n : Nat} (h : ∀ i, i < n → f i = g i) : xf f n = xf g n := hb_sum_c 15 (fun t _ => by rw [xc_c h])
theorem xq_c {f g : Nat → Int} {n b : Nat} (h : ∀ i, i < n → f i = g i) : xq f n b = xq g n b := hb_sum_c _ (fun t _ => xc_c h)
theorem xp_c {f g : Nat → Int} {n i : Nat} (h : ∀ i, i < n → f i = g i) (hi : i < n) : xp f n i = xp g n i := by
  unfold xp
  rw [h i hi, xq_c h, hb_cnt_c (q := fun j => decide (g j = g i)) (fun j hj => by rw [h j (by omega)])]
theorem xT_c {M : Nat → mq_C} {c n : Nat} {f g : Nat → Int} (hT : xT M c n f) (h : ∀ i, i < n → f i = g i) : xT M c n g := ⟨fun b h1 h2 => by rw [← xc_c h]; exact hT.1 b h1 h2, fun i h1 h2 => by rw [← xp_c h h1]; exact hT.2 i h1 (by rw [h i h1]; exact h2)⟩
theorem xj_rm_l {bk : Int} {d z u pk f E ln a : Nat} {M0 : Nat → mq_C} {o : List Int} {Q : (Option Value ⊕ Nat) → mq_S → Prop} {c : Nat} {Mb : Nat → mq_C} {x1 : Int32} (hp : mz_GG.1 pk = some (64, ln, 1, [(0, 0, 255)])) (he : 8 * f + E ≤ 8 * ln) (hl : ln ≤ 240) (h9 : pk < 9 ∨ 24 ≤ pk) (hc : c ≤ 19) (hx : x1.toInt = (c : Int)) (hMO : M0 1 = (60, mq_MO))
    (K1 : ∀ M' : Nat → mq_C, bk = 0 → a + 3 * c ≤ E → xf (xmk (fun i => xB M0 pk (8 * f + i)) a c) 19 = 32768 → xV pk f E 0 M0 M' (a + 3 * c) o → xT M' 12 19 (xmk (fun i => xB M0 pk (8 * f + i)) a c) → (∀ b, b ≠ 9 → b ≠ 11 → (b < 12 ∨ 16 ≤ b) → M' b = Mb b) → Q (.inl none) (M', z, u))
    (K2 : ∀ (M' : Nat → mq_C) (a' : Nat), (bk = 1 ∨ ¬ a + 3 * c ≤ E ∨ ¬ xf (xmk (fun i => xB M0 pk (8 * f + i)) a c) 19 = 32768) → xV pk f E 1 M0 M' a' o → (∀ b, b ≠ 9 → b ≠ 11 → (b < 12 ∨ 16 ≤ b) → M' b = Mb b) → Q (.inl none) (M', z, u)) : ∀ (m j : Nat) (bk' : Int) (M : Nat → mq_C) (a' : Nat) (i : Int32), j + m = c → i.toInt = (j : Int) → (bk' = 0 ∨ bk' = 1) → xV pk f E bk' M0 M a' o → (∀ b, b ≠ 9 → b ≠ 11 → M b = Mb b) → (bk' = 0 → bk = 0 ∧ a' = a + 3 * j ∧ ∀ t, t < 19 → hv M 11 t = xmk (fun i => xB M0 pk (8 * f + i)) a j t) → (bk' = 1 → (bk = 1 ∨ ¬ a + 3 * c ≤ E)) → mq_R mq_PP (d + 1) 98 13 [some (.ref 9), some (.int x1), some (.int i)] [] (M, z, u) Q := by
  intro m
  induction m with
  | zero =>
    intro j bk' M a' i e1 e2 hbk hV hF h0 h1
    obtain rfl : j = c := by omega
    refine he_iload (n := 14) (i := 2) (by decide +kernel) rfl ?_
    refine he_iload (n := 15) (i := 1) (by decide +kernel) rfl ?_
    refine he_cmpge_t (n := 18) (t := 39) (by decide +kernel) (by omega) ?_
    refine he_aload (n := 40) (i := 0) (by decide +kernel) rfl ?_
    refine he_getr (n := 43) (ci := 8) (j := 7) (ns := [1076, 40]) (b := 12) hV.1.1 (by decide +kernel) rfl rfl (by decide +kernel) ?_
    refine he_aload (n := 44) (i := 0) (by decide +kernel) rfl ?_
    refine he_getr (n := 47) (ci := 8) (j := 6) (ns := [1075, 32]) (b := 11) hV.1.1 (by decide +kernel) rfl rfl (by decide +kernel) ?_
    refine he_iconst (n := 48) (c := 0) (by decide +kernel) (by decide) ?_
    intro c47 hc47
    refine he_iconst (n := 50) (c := 19) (by decide +kernel) (by decide) ?_
    intro c48 hc48
    refine he_v3 (n := 53) (j := 63) (ci := 3) (mx := 6) (ns := [1061, 1062, 1063, 60]) (by decide +kernel) ((hb_kd (a := 12) hV.1.1 rfl).trans rfl) (by show 0 ≤ 8; omega) (by show 4 ≤ 6; omega) ?_
    rw [mq_e63]
    refine xj_build12 (fl := fun i => hv M 11 (0 + i)) (fr := 0) (n := 19) (fun i _ => rfl) (by omega) (by omega) (by decide) (by decide) hV.1.1 ?_
    intro M2 hB hT2 hf2
    show mq_R mq_PP (d + 1) 98 53 _ [] (M2, z, u) Q
    have hV2 : xV pk f E bk' M0 M2 a' o := xV_fr hV hB.1 (hB.2 9 (by decide)) (hB.2 10 (by decide)) (fun b hb => hB.2 b (by omega))
    have hF2 : ∀ b, b ≠ 9 → b ≠ 11 → (b < 12 ∨ 16 ≤ b) → M2 b = Mb b := fun b n1 n2 n3 => (hB.2 b n3).trans (hF b n1 n2)
    refine he_aload (n := 54) (i := 0) (by decide +kernel) rfl ?_
    refine he_getr (n := 57) (ci := 8) (j := 7) (ns := [1076, 40]) (b := 12) hV2.1.1 (by decide +kernel) rfl rfl (by decide +kernel) ?_
    refine he_v0 (n := 60) (j := 64) (ci := 3) (mx := 1) (ns := [2193, 2194, 2195, 89]) (by decide +kernel) ((hb_kd (a := 12) hV2.1.1 rfl).trans rfl) (by show 0 ≤ 8; omega) (by show 1 ≤ 1; omega) ?_
    rw [mq_e64]
    refine xj_isFull12 hV2.1.1 ?_
    intro r hr1 hr0
    show mq_R mq_PP (d + 1) 98 60 _ [.int r] (M2, z, u) Q
    have hfx : bk' = 0 → hv M2 12 3 = xf (xmk (fun i => xB M0 pk (8 * f + i)) a j) 19 := by
      intro e
      rw [hf2]
      refine xf_c (fun i hi => ?_)
      rw [Nat.zero_add]
      exact (h0 e).2.2 i hi
    by_cases hfull : hv M2 12 3 = 32768
    · have := hr1 hfull
      refine he_ifne_t (n := 63) (t := 68) (by decide +kernel) (by omega) ?_
      refine he_ret (by decide +kernel) ?_
      rcases hbk with e | e
      · obtain ⟨k1, k2, k3⟩ := h0 e
        subst e
        have haE := hV2.2.2.2.2.1
        rw [k2] at hV2 haE
        refine K1 M2 k1 haE (by rw [← hfx rfl]; exact hfull) hV2 ?_ hF2
        exact xT_c hT2 (fun i hi => by rw [Nat.zero_add]; exact k3 i hi)
      · subst e
        refine K2 M2 a' ?_ hV2 hF2
        rcases h1 rfl with h | h
        · exact .inl h
        · exact .inr (.inl h)
    · have := hr0 hfull
      refine he_ifne_f (n := 63) (t := 68) (by decide +kernel) (by omega) ?_
      refine he_aload (n := 64) (i := 0) (by decide +kernel) rfl ?_
      refine he_iconst (n := 65) (c := 1) (by decide +kernel) (by decide) ?_
      intro c64 hc64
      refine hb_pfd (n := 68) (ci := 8) (j := 5) (t := 1) (ns := [1074, 28]) hV2.1.1 (by decide +kernel) rfl rfl (by decide) (.inr ⟨rfl, he_01 (by omega)⟩) ?_
      generalize hM1 : hb_set M2 9 5 c64 = M1
      have hm1 : mz_sh mz_GG M1 := by rw [← hM1]; exact hb_set_sh hV2.1.1 rfl rfl (by omega) (by omega)
      have eM1 : ∀ b j, b ≠ 9 ∨ j ≠ 5 → hv M1 b j = hv M2 b j := by intro b j h; rw [← hM1]; exact hb_set_n h
      have sM1 : hv M1 9 5 = c64.toInt := by rw [← hM1]; exact hb_set_v hV2.1.1 rfl (by decide)
      have wM1 : ∀ b, b ≠ 9 → M1 b = M2 b := by intro b h; rw [← hM1]; exact hb_set_c h
      refine he_ret (by decide +kernel) ?_
      refine K2 M1 a' ?_ (xV_br hV2 hM1 hm1 (by omega)) (fun b n1 n2 n3 => (wM1 b n1).trans (hF2 b n1 n2 n3))
      rcases hbk with e | e
      · exact .inr (.inr (by rw [← hfx e]; exact hfull))
      · rcases h1 e with h | h
        · exact .inl h
        · exact .inr (.inl h)
  | succ m ih =>
    intro j bk' M a' i e1 e2 hbk hV hF h0 h1
    have hM1 : M 1 = (60, mq_MO) := (hV.1.2.1 1 (by decide)).trans hMO
    refine he_iload (n := 14) (i := 2) (by decide +kernel) rfl ?_
    refine he_iload (n := 15) (i := 1) (by decide +kernel) rfl ?_
    refine he_cmpge_f (n := 18) (t := 39) (by decide +kernel) (by omega) ?_
    refine he_aload (n := 19) (i := 0) (by decide +kernel) rfl ?_
    refine he_getr (n := 22) (ci := 8) (j := 6) (ns := [1075, 32]) (b := 11) hV.1.1 (by decide +kernel) rfl rfl (by decide +kernel) ?_
    refine he_go (o := (54, [25, 1, 2191, 96], [])) (by decide +kernel) rfl ?_
    refine he_iload (n := 26) (i := 2) (by decide +kernel) rfl ?_
    refine xe_ord (j := j) (n := 27) hM1 e2 (by omega) (by decide +kernel) ?_
    intro v26 hv26
    refine he_aload (n := 28) (i := 0) (by decide +kernel) rfl ?_
    refine he_iconst (n := 29) (c := 3) (by decide +kernel) (by decide) ?_
    intro c28 hc28
    refine he_v1 (n := 32) (j := 94) (ci := 8) (mx := 4) (ns := [2150, 2152, 1, 67]) (by decide +kernel) ((hb_kd (a := 9) hV.1.1 rfl).trans rfl) (by show 2 ≤ 8; omega) (by show 2 ≤ 4; omega) ?_
    rw [mq_e94]
    have ho := (xe_mo ⟨j, by omega⟩).2.2
    have ho : xord j < 19 := ho
    have p8 : (2 : Int) ^ 3 = 8 := by decide
    have st : ∀ (bk2 : Int) (M2 : Nat → mq_C) (r : Int32) (a2 : Nat), (bk2 = 0 ∨ bk2 = 1) → 0 ≤ r.toInt → r.toInt ≤ 7 → xV pk f E bk2 M0 M2 a2 o → (∀ b, b ≠ 9 → M2 b = M b) → (bk2 = 0 → bk' = 0 ∧ a2 = a' + 3 ∧ r.toInt = xb (fun i => xB M0 pk (8 * f + i)) a' 3) → (bk2 = 1 → (bk = 1 ∨ ¬ a + 3 * c ≤ E)) → mq_R mq_PP (d + 1) 98 32 [some (.ref 9), some (.int x1), some (.int i)] [.int r, .int v26, .ref 11] (M2, z, u) Q := by
      intro bk2 M2 r a2 hbk2 g1 g2 hV2 hF2 k0 k1
      refine hb_sta (n := 33) (kind := 64) hV2.1.1 (by decide +kernel) rfl rfl (.inl rfl) (by omega) (show _ < (316 : Int) by omega) ?_
      generalize hM1 : hb_set M2 11 (v26.toInt.toNat) r = M1
      have hm1 : mz_sh mz_GG M1 := by rw [← hM1]; exact hb_set_sh hV2.1.1 rfl hb_at1 (by omega) (by omega)
      have eM1 : ∀ b j, b ≠ 11 ∨ j ≠ v26.toInt.toNat → hv M1 b j = hv M2 b j := by intro b j h; rw [← hM1]; exact hb_set_n h
      have sM1 : hv M1 11 (v26.toInt.toNat) = r.toInt := by rw [← hM1]; exact hb_set_v hV2.1.1 rfl (show _ < 316 by omega)
      have wM1 : ∀ b, b ≠ 11 → M1 b = M2 b := by intro b h; rw [← hM1]; exact hb_set_c h
      refine he_iinc (n := 36) (i := 2) (c := 1) (L' := fun v => [some (.ref (9)), some (.int x1), some (.int v)]) (by decide +kernel) (by decide) rfl (fun _ => rfl) (by omega) (by omega) ?_
      intro i33 hi33
      refine he_goto (t := 13) (by decide +kernel) ?_
      refine ih (j + 1) bk2 M1 a2 _ (by omega) (by omega) hbk2 ?_ (fun b n1 n2 => (wM1 b n2).trans ((hF2 b n1).trans (hF b n1 n2))) (fun e => ?_) k1
      · exact xV_fr hV2 hm1 (wM1 9 (by decide)) (wM1 10 (by decide)) (fun b hb => wM1 b (by omega))
      · obtain ⟨q1, q2, q3⟩ := k0 e
        obtain ⟨p1, p2, p3⟩ := h0 q1
        refine ⟨p1, by omega, fun t ht => ?_⟩
        show hv M1 11 t = if t = xord j then xb (fun i => xB M0 pk (8 * f + i)) (a + 3 * j) 3 else xmk (fun i => xB M0 pk (8 * f + i)) a j t
        by_cases htj : t = xord j
        · rw [if_pos htj, ← p2, ← q3, show t = v26.toInt.toNat by omega]
          exact sM1
        · rw [if_neg htj, eM1 _ _ (.inr (by omega)), hb_vc (hF2 11 (by decide))]
          exact p3 t ht
    refine xj_take (k := 3) hp he hl h9 (by decide) (by omega) hV ?_ ?_
    · intro M2 r hE hV2 hr hF2
      show mq_R mq_PP (d + 1) 98 32 _ [.int r, .int v26, .ref 11] (M2, z, u) Q
      have hb := xb_b (B := (fun i => xB M0 pk (8 * f + i))) (fun i => xB_01 _) a' 3
      exact st bk' M2 r (a' + 3) hbk (by omega) (by omega) hV2 hF2 (fun e => ⟨e, rfl, hr⟩) h1
    · intro M2 r hE hV2 hr hF2
      show mq_R mq_PP (d + 1) 98 32 _ [.int r, .int v26, .ref 11] (M2, z, u) Q
      refine st 1 M2 r a' (.inr rfl) (by omega) (by omega) hV2 hF2 (fun e => absurd e (by decide)) (fun _ => ?_)
      rcases hbk with e | e
      · obtain ⟨q1, q2, q3⟩ := h0 e
        exact .inr (by omega)
      · exact h1 e
theorem xj_readMarks {bk : Int} {d z u pk f E ln a : Nat} {M0 M : Nat → mq_C} {o : List Int} {Q : (Option Value ⊕ Nat) → mq_S → Prop} {c : Nat} {x1 : Int32} (hp : mz_GG.1 pk = some (64, ln, 1, [(0, 0, 255)])) (he : 8 * f + E ≤ 8 * ln) (hl : ln ≤ 240) (h9 : pk < 9 ∨ 24 ≤ pk) (hc : c ≤ 19) (hx : x1.toInt = (c : Int)) (hMO : M0 1 = (60, mq_MO)) (hV : xV pk f E bk M0 M a o) (hb : bk = 0 ∨ bk = 1)
    (K1 : ∀ M' : Nat → mq_C, bk = 0 → a + 3 * c ≤ E → xf (xmk (fun i => xB M0 pk (8 * f + i)) a c) 19 = 32768 → xV pk f E 0 M0 M' (a + 3 * c) o → xT M' 12 19 (xmk (fun i => xB M0 pk (8 * f + i)) a c) → (∀ b, b ≠ 9 → b ≠ 11 → (b < 12 ∨ 16 ≤ b) → M' b = M b) → Q (.inl none) (M', z, u))
    (K2 : ∀ (M' : Nat → mq_C) (a' : Nat), (bk = 1 ∨ ¬ a + 3 * c ≤ E ∨ ¬ xf (xmk (fun i => xB M0 pk (8 * f + i)) a c) 19 = 32768) → xV pk f E 1 M0 M' a' o → (∀ b, b ≠ 9 → b ≠ 11 → (b < 12 ∨ 16 ≤ b) → M' b = M b) → Q (.inl none) (M', z, u)) : mq_R mq_PP (d + 1) 98 0 [some (.ref 9), some (.int x1), none] [] (M, z, u) Q := by
  refine he_aload (n := 1) (i := 0) (by decide +kernel) rfl ?_
  refine he_getr (n := 4) (ci := 8) (j := 6) (ns := [1075, 32]) (b := 11) hV.1.1 (by decide +kernel) rfl rfl (by decide +kernel) ?_
  refine he_iconst (n := 5) (c := 0) (by decide +kernel) (by decide) ?_
  intro c4 hc4
  refine he_iconst (n := 7) (c := 19) (by decide +kernel) (by decide) ?_
  intro c5 hc5
  refine he_iconst (n := 8) (c := 0) (by decide +kernel) (by decide) ?_
  intro c7 hc7
  refine xe_s4 (n := 11) (j := 91) (mx := 5) (ns := [1058, 1059, 1002, 56]) (by decide +kernel) (by show 0 ≤ 8; omega) (by show 4 ≤ 5; omega) ?_
  rw [mq_e91]
  refine xj_fill (fr := 0) (be := 19) hV.1.1 (by omega) (by omega) (by decide) (by decide) (by omega) ?_
  intro M1 hm1 hF1 hx1
  show mq_R mq_PP (d + 1) 98 11 _ [] (M1, z, u) Q
  have hV1 : xV pk f E bk M0 M1 a o := xV_fr hV hm1 (hF1 9 (by decide)) (hF1 10 (by decide)) (fun b hb => hF1 b (by omega))
  refine he_iconst (n := 12) (c := 0) (by decide +kernel) (by decide) ?_
  intro c11 hc11
  refine he_istore (n := 13) (i := 2) (by decide +kernel) rfl ?_
  refine xj_rm_l (Mb := M1) (a := a) hp he hl h9 hc hx hMO (fun M' e1 e2 e3 e4 e5 e6 => K1 M' e1 e2 e3 e4 e5 (fun b n1 n2 n3 => (e6 b n1 n2 n3).trans (hF1 b n2))) (fun M' a' e1 e2 e3 => K2 M' a' e1 e2 (fun b n1 n2 n3 => (e3 b n1 n2 n3).trans (hF1 b n2))) c 0 bk M1 a _ (by omega) (by omega) hb hV1 (fun _ _ _ => rfl) (fun e => ⟨e, rfl, fun t ht => ?_⟩) (fun e => .inl e)
  rw [hx1 t, if_pos ⟨by omega, ht⟩]
  show _ = (0 : Int)
  omega
