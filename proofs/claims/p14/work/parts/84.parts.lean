/-! Loading a class: parts. -/
theorem he_v4 {d k pc n z u : Nat} {L : mq_L} {st : List Value} {M : Nat → mq_C} {Q : (Option Value ⊕ Nat) → mq_S → Prop} {j ci mx a : Nat} {ns : List Nat} {v0 v1 v2 v3 : Value} (hat : mq_at mq_PP k pc = some (61, n :: j :: 4 :: ci :: mx :: ns, [])) (hk : (M a).1 = ci) (hw : mq_wt st ≤ 8) (hm : (mq_sp [.ref a, v0, v1, v2, v3]).length ≤ mx) (h : mq_R mq_PP d j 0 (mq_en mq_PP j [.ref a, v0, v1, v2, v3]) [] (M, z, u) (mq_after mq_PP (d + 1) k pc n L st Q)) : mq_R mq_PP (d + 1) k pc L (v3 :: v2 :: v1 :: v0 :: .ref a :: st) (M, z, u) Q := by
  rw [mq_R_at hat, mq_y_v4 hk hw hm]
  exact h
theorem he_pop_i {d k pc n z u : Nat} {L : mq_L} {st : List Value} {M : Nat → mq_C} {Q : (Option Value ⊕ Nat) → mq_S → Prop} {x : Int32} (hat : mq_at mq_PP k pc = some (34, [n], [])) (h : mq_R mq_PP d k n L st (M, z, u) Q) : mq_R mq_PP d k pc L (.int x :: st) (M, z, u) Q := he_go hat rfl h
def hl_S (M M' : Nat → mq_C) : Prop := mz_fr mz_q194 M M' ∧ (∀ a, a < 8 → M' a = M a) ∧ hb_same mz_GG mz_q194 M M'
theorem hl_St {M M' M'' : Nat → mq_C} (h : hl_S M M') (h' : hl_S M' M'') : hl_S M M'' := ⟨hb_fr_t (q' := mz_q194) (fun a ha => ha) h.1 h'.1, fun a ha => (h'.2.1 a ha).trans (h.2.1 a ha), hb_same_t (q' := mz_q194) (fun j hj => hj) h.2.2 h'.2.2⟩
def hl_rel (k dep : Nat) (M M' : Nat → mq_C) : Prop := hl_S M M' ∧ (∀ k', k' < 4 → ∀ n, hv M' (94 + 5 * k') n = hv M (94 + 5 * k') n) ∧ (∀ k', k' < 4 → ∀ n, (k < k' ∨ hv M (94 + 5 * k') n ≠ 0) → hv M' (93 + 5 * k') n = hv M (93 + 5 * k') n) ∧ ∀ j, j < dep → hv M' (111 + 3 * j) 0 = hv M (111 + 3 * j) 0
theorem hl_relr {k dep : Nat} {M : Nat → mq_C} : hl_rel k dep M M := ⟨⟨hb_fr_r, fun _ _ => rfl, hb_same_r⟩, fun _ _ _ => rfl, fun _ _ _ _ => rfl, fun _ _ => rfl⟩
theorem hl_relt {k k' dep dep' : Nat} {M M' M'' : Nat → mq_C} (hk : k' ≤ k) (hd : dep ≤ dep') (h : hl_rel k dep M M') (h' : hl_rel k' dep' M' M'') : hl_rel k dep M M'' := by
  refine ⟨hl_St h.1 h'.1, fun c hc n => (h'.2.1 c hc n).trans (h.2.1 c hc n), fun c hc n hn => ?_, fun j hj => (h'.2.2.2 j (by omega)).trans (h.2.2.2 j hj)⟩
  refine (h'.2.2.1 c hc n ?_).trans (h.2.2.1 c hc n hn)
  rcases hn with hn | hn
  · exact .inl (by omega)
  · exact .inr (by rw [h.2.1 c hc n]; exact hn)
/-- cells that matter are the same -/
theorem hl_relc {k dep : Nat} {M M' : Nat → mq_C} (hd : dep ≤ 41) (hs : hl_S M M') (h1 : ∀ a, a = 93 ∨ a = 98 ∨ a = 103 ∨ a = 108 ∨ a = 94 ∨ a = 99 ∨ a = 104 ∨ a = 109 → M' a = M a) (h2 : ∀ j, j < 41 → hv M' (111 + 3 * j) 0 = hv M (111 + 3 * j) 0) : hl_rel k dep M M' := ⟨hs, fun c hc n => hb_vc (h1 _ (by omega)) n, fun c hc n _ => hb_vc (h1 _ (by omega)) n, fun j hj => h2 j (by omega)⟩
def hl_wk (W : List Nat) : Bool := W.all fun a => !([93, 98, 103, 108, 94, 99, 104, 109].elem a) && !(decide (111 ≤ a) && decide (a ≤ 233) && decide (a % 3 = 0))
theorem hl_relf {k dep : Nat} {q' : mz_Q} {M M' : Nat → mq_C} (hd : dep ≤ 41) (hW : ∀ a ∈ q'.2.2.2.2.2, a ∈ mz_q194.2.2.2.2.2) (hm : ∀ j, mz_pos j mz_q194.2.2.2.1 = none → mz_pos j q'.2.2.2.1 = none) (hw : hl_wk q'.2.2.2.2.2 = true) (h1 : mz_fr q' M M') (h2 : ∀ a, a < 8 → M' a = M a) (h3 : hb_same mz_GG q' M M') : hl_rel k dep M M' := by
  have key : ∀ a, a < 272 → (([93, 98, 103, 108, 94, 99, 104, 109].elem a) = true ∨ 111 ≤ a ∧ a ≤ 233 ∧ a % 3 = 0) → M' a = M a := by
    intro a ha hc
    refine h1 a ha ?_
    cases hx : q'.2.2.2.2.2.elem a with
    | false => rfl
    | true =>
      have h4 := List.all_eq_true.mp hw a (List.elem_iff.mp hx)
      rcases hc with hc | ⟨c1, c2, c3⟩
      · rw [hc] at h4
        cases h4
      · rw [decide_eq_true c1, decide_eq_true c2, decide_eq_true c3] at h4
        simp at h4
  refine hl_relc hd ⟨hb_fr_t (hb_wsub hW) hb_fr_r h1, h2, hb_same_t hm hb_same_r h3⟩ (fun a ha => key a (by omega) (.inl ?_)) (fun j hj => hb_vc (key _ (by omega) (.inr (by omega))) 0)
  rcases ha with rfl | rfl | rfl | rfl | rfl | rfl | rfl | rfl <;> rfl
theorem hl_Wm (a : Nat) (h1 : 111 ≤ a) (h2 : a ≤ 233) : a ∈ mz_q194.2.2.2.2.2 := by
  have h : ∀ j : Fin 123, mz_q194.2.2.2.2.2.elem (111 + j.val) = true := by decide +kernel
  have h3 := h ⟨a - 111, by omega⟩
  rw [show 111 + (a - 111) = a by omega] at h3
  exact List.elem_iff.mp h3
theorem hl_Sset {M M' : Nat → mq_C} {a : Nat} (ha : a ∈ mz_q194.2.2.2.2.2) (h8 : 8 ≤ a) (hw : ∀ b, b ≠ a → M' b = M b) (hs : ∀ t ∈ mz_GG.2.2.1, t.1 = a → hv M' t.1 t.2 = hv M t.1 t.2) : hl_S M M' := by
  refine ⟨fun b _ hb => hw b ?_, fun b hb => hw b (by omega), fun j t ht _ => ?_⟩
  · rintro rfl
    rw [List.elem_iff.mpr ha] at hb
    cases hb
  · by_cases e : t.1 = a
    · exact hs t (List.mem_of_getElem? ht) e
    · exact hb_vc (hw _ e) _
theorem hl_trk : ∀ t ∈ mz_GG.2.2.1, ¬ (91 < t.1 ∧ t.1 ≤ 95) ∧ ¬ (96 < t.1 ∧ t.1 ≤ 100) ∧ ¬ (101 < t.1 ∧ t.1 ≤ 105) ∧ ¬ (106 < t.1 ∧ t.1 ≤ 233) ∧ (t.1 = 8 → t.2 = 4 ∨ t.2 = 7 ∨ t.2 = 10) := by decide +kernel
def hl_IH (t : Nat) : Prop := ∀ {d z u : Nat} {Q : (Option Value ⊕ Nat) → mq_S → Prop} {M : Nat → mq_C} {x1 x2 x3 : Int32}, 12 + 3 * t ≤ d → 272 ≤ z → mz_sh mz_GG M → HX M → 0 ≤ x1.toInt → x1.toInt ≤ 3 → 0 ≤ x2.toInt → x2.toInt ≤ 31 → x3.toInt + (t : Int) = 41 → 0 ≤ x3.toInt → (∀ (M' : Nat → mq_C) (r : Int32), mz_sh mz_GG M' → HX M' → hl_rel x1.toInt.toNat x3.toInt.toNat M M' → -1 ≤ r.toInt → r.toInt ≤ 127 → Q (.inl (some (.int r))) (M', z, u)) → mq_R mq_PP d 37 0 [some (.ref 8), some (.int x1), some (.int x2), some (.int x3), none, none] [] (M, z, u) Q
theorem hl_s13 (k : Nat) : hsp k 8 13 = false := by
  match k with
  | 0 | 1 | 2 | 3 | 4 | 5 | 6 | 7 | 8 | 9 | 10 | 11 | 12 | 13 | 14 | 15 | 16 | 17 | 18 | 19 | 20 | 21 | 22 | 23 | 24 | 25 | 26 | 27 | 28 | 29 => rfl
  | n + 30 => rfl
theorem hl_parts {t : Nat} (hC : ∀ c ∈ mz_Cs, c.2 < 11 → mz_Ct mz_GG mq_PP HX c.1 c.2) (IH : hl_IH t) {d z u i : Nat} {Q : (Option Value ⊕ Nat) → mq_S → Prop} {M0 : Nat → mq_C} {x1 x3 : Int32} {nm : Int} (hd : 13 + 3 * t ≤ d) (hz : 272 ≤ z) (hi : i < 41) (p1 : 0 ≤ x1.toInt) (p2 : x1.toInt ≤ 3) (p3 : x3.toInt + (t : Int) = 41) (p4 : x3.toInt = (i : Int) + 1) (hn0 : 0 ≤ nm) (hn1 : nm ≤ 31)
    (K : ∀ (M' : Nat → mq_C) (r : Int32), mz_sh mz_GG M' → HX M' → hl_rel x1.toInt.toNat x3.toInt.toNat M0 M' → 0 ≤ r.toInt → r.toInt ≤ 1 → Q (.inl (some (.int r))) (M', z, u)) :
    ∀ (m : Nat) (M : Nat → mq_C) (x4 : Int32) (o5 o6 : Option Value), (m : Int) + x4.toInt = 3 → 0 ≤ x4.toInt → mz_sh mz_GG M → HX M → hl_rel x1.toInt.toNat x3.toInt.toNat M0 M → hv M (111 + 3 * i) 0 = nm → mq_nl o5 = true → mq_nl o6 = true → mq_R mq_PP d 41 3 [some (.ref 8), some (.int x1), some (.ref (111 + 3 * i)), some (.int x3), some (.int x4), o5, o6] [] (M, z, u) Q := by
  have hset : ∀ (M M' : Nat → mq_C) (j : Nat) (v : Int32), hb_set M (113 + 3 * i) j v = M' → HX M → HX M' ∧ hl_rel x1.toInt.toNat x3.toInt.toNat M M' := by
    intro M M' j v h hx
    have hw : ∀ b, b ≠ 113 + 3 * i → M' b = M b := by
      intro b hb
      rw [← h]
      exact hb_set_c hb
    refine ⟨fun k => by rw [← h]; exact hxk_s (hl_sp k _ _ (by omega) (by omega)) (hx k), ?_⟩
    refine hl_relc (by omega) (hl_Sset (a := 113 + 3 * i) (hl_Wm _ (by omega) (by omega)) (by omega) hw (fun t ht e => ?_)) (fun a ha => hw a (by omega)) (fun j hj => hb_vc (hw _ (by omega)) 0)
    have := hl_trk t ht
    omega
  obtain ⟨d, rfl⟩ : ∃ d', d = d' + 1 := ⟨d - 1, by omega⟩
  intro m
  induction m with
  | zero =>
    intro M x4 o5 o6 e1 e2 hm hx hr hn n5 n6
    refine he_iload (n := 5) (i := 4) (by decide +kernel) rfl ?_
    refine he_iconst (n := 6) (c := 3) (by decide +kernel) (by decide) ?_
    intro c5 hc5
    refine he_cmpge_t (n := 9) (t := 118) (by decide +kernel) (by omega) ?_
    refine he_iconst (n := 119) (c := 1) (by decide +kernel) (by decide) ?_
    intro c118 hc118
    refine he_retz (by decide +kernel) (by omega) ?_
    exact K M _ hm hx hr (by omega) (by omega)
  | succ m ih =>
    intro M x4 o5 o6 e1 e2 hm hx hr hn n5 n6
    refine he_iload (n := 5) (i := 4) (by decide +kernel) rfl ?_
    refine he_iconst (n := 6) (c := 3) (by decide +kernel) (by decide) ?_
    intro c5 hc5
    by_cases h6 : c5.toInt ≤ x4.toInt
    · omega
    · skip
      refine he_cmpge_f (n := 9) (t := 118) (by decide +kernel) (by omega) ?_
      refine he_aload (n := 10) (i := 2) (by decide +kernel) rfl ?_
      refine he_getr (n := 13) (ci := 2) (j := 4) (ns := [2065, 305]) (b := 113 + 3 * i) hm (by decide +kernel) (hl_cell hi) rfl (hl_r4 hi) ?_
      refine he_iload (n := 15) (i := 4) (by decide +kernel) rfl ?_
      refine he_iconst (n := 16) (c := -1) (by decide +kernel) (by decide) ?_
      intro c15 hc15
      refine hb_sta (n := 17) (kind := 64) hm (by decide +kernel) (hl_c2 hi) rfl (.inl rfl) (by omega) (show _ < (3 : Int) by omega) ?_
      generalize hM1 : hb_set M (113 + 3 * i) (x4.toInt.toNat) c15 = M1
      have hm1 : mz_sh mz_GG M1 := by rw [← hM1]; exact hb_set_sh hm (hl_c2 hi) hb_at1 (by omega) (by omega)
      have eM1 : ∀ b j, b ≠ 113 + 3 * i ∨ j ≠ x4.toInt.toNat → hv M1 b j = hv M b j := by intro b j h; rw [← hM1]; exact hb_set_n h
      have sM1 : hv M1 (113 + 3 * i) (x4.toInt.toNat) = c15.toInt := by rw [← hM1]; exact hb_set_v hm (hl_c2 hi) (show _ < 3 by omega)
      have wM1 : ∀ b, b ≠ 113 + 3 * i → M1 b = M b := by intro b h; rw [← hM1]; exact hb_set_c h
      refine he_aload (n := 18) (i := 2) (by decide +kernel) rfl ?_
      refine he_getr (n := 21) (ci := 2) (j := 3) (ns := [2063, 308]) (b := 112 + 3 * i) hm1 (by decide +kernel) (hl_cell hi) rfl (hl_r3 hi) ?_
      refine he_iload (n := 23) (i := 4) (by decide +kernel) rfl ?_
      refine hb_ld (n := 24) (kind := 64) hm1 (by decide +kernel) (hl_c1 hi) rfl (.inl rfl) (by omega) (show _ < (3 : Int) by omega) hb_at1 ?_
      intro v23 hv23 lv23 uv23
      refine he_iconst (n := 25) (c := -1) (by decide +kernel) (by decide) ?_
      intro c24 hc24
      obtain ⟨hx1, hr1⟩ := hset M M1 _ _ hM1 hx
      have hr01 := hl_relt (Nat.le_refl _) (Nat.le_refl _) hr hr1
      have hn1' : hv M1 (111 + 3 * i) 0 = nm := by rw [hr1.2.2.2 i (by omega)]; exact hn
      by_cases h25 : v23.toInt = c24.toInt
      · skip
        refine he_cmpne_f (n := 28) (t := 31) (by decide +kernel) (by omega) ?_
        refine he_goto (t := 112) (by decide +kernel) ?_
        refine he_iinc (n := 115) (i := 4) (c := 1) (L' := fun v => [some (.ref (8)), some (.int x1), some (.ref (111 + 3 * i)), some (.int x3), some (.int v), o5, o6]) (by decide +kernel) (by decide) rfl (fun _ => rfl) (by omega) (by omega) ?_
        intro i112 hi112
        refine he_goto (t := 3) (by decide +kernel) ?_
        exact ih M1 i112 _ _ (by omega) (by omega) hm1 hx1 hr01 hn1' n5 n6
      · skip
        refine he_cmpne_t (n := 28) (t := 31) (by decide +kernel) (by omega) ?_
        refine he_aload (n := 32) (i := 0) (by decide +kernel) rfl ?_
        refine he_iload (n := 33) (i := 1) (by decide +kernel) rfl ?_
        refine he_aload (n := 34) (i := 2) (by decide +kernel) rfl ?_
        refine he_getr (n := 37) (ci := 2) (j := 3) (ns := [2063, 308]) (b := 112 + 3 * i) hm1 (by decide +kernel) (hl_cell hi) rfl (hl_r3 hi) ?_
        refine he_iload (n := 39) (i := 4) (by decide +kernel) rfl ?_
        refine hb_ld (n := 40) (kind := 64) hm1 (by decide +kernel) (hl_c1 hi) rfl (.inl rfl) (by omega) (show _ < (3 : Int) by omega) hb_at1 ?_
        intro v39 hv39 lv39 uv39
        refine he_iload (n := 41) (i := 3) (by decide +kernel) rfl ?_
        have e39 : v39.toInt = v23.toInt := by omega
        refine he_v3 (n := 44) (j := 37) (ci := 0) (mx := 6) (ns := [3237, 3239, 36, 159]) (by decide +kernel) ((hb_kd (a := 8) hm1 rfl).trans rfl) (by decide) (by show 4 ≤ 6; omega) ?_
        rw [mq_e37]
        refine IH (by omega) hz hm1 hx1 p1 p2 (by omega) (by omega) p3 (by omega) ?_
        intro Ma ra hma hxa hra la1 la2
        have hr0a := hl_relt (Nat.le_refl _) (Nat.le_refl _) hr01 hra
        have hna : hv Ma (111 + 3 * i) 0 = nm := by rw [hra.2.2.2 i (by omega)]; exact hn1'
        show mq_R mq_PP (d + 1) 41 44 _ [.int ra] (Ma, z, u) Q
        refine he_istore (n := 46) (i := 5) (by decide +kernel) rfl ?_
        refine he_iload (n := 48) (i := 5) (by decide +kernel) rfl ?_
        refine he_iconst (n := 49) (c := -1) (by decide +kernel) (by decide) ?_
        intro c48 hc48
        by_cases h49 : ra.toInt = c48.toInt
        · skip
          refine he_cmpne_f (n := 52) (t := 67) (by decide +kernel) (by omega) ?_
          refine he_aload (n := 53) (i := 0) (by decide +kernel) rfl ?_
          refine he_v0 (n := 56) (j := 36) (ci := 0) (mx := 1) (ns := [4005, 4007, 38, 269]) (by decide +kernel) ((hb_kd (a := 8) hma rfl).trans rfl) (by decide) (by show 1 ≤ 1; omega) ?_
          rw [mq_e36]
          refine hu_wasMissing (hC (mz_q74, 1) (List.mem_of_getElem? (show mz_Cs[74]? = _ from rfl)) (by decide)) (by omega) hz hma hxa ?_
          intro Mb rb hmb hxb kb1 kb2 kb3 lb1 lb2
          have hr0b := hl_relt (Nat.le_refl _) (Nat.le_refl _) hr0a (hl_relf (k := x1.toInt.toNat) (dep := x3.toInt.toNat) (by omega) (by decide +kernel) (fun j _ => rfl) (by decide +kernel) kb1 kb2 kb3)
          show mq_R mq_PP (d + 1) 41 56 _ [.int rb] (Mb, z, u) Q
          by_cases h56 : rb.toInt = 0
          · skip
            refine he_ifeq_t (n := 59) (t := 65) (by decide +kernel) (by omega) ?_
            refine he_iconst (n := 66) (c := 0) (by decide +kernel) (by decide) ?_
            intro c65 hc65
            refine he_retz (by decide +kernel) (by omega) ?_
            exact K Mb _ hmb hxb hr0b (by omega) (by omega)
          · skip
            refine he_ifeq_f (n := 59) (t := 65) (by decide +kernel) (by omega) ?_
            refine he_aload (n := 60) (i := 0) (by decide +kernel) rfl ?_
            refine he_iconst (n := 62) (c := 7) (by decide +kernel) (by decide) ?_
            intro cg60 hcg60
            refine hb_pfd (n := 65) (ci := 0) (j := 13) (t := 0) (ns := [2090, 71]) hmb (by decide +kernel) rfl rfl (by decide) (.inl rfl) ?_
            generalize hMg1 : hb_set Mb 8 13 cg60 = Mg1
            have hmg1 : mz_sh mz_GG Mg1 := by rw [← hMg1]; exact hb_set_sh hmb rfl rfl (by omega) (by omega)
            have eMg1 : ∀ b j, b ≠ 8 ∨ j ≠ 13 → hv Mg1 b j = hv Mb b j := by intro b j h; rw [← hMg1]; exact hb_set_n h
            have sMg1 : hv Mg1 8 13 = cg60.toInt := by rw [← hMg1]; exact hb_set_v hmb rfl (by decide)
            have wMg1 : ∀ b, b ≠ 8 → Mg1 b = Mb b := by intro b h; rw [← hMg1]; exact hb_set_c h
            refine he_iconst (n := 66) (c := 0) (by decide +kernel) (by decide) ?_
            intro cg65 hcg65
            refine he_retz (by decide +kernel) (by omega) ?_
            have hxg : HX Mg1 := fun k => by rw [← hMg1]; exact hxk_s (hl_s13 k) (hxb k)
            refine K Mg1 _ hmg1 hxg (hl_relt (Nat.le_refl _) (Nat.le_refl _) hr0b ?_) (by omega) (by omega)
            refine hl_relc (by omega) (hl_Sset (a := 8) (by decide +kernel) (by omega) wMg1 (fun t ht e => eMg1 _ _ (.inr ?_))) (fun a ha => wMg1 a (by omega)) (fun j hj => hb_vc (wMg1 _ (by omega)) 0)
            have := hl_trk t ht
            omega
        · skip
          refine he_cmpne_t (n := 52) (t := 67) (by decide +kernel) (by omega) ?_
          refine he_aload (n := 68) (i := 0) (by decide +kernel) rfl ?_
          refine he_iload (n := 69) (i := 1) (by decide +kernel) rfl ?_
          refine he_aload (n := 70) (i := 2) (by decide +kernel) rfl ?_
          refine hb_gfd (n := 73) (ci := 2) (j := 0) (ns := [2057, 311]) hma (by decide +kernel) (hl_cell hi) rfl (show 0 < 5 by decide) rfl ?_
          intro v70 hv70 lv70 uv70
          refine he_iload (n := 75) (i := 4) (by decide +kernel) rfl ?_
          refine he_iconst (n := 77) (c := 8) (by decide +kernel) (by decide) ?_
          intro c75 hc75
          refine he_iload (n := 79) (i := 5) (by decide +kernel) rfl ?_
          refine he_imul (n := 80) (p := 8 * ra.toInt) (by decide +kernel) (by rw [hc75]) (by omega) (by omega) ?_
          intro v79 hv79
          have e70 : v70.toInt = nm := by omega
          refine he_v4 (n := 83) (j := 42) (ci := 0) (mx := 8) (ns := [4054, 4056, 47, 314]) (by decide +kernel) ((hb_kd (a := 8) hma rfl).trans rfl) (by decide) (by show 5 ≤ 8; omega) ?_
          rw [mq_e42]
          refine hu_faultOfPart (hC (mz_q123, 2) (List.mem_of_getElem? (show mz_Cs[123]? = _ from rfl)) (by decide)) (by omega) hz hma hxa (by omega) (by omega) (by omega) (by omega) (by omega) (by omega) (by omega) (by omega) ?_
          intro Mc rc hmc hxc kc1 kc2 kc3 lc1 lc2
          have hrc := hl_relf (k := x1.toInt.toNat) (dep := x3.toInt.toNat) (by omega) (by decide +kernel) (fun j _ => rfl) (by decide +kernel) kc1 kc2 kc3
          have hr0c := hl_relt (Nat.le_refl _) (Nat.le_refl _) hr0a hrc
          have hnc : hv Mc (111 + 3 * i) 0 = nm := by rw [hrc.2.2.2 i (by omega)]; exact hna
          show mq_R mq_PP (d + 1) 41 83 _ [.int rc] (Mc, z, u) Q
          refine he_istore (n := 85) (i := 6) (by decide +kernel) rfl ?_
          refine he_iload (n := 87) (i := 6) (by decide +kernel) rfl ?_
          by_cases h87 : rc.toInt = 0
          · skip
            refine he_ifeq_t (n := 90) (t := 103) (by decide +kernel) (by omega) ?_
            refine he_aload (n := 104) (i := 2) (by decide +kernel) rfl ?_
            refine he_getr (n := 107) (ci := 2) (j := 4) (ns := [2065, 305]) (b := 113 + 3 * i) hmc (by decide +kernel) (hl_cell hi) rfl (hl_r4 hi) ?_
            refine he_iload (n := 109) (i := 4) (by decide +kernel) rfl ?_
            refine he_iload (n := 111) (i := 5) (by decide +kernel) rfl ?_
            refine hb_sta (n := 112) (kind := 64) hmc (by decide +kernel) (hl_c2 hi) rfl (.inl rfl) (by omega) (show _ < (3 : Int) by omega) ?_
            generalize hMh1 : hb_set Mc (113 + 3 * i) (x4.toInt.toNat) ra = Mh1
            have hmh1 : mz_sh mz_GG Mh1 := by rw [← hMh1]; exact hb_set_sh hmc (hl_c2 hi) hb_at1 (by omega) (by omega)
            have eMh1 : ∀ b j, b ≠ 113 + 3 * i ∨ j ≠ x4.toInt.toNat → hv Mh1 b j = hv Mc b j := by intro b j h; rw [← hMh1]; exact hb_set_n h
            have sMh1 : hv Mh1 (113 + 3 * i) (x4.toInt.toNat) = ra.toInt := by rw [← hMh1]; exact hb_set_v hmc (hl_c2 hi) (show _ < 3 by omega)
            have wMh1 : ∀ b, b ≠ 113 + 3 * i → Mh1 b = Mc b := by intro b h; rw [← hMh1]; exact hb_set_c h
            refine he_iinc (n := 115) (i := 4) (c := 1) (L' := fun v => [some (.ref (8)), some (.int x1), some (.ref (111 + 3 * i)), some (.int x3), some (.int v), some (.int ra), some (.int rc)]) (by decide +kernel) (by decide) rfl (fun _ => rfl) (by omega) (by omega) ?_
            intro ih112 hih112
            refine he_goto (t := 3) (by decide +kernel) ?_
            obtain ⟨hxh, hrh⟩ := hset Mc Mh1 _ _ hMh1 hxc
            exact ih Mh1 ih112 _ _ (by omega) (by omega) hmh1 hxh (hl_relt (Nat.le_refl _) (Nat.le_refl _) hr0c hrh) (by rw [hrh.2.2.2 i (by omega)]; exact hnc) rfl rfl
          · skip
            refine he_ifeq_f (n := 90) (t := 103) (by decide +kernel) (by omega) ?_
            refine he_aload (n := 91) (i := 0) (by decide +kernel) rfl ?_
            refine he_iload (n := 93) (i := 6) (by decide +kernel) rfl ?_
            refine he_aload (n := 94) (i := 2) (by decide +kernel) rfl ?_
            refine hb_gfd (n := 97) (ci := 2) (j := 0) (ns := [2057, 311]) hmc (by decide +kernel) (hl_cell hi) rfl (show 0 < 5 by decide) rfl ?_
            intro v94 hv94 lv94 uv94
            refine he_v2 (n := 100) (j := 25) (ci := 0) (mx := 3) (ns := [4001, 4003, 37, 166]) (by decide +kernel) ((hb_kd (a := 8) hmc rfl).trans rfl) (by decide) (by show 3 ≤ 3; omega) ?_
            rw [mq_e25]
            refine hu_blame (hC (mz_q72, 1) (List.mem_of_getElem? (show mz_Cs[72]? = _ from rfl)) (by decide)) (by omega) hz hmc hxc (by omega) (by omega) (by omega) (by omega) ?_
            intro Md rd hmd hxd' kd1 kd2 kd3 ld1
            have hr0d := hl_relt (Nat.le_refl _) (Nat.le_refl _) hr0c (hl_relf (k := x1.toInt.toNat) (dep := x3.toInt.toNat) (by omega) (by decide +kernel) (fun j _ => rfl) (by decide +kernel) kd1 kd2 kd3)
            show mq_R mq_PP (d + 1) 41 100 _ [.int rd] (Md, z, u) Q
            refine he_pop_i (n := 101) (by decide +kernel) ?_
            refine he_iconst (n := 102) (c := 0) (by decide +kernel) (by decide) ?_
            intro c101 hc101
            refine he_retz (by decide +kernel) (by omega) ?_
            exact K Md _ hmd hxd' hr0d (by omega) (by omega)
