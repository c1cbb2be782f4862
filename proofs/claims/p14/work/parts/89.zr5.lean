/-! The class's isOnTheWayUp, findPlaces and all, exactly. -/
theorem xq_up0 {d z u : Nat} {M : Nat → mq_C} {Q : (Option Value ⊕ Nat) → mq_S → Prop} {x1 x2 x3 x4 : Int32} {a j : Int} (h1 : x1.toInt = j) (h3 : x3.toInt = a) (K : ∀ r : Int32, (a = j → r.toInt = 1) → (¬ a = j → r.toInt = 0) → Q (.inl (some (.int r))) (M, z, u)) : mq_R mq_PP d 33 32 [some (.ref 8), some (.int x1), some (.int x2), some (.int x3), some (.int x4)] [] (M, z, u) Q := by
  by_cases g : a = j
  rotate_left
  · skip
    refine he_iload (n := 33) (i := 3) (by decide +kernel) rfl ?_
    refine he_iload (n := 34) (i := 1) (by decide +kernel) rfl ?_
    refine he_cmpne_t (n := 37) (t := 41) (by decide +kernel) (by omega) ?_
    refine he_iconst (n := 42) (c := 0) (by decide +kernel) (by decide) ?_
    intro ce41 hce41
    refine he_retz (by decide +kernel) (by omega) ?_
    exact K _ (fun h => absurd h g) (fun _ => by omega)
  · skip
    refine he_iload (n := 33) (i := 3) (by decide +kernel) rfl ?_
    refine he_iload (n := 34) (i := 1) (by decide +kernel) rfl ?_
    refine he_cmpne_f (n := 37) (t := 41) (by decide +kernel) (by omega) ?_
    refine he_iconst (n := 38) (c := 1) (by decide +kernel) (by decide) ?_
    intro ce37 hce37
    refine he_goto (t := 42) (by decide +kernel) ?_
    refine he_retz (by decide +kernel) (by omega) ?_
    exact K _ (fun _ => by omega) (fun h => absurd g h)
theorem xq_up1 {d z u : Nat} {M : Nat → mq_C} {Q : (Option Value ⊕ Nat) → mq_S → Prop} {p : Nat → Int} {l j : Nat} {x1 x2 : Int32} (hm : mz_sh mz_GG M) (hp : ∀ i : Nat, i ≤ l → hv M (91 + 5 * i) 0 = p i) (hb : ∀ i : Nat, i < 4 → -1 ≤ p i ∧ p i < (i : Int)) (hl : l < 4) (h1 : x1.toInt = (j : Int)) : ∀ (m : Nat) (x3 x4 : Int32), (m : Int) + x4.toInt = 4 → 0 ≤ x4.toInt → -1 ≤ x3.toInt → x3.toInt ≤ (l : Int) → (∀ r : Int32, (xupw p m x3.toInt (j : Int) = (j : Int) → r.toInt = 1) → (¬ xupw p m x3.toInt (j : Int) = (j : Int) → r.toInt = 0) → Q (.inl (some (.int r))) (M, z, u)) → mq_R mq_PP d 33 5 [some (.ref 8), some (.int x1), some (.int x2), some (.int x3), some (.int x4)] [] (M, z, u) Q := by
  intro m
  induction m with
  | zero =>
    intro x3 x4 e1 e2 e3 e4 K
    refine he_iload (n := 7) (i := 4) (by decide +kernel) rfl ?_
    refine he_iconst (n := 8) (c := 4) (by decide +kernel) (by decide) ?_
    intro c7 hc7
    refine he_cmpge_t (n := 11) (t := 32) (by decide +kernel) (by omega) ?_
    exact xq_up0 h1 rfl K
  | succ m ih =>
    intro x3 x4 e1 e2 e3 e4 K
    refine he_iload (n := 7) (i := 4) (by decide +kernel) rfl ?_
    refine he_iconst (n := 8) (c := 4) (by decide +kernel) (by decide) ?_
    intro c7 hc7
    refine he_cmpge_f (n := 11) (t := 32) (by decide +kernel) (by omega) ?_
    refine he_iload (n := 12) (i := 3) (by decide +kernel) rfl ?_
    refine he_iload (n := 13) (i := 1) (by decide +kernel) rfl ?_
    by_cases c : (j : Int) < x3.toInt
    · have hu : xupw p (m + 1) x3.toInt (j : Int) = xupw p m (p x3.toInt.toNat) (j : Int) := by
        show (if (j : Int) < x3.toInt then _ else _) = _
        rw [if_pos c]
      rw [hu] at K
      have h4 : x3.toInt = 1 ∨ x3.toInt = 2 ∨ x3.toInt = 3 := by omega
      rcases h4 with h3 | h3 | h3
      · have hpp : hv M 96 0 = p 1 := hp 1 (by omega)
        have hbb := hb 1 (by omega)
        refine he_cmple_f (n := 16) (t := 32) (by decide +kernel) (by omega) ?_
        refine he_aload (n := 17) (i := 0) (by decide +kernel) rfl ?_
        refine he_getr (n := 20) (ci := 0) (j := 3) (ns := [2080, 31]) (b := 38) hm (by decide +kernel) rfl rfl (by decide +kernel) ?_
        refine he_iload (n := 21) (i := 3) (by decide +kernel) rfl ?_
        refine he_aald (n := 22) (kind := 75) (b := 96) hm (by decide +kernel) rfl rfl (by decide) (by omega) (by rw [show x3.toInt.toNat = 1 by omega]; decide +kernel) ?_
        refine hb_gfd (n := 25) (ci := 5) (j := 0) (ns := [2023, 143]) hm (by decide +kernel) rfl rfl (by decide) rfl ?_
        intro v22 hv22 lv22 uv22
        refine he_istore (n := 26) (i := 3) (by decide +kernel) rfl ?_
        refine he_iinc (n := 29) (i := 4) (c := 1) (L' := fun v => [some (.ref (8)), some (.int x1), some (.int x2), some (.int v22), some (.int v)]) (by decide +kernel) (by decide) rfl (fun _ => rfl) (by omega) (by omega) ?_
        intro i26 hi26
        refine he_goto (t := 5) (by decide +kernel) ?_
        refine ih v22 i26 (by omega) (by omega) (by omega) (by omega) ?_
        rw [show x3.toInt.toNat = 1 by omega, ← hpp, hv22] at K
        exact K
      · have hpp : hv M 101 0 = p 2 := hp 2 (by omega)
        have hbb := hb 2 (by omega)
        refine he_cmple_f (n := 16) (t := 32) (by decide +kernel) (by omega) ?_
        refine he_aload (n := 17) (i := 0) (by decide +kernel) rfl ?_
        refine he_getr (n := 20) (ci := 0) (j := 3) (ns := [2080, 31]) (b := 38) hm (by decide +kernel) rfl rfl (by decide +kernel) ?_
        refine he_iload (n := 21) (i := 3) (by decide +kernel) rfl ?_
        refine he_aald (n := 22) (kind := 75) (b := 101) hm (by decide +kernel) rfl rfl (by decide) (by omega) (by rw [show x3.toInt.toNat = 2 by omega]; decide +kernel) ?_
        refine hb_gfd (n := 25) (ci := 5) (j := 0) (ns := [2023, 143]) hm (by decide +kernel) rfl rfl (by decide) rfl ?_
        intro v22 hv22 lv22 uv22
        refine he_istore (n := 26) (i := 3) (by decide +kernel) rfl ?_
        refine he_iinc (n := 29) (i := 4) (c := 1) (L' := fun v => [some (.ref (8)), some (.int x1), some (.int x2), some (.int v22), some (.int v)]) (by decide +kernel) (by decide) rfl (fun _ => rfl) (by omega) (by omega) ?_
        intro i26 hi26
        refine he_goto (t := 5) (by decide +kernel) ?_
        refine ih v22 i26 (by omega) (by omega) (by omega) (by omega) ?_
        rw [show x3.toInt.toNat = 2 by omega, ← hpp, hv22] at K
        exact K
      · have hpp : hv M 106 0 = p 3 := hp 3 (by omega)
        have hbb := hb 3 (by omega)
        refine he_cmple_f (n := 16) (t := 32) (by decide +kernel) (by omega) ?_
        refine he_aload (n := 17) (i := 0) (by decide +kernel) rfl ?_
        refine he_getr (n := 20) (ci := 0) (j := 3) (ns := [2080, 31]) (b := 38) hm (by decide +kernel) rfl rfl (by decide +kernel) ?_
        refine he_iload (n := 21) (i := 3) (by decide +kernel) rfl ?_
        refine he_aald (n := 22) (kind := 75) (b := 106) hm (by decide +kernel) rfl rfl (by decide) (by omega) (by rw [show x3.toInt.toNat = 3 by omega]; decide +kernel) ?_
        refine hb_gfd (n := 25) (ci := 5) (j := 0) (ns := [2023, 143]) hm (by decide +kernel) rfl rfl (by decide) rfl ?_
        intro v22 hv22 lv22 uv22
        refine he_istore (n := 26) (i := 3) (by decide +kernel) rfl ?_
        refine he_iinc (n := 29) (i := 4) (c := 1) (L' := fun v => [some (.ref (8)), some (.int x1), some (.int x2), some (.int v22), some (.int v)]) (by decide +kernel) (by decide) rfl (fun _ => rfl) (by omega) (by omega) ?_
        intro i26 hi26
        refine he_goto (t := 5) (by decide +kernel) ?_
        refine ih v22 i26 (by omega) (by omega) (by omega) (by omega) ?_
        rw [show x3.toInt.toNat = 3 by omega, ← hpp, hv22] at K
        exact K
    · have hu : xupw p (m + 1) x3.toInt (j : Int) = x3.toInt := by
        show (if (j : Int) < x3.toInt then _ else _) = _
        rw [if_neg c]
      rw [hu] at K
      refine he_cmple_t (n := 16) (t := 32) (by decide +kernel) (by omega) ?_
      exact xq_up0 h1 rfl K
theorem xq_up {d z u : Nat} {M : Nat → mq_C} {Q : (Option Value ⊕ Nat) → mq_S → Prop} {p : Nat → Int} {l j : Nat} {x1 x2 : Int32} (hm : mz_sh mz_GG M) (hp : ∀ i : Nat, i ≤ l → hv M (91 + 5 * i) 0 = p i) (hb : ∀ i : Nat, i < 4 → -1 ≤ p i ∧ p i < (i : Int)) (hl : l < 4) (h1 : x1.toInt = (j : Int)) (h2 : x2.toInt = (l : Int)) (K : ∀ r : Int32, (xup p j l = true → r.toInt = 1) → (¬ xup p j l = true → r.toInt = 0) → Q (.inl (some (.int r))) (M, z, u)) : mq_R mq_PP d 33 0 [some (.ref 8), some (.int x1), some (.int x2), none, none] [] (M, z, u) Q := by
  refine he_iload (n := 1) (i := 2) (by decide +kernel) rfl ?_
  refine he_istore (n := 2) (i := 3) (by decide +kernel) rfl ?_
  refine he_iconst (n := 3) (c := 0) (by decide +kernel) (by decide) ?_
  intro c2 hc2
  refine he_istore (n := 5) (i := 4) (by decide +kernel) rfl ?_
  refine xq_up1 hm hp hb hl h1 4 x2 c2 (by omega) (by omega) (by omega) (by omega) ?_
  intro r r1 r0
  rw [h2] at r1 r0
  exact K r (fun h => r1 (of_decide_eq_true h)) (fun h => r0 (fun q => h (decide_eq_true q)))
/-- the loaders: closed, archives, parents -/
def xCL (p cl : Nat → Int) (la : Nat → List Int) (l : Nat) (M : Nat → mq_C) : Prop := ∀ i : Nat, i < 4 → hv M (91 + 5 * i) 1 = cl i ∧ xAp M (91 + 5 * i) (la i) ∧ (i ≤ l → hv M (91 + 5 * i) 0 = p i)
theorem xCL_k {p cl : Nat → Int} {la : Nat → List Int} {l : Nat} {M M' : Nat → mq_C} (h : xGF M M') (g : xCL p cl la l M) : xCL p cl la l M' := by
  intro i hi
  have h1 := fun j => hb_vc (h.1 (91 + 5 * i) (by omega) (by omega) (by omega)) j
  have h2 := fun j => hb_vc (h.1 (91 + 5 * i + 1) (by omega) (by omega) (by omega)) j
  have g := g i hi
  unfold xAp at g ⊢
  refine ⟨(h1 1).trans g.1, ⟨(h1 3).trans g.2.1.1, g.2.1.2.1, g.2.1.2.2.1, fun j hj => (h2 j).trans (g.2.1.2.2.2 j hj)⟩, fun q => (h1 0).trans (g.2.2 q)⟩
abbrev xgg (f : Int → Int) (on : Int → List Int) (cl : Nat → Int) (la : Nat → List Int) (i : Nat) : List Int := xpl f (xFP on (cl i) (la i))
theorem xgg_len {f : Int → Int} {on : Int → List Int} {cl : Nat → Int} {la : Nat → List Int} {i : Nat} (ho : xon on) (h : xin (la i)) : (xgg f on cl la i).length ≤ 4 := Nat.le_trans (xpl_len _) (xFP_gv ho h).1
theorem xq_fp {d z u : Nat} {Q : (Option Value ⊕ Nat) → mq_S → Prop} {M0 : Nat → mq_C} {on : Int → List Int} {f : Int → Int} {p cl : Nat → Int} {la : Nat → List Int} {l : Nat} {x1 x2 : Int32} (h0 : 0 ≤ x2.toInt) (hE : xEA M0) (hf : xFf f x2 M0) (ho : xon on) (hO : xOn on M0) (hC0 : xCL p cl la l M0) (hin : ∀ i, xin (la i)) (hb : ∀ i : Nat, i < 4 → -1 ≤ p i ∧ p i < (i : Int)) (hl : l < 4) (h1 : x1.toInt = (l : Int)) (K : ∀ (M' : Nat → mq_C) (r : Int32), mz_sh mz_GG M' → xGF M0 M' → xFL M' (xR p (xgg f on cl la) l (l + 1)) → r.toInt = ((xR p (xgg f on cl la) l (l + 1)).length : Int) → Q (.inl (some (.int r))) (M', z, u)) :
    ∀ (m : Nat) (M : Nat → mq_C) (x4 x5 : Int32) (i : Nat), i + m = l + 1 → x5.toInt = (i : Int) → x4.toInt = ((xR p (xgg f on cl la) l i).length : Int) → mz_sh mz_GG M → xGF M0 M → xFL M (xR p (xgg f on cl la) l i) → mq_R mq_PP (d + 12) 32 6 [some (.ref 8), some (.int x1), some (.int x2), some (.ref 43), some (.int x4), some (.int x5)] [] (M, z, u) Q := by
  intro m
  induction m with
  | zero =>
    intro M x4 x5 i e1 e5 e4 hm hg hL
    refine he_iload (n := 8) (i := 5) (by decide +kernel) rfl ?_
    refine he_iload (n := 9) (i := 1) (by decide +kernel) rfl ?_
    refine he_cmpgt_t (n := 12) (t := 45) (by decide +kernel) (by omega) ?_
    refine he_iload (n := 47) (i := 4) (by decide +kernel) rfl ?_
    refine he_reti (by decide +kernel) ?_
    rw [show i = l + 1 by omega] at e4 hL
    exact K M _ hm hg hL e4
  | succ m ih =>
    intro M x4 x5 i e1 e5 e4 hm hg hL
    have k47 := xGF_47 hg
    have hC := xCL_k hg hC0
    have hRl := xR_len (p := p) (g := xgg f on cl la) (l := l) (i := i) (fun j => xgg_len ho (hin j))
    refine he_iload (n := 8) (i := 5) (by decide +kernel) rfl ?_
    refine he_iload (n := 9) (i := 1) (by decide +kernel) rfl ?_
    refine he_cmpgt_f (n := 12) (t := 45) (by decide +kernel) (by omega) ?_
    refine he_aload (n := 13) (i := 0) (by decide +kernel) rfl ?_
    refine he_iload (n := 15) (i := 5) (by decide +kernel) rfl ?_
    refine he_iload (n := 16) (i := 1) (by decide +kernel) rfl ?_
    refine he_v2 (n := 19) (j := 33) (ci := 0) (mx := 5) (ns := [3120, 3122, 28, 249]) (by decide +kernel) ((hb_kd (a := 8) hm rfl).trans rfl) (by show 0 ≤ 8; omega) (by show 3 ≤ 5; omega) ?_
    rw [mq_e33]
    refine xq_up (p := p) (l := l) (j := i) hm (fun t ht => (hC t (by omega)).2.2 ht) hb hl e5 h1 ?_
    intro r r1 r0
    show mq_R mq_PP (d + 12) 32 19 _ [.int r] (M, z, u) Q
    have hRs := xR_s (p := p) (g := xgg f on cl la) (l := l) (i := i)
    by_cases c : xup p i l = true
    · rw [if_pos c] at hRs
      have r1 := r1 c
      have h4 : i = 0 ∨ i = 1 ∨ i = 2 ∨ i = 3 := by omega
      rcases h4 with rfl | rfl | rfl | rfl
      · have g4 := hC 0 (by decide)
        have hc1 : hv M 91 1 = cl 0 := g4.1
        refine he_ifeq_f (n := 22) (t := 39) (by decide +kernel) (by omega) ?_
        refine he_aload (n := 23) (i := 0) (by decide +kernel) rfl ?_
        refine he_aload (n := 24) (i := 0) (by decide +kernel) rfl ?_
        refine he_getr (n := 27) (ci := 0) (j := 3) (ns := [2080, 31]) (b := 38) hm (by decide +kernel) rfl rfl (by decide +kernel) ?_
        refine he_iload (n := 29) (i := 5) (by decide +kernel) rfl ?_
        refine he_aald (n := 30) (kind := 75) (b := 91) hm (by decide +kernel) rfl rfl (by decide) (by omega) (by rw [show x5.toInt.toNat = 0 by omega]; decide +kernel) ?_
        refine he_iload (n := 31) (i := 2) (by decide +kernel) rfl ?_
        refine he_aload (n := 32) (i := 3) (by decide +kernel) rfl ?_
        refine he_iload (n := 34) (i := 4) (by decide +kernel) rfl ?_
        refine he_v4 (n := 37) (j := 34) (ci := 0) (mx := 8) (ns := [3124, 3126, 29, 252]) (by decide +kernel) ((hb_kd (a := 8) hm rfl).trans rfl) (by show 0 ≤ 8; omega) (by show 5 ≤ 8; omega) ?_
        rw [mq_e34]
        refine xq_ad91 (d := d + 1) (on := on) (f := f) (la := la 0) (acc := xR p (xgg f on cl la) l 0) hm h0 (xEA_k k47 hE) (xFf_k k47 hf) ho (xOn_c k47 hO) g4.2.1 e4 (by omega) hL ?_
        rw [hc1]
        intro M' r2 hm' hg' hL' hr2
        show mq_R mq_PP (d + 12) 32 37 _ [.int r2] (M', z, u) Q
        refine he_istore (n := 39) (i := 4) (by decide +kernel) rfl ?_
        refine he_iinc (n := 42) (i := 5) (c := 1) (L' := fun v => [some (.ref (8)), some (.int x1), some (.int x2), some (.ref (43)), some (.int r2), some (.int v)]) (by decide +kernel) (by decide) rfl (fun _ => rfl) (by omega) (by omega) ?_
        intro ie39 hie39
        refine he_goto (t := 6) (by decide +kernel) ?_
        exact ih M' r2 ie39 (0 + 1) (by omega) (by omega) (by rw [hRs]; exact hr2) hm' (xGF_t hg hg') (by rw [hRs]; exact hL')
      · have g4 := hC 1 (by decide)
        have hc1 : hv M 96 1 = cl 1 := g4.1
        refine he_ifeq_f (n := 22) (t := 39) (by decide +kernel) (by omega) ?_
        refine he_aload (n := 23) (i := 0) (by decide +kernel) rfl ?_
        refine he_aload (n := 24) (i := 0) (by decide +kernel) rfl ?_
        refine he_getr (n := 27) (ci := 0) (j := 3) (ns := [2080, 31]) (b := 38) hm (by decide +kernel) rfl rfl (by decide +kernel) ?_
        refine he_iload (n := 29) (i := 5) (by decide +kernel) rfl ?_
        refine he_aald (n := 30) (kind := 75) (b := 96) hm (by decide +kernel) rfl rfl (by decide) (by omega) (by rw [show x5.toInt.toNat = 1 by omega]; decide +kernel) ?_
        refine he_iload (n := 31) (i := 2) (by decide +kernel) rfl ?_
        refine he_aload (n := 32) (i := 3) (by decide +kernel) rfl ?_
        refine he_iload (n := 34) (i := 4) (by decide +kernel) rfl ?_
        refine he_v4 (n := 37) (j := 34) (ci := 0) (mx := 8) (ns := [3124, 3126, 29, 252]) (by decide +kernel) ((hb_kd (a := 8) hm rfl).trans rfl) (by show 0 ≤ 8; omega) (by show 5 ≤ 8; omega) ?_
        rw [mq_e34]
        refine xq_ad96 (d := d + 1) (on := on) (f := f) (la := la 1) (acc := xR p (xgg f on cl la) l 1) hm h0 (xEA_k k47 hE) (xFf_k k47 hf) ho (xOn_c k47 hO) g4.2.1 e4 (by omega) hL ?_
        rw [hc1]
        intro M' r2 hm' hg' hL' hr2
        show mq_R mq_PP (d + 12) 32 37 _ [.int r2] (M', z, u) Q
        refine he_istore (n := 39) (i := 4) (by decide +kernel) rfl ?_
        refine he_iinc (n := 42) (i := 5) (c := 1) (L' := fun v => [some (.ref (8)), some (.int x1), some (.int x2), some (.ref (43)), some (.int r2), some (.int v)]) (by decide +kernel) (by decide) rfl (fun _ => rfl) (by omega) (by omega) ?_
        intro ie39 hie39
        refine he_goto (t := 6) (by decide +kernel) ?_
        exact ih M' r2 ie39 (1 + 1) (by omega) (by omega) (by rw [hRs]; exact hr2) hm' (xGF_t hg hg') (by rw [hRs]; exact hL')
      · have g4 := hC 2 (by decide)
        have hc1 : hv M 101 1 = cl 2 := g4.1
        refine he_ifeq_f (n := 22) (t := 39) (by decide +kernel) (by omega) ?_
        refine he_aload (n := 23) (i := 0) (by decide +kernel) rfl ?_
        refine he_aload (n := 24) (i := 0) (by decide +kernel) rfl ?_
        refine he_getr (n := 27) (ci := 0) (j := 3) (ns := [2080, 31]) (b := 38) hm (by decide +kernel) rfl rfl (by decide +kernel) ?_
        refine he_iload (n := 29) (i := 5) (by decide +kernel) rfl ?_
        refine he_aald (n := 30) (kind := 75) (b := 101) hm (by decide +kernel) rfl rfl (by decide) (by omega) (by rw [show x5.toInt.toNat = 2 by omega]; decide +kernel) ?_
        refine he_iload (n := 31) (i := 2) (by decide +kernel) rfl ?_
        refine he_aload (n := 32) (i := 3) (by decide +kernel) rfl ?_
        refine he_iload (n := 34) (i := 4) (by decide +kernel) rfl ?_
        refine he_v4 (n := 37) (j := 34) (ci := 0) (mx := 8) (ns := [3124, 3126, 29, 252]) (by decide +kernel) ((hb_kd (a := 8) hm rfl).trans rfl) (by show 0 ≤ 8; omega) (by show 5 ≤ 8; omega) ?_
        rw [mq_e34]
        refine xq_ad101 (d := d + 1) (on := on) (f := f) (la := la 2) (acc := xR p (xgg f on cl la) l 2) hm h0 (xEA_k k47 hE) (xFf_k k47 hf) ho (xOn_c k47 hO) g4.2.1 e4 (by omega) hL ?_
        rw [hc1]
        intro M' r2 hm' hg' hL' hr2
        show mq_R mq_PP (d + 12) 32 37 _ [.int r2] (M', z, u) Q
        refine he_istore (n := 39) (i := 4) (by decide +kernel) rfl ?_
        refine he_iinc (n := 42) (i := 5) (c := 1) (L' := fun v => [some (.ref (8)), some (.int x1), some (.int x2), some (.ref (43)), some (.int r2), some (.int v)]) (by decide +kernel) (by decide) rfl (fun _ => rfl) (by omega) (by omega) ?_
        intro ie39 hie39
        refine he_goto (t := 6) (by decide +kernel) ?_
        exact ih M' r2 ie39 (2 + 1) (by omega) (by omega) (by rw [hRs]; exact hr2) hm' (xGF_t hg hg') (by rw [hRs]; exact hL')
      · have g4 := hC 3 (by decide)
        have hc1 : hv M 106 1 = cl 3 := g4.1
        refine he_ifeq_f (n := 22) (t := 39) (by decide +kernel) (by omega) ?_
        refine he_aload (n := 23) (i := 0) (by decide +kernel) rfl ?_
        refine he_aload (n := 24) (i := 0) (by decide +kernel) rfl ?_
        refine he_getr (n := 27) (ci := 0) (j := 3) (ns := [2080, 31]) (b := 38) hm (by decide +kernel) rfl rfl (by decide +kernel) ?_
        refine he_iload (n := 29) (i := 5) (by decide +kernel) rfl ?_
        refine he_aald (n := 30) (kind := 75) (b := 106) hm (by decide +kernel) rfl rfl (by decide) (by omega) (by rw [show x5.toInt.toNat = 3 by omega]; decide +kernel) ?_
        refine he_iload (n := 31) (i := 2) (by decide +kernel) rfl ?_
        refine he_aload (n := 32) (i := 3) (by decide +kernel) rfl ?_
        refine he_iload (n := 34) (i := 4) (by decide +kernel) rfl ?_
        refine he_v4 (n := 37) (j := 34) (ci := 0) (mx := 8) (ns := [3124, 3126, 29, 252]) (by decide +kernel) ((hb_kd (a := 8) hm rfl).trans rfl) (by show 0 ≤ 8; omega) (by show 5 ≤ 8; omega) ?_
        rw [mq_e34]
        refine xq_ad106 (d := d + 1) (on := on) (f := f) (la := la 3) (acc := xR p (xgg f on cl la) l 3) hm h0 (xEA_k k47 hE) (xFf_k k47 hf) ho (xOn_c k47 hO) g4.2.1 e4 (by omega) hL ?_
        rw [hc1]
        intro M' r2 hm' hg' hL' hr2
        show mq_R mq_PP (d + 12) 32 37 _ [.int r2] (M', z, u) Q
        refine he_istore (n := 39) (i := 4) (by decide +kernel) rfl ?_
        refine he_iinc (n := 42) (i := 5) (c := 1) (L' := fun v => [some (.ref (8)), some (.int x1), some (.int x2), some (.ref (43)), some (.int r2), some (.int v)]) (by decide +kernel) (by decide) rfl (fun _ => rfl) (by omega) (by omega) ?_
        intro ie39 hie39
        refine he_goto (t := 6) (by decide +kernel) ?_
        exact ih M' r2 ie39 (3 + 1) (by omega) (by omega) (by rw [hRs]; exact hr2) hm' (xGF_t hg hg') (by rw [hRs]; exact hL')
    · rw [if_neg c] at hRs
      have r0 := r0 c
      refine he_ifeq_t (n := 22) (t := 39) (by decide +kernel) (by omega) ?_
      refine he_iinc (n := 42) (i := 5) (c := 1) (L' := fun v => [some (.ref (8)), some (.int x1), some (.int x2), some (.ref (43)), some (.int x4), some (.int v)]) (by decide +kernel) (by decide) rfl (fun _ => rfl) (by omega) (by omega) ?_
      intro ib39 hib39
      refine he_goto (t := 6) (by decide +kernel) ?_
      exact ih M x4 ib39 (i + 1) (by omega) (by omega) (by rw [hRs]; exact e4) hm hg (by rw [hRs]; exact hL)
theorem xq_isl {d z u : Nat} {M : Nat → mq_C} {Q : (Option Value ⊕ Nat) → mq_S → Prop} {x1 : Int32} (hm : mz_sh mz_GG M) (K : ∀ r : Int32, (0 ≤ x1.toInt ∧ x1.toInt < hv M 8 4 → r.toInt = 1) → (¬ (0 ≤ x1.toInt ∧ x1.toInt < hv M 8 4) → r.toInt = 0) → Q (.inl (some (.int r))) (M, z, u)) : mq_R mq_PP d 19 0 [some (.ref 8), some (.int x1)] [] (M, z, u) Q := by
  refine he_iload (n := 1) (i := 1) (by decide +kernel) rfl ?_
  by_cases g1 : x1.toInt < 0
  · skip
    refine he_iflt_t (n := 4) (t := 16) (by decide +kernel) (by omega) ?_
    refine he_iconst (n := 17) (c := 0) (by decide +kernel) (by decide) ?_
    intro c16 hc16
    refine he_retz (by decide +kernel) (by omega) ?_
    exact K _ (fun h => by omega) (fun _ => by omega)
  refine he_iflt_f (n := 4) (t := 16) (by decide +kernel) (by omega) ?_
  refine he_iload (n := 5) (i := 1) (by decide +kernel) rfl ?_
  refine he_aload (n := 6) (i := 0) (by decide +kernel) rfl ?_
  refine hb_gfd (n := 9) (ci := 0) (j := 4) (ns := [2081, 35]) hm (by decide +kernel) rfl rfl (by decide) rfl ?_
  intro v6 hv6 lv6 uv6
  by_cases g2 : v6.toInt ≤ x1.toInt
  · skip
    refine he_cmpge_t (n := 12) (t := 16) (by decide +kernel) (by omega) ?_
    refine he_iconst (n := 17) (c := 0) (by decide +kernel) (by decide) ?_
    intro c16 hc16
    refine he_retz (by decide +kernel) (by omega) ?_
    exact K _ (fun h => by omega) (fun _ => by omega)
  refine he_cmpge_f (n := 12) (t := 16) (by decide +kernel) (by omega) ?_
  refine he_iconst (n := 13) (c := 1) (by decide +kernel) (by decide) ?_
  intro c12 hc12
  refine he_goto (t := 17) (by decide +kernel) ?_
  refine he_retz (by decide +kernel) (by omega) ?_
  exact K _ (fun _ => by omega) (fun h => absurd ⟨by omega, by omega⟩ h)
/-- what all answers -/
def xal (cnt : Int) (p : Nat → Int) (g : Nat → List Int) (nm l k : Int) : Int := if (0 ≤ l ∧ l < cnt) ∧ ¬ nm = 0 ∧ 0 ≤ k ∧ k < ((xfm g (xca p 4 l [])).length : Int) then (xfm g (xca p 4 l [])).getD k.toNat 0 else -1
theorem xal_n {cnt : Int} {p : Nat → Int} {g : Nat → List Int} {nm l k : Int} (h : ¬ ((0 ≤ l ∧ l < cnt) ∧ ¬ nm = 0 ∧ 0 ≤ k ∧ k < ((xfm g (xca p 4 l [])).length : Int))) : xal cnt p g nm l k = -1 := by
  unfold xal
  rw [if_neg h]
theorem xal_s {cnt : Int} {p : Nat → Int} {g : Nat → List Int} {nm l k : Int} (h : (0 ≤ l ∧ l < cnt) ∧ ¬ nm = 0 ∧ 0 ≤ k ∧ k < ((xfm g (xca p 4 l [])).length : Int)) : xal cnt p g nm l k = (xfm g (xca p 4 l [])).getD k.toNat 0 := by
  unfold xal
  rw [if_pos h]
theorem xq_all {d z u : Nat} {M : Nat → mq_C} {Q : (Option Value ⊕ Nat) → mq_S → Prop} {on : Int → List Int} {f : Int → Int} {p cl : Nat → Int} {la : Nat → List Int} {x1 x2 x3 : Int32} (hm : mz_sh mz_GG M) (hE : xEA M) (hf : xFf f x2 M) (ho : xon on) (hO : xOn on M) (hC : xCL p cl la 3 M) (hin : ∀ i, xin (la i)) (hb : ∀ i : Nat, i < 4 → -1 ≤ p i ∧ p i < (i : Int)) (K : ∀ (M' : Nat → mq_C) (r : Int32), r.toInt = xal (hv M 8 4) p (xgg f on cl la) (hb_nm x2.toInt) x1.toInt x3.toInt → Q (.inl (some (.int r))) (M', z, u)) : mq_R mq_PP (d + 13) 13 0 [some (.ref 8), some (.int x1), some (.int x2), some (.int x3)] [] (M, z, u) Q := by
  have hc4 := (xx_rng (c := _) hm (a := 8) (i := 4) (lo := 0) (hi := 4) rfl (by decide) rfl).2
  refine he_aload (n := 1) (i := 0) (by decide +kernel) rfl ?_
  refine he_iload (n := 2) (i := 1) (by decide +kernel) rfl ?_
  refine he_v1 (n := 5) (j := 19) (ci := 0) (mx := 2) (ns := [3084, 3086, 26, 140]) (by decide +kernel) ((hb_kd (a := 8) hm rfl).trans rfl) (by show 0 ≤ 8; omega) (by show 2 ≤ 2; omega) ?_
  rw [mq_e19]
  refine xq_isl hm ?_
  intro r1 a1 a0
  show mq_R mq_PP (d + 13) 13 5 _ [.int r1] (M, z, u) Q
  by_cases g1 : 0 ≤ x1.toInt ∧ x1.toInt < hv M 8 4
  rotate_left
  · have a0 := a0 g1
    rw [xal_n (fun h => g1 h.1)] at K
    refine he_ifeq_t (n := 8) (t := 19) (by decide +kernel) (by omega) ?_
    refine he_iconst (n := 20) (c := -1) (by decide +kernel) (by decide) ?_
    intro cb19 hcb19
    refine he_reti (by decide +kernel) ?_
    exact K M _ (by omega)
  have a1 := a1 g1
  refine he_ifeq_f (n := 8) (t := 19) (by decide +kernel) (by omega) ?_
  refine he_iload (n := 9) (i := 2) (by decide +kernel) rfl ?_
  refine he_s1 (n := 12) (j := 22) (mx := 4) (ns := [2135, 2136, 1001, 84]) (by decide +kernel) (by show 0 ≤ 8; omega) (by show 1 ≤ 4; omega) ?_
  rw [show mq_en mq_PP 22 [.int x2] = [some (.int x2), none, none, none] from rfl]
  refine lx_nl ?_
  intro r2 hr2
  show mq_R mq_PP (d + 13) 13 12 _ [.int r2] (M, z, u) Q
  by_cases g2 : hb_nm x2.toInt = 0
  · rw [xal_n (fun h => h.2.1 g2)] at K
    refine he_ifeq_t (n := 15) (t := 19) (by decide +kernel) (by omega) ?_
    refine he_iconst (n := 20) (c := -1) (by decide +kernel) (by decide) ?_
    intro ce19 hce19
    refine he_reti (by decide +kernel) ?_
    exact K M _ (by omega)
  by_cases g3 : x3.toInt < 0
  · rw [xal_n (fun h => by have := h.2.2.1; omega)] at K
    refine he_ifeq_f (n := 15) (t := 19) (by decide +kernel) (by omega) ?_
    refine he_iload (n := 16) (i := 3) (by decide +kernel) rfl ?_
    refine he_ifge_f (n := 19) (t := 21) (by decide +kernel) (by omega) ?_
    refine he_iconst (n := 20) (c := -1) (by decide +kernel) (by decide) ?_
    intro ce19 hce19
    refine he_reti (by decide +kernel) ?_
    exact K M _ (by omega)
  have h0 : 0 ≤ x2.toInt := xnm_p g2
  refine he_ifeq_f (n := 15) (t := 19) (by decide +kernel) (by omega) ?_
  refine he_iload (n := 16) (i := 3) (by decide +kernel) rfl ?_
  refine he_ifge_t (n := 19) (t := 21) (by decide +kernel) (by omega) ?_
  refine he_iload (n := 22) (i := 3) (by decide +kernel) rfl ?_
  refine he_aload (n := 23) (i := 0) (by decide +kernel) rfl ?_
  refine he_iload (n := 24) (i := 1) (by decide +kernel) rfl ?_
  refine he_iload (n := 25) (i := 2) (by decide +kernel) rfl ?_
  refine he_aload (n := 26) (i := 0) (by decide +kernel) rfl ?_
  refine he_getr (n := 29) (ci := 0) (j := 11) (ns := [2088, 61]) (b := 43) hm (by decide +kernel) rfl rfl (by decide +kernel) ?_
  refine he_v3 (n := 32) (j := 32) (ci := 0) (mx := 6) (ns := [3116, 3118, 27, 170]) (by decide +kernel) ((hb_kd (a := 8) hm rfl).trans rfl) (by show 1 ≤ 8; omega) (by show 4 ≤ 6; omega) ?_
  rw [mq_e32]
  refine he_iconst (n := 1) (c := 0) (by decide +kernel) (by decide) ?_
  intro cg0 hcg0
  refine he_istore (n := 3) (i := 4) (by decide +kernel) rfl ?_
  refine he_iconst (n := 4) (c := 0) (by decide +kernel) (by decide) ?_
  intro cg3 hcg3
  refine he_istore (n := 6) (i := 5) (by decide +kernel) rfl ?_
  have hl : x1.toInt.toNat < 4 := by omega
  have hle : ((x1.toInt.toNat : Nat) : Int) = x1.toInt := by omega
  have hCl : xCL p cl la x1.toInt.toNat M := fun i hi => ⟨(hC i hi).1, (hC i hi).2.1, fun _ => (hC i hi).2.2 (by omega)⟩
  refine xq_fp (d := d) (M0 := M) (l := x1.toInt.toNat) h0 hE hf ho hO hCl hin hb hl (by omega) ?_ (x1.toInt.toNat + 1) M cg0 cg3 0 (by omega) (by omega) (by show _ = (0 : Int); omega) hm xGF_r (fun j hj => absurd hj (Nat.not_lt_zero j))
  intro M' r3 hm' hg' hL' hr3
  show mq_R mq_PP (d + 13) 13 32 _ [.int r3, .int x3] (M', z, u) Q
  rw [xR_ca hl hb, hle] at hL' hr3
  have hlen := xR_len (p := p) (g := xgg f on cl la) (l := x1.toInt.toNat) (i := x1.toInt.toNat + 1) (fun j => xgg_len ho (hin j))
  rw [xR_ca hl hb, hle] at hlen
  by_cases g4 : x3.toInt < r3.toInt
  rotate_left
  · rw [xal_n (fun h => by have := h.2.2.2; omega)] at K
    refine he_cmpge_t (n := 35) (t := 44) (by decide +kernel) (by omega) ?_
    refine he_iconst (n := 45) (c := -1) (by decide +kernel) (by decide) ?_
    intro ck44 hck44
    refine he_reti (by decide +kernel) ?_
    exact K M' _ (by omega)
  · rw [xal_s ⟨g1, g2, by omega, by omega⟩] at K
    refine he_cmpge_f (n := 35) (t := 44) (by decide +kernel) (by omega) ?_
    refine he_aload (n := 36) (i := 0) (by decide +kernel) rfl ?_
    refine he_getr (n := 39) (ci := 0) (j := 11) (ns := [2088, 61]) (b := 43) hm' (by decide +kernel) rfl rfl (by decide +kernel) ?_
    refine he_iload (n := 40) (i := 3) (by decide +kernel) rfl ?_
    refine hb_ld (n := 41) (kind := 64) hm' (by decide +kernel) rfl rfl (.inl rfl) (by omega) (show _ < (16 : Int) by omega) hb_at1 ?_
    intro vk40 hvk40 lvk40 uvk40
    refine he_goto (t := 45) (by decide +kernel) ?_
    refine he_reti (by decide +kernel) ?_
    exact K M' _ (by rw [← hL' x3.toInt.toNat (by omega)]; omega)
