/-! The bytes of class and model: the relation, and what each call does to it. -/
def l6a (N M : Nat → mq_C) : Prop := ∀ t : Nat, (t : Int) < hv N 33 1 → hv N 34 t = hv M 249 t
def l6b (N M : Nat → mq_C) : Prop := ∀ t : Nat, (t : Int) < hv N 33 3 → hv N 35 t = hv M 250 t
def l6r (N M : Nat → mq_C) : Prop := ∀ t : Nat, (t : Int) < hv N 33 5 → hv N 36 t = (yrecs M (hv M 234 19).toNat).getD t 0
def l6s (N M : Nat → mq_C) : Prop := ∀ s : Nat, s < 4 → ∀ t : Nat, (t : Int) < hv M 236 s → hv N (48 + 11 * s) t = hv M 235 (240 * s + t)
def l6t (N : Nat → mq_C) : Prop := xT N 24 288 xfL ∧ xT N 28 32 xfD ∧ N 1 = (60, mq_MO)
def l6 (N M : Nat → mq_C) : Prop := l6a N M ∧ l6b N M ∧ l6r N M ∧ l6s N M ∧ l6t N
def l6tb (M M' : Nat → mq_C) : Prop := ∀ a, 24 ≤ a → a ≤ 31 → M' a = M a
def c6_ent (M M' : Nat → mq_C) (x1 x2 r : Int) : Prop := (r = 0 ∧ M' 34 = M 34 ∧ M' 35 = M 35 ∧ M' 36 = M 36) ∨ (r = 1 ∧ ∃ su le : Int, (∀ t : Nat, hv M' 35 t = if hv M 33 3 ≤ (t : Int) ∧ (t : Int) < hv M 33 3 + 2 + hv M 33 1 then (75 :: x2 :: xrow M 34 (hv M 33 1).toNat).getD (t - (hv M 33 3).toNat) 0 else hv M 35 t) ∧ (∀ t : Nat, hv M' 36 t = if hv M 33 5 ≤ (t : Int) ∧ (t : Int) < hv M 33 5 + 12 + hb_nm x1 then (xrec x1 x2 su le (hv M 33 1) (hv M 33 3)).getD (t - (hv M 33 5).toNat) 0 else hv M 36 t) ∧ (∀ o', xop x2 (8 * (hv M 33 1).toNat) (xB M 34) = some o' → su = (xsum o').toInt ∧ le = (o'.length : Int)) ∧ (xop x2 (8 * (hv M 33 1).toNat) (xB M 34) = none → su = 0 ∧ le = 0))
theorem xn_enterx {d z u : Nat} {M : Nat → mq_C} {Q : (Option Value ⊕ Nat) → mq_S → Prop} {x1 x2 : Int32} (hm : mz_sh mz_GG M) (r0 : 0 ≤ hv M 33 5) (b0 : 0 ≤ hv M 33 3) (d0 : 0 ≤ hv M 33 1) (d1 : hv M 33 1 ≤ 120) (e0 : 0 ≤ hv M 33 6) (hT : l6t M) (K : ∀ (M' : Nat → mq_C) (r : Int32), c6_ent M M' x1.toInt x2.toInt r.toInt → Q (.inl (some (.int r))) (M', z, u)) : mq_R mq_PP (d + 5) 2 0 [some (.ref 8), some (.int x1), some (.int x2), none, none] [] (M, z, u) Q :=
  xn_enter hm r0 b0 d0 d1 e0 hT.2.2 hT.1 hT.2.1 (fun r hr => K M r (.inl ⟨hr, rfl, rfl, rfl⟩)) (fun M' r su le _ hr _ _ _ _ _ _ t35 t36 k1 k0 => K M' r (.inr ⟨hr, su, le, t35, t36, k1, k0⟩))
theorem l6t_k {N N' : Nat → mq_C} (h : l6tb N N') (h1 : N' 1 = N 1) (g : l6t N) : l6t N' := by
  obtain ⟨⟨g1, g2⟩, ⟨g3, g4⟩, g5⟩ := g
  refine ⟨⟨fun b p q => ?_, fun i p q => ?_⟩, ⟨fun b p q => ?_, fun i p q => ?_⟩, h1.trans g5⟩
  · rw [hb_vc (h (24 + 1) (by decide) (by decide))]
    exact g1 b p q
  · rw [hb_vc (h (24 + 3) (by decide) (by decide))]
    exact g2 i p q
  · rw [hb_vc (h (28 + 1) (by decide) (by decide))]
    exact g3 b p q
  · rw [hb_vc (h (28 + 3) (by decide) (by decide))]
    exact g4 i p q
theorem l6a_k {N N' M M' : Nat → mq_C} (h1 : hv N' 33 1 = hv N 33 1) (h2 : N' 34 = N 34) (h3 : M' 249 = M 249) (g : l6a N M) : l6a N' M' := fun t ht => by
  rw [hb_vc h2, hb_vc h3]
  exact g t (by omega)
theorem l6b_k {N N' M M' : Nat → mq_C} (h1 : hv N' 33 3 = hv N 33 3) (h2 : N' 35 = N 35) (h3 : M' 250 = M 250) (g : l6b N M) : l6b N' M' := fun t ht => by
  rw [hb_vc h2, hb_vc h3]
  exact g t (by omega)
theorem l6r_k {N N' M M' : Nat → mq_C} (h1 : hv N' 33 5 = hv N 33 5) (h2 : N' 36 = N 36) (h3 : M' 251 = M 251) (h4 : hv M' 234 19 = hv M 234 19) (g : l6r N M) : l6r N' M' := fun t ht => by
  rw [hb_vc h2, h4, yrecs_c (M := M) (M' := M') _ (fun j _ => hb_vc h3 j)]
  exact g t (by omega)
theorem l6s_k {N N' M M' : Nat → mq_C} (h1 : c6_al N N') (h2 : M' 235 = M 235) (h3 : M' 236 = M 236) (g : l6s N M) : l6s N' M' := fun s hs t ht => by
  rw [hb_vc h3] at ht
  rw [hb_vc (h1 s hs), hb_vc h2]
  exact g s hs t ht
/-- a call that leaves all of it alone -/
theorem l6_keep {M M1 M2 : Nat → mq_C} (h : l6 M M) (a1 : hv M1 33 1 = hv M 33 1) (a3 : hv M1 33 3 = hv M 33 3) (a5 : hv M1 33 5 = hv M 33 5) (kp : c6_kp M M1) (al : c6_al M M1) (tb : l6tb M M1) (g8 : M1 1 = M 1) (hi : ∀ a, 234 ≤ a → a < 271 → M1 a = M a) (m19 : hv M2 234 19 = hv M1 234 19) (m249 : M2 249 = M1 249) (m250 : M2 250 = M1 250) (m251 : M2 251 = M1 251) (m235 : M2 235 = M1 235) (m236 : M2 236 = M1 236) (lo : ∀ a, a < 234 → M2 a = M1 a) : l6 M2 M2 := by
  obtain ⟨h1, h2, h3, h4, h5⟩ := h
  have H := fun (a : Nat) (p : 234 ≤ a) (q : a < 271) => hi a p q
  refine ⟨l6a_k ((hb_vc (lo 33 (by decide)) 1).trans a1) ((lo 34 (by decide)).trans kp.1) (m249.trans (hi 249 (by decide) (by decide))) h1, l6b_k ((hb_vc (lo 33 (by decide)) 3).trans a3) ((lo 35 (by decide)).trans kp.2.1) (m250.trans (hi 250 (by decide) (by decide))) h2, l6r_k ((hb_vc (lo 33 (by decide)) 5).trans a5) ((lo 36 (by decide)).trans kp.2.2) (m251.trans (hi 251 (by decide) (by decide))) (m19.trans (hb_vc (hi 234 (by decide) (by decide)) 19)) h3, l6s_k (fun s hs => (lo _ (by omega)).trans (al s hs)) (m235.trans (hi 235 (by decide) (by decide))) (m236.trans (hi 236 (by decide) (by decide))) h4, l6t_k (fun a p q => (lo a (by omega)).trans (tb a p q)) ((lo 1 (by decide)).trans g8) h5⟩
/-- the class's side as it was, seen from behind the model's call -/
theorem l6_lo {N N' M : Nat → mq_C} (lo : ∀ a, a < 234 → N' a = N a) (h : l6 N M) : l6 N' M := by
  obtain ⟨h1, h2, h3, h4, h5⟩ := h
  exact ⟨l6a_k (hb_vc (lo 33 (by decide)) 1) (lo 34 (by decide)) rfl h1, l6b_k (hb_vc (lo 33 (by decide)) 3) (lo 35 (by decide)) rfl h2, l6r_k (hb_vc (lo 33 (by decide)) 5) (lo 36 (by decide)) rfl rfl h3, l6s_k (fun s hs => lo _ (by omega)) rfl rfl h4, l6t_k (fun a p q => lo a (by omega)) (lo 1 (by decide)) h5⟩
theorem l6_hi {N M M' : Nat → mq_C} (hi : ∀ a, 234 ≤ a → a < 271 → M' a = M a) (h : l6 N M) : l6 N M' := by
  obtain ⟨h1, h2, h3, h4, h5⟩ := h
  exact ⟨l6a_k rfl rfl (hi 249 (by decide) (by decide)) h1, l6b_k rfl rfl (hi 250 (by decide) (by decide)) h2, l6r_k rfl rfl (hi 251 (by decide) (by decide)) (hb_vc (hi 234 (by decide) (by decide)) 19) h3, l6s_k c6_ar (hi 235 (by decide) (by decide)) (hi 236 (by decide) (by decide)) h4, h5⟩
theorem l6_put {N N' M M' : Nat → mq_C} {v : Int64} {n r r' : Int} (h : l6a N M) (hD : hv N 33 1 = hv M 234 15) (q : (r = 1 → True) ∧ (r = 0 → hv N' 33 1 = hv N 33 1)) (c : c6_put N N' v n r) (m : m6_put M M' v n r') (hr : r = r') : l6a N' M' := by
  intro t ht
  rcases c with ⟨c1, c2⟩ | ⟨c1, c2⟩
  · rcases m with ⟨m1, m2⟩ | ⟨m1, m2⟩
    · obtain ⟨_, _, _, c3, c4⟩ := c2
      rw [c3] at ht
      rw [c4 t, m2 t, ← hD]
      by_cases e : hv N 33 1 ≤ (t : Int) ∧ (t : Int) < hv N 33 1 + ((xll v n.toNat).length : Int)
      · rw [if_pos e, if_pos e]
      · rw [if_neg e, if_neg e]
        exact h t (by omega)
    · omega
  · rcases m with ⟨m1, m2⟩ | ⟨m1, m2⟩
    · omega
    · rw [hb_vc c2, hb_vc m2]
      exact h t (by rw [← q.2 c1]; exact ht)
theorem yrecs_len {M : Nat → mq_C} (n0 : 0 ≤ hv M 234 19) (n6 : hv M 234 19 ≤ 6) : ((yrecs M (hv M 234 19).toNat).length : Int) = hb_sum (hn_g M) 6 := by
  have key : ∀ k : Nat, (k : Int) ≤ hv M 234 19 → ((yrecs M k).length : Int) = hb_sum (hn_g M) k := by
    intro k
    induction k with
    | zero => intro _; rfl
    | succ k ih =>
      intro hk
      have h1 := ih (by omega)
      show ((yrecs M k ++ yrec M k).length : Int) = hb_sum (hn_g M) k + hn_g M k
      have h2 : hn_g M k = 12 + hb_nm (hv M 251 (6 * k)) := by
        unfold hn_g
        rw [if_pos (by omega)]
      have h3 : ((yrec M k).length : Int) = 12 + hb_nm (hv M 251 (6 * k)) := xrec_l
      rw [List.length_append, h2, ← h3, ← h1]
      omega
  rw [key _ (by omega)]
  have t2 := hn_tail (f := hn_g M) (c := (hv M 234 19).toNat) (fun e he => by unfold hn_g; rw [if_neg (by omega)]) (6 - (hv M 234 19).toNat)
  rw [show (hv M 234 19).toNat + (6 - (hv M 234 19).toNat) = 6 by omega] at t2
  exact t2.symm
theorem xx_gl {l l' : List Int} {t : Nat} (h : t < l.length) : (l ++ l').getD t 0 = l.getD t 0 := by
  rw [List.getD_eq_getElem?_getD, List.getD_eq_getElem?_getD, List.getElem?_append_left h]
theorem xx_gr {l l' : List Int} {t : Nat} (h : l.length ≤ t) : (l ++ l').getD t 0 = l'.getD (t - l.length) 0 := by
  rw [List.getD_eq_getElem?_getD, List.getD_eq_getElem?_getD, List.getElem?_append_right h]
theorem l6_enter {N N' M M' : Nat → mq_C} {x1 x2 r r' : Int} (ha : l6a N M) (hb : l6b N M) (hre : l6r N M) (e1 : hv N 33 1 = hv M 234 15) (e3 : hv N 33 3 = hv M 234 17) (e5 : hv N 33 5 = hb_sum (hn_g M) 6) (n0 : 0 ≤ hv M 234 19) (n6 : hv M 234 19 ≤ 6) (b0 : 0 ≤ hv N 33 3) (q : lr_enter (hv N 33 1) (hv N 33 3) (hv N 33 5) (hv N 33 6) (hb_nm x1) x2 (hv N' 33 1) (hv N' 33 3) (hv N' 33 5) (hv N' 33 6) r) (c : c6_ent N N' x1 x2 r) (m : m6_ent M M' x1 x2 r') (hr : r = r') (m249 : M' 249 = M 249) : l6a N' M' ∧ l6b N' M' ∧ l6r N' M' := by
  have hlen := yrecs_len n0 n6
  rcases c with ⟨c0, c1, c2, c3⟩ | ⟨c0, su, le, c1, c2, c3, c4⟩
  · rcases m with ⟨m0, m1, m2, m3, m4, m5⟩ | ⟨m0, _⟩
    · have q' : hv N' 33 1 = hv N 33 1 ∧ hv N' 33 3 = hv N 33 3 ∧ hv N' 33 5 = hv N 33 5 := by
        unfold lr_enter at q
        omega
      exact ⟨l6a_k q'.1 c1 m249 ha, l6b_k q'.2.1 c2 m1 hb, l6r_k q'.2.2 c3 m2 m5 hre⟩
    · omega
  · rcases m with ⟨m0, _⟩ | ⟨m0, su', le', D, B, n, d1, d2, d3, d4, d5, d6, m1, m2, m3, m4, m5⟩
    · omega
    · have q' : hv N' 33 1 = 0 ∧ hv N' 33 3 = hv N 33 3 + 2 + hv N 33 1 ∧ hv N' 33 5 = hv N 33 5 + 12 + hb_nm x1 := by
        unfold lr_enter at q
        omega
      have hDN : (hv N 33 1).toNat = D := by omega
      have hBN : (hv N 33 3).toNat = B := by omega
      rw [hDN] at c1 c3 c4
      rw [hBN] at c1
      have hxo : xop x2 (8 * D) (xB N 34) = xop x2 (8 * D) (xB M 249) := xop_e (fun i hi => by
        unfold xB
        rw [ha (i / 8) (by omega)]) (by omega)
      have hsl : su = su' ∧ le = le' := by
        cases hx : xop x2 (8 * D) (xB M 249) with
        | none =>
          rw [hx] at hxo
          have g1 := c4 hxo
          have g2 := m5 hx
          omega
        | some o' =>
          rw [hx] at hxo
          have g1 := c3 o' hxo
          have g2 := m4 o' hx
          omega
      refine ⟨fun t ht => by omega, fun t ht => ?_, fun t ht => ?_⟩
      · rw [c1 t, m1 t]
        by_cases k1 : t < B
        · rw [if_neg (by omega), if_neg (by omega), if_neg (by omega), if_neg (by omega)]
          exact hb t (by omega)
        · rw [if_pos (by omega)]
          by_cases k2 : t = B
          · rw [if_pos k2, k2, Nat.sub_self]
            rfl
          · rw [if_neg k2]
            by_cases k3 : t = B + 1
            · rw [if_pos k3, k3, show B + 1 - B = 1 by omega]
              rfl
            · rw [if_neg k3, if_pos (by omega), show t - B = (t - (B + 2)) + 1 + 1 by omega]
              show (xrow N 34 D).getD (t - (B + 2)) 0 = _
              rw [xrow_g (by omega)]
              exact ha _ (by omega)
      · have hn1 : (hv M' 234 19).toNat = n + 1 := by omega
        have hn2 : (hv M 234 19).toNat = n := by omega
        rw [hn2] at hlen
        have hre' := hre
        unfold l6r at hre'
        rw [hn2] at hre'
        rw [hn1]
        show _ = (yrecs M' n ++ yrec M' n).getD t 0
        rw [m3, yrecs_c (M := M) n m2, c2 t, hsl.1, hsl.2, ← d1, ← d2, e1, e3]
        by_cases k1 : t < (yrecs M n).length
        · rw [xx_gl k1, if_neg (by omega)]
          exact hre' t (by omega)
        · rw [xx_gr (by omega), if_pos (by omega), show t - (hv N 33 5).toNat = t - (yrecs M n).length by omega]
theorem xbz_2 {B : Int} (h0 : 0 ≤ B) (h1 : B ≤ 255) : xnz B 2 = [B, 0] := by
  show [xbz B 0, xbz B 1] = _
  unfold xbz
  have e0 : ((2 ^ (8 * 0) : Nat) : Int) = 1 := by decide
  have e1 : ((2 ^ (8 * 1) : Nat) : Int) = 256 := by decide
  rw [e0, e1, show B / 1 % 256 = B by omega, show B / 256 % 256 = 0 by omega]
theorem l6_fin {N N' M M' : Nat → mq_C} {p r r' : Int} (hm : mz_sh mz_GG M) (ha : l6a N M) (hb : l6b N M) (hre : l6r N M) (hs : l6s N M) (e3 : hv N 33 3 = hv M 234 17) (e5 : hv N 33 5 = hb_sum (hn_g M) 6) (e6 : hv N 33 6 = hv M 234 19) (n0 : 0 ≤ hv M 234 19) (n6 : hv M 234 19 ≤ 6) (b0 : 0 ≤ hv N 33 3) (r0 : 0 ≤ hv N 33 5) (hT : hv N 33 3 + hv N 33 5 + 4 ≤ 240) (d1 : hv N' 33 1 = hv N 33 1) (z3 : r = 1 → hv N' 33 3 = 0 ∧ hv N' 33 5 = 0) (k3 : r = 0 → hv N' 33 3 = hv N 33 3 ∧ hv N' 33 5 = hv N 33 5) (c : c6_fin N N' p r) (m : m6_fin M M' p r') (hr : r = r') (m249 : M' 249 = M 249) (m250 : M' 250 = M 250) (m251 : M' 251 = M 251) (m19 : r = 0 → hv M' 234 19 = hv M 234 19) : l6a N' M' ∧ l6b N' M' ∧ l6r N' M' ∧ l6s N' M' := by
  have hlen := yrecs_len n0 n6
  obtain ⟨⟨p1, p2, p3⟩, c⟩ := c
  rcases c with ⟨c0, c1⟩ | ⟨c0, s, h4, hp, ot, by0, by1, by2, by3, by4, by5⟩
  · rcases m with ⟨m0, m1, m2⟩ | ⟨m0, _⟩
    · exact ⟨l6a_k d1 p1 m249 ha, l6b_k (k3 c0).1 p2 m250 hb, l6r_k (k3 c0).2 p3 m251 (m19 c0) hre, l6s_k c1 m1 m2 hs⟩
    · omega
  · rcases m with ⟨m0, _⟩ | ⟨m0, s', h4', hp', mj, ml, mb⟩
    · omega
    · obtain rfl : s' = s := by omega
      obtain ⟨z3, z5⟩ := z3 c0
      have hL : (m6_l M).length = (hv M 234 17).toNat + (yrecs M (hv M 234 19).toNat).length + 2 + 2 := by
        unfold m6_l
        rw [List.length_append, List.length_append, List.length_append, xrow_l, xnz_l]
        rfl
      refine ⟨l6a_k d1 p1 m249 ha, fun t ht => by omega, fun t ht => by omega, fun j hj t ht => ?_⟩
      by_cases e : j = s'
      · subst e
        rw [ml] at ht
        rw [mb, if_pos (by omega), show 240 * j + t - 240 * j = t by omega]
        have x2 := xbz_2 (B := hv M 234 17) (by omega) (by omega)
        unfold m6_l
        rw [x2]
        have l1 : (xrow M 250 (hv M 234 17).toNat).length = (hv M 234 17).toNat := xrow_l
        have l2 : (xrow M 250 (hv M 234 17).toNat ++ yrecs M (hv M 234 19).toNat).length = (hv M 234 17).toNat + (yrecs M (hv M 234 19).toNat).length := by rw [List.length_append, l1]
        have l3 : (xrow M 250 (hv M 234 17).toNat ++ yrecs M (hv M 234 19).toNat ++ [80, hv M 234 19]).length = (hv M 234 17).toNat + (yrecs M (hv M 234 19).toNat).length + 2 := by rw [List.length_append, l2]; rfl
        by_cases k1 : t < (hv M 234 17).toNat
        · rw [xx_gl (by omega), xx_gl (by omega), xx_gl (by omega), xrow_g k1, by0 t (by omega)]
          exact hb t (by omega)
        · by_cases k2 : t < (hv M 234 17).toNat + (yrecs M (hv M 234 19).toNat).length
          · rw [xx_gl (by omega), xx_gl (by omega), xx_gr (by omega), l1]
            have h9 := by1 (t - (hv M 234 17).toNat) (by omega)
            rw [show (hv N 33 3).toNat + (t - (hv M 234 17).toNat) = t by omega] at h9
            rw [h9]
            exact hre _ (by omega)
          · have hk : t = (hv N 33 3 + hv N 33 5).toNat ∨ t = (hv N 33 3 + hv N 33 5).toNat + 1 ∨ t = (hv N 33 3 + hv N 33 5).toNat + 2 ∨ t = (hv N 33 3 + hv N 33 5).toNat + 3 := by omega
            have hq : (hv N 33 3 + hv N 33 5).toNat = (hv M 234 17).toNat + (yrecs M (hv M 234 19).toNat).length := by omega
            rcases hk with hk | hk | hk | hk
            · rw [xx_gl (by omega), xx_gr (by omega), l2, show t - ((hv M 234 17).toNat + (yrecs M (hv M 234 19).toNat).length) = 0 by omega, hk, by2]
              rfl
            · rw [xx_gl (by omega), xx_gr (by omega), l2, show t - ((hv M 234 17).toNat + (yrecs M (hv M 234 19).toNat).length) = 1 by omega, hk, by3, e6]
              rfl
            · rw [xx_gr (by omega), l3, show t - ((hv M 234 17).toNat + (yrecs M (hv M 234 19).toNat).length + 2) = 0 by omega, hk, by4, e3]
              rfl
            · rw [xx_gr (by omega), l3, show t - ((hv M 234 17).toNat + (yrecs M (hv M 234 19).toNat).length + 2) = 1 by omega, hk, by5]
              rfl
      · rw [mj j e] at ht
        have hj4 : hv M 236 j ≤ 240 := by
          have hj' : j = 0 ∨ j = 1 ∨ j = 2 ∨ j = 3 := by omega
          rcases hj' with rfl | rfl | rfl | rfl <;> exact (xx_rng (c := _) hm (a := 236) (lo := 0) (hi := 240) rfl (by decide) rfl).2
        rw [hb_vc (ot j hj e), mb, if_neg (by omega)]
        exact hs j hj t ht
theorem l6_spoil {N N' M M' : Nat → mq_C} {p q : Int} {x : Int32} {r r' : Int} (hs : l6s N M) (hl : ∀ s : Nat, s < 4 → hv N (47 + 11 * s) 1 = hv M 236 s) (hm : mz_sh mz_GG M) (c : c6_spoil N N' p q x r) (m : m6_spoil M M' p q x r') (m236 : M' 236 = M 236) : r = r' ∧ l6s N' M' := by
  have hj4 : ∀ j : Nat, j < 4 → hv M 236 j ≤ 240 := by
    intro j hj
    have hj' : j = 0 ∨ j = 1 ∨ j = 2 ∨ j = 3 := by omega
    rcases hj' with rfl | rfl | rfl | rfl <;> exact (xx_rng (c := _) hm (a := 236) (lo := 0) (hi := 240) rfl (by decide) rfl).2
  obtain ⟨kp, c⟩ := c
  rcases c with ⟨c0, c1, c2⟩ | ⟨c0, cb, cb', s, h4, hp, q0, q1, ot, cx, cy⟩
  · rcases m with ⟨m0, m1, m2⟩ | ⟨m0, mb, mb', s, h4, hp, q0, q1, _⟩
    · exact ⟨by omega, l6s_k c1 m1 m236 hs⟩
    · exact absurd ⟨q0, by rw [hl s h4]; exact q1, mb, mb'⟩ (c2 s h4 hp)
  · rcases m with ⟨m0, m1, m2⟩ | ⟨m0, mb, mb', s', h4', hp', q0', q1', mx, my⟩
    · exact absurd ⟨q0, by rw [← hl s h4]; exact q1, cb, cb'⟩ (m2 s h4 hp)
    · obtain rfl : s' = s := by omega
      refine ⟨by omega, fun j hj t ht => ?_⟩
      rw [hb_vc m236] at ht
      have hj4' := hj4 j hj
      by_cases e : j = s'
      · subst e
        by_cases e2 : t = q.toNat
        · subst e2
          rw [cx, mx, hs j hj q.toNat ht]
        · rw [cy t e2, my _ (by omega)]
          exact hs j hj t ht
      · have hq4 := hj4 s' h4
        rw [hb_vc (ot j hj e), my _ (by omega)]
        exact hs j hj t ht
theorem l6_peek {N M : Nat → mq_C} {p q r r' : Int} (hs : l6s N M) (hl : ∀ s : Nat, s < 4 → hv N (47 + 11 * s) 1 = hv M 236 s) (c : c6_peek N p q r) (m : m6_peek M p q r') : r = r' := by
  rcases c with ⟨s, h4, hp, q0, q1, c1⟩ | ⟨c0, c1⟩
  · rcases m with ⟨s', h4', hp', q0', q1', m1⟩ | ⟨m0, m1⟩
    · obtain rfl : s' = s := by omega
      rw [c1, m1]
      exact hs s' h4 q.toNat (by omega)
    · exact absurd ⟨q0, by rw [← hl s h4]; exact q1⟩ (m1 s h4 hp)
  · rcases m with ⟨s', h4', hp', q0', q1', m1⟩ | ⟨m0, m1⟩
    · exact absurd ⟨q0', by rw [hl s' h4']; exact q1'⟩ (c1 s' h4' hp')
    · omega
