/-! The model's dynamic, exactly: the lengths, the two codes. -/
theorem xrb_done {fM : Nat → Int} {E N m a : Nat} {B : Nat → Int} {l : List Int} (h : ¬ l.length < N) : xrb fM E N B m a l = some (a, l) := by
  cases m with
  | zero => rfl
  | succ m => rw [xrb, if_neg h]
theorem yq_16 {f : Nat → Int} {n : Nat} : (xq f n 16 = 0 ∨ xq f n 16 = 1 ∧ xc f n 1 = 1) ↔ (xf f n = 0 ∨ xf f n = 16384 ∧ xc f n 1 = 1) := by
  have e1 : xq f n 16 = 0 + xc f n 1 + xc f n 2 + xc f n 3 + xc f n 4 + xc f n 5 + xc f n 6 + xc f n 7 + xc f n 8 + xc f n 9 + xc f n 10 + xc f n 11 + xc f n 12 + xc f n 13 + xc f n 14 + xc f n 15 := rfl
  have e2 : xf f n = 0 + xc f n 1 * 2 ^ 14 + xc f n 2 * 2 ^ 13 + xc f n 3 * 2 ^ 12 + xc f n 4 * 2 ^ 11 + xc f n 5 * 2 ^ 10 + xc f n 6 * 2 ^ 9 + xc f n 7 * 2 ^ 8 + xc f n 8 * 2 ^ 7 + xc f n 9 * 2 ^ 6 + xc f n 10 * 2 ^ 5 + xc f n 11 * 2 ^ 4 + xc f n 12 * 2 ^ 3 + xc f n 13 * 2 ^ 2 + xc f n 14 * 2 ^ 1 + xc f n 15 * 2 ^ 0 := rfl
  have p : (2 : Int) ^ 14 = 16384 ∧ (2 : Int) ^ 13 = 8192 ∧ (2 : Int) ^ 12 = 4096 ∧ (2 : Int) ^ 11 = 2048 ∧ (2 : Int) ^ 10 = 1024 ∧ (2 : Int) ^ 9 = 512 ∧ (2 : Int) ^ 8 = 256 ∧ (2 : Int) ^ 7 = 128 ∧ (2 : Int) ^ 6 = 64 ∧ (2 : Int) ^ 5 = 32 ∧ (2 : Int) ^ 4 = 16 ∧ (2 : Int) ^ 3 = 8 ∧ (2 : Int) ^ 2 = 4 ∧ (2 : Int) ^ 1 = 2 ∧ (2 : Int) ^ 0 = 1 := by decide
  obtain ⟨p14, p13, p12, p11, p10, p9, p8, p7, p6, p5, p4, p3, p2, p1, p0⟩ := p
  rw [p14, p13, p12, p11, p10, p9, p8, p7, p6, p5, p4, p3, p2, p1, p0] at e2
  have c1 := xc_0 f n 1
  have c2 := xc_0 f n 2
  have c3 := xc_0 f n 3
  have c4 := xc_0 f n 4
  have c5 := xc_0 f n 5
  have c6 := xc_0 f n 6
  have c7 := xc_0 f n 7
  have c8 := xc_0 f n 8
  have c9 := xc_0 f n 9
  have c10 := xc_0 f n 10
  have c11 := xc_0 f n 11
  have c12 := xc_0 f n 12
  have c13 := xc_0 f n 13
  have c14 := xc_0 f n 14
  have c15 := xc_0 f n 15
  constructor
  · rintro (h | ⟨h1, h2⟩)
    · exact .inl (by omega)
    · exact .inr ⟨by omega, h2⟩
  · rintro (h | ⟨h1, h2⟩)
    · exact .inl (by omega)
    · exact .inr ⟨by omega, h2⟩
theorem ygd_0 {n : Nat} {f : Nat → Int} : ygd 0 n f ↔ xf f n = 32768 := by
  unfold ygd
  constructor
  · rintro (h | h)
    · exact h
    · omega
  · exact fun h => .inl h
theorem ygd_1 {n : Nat} {f : Nat → Int} : ygd 1 n f ↔ (xf f n = 32768 ∨ xf f n = 0 ∨ xf f n = 16384 ∧ xc f n 1 = 1) := by
  unfold ygd
  constructor
  · rintro (h | ⟨-, h⟩)
    · exact .inl h
    · exact .inr (yq_16.mp h)
  · rintro (h | h)
    · exact .inl h
    · exact .inr ⟨rfl, yq_16.mpr h⟩
theorem ym_dl {d z u E N : Nat} {fM : Nat → Int} {M0 Mb : Nat → mq_C} {o : List Int} {Q : (Option Value ⊕ Nat) → mq_S → Prop} {nl nd nc : Int32} (hE : E ≤ 1920) (hN : N ≤ 316) (hnn : nl.toInt + nd.toInt = (N : Int)) (hnl : 0 ≤ nl.toInt ∧ nl.toInt ≤ 286) (hnd : 0 ≤ nd.toInt ∧ nd.toInt ≤ 30) {R : Option (Nat × List Int)}
    (G : ∀ (M' : Nat → mq_C) (a' : Nat) (l' : List Int) (k : Int32) (o5 o6 o7 o8 : Option Value), R = some (a', l') → l'.length = N → yV E 0 M0 M' a' o → (∀ t, t < N → hv M' 254 t = l'.getD t 0) → (∀ b, b ≠ 234 → b ≠ 254 → M' b = Mb b) → mq_R mq_PP (d + 2) 116 289 [some (.ref 234), some (.int nl), some (.int nd), some (.int nc), some (.int k), o5, o6, o7, o8] [] (M', z, u) Q)
    (K2 : ∀ (M' : Nat → mq_C) (r : Int32) (sh' : Int) (a' : Nat), R = none → (sh' = 0 ∨ sh' = 1) → yV E sh' M0 M' a' o → r.toInt = 0 → (∀ b, b ≠ 234 → b ≠ 254 → M' b = Mb b) → Q (.inl (some (.int r))) (M', z, u)) : ∀ (m : Nat) (M : Nat → mq_C) (a : Nat) (l : List Int) (k : Int32) (o5 o6 o7 o8 : Option Value), N ≤ l.length + m → l.length ≤ N → k.toInt = (l.length : Int) → yV E 0 M0 M a o → yT M 0 19 fM → (∀ t, t < l.length → hv M 254 t = l.getD t 0) → (∀ b, b ≠ 234 → b ≠ 254 → M b = Mb b) → xrb fM E N (xB M0 252) m a l = R → mq_R mq_PP (d + 2) 116 116 [some (.ref 234), some (.int nl), some (.int nd), some (.int nc), some (.int k), o5, o6, o7, o8] [] (M, z, u) Q := by
  intro m
  induction m with
  | zero =>
    intro M a l k o5 o6 o7 o8 e1 e2 e3 hV hT hx hF hR
    rw [xrb_done (by omega)] at hR
    refine he_iload (n := 118) (i := 4) (by decide +kernel) rfl ?_
    refine he_iload (n := 119) (i := 1) (by decide +kernel) rfl ?_
    refine he_iload (n := 120) (i := 2) (by decide +kernel) rfl ?_
    refine he_iadd (n := 121) (by decide +kernel) (by omega) (by omega) ?_
    intro v120 hv120
    refine he_cmpge_t (n := 124) (t := 289) (by decide +kernel) (by omega) ?_
    exact G M a l k _ _ _ _ hR.symm (by omega) hV (fun t ht => hx t (by omega)) hF
  | succ m ih =>
    intro M a l k o5 o6 o7 o8 e1 e2 e3 hV hT hx hF hR
    by_cases hdone : l.length < N
    rotate_left
    · rw [xrb_done hdone] at hR
      refine he_iload (n := 118) (i := 4) (by decide +kernel) rfl ?_
      refine he_iload (n := 119) (i := 1) (by decide +kernel) rfl ?_
      refine he_iload (n := 120) (i := 2) (by decide +kernel) rfl ?_
      refine he_iadd (n := 121) (by decide +kernel) (by omega) (by omega) ?_
      intro v120 hv120
      refine he_cmpge_t (n := 124) (t := 289) (by decide +kernel) (by omega) ?_
      exact G M a l k _ _ _ _ hR.symm (by omega) hV (fun t ht => hx t (by omega)) hF
    rw [xrb, if_pos hdone] at hR
    refine he_iload (n := 118) (i := 4) (by decide +kernel) rfl ?_
    refine he_iload (n := 119) (i := 1) (by decide +kernel) rfl ?_
    refine he_iload (n := 120) (i := 2) (by decide +kernel) rfl ?_
    refine he_iadd (n := 121) (by decide +kernel) (by omega) (by omega) ?_
    intro v120 hv120
    refine he_cmpge_f (n := 124) (t := 289) (by decide +kernel) (by omega) ?_
    refine he_aload (n := 125) (i := 0) (by decide +kernel) rfl ?_
    refine he_iconst (n := 126) (c := 0) (by decide +kernel) (by decide) ?_
    intro c125 hc125
    have r185 : ∀ (sh' : Int) (M2 : Nat → mq_C) (s ti : Int32) (a2 tn : Nat), (sh' = 0 ∨ sh' = 1) → s.toInt ≤ 319 → ti.toInt = (tn : Int) → 1 ≤ tn → tn ≤ 200 → yV E sh' M0 M2 a2 o → (∀ b, b ≠ 234 → M2 b = M b) → ((sh' = 1 ∨ s.toInt < 0) → R = none) → (sh' = 0 → 0 ≤ s.toInt → (s.toInt ≤ 18 ∧ (if ¬ (s.toInt = 16 ∧ l.length = 0) ∧ l.length + tn ≤ N then xrb fM E N (xB M0 252) m a2 (l ++ List.replicate tn (if s.toInt < 16 then s.toInt else if s.toInt = 16 then l.getD (l.length - 1) 0 else 0)) else none) = R)) → mq_R mq_PP (d + 2) 116 185 [some (.ref 234), some (.int nl), some (.int nd), some (.int nc), some (.int k), some (.int s), o6, o7, o8] [.int ti] (M2, z, u) Q := by
      intro sh' M2 s ti a2 tn hsh hs9 hti g1 g2 hV2 hF2 k1 k0
      have hFb : ∀ b, b ≠ 234 → b ≠ 254 → M2 b = Mb b := fun b n1 n2 => (hF2 b n1).trans (hF b n1 n2)
      refine he_istore (n := 187) (i := 6) (by decide +kernel) rfl ?_
      refine he_iload (n := 189) (i := 5) (by decide +kernel) rfl ?_
      by_cases h189 : s.toInt < 0
      · skip
        refine he_iflt_t (n := 192) (t := 222) (by decide +kernel) (by omega) ?_
        refine he_iconst (n := 223) (c := 0) (by decide +kernel) (by decide) ?_
        intro c222 hc222
        refine he_retz (by decide +kernel) (by omega) ?_
        exact K2 M2 _ sh' a2 (k1 (.inr h189)) hsh hV2 (by omega) hFb
      · skip
        refine he_iflt_f (n := 192) (t := 222) (by decide +kernel) (by omega) ?_
        refine he_aload (n := 193) (i := 0) (by decide +kernel) rfl ?_
        refine hb_gfd (n := 196) (ci := 9) (j := 24) (ns := [4201, 135]) hV2.1.1 (by decide +kernel) rfl rfl (by decide) rfl ?_
        intro v193 hv193 lv193 uv193
        have q193 : v193.toInt = sh' := by rw [← hv193]; exact hV2.2.2.2.1
        by_cases h196 : v193.toInt = 0
        rotate_left
        · skip
          refine he_ifne_t (n := 199) (t := 222) (by decide +kernel) (by omega) ?_
          refine he_iconst (n := 223) (c := 0) (by decide +kernel) (by decide) ?_
          intro c222 hc222
          refine he_retz (by decide +kernel) (by omega) ?_
          exact K2 M2 _ sh' a2 (k1 (.inl (by omega))) hsh hV2 (by omega) hFb
        obtain rfl : sh' = 0 := by omega
        obtain ⟨hs18, hR2⟩ := k0 rfl (by omega)
        refine he_ifne_f (n := 199) (t := 222) (by decide +kernel) (by omega) ?_
        refine he_iload (n := 201) (i := 5) (by decide +kernel) rfl ?_
        refine he_iconst (n := 203) (c := 16) (by decide +kernel) (by decide) ?_
        intro c201 hc201
        have r211 : ¬ (s.toInt = 16 ∧ l.length = 0) → mq_R mq_PP (d + 2) 116 211 [some (.ref 234), some (.int nl), some (.int nd), some (.int nc), some (.int k), some (.int s), some (.int ti), o7, o8] [] (M2, z, u) Q := by
          intro hne
          refine he_iload (n := 213) (i := 4) (by decide +kernel) rfl ?_
          refine he_iload (n := 215) (i := 6) (by decide +kernel) rfl ?_
          refine he_iadd (n := 216) (by decide +kernel) (by omega) (by omega) ?_
          intro v215 hv215
          refine he_iload (n := 217) (i := 1) (by decide +kernel) rfl ?_
          refine he_iload (n := 218) (i := 2) (by decide +kernel) rfl ?_
          refine he_iadd (n := 219) (by decide +kernel) (by omega) (by omega) ?_
          intro v218 hv218
          by_cases h219 : l.length + tn ≤ N
          rotate_left
          · rw [if_neg (fun h => h219 h.2)] at hR2
            refine he_cmple_f (n := 222) (t := 224) (by decide +kernel) (by omega) ?_
            refine he_iconst (n := 223) (c := 0) (by decide +kernel) (by decide) ?_
            intro c222 hc222
            refine he_retz (by decide +kernel) (by omega) ?_
            exact K2 M2 _ 0 a2 hR2.symm (.inl rfl) hV2 (by omega) hFb
          rw [if_pos ⟨hne, h219⟩] at hR2
          refine he_cmple_t (n := 222) (t := 224) (by decide +kernel) (by omega) ?_
          refine he_iload (n := 226) (i := 5) (by decide +kernel) rfl ?_
          refine he_iconst (n := 228) (c := 16) (by decide +kernel) (by decide) ?_
          intro c226 hc226
          have r256 : ∀ va : Int32, va.toInt = (if s.toInt < 16 then s.toInt else if s.toInt = 16 then l.getD (l.length - 1) 0 else 0) → 0 ≤ va.toInt → va.toInt ≤ 15 → mq_R mq_PP (d + 2) 116 256 [some (.ref 234), some (.int nl), some (.int nd), some (.int nc), some (.int k), some (.int s), some (.int ti), o7, o8] [.int va] (M2, z, u) Q := by
            intro va hva v0 v1
            refine he_istore (n := 258) (i := 7) (by decide +kernel) rfl ?_
            refine he_iconst (n := 259) (c := 0) (by decide +kernel) (by decide) ?_
            intro c258 hc258
            refine he_istore (n := 261) (i := 8) (by decide +kernel) rfl ?_
            refine ym_df (lo := l.length) (tn := tn) (Mb := M2) hti ⟨v0, v1⟩ (by omega) (fun M3 k3 i3 hm3 hF3 hx3 hk3 => ?_) tn 0 M2 k _ (by omega) (by omega) (by omega) hV2.1.1 (fun _ _ => rfl) (fun t => by rw [if_neg (by omega)])
            have hV3 : yV E 0 M0 M3 a2 o := yV_fr hV2 hm3 (hF3 234 (by decide)) (hF3 253 (by decide)) (fun b _ hb => hF3 b (by omega))
            refine ih M3 a2 _ k3 _ _ _ _ ?_ ?_ ?_ hV3 (yT_fr hT ((hF3 255 (by decide)).trans (hF2 255 (by decide))) ((hF3 256 (by decide)).trans (hF2 256 (by decide)))) (fun t ht => ?_) (fun b n1 n2 => (hF3 b n2).trans (hFb b n1 n2)) hR2
            · rw [List.length_append, List.length_replicate]; omega
            · rw [List.length_append, List.length_replicate]; omega
            · rw [List.length_append, List.length_replicate]; omega
            · rw [List.length_append, List.length_replicate] at ht
              rw [hx3 t, xL_rep, ← hva]
              by_cases c1 : t < l.length
              · rw [if_neg (by omega), if_pos c1, hb_vc (hF2 254 (by decide))]
                exact hx t c1
              · rw [if_pos ⟨by omega, by omega⟩, if_neg c1, if_pos (by omega)]
          by_cases h228 : s.toInt < 16
          · skip
            refine he_cmpge_f (n := 231) (t := 236) (by decide +kernel) (by omega) ?_
            refine he_iload (n := 233) (i := 5) (by decide +kernel) rfl ?_
            refine he_goto (t := 256) (by decide +kernel) ?_
            exact r256 s (by rw [if_pos h228]) (by omega) (by omega)
          · skip
            refine he_cmpge_t (n := 231) (t := 236) (by decide +kernel) (by omega) ?_
            refine he_iload (n := 238) (i := 5) (by decide +kernel) rfl ?_
            refine he_iconst (n := 240) (c := 16) (by decide +kernel) (by decide) ?_
            intro c238 hc238
            by_cases h240 : s.toInt = 16
            · skip
              refine he_cmpne_f (n := 243) (t := 255) (by decide +kernel) (by omega) ?_
              refine he_aload (n := 244) (i := 0) (by decide +kernel) rfl ?_
              refine he_getr (n := 247) (ci := 9) (j := 27) (ns := [4204, 68]) (b := 254) hV2.1.1 (by decide +kernel) rfl rfl (by decide +kernel) ?_
              refine he_iload (n := 249) (i := 4) (by decide +kernel) rfl ?_
              refine he_iconst (n := 250) (c := 1) (by decide +kernel) (by decide) ?_
              intro c249 hc249
              refine he_isub (n := 251) (by decide +kernel) (by omega) (by omega) ?_
              intro v250 hv250
              refine hb_ld (n := 252) (kind := 64) hV2.1.1 (by decide +kernel) rfl rfl (.inl rfl) (by omega) (show _ < (320 : Int) by omega) hb_at1 ?_
              intro v251 hv251 lv251 uv251
              refine he_goto (t := 256) (by decide +kernel) ?_
              refine r256 _ ?_ (by omega) (by omega)
              rw [if_neg h228, if_pos h240, ← hv251, hb_vc (hF2 254 (by decide)), show v250.toInt.toNat = l.length - 1 by omega]
              exact hx _ (by omega)
            · skip
              refine he_cmpne_t (n := 243) (t := 255) (by decide +kernel) (by omega) ?_
              refine he_iconst (n := 256) (c := 0) (by decide +kernel) (by decide) ?_
              intro c255 hc255
              exact r256 _ (by rw [if_neg h228, if_neg h240]; omega) (by omega) (by omega)
        by_cases h203 : s.toInt = 16
        · skip
          refine he_cmpne_f (n := 206) (t := 211) (by decide +kernel) (by omega) ?_
          refine he_iload (n := 208) (i := 4) (by decide +kernel) rfl ?_
          by_cases h208 : k.toInt = 0
          · rw [if_neg (fun h => h.1 ⟨h203, by omega⟩)] at hR2
            refine he_ifeq_t (n := 211) (t := 222) (by decide +kernel) (by omega) ?_
            refine he_iconst (n := 223) (c := 0) (by decide +kernel) (by decide) ?_
            intro c222 hc222
            refine he_retz (by decide +kernel) (by omega) ?_
            exact K2 M2 _ 0 a2 hR2.symm (.inl rfl) hV2 (by omega) hFb
          · skip
            refine he_ifeq_f (n := 211) (t := 222) (by decide +kernel) (by omega) ?_
            exact r211 (fun h => by omega)
        · skip
          refine he_cmpne_t (n := 206) (t := 211) (by decide +kernel) (by omega) ?_
          exact r211 (fun h => h203 h.1)
    have p4 : (2 : Int) ^ 2 = 4 := by decide
    have p8 : (2 : Int) ^ 3 = 8 := by decide
    have p128 : (2 : Int) ^ 7 = 128 := by decide
    have r129 : ∀ (sh' : Int) (M1 : Nat → mq_C) (s : Int32) (a1 : Nat), (sh' = 0 ∨ sh' = 1) → s.toInt ≤ 319 → yV E sh' M0 M1 a1 o → (∀ b, b ≠ 234 → M1 b = M b) → ((sh' = 1 ∨ s.toInt < 0) → R = none) → (sh' = 0 → 0 ≤ s.toInt → s.toInt ≤ 18 ∧ (if s.toInt < 16 then xrb fM E N (xB M0 252) m a1 (l ++ [s.toInt])
        else if s.toInt = 16 then (if a1 + 2 ≤ E ∧ 0 < l.length ∧ l.length + (3 + xb (xB M0 252) a1 2).toNat ≤ N then xrb fM E N (xB M0 252) m (a1 + 2) (l ++ List.replicate (3 + xb (xB M0 252) a1 2).toNat (l.getD (l.length - 1) 0)) else none)
        else if s.toInt = 17 then (if a1 + 3 ≤ E ∧ l.length + (3 + xb (xB M0 252) a1 3).toNat ≤ N then xrb fM E N (xB M0 252) m (a1 + 3) (l ++ List.replicate (3 + xb (xB M0 252) a1 3).toNat 0) else none)
        else (if a1 + 7 ≤ E ∧ l.length + (11 + xb (xB M0 252) a1 7).toNat ≤ N then xrb fM E N (xB M0 252) m (a1 + 7) (l ++ List.replicate (11 + xb (xB M0 252) a1 7).toNat 0) else none)) = R) → mq_R mq_PP (d + 2) 116 129 [some (.ref 234), some (.int nl), some (.int nd), some (.int nc), some (.int k), o5, o6, o7, o8] [.int s] (M1, z, u) Q := by
      intro sh' M1 s a1 hsh hs9 hV1 hF1 k1 k0
      refine he_istore (n := 131) (i := 5) (by decide +kernel) rfl ?_
      refine he_iload (n := 133) (i := 5) (by decide +kernel) rfl ?_
      refine he_iconst (n := 135) (c := 16) (by decide +kernel) (by decide) ?_
      intro c133 hc133
      by_cases h135 : s.toInt < 16
      · skip
        refine he_cmpge_f (n := 138) (t := 142) (by decide +kernel) (by omega) ?_
        refine he_iconst (n := 139) (c := 1) (by decide +kernel) (by decide) ?_
        intro c138 hc138
        refine he_goto (t := 185) (by decide +kernel) ?_
        refine r185 sh' M1 s _ a1 1 hsh hs9 (by omega) (by decide) (by decide) hV1 hF1 k1 (fun e0 e1 => ?_)
        obtain ⟨q1, q2⟩ := k0 e0 e1
        rw [if_pos h135, xL_one] at q2
        rw [if_pos h135, if_pos ⟨fun h => by omega, by omega⟩]
        exact ⟨q1, q2⟩
      · skip
        refine he_cmpge_t (n := 138) (t := 142) (by decide +kernel) (by omega) ?_
        refine he_iload (n := 144) (i := 5) (by decide +kernel) rfl ?_
        refine he_iconst (n := 146) (c := 16) (by decide +kernel) (by decide) ?_
        intro c144 hc144
        by_cases h146 : s.toInt = 16
        · skip
          refine he_cmpne_f (n := 149) (t := 159) (by decide +kernel) (by omega) ?_
          refine he_iconst (n := 150) (c := 3) (by decide +kernel) (by decide) ?_
          intro c149 hc149
          refine he_aload (n := 151) (i := 0) (by decide +kernel) rfl ?_
          refine he_iconst (n := 152) (c := 2) (by decide +kernel) (by decide) ?_
          intro c151 hc151
          refine he_v1 (n := 155) (j := 109) (ci := 9) (mx := 4) (ns := [5157, 5159, 55, 146]) (by decide +kernel) ((hb_kd (a := 234) hV1.1.1 rfl).trans rfl) (by show 1 ≤ 8; omega) (by show 2 ≤ 4; omega) ?_
          rw [mq_e109]
          refine ym_num (k := 2) hE (by decide) (by omega) hV1 ?_ ?_
          · intro M2 r hEk hV2 hr hF2
            have hb := xb_b (B := (xB M0 252)) (fun i => xB_01 _) a1 2
            show mq_R mq_PP (d + 2) 116 155 _ [.int r, .int c149] (M2, z, u) Q
            refine he_iadd (n := 156) (by decide +kernel) (by omega) (by omega) ?_
            intro v155 hv155
            refine he_goto (t := 185) (by decide +kernel) ?_
            refine r185 sh' M2 s _ (a1 + 2) (3 + xb (xB M0 252) a1 2).toNat hsh hs9 (by omega) (by omega) (by omega) hV2 (fun b hb => (hF2 b hb).trans (hF1 b hb)) k1 (fun e0 e1 => ?_)
            obtain ⟨q1, q2⟩ := k0 e0 e1
            refine ⟨q1, ?_⟩
            rw [← q2]
            rw [if_neg h135, if_neg h135, if_pos h146, if_pos h146]
            by_cases c1 : 0 < l.length
            · by_cases c4 : l.length + (3 + xb (xB M0 252) a1 2).toNat ≤ N
              · rw [if_pos ⟨fun h => by omega, c4⟩, if_pos ⟨hEk, c1, c4⟩]
              · rw [if_neg (fun h => c4 h.2), if_neg (fun h => c4 h.2.2)]
            · rw [if_neg (fun h => h.1 ⟨h146, by omega⟩), if_neg (fun h => c1 h.2.1)]
          · intro M2 r a2 hEk hV2 hr0 hr1 hF2
            show mq_R mq_PP (d + 2) 116 155 _ [.int r, .int c149] (M2, z, u) Q
            refine he_iadd (n := 156) (by decide +kernel) (by omega) (by omega) ?_
            intro v155 hv155
            refine he_goto (t := 185) (by decide +kernel) ?_
            refine r185 1 M2 s _ a2 (3 + r.toInt.toNat) (.inr rfl) hs9 (by omega) (by omega) (by omega) hV2 (fun b hb => (hF2 b hb).trans (hF1 b hb)) (fun _ => ?_) (fun h => absurd h (by decide))
            rcases hsh with e | e
            · by_cases h0 : s.toInt < 0
              · exact k1 (.inr h0)
              · obtain ⟨q1, q2⟩ := k0 e (by omega)
                rw [← q2, if_neg h135, if_pos h146, if_neg (fun h => hEk h.1)]
            · exact k1 (.inl e)
        · skip
          refine he_cmpne_t (n := 149) (t := 159) (by decide +kernel) (by omega) ?_
          refine he_iload (n := 161) (i := 5) (by decide +kernel) rfl ?_
          refine he_iconst (n := 163) (c := 17) (by decide +kernel) (by decide) ?_
          intro c161 hc161
          by_cases h163 : s.toInt = 17
          · skip
            refine he_cmpne_f (n := 166) (t := 176) (by decide +kernel) (by omega) ?_
            refine he_iconst (n := 167) (c := 3) (by decide +kernel) (by decide) ?_
            intro c166 hc166
            refine he_aload (n := 168) (i := 0) (by decide +kernel) rfl ?_
            refine he_iconst (n := 169) (c := 3) (by decide +kernel) (by decide) ?_
            intro c168 hc168
            refine he_v1 (n := 172) (j := 109) (ci := 9) (mx := 4) (ns := [5157, 5159, 55, 146]) (by decide +kernel) ((hb_kd (a := 234) hV1.1.1 rfl).trans rfl) (by show 1 ≤ 8; omega) (by show 2 ≤ 4; omega) ?_
            rw [mq_e109]
            refine ym_num (k := 3) hE (by decide) (by omega) hV1 ?_ ?_
            · intro M2 r hEk hV2 hr hF2
              have hb := xb_b (B := (xB M0 252)) (fun i => xB_01 _) a1 3
              show mq_R mq_PP (d + 2) 116 172 _ [.int r, .int c166] (M2, z, u) Q
              refine he_iadd (n := 173) (by decide +kernel) (by omega) (by omega) ?_
              intro v172 hv172
              refine he_goto (t := 185) (by decide +kernel) ?_
              refine r185 sh' M2 s _ (a1 + 3) (3 + xb (xB M0 252) a1 3).toNat hsh hs9 (by omega) (by omega) (by omega) hV2 (fun b hb => (hF2 b hb).trans (hF1 b hb)) k1 (fun e0 e1 => ?_)
              obtain ⟨q1, q2⟩ := k0 e0 e1
              refine ⟨q1, ?_⟩
              rw [← q2]
              rw [if_neg h135, if_neg h135, if_neg h146, if_neg h146, if_pos h163]
              by_cases c4 : l.length + (3 + xb (xB M0 252) a1 3).toNat ≤ N
              · rw [if_pos ⟨fun h => h146 h.1, c4⟩, if_pos ⟨hEk, c4⟩]
              · rw [if_neg (fun h => c4 h.2), if_neg (fun h => c4 h.2)]
            · intro M2 r a2 hEk hV2 hr0 hr1 hF2
              show mq_R mq_PP (d + 2) 116 172 _ [.int r, .int c166] (M2, z, u) Q
              refine he_iadd (n := 173) (by decide +kernel) (by omega) (by omega) ?_
              intro v172 hv172
              refine he_goto (t := 185) (by decide +kernel) ?_
              refine r185 1 M2 s _ a2 (3 + r.toInt.toNat) (.inr rfl) hs9 (by omega) (by omega) (by omega) hV2 (fun b hb => (hF2 b hb).trans (hF1 b hb)) (fun _ => ?_) (fun h => absurd h (by decide))
              rcases hsh with e | e
              · by_cases h0 : s.toInt < 0
                · exact k1 (.inr h0)
                · obtain ⟨q1, q2⟩ := k0 e (by omega)
                  rw [← q2, if_neg h135, if_neg h146, if_pos h163, if_neg (fun h => hEk h.1)]
              · exact k1 (.inl e)
          · skip
            refine he_cmpne_t (n := 166) (t := 176) (by decide +kernel) (by omega) ?_
            refine he_iconst (n := 178) (c := 11) (by decide +kernel) (by decide) ?_
            intro c176 hc176
            refine he_aload (n := 179) (i := 0) (by decide +kernel) rfl ?_
            refine he_iconst (n := 181) (c := 7) (by decide +kernel) (by decide) ?_
            intro c179 hc179
            refine he_v1 (n := 184) (j := 109) (ci := 9) (mx := 4) (ns := [5157, 5159, 55, 146]) (by decide +kernel) ((hb_kd (a := 234) hV1.1.1 rfl).trans rfl) (by show 1 ≤ 8; omega) (by show 2 ≤ 4; omega) ?_
            rw [mq_e109]
            refine ym_num (k := 7) hE (by decide) (by omega) hV1 ?_ ?_
            · intro M2 r hEk hV2 hr hF2
              have hb := xb_b (B := (xB M0 252)) (fun i => xB_01 _) a1 7
              show mq_R mq_PP (d + 2) 116 184 _ [.int r, .int c176] (M2, z, u) Q
              refine he_iadd (n := 185) (by decide +kernel) (by omega) (by omega) ?_
              intro v184 hv184
              refine r185 sh' M2 s _ (a1 + 7) (11 + xb (xB M0 252) a1 7).toNat hsh hs9 (by omega) (by omega) (by omega) hV2 (fun b hb => (hF2 b hb).trans (hF1 b hb)) k1 (fun e0 e1 => ?_)
              obtain ⟨q1, q2⟩ := k0 e0 e1
              refine ⟨q1, ?_⟩
              rw [← q2]
              rw [if_neg h135, if_neg h135, if_neg h146, if_neg h146, if_neg h163]
              by_cases c4 : l.length + (11 + xb (xB M0 252) a1 7).toNat ≤ N
              · rw [if_pos ⟨fun h => h146 h.1, c4⟩, if_pos ⟨hEk, c4⟩]
              · rw [if_neg (fun h => c4 h.2), if_neg (fun h => c4 h.2)]
            · intro M2 r a2 hEk hV2 hr0 hr1 hF2
              show mq_R mq_PP (d + 2) 116 184 _ [.int r, .int c176] (M2, z, u) Q
              refine he_iadd (n := 185) (by decide +kernel) (by omega) (by omega) ?_
              intro v184 hv184
              refine r185 1 M2 s _ a2 (11 + r.toInt.toNat) (.inr rfl) hs9 (by omega) (by omega) (by omega) hV2 (fun b hb => (hF2 b hb).trans (hF1 b hb)) (fun _ => ?_) (fun h => absurd h (by decide))
              rcases hsh with e | e
              · by_cases h0 : s.toInt < 0
                · exact k1 (.inr h0)
                · obtain ⟨q1, q2⟩ := k0 e (by omega)
                  rw [← q2, if_neg h135, if_neg h146, if_neg h163, if_neg (fun h => hEk h.1)]
              · exact k1 (.inl e)
    refine he_v1 (n := 129) (j := 113) (ci := 9) (mx := 7) (ns := [5183, 5185, 61, 163]) (by decide +kernel) ((hb_kd (a := 234) hV.1.1 rfl).trans rfl) (by show 0 ≤ 8; omega) (by show 2 ≤ 7; omega) ?_
    rw [mq_e113]
    refine ym_sign (wn := 0) hE (by decide) (by decide) (by omega) hV hT ?_ ?_
    · intro M1 s a1 hs hV1 hF1
      show mq_R mq_PP (d + 2) 116 129 _ [.int s] (M1, z, u) Q
      have hsr := xs_r 15 1 0 0 0 a hs
      rw [hs] at hR
      exact r129 0 M1 s a1 (.inl rfl) (by omega) hV1 hF1 (fun h => by omega) (fun _ _ => ⟨by omega, hR⟩)
    · intro M1 s sh1 a1 hs hV1 hsh1 hd1 hd2 hd3 hF1
      show mq_R mq_PP (d + 2) 116 129 _ [.int s] (M1, z, u) Q
      rw [hs] at hR
      exact r129 sh1 M1 s a1 hsh1 hd3 hV1 hF1 (fun _ => hR.symm) (fun e0 e1 => by omega)
