/-! readLetters of the class, exactly. -/
/-- signs until the end of a block -/
def xlt (fL : Nat → Int) (nL : Nat) (fD : Nat → Int) (nD E : Nat) (B : Nat → Int) : Nat → Nat → List Int → Option (Nat × List Int)
  | 0, _, _ => none
  | m + 1, a, o => match xsg fL nL E B a with
    | none => none
    | some (s, a1) => if s = 256 then some (a1, o) else if s < 256 then (if o.length < 200 then xlt fL nL fD nD E B m a1 (o ++ [s]) else none)
      else match xlen E B s.toNat a1 with
        | none => none
        | some (n, a2) => match xsg fD nD E B a2 with
          | none => none
          | some (dd, a3) => match xdis E B dd.toNat a3 with
            | none => none
            | some (far, a4) => if far ≤ o.length ∧ n ≤ 200 - o.length then xlt fL nL fD nD E B m a4 (xcb far n o) else none
theorem xs_lt {f : Nat → Int} {n E : Nat} {B : Nat → Int} {r : Int} {a' : Nat} : ∀ (m b : Nat) (c fi be : Int) (a : Nat), xs f n E B m b c fi be a = some (r, a') → a < a' ∧ a' ≤ E := by
  intro m
  induction m with
  | zero => intro b c fi be a h; cases h
  | succ m ih =>
    intro b c fi be a h
    rw [xs] at h
    split at h
    · split at h
      · cases h
        omega
      · have := ih _ _ _ _ _ h
        omega
    · cases h
theorem xg_r {f : Nat → Int} {n : Nat} {k : Int} : 0 ≤ xg f n k ∧ (xg f n k < (n : Int) ∨ xg f n k = 0) := by
  unfold xg
  split
  · next i h =>
    have := List.mem_range.mp (List.mem_of_find?_eq_some h)
    omega
  · omega
theorem xs_r {f : Nat → Int} {n E : Nat} {B : Nat → Int} {r : Int} {a' : Nat} : ∀ (m b : Nat) (c fi be : Int) (a : Nat), xs f n E B m b c fi be a = some (r, a') → 0 ≤ r ∧ (r < (n : Int) ∨ r = 0) := by
  intro m
  induction m with
  | zero => intro b c fi be a h; cases h
  | succ m ih =>
    intro b c fi be a h
    rw [xs] at h
    split at h
    · split at h
      · cases h
        exact xg_r
      · exact ih _ _ _ _ _ h
    · cases h
theorem xlen_m {E s a n a' : Nat} {B : Nat → Int} (h : xlen E B s a = some (n, a')) : a ≤ a' := by
  unfold xlen at h
  repeat' split at h
  all_goals first | (simp only [reduceCtorEq] at h; done) | (simp only [Option.some.injEq, Prod.mk.injEq] at h; omega)
theorem xdis_m {E s a n a' : Nat} {B : Nat → Int} (h : xdis E B s a = some (n, a')) : a ≤ a' := by
  unfold xdis at h
  repeat' split at h
  all_goals first | (simp only [reduceCtorEq] at h; done) | (simp only [Option.some.injEq, Prod.mk.injEq] at h; omega)
theorem xT_fr {M M' : Nat → mq_C} {c n : Nat} {fl : Nat → Int} (h : xT M c n fl) (hF : ∀ b, b ≠ 9 → b ≠ 10 → M' b = M b) (hc : 10 < c) : xT M' c n fl := ⟨fun b h1 h2 => by rw [hb_vc (hF _ (by omega) (by omega))]; exact h.1 b h1 h2, fun i h1 h2 => by rw [hb_vc (hF _ (by omega) (by omega))]; exact h.2 i h1 h2⟩
theorem xj_rl_l24 {d z u pk f E ln : Nat} {M0 : Nat → mq_C} {Q : (Option Value ⊕ Nat) → mq_S → Prop} {Mb : Nat → mq_C} {fL fD : Nat → Int} {nL nD : Nat} (hp : mz_GG.1 pk = some (64, ln, 1, [(0, 0, 255)])) (he : 8 * f + E ≤ 8 * ln) (hl : ln ≤ 240) (h9 : pk < 9 ∨ 24 ≤ pk) (hL : nL ≤ 288) (hD : nD ≤ 32) {R : Option (Nat × List Int)}
    (K1 : ∀ (M' : Nat → mq_C) (a' : Nat) (o' : List Int), R = some (a', o') → xV pk f E 0 M0 M' a' o' → (∀ b, b ≠ 9 → b ≠ 10 → M' b = Mb b) → Q (.inl none) (M', z, u))
    (K2 : ∀ (M' : Nat → mq_C) (a' : Nat) (o' : List Int), R = none → xV pk f E 1 M0 M' a' o' → (∀ b, b ≠ 9 → b ≠ 10 → M' b = Mb b) → Q (.inl none) (M', z, u)) : ∀ (m j : Nat) (M : Nat → mq_C) (a : Nat) (o : List Int) (i : Int32) (o4 o5 : Option Value), j + m = 1921 → i.toInt = (j : Int) → j ≤ a → xV pk f E 0 M0 M a o → xT M 24 nL fL → xT M 28 nD fD → (∀ b, b ≠ 9 → b ≠ 10 → M b = Mb b) → xlt fL nL fD nD E (fun i => xB M0 pk (8 * f + i)) m a o = R → mq_R mq_PP (d + 2) 101 2 [some (.ref 9), some (.ref 24), some (.ref 28), some (.int i), o4, o5] [] (M, z, u) Q := by
  have bad : ∀ (m j : Nat) (M : Nat → mq_C) (a : Nat) (o : List Int) (i : Int32) (o4 o5 : Option Value), i.toInt = (j : Int) → j < 1921 → R = none → xV pk f E 1 M0 M a o → (∀ b, b ≠ 9 → b ≠ 10 → M b = Mb b) → mq_R mq_PP (d + 2) 101 79 [some (.ref 9), some (.ref 24), some (.ref 28), some (.int i), o4, o5] [] (M, z, u) Q := by
    intro m j M a o i o4 o5 e2 e3 hR hV hF
    have vB : hv M 9 5 = 1 := hV.2.2.2.1
    refine he_iinc (n := 82) (i := 3) (c := 1) (L' := fun v => [some (.ref (9)), some (.ref (24)), some (.ref (28)), some (.int v), o4, o5]) (by decide +kernel) (by decide) rfl (fun _ => rfl) (by omega) (by omega) ?_
    intro i79 hi79
    refine he_goto (t := 2) (by decide +kernel) ?_
    refine he_iload (n := 3) (i := 3) (by decide +kernel) rfl ?_
    refine he_iconst (n := 6) (c := 1921) (by decide +kernel) (by decide) ?_
    intro c3 hc3
    by_cases h6 : j + 1 < 1921
    · skip
      refine he_cmpge_f (n := 9) (t := 85) (by decide +kernel) (by omega) ?_
      refine he_aload (n := 10) (i := 0) (by decide +kernel) rfl ?_
      refine hb_gfd (n := 13) (ci := 8) (j := 5) (ns := [1074, 28]) hV.1.1 (by decide +kernel) rfl rfl (by decide) rfl ?_
      intro v10 hv10 lv10 uv10
      have q10 : v10.toInt = 1 := by rw [← hv10]; exact vB
      refine he_ifne_t (n := 16) (t := 85) (by decide +kernel) (by omega) ?_
      refine he_ret (by decide +kernel) ?_
      exact K2 M a o hR hV hF
    · skip
      refine he_cmpge_t (n := 9) (t := 85) (by decide +kernel) (by omega) ?_
      refine he_ret (by decide +kernel) ?_
      exact K2 M a o hR hV hF
  intro m
  induction m with
  | zero =>
    intro j M a o i o4 o5 e1 e2 e3 hV
    have := hV.2.2.2.2.1
    omega
  | succ m ih =>
    intro j M a o i o4 o5 e1 e2 e3 hV hTL hTD hF hR
    have vB : hv M 9 5 = 0 := hV.2.2.2.1
    rw [xlt] at hR
    refine he_iload (n := 3) (i := 3) (by decide +kernel) rfl ?_
    refine he_iconst (n := 6) (c := 1921) (by decide +kernel) (by decide) ?_
    intro c3 hc3
    refine he_cmpge_f (n := 9) (t := 85) (by decide +kernel) (by omega) ?_
    refine he_aload (n := 10) (i := 0) (by decide +kernel) rfl ?_
    refine hb_gfd (n := 13) (ci := 8) (j := 5) (ns := [1074, 28]) hV.1.1 (by decide +kernel) rfl rfl (by decide) rfl ?_
    intro v10 hv10 lv10 uv10
    have q10 : v10.toInt = 0 := by rw [← hv10]; exact vB
    refine he_ifne_f (n := 16) (t := 85) (by decide +kernel) (by omega) ?_
    refine he_aload (n := 17) (i := 0) (by decide +kernel) rfl ?_
    refine he_aload (n := 18) (i := 1) (by decide +kernel) rfl ?_
    refine he_v1 (n := 21) (j := 100) (ci := 8) (mx := 7) (ns := [2163, 2165, 4, 99]) (by decide +kernel) ((hb_kd (a := 9) hV.1.1 rfl).trans rfl) (by show 0 ≤ 8; omega) (by show 2 ≤ 7; omega) ?_
    rw [mq_e100]
    refine xj_sign24 hp he hl h9 hL hV hTL ?_ ?_
    rotate_left
    · intro M1 s a1 hs hV1 hT1 hs0 hF1
      show mq_R mq_PP (d + 2) 101 21 _ [.int s] (M1, z, u) Q
      rw [hs] at hR
      have vB1 : hv M1 9 5 = 1 := hV1.2.2.2.1
      refine he_istore (n := 23) (i := 4) (by decide +kernel) rfl ?_
      refine he_aload (n := 24) (i := 0) (by decide +kernel) rfl ?_
      refine hb_gfd (n := 27) (ci := 8) (j := 5) (ns := [1074, 28]) hV1.1.1 (by decide +kernel) rfl rfl (by decide) rfl ?_
      intro v24 hv24 lv24 uv24
      have q24 : v24.toInt = 1 := by rw [← hv24]; exact vB1
      refine he_ifne_t (n := 30) (t := 38) (by decide +kernel) (by omega) ?_
      refine he_ret (by decide +kernel) ?_
      exact K2 M1 a1 o hR.symm hV1 (fun b n1 n2 => (hF1 b n1).trans (hF b n1 n2))
    intro M1 s a1 hs hV1 hT1 hF1
    show mq_R mq_PP (d + 2) 101 21 _ [.int s] (M1, z, u) Q
    rw [hs] at hR
    have hR : (if s.toInt = 256 then some (a1, o) else if s.toInt < 256 then (if o.length < 200 then xlt fL nL fD nD E (fun i => xB M0 pk (8 * f + i)) m a1 (o ++ [s.toInt]) else none) else match xlen E (fun i => xB M0 pk (8 * f + i)) s.toInt.toNat a1 with
        | none => none
        | some (n, a2) => match xsg fD nD E (fun i => xB M0 pk (8 * f + i)) a2 with
          | none => none
          | some (dd, a3) => match xdis E (fun i => xB M0 pk (8 * f + i)) dd.toNat a3 with
            | none => none
            | some (far, a4) => if far ≤ o.length ∧ n ≤ 200 - o.length then xlt fL nL fD nD E (fun i => xB M0 pk (8 * f + i)) m a4 (xcb far n o) else none) = R := hR
    have hlt := xs_lt 15 1 0 0 0 a hs
    have hsr := xs_r 15 1 0 0 0 a hs
    have vB1 : hv M1 9 5 = 0 := hV1.2.2.2.1
    have hTL1 := xT_fr hTL (fun b n1 _ => hF1 b n1) (by decide)
    have hTD1 := xT_fr hTD (fun b n1 _ => hF1 b n1) (by decide)
    have hFb1 : ∀ b, b ≠ 9 → b ≠ 10 → M1 b = Mb b := fun b n1 n2 => (hF1 b n1).trans (hF b n1 n2)
    refine he_istore (n := 23) (i := 4) (by decide +kernel) rfl ?_
    refine he_aload (n := 24) (i := 0) (by decide +kernel) rfl ?_
    refine hb_gfd (n := 27) (ci := 8) (j := 5) (ns := [1074, 28]) hV1.1.1 (by decide +kernel) rfl rfl (by decide) rfl ?_
    intro v24 hv24 lv24 uv24
    have q24 : v24.toInt = 0 := by rw [← hv24]; exact vB1
    refine he_ifne_f (n := 30) (t := 38) (by decide +kernel) (by omega) ?_
    refine he_iload (n := 32) (i := 4) (by decide +kernel) rfl ?_
    refine he_iconst (n := 35) (c := 256) (by decide +kernel) (by decide) ?_
    intro c32 hc32
    by_cases h256 : s.toInt = 256
    · rw [if_pos h256] at hR
      refine he_cmpne_f (n := 38) (t := 39) (by decide +kernel) (by omega) ?_
      refine he_ret (by decide +kernel) ?_
      exact K1 M1 a1 o hR.symm hV1 hFb1
    · rw [if_neg h256] at hR
      refine he_cmpne_t (n := 38) (t := 39) (by decide +kernel) (by omega) ?_
      refine he_iload (n := 41) (i := 4) (by decide +kernel) rfl ?_
      refine he_iconst (n := 44) (c := 256) (by decide +kernel) (by decide) ?_
      intro c41 hc41
      by_cases hlow : s.toInt < 256
      · rw [if_pos hlow] at hR
        refine he_cmpge_f (n := 47) (t := 56) (by decide +kernel) (by omega) ?_
        refine he_aload (n := 48) (i := 0) (by decide +kernel) rfl ?_
        refine he_iload (n := 50) (i := 4) (by decide +kernel) rfl ?_
        refine he_v1 (n := 53) (j := 102) (ci := 8) (mx := 2) (ns := [2167, 2169, 5, 109]) (by decide +kernel) ((hb_kd (a := 9) hV1.1.1 rfl).trans rfl) (by show 0 ≤ 8; omega) (by show 2 ≤ 2; omega) ?_
        rw [mq_e102]
        refine xj_addByte hV1 (by omega) ?_ ?_
        · intro M2 hl2 hV2 hF2
          rw [if_pos hl2] at hR
          show mq_R mq_PP (d + 2) 101 53 _ [] (M2, z, u) Q
          refine he_goto (t := 79) (by decide +kernel) ?_
          refine he_iinc (n := 82) (i := 3) (c := 1) (L' := fun v => [some (.ref (9)), some (.ref (24)), some (.ref (28)), some (.int v), some (.int s), o5]) (by decide +kernel) (by decide) rfl (fun _ => rfl) (by omega) (by omega) ?_
          intro i79 hi79
          refine he_goto (t := 2) (by decide +kernel) ?_
          exact ih (j + 1) M2 a1 _ _ _ _ (by omega) (by omega) (by omega) hV2 (xT_fr hTL1 hF2 (by decide)) (xT_fr hTD1 hF2 (by decide)) (fun b n1 n2 => (hF2 b n1 n2).trans (hFb1 b n1 n2)) hR
        · intro M2 hl2 hV2 hF2
          rw [if_neg hl2] at hR
          show mq_R mq_PP (d + 2) 101 53 _ [] (M2, z, u) Q
          refine he_goto (t := 79) (by decide +kernel) ?_
          exact bad m j M2 a1 o i _ _ e2 (by omega) hR.symm hV2 (fun b n1 n2 => (hF2 b n1 n2).trans (hFb1 b n1 n2))
      · rw [if_neg hlow] at hR
        refine he_cmpge_t (n := 47) (t := 56) (by decide +kernel) (by omega) ?_
        refine he_aload (n := 57) (i := 0) (by decide +kernel) rfl ?_
        refine he_iload (n := 59) (i := 4) (by decide +kernel) rfl ?_
        refine he_v1 (n := 62) (j := 103) (ci := 8) (mx := 3) (ns := [2171, 2173, 6, 112]) (by decide +kernel) ((hb_kd (a := 9) hV1.1.1 rfl).trans rfl) (by show 0 ≤ 8; omega) (by show 2 ≤ 3; omega) ?_
        rw [mq_e103]
        -- from the length on: what is left of the call is one row for both ends
        have rest : ∀ (bk : Int) (M2 : Nat → mq_C) (n2 : Int32) (n a2 : Nat), (bk = 0 ∨ bk = 1) → n ≤ 258 → n2.toInt = (n : Int) → (bk = 0 → a1 ≤ a2) → xV pk f E bk M0 M2 a2 o → (∀ b, b ≠ 9 → M2 b = M1 b) → (bk = 1 → R = none) → (bk = 0 → (match xsg fD nD E (fun i => xB M0 pk (8 * f + i)) a2 with
            | none => none
            | some (dd, a3) => match xdis E (fun i => xB M0 pk (8 * f + i)) dd.toNat a3 with
              | none => none
              | some (far, a4) => if far ≤ o.length ∧ n ≤ 200 - o.length then xlt fL nL fD nD E (fun i => xB M0 pk (8 * f + i)) m a4 (xcb far n o) else none) = R) → mq_R mq_PP (d + 2) 101 62 [some (.ref 9), some (.ref 24), some (.ref 28), some (.int i), some (.int s), o5] [.int n2] (M2, z, u) Q := by
          intro bk M2 n2 n a2 hbk hn hn2 ha2 hV2 hF2 hb1 hb0
          have hTD2 := xT_fr hTD1 (fun b n1 _ => hF2 b n1) (by decide)
          have hTL2 := xT_fr hTL1 (fun b n1 _ => hF2 b n1) (by decide)
          have hFb2 : ∀ b, b ≠ 9 → b ≠ 10 → M2 b = Mb b := fun b n1 n2 => (hF2 b n1).trans (hFb1 b n1 n2)
          refine he_istore (n := 64) (i := 5) (by decide +kernel) rfl ?_
          refine he_aload (n := 65) (i := 0) (by decide +kernel) rfl ?_
          refine he_iload (n := 67) (i := 5) (by decide +kernel) rfl ?_
          refine he_aload (n := 68) (i := 0) (by decide +kernel) rfl ?_
          refine he_aload (n := 69) (i := 0) (by decide +kernel) rfl ?_
          refine he_aload (n := 70) (i := 2) (by decide +kernel) rfl ?_
          refine he_v1 (n := 73) (j := 100) (ci := 8) (mx := 7) (ns := [2163, 2165, 4, 99]) (by decide +kernel) ((hb_kd (a := 9) hV2.1.1 rfl).trans rfl) (by show 3 ≤ 8; omega) (by show 2 ≤ 7; omega) ?_
          rw [mq_e100]
          have rest2 : ∀ (bk : Int) (M3 : Nat → mq_C) (d3 : Int32) (dd a3 : Nat), (bk = 0 ∨ bk = 1) → dd ≤ 40 → d3.toInt = (dd : Int) → (bk = 0 → a1 ≤ a3) → xV pk f E bk M0 M3 a3 o → (∀ b, b ≠ 9 → M3 b = M2 b) → (bk = 1 → R = none) → (bk = 0 → (match xdis E (fun i => xB M0 pk (8 * f + i)) dd a3 with
              | none => none
              | some (far, a4) => if far ≤ o.length ∧ n ≤ 200 - o.length then xlt fL nL fD nD E (fun i => xB M0 pk (8 * f + i)) m a4 (xcb far n o) else none) = R) → mq_R mq_PP (d + 2) 101 73 [some (.ref 9), some (.ref 24), some (.ref 28), some (.int i), some (.int s), some (.int n2)] [.int d3, .ref 9, .int n2, .ref 9] (M3, z, u) Q := by
            intro bk M3 d3 dd a3 hbk hdd hd3 ha3 hV3 hF3 hb1 hb0
            have hFb3 : ∀ b, b ≠ 9 → b ≠ 10 → M3 b = Mb b := fun b n1 n2 => (hF3 b n1).trans (hFb2 b n1 n2)
            refine he_v1 (n := 76) (j := 104) (ci := 8) (mx := 3) (ns := [2175, 2177, 7, 115]) (by decide +kernel) ((hb_kd (a := 9) hV3.1.1 rfl).trans rfl) (by show 2 ≤ 8; omega) (by show 2 ≤ 3; omega) ?_
            rw [mq_e104]
            have rest3 : ∀ (bk : Int) (M4 : Nat → mq_C) (f4 : Int32) (far a4 : Nat), (bk = 0 ∨ bk = 1) → (1 ≤ far ∨ ¬ bk = 0) → f4.toInt = (far : Int) → (bk = 0 → a1 ≤ a4) → xV pk f E bk M0 M4 a4 o → (∀ b, b ≠ 9 → M4 b = M3 b) → (bk = 1 → R = none) → (bk = 0 → (if far ≤ o.length ∧ n ≤ 200 - o.length then xlt fL nL fD nD E (fun i => xB M0 pk (8 * f + i)) m a4 (xcb far n o) else none) = R) → mq_R mq_PP (d + 2) 101 76 [some (.ref 9), some (.ref 24), some (.ref 28), some (.int i), some (.int s), some (.int n2)] [.int f4, .int n2, .ref 9] (M4, z, u) Q := by
              intro bk M4 f4 far a4 hbk hfar hf4 ha4 hV4 hF4 hb1 hb0
              have hFb4 : ∀ b, b ≠ 9 → b ≠ 10 → M4 b = Mb b := fun b n1 n2 => (hF4 b n1).trans (hFb3 b n1 n2)
              have hTL4 := xT_fr hTL2 (fun b n1 _ => (hF4 b n1).trans (hF3 b n1)) (by decide)
              have hTD4 := xT_fr hTD2 (fun b n1 _ => (hF4 b n1).trans (hF3 b n1)) (by decide)
              refine he_v2 (n := 79) (j := 105) (ci := 8) (mx := 4) (ns := [2179, 2181, 8, 118]) (by decide +kernel) ((hb_kd (a := 9) hV4.1.1 rfl).trans rfl) (by show 0 ≤ 8; omega) (by show 3 ≤ 4; omega) ?_
              rw [mq_e105]
              refine xj_copyBack hV4 hn2 hn hf4 hfar hbk ?_ ?_
              · intro M5 hb c1 c2 hV5 hF5
                have hR2 := hb0 hb
                have ha5 := ha4 hb
                rw [if_pos ⟨c1, c2⟩] at hR2
                show mq_R mq_PP (d + 2) 101 79 _ [] (M5, z, u) Q
                refine he_iinc (n := 82) (i := 3) (c := 1) (L' := fun v => [some (.ref (9)), some (.ref (24)), some (.ref (28)), some (.int v), some (.int s), some (.int n2)]) (by decide +kernel) (by decide) rfl (fun _ => rfl) (by omega) (by omega) ?_
                intro i79 hi79
                refine he_goto (t := 2) (by decide +kernel) ?_
                exact ih (j + 1) M5 a4 _ _ _ _ (by omega) (by omega) (by omega) hV5 (xT_fr hTL4 hF5 (by decide)) (xT_fr hTD4 hF5 (by decide)) (fun b n1 n2 => (hF5 b n1 n2).trans (hFb4 b n1 n2)) hR2
              · intro M5 hb hV5 hF5
                show mq_R mq_PP (d + 2) 101 79 _ [] (M5, z, u) Q
                refine bad m j M5 a4 o i _ _ e2 (by omega) ?_ hV5 (fun b n1 n2 => (hF5 b n1 n2).trans (hFb4 b n1 n2))
                rcases hbk with h0 | h1
                · have hR2 := hb0 h0
                  rw [if_neg (by omega)] at hR2
                  exact hR2.symm
                · exact hb1 h1
            refine xj_distanceOf hp he hl h9 hV3 hd3 hdd ?_ ?_
            · intro M4 r far a4 hx c1 c2 c3 hV4 hF4
              show mq_R mq_PP (d + 2) 101 76 _ [.int r, .int n2, .ref 9] (M4, z, u) Q
              refine rest3 bk M4 r far a4 hbk (.inl c1) c3 (fun h => by have := xdis_m hx; have := ha3 h; omega) hV4 hF4 hb1 (fun h => ?_)
              have := hb0 h
              rw [hx] at this
              exact this
            · intro M4 r far hx c2 c3 hV4 hF4
              show mq_R mq_PP (d + 2) 101 76 _ [.int r, .int n2, .ref 9] (M4, z, u) Q
              refine rest3 1 M4 r far a3 (.inr rfl) (.inr (by decide)) c3 (fun h => absurd h (by decide)) hV4 hF4 (fun _ => ?_) (fun h => absurd h (by decide))
              rcases hbk with h0 | h1
              · have := hb0 h0
                rw [hx] at this
                exact this.symm
              · exact hb1 h1
          refine xj_sign28 hp he hl h9 hD hV2 hTD2 ?_ ?_
          · intro M3 d3 a3 hx hV3 hT3 hF3
            show mq_R mq_PP (d + 2) 101 73 _ [.int d3, .ref 9, .int n2, .ref 9] (M3, z, u) Q
            have hlt3 := xs_lt 15 1 0 0 0 a2 hx
            have hsr3 := xs_r 15 1 0 0 0 a2 hx
            refine rest2 bk M3 d3 d3.toInt.toNat a3 hbk (by omega) (by omega) (fun h => by have := ha2 h; omega) hV3 hF3 hb1 (fun h => ?_)
            have := hb0 h
            rw [hx] at this
            exact this
          · intro M3 d3 a3 hx hV3 hT3 h30 hF3
            show mq_R mq_PP (d + 2) 101 73 _ [.int d3, .ref 9, .int n2, .ref 9] (M3, z, u) Q
            refine rest2 1 M3 d3 0 a3 (.inr rfl) (by decide) h30 (fun h => absurd h (by decide)) hV3 hF3 (fun _ => ?_) (fun h => absurd h (by decide))
            rcases hbk with h0 | h1
            · have := hb0 h0
              rw [hx] at this
              exact this.symm
            · exact hb1 h1
        refine xj_lengthOf hp he hl h9 hV1 (.inl rfl) (s := s.toInt.toNat) (by omega) (by omega) ?_ ?_
        · intro M2 r n a2 hx c1 c2 hV2 hF2
          show mq_R mq_PP (d + 2) 101 62 _ [.int r] (M2, z, u) Q
          refine rest 0 M2 r n a2 (.inl rfl) c1 c2 (fun _ => by have := xlen_m hx; omega) hV2 hF2 (fun h => absurd h (by decide)) (fun _ => ?_)
          rw [hx] at hR
          exact hR
        · intro M2 r n hx c1 c2 hV2 hF2
          show mq_R mq_PP (d + 2) 101 62 _ [.int r] (M2, z, u) Q
          refine rest 1 M2 r n a1 (.inr rfl) c1 c2 (fun h => absurd h (by decide)) hV2 hF2 (fun _ => ?_) (fun h => absurd h (by decide))
          rw [hx] at hR
          exact hR.symm
theorem xj_readLetters24 {d z u pk f E ln : Nat} {M0 : Nat → mq_C} {Q : (Option Value ⊕ Nat) → mq_S → Prop} {M : Nat → mq_C} {a : Nat} {o : List Int} {fL fD : Nat → Int} {nL nD : Nat} (hp : mz_GG.1 pk = some (64, ln, 1, [(0, 0, 255)])) (he : 8 * f + E ≤ 8 * ln) (hl : ln ≤ 240) (h9 : pk < 9 ∨ 24 ≤ pk) (hL : nL ≤ 288) (hD : nD ≤ 32) (hV : xV pk f E 0 M0 M a o) (hTL : xT M 24 nL fL) (hTD : xT M 28 nD fD)
    (K1 : ∀ (M' : Nat → mq_C) (a' : Nat) (o' : List Int), xlt fL nL fD nD E (fun i => xB M0 pk (8 * f + i)) 1921 a o = some (a', o') → xV pk f E 0 M0 M' a' o' → (∀ b, b ≠ 9 → b ≠ 10 → M' b = M b) → Q (.inl none) (M', z, u))
    (K2 : ∀ (M' : Nat → mq_C) (a' : Nat) (o' : List Int), xlt fL nL fD nD E (fun i => xB M0 pk (8 * f + i)) 1921 a o = none → xV pk f E 1 M0 M' a' o' → (∀ b, b ≠ 9 → b ≠ 10 → M' b = M b) → Q (.inl none) (M', z, u)) : mq_R mq_PP (d + 2) 101 0 [some (.ref 9), some (.ref 24), some (.ref 28), none, none, none] [] (M, z, u) Q := by
  refine he_iconst (n := 1) (c := 0) (by decide +kernel) (by decide) ?_
  intro c0 hc0
  refine he_istore (n := 2) (i := 3) (by decide +kernel) rfl ?_
  exact xj_rl_l24 hp he hl h9 hL hD K1 K2 1921 0 M a o _ none none (by decide) (by omega) (Nat.zero_le _) hV hTL hTD (fun _ _ _ => rfl) rfl
theorem xj_rlb24 {d z u pk f E a : Nat} {M0 M : Nat → mq_C} {o : List Int} {Q : (Option Value ⊕ Nat) → mq_S → Prop} (hV : xV pk f E 1 M0 M a o) (h : Q (.inl none) (M, z, u)) : mq_R mq_PP d 101 0 [some (.ref 9), some (.ref 24), some (.ref 28), none, none, none] [] (M, z, u) Q := by
  refine he_iconst (n := 1) (c := 0) (by decide +kernel) (by decide) ?_
  intro c0 hc0
  refine he_istore (n := 2) (i := 3) (by decide +kernel) rfl ?_
  refine he_iload (n := 3) (i := 3) (by decide +kernel) rfl ?_
  refine he_iconst (n := 6) (c := 1921) (by decide +kernel) (by decide) ?_
  intro c3 hc3
  refine he_cmpge_f (n := 9) (t := 85) (by decide +kernel) (by omega) ?_
  refine he_aload (n := 10) (i := 0) (by decide +kernel) rfl ?_
  refine hb_gfd (n := 13) (ci := 8) (j := 5) (ns := [1074, 28]) hV.1.1 (by decide +kernel) rfl rfl (by decide) rfl ?_
  intro v10 hv10 lv10 uv10
  have q10 : v10.toInt = 1 := by rw [← hv10]; exact hV.2.2.2.1
  refine he_ifne_t (n := 16) (t := 85) (by decide +kernel) (by omega) ?_
  refine he_ret (by decide +kernel) ?_
  exact h
theorem xj_rl_l16 {d z u pk f E ln : Nat} {M0 : Nat → mq_C} {Q : (Option Value ⊕ Nat) → mq_S → Prop} {Mb : Nat → mq_C} {fL fD : Nat → Int} {nL nD : Nat} (hp : mz_GG.1 pk = some (64, ln, 1, [(0, 0, 255)])) (he : 8 * f + E ≤ 8 * ln) (hl : ln ≤ 240) (h9 : pk < 9 ∨ 24 ≤ pk) (hL : nL ≤ 286) (hD : nD ≤ 30) {R : Option (Nat × List Int)}
    (K1 : ∀ (M' : Nat → mq_C) (a' : Nat) (o' : List Int), R = some (a', o') → xV pk f E 0 M0 M' a' o' → (∀ b, b ≠ 9 → b ≠ 10 → M' b = Mb b) → Q (.inl none) (M', z, u))
    (K2 : ∀ (M' : Nat → mq_C) (a' : Nat) (o' : List Int), R = none → xV pk f E 1 M0 M' a' o' → (∀ b, b ≠ 9 → b ≠ 10 → M' b = Mb b) → Q (.inl none) (M', z, u)) : ∀ (m j : Nat) (M : Nat → mq_C) (a : Nat) (o : List Int) (i : Int32) (o4 o5 : Option Value), j + m = 1921 → i.toInt = (j : Int) → j ≤ a → xV pk f E 0 M0 M a o → xT M 16 nL fL → xT M 20 nD fD → (∀ b, b ≠ 9 → b ≠ 10 → M b = Mb b) → xlt fL nL fD nD E (fun i => xB M0 pk (8 * f + i)) m a o = R → mq_R mq_PP (d + 2) 101 2 [some (.ref 9), some (.ref 16), some (.ref 20), some (.int i), o4, o5] [] (M, z, u) Q := by
  have bad : ∀ (m j : Nat) (M : Nat → mq_C) (a : Nat) (o : List Int) (i : Int32) (o4 o5 : Option Value), i.toInt = (j : Int) → j < 1921 → R = none → xV pk f E 1 M0 M a o → (∀ b, b ≠ 9 → b ≠ 10 → M b = Mb b) → mq_R mq_PP (d + 2) 101 79 [some (.ref 9), some (.ref 16), some (.ref 20), some (.int i), o4, o5] [] (M, z, u) Q := by
    intro m j M a o i o4 o5 e2 e3 hR hV hF
    have vB : hv M 9 5 = 1 := hV.2.2.2.1
    refine he_iinc (n := 82) (i := 3) (c := 1) (L' := fun v => [some (.ref (9)), some (.ref (16)), some (.ref (20)), some (.int v), o4, o5]) (by decide +kernel) (by decide) rfl (fun _ => rfl) (by omega) (by omega) ?_
    intro i79 hi79
    refine he_goto (t := 2) (by decide +kernel) ?_
    refine he_iload (n := 3) (i := 3) (by decide +kernel) rfl ?_
    refine he_iconst (n := 6) (c := 1921) (by decide +kernel) (by decide) ?_
    intro c3 hc3
    by_cases h6 : j + 1 < 1921
    · skip
      refine he_cmpge_f (n := 9) (t := 85) (by decide +kernel) (by omega) ?_
      refine he_aload (n := 10) (i := 0) (by decide +kernel) rfl ?_
      refine hb_gfd (n := 13) (ci := 8) (j := 5) (ns := [1074, 28]) hV.1.1 (by decide +kernel) rfl rfl (by decide) rfl ?_
      intro v10 hv10 lv10 uv10
      have q10 : v10.toInt = 1 := by rw [← hv10]; exact vB
      refine he_ifne_t (n := 16) (t := 85) (by decide +kernel) (by omega) ?_
      refine he_ret (by decide +kernel) ?_
      exact K2 M a o hR hV hF
    · skip
      refine he_cmpge_t (n := 9) (t := 85) (by decide +kernel) (by omega) ?_
      refine he_ret (by decide +kernel) ?_
      exact K2 M a o hR hV hF
  intro m
  induction m with
  | zero =>
    intro j M a o i o4 o5 e1 e2 e3 hV
    have := hV.2.2.2.2.1
    omega
  | succ m ih =>
    intro j M a o i o4 o5 e1 e2 e3 hV hTL hTD hF hR
    have vB : hv M 9 5 = 0 := hV.2.2.2.1
    rw [xlt] at hR
    refine he_iload (n := 3) (i := 3) (by decide +kernel) rfl ?_
    refine he_iconst (n := 6) (c := 1921) (by decide +kernel) (by decide) ?_
    intro c3 hc3
    refine he_cmpge_f (n := 9) (t := 85) (by decide +kernel) (by omega) ?_
    refine he_aload (n := 10) (i := 0) (by decide +kernel) rfl ?_
    refine hb_gfd (n := 13) (ci := 8) (j := 5) (ns := [1074, 28]) hV.1.1 (by decide +kernel) rfl rfl (by decide) rfl ?_
    intro v10 hv10 lv10 uv10
    have q10 : v10.toInt = 0 := by rw [← hv10]; exact vB
    refine he_ifne_f (n := 16) (t := 85) (by decide +kernel) (by omega) ?_
    refine he_aload (n := 17) (i := 0) (by decide +kernel) rfl ?_
    refine he_aload (n := 18) (i := 1) (by decide +kernel) rfl ?_
    refine he_v1 (n := 21) (j := 100) (ci := 8) (mx := 7) (ns := [2163, 2165, 4, 99]) (by decide +kernel) ((hb_kd (a := 9) hV.1.1 rfl).trans rfl) (by show 0 ≤ 8; omega) (by show 2 ≤ 7; omega) ?_
    rw [mq_e100]
    refine xj_sign16 hp he hl h9 hL hV hTL ?_ ?_
    rotate_left
    · intro M1 s a1 hs hV1 hT1 hs0 hF1
      show mq_R mq_PP (d + 2) 101 21 _ [.int s] (M1, z, u) Q
      rw [hs] at hR
      have vB1 : hv M1 9 5 = 1 := hV1.2.2.2.1
      refine he_istore (n := 23) (i := 4) (by decide +kernel) rfl ?_
      refine he_aload (n := 24) (i := 0) (by decide +kernel) rfl ?_
      refine hb_gfd (n := 27) (ci := 8) (j := 5) (ns := [1074, 28]) hV1.1.1 (by decide +kernel) rfl rfl (by decide) rfl ?_
      intro v24 hv24 lv24 uv24
      have q24 : v24.toInt = 1 := by rw [← hv24]; exact vB1
      refine he_ifne_t (n := 30) (t := 38) (by decide +kernel) (by omega) ?_
      refine he_ret (by decide +kernel) ?_
      exact K2 M1 a1 o hR.symm hV1 (fun b n1 n2 => (hF1 b n1).trans (hF b n1 n2))
    intro M1 s a1 hs hV1 hT1 hF1
    show mq_R mq_PP (d + 2) 101 21 _ [.int s] (M1, z, u) Q
    rw [hs] at hR
    have hR : (if s.toInt = 256 then some (a1, o) else if s.toInt < 256 then (if o.length < 200 then xlt fL nL fD nD E (fun i => xB M0 pk (8 * f + i)) m a1 (o ++ [s.toInt]) else none) else match xlen E (fun i => xB M0 pk (8 * f + i)) s.toInt.toNat a1 with
        | none => none
        | some (n, a2) => match xsg fD nD E (fun i => xB M0 pk (8 * f + i)) a2 with
          | none => none
          | some (dd, a3) => match xdis E (fun i => xB M0 pk (8 * f + i)) dd.toNat a3 with
            | none => none
            | some (far, a4) => if far ≤ o.length ∧ n ≤ 200 - o.length then xlt fL nL fD nD E (fun i => xB M0 pk (8 * f + i)) m a4 (xcb far n o) else none) = R := hR
    have hlt := xs_lt 15 1 0 0 0 a hs
    have hsr := xs_r 15 1 0 0 0 a hs
    have vB1 : hv M1 9 5 = 0 := hV1.2.2.2.1
    have hTL1 := xT_fr hTL (fun b n1 _ => hF1 b n1) (by decide)
    have hTD1 := xT_fr hTD (fun b n1 _ => hF1 b n1) (by decide)
    have hFb1 : ∀ b, b ≠ 9 → b ≠ 10 → M1 b = Mb b := fun b n1 n2 => (hF1 b n1).trans (hF b n1 n2)
    refine he_istore (n := 23) (i := 4) (by decide +kernel) rfl ?_
    refine he_aload (n := 24) (i := 0) (by decide +kernel) rfl ?_
    refine hb_gfd (n := 27) (ci := 8) (j := 5) (ns := [1074, 28]) hV1.1.1 (by decide +kernel) rfl rfl (by decide) rfl ?_
    intro v24 hv24 lv24 uv24
    have q24 : v24.toInt = 0 := by rw [← hv24]; exact vB1
    refine he_ifne_f (n := 30) (t := 38) (by decide +kernel) (by omega) ?_
    refine he_iload (n := 32) (i := 4) (by decide +kernel) rfl ?_
    refine he_iconst (n := 35) (c := 256) (by decide +kernel) (by decide) ?_
    intro c32 hc32
    by_cases h256 : s.toInt = 256
    · rw [if_pos h256] at hR
      refine he_cmpne_f (n := 38) (t := 39) (by decide +kernel) (by omega) ?_
      refine he_ret (by decide +kernel) ?_
      exact K1 M1 a1 o hR.symm hV1 hFb1
    · rw [if_neg h256] at hR
      refine he_cmpne_t (n := 38) (t := 39) (by decide +kernel) (by omega) ?_
      refine he_iload (n := 41) (i := 4) (by decide +kernel) rfl ?_
      refine he_iconst (n := 44) (c := 256) (by decide +kernel) (by decide) ?_
      intro c41 hc41
      by_cases hlow : s.toInt < 256
      · rw [if_pos hlow] at hR
        refine he_cmpge_f (n := 47) (t := 56) (by decide +kernel) (by omega) ?_
        refine he_aload (n := 48) (i := 0) (by decide +kernel) rfl ?_
        refine he_iload (n := 50) (i := 4) (by decide +kernel) rfl ?_
        refine he_v1 (n := 53) (j := 102) (ci := 8) (mx := 2) (ns := [2167, 2169, 5, 109]) (by decide +kernel) ((hb_kd (a := 9) hV1.1.1 rfl).trans rfl) (by show 0 ≤ 8; omega) (by show 2 ≤ 2; omega) ?_
        rw [mq_e102]
        refine xj_addByte hV1 (by omega) ?_ ?_
        · intro M2 hl2 hV2 hF2
          rw [if_pos hl2] at hR
          show mq_R mq_PP (d + 2) 101 53 _ [] (M2, z, u) Q
          refine he_goto (t := 79) (by decide +kernel) ?_
          refine he_iinc (n := 82) (i := 3) (c := 1) (L' := fun v => [some (.ref (9)), some (.ref (16)), some (.ref (20)), some (.int v), some (.int s), o5]) (by decide +kernel) (by decide) rfl (fun _ => rfl) (by omega) (by omega) ?_
          intro i79 hi79
          refine he_goto (t := 2) (by decide +kernel) ?_
          exact ih (j + 1) M2 a1 _ _ _ _ (by omega) (by omega) (by omega) hV2 (xT_fr hTL1 hF2 (by decide)) (xT_fr hTD1 hF2 (by decide)) (fun b n1 n2 => (hF2 b n1 n2).trans (hFb1 b n1 n2)) hR
        · intro M2 hl2 hV2 hF2
          rw [if_neg hl2] at hR
          show mq_R mq_PP (d + 2) 101 53 _ [] (M2, z, u) Q
          refine he_goto (t := 79) (by decide +kernel) ?_
          exact bad m j M2 a1 o i _ _ e2 (by omega) hR.symm hV2 (fun b n1 n2 => (hF2 b n1 n2).trans (hFb1 b n1 n2))
      · rw [if_neg hlow] at hR
        refine he_cmpge_t (n := 47) (t := 56) (by decide +kernel) (by omega) ?_
        refine he_aload (n := 57) (i := 0) (by decide +kernel) rfl ?_
        refine he_iload (n := 59) (i := 4) (by decide +kernel) rfl ?_
        refine he_v1 (n := 62) (j := 103) (ci := 8) (mx := 3) (ns := [2171, 2173, 6, 112]) (by decide +kernel) ((hb_kd (a := 9) hV1.1.1 rfl).trans rfl) (by show 0 ≤ 8; omega) (by show 2 ≤ 3; omega) ?_
        rw [mq_e103]
        -- from the length on: what is left of the call is one row for both ends
        have rest : ∀ (bk : Int) (M2 : Nat → mq_C) (n2 : Int32) (n a2 : Nat), (bk = 0 ∨ bk = 1) → n ≤ 258 → n2.toInt = (n : Int) → (bk = 0 → a1 ≤ a2) → xV pk f E bk M0 M2 a2 o → (∀ b, b ≠ 9 → M2 b = M1 b) → (bk = 1 → R = none) → (bk = 0 → (match xsg fD nD E (fun i => xB M0 pk (8 * f + i)) a2 with
            | none => none
            | some (dd, a3) => match xdis E (fun i => xB M0 pk (8 * f + i)) dd.toNat a3 with
              | none => none
              | some (far, a4) => if far ≤ o.length ∧ n ≤ 200 - o.length then xlt fL nL fD nD E (fun i => xB M0 pk (8 * f + i)) m a4 (xcb far n o) else none) = R) → mq_R mq_PP (d + 2) 101 62 [some (.ref 9), some (.ref 16), some (.ref 20), some (.int i), some (.int s), o5] [.int n2] (M2, z, u) Q := by
          intro bk M2 n2 n a2 hbk hn hn2 ha2 hV2 hF2 hb1 hb0
          have hTD2 := xT_fr hTD1 (fun b n1 _ => hF2 b n1) (by decide)
          have hTL2 := xT_fr hTL1 (fun b n1 _ => hF2 b n1) (by decide)
          have hFb2 : ∀ b, b ≠ 9 → b ≠ 10 → M2 b = Mb b := fun b n1 n2 => (hF2 b n1).trans (hFb1 b n1 n2)
          refine he_istore (n := 64) (i := 5) (by decide +kernel) rfl ?_
          refine he_aload (n := 65) (i := 0) (by decide +kernel) rfl ?_
          refine he_iload (n := 67) (i := 5) (by decide +kernel) rfl ?_
          refine he_aload (n := 68) (i := 0) (by decide +kernel) rfl ?_
          refine he_aload (n := 69) (i := 0) (by decide +kernel) rfl ?_
          refine he_aload (n := 70) (i := 2) (by decide +kernel) rfl ?_
          refine he_v1 (n := 73) (j := 100) (ci := 8) (mx := 7) (ns := [2163, 2165, 4, 99]) (by decide +kernel) ((hb_kd (a := 9) hV2.1.1 rfl).trans rfl) (by show 3 ≤ 8; omega) (by show 2 ≤ 7; omega) ?_
          rw [mq_e100]
          have rest2 : ∀ (bk : Int) (M3 : Nat → mq_C) (d3 : Int32) (dd a3 : Nat), (bk = 0 ∨ bk = 1) → dd ≤ 40 → d3.toInt = (dd : Int) → (bk = 0 → a1 ≤ a3) → xV pk f E bk M0 M3 a3 o → (∀ b, b ≠ 9 → M3 b = M2 b) → (bk = 1 → R = none) → (bk = 0 → (match xdis E (fun i => xB M0 pk (8 * f + i)) dd a3 with
              | none => none
              | some (far, a4) => if far ≤ o.length ∧ n ≤ 200 - o.length then xlt fL nL fD nD E (fun i => xB M0 pk (8 * f + i)) m a4 (xcb far n o) else none) = R) → mq_R mq_PP (d + 2) 101 73 [some (.ref 9), some (.ref 16), some (.ref 20), some (.int i), some (.int s), some (.int n2)] [.int d3, .ref 9, .int n2, .ref 9] (M3, z, u) Q := by
            intro bk M3 d3 dd a3 hbk hdd hd3 ha3 hV3 hF3 hb1 hb0
            have hFb3 : ∀ b, b ≠ 9 → b ≠ 10 → M3 b = Mb b := fun b n1 n2 => (hF3 b n1).trans (hFb2 b n1 n2)
            refine he_v1 (n := 76) (j := 104) (ci := 8) (mx := 3) (ns := [2175, 2177, 7, 115]) (by decide +kernel) ((hb_kd (a := 9) hV3.1.1 rfl).trans rfl) (by show 2 ≤ 8; omega) (by show 2 ≤ 3; omega) ?_
            rw [mq_e104]
            have rest3 : ∀ (bk : Int) (M4 : Nat → mq_C) (f4 : Int32) (far a4 : Nat), (bk = 0 ∨ bk = 1) → (1 ≤ far ∨ ¬ bk = 0) → f4.toInt = (far : Int) → (bk = 0 → a1 ≤ a4) → xV pk f E bk M0 M4 a4 o → (∀ b, b ≠ 9 → M4 b = M3 b) → (bk = 1 → R = none) → (bk = 0 → (if far ≤ o.length ∧ n ≤ 200 - o.length then xlt fL nL fD nD E (fun i => xB M0 pk (8 * f + i)) m a4 (xcb far n o) else none) = R) → mq_R mq_PP (d + 2) 101 76 [some (.ref 9), some (.ref 16), some (.ref 20), some (.int i), some (.int s), some (.int n2)] [.int f4, .int n2, .ref 9] (M4, z, u) Q := by
              intro bk M4 f4 far a4 hbk hfar hf4 ha4 hV4 hF4 hb1 hb0
              have hFb4 : ∀ b, b ≠ 9 → b ≠ 10 → M4 b = Mb b := fun b n1 n2 => (hF4 b n1).trans (hFb3 b n1 n2)
              have hTL4 := xT_fr hTL2 (fun b n1 _ => (hF4 b n1).trans (hF3 b n1)) (by decide)
              have hTD4 := xT_fr hTD2 (fun b n1 _ => (hF4 b n1).trans (hF3 b n1)) (by decide)
              refine he_v2 (n := 79) (j := 105) (ci := 8) (mx := 4) (ns := [2179, 2181, 8, 118]) (by decide +kernel) ((hb_kd (a := 9) hV4.1.1 rfl).trans rfl) (by show 0 ≤ 8; omega) (by show 3 ≤ 4; omega) ?_
              rw [mq_e105]
              refine xj_copyBack hV4 hn2 hn hf4 hfar hbk ?_ ?_
              · intro M5 hb c1 c2 hV5 hF5
                have hR2 := hb0 hb
                have ha5 := ha4 hb
                rw [if_pos ⟨c1, c2⟩] at hR2
                show mq_R mq_PP (d + 2) 101 79 _ [] (M5, z, u) Q
                refine he_iinc (n := 82) (i := 3) (c := 1) (L' := fun v => [some (.ref (9)), some (.ref (16)), some (.ref (20)), some (.int v), some (.int s), some (.int n2)]) (by decide +kernel) (by decide) rfl (fun _ => rfl) (by omega) (by omega) ?_
                intro i79 hi79
                refine he_goto (t := 2) (by decide +kernel) ?_
                exact ih (j + 1) M5 a4 _ _ _ _ (by omega) (by omega) (by omega) hV5 (xT_fr hTL4 hF5 (by decide)) (xT_fr hTD4 hF5 (by decide)) (fun b n1 n2 => (hF5 b n1 n2).trans (hFb4 b n1 n2)) hR2
              · intro M5 hb hV5 hF5
                show mq_R mq_PP (d + 2) 101 79 _ [] (M5, z, u) Q
                refine bad m j M5 a4 o i _ _ e2 (by omega) ?_ hV5 (fun b n1 n2 => (hF5 b n1 n2).trans (hFb4 b n1 n2))
                rcases hbk with h0 | h1
                · have hR2 := hb0 h0
                  rw [if_neg (by omega)] at hR2
                  exact hR2.symm
                · exact hb1 h1
            refine xj_distanceOf hp he hl h9 hV3 hd3 hdd ?_ ?_
            · intro M4 r far a4 hx c1 c2 c3 hV4 hF4
              show mq_R mq_PP (d + 2) 101 76 _ [.int r, .int n2, .ref 9] (M4, z, u) Q
              refine rest3 bk M4 r far a4 hbk (.inl c1) c3 (fun h => by have := xdis_m hx; have := ha3 h; omega) hV4 hF4 hb1 (fun h => ?_)
              have := hb0 h
              rw [hx] at this
              exact this
            · intro M4 r far hx c2 c3 hV4 hF4
              show mq_R mq_PP (d + 2) 101 76 _ [.int r, .int n2, .ref 9] (M4, z, u) Q
              refine rest3 1 M4 r far a3 (.inr rfl) (.inr (by decide)) c3 (fun h => absurd h (by decide)) hV4 hF4 (fun _ => ?_) (fun h => absurd h (by decide))
              rcases hbk with h0 | h1
              · have := hb0 h0
                rw [hx] at this
                exact this.symm
              · exact hb1 h1
          refine xj_sign20 hp he hl h9 hD hV2 hTD2 ?_ ?_
          · intro M3 d3 a3 hx hV3 hT3 hF3
            show mq_R mq_PP (d + 2) 101 73 _ [.int d3, .ref 9, .int n2, .ref 9] (M3, z, u) Q
            have hlt3 := xs_lt 15 1 0 0 0 a2 hx
            have hsr3 := xs_r 15 1 0 0 0 a2 hx
            refine rest2 bk M3 d3 d3.toInt.toNat a3 hbk (by omega) (by omega) (fun h => by have := ha2 h; omega) hV3 hF3 hb1 (fun h => ?_)
            have := hb0 h
            rw [hx] at this
            exact this
          · intro M3 d3 a3 hx hV3 hT3 h30 hF3
            show mq_R mq_PP (d + 2) 101 73 _ [.int d3, .ref 9, .int n2, .ref 9] (M3, z, u) Q
            refine rest2 1 M3 d3 0 a3 (.inr rfl) (by decide) h30 (fun h => absurd h (by decide)) hV3 hF3 (fun _ => ?_) (fun h => absurd h (by decide))
            rcases hbk with h0 | h1
            · have := hb0 h0
              rw [hx] at this
              exact this.symm
            · exact hb1 h1
        refine xj_lengthOf hp he hl h9 hV1 (.inl rfl) (s := s.toInt.toNat) (by omega) (by omega) ?_ ?_
        · intro M2 r n a2 hx c1 c2 hV2 hF2
          show mq_R mq_PP (d + 2) 101 62 _ [.int r] (M2, z, u) Q
          refine rest 0 M2 r n a2 (.inl rfl) c1 c2 (fun _ => by have := xlen_m hx; omega) hV2 hF2 (fun h => absurd h (by decide)) (fun _ => ?_)
          rw [hx] at hR
          exact hR
        · intro M2 r n hx c1 c2 hV2 hF2
          show mq_R mq_PP (d + 2) 101 62 _ [.int r] (M2, z, u) Q
          refine rest 1 M2 r n a1 (.inr rfl) c1 c2 (fun h => absurd h (by decide)) hV2 hF2 (fun _ => ?_) (fun h => absurd h (by decide))
          rw [hx] at hR
          exact hR.symm
theorem xj_readLetters16 {d z u pk f E ln : Nat} {M0 : Nat → mq_C} {Q : (Option Value ⊕ Nat) → mq_S → Prop} {M : Nat → mq_C} {a : Nat} {o : List Int} {fL fD : Nat → Int} {nL nD : Nat} (hp : mz_GG.1 pk = some (64, ln, 1, [(0, 0, 255)])) (he : 8 * f + E ≤ 8 * ln) (hl : ln ≤ 240) (h9 : pk < 9 ∨ 24 ≤ pk) (hL : nL ≤ 286) (hD : nD ≤ 30) (hV : xV pk f E 0 M0 M a o) (hTL : xT M 16 nL fL) (hTD : xT M 20 nD fD)
    (K1 : ∀ (M' : Nat → mq_C) (a' : Nat) (o' : List Int), xlt fL nL fD nD E (fun i => xB M0 pk (8 * f + i)) 1921 a o = some (a', o') → xV pk f E 0 M0 M' a' o' → (∀ b, b ≠ 9 → b ≠ 10 → M' b = M b) → Q (.inl none) (M', z, u))
    (K2 : ∀ (M' : Nat → mq_C) (a' : Nat) (o' : List Int), xlt fL nL fD nD E (fun i => xB M0 pk (8 * f + i)) 1921 a o = none → xV pk f E 1 M0 M' a' o' → (∀ b, b ≠ 9 → b ≠ 10 → M' b = M b) → Q (.inl none) (M', z, u)) : mq_R mq_PP (d + 2) 101 0 [some (.ref 9), some (.ref 16), some (.ref 20), none, none, none] [] (M, z, u) Q := by
  refine he_iconst (n := 1) (c := 0) (by decide +kernel) (by decide) ?_
  intro c0 hc0
  refine he_istore (n := 2) (i := 3) (by decide +kernel) rfl ?_
  exact xj_rl_l16 hp he hl h9 hL hD K1 K2 1921 0 M a o _ none none (by decide) (by omega) (Nat.zero_le _) hV hTL hTD (fun _ _ _ => rfl) rfl
theorem xj_rlb16 {d z u pk f E a : Nat} {M0 M : Nat → mq_C} {o : List Int} {Q : (Option Value ⊕ Nat) → mq_S → Prop} (hV : xV pk f E 1 M0 M a o) (h : Q (.inl none) (M, z, u)) : mq_R mq_PP d 101 0 [some (.ref 9), some (.ref 16), some (.ref 20), none, none, none] [] (M, z, u) Q := by
  refine he_iconst (n := 1) (c := 0) (by decide +kernel) (by decide) ?_
  intro c0 hc0
  refine he_istore (n := 2) (i := 3) (by decide +kernel) rfl ?_
  refine he_iload (n := 3) (i := 3) (by decide +kernel) rfl ?_
  refine he_iconst (n := 6) (c := 1921) (by decide +kernel) (by decide) ?_
  intro c3 hc3
  refine he_cmpge_f (n := 9) (t := 85) (by decide +kernel) (by omega) ?_
  refine he_aload (n := 10) (i := 0) (by decide +kernel) rfl ?_
  refine hb_gfd (n := 13) (ci := 8) (j := 5) (ns := [1074, 28]) hV.1.1 (by decide +kernel) rfl rfl (by decide) rfl ?_
  intro v10 hv10 lv10 uv10
  have q10 : v10.toInt = 1 := by rw [← hv10]; exact hV.2.2.2.1
  refine he_ifne_t (n := 16) (t := 85) (by decide +kernel) (by omega) ?_
  refine he_ret (by decide +kernel) ?_
  exact h
theorem xlt_m {fL fD : Nat → Int} {nL nD E : Nat} {B : Nat → Int} {a' : Nat} {o' : List Int} : ∀ {m a : Nat} {o : List Int}, xlt fL nL fD nD E B m a o = some (a', o') → a ≤ a' := by
  intro m
  induction m with
  | zero => intro a o h; cases h
  | succ m ih =>
    intro a o h
    rw [xlt] at h
    split at h
    · cases h
    · next s a1 hs =>
      have h1 := xs_lt 15 1 0 0 0 a hs
      split at h
      · cases h
        omega
      · split at h
        · split at h
          · have := ih h
            omega
          · cases h
        · split at h
          · cases h
          · next n a2 hx =>
            have h2 := xlen_m hx
            split at h
            · cases h
            · next dd a3 hd =>
              have h3 := xs_lt 15 1 0 0 0 a2 hd
              split at h
              · cases h
              · next far a4 hf =>
                have h4 := xdis_m hf
                split at h
                · have := ih h
                  omega
                · cases h
