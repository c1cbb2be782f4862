/-! unpack of the class, exactly. -/
def xfL (i : Nat) : Int := if i < 144 then 8 else if i < 256 then 9 else if i < 280 then 7 else 8
def xfD (_ : Nat) : Int := 5
/-- one block -/
def xblk (E : Nat) (B : Nat → Int) (t : Int) (a : Nat) (o : List Int) : Option (Nat × List Int) := if t = 0 then xst E B a o else if t = 1 then xlt xfL 288 xfD 32 E B 1921 a o else if t = 2 then (match xcd E B a with
    | none => none
    | some (a1, l, nl, nd) => xlt (fun i => l.getD i 0) nl (fun i => l.getD (nl + i) 0) nd E B 1921 a1 o) else none
/-- all blocks -/
def xun (E : Nat) (B : Nat → Int) : Nat → Nat → List Int → Option (List Int)
  | 0, _, _ => none
  | m + 1, a, o => if a + 3 ≤ E then (match xblk E B (xb B (a + 1) 2) (a + 3) o with
      | none => none
      | some (a1, o1) => if xb B a 1 = 1 then (if E < a1 + 8 then some o1 else none) else xun E B m a1 o1) else none
/-- what stands behind a method and bytes -/
def xop (m : Int) (E : Nat) (B : Nat → Int) : Option (List Int) := if m = 0 then (if E / 8 ≤ 200 then some (xby B (E / 8) 0 []) else none) else xun E B 1921 0 []
theorem xst_m {E a a' : Nat} {B : Nat → Int} {o o' : List Int} (h : xst E B a o = some (a', o')) : a ≤ a' := by
  unfold xst at h
  repeat' split at h
  all_goals first | cases h; omega | cases h
theorem xrb_m {fM : Nat → Int} {E N : Nat} {B : Nat → Int} {a' : Nat} {l' : List Int} : ∀ {m a : Nat} {l : List Int}, xrb fM E N B m a l = some (a', l') → a ≤ a' := by
  intro m
  induction m with
  | zero => intro a l h; cases h; exact Nat.le_refl _
  | succ m ih =>
    intro a l h
    rw [xrb] at h
    split at h
    · split at h
      · cases h
      · next s a1 hs =>
        have h1 := xs_lt 15 1 0 0 0 a hs
        split at h
        · have := ih h
          omega
        · split at h
          · split at h
            · have := ih h
              omega
            · cases h
          · split at h
            · split at h
              · have := ih h
                omega
              · cases h
            · split at h
              · have := ih h
                omega
              · cases h
    · cases h
      exact Nat.le_refl _
theorem xcd_m {E a a' nl nd : Nat} {B : Nat → Int} {l : List Int} (h : xcd E B a = some (a', l, nl, nd)) : a ≤ a' := by
  unfold xcd at h
  split at h
  · unfold xcd2 at h
    split at h
    · split at h
      · cases h
      · next a2 l2 hx =>
        have := xrb_m hx
        split at h
        · cases h
          omega
        · cases h
    · cases h
  · cases h
theorem xe_putr {d k pc n z u ci j a b : Nat} {ns : List Nat} {L : mq_L} {st : List Value} {M : Nat → mq_C} {Q : (Option Value ⊕ Nat) → mq_S → Prop} (hat : mq_at mq_PP k pc = some (53, n :: ci :: j :: 3 :: ns, [])) (hk : (M a).1 = ci) (hl : j < (M a).2.length) (h : mq_R mq_PP d k n L st (va_up M a (ci, (M a).2.set j (.ref b)), z, u) Q) : mq_R mq_PP d k pc L (.ref b :: .ref a :: st) (M, z, u) Q := by
  rw [mq_R_at hat, mq_x_put (fs := (M a).2) (by rw [← hk]) hl rfl]
  exact h
set_option maxRecDepth 100000 in
/-- the unpacker with another row to read -/
theorem xe_pk {M : Nat → mq_C} {pk : Nat} (hm : mz_sh mz_GG M) (hp : pk ∈ [10, 34, 48, 59, 70, 81]) : mz_sh mz_GG (va_up M 9 (8, (M 9).2.set 2 (.ref pk))) := by
  intro a c hc
  by_cases e : a = 9
  · subst e
    obtain ⟨m1, m2, m3⟩ := hm 9 c hc
    rw [va_up_self]
    refine ⟨?_, ?_, fun i v hv => ?_⟩
    · show 8 = c.1
      rw [← m1]
      exact ((hb_kd (a := 9) hm rfl).trans rfl).symm
    · show ((M 9).2.set 2 (.ref pk)).length = c.2.1
      rw [List.length_set]
      exact m2
    · have hv : ((M 9).2.set 2 (.ref pk))[i]? = some v := hv
      by_cases ei : i = 2
      · subst ei
        have hl : 2 < (M 9).2.length := by
          have := (List.getElem?_eq_some_iff.mp hv).1
          rw [List.length_set] at this
          exact this
        rw [List.getElem?_set_self hl] at hv
        cases hv
        cases hc
        exact hp
      · rw [List.getElem?_set_ne (by omega)] at hv
        exact m3 i v hv
  · rw [va_up_ne _ _ e]
    exact hm a c hc
theorem xj_un_l {d z u pk f E ln : Nat} {M0 : Nat → mq_C} {Q : (Option Value ⊕ Nat) → mq_S → Prop} {cnt : Nat} {x1 x3 x4 : Int32} (hp : mz_GG.1 pk = some (64, ln, 1, [(0, 0, 255)])) (he : 8 * f + E ≤ 8 * ln) (hl : ln ≤ 240) (h9 : pk < 9 ∨ 24 ≤ pk) (hE8 : E = 8 * cnt) (hMO : M0 1 = (60, mq_MO)) (hTL : xT M0 24 288 xfL) (hTD : xT M0 28 32 xfD) {R : Option (List Int)}
    (K : ∀ (M' : Nat → mq_C) (r : Int32), mz_sh mz_GG M' → (∀ b, b < 9 ∨ 24 ≤ b → M' b = M0 b) → (∀ o', R = some o' → r.toInt = 1 ∧ hv M' 9 1 = (o'.length : Int) ∧ ∀ i, i < o'.length → hv M' 10 i = o'.getD i 0) → (R = none → r.toInt = 0) → Q (.inl (some (.int r))) (M', z, u)) : ∀ (m j : Nat) (M : Nat → mq_C) (a : Nat) (o : List Int) (i : Int32) (o6 : Option Value), j + m = 1921 → i.toInt = (j : Int) → j ≤ a → xV pk f E 0 M0 M a o → xun E (fun i => xB M0 pk (8 * f + i)) m a o = R → mq_R mq_PP (d + 4) 92 63 [some (.ref 9), some (.int x1), some (.ref pk), some (.int x3), some (.int x4), some (.int i), o6] [] (M, z, u) Q := by
  have p4 : (2 : Int) ^ 2 = 4 := by decide
  have p2 : (2 : Int) ^ 1 = 2 := by decide
  intro m
  induction m with
  | zero =>
    intro j M a o i o6 e1 e2 e3 hV
    have := hV.2.2.2.2.1
    omega
  | succ m ih =>
    intro j M a o i o6 e1 e2 e3 hV hR
    rw [xun] at hR
    -- behind a block
    have r166 : ∀ (bk : Int) (M3 : Nat → mq_C) (la : Int32) (a3 : Nat) (o3 : List Int), (bk = 0 ∨ bk = 1) → (la.toInt = 0 ∨ la.toInt = 1) → xV pk f E bk M0 M3 a3 o3 → (bk = 1 → R = none) → (bk = 0 → j + 1 ≤ a3 ∧ (if la.toInt = 1 then (if E < a3 + 8 then some o3 else none) else xun E (fun i => xB M0 pk (8 * f + i)) m a3 o3) = R) → mq_R mq_PP (d + 4) 92 166 [some (.ref 9), some (.int x1), some (.ref pk), some (.int x3), some (.int x4), some (.int i), some (.int la)] [] (M3, z, u) Q := by
      intro bk M3 la a3 o3 hbk hla hV3 k1 k0
      have vA : hv M3 9 3 = 8 * (f : Int) + (a3 : Int) := hV3.2.1
      have vE : hv M3 9 4 = 8 * (f : Int) + (E : Int) := hV3.2.2.1
      refine he_aload (n := 167) (i := 0) (by decide +kernel) rfl ?_
      refine hb_gfd (n := 170) (ci := 8) (j := 5) (ns := [1074, 28]) hV3.1.1 (by decide +kernel) rfl rfl (by decide) rfl ?_
      intro v167 hv167 lv167 uv167
      have q167 : v167.toInt = bk := by rw [← hv167]; exact hV3.2.2.2.1
      by_cases h170 : v167.toInt = 0
      · obtain rfl : bk = 0 := by omega
        obtain ⟨g1, g2⟩ := k0 rfl
        refine he_ifne_f (n := 173) (t := 178) (by decide +kernel) (by omega) ?_
        refine he_iload (n := 175) (i := 6) (by decide +kernel) rfl ?_
        by_cases h175 : la.toInt = 0
        · rw [if_neg (by omega)] at g2
          refine he_ifeq_t (n := 178) (t := 205) (by decide +kernel) (by omega) ?_
          refine he_iinc (n := 208) (i := 5) (c := 1) (L' := fun v => [some (.ref (9)), some (.int x1), some (.ref (pk)), some (.int x3), some (.int x4), some (.int v), some (.int la)]) (by decide +kernel) (by decide) rfl (fun _ => rfl) (by omega) (by omega) ?_
          intro i205 hi205
          refine he_goto (t := 63) (by decide +kernel) ?_
          exact ih (j + 1) M3 a3 o3 _ _ (by omega) (by omega) g1 hV3 g2
        · rw [if_pos (by omega)] at g2
          refine he_ifeq_f (n := 178) (t := 205) (by decide +kernel) (by omega) ?_
          refine he_aload (n := 179) (i := 0) (by decide +kernel) rfl ?_
          refine hb_gfd (n := 182) (ci := 8) (j := 5) (ns := [1074, 28]) hV3.1.1 (by decide +kernel) rfl rfl (by decide) rfl ?_
          intro v179 hv179 lv179 uv179
          have q179 : v179.toInt = 0 := by rw [← hv179]; exact hV3.2.2.2.1
          refine he_ifne_f (n := 185) (t := 203) (by decide +kernel) (by omega) ?_
          refine he_aload (n := 186) (i := 0) (by decide +kernel) rfl ?_
          refine hb_gfd (n := 189) (ci := 8) (j := 4) (ns := [1073, 25]) hV3.1.1 (by decide +kernel) rfl rfl (by decide) rfl ?_
          intro v186 hv186 lv186 uv186
          refine he_aload (n := 190) (i := 0) (by decide +kernel) rfl ?_
          refine hb_gfd (n := 193) (ci := 8) (j := 3) (ns := [1072, 22]) hV3.1.1 (by decide +kernel) rfl rfl (by decide) rfl ?_
          intro v190 hv190 lv190 uv190
          refine he_isub (n := 194) (by decide +kernel) (by omega) (by omega) ?_
          intro v193 hv193
          refine he_iconst (n := 196) (c := 8) (by decide +kernel) (by decide) ?_
          intro c194 hc194
          have q186 : v186.toInt = 8 * (f : Int) + (E : Int) := by rw [← hv186]; exact vE
          have q190 : v190.toInt = 8 * (f : Int) + (a3 : Int) := by rw [← hv190]; exact vA
          by_cases h196 : E < a3 + 8
          · rw [if_pos h196] at g2
            refine he_cmpge_f (n := 199) (t := 203) (by decide +kernel) (by omega) ?_
            refine he_iconst (n := 200) (c := 1) (by decide +kernel) (by decide) ?_
            intro c199 hc199
            refine he_goto (t := 204) (by decide +kernel) ?_
            refine he_retz (by decide +kernel) (by omega) ?_
            exact K M3 _ hV3.1.1 hV3.1.2.1 (fun o' ho => by rw [← g2] at ho; cases ho; exact ⟨by omega, hV3.2.2.2.2.2.1, hV3.2.2.2.2.2.2⟩) (fun h => by rw [← g2] at h; cases h)
          · rw [if_neg h196] at g2
            refine he_cmpge_t (n := 199) (t := 203) (by decide +kernel) (by omega) ?_
            refine he_iconst (n := 204) (c := 0) (by decide +kernel) (by decide) ?_
            intro c203 hc203
            refine he_retz (by decide +kernel) (by omega) ?_
            exact K M3 _ hV3.1.1 hV3.1.2.1 (fun o' ho => by rw [← g2] at ho; cases ho) (fun _ => by omega)
      · obtain rfl : bk = 1 := by omega
        refine he_ifne_t (n := 173) (t := 178) (by decide +kernel) (by omega) ?_
        refine he_aload (n := 179) (i := 0) (by decide +kernel) rfl ?_
        refine hb_gfd (n := 182) (ci := 8) (j := 5) (ns := [1074, 28]) hV3.1.1 (by decide +kernel) rfl rfl (by decide) rfl ?_
        intro v179 hv179 lv179 uv179
        have q179 : v179.toInt = 1 := by rw [← hv179]; exact hV3.2.2.2.1
        refine he_ifne_t (n := 185) (t := 203) (by decide +kernel) (by omega) ?_
        refine he_iconst (n := 204) (c := 0) (by decide +kernel) (by decide) ?_
        intro c203 hc203
        refine he_retz (by decide +kernel) (by omega) ?_
        exact K M3 _ hV3.1.1 hV3.1.2.1 (fun o' ho => by rw [k1 rfl] at ho; cases ho) (fun _ => by omega)
    have r92 : ∀ (bk : Int) (M2 : Nat → mq_C) (la ty : Int32) (a2 : Nat), (bk = 0 ∨ bk = 1) → (la.toInt = 0 ∨ la.toInt = 1) → 0 ≤ ty.toInt → ty.toInt ≤ 3 → (bk = 1 → ty.toInt = 0 ∧ R = none) → xV pk f E bk M0 M2 a2 o → (bk = 0 → j + 1 ≤ a2 ∧ (match xblk E (fun i => xB M0 pk (8 * f + i)) ty.toInt a2 o with
        | none => none
        | some (a1, o1) => if la.toInt = 1 then (if E < a1 + 8 then some o1 else none) else xun E (fun i => xB M0 pk (8 * f + i)) m a1 o1) = R) → mq_R mq_PP (d + 4) 92 92 [some (.ref 9), some (.int x1), some (.ref pk), some (.int x3), some (.int x4), some (.int i), some (.int la)] [.int ty] (M2, z, u) Q := by
      intro bk M2 la ty a2 hbk hla t0 t3 k1 hV2 k0
      have hTL2 : xT M2 24 288 xfL := ⟨fun b h1 h2 => by rw [hb_vc (hV2.1.2.1 25 (by decide))]; exact hTL.1 b h1 h2, fun i h1 h2 => by rw [hb_vc (hV2.1.2.1 27 (by decide))]; exact hTL.2 i h1 h2⟩
      have hTD2 : xT M2 28 32 xfD := ⟨fun b h1 h2 => by rw [hb_vc (hV2.1.2.1 29 (by decide))]; exact hTD.1 b h1 h2, fun i h1 h2 => by rw [hb_vc (hV2.1.2.1 31 (by decide))]; exact hTD.2 i h1 h2⟩
      have s0 : ty.toInt = 0 → mq_R mq_PP (d + 4) 92 120 [some (.ref 9), some (.int x1), some (.ref pk), some (.int x3), some (.int x4), some (.int i), some (.int la)] [] (M2, z, u) Q := by
        intro e
        refine he_aload (n := 121) (i := 0) (by decide +kernel) rfl ?_
        refine he_v0 (n := 124) (j := 96) (ci := 8) (mx := 3) (ns := [2154, 2156, 2, 71]) (by decide +kernel) ((hb_kd (a := 9) hV2.1.1 rfl).trans rfl) (by show 0 ≤ 8; omega) (by show 1 ≤ 3; omega) ?_
        rw [mq_e96]
        refine xj_copyBlock hp he hl h9 hE8 hV2 hbk ?_ ?_
        · intro M3 a3 o3 e0 hx hV3 hF3
          show mq_R mq_PP (d + 4) 92 124 _ [] (M3, z, u) Q
          refine he_goto (t := 166) (by decide +kernel) ?_
          refine r166 0 M3 la a3 o3 (.inl rfl) hla hV3 (fun h => absurd h (by decide)) (fun _ => ?_)
          obtain ⟨g1, g2⟩ := k0 e0
          have hb : xblk E (fun i => xB M0 pk (8 * f + i)) ty.toInt a2 o = some (a3, o3) := by unfold xblk; rw [if_pos e]; exact hx
          rw [hb] at g2
          exact ⟨by have := xst_m hx; omega, g2⟩
        · intro M3 a3 hw hV3 hF3
          show mq_R mq_PP (d + 4) 92 124 _ [] (M3, z, u) Q
          refine he_goto (t := 166) (by decide +kernel) ?_
          refine r166 1 M3 la a3 o (.inr rfl) hla hV3 (fun _ => ?_) (fun h => absurd h (by decide))
          rcases hbk with e0 | e0
          · obtain ⟨g1, g2⟩ := k0 e0
            have hb : xblk E (fun i => xB M0 pk (8 * f + i)) ty.toInt a2 o = none := by
              unfold xblk
              rw [if_pos e]
              rcases hw with h | h
              · exact absurd (e0.symm.trans h) (by decide)
              · exact h
            rw [hb] at g2
            exact g2.symm
          · exact (k1 e0).2
      have s1 : ty.toInt = 1 → mq_R mq_PP (d + 4) 92 127 [some (.ref 9), some (.int x1), some (.ref pk), some (.int x3), some (.int x4), some (.int i), some (.int la)] [] (M2, z, u) Q := by
        intro e
        obtain rfl : bk = 0 := by
          rcases hbk with h | h
          · exact h
          · have := (k1 h).1
            omega
        obtain ⟨g1, g2⟩ := k0 rfl
        refine he_aload (n := 128) (i := 0) (by decide +kernel) rfl ?_
        refine he_aload (n := 129) (i := 0) (by decide +kernel) rfl ?_
        refine he_getr (n := 132) (ci := 8) (j := 10) (ns := [1079, 50]) (b := 24) hV2.1.1 (by decide +kernel) rfl rfl (by decide +kernel) ?_
        refine he_aload (n := 133) (i := 0) (by decide +kernel) rfl ?_
        refine he_getr (n := 136) (ci := 8) (j := 11) (ns := [1080, 53]) (b := 28) hV2.1.1 (by decide +kernel) rfl rfl (by decide +kernel) ?_
        refine he_v2 (n := 139) (j := 101) (ci := 8) (mx := 6) (ns := [2159, 2161, 3, 74]) (by decide +kernel) ((hb_kd (a := 9) hV2.1.1 rfl).trans rfl) (by show 0 ≤ 8; omega) (by show 3 ≤ 6; omega) ?_
        rw [mq_e101]
        refine xj_readLetters24 hp he hl h9 (by decide) (by decide) hV2 hTL2 hTD2 ?_ ?_
        · intro M3 a3 o3 hx hV3 hF3
          show mq_R mq_PP (d + 4) 92 139 _ [] (M3, z, u) Q
          refine he_goto (t := 166) (by decide +kernel) ?_
          have hb : xblk E (fun i => xB M0 pk (8 * f + i)) ty.toInt a2 o = some (a3, o3) := by unfold xblk; rw [if_neg (by omega), if_pos e]; exact hx
          rw [hb] at g2
          exact r166 0 M3 la a3 o3 (.inl rfl) hla hV3 (fun h => absurd h (by decide)) (fun _ => ⟨by have := xlt_m hx; omega, g2⟩)
        · intro M3 a3 o3 hx hV3 hF3
          show mq_R mq_PP (d + 4) 92 139 _ [] (M3, z, u) Q
          refine he_goto (t := 166) (by decide +kernel) ?_
          have hb : xblk E (fun i => xB M0 pk (8 * f + i)) ty.toInt a2 o = none := by unfold xblk; rw [if_neg (by omega), if_pos e]; exact hx
          rw [hb] at g2
          exact r166 1 M3 la a3 o3 (.inr rfl) hla hV3 (fun _ => g2.symm) (fun h => absurd h (by decide))
      have s2 : ty.toInt = 2 → mq_R mq_PP (d + 4) 92 142 [some (.ref 9), some (.int x1), some (.ref pk), some (.int x3), some (.int x4), some (.int i), some (.int la)] [] (M2, z, u) Q := by
        intro e
        obtain rfl : bk = 0 := by
          rcases hbk with h | h
          · exact h
          · have := (k1 h).1
            omega
        obtain ⟨g1, g2⟩ := k0 rfl
        refine he_aload (n := 143) (i := 0) (by decide +kernel) rfl ?_
        refine he_v0 (n := 146) (j := 97) (ci := 8) (mx := 3) (ns := [2183, 2185, 9, 78]) (by decide +kernel) ((hb_kd (a := 9) hV2.1.1 rfl).trans rfl) (by show 0 ≤ 8; omega) (by show 1 ≤ 3; omega) ?_
        rw [mq_e97]
        refine xj_readCodes hp he hl h9 hMO hV2 ?_ ?_
        · intro M3 a3 l nl nd hx n1 n2 hV3 hT16 hT20 hF3
          show mq_R mq_PP (d + 4) 92 146 _ [] (M3, z, u) Q
          refine he_aload (n := 147) (i := 0) (by decide +kernel) rfl ?_
          refine he_aload (n := 148) (i := 0) (by decide +kernel) rfl ?_
          refine he_getr (n := 151) (ci := 8) (j := 8) (ns := [1077, 44]) (b := 16) hV3.1.1 (by decide +kernel) rfl rfl (by decide +kernel) ?_
          refine he_aload (n := 152) (i := 0) (by decide +kernel) rfl ?_
          refine he_getr (n := 155) (ci := 8) (j := 9) (ns := [1078, 47]) (b := 20) hV3.1.1 (by decide +kernel) rfl rfl (by decide +kernel) ?_
          refine he_v2 (n := 158) (j := 101) (ci := 8) (mx := 6) (ns := [2159, 2161, 3, 74]) (by decide +kernel) ((hb_kd (a := 9) hV3.1.1 rfl).trans rfl) (by show 0 ≤ 8; omega) (by show 3 ≤ 6; omega) ?_
          rw [mq_e101]
          refine xj_readLetters16 hp he hl h9 n1 n2 hV3 hT16 hT20 ?_ ?_
          · intro M4 a4 o4 hx4 hV4 hF4
            show mq_R mq_PP (d + 4) 92 158 _ [] (M4, z, u) Q
            refine he_goto (t := 166) (by decide +kernel) ?_
            have hb : xblk E (fun i => xB M0 pk (8 * f + i)) ty.toInt a2 o = some (a4, o4) := by unfold xblk; rw [if_neg (by omega), if_neg (by omega), if_pos e, hx]; exact hx4
            rw [hb] at g2
            exact r166 0 M4 la a4 o4 (.inl rfl) hla hV4 (fun h => absurd h (by decide)) (fun _ => ⟨by have := xlt_m hx4; have := xcd_m hx; omega, g2⟩)
          · intro M4 a4 o4 hx4 hV4 hF4
            show mq_R mq_PP (d + 4) 92 158 _ [] (M4, z, u) Q
            refine he_goto (t := 166) (by decide +kernel) ?_
            have hb : xblk E (fun i => xB M0 pk (8 * f + i)) ty.toInt a2 o = none := by unfold xblk; rw [if_neg (by omega), if_neg (by omega), if_pos e, hx]; exact hx4
            rw [hb] at g2
            exact r166 1 M4 la a4 o4 (.inr rfl) hla hV4 (fun _ => g2.symm) (fun h => absurd h (by decide))
        · intro M3 a3 hx hV3 hF3
          show mq_R mq_PP (d + 4) 92 146 _ [] (M3, z, u) Q
          refine he_aload (n := 147) (i := 0) (by decide +kernel) rfl ?_
          refine he_aload (n := 148) (i := 0) (by decide +kernel) rfl ?_
          refine he_getr (n := 151) (ci := 8) (j := 8) (ns := [1077, 44]) (b := 16) hV3.1.1 (by decide +kernel) rfl rfl (by decide +kernel) ?_
          refine he_aload (n := 152) (i := 0) (by decide +kernel) rfl ?_
          refine he_getr (n := 155) (ci := 8) (j := 9) (ns := [1078, 47]) (b := 20) hV3.1.1 (by decide +kernel) rfl rfl (by decide +kernel) ?_
          refine he_v2 (n := 158) (j := 101) (ci := 8) (mx := 6) (ns := [2159, 2161, 3, 74]) (by decide +kernel) ((hb_kd (a := 9) hV3.1.1 rfl).trans rfl) (by show 0 ≤ 8; omega) (by show 3 ≤ 6; omega) ?_
          rw [mq_e101]
          refine xj_rlb16 hV3 ?_
          show mq_R mq_PP (d + 4) 92 158 _ [] (M3, z, u) Q
          refine he_goto (t := 166) (by decide +kernel) ?_
          have hb : xblk E (fun i => xB M0 pk (8 * f + i)) ty.toInt a2 o = none := by unfold xblk; rw [if_neg (by omega), if_neg (by omega), if_pos e, hx]
          rw [hb] at g2
          exact r166 1 M3 la a3 o (.inr rfl) hla hV3 (fun _ => g2.symm) (fun h => absurd h (by decide))
      have s3 : ty.toInt = 3 → mq_R mq_PP (d + 4) 92 161 [some (.ref 9), some (.int x1), some (.ref pk), some (.int x3), some (.int x4), some (.int i), some (.int la)] [] (M2, z, u) Q := by
        intro e
        obtain rfl : bk = 0 := by
          rcases hbk with h | h
          · exact h
          · have := (k1 h).1
            omega
        obtain ⟨g1, g2⟩ := k0 rfl
        refine he_aload (n := 162) (i := 0) (by decide +kernel) rfl ?_
        refine he_iconst (n := 163) (c := 1) (by decide +kernel) (by decide) ?_
        intro c162 hc162
        refine hb_pfd (n := 166) (ci := 8) (j := 5) (t := 1) (ns := [1074, 28]) hV2.1.1 (by decide +kernel) rfl rfl (by decide) (.inr ⟨rfl, he_01 (by omega)⟩) ?_
        generalize hM1 : hb_set M2 9 5 c162 = M1
        have hm1 : mz_sh mz_GG M1 := by rw [← hM1]; exact hb_set_sh hV2.1.1 rfl rfl (by omega) (by omega)
        have eM1 : ∀ b j, b ≠ 9 ∨ j ≠ 5 → hv M1 b j = hv M2 b j := by intro b j h; rw [← hM1]; exact hb_set_n h
        have sM1 : hv M1 9 5 = c162.toInt := by rw [← hM1]; exact hb_set_v hV2.1.1 rfl (by decide)
        have wM1 : ∀ b, b ≠ 9 → M1 b = M2 b := by intro b h; rw [← hM1]; exact hb_set_c h
        have hb : xblk E (fun i => xB M0 pk (8 * f + i)) ty.toInt a2 o = none := by unfold xblk; rw [if_neg (by omega), if_neg (by omega), if_neg (by omega)]
        rw [hb] at g2
        exact r166 1 M1 la a2 o (.inr rfl) hla (xV_br hV2 hM1 hm1 (by omega)) (fun _ => g2.symm) (fun h => absurd h (by decide))
      rw [mq_R_at (o := (51, [120, 127, 142, 161], [0, 1, 2])) (by decide +kernel), mq_x_switch (n := 0)]
      simp only [mq_swR]
      exact ⟨s0, fun n0 => ⟨s1, fun n1 => ⟨s2, fun n2 => s3 (by omega)⟩⟩⟩
    refine he_iload (n := 65) (i := 5) (by decide +kernel) rfl ?_
    refine he_iconst (n := 68) (c := 1921) (by decide +kernel) (by decide) ?_
    intro c65 hc65
    refine he_cmpge_f (n := 71) (t := 211) (by decide +kernel) (by omega) ?_
    refine he_aload (n := 72) (i := 0) (by decide +kernel) rfl ?_
    refine he_iconst (n := 73) (c := 1) (by decide +kernel) (by decide) ?_
    intro c72 hc72
    refine he_v1 (n := 76) (j := 94) (ci := 8) (mx := 4) (ns := [2150, 2152, 1, 67]) (by decide +kernel) ((hb_kd (a := 9) hV.1.1 rfl).trans rfl) (by show 0 ≤ 8; omega) (by show 2 ≤ 4; omega) ?_
    rw [mq_e94]
    have r76 : ∀ (bk : Int) (M1 : Nat → mq_C) (r1 : Int32) (a1 : Nat), (bk = 0 ∨ bk = 1) → (r1.toInt = 0 ∨ r1.toInt = 1) → xV pk f E bk M0 M1 a1 o → (bk = 1 → R = none ∧ ¬ a1 + 2 ≤ E) → (bk = 0 → a1 = a + 1 ∧ r1.toInt = xb (fun i => xB M0 pk (8 * f + i)) a 1) → mq_R mq_PP (d + 4) 92 76 [some (.ref 9), some (.int x1), some (.ref pk), some (.int x3), some (.int x4), some (.int i), o6] [.int r1] (M1, z, u) Q := by
      intro bk M1 r1 a1 hbk h01 hV1 k1 k0
      have r85 : ∀ la : Int32, la.toInt = r1.toInt → mq_R mq_PP (d + 4) 92 85 [some (.ref 9), some (.int x1), some (.ref pk), some (.int x3), some (.int x4), some (.int i), o6] [.int la] (M1, z, u) Q := by
        intro la hla
        refine he_istore (n := 87) (i := 6) (by decide +kernel) rfl ?_
        refine he_aload (n := 88) (i := 0) (by decide +kernel) rfl ?_
        refine he_iconst (n := 89) (c := 2) (by decide +kernel) (by decide) ?_
        intro c88 hc88
        refine he_v1 (n := 92) (j := 94) (ci := 8) (mx := 4) (ns := [2150, 2152, 1, 67]) (by decide +kernel) ((hb_kd (a := 9) hV1.1.1 rfl).trans rfl) (by show 0 ≤ 8; omega) (by show 2 ≤ 4; omega) ?_
        rw [mq_e94]
        refine xj_take (k := 2) hp he hl h9 (by decide) (by omega) hV1 ?_ ?_
        · intro M2 ty hE hV2 hr hF2
          have hb := xb_b (B := (fun i => xB M0 pk (8 * f + i))) (fun i => xB_01 _) a1 2
          show mq_R mq_PP (d + 4) 92 92 _ [.int ty] (M2, z, u) Q
          refine r92 bk M2 la ty (a1 + 2) hbk (by omega) (by omega) (by omega) (fun e => absurd hE (k1 e).2) hV2 (fun e => ?_)
          obtain ⟨g1, g2⟩ := k0 e
          rw [if_pos (by omega)] at hR
          rw [hr, hla, g2, g1]
          exact ⟨by omega, hR⟩
        · intro M2 ty hE hV2 hr hF2
          show mq_R mq_PP (d + 4) 92 92 _ [.int ty] (M2, z, u) Q
          refine r92 1 M2 la ty a1 (.inr rfl) (by omega) (by omega) (by omega) (fun _ => ⟨hr, ?_⟩) hV2 (fun h => absurd h (by decide))
          rcases hbk with e | e
          · obtain ⟨g1, g2⟩ := k0 e
            rw [if_neg (by omega)] at hR
            exact hR.symm
          · exact (k1 e).1
      refine he_iconst (n := 77) (c := 1) (by decide +kernel) (by decide) ?_
      intro c76 hc76
      by_cases h77 : r1.toInt = 1
      · skip
        refine he_cmpne_f (n := 80) (t := 84) (by decide +kernel) (by omega) ?_
        refine he_iconst (n := 81) (c := 1) (by decide +kernel) (by decide) ?_
        intro c80 hc80
        refine he_goto (t := 85) (by decide +kernel) ?_
        exact r85 _ (by omega)
      · skip
        refine he_cmpne_t (n := 80) (t := 84) (by decide +kernel) (by omega) ?_
        refine he_iconst (n := 85) (c := 0) (by decide +kernel) (by decide) ?_
        intro c84 hc84
        exact r85 _ (by omega)
    refine xj_take (k := 1) hp he hl h9 (by decide) (by omega) hV ?_ ?_
    · intro M1 r1 hE hV1 hr hF1
      have hb := xb_b (B := (fun i => xB M0 pk (8 * f + i))) (fun i => xB_01 _) a 1
      show mq_R mq_PP (d + 4) 92 76 _ [.int r1] (M1, z, u) Q
      exact r76 0 M1 r1 (a + 1) (.inl rfl) (by omega) hV1 (fun h => absurd h (by decide)) (fun _ => ⟨rfl, hr⟩)
    · intro M1 r1 hE hV1 hr hF1
      show mq_R mq_PP (d + 4) 92 76 _ [.int r1] (M1, z, u) Q
      rw [if_neg (by omega)] at hR
      exact r76 1 M1 r1 a (.inr rfl) (by omega) hV1 (fun _ => ⟨hR.symm, by omega⟩) (fun h => absurd h (by decide))
theorem xe_pkv {M : Nat → mq_C} {pk b j : Nat} (h : b ≠ 9 ∨ j ≠ 2) : hv (va_up M 9 (8, (M 9).2.set 2 (.ref pk))) b j = hv M b j := by
  by_cases e : b = 9
  · subst e
    have hj : j ≠ 2 := by omega
    show hb_w mz_GG (((va_up M 9 (8, (M 9).2.set 2 (.ref pk))) 9).2[j]?) = hb_w mz_GG ((M 9).2[j]?)
    rw [va_up_self]
    show hb_w mz_GG (((M 9).2.set 2 (.ref pk))[j]?) = _
    rw [List.getElem?_set_ne (by omega)]
  · exact hb_vc (va_up_ne _ _ e) j
theorem xj_unpack {d z u pk f cnt ln : Nat} {M : Nat → mq_C} {Q : (Option Value ⊕ Nat) → mq_S → Prop} {x1 x3 x4 : Int32} (hm : mz_sh mz_GG M) (hp : mz_GG.1 pk = some (64, ln, 1, [(0, 0, 255)])) (hg : pk ∈ [10, 34, 48, 59, 70, 81]) (hl : ln ≤ 240) (h9 : pk < 9 ∨ 24 ≤ pk) (h3 : x3.toInt = (f : Int)) (h4 : x4.toInt = (cnt : Int)) (hfc : f + cnt ≤ ln) (hMO : M 1 = (60, mq_MO)) (hTL : xT M 24 288 xfL) (hTD : xT M 28 32 xfD)
    (K : ∀ (M' : Nat → mq_C) (r : Int32), mz_sh mz_GG M' → (∀ b, b < 9 ∨ 24 ≤ b → M' b = M b) → (∀ o', xop x1.toInt (8 * cnt) (fun i => xB M pk (8 * f + i)) = some o' → r.toInt = 1 ∧ hv M' 9 1 = (o'.length : Int) ∧ ∀ i, i < o'.length → hv M' 10 i = o'.getD i 0) → (xop x1.toInt (8 * cnt) (fun i => xB M pk (8 * f + i)) = none → r.toInt = 0) → Q (.inl (some (.int r))) (M', z, u)) : mq_R mq_PP (d + 4) 92 0 [some (.ref 9), some (.int x1), some (.ref pk), some (.int x3), some (.int x4), none, none] [] (M, z, u) Q := by
  have he : 8 * f + 8 * cnt ≤ 8 * ln := by omega
  refine he_aload (n := 1) (i := 0) (by decide +kernel) rfl ?_
  refine he_aload (n := 2) (i := 2) (by decide +kernel) rfl ?_
  refine xe_putr (n := 5) (ci := 8) (j := 2) (ns := [1071, 19]) (by decide +kernel) ((hb_kd (a := 9) hm rfl).trans rfl) (by have := (hm 9 _ rfl).2.1; rw [this]; decide) ?_
  generalize hMp : va_up M 9 (8, (M 9).2.set 2 (.ref pk)) = Mp
  have hmp : mz_sh mz_GG Mp := by rw [← hMp]; exact xe_pk hm hg
  have ep : ∀ b j, b ≠ 9 ∨ j ≠ 2 → hv Mp b j = hv M b j := by intro b j h; rw [← hMp]; exact xe_pkv h
  have hUp : xU pk M Mp := by
    refine ⟨hmp, fun b hb => by rw [← hMp, va_up_ne _ _ (by omega)], ?_⟩
    rw [← hMp, va_up_self]
    show ((M 9).2.set 2 (.ref pk))[2]? = _
    rw [List.getElem?_set_self (by have := (hm 9 _ rfl).2.1; rw [this]; decide)]
  refine he_aload (n := 6) (i := 0) (by decide +kernel) rfl ?_
  refine he_iconst (n := 8) (c := 8) (by decide +kernel) (by decide) ?_
  intro c6 hc6
  refine he_iload (n := 9) (i := 3) (by decide +kernel) rfl ?_
  refine he_imul (n := 10) (p := 8 * x3.toInt) (by decide +kernel) (by rw [hc6]) (by omega) (by omega) ?_
  intro v9 hv9
  refine hb_pfd (n := 13) (ci := 8) (j := 3) (t := 0) (ns := [1072, 22]) hmp (by decide +kernel) rfl rfl (by decide) (.inl rfl) ?_
  generalize hM1 : hb_set Mp 9 3 v9 = M1
  have hm1 : mz_sh mz_GG M1 := by rw [← hM1]; exact hb_set_sh hmp rfl rfl (by omega) (by omega)
  have eM1 : ∀ b j, b ≠ 9 ∨ j ≠ 3 → hv M1 b j = hv Mp b j := by intro b j h; rw [← hM1]; exact hb_set_n h
  have sM1 : hv M1 9 3 = v9.toInt := by rw [← hM1]; exact hb_set_v hmp rfl (by decide)
  have wM1 : ∀ b, b ≠ 9 → M1 b = Mp b := by intro b h; rw [← hM1]; exact hb_set_c h
  refine he_aload (n := 14) (i := 0) (by decide +kernel) rfl ?_
  refine he_aload (n := 15) (i := 0) (by decide +kernel) rfl ?_
  refine hb_gfd (n := 18) (ci := 8) (j := 3) (ns := [1072, 22]) hm1 (by decide +kernel) rfl rfl (by decide) rfl ?_
  intro v15 hv15 lv15 uv15
  have q15 : v15.toInt = 8 * (f : Int) := by rw [← hv15, sM1]; omega
  refine he_iconst (n := 20) (c := 8) (by decide +kernel) (by decide) ?_
  intro c18 hc18
  refine he_iload (n := 22) (i := 4) (by decide +kernel) rfl ?_
  refine he_imul (n := 23) (p := 8 * x4.toInt) (by decide +kernel) (by rw [hc18]) (by omega) (by omega) ?_
  intro v22 hv22
  refine he_iadd (n := 24) (by decide +kernel) (by omega) (by omega) ?_
  intro v23 hv23
  refine hb_pfd (n := 27) (ci := 8) (j := 4) (t := 0) (ns := [1073, 25]) hm1 (by decide +kernel) rfl rfl (by decide) (.inl rfl) ?_
  generalize hM2 : hb_set M1 9 4 v23 = M2
  have hm2 : mz_sh mz_GG M2 := by rw [← hM2]; exact hb_set_sh hm1 rfl rfl (by omega) (by omega)
  have eM2 : ∀ b j, b ≠ 9 ∨ j ≠ 4 → hv M2 b j = hv M1 b j := by intro b j h; rw [← hM2]; exact hb_set_n h
  have sM2 : hv M2 9 4 = v23.toInt := by rw [← hM2]; exact hb_set_v hm1 rfl (by decide)
  have wM2 : ∀ b, b ≠ 9 → M2 b = M1 b := by intro b h; rw [← hM2]; exact hb_set_c h
  refine he_aload (n := 28) (i := 0) (by decide +kernel) rfl ?_
  refine he_iconst (n := 29) (c := 0) (by decide +kernel) (by decide) ?_
  intro c28 hc28
  refine hb_pfd (n := 32) (ci := 8) (j := 1) (t := 0) (ns := [1068, 15]) hm2 (by decide +kernel) rfl rfl (by decide) (.inl rfl) ?_
  generalize hM3 : hb_set M2 9 1 c28 = M3
  have hm3 : mz_sh mz_GG M3 := by rw [← hM3]; exact hb_set_sh hm2 rfl rfl (by omega) (by omega)
  have eM3 : ∀ b j, b ≠ 9 ∨ j ≠ 1 → hv M3 b j = hv M2 b j := by intro b j h; rw [← hM3]; exact hb_set_n h
  have sM3 : hv M3 9 1 = c28.toInt := by rw [← hM3]; exact hb_set_v hm2 rfl (by decide)
  have wM3 : ∀ b, b ≠ 9 → M3 b = M2 b := by intro b h; rw [← hM3]; exact hb_set_c h
  refine he_aload (n := 33) (i := 0) (by decide +kernel) rfl ?_
  refine he_iconst (n := 34) (c := 0) (by decide +kernel) (by decide) ?_
  intro c33 hc33
  refine hb_pfd (n := 37) (ci := 8) (j := 5) (t := 1) (ns := [1074, 28]) hm3 (by decide +kernel) rfl rfl (by decide) (.inr ⟨rfl, he_01 (by omega)⟩) ?_
  generalize hM4 : hb_set M3 9 5 c33 = M4
  have hm4 : mz_sh mz_GG M4 := by rw [← hM4]; exact hb_set_sh hm3 rfl rfl (by omega) (by omega)
  have eM4 : ∀ b j, b ≠ 9 ∨ j ≠ 5 → hv M4 b j = hv M3 b j := by intro b j h; rw [← hM4]; exact hb_set_n h
  have sM4 : hv M4 9 5 = c33.toInt := by rw [← hM4]; exact hb_set_v hm3 rfl (by decide)
  have wM4 : ∀ b, b ≠ 9 → M4 b = M3 b := by intro b h; rw [← hM4]; exact hb_set_c h
  have hU4 : xU pk M M4 := xU_set (xU_set (xU_set (xU_set hUp hM1 hm1 (by decide)) hM2 hm2 (by decide)) hM3 hm3 (by decide)) hM4 hm4 (by decide)
  have hV : xV pk f (8 * cnt) 0 M M4 0 [] := by
    refine ⟨hU4, ?_, ?_, ?_, Nat.zero_le _, ?_, fun i hi => absurd hi (Nat.not_lt_zero i)⟩
    · rw [eM4 _ _ (.inr (by decide)), eM3 _ _ (.inr (by decide)), eM2 _ _ (.inr (by decide)), sM1]; omega
    · rw [eM4 _ _ (.inr (by decide)), eM3 _ _ (.inr (by decide)), sM2]; omega
    · rw [sM4]; omega
    · rw [eM4 _ _ (.inr (by decide)), sM3]; show _ = (0 : Int); omega
  refine he_iload (n := 38) (i := 1) (by decide +kernel) rfl ?_
  by_cases h38 : x1.toInt = 0
  · skip
    refine he_ifne_f (n := 41) (t := 60) (by decide +kernel) (by omega) ?_
    refine he_aload (n := 42) (i := 0) (by decide +kernel) rfl ?_
    refine he_iload (n := 44) (i := 4) (by decide +kernel) rfl ?_
    refine he_v1 (n := 47) (j := 95) (ci := 8) (mx := 3) (ns := [2146, 2148, 0, 64]) (by decide +kernel) ((hb_kd (a := 9) hm4 rfl).trans rfl) (by show 0 ≤ 8; omega) (by show 2 ≤ 3; omega) ?_
    rw [mq_e95]
    have hop : xop x1.toInt (8 * cnt) (fun i => xB M pk (8 * f + i)) = if cnt ≤ 200 then some (xby (fun i => xB M pk (8 * f + i)) cnt 0 []) else none := by
      unfold xop
      rw [if_pos h38, show 8 * cnt / 8 = cnt by omega]
    rw [hop] at K
    have hV0 : xV pk f (8 * cnt) 0 M M4 (8 * 0) [] := hV
    refine xj_copyBytes (q := 0) (n := cnt) hp he hl h9 hV0 (by omega) (by omega) ?_ ?_
    · intro M5 c1 c2 hV5 hF5
      show mq_R mq_PP (d + 4) 92 47 _ [] (M5, z, u) Q
      refine he_aload (n := 48) (i := 0) (by decide +kernel) rfl ?_
      refine hb_gfd (n := 51) (ci := 8) (j := 5) (ns := [1074, 28]) hV5.1.1 (by decide +kernel) rfl rfl (by decide) rfl ?_
      intro v48 hv48 lv48 uv48
      have q48 : v48.toInt = 0 := by rw [← hv48]; exact hV5.2.2.2.1
      refine he_ifne_f (n := 54) (t := 58) (by decide +kernel) (by omega) ?_
      refine he_iconst (n := 55) (c := 1) (by decide +kernel) (by decide) ?_
      intro c54 hc54
      refine he_goto (t := 59) (by decide +kernel) ?_
      refine he_retz (by decide +kernel) (by omega) ?_
      have c1' : cnt ≤ 200 := c1
      rw [if_pos c1'] at K
      exact K M5 _ hV5.1.1 hV5.1.2.1 (fun o' ho => by cases ho; exact ⟨by omega, hV5.2.2.2.2.2.1, hV5.2.2.2.2.2.2⟩) (fun h => by cases h)
    · intro M5 c1 hV5 hF5
      show mq_R mq_PP (d + 4) 92 47 _ [] (M5, z, u) Q
      refine he_aload (n := 48) (i := 0) (by decide +kernel) rfl ?_
      refine hb_gfd (n := 51) (ci := 8) (j := 5) (ns := [1074, 28]) hV5.1.1 (by decide +kernel) rfl rfl (by decide) rfl ?_
      intro v48 hv48 lv48 uv48
      have q48 : v48.toInt = 1 := by rw [← hv48]; exact hV5.2.2.2.1
      refine he_ifne_t (n := 54) (t := 58) (by decide +kernel) (by omega) ?_
      refine he_iconst (n := 59) (c := 0) (by decide +kernel) (by decide) ?_
      intro c58 hc58
      refine he_retz (by decide +kernel) (by omega) ?_
      have c1' : ¬ cnt ≤ 200 := by
        have : (200 - ([] : List Int).length < cnt ∨ 8 * cnt < 8 * 0 + 8 * cnt) := c1
        have e0 : ([] : List Int).length = 0 := rfl
        omega
      rw [if_neg c1'] at K
      exact K M5 _ hV5.1.1 hV5.1.2.1 (fun o' ho => by cases ho) (fun _ => by omega)
  · skip
    refine he_ifne_t (n := 41) (t := 60) (by decide +kernel) (by omega) ?_
    refine he_iconst (n := 61) (c := 0) (by decide +kernel) (by decide) ?_
    intro c60 hc60
    refine he_istore (n := 63) (i := 5) (by decide +kernel) rfl ?_
    have hop : xop x1.toInt (8 * cnt) (fun i => xB M pk (8 * f + i)) = xun (8 * cnt) (fun i => xB M pk (8 * f + i)) 1921 0 [] := by
      unfold xop
      rw [if_neg h38]
    rw [hop] at K
    exact xj_un_l hp he hl h9 rfl hMO hTL hTD K 1921 0 M4 0 [] _ none (by decide) (by omega) (Nat.le_refl _) hV rfl
