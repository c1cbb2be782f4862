/-! BY HAND: the table, exact steps, changed cells. -/
abbrev hv (M : Nat → mq_C) (a i : Nat) : Int := hb_v mz_GG M a i
theorem hb_inj {x y : Int32} (h1 : 0 ≤ 0 + ((-1) * y.toInt + (1 * x.toInt + 0))) (h2 : 0 ≤ 0 + (1 * y.toInt + ((-1) * x.toInt + 0))) : x = y := Int32.toInt_inj.mp (by omega)
theorem hb_okG : hb_ok mz_GG := by
  refine ⟨by decide +kernel, ?_, by decide +kernel, ?_, ?_⟩
  · intro a h
    have h' : (bif Nat.blt a 8 then true else mz_exol.elem a) = true := h
    cases hb : Nat.blt a 8 with
    | true => have := Nat.le_of_ble_eq_true hb; omega
    | false =>
      rw [hb] at h'
      have h1 : ∀ a ∈ mz_exol, a < 272 := by decide +kernel
      exact h1 a (List.elem_iff.mp h')
  · intro a h
    show (bif Nat.blt a 8 then true else mz_exol.elem a) = true
    rw [show Nat.blt a 8 = true from Nat.ble_eq.mpr h]
    rfl
  · intro a c h
    have h' : mz_tabl.getD a none = some c := h
    have hl : mz_tabl.length = 272 := by decide +kernel
    rw [List.getD_eq_getElem?_getD] at h'
    cases hx : mz_tabl[a]? with
    | none => rw [hx] at h'; cases h'
    | some w => have := (List.getElem?_eq_some_iff.mp hx).1; omega
theorem hb_tkG : mz_GG.2.2.1.all (hb_tk mz_GG) = true := by decide +kernel
theorem hb_is1000 {b : Nat} (h : b ∈ [47, 58, 69, 80]) : (mz_GG.1 b).isSome = true := by
  have h1 : ∀ b ∈ [47, 58, 69, 80], (mz_GG.1 b).isSome = true := by decide +kernel
  exact h1 b h
theorem hb_is1001 {b : Nat} (h : b ∈ [48, 59, 70, 81]) : (mz_GG.1 b).isSome = true := by
  have h1 : ∀ b ∈ [48, 59, 70, 81], (mz_GG.1 b).isSome = true := by decide +kernel
  exact h1 b h
theorem hb_is1002 {b : Nat} (h : b ∈ [49, 60, 71, 82]) : (mz_GG.1 b).isSome = true := by
  have h1 : ∀ b ∈ [49, 60, 71, 82], (mz_GG.1 b).isSome = true := by decide +kernel
  exact h1 b h
theorem hb_is1003 {b : Nat} (h : b ∈ [50, 61, 72, 83]) : (mz_GG.1 b).isSome = true := by
  have h1 : ∀ b ∈ [50, 61, 72, 83], (mz_GG.1 b).isSome = true := by decide +kernel
  exact h1 b h
theorem hb_is1004 {b : Nat} (h : b ∈ [51, 62, 73, 84]) : (mz_GG.1 b).isSome = true := by
  have h1 : ∀ b ∈ [51, 62, 73, 84], (mz_GG.1 b).isSome = true := by decide +kernel
  exact h1 b h
theorem hb_is1005 {b : Nat} (h : b ∈ [52, 63, 74, 85]) : (mz_GG.1 b).isSome = true := by
  have h1 : ∀ b ∈ [52, 63, 74, 85], (mz_GG.1 b).isSome = true := by decide +kernel
  exact h1 b h
theorem hb_is1006 {b : Nat} (h : b ∈ [53, 64, 75, 86]) : (mz_GG.1 b).isSome = true := by
  have h1 : ∀ b ∈ [53, 64, 75, 86], (mz_GG.1 b).isSome = true := by decide +kernel
  exact h1 b h
theorem hb_is1007 {b : Nat} (h : b ∈ [54, 65, 76, 87]) : (mz_GG.1 b).isSome = true := by
  have h1 : ∀ b ∈ [54, 65, 76, 87], (mz_GG.1 b).isSome = true := by decide +kernel
  exact h1 b h
theorem hb_is1008 {b : Nat} (h : b ∈ [55, 66, 77, 88]) : (mz_GG.1 b).isSome = true := by
  have h1 : ∀ b ∈ [55, 66, 77, 88], (mz_GG.1 b).isSome = true := by decide +kernel
  exact h1 b h
theorem hb_is1009 {b : Nat} (h : b ∈ [56, 67, 78, 89]) : (mz_GG.1 b).isSome = true := by
  have h1 : ∀ b ∈ [56, 67, 78, 89], (mz_GG.1 b).isSome = true := by decide +kernel
  exact h1 b h
theorem hb_is1010 {b : Nat} (h : b ∈ [57, 68, 79, 90]) : (mz_GG.1 b).isSome = true := by
  have h1 : ∀ b ∈ [57, 68, 79, 90], (mz_GG.1 b).isSome = true := by decide +kernel
  exact h1 b h
theorem hb_is1011 {b : Nat} (h : b ∈ [91, 96, 101, 106]) : (mz_GG.1 b).isSome = true := by
  have h1 : ∀ b ∈ [91, 96, 101, 106], (mz_GG.1 b).isSome = true := by decide +kernel
  exact h1 b h
theorem hb_is1012 {b : Nat} (h : b ∈ [92, 97, 102, 107]) : (mz_GG.1 b).isSome = true := by
  have h1 : ∀ b ∈ [92, 97, 102, 107], (mz_GG.1 b).isSome = true := by decide +kernel
  exact h1 b h
theorem hb_is1013 {b : Nat} (h : b ∈ [93, 98, 103, 108]) : (mz_GG.1 b).isSome = true := by
  have h1 : ∀ b ∈ [93, 98, 103, 108], (mz_GG.1 b).isSome = true := by decide +kernel
  exact h1 b h
theorem hb_is1014 {b : Nat} (h : b ∈ [94, 99, 104, 109]) : (mz_GG.1 b).isSome = true := by
  have h1 : ∀ b ∈ [94, 99, 104, 109], (mz_GG.1 b).isSome = true := by decide +kernel
  exact h1 b h
theorem hb_is1015 {b : Nat} (h : b ∈ [95, 100, 105, 110]) : (mz_GG.1 b).isSome = true := by
  have h1 : ∀ b ∈ [95, 100, 105, 110], (mz_GG.1 b).isSome = true := by decide +kernel
  exact h1 b h
theorem hb_is1016 {b : Nat} (h : b ∈ [111, 114, 117, 120, 123, 126, 129, 132, 135, 138, 141, 144, 147, 150, 153, 156, 159, 162, 165, 168, 171, 174, 177, 180, 183, 186, 189, 192, 195, 198, 201, 204, 207, 210, 213, 216, 219, 222, 225, 228, 231]) : (mz_GG.1 b).isSome = true := by
  have h1 : ∀ b ∈ [111, 114, 117, 120, 123, 126, 129, 132, 135, 138, 141, 144, 147, 150, 153, 156, 159, 162, 165, 168, 171, 174, 177, 180, 183, 186, 189, 192, 195, 198, 201, 204, 207, 210, 213, 216, 219, 222, 225, 228, 231], (mz_GG.1 b).isSome = true := by decide +kernel
  exact h1 b h
theorem hb_is1017 {b : Nat} (h : b ∈ [112, 115, 118, 121, 124, 127, 130, 133, 136, 139, 142, 145, 148, 151, 154, 157, 160, 163, 166, 169, 172, 175, 178, 181, 184, 187, 190, 193, 196, 199, 202, 205, 208, 211, 214, 217, 220, 223, 226, 229, 232]) : (mz_GG.1 b).isSome = true := by
  have h1 : ∀ b ∈ [112, 115, 118, 121, 124, 127, 130, 133, 136, 139, 142, 145, 148, 151, 154, 157, 160, 163, 166, 169, 172, 175, 178, 181, 184, 187, 190, 193, 196, 199, 202, 205, 208, 211, 214, 217, 220, 223, 226, 229, 232], (mz_GG.1 b).isSome = true := by decide +kernel
  exact h1 b h
theorem hb_is1018 {b : Nat} (h : b ∈ [113, 116, 119, 122, 125, 128, 131, 134, 137, 140, 143, 146, 149, 152, 155, 158, 161, 164, 167, 170, 173, 176, 179, 182, 185, 188, 191, 194, 197, 200, 203, 206, 209, 212, 215, 218, 221, 224, 227, 230, 233]) : (mz_GG.1 b).isSome = true := by
  have h1 : ∀ b ∈ [113, 116, 119, 122, 125, 128, 131, 134, 137, 140, 143, 146, 149, 152, 155, 158, 161, 164, 167, 170, 173, 176, 179, 182, 185, 188, 191, 194, 197, 200, 203, 206, 209, 212, 215, 218, 221, 224, 227, 230, 233], (mz_GG.1 b).isSome = true := by decide +kernel
  exact h1 b h
theorem hb_is1019 {b : Nat} (h : b ∈ [12, 16, 20, 24, 28]) : (mz_GG.1 b).isSome = true := by
  have h1 : ∀ b ∈ [12, 16, 20, 24, 28], (mz_GG.1 b).isSome = true := by decide +kernel
  exact h1 b h
theorem hb_is1020 {b : Nat} (h : b ∈ [13, 17, 21, 25, 29]) : (mz_GG.1 b).isSome = true := by
  have h1 : ∀ b ∈ [13, 17, 21, 25, 29], (mz_GG.1 b).isSome = true := by decide +kernel
  exact h1 b h
theorem hb_is1021 {b : Nat} (h : b ∈ [14, 18, 22, 26, 30]) : (mz_GG.1 b).isSome = true := by
  have h1 : ∀ b ∈ [14, 18, 22, 26, 30], (mz_GG.1 b).isSome = true := by decide +kernel
  exact h1 b h
theorem hb_is1022 {b : Nat} (h : b ∈ [15, 19, 23, 27, 31]) : (mz_GG.1 b).isSome = true := by
  have h1 : ∀ b ∈ [15, 19, 23, 27, 31], (mz_GG.1 b).isSome = true := by decide +kernel
  exact h1 b h
theorem hb_is1023 {b : Nat} (h : b ∈ [10, 34, 48, 59, 70, 81]) : (mz_GG.1 b).isSome = true := by
  have h1 : ∀ b ∈ [10, 34, 48, 59, 70, 81], (mz_GG.1 b).isSome = true := by decide +kernel
  exact h1 b h
theorem hb_is1025 {b : Nat} (h : b ∈ [43, 45]) : (mz_GG.1 b).isSome = true := by
  have h1 : ∀ b ∈ [43, 45], (mz_GG.1 b).isSome = true := by decide +kernel
  exact h1 b h
theorem hb_ld {d k pc n kind a z u : Nat} {L : mq_L} {st : List Value} {M : Nat → mq_C} {Q : (Option Value ⊕ Nat) → mq_S → Prop} {i : Int32} {c : mz_Ce} {lo hi : Int} (hm : mz_sh mz_GG M) (hat : mq_at mq_PP k pc = some (58, [n, kind], [])) (hc : mz_GG.1 a = some c) (hk : c.1 = kind) (hkd : kind = 64 ∨ kind = 65) (h0 : 0 ≤ i.toInt) (h1 : i.toInt < c.2.1) (hs : mz_at c i.toInt.toNat = (0, lo, hi)) (h : ∀ v : Int32, hv M a i.toInt.toNat = v.toInt → lo ≤ v.toInt → v.toInt ≤ hi → mq_R mq_PP d k n L (.int v :: st) (M, z, u) Q) : mq_R mq_PP d k pc L (.int i :: .ref a :: st) (M, z, u) Q := by
  obtain ⟨m1, m2, m3⟩ := hm a c hc
  have hl : i.toInt.toNat < (M a).2.length := by rw [m2]; omega
  have hw : (M a).2[i.toInt.toNat]? = some (M a).2[i.toInt.toNat] := List.getElem?_eq_getElem hl
  generalize (M a).2[i.toInt.toNat] = w at hw
  have hok := m3 _ _ hw
  rw [hs] at hok
  cases w with
  | int v =>
    have hn : i.toNatClampNeg = i.toInt.toNat := rfl
    have hneg : ¬ i < 0 := by
      rw [Int32.lt_iff_toInt_lt]
      have : (0 : Int32).toInt = 0 := rfl
      omega
    have hst : mq_stp mq_PP k pc L (.int i :: .ref a :: st) (M, z, u) = some (.inl (n, L, .int v :: st, (M, z, u))) := by
      unfold mq_stp
      rw [hat]
      show mq_o_ald [n, kind] [] L (.int i :: .ref a :: st) (M, z, u) = _
      unfold mq_o_ald
      simp only
      rw [if_pos ⟨.inl (m1.trans hk), hneg⟩, hn, hw]
      simp only
      have hf : mq_fit (if kind = 66 then 2 else if kind < 70 then 0 else 3) (.int v) = true := by
        rcases hkd with rfl | rfl <;> rfl
      rw [if_pos hf]
    rw [mq_R_eq, hst]
    exact h v (by show hb_v mz_GG M _ _ = _; unfold hb_v; rw [hw]; rfl) hok.1 hok.2
  | _ => exact hok.elim
def hb_set (M : Nat → mq_C) (a i : Nat) (v : Int32) : Nat → mq_C := va_up M a ((M a).1, (M a).2.set i (.int v))
theorem hb_sta {d k pc n kind a z u : Nat} {L : mq_L} {st : List Value} {M : Nat → mq_C} {Q : (Option Value ⊕ Nat) → mq_S → Prop} {i v : Int32} {c : mz_Ce} (hm : mz_sh mz_GG M) (hat : mq_at mq_PP k pc = some (59, [n, kind], [])) (hc : mz_GG.1 a = some c) (hk : c.1 = kind) (hkd : kind = 64 ∨ kind = 65 ∧ (v = 0 ∨ v = 1)) (h0 : 0 ≤ i.toInt) (h1 : i.toInt < c.2.1) (h : mq_R mq_PP d k n L st (hb_set M a i.toInt.toNat v, z, u) Q) : mq_R mq_PP d k pc L (.int v :: .int i :: .ref a :: st) (M, z, u) Q := by
  obtain ⟨m1, m2, m3⟩ := hm a c hc
  have hl : i.toInt.toNat < (M a).2.length := by rw [m2]; omega
  have hn : i.toNatClampNeg = i.toInt.toNat := rfl
  have hneg : ¬ i < 0 := by
    rw [Int32.lt_iff_toInt_lt]
    have : (0 : Int32).toInt = 0 := rfl
    omega
  have hst : mq_stp mq_PP k pc L (.int v :: .int i :: .ref a :: st) (M, z, u) = some (.inl (n, L, st, (hb_set M a i.toInt.toNat v, z, u))) := by
    unfold mq_stp
    rw [hat]
    show mq_o_ast [n, kind] [] L (.int v :: .int i :: .ref a :: st) (M, z, u) = _
    unfold mq_o_ast
    simp only
    have hf : mq_fit (mq_ak kind) (.int v) = true := by
      rcases hkd with rfl | ⟨rfl, hv⟩
      · rfl
      · exact decide_eq_true hv
    have h70 : kind < 70 := by rcases hkd with rfl | ⟨rfl, _⟩ <;> omega
    rw [if_pos ⟨m1.trans hk, hneg, by rw [hn]; exact hl, hf, .inl h70⟩]
    unfold hb_set
    rw [m1, hk, hn]
  rw [mq_R_eq, hst]
  exact h
theorem hb_gfd {d k pc n ci j a z u : Nat} {ns : List Nat} {L : mq_L} {st : List Value} {M : Nat → mq_C} {Q : (Option Value ⊕ Nat) → mq_S → Prop} {c : mz_Ce} {lo hi : Int} (hm : mz_sh mz_GG M) (hat : mq_at mq_PP k pc = some (52, n :: ci :: j :: ns, [])) (hc : mz_GG.1 a = some c) (hk : c.1 = ci) (h1 : j < c.2.1) (hs : mz_at c j = (0, lo, hi)) (h : ∀ v : Int32, hv M a j = v.toInt → lo ≤ v.toInt → v.toInt ≤ hi → mq_R mq_PP d k n L (.int v :: st) (M, z, u) Q) : mq_R mq_PP d k pc L (.ref a :: st) (M, z, u) Q := by
  obtain ⟨m1, m2, m3⟩ := hm a c hc
  have hl : j < (M a).2.length := by rw [m2]; exact h1
  have hw : (M a).2[j]? = some (M a).2[j] := List.getElem?_eq_getElem hl
  generalize (M a).2[j] = w at hw
  have hok := m3 _ _ hw
  rw [hs] at hok
  cases w with
  | int v =>
    have hst : mq_stp mq_PP k pc L (.ref a :: st) (M, z, u) = some (.inl (n, L, .int v :: st, (M, z, u))) := by
      unfold mq_stp
      rw [hat]
      show mq_o_get (n :: ci :: j :: ns) [] L (.ref a :: st) (M, z, u) = _
      unfold mq_o_get
      simp only
      rw [if_pos (m1.trans hk), hw]
    rw [mq_R_eq, hst]
    exact h v (by show hb_v mz_GG M _ _ = _; unfold hb_v; rw [hw]; rfl) hok.1 hok.2
  | _ => exact hok.elim
theorem hb_pfd {d k pc n ci j a z u t : Nat} {ns : List Nat} {L : mq_L} {st : List Value} {M : Nat → mq_C} {Q : (Option Value ⊕ Nat) → mq_S → Prop} {c : mz_Ce} {v : Int32} (hm : mz_sh mz_GG M) (hat : mq_at mq_PP k pc = some (53, n :: ci :: j :: t :: ns, [])) (hc : mz_GG.1 a = some c) (hk : c.1 = ci) (h1 : j < c.2.1) (ht : t = 0 ∨ t = 1 ∧ (v = 0 ∨ v = 1)) (h : mq_R mq_PP d k n L st (hb_set M a j v, z, u) Q) : mq_R mq_PP d k pc L (.int v :: .ref a :: st) (M, z, u) Q := by
  obtain ⟨m1, m2, m3⟩ := hm a c hc
  have hl : j < (M a).2.length := by rw [m2]; exact h1
  have hst : mq_stp mq_PP k pc L (.int v :: .ref a :: st) (M, z, u) = some (.inl (n, L, st, (hb_set M a j v, z, u))) := by
    unfold mq_stp
    rw [hat]
    show mq_o_put (n :: ci :: j :: t :: ns) [] L (.int v :: .ref a :: st) (M, z, u) = _
    unfold mq_o_put
    simp only
    have hf : mq_fit t (.int v) = true := by
      rcases ht with rfl | ⟨rfl, hv⟩
      · rfl
      · exact decide_eq_true hv
    rw [if_pos ⟨m1.trans hk, hl, hf⟩]
    unfold hb_set
    rw [m1, hk]
  rw [mq_R_eq, hst]
  exact h
theorem hb_set_c {M : Nat → mq_C} {a i b : Nat} {v : Int32} (h : b ≠ a) : hb_set M a i v b = M b := va_up_ne _ _ h
theorem hb_set_s {M : Nat → mq_C} {a i : Nat} {v : Int32} : hb_set M a i v a = ((M a).1, (M a).2.set i (.int v)) := va_up_self _ _ _
theorem hb_set_n {G : mz_G} {M : Nat → mq_C} {a i b j : Nat} {v : Int32} (h : b ≠ a ∨ j ≠ i) : hb_v G (hb_set M a i v) b j = hb_v G M b j := by
  unfold hb_v
  by_cases hb : b = a
  · subst hb
    rw [hb_set_s]
    show hb_w G (((M b).2.set i (.int v))[j]?) = _
    rw [List.getElem?_set_ne (by rcases h with h | h; exact absurd rfl h; exact fun e => h e.symm)]
  · rw [hb_set_c hb]
theorem hb_set_v {G : mz_G} {M : Nat → mq_C} {a i : Nat} {v : Int32} {c : mz_Ce} (hm : mz_sh G M) (hc : G.1 a = some c) (hi : i < c.2.1) : hb_v G (hb_set M a i v) a i = v.toInt := by
  obtain ⟨m1, m2, m3⟩ := hm a c hc
  unfold hb_v
  rw [hb_set_s]
  show hb_w G (((M a).2.set i (.int v))[i]?) = _
  rw [List.getElem?_set_self (by rw [m2]; exact hi)]
  rfl
theorem hb_set_sh {G : mz_G} {M : Nat → mq_C} {a i : Nat} {v : Int32} {c : mz_Ce} {lo hi : Int} (hm : mz_sh G M) (hc : G.1 a = some c) (hs : mz_at c i = (0, lo, hi)) (h1 : lo ≤ v.toInt) (h2 : v.toInt ≤ hi) : mz_sh G (hb_set M a i v) := by
  intro b cb hb
  by_cases e : b = a
  · subst e
    rw [hc] at hb
    cases hb
    obtain ⟨m1, m2, m3⟩ := hm b c hc
    rw [hb_set_s]
    refine ⟨m1, by show ((M b).2.set i _).length = _; rw [List.length_set, m2], ?_⟩
    intro j w hw
    have hw : ((M b).2.set i (.int v))[j]? = some w := hw
    by_cases hj : i = j
    · subst hj
      have hl : i < (M b).2.length := by
        have := (List.getElem?_eq_some_iff.mp hw).1
        rw [List.length_set] at this
        exact this
      rw [List.getElem?_set_self hl] at hw
      cases hw
      rw [hs]
      exact ⟨h1, h2⟩
    · rw [List.getElem?_set_ne hj] at hw
      exact m3 j w hw
  · rw [hb_set_c e]
    exact hm b cb hb
theorem hb_rg {M : Nat → mq_C} {a i : Nat} {c : mz_Ce} {lo hi : Int} (hm : mz_sh mz_GG M) (hc : mz_GG.1 a = some c) (h1 : i < c.2.1) (hs : mz_at c i = (0, lo, hi)) : lo ≤ hv M a i ∧ hv M a i ≤ hi := by
  obtain ⟨m1, m2, m3⟩ := hm a c hc
  have hl : i < (M a).2.length := by rw [m2]; exact h1
  have hw : (M a).2[i]? = some (M a).2[i] := List.getElem?_eq_getElem hl
  generalize (M a).2[i] = w at hw
  have hok := m3 _ _ hw
  rw [hs] at hok
  show lo ≤ hb_v mz_GG M a i ∧ hb_v mz_GG M a i ≤ hi
  unfold hb_v
  rw [hw]
  cases w with
  | int v => exact hok
  | _ => exact hok.elim
/-- tracked slots are the same -/
theorem hb_same_r {G : mz_G} {q : mz_Q} {M : Nat → mq_C} : hb_same G q M M := fun _ _ _ _ => rfl
theorem hb_same_t {G : mz_G} {q q' : mz_Q} {M M' M'' : Nat → mq_C} (hq : ∀ j, mz_pos j q.2.2.2.1 = none → mz_pos j q'.2.2.2.1 = none) (h : hb_same G q M M') (h' : hb_same G q' M' M'') : hb_same G q M M'' := fun j t ht hp => (h' j t ht (hq j hp)).trans (h j t ht hp)
theorem hb_same_s {G : mz_G} {q : mz_Q} {M : Nat → mq_C} {a i : Nat} {v : Int32} (h : ∀ t ∈ G.2.2.1, t.1 ≠ a ∨ t.2 ≠ i) : hb_same G q M (hb_set M a i v) := by
  intro j t ht _
  exact hb_set_n (h t (List.mem_of_getElem? ht))
theorem hb_fr_r {q : mz_Q} {M : Nat → mq_C} : mz_fr q M M := fun _ _ _ => rfl
theorem hb_fr_t {q q' : mz_Q} {M M' M'' : Nat → mq_C} (hq : ∀ a, q.2.2.2.2.2.elem a = false → q'.2.2.2.2.2.elem a = false) (h : mz_fr q M M') (h' : mz_fr q' M' M'') : mz_fr q M M'' := fun a ha hw => (h' a ha (hq a hw)).trans (h a ha hw)
theorem hb_fr_s {q : mz_Q} {M : Nat → mq_C} {a i : Nat} {v : Int32} (h : q.2.2.2.2.2.elem a = true) : mz_fr q M (hb_set M a i v) := by
  intro b _ hw
  refine hb_set_c ?_
  rintro rfl
  rw [h] at hw
  cases hw
def hb_sum (f : Nat → Int) : Nat → Int
  | 0 => 0
  | n + 1 => hb_sum f n + f n
theorem hb_sum_c {f g : Nat → Int} : ∀ n, (∀ i, i < n → f i = g i) → hb_sum f n = hb_sum g n := by
  intro n
  induction n with
  | zero => intro _; rfl
  | succ n ih => intro h; show hb_sum f n + f n = hb_sum g n + g n; rw [ih (fun i hi => h i (by omega)), h n (by omega)]
theorem hb_sum_0 {f : Nat → Int} : ∀ n, (∀ i, i < n → 0 ≤ f i) → 0 ≤ hb_sum f n := by
  intro n
  induction n with
  | zero => intro _; exact Int.le_refl _
  | succ n ih => intro h; have := ih (fun i hi => h i (by omega)); have := h n (by omega); show 0 ≤ hb_sum f n + f n; omega
theorem hb_sum_m {f : Nat → Int} {m : Nat} : ∀ n, m ≤ n → (∀ i, i < n → 0 ≤ f i) → hb_sum f m ≤ hb_sum f n := by
  intro n
  induction n with
  | zero => intro h _; rw [Nat.le_zero.mp h]; exact Int.le_refl _
  | succ n ih =>
    intro h h0
    by_cases e : m = n + 1
    · subst e; exact Int.le_refl _
    · have := ih (by omega) (fun i hi => h0 i (by omega)); have := h0 n (by omega); show hb_sum f m ≤ hb_sum f n + f n; omega
theorem hb_sum_u {f g : Nat → Int} {k : Nat} : ∀ n, k < n → (∀ i, i < n → i ≠ k → g i = f i) → hb_sum g n = hb_sum f n + (g k - f k) := by
  intro n
  induction n with
  | zero => intro h _; omega
  | succ n ih =>
    intro h he
    show hb_sum g n + g n = hb_sum f n + f n + (g k - f k)
    by_cases e : k = n
    · subst e
      rw [hb_sum_c (f := g) (g := f) k (fun i hi => he i (by omega) (by omega))]
      omega
    · rw [ih (by omega) (fun i hi hn => he i (by omega) hn), he n (by omega) (fun h => e h.symm)]
      omega
/-- how many -/
def hb_cnt (p : Nat → Bool) (n : Nat) : Int := hb_sum (fun i => if p i = true then 1 else 0) n
theorem hb_cnt_le (p : Nat → Bool) : ∀ n, hb_cnt p n ≤ n := by
  intro n
  induction n with
  | zero => exact Int.le_refl _
  | succ n ih =>
    have e : hb_cnt p (n + 1) = hb_cnt p n + (if p n = true then 1 else 0) := rfl
    rw [e]
    split <;> omega
theorem hb_cnt_lt {p : Nat → Bool} {k : Nat} (hk : p k = false) : ∀ n, k < n → hb_cnt p n ≤ (n : Int) - 1 := by
  intro n
  induction n with
  | zero => intro h; omega
  | succ n ih =>
    intro h
    have e : hb_cnt p (n + 1) = hb_cnt p n + (if p n = true then 1 else 0) := rfl
    rw [e]
    by_cases hn : k = n
    · subst hn
      have := hb_cnt_le p k
      rw [hk]
      simp only [Bool.false_eq_true, if_false]
      omega
    · have := ih (by omega)
      split <;> omega
theorem hb_cnt_c {p q : Nat → Bool} {n : Nat} (h : ∀ i, i < n → p i = q i) : hb_cnt p n = hb_cnt q n := hb_sum_c n (fun i hi => by rw [h i hi])
theorem hb_cnt_u {p q : Nat → Bool} {k n : Nat} (hk : k < n) (hp : p k = false) (hq : q k = true) (h : ∀ i, i < n → i ≠ k → q i = p i) : hb_cnt q n = hb_cnt p n + 1 := by
  unfold hb_cnt
  rw [hb_sum_u n hk (fun i hi hn => by rw [h i hi hn]), hp, hq]
  simp
