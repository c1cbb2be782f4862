/-! The model's loads: bits, the relation, goOn. -/
theorem he_ex2 {d k pc n z u o : Nat} {L : mq_L} {st : List Value} {M : Nat → mq_C} {Q : (Option Value ⊕ Nat) → mq_S → Prop} {x y : Int32} {f : Int32 → Int32 → Int32} (hat : mq_at mq_PP k pc = some (o, [n], [])) (ho : mq_ops[o]? = some (mq_bi f)) (h : ∀ v : Int32, v = f x y → mq_R mq_PP d k n L (.int v :: st) (M, z, u) Q) : mq_R mq_PP d k pc L (.int y :: .int x :: st) (M, z, u) Q := he_bi hat ho (h _ rfl)
def hm_bit (v : Int) (n : Nat) : Bool := (BitVec.ofInt 32 v).getLsbD n
theorem hm_bb (x : Int32) (n : Nat) : hm_bit x.toInt n = x.toBitVec.getLsbD n := by
  unfold hm_bit
  rw [show x.toInt = x.toBitVec.toInt from rfl, BitVec.ofInt_toInt]
theorem hm_i32 : ∀ i : Fin 32, (Int32.ofNat i.val).toInt = (i.val : Int) := by decide
theorem hm_of {n : Int32} (h0 : 0 ≤ n.toInt) (h1 : n.toInt ≤ 31) : ∃ i : Fin 32, n = Int32.ofNat i.val ∧ n.toInt.toNat = i.val := by
  refine ⟨⟨n.toInt.toNat, by omega⟩, ?_, rfl⟩
  rw [he_eqi, hm_i32 ⟨n.toInt.toNat, by omega⟩]
  show n.toInt = ((n.toInt.toNat : Nat) : Int)
  omega
theorem hm_c1 {c : Int32} (h : c.toInt = 1) : c = 1 := by rw [he_eqi]; exact h
theorem hm_cm {c : Int32} (h : c.toInt = -1) : c = -1 := by rw [he_eqi]; exact h
theorem hm_l1 : ∀ i : Fin 32, (((Int32.ofNat i.val) &&& 31).toBitVec.smod 32).toNat = i.val := by decide
theorem hm_l2 : ∀ i j : Fin 32, ((1 : Int32) <<< ((Int32.ofNat i.val) &&& 31)).toBitVec.getLsbD j.val = decide (j.val = i.val) := by decide +kernel
theorem hm_l3 : ∀ i j : Fin 32, (((1 : Int32) <<< ((Int32.ofNat i.val) &&& 31)) ^^^ (-1 : Int32)).toBitVec.getLsbD j.val = !decide (j.val = i.val) := by decide +kernel
theorem hm_l4 : ∀ j : Fin 32, (1 : Int32).toBitVec.getLsbD j.val = decide (j.val = 0) := by decide
theorem hm_ext {x y : Int32} (h : ∀ j, j < 32 → hm_bit x.toInt j = hm_bit y.toInt j) : x.toInt = y.toInt := by
  have : x.toBitVec = y.toBitVec := BitVec.eq_of_getLsbD_eq (fun j hj => by rw [← hm_bb, ← hm_bb]; exact h j hj)
  show x.toBitVec.toInt = y.toBitVec.toInt
  rw [this]
theorem hm_set {x n y s c : Int32} (h0 : 0 ≤ n.toInt) (h1 : n.toInt ≤ 31) (hc : c.toInt = 1) (hs : s = c <<< (n &&& 31)) (hy : y = x ||| s) (j : Nat) (hj : j < 32) : hm_bit y.toInt j = (hm_bit x.toInt j || decide (j = n.toInt.toNat)) := by
  obtain ⟨i, e1, e2⟩ := hm_of h0 h1
  obtain rfl := hm_c1 hc
  rw [hm_bb, hm_bb, hy, Int32.toBitVec_or, BitVec.getLsbD_or, hs, e2, e1]
  rw [hm_l2 i ⟨j, hj⟩]
theorem hm_clr {x n y s t c cm : Int32} (h0 : 0 ≤ n.toInt) (h1 : n.toInt ≤ 31) (hc : c.toInt = 1) (hcm : cm.toInt = -1) (hs : s = c <<< (n &&& 31)) (ht : t = s ^^^ cm) (hy : y = x &&& t) (j : Nat) (hj : j < 32) : hm_bit y.toInt j = (hm_bit x.toInt j && !decide (j = n.toInt.toNat)) := by
  obtain ⟨i, e1, e2⟩ := hm_of h0 h1
  obtain rfl := hm_c1 hc
  obtain rfl := hm_cm hcm
  rw [hm_bb, hm_bb, hy, Int32.toBitVec_and, BitVec.getLsbD_and, ht, hs, e2, e1]
  rw [hm_l3 i ⟨j, hj⟩]
theorem hm_get {x n y s c : Int32} (h0 : 0 ≤ n.toInt) (h1 : n.toInt ≤ 31) (hc : c.toInt = 1) (hs : s = x >>> (n &&& 31)) (hy : y = s &&& c) : (y.toInt = 1) = (hm_bit x.toInt n.toInt.toNat = true) := by
  obtain ⟨i, e1, e2⟩ := hm_of h0 h1
  obtain rfl := hm_c1 hc
  have hb : s.toBitVec.getLsbD 0 = x.toBitVec.getLsbD i.val := by
    rw [hs, e1, Int32.toBitVec_shiftRight]
    show (x.toBitVec.sshiftRight (((Int32.ofNat i.val) &&& 31).toBitVec.smod 32).toNat).getLsbD 0 = _
    rw [hm_l1, BitVec.getLsbD_sshiftRight]
    have := i.isLt
    rw [if_pos (by omega)]
    simp
  rw [hm_bb, e2, ← hb]
  have hy2 : y.toBitVec = s.toBitVec &&& (1 : Int32).toBitVec := by rw [hy, Int32.toBitVec_and]
  have key : ∀ j, j < 32 → y.toBitVec.getLsbD j = (s.toBitVec.getLsbD j && decide (j = 0)) := by
    intro j hj
    rw [hy2, BitVec.getLsbD_and, hm_l4 ⟨j, hj⟩]
  apply propext
  constructor
  · intro h
    have := hm_c1 h
    have k0 := key 0 (by omega)
    rw [this, hm_l4 ⟨0, by omega⟩] at k0
    simpa using k0.symm
  · intro h
    have : y.toBitVec = (1 : Int32).toBitVec := by
      refine BitVec.eq_of_getLsbD_eq (fun j hj => ?_)
      rw [key j hj, hm_l4 ⟨j, hj⟩]
      by_cases e : j = 0
      · subst e
        rw [h]
        rfl
      · rw [decide_eq_false e, Bool.and_false]
    show y.toBitVec.toInt = 1
    rw [this]
    rfl
def hm_rel (k j : Nat) (M M' : Nat → mq_C) : Prop := hm_S M M' ∧ (∀ i, hv M' 262 i = hv M 262 i) ∧ (∀ c n, c < 4 → n < 32 → (k < c ∨ hm_bit (hv M 262 c) n = true) → hv M' 261 (32 * c + n) = hv M 261 (32 * c + n)) ∧ ∀ i, i < 12 * j → hv M' 267 i = hv M 267 i
theorem hm_relr {k j : Nat} {M : Nat → mq_C} : hm_rel k j M M := ⟨hm_Sr, fun _ => rfl, fun _ _ _ _ _ => rfl, fun _ _ => rfl⟩
theorem hm_relt {k k' j j' : Nat} {M M' M'' : Nat → mq_C} (hk : k' ≤ k) (hj : j ≤ j') (h : hm_rel k j M M') (h' : hm_rel k' j' M' M'') : hm_rel k j M M'' := by
  refine ⟨hm_St h.1 h'.1, fun i => (h'.2.1 i).trans (h.2.1 i), fun c n hc hn hb => ?_, fun i hi => (h'.2.2.2 i (by omega)).trans (h.2.2.2 i hi)⟩
  refine (h'.2.2.1 c n hc hn ?_).trans (h.2.2.1 c n hc hn hb)
  rcases hb with hb | hb
  · exact .inl (by omega)
  · exact .inr (by rw [h.2.1]; exact hb)
theorem hm_relE {k j : Nat} {M M' : Nat → mq_C} (h : hm_E M M') (hf : ∀ i, i < 12 * j → hv M' 267 i = hv M 267 i) : hm_rel k j M M' := ⟨hm_ES h, fun i => hb_vc (h.1 262 (by decide) (by decide)) i, fun c n _ _ _ => hb_vc (h.1 261 (by decide) (by decide)) _, hf⟩
theorem hm_relf {k j : Nat} {q' : mz_Q} {M M' : Nat → mq_C} (hW : ∀ a ∈ q'.2.2.2.2.2, a ∈ mz_q178.2.2.2.2.2) (hm : ∀ j, mz_pos j mz_q178.2.2.2.1 = none → mz_pos j q'.2.2.2.1 = none) (hw : ∀ a ∈ q'.2.2.2.2.2, a ≠ 261 ∧ a ≠ 262 ∧ a ≠ 267) (h1 : mz_fr q' M M') (h2 : ∀ a, a < 8 → M' a = M a) (h3 : hb_same mz_GG q' M M') : hm_rel k j M M' := by
  have key : ∀ a, a < 272 → a = 261 ∨ a = 262 ∨ a = 267 → M' a = M a := by
    intro a ha hc
    refine h1 a ha ?_
    cases hx : q'.2.2.2.2.2.elem a with
    | false => rfl
    | true =>
      have := hw a (List.elem_iff.mp hx)
      omega
  exact ⟨⟨hb_fr_t (hb_wsub hW) hb_fr_r h1, h2, hb_same_t hm hb_same_r h3⟩, fun i => hb_vc (key 262 (by omega) (by omega)) i, fun c n _ _ _ => hb_vc (key 261 (by omega) (by omega)) _, fun i _ => hb_vc (key 267 (by omega) (by omega)) i⟩
/-- the bit is set, things go on, the bit is cleared -/
theorem hm_fin {k j n : Nat} {M0 Ma Mb M M' : Nat → mq_C} (hk : k < 4) (hn : n < 32) (h0 : hm_rel k j M0 Ma) (hu : hm_bit (hv Ma 262 k) n = false)
    (b1 : hm_S Ma Mb) (b2 : ∀ i, i ≠ k → hv Mb 262 i = hv Ma 262 i) (b3 : ∀ i, i < 32 → hm_bit (hv Mb 262 k) i = (hm_bit (hv Ma 262 k) i || decide (i = n))) (b4 : ∀ i, hv Mb 261 i = hv Ma 261 i) (b5 : ∀ i, i < 12 * j → hv Mb 267 i = hv Ma 267 i)
    (h1 : hm_rel k j Mb M) (c1 : hm_S M M') (c2 : ∀ i, i ≠ k → hv M' 262 i = hv M 262 i) (c3 : ∀ i, i < 32 → hm_bit (hv M' 262 k) i = (hm_bit (hv M 262 k) i && !decide (i = n))) (c4 : ∀ i, i ≠ 32 * k + n → hv M' 261 i = hv M 261 i) (c5 : ∀ i, i < 12 * j → hv M' 267 i = hv M 267 i) (s1 : ∃ x : Int32, hv M' 262 k = x.toInt) (s2 : ∃ x : Int32, hv Ma 262 k = x.toInt) : hm_rel k j M0 M' := by
  have hbeg : ∀ i, hv M' 262 i = hv Ma 262 i := by
    intro i
    by_cases e : i = k
    · subst e
      obtain ⟨x, hx⟩ := s1
      obtain ⟨y, hy⟩ := s2
      rw [hx, hy]
      refine hm_ext (fun t ht => ?_)
      rw [← hx, ← hy, c3 t ht, h1.2.1, b3 t ht]
      by_cases e : t = n
      · subst e
        rw [hu]
        simp
      · rw [decide_eq_false e]
        simp
    · rw [c2 i e, h1.2.1, b2 i e]
  refine ⟨hm_St h0.1 (hm_St b1 (hm_St h1.1 c1)), fun i => (hbeg i).trans (h0.2.1 i), fun c m hc hm hb => ?_, fun i hi => ?_⟩
  · have hne : ¬ (c = k ∧ m = n) := by
      rintro ⟨rfl, rfl⟩
      rcases hb with hb | hb
      · omega
      · rw [h0.2.1] at hu
        rw [hu] at hb
        cases hb
    rw [c4 _ (by omega), h1.2.2.1 c m hc hm ?_, b4, h0.2.2.1 c m hc hm hb]
    rcases hb with hb | hb
    · exact .inl hb
    · by_cases e : c = k
      · subst e
        refine .inr ?_
        rw [b3 m hm, h0.2.1, hb]
        rfl
      · exact .inr (by rw [b2 c e, h0.2.1]; exact hb)
  · rw [c5 i hi, h1.2.2.2 i hi, b5 i hi, h0.2.2.2 i hi]
theorem hm_f68 {i : Nat} (h : 6 ≤ i % 12) (h' : i % 12 ≤ 8) : mz_at (64, 1680, 12, [(0, 0, 3), (0, 0, 31), (0, 0, 5), (0, 0, 3), (0, 0, 255), (0, 0, 255), (0, -1, 31), (0, -1, 31), (0, -1, 31), (0, -1, 127), (0, -1, 127), (0, -1, 127)]) i = (0, -1, 31) := by
  have : i % 12 = 6 ∨ i % 12 = 7 ∨ i % 12 = 8 := by omega
  rcases this with h | h | h
  · exact hm_f6 h
  · exact hm_f7 h
  · exact hm_f8 h
theorem hm_f91 {i : Nat} (h : 9 ≤ i % 12) : mz_at (64, 1680, 12, [(0, 0, 3), (0, 0, 31), (0, 0, 5), (0, 0, 3), (0, 0, 255), (0, 0, 255), (0, -1, 31), (0, -1, 31), (0, -1, 31), (0, -1, 127), (0, -1, 127), (0, -1, 127)]) i = (0, -1, 127) := by
  have : i % 12 = 9 ∨ i % 12 = 10 ∨ i % 12 = 11 := by omega
  rcases this with h | h | h
  · exact hm_f9 h
  · exact hm_f10 h
  · exact hm_f11 h
theorem hm_i {M : Nat → mq_C} (hm : mz_sh mz_GG M) {i : Nat} (hi : i < 4) : ∃ x : Int32, hv M 262 i = x.toInt := by
  obtain ⟨m1, m2, m3⟩ := hm 262 _ rfl
  have hl : i < (M 262).2.length := by rw [m2]; exact hi
  have hw : (M 262).2[i]? = some (M 262).2[i] := List.getElem?_eq_getElem hl
  generalize (M 262).2[i] = w at hw
  have hok := m3 _ _ hw
  rw [hb_at1] at hok
  cases w with
  | int v => exact ⟨v, by show hb_w mz_GG ((M 262).2[i]?) = _; rw [hw]; rfl⟩
  | _ => exact hok.elim
