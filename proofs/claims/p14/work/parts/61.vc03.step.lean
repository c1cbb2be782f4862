/-! THE CHECKER: one instruction. -/
abbrev mz_R : Type := Option (List (Nat × mz_K) × List mz_H)
abbrev mz_F : Type := Nat → List Nat → List Int → mz_K → List mz_H → mz_R
section VCS
variable (G : mz_G)
def mz_so (n0 z u : Nat) (ρ : Nat → Int) (M : Nat → mq_C) (o : Option mq_O) (ss : List (Nat × mz_K)) : Prop := ∃ pc' L' st' M' k' ρ', o = some (.inl (pc', L', st', (M', z, u))) ∧ (pc', k') ∈ ss ∧ mz_g G ρ' k' L' st' M' ∧ (∀ i, i < n0 → ρ' i = ρ i) ∧ mz_sh G M' ∧ mz_same G M M'
def mz_sd (f : mz_F) (g : mq_E) : Prop := ∀ n0 ns cs k hs ss hs' ρ L st M z u, f n0 ns cs k hs = some (ss, hs') → mz_g G ρ k L st M → mz_sh G M → mz_so G n0 z u ρ M (g ns cs L st (M, z, u)) ss
theorem mz_so1 {n0 z u n : Nat} {ρ ρ' : Nat → Int} {M : Nat → mq_C} {k : mz_K} {L : mq_L} {st : List Value} (h : mz_g G ρ' k L st M) (hr : ∀ i, i < n0 → ρ' i = ρ i) (hs : mz_sh G M) : mz_so G n0 z u ρ M (some (.inl (n, L, st, (M, z, u)))) [(n, k)] := ⟨n, L, st, M, k, ρ', rfl, List.mem_cons_self .., h, hr, hs, mz_same_refl G⟩
/-! what stands on the stack -/
theorem mz_gs_c {ρ : Nat → Int} {a : mz_V} {as : List mz_V} {st : List Value} (h : mz_gs G ρ (a :: as) st) : ∃ v r, st = v :: r ∧ mz_gv G ρ a v ∧ mz_gs G ρ as r := by
  cases st with
  | nil => exact h.elim
  | cons v r => exact ⟨v, r, rfl, h.1, h.2⟩
theorem mz_gv_i {ρ : Nat → Int} {g : Nat} {e : mz_E} {v : Value} (h : mz_gv G ρ (0, g, e) v) : ∃ x, v = .int x ∧ x.toInt = mz_ev ρ e := by
  cases v with
  | int x => exact ⟨x, rfl, h⟩
  | _ => exact h.elim
theorem mz_gv_r {ρ : Nat → Int} {g : Nat} {e : mz_E} {v : Value} (h : mz_gv G ρ (1, g, e) v) : ∃ b, v = .ref b ∧ b ∈ G.2.1 g ∧ ∃ c, G.1 b = some c ∧ (c.2.1 : Int) = mz_ev ρ e := by
  cases v with
  | ref x => exact ⟨x, rfl, h⟩
  | _ => exact h.elim
theorem mz_gv_l {ρ : Nat → Int} {g : Nat} {e : mz_E} {v : Value} (h : mz_gv G ρ (2, g, e) v) : ∃ x, v = .long x ∧ x.toInt = mz_ev ρ e := by
  cases v with
  | long x => exact ⟨x, rfl, h⟩
  | _ => exact h.elim
theorem mz_gv_a {ρ : Nat → Int} {g : Nat} {e : mz_E} {v : Value} (h : mz_gv G ρ (4, g, e) v) : ∃ x, v = .ref x := by
  cases v with
  | ref x => exact ⟨x, rfl⟩
  | _ => exact h.elim
theorem mz_gl_g {ρ : Nat → Int} : ∀ (as : List mz_V) (L : mq_L) (i : Nat) (a : mz_V), mz_gl G ρ as L → as[i]? = some a → ∃ o, L[i]? = some o ∧ mz_go G ρ a o := by
  intro as
  induction as with
  | nil => intro L i a _ h; cases h
  | cons b as ih =>
    intro L i a hg h
    cases L with
    | nil => exact hg.elim
    | cons o os =>
      cases i with
      | zero => cases h; exact ⟨o, rfl, hg.1⟩
      | succ i => exact ih os i a hg.2 h
theorem mz_gl_len {ρ : Nat → Int} : ∀ (as : List mz_V) (L : mq_L), mz_gl G ρ as L → L.length = as.length := by
  intro as
  induction as with
  | nil => intro L h; cases L with
    | nil => rfl
    | cons o os => exact h.elim
  | cons b as ih => intro L h; cases L with
    | nil => exact h.elim
    | cons o os => show os.length + 1 = as.length + 1; rw [ih os h.2]
theorem mz_gl_set {ρ : Nat → Int} {a : mz_V} {o : Option Value} (ho : mz_go G ρ a o) : ∀ (as : List mz_V) (L : mq_L) (i : Nat), mz_gl G ρ as L → mz_gl G ρ (as.set i a) (L.set i o) := by
  intro as
  induction as with
  | nil => intro L i h; cases L with
    | nil => exact h
    | cons o os => exact h.elim
  | cons b as ih => intro L i h; cases L with
    | nil => exact h.elim
    | cons p os =>
      cases i with
      | zero => exact ⟨ho, h.2⟩
      | succ i => exact ⟨h.1, ih os i h.2⟩
theorem mz_go_v {ρ : Nat → Int} {a : mz_V} {v : Value} (h : mz_gv G ρ a v) (h3 : a.1 ≠ 3) : mz_go G ρ a (some v) := by
  unfold mz_go
  split
  · next e => exact absurd e h3
  · exact ⟨v, rfl, h⟩
theorem mz_go_0 {ρ : Nat → Int} {g : Nat} {e : mz_E} {o : Option Value} (h : mz_go G ρ (0, g, e) o) : ∃ x, o = some (.int x) ∧ x.toInt = mz_ev ρ e := by
  obtain ⟨v, rfl, hv⟩ := h
  obtain ⟨x, rfl, hx⟩ := mz_gv_i G hv
  exact ⟨x, rfl, hx⟩
/-- is the place before it no long? -/
def mz_nlg (as : List mz_V) : Nat → Bool
  | 0 => true
  | j + 1 => match as[j]? with
    | some (2, _) => false
    | some _ => true
    | none => false
theorem mz_gv_nl {ρ : Nat → Int} {a : mz_V} {v : Value} (h : mz_gv G ρ a v) (ht : a.1 ≠ 2) : mq_nl (some v) = true := by
  unfold mz_gv at h
  split at h
  · rfl
  · rfl
  · next h1 => exact absurd h1 ht
  · rfl
  · exact h.elim
theorem mz_nlg_ok {ρ : Nat → Int} {as : List mz_V} {L : mq_L} (hg : mz_gl G ρ as L) {i : Nat} (h : mz_nlg as i = true) : mq_lg L i = false := by
  cases i with
  | zero => rfl
  | succ j =>
    have h' : (match as[j]? with
      | some (2, _) => false
      | some _ => true
      | none => false) = true := h
    cases ha : as[j]? with
    | none => rw [ha] at h'; cases h'
    | some a =>
      obtain ⟨o, ho, hgo⟩ := mz_gl_g G as L j a hg ha
      have ht : a.1 ≠ 2 := by
        obtain ⟨t, w⟩ := a
        rintro ht
        cases ht
        rw [ha] at h'
        cases h'
      refine mq_lg_nl ho ?_
      unfold mz_go at hgo
      split at hgo
      · exact hgo
      · obtain ⟨v, rfl, hv⟩ := hgo
        exact mz_gv_nl G hv ht
theorem mz_set1_ok {ρ : Nat → Int} {as : List mz_V} {L : mq_L} (hg : mz_gl G ρ as L) {i : Nat} {v : Value} (h : mz_nlg as i = true) (hi : Nat.blt i as.length = true) : mq_set1 L i v = some (L.set i (some v)) := by
  unfold mq_set1
  rw [if_neg]
  rw [mz_nlg_ok G hg h, mz_gl_len G as L hg]
  have := Nat.le_of_ble_eq_true hi
  simp
  omega
/-! numbers -/
def mz_inr (c : Int) : Bool := bif mz_le0 (c + 2147483648) then mz_le0 (2147483647 - c) else false
theorem mz_inr_ok {c : Int} (h : mz_inr c = true) : -2147483648 ≤ c ∧ c ≤ 2147483647 := by
  obtain ⟨h1, h2⟩ := mz_bif h
  have := mz_le0_spec h1
  have := mz_le0_spec h2
  omega
theorem mz_oi {c : Int} (h : -2147483648 ≤ c ∧ c ≤ 2147483647) : (Int32.ofInt c).toInt = c := Int32.toInt_ofInt_of_le (by omega) (by omega)
theorem mz_i32 (x : Int32) : -2147483648 ≤ x.toInt ∧ x.toInt ≤ 2147483647 := by
  have h1 := Int32.le_toInt x
  have h2 := Int32.toInt_le x
  have e1 : Int32.minValue.toInt = -2147483648 := rfl
  have e2 : Int32.maxValue.toInt = 2147483647 := rfl
  omega
def mz_set (ρ : Nat → Int) (v : Nat) (n : Int) : Nat → Int := fun i => if i = v then n else ρ i
def mz_fresh (n0 : Nat) (k : mz_K) (lo hi : Int) : Option mz_K := bif mz_wfk n0 k then some (k.1, k.2.1, k.2.2.1, (-lo, [(k.2.2.2.2, 1)]) :: (hi, [(k.2.2.2.2, -1)]) :: k.2.2.2.1, k.2.2.2.2 + 1) else none
theorem mz_fresh_ok {n0 : Nat} {k k' : mz_K} {lo hi n : Int} {ρ : Nat → Int} {L : mq_L} {st : List Value} {M : Nat → mq_C} (h : mz_fresh n0 k lo hi = some k') (hg : mz_g G ρ k L st M) (h1 : lo ≤ n) (h2 : n ≤ hi) : ∃ ρ', mz_g G ρ' k' L st M ∧ (∀ i, i < k.2.2.2.2 → ρ' i = ρ i) ∧ ρ' k.2.2.2.2 = n ∧ n0 ≤ k.2.2.2.2 ∧ k'.1 = k.1 ∧ k'.2.1 = k.2.1 ∧ k'.2.2.1 = k.2.2.1 := by
  unfold mz_fresh at h
  cases hw : mz_wfk n0 k with
  | false => rw [hw] at h; cases h
  | true =>
    rw [hw] at h
    cases h
    have hr : ∀ i, i < k.2.2.2.2 → mz_set ρ k.2.2.2.2 n i = ρ i := fun i hi => if_neg (Nat.ne_of_lt hi)
    have hn : mz_set ρ k.2.2.2.2 n k.2.2.2.2 = n := if_pos rfl
    obtain ⟨hg', h0⟩ := mz_g_e G hw hr hg
    refine ⟨mz_set ρ k.2.2.2.2 n, ⟨hg'.1, hg'.2.1, hg'.2.2.1, ?_⟩, hr, hn, h0, rfl, rfl, rfl⟩
    intro f hf
    rcases List.mem_cons.mp hf with rfl | hf
    · show 0 ≤ -lo + (1 * mz_set ρ k.2.2.2.2 n k.2.2.2.2 + 0)
      rw [hn]; omega
    rcases List.mem_cons.mp hf with rfl | hf
    · show 0 ≤ hi + (-1 * mz_set ρ k.2.2.2.2 n k.2.2.2.2 + 0)
      rw [hn]; omega
    · exact hg'.2.2.2 f hf
/-- with one fact more -/
def mz_fa (k : mz_K) (f : mz_E) : mz_K := (k.1, k.2.1, k.2.2.1, f :: k.2.2.2.1, k.2.2.2.2)
theorem mz_fa_ok {k : mz_K} {f : mz_E} {ρ : Nat → Int} {L : mq_L} {st : List Value} {M : Nat → mq_C} (hg : mz_g G ρ k L st M) (hf : 0 ≤ mz_ev ρ f) : mz_g G ρ (mz_fa k f) L st M := by
  refine ⟨hg.1, hg.2.1, hg.2.2.1, ?_⟩
  intro g hg'
  rcases List.mem_cons.mp hg' with rfl | h
  · exact hf
  · exact hg.2.2.2 g h
abbrev mz_N : Type := Option (mz_E × mz_K × List mz_H)
def mz_opq (n0 : Nat) (k : mz_K) (hs : List mz_H) : mz_N := match mz_fresh n0 k (-2147483648) 2147483647 with
  | some k' => some ((0, [(k.2.2.2.2, 1)]), k', hs)
  | none => none
def mz_num (n0 : Nat) (e : mz_E) (k : mz_K) (hs : List mz_H) : mz_N := match e.2, mz_inr e.1 with
  | [], true => some (e, k, hs)
  | _, _ => match hs with
    | (0, _) :: h1 :: h2 :: hs => bif mz_pv k.2.2.2.1 h1 (mz_add (2147483648, []) e) then bif mz_pv k.2.2.2.1 h2 (mz_add (2147483647, []) (mz_mul (-1) e)) then some (e, k, hs) else none else none
    | _ :: hs => mz_opq n0 k hs
    | _ => none
/-- the number x is e behind it -/
def mz_ns (n0 : Nat) (k : mz_K) (ρ : Nat → Int) (x : Int32) (o : mz_N) : Prop := ∀ e' k' hs', o = some (e', k', hs') → ∀ L st M, mz_g G ρ k L st M → ∃ ρ', mz_g G ρ' k' L st M ∧ x.toInt = mz_ev ρ' e' ∧ (∀ i, i < n0 → ρ' i = ρ i) ∧ k'.1 = k.1 ∧ k'.2.1 = k.2.1 ∧ k'.2.2.1 = k.2.2.1
theorem mz_opq_ok {n0 : Nat} {k : mz_K} {hs : List mz_H} {ρ : Nat → Int} {x : Int32} : mz_ns G n0 k ρ x (mz_opq n0 k hs) := by
  intro e' k' hs' h L st M hg
  unfold mz_opq at h
  split at h
  · next k1 hk =>
    cases h
    obtain ⟨ρ', g', hr, hn, h0, q⟩ := mz_fresh_ok G hk hg (n := x.toInt) (mz_i32 x).1 (mz_i32 x).2
    refine ⟨ρ', g', ?_, fun i hi => hr i (Nat.lt_of_lt_of_le hi h0), q⟩
    show x.toInt = 0 + (1 * ρ' k.2.2.2.2 + 0)
    rw [hn]; omega
  · cases h
theorem mz_num_ok {n0 : Nat} {e : mz_E} {k : mz_K} {hs : List mz_H} {ρ : Nat → Int} {x : Int32} (hx : -2147483648 ≤ mz_ev ρ e ∧ mz_ev ρ e ≤ 2147483647 → x.toInt = mz_ev ρ e) : mz_ns G n0 k ρ x (mz_num n0 e k hs) := by
  unfold mz_num
  split
  · next e0 h1 =>
    intro e' k' hs' h L st M hg
    cases h
    refine ⟨ρ, hg, hx ?_, fun _ _ => rfl, rfl, rfl, rfl⟩
    have := mz_inr_ok h1
    have e1 : mz_ev ρ e = e.1 := by show e.1 + mz_ev1 ρ e.2 = e.1; rw [e0]; exact Int.add_zero _
    rw [e1]; exact this
  · split
    · next h1 h2 hs =>
      intro e' k' hs' h L st M hg
      cases p1 : mz_pv k.2.2.2.1 h1 (mz_add (2147483648, []) e) with
      | false => rw [p1] at h; cases h
      | true =>
        cases p2 : mz_pv k.2.2.2.1 h2 (mz_add (2147483647, []) (mz_mul (-1) e)) with
        | false => rw [p1, p2] at h; cases h
        | true =>
          rw [p1, p2] at h
          cases h
          have q1 := mz_pv_spec hg.2.2.2 p1
          have q2 := mz_pv_spec hg.2.2.2 p2
          rw [mz_add_ev] at q1 q2
          rw [mz_mul_ev] at q2
          have e1 : ∀ c : Int, mz_ev ρ (c, []) = c := fun c => Int.add_zero c
          rw [e1] at q1 q2
          exact ⟨ρ, hg, hx (by omega), fun _ _ => rfl, rfl, rfl, rfl⟩
    · exact mz_opq_ok G
    · intro e' k' hs' h; cases h
end VCS
