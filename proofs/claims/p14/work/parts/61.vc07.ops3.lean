/-! THE CHECKER: fields and arrays. -/
section VCM
variable (G : mz_G)
def mz_all (g : Nat) (p : mz_Ce → Bool) : Bool := (G.2.1 g).all (fun a => match G.1 a with
  | some c => p c
  | none => false)
theorem mz_all_ok {g b : Nat} {p : mz_Ce → Bool} (h : mz_all G g p = true) (hb : b ∈ G.2.1 g) : ∃ c, G.1 b = some c ∧ p c = true := by
  have := List.all_eq_true.mp h b hb
  split at this
  · next c hc => exact ⟨c, hc, this⟩
  · cases this
def mz_ix (c : mz_Ce) (e : mz_E) : Option Nat := match c.2.2.1 with
  | 0 => match e with
    | (Int.ofNat i, []) => some i
    | _ => none
  | 1 => some 0
  | p + 2 => match mz_dvl (p + 2) e.2 with
    | some _ => some (e.1 % ((p + 2 : Nat) : Int)).toNat
    | none => none
def mz_spx (c : mz_Ce) (e : mz_E) : mz_Sp := match mz_ix c e with
  | some j => c.2.2.2.getD j (9, 0, 0)
  | none => (9, 0, 0)
theorem mz_spx_ok {c : mz_Ce} {e : mz_E} {ρ : Nat → Int} {i : Nat} (hi : mz_ev ρ e = (i : Int)) (h9 : (mz_spx c e).1 ≠ 9) : mz_at c i = mz_spx c e := by
  unfold mz_spx at h9 ⊢
  split at h9
  · next j hj =>
    show mz_at c i = c.2.2.2.getD j (9, 0, 0)
    unfold mz_ix at hj
    unfold mz_at
    split at hj
    · next hp =>
      rw [hp]
      split at hj
      · next i' =>
        have hj' : i' = _ := Option.some.inj hj
        have : (i' : Int) = (i : Int) := (Int.add_zero (i' : Int)).symm.trans hi
        have : i' = i := Int.ofNat.inj this
        rw [← hj', this]
      · cases hj
    · next hp =>
      rw [hp]
      cases hj
      show c.2.2.2.getD (i % 1) _ = _
      rw [Nat.mod_one]
    · next p hp =>
      rw [hp]
      split at hj
      · next m hm =>
        cases hj
        show c.2.2.2.getD (i % (p + 2)) _ = _
        have e1 := mz_dvl_ev (ρ := ρ) _ _ hm
        have e2 : e.1 + ((p + 2 : Nat) : Int) * mz_ev1 ρ m = (i : Int) := by rw [← e1]; exact hi
        have e3 : (e.1 % ((p + 2 : Nat) : Int)) = ((i % (p + 2) : Nat) : Int) := by
          rw [Int.natCast_emod, ← e2, Int.add_mul_emod_self_left]
        rw [e3]
        rfl
      · cases hj
  · exact absurd rfl h9
/-- the range of all numbers of the cell -/
def mz_hull : List mz_Sp → Option (Int × Int)
  | [] => none
  | [(0, lo, hi)] => some (lo, hi)
  | (0, lo, hi) :: r => match mz_hull r with
    | some (l, h) => some (bif mz_le0 (l - lo) then lo else l, bif mz_le0 (hi - h) then hi else h)
    | none => none
  | _ => none
def mz_spr (c : mz_Ce) (e : mz_E) : mz_Sp := match mz_ix c e with
  | some j => c.2.2.2.getD j (9, 0, 0)
  | none => match mz_hull c.2.2.2 with
    | some (lo, hi) => (0, lo, hi)
    | none => (9, 0, 0)
theorem mz_le0_f {c : Int} (h : mz_le0 c = false) : c < 0 := by
  cases c with
  | ofNat n => cases h
  | negSucc n => exact Int.negSucc_lt_zero n
theorem mz_hull_ok : ∀ (l : List mz_Sp) (lo hi : Int), mz_hull l = some (lo, hi) → ∀ s ∈ l, s.1 = 0 ∧ lo ≤ s.2.1 ∧ s.2.2 ≤ hi := by
  intro l
  induction l with
  | nil => intro lo hi h; cases h
  | cons a r ih =>
    intro lo hi h s hs
    unfold mz_hull at h
    split at h
    · next hx => cases hx
    · next lo' hi' hx =>
      cases hx
      cases h
      rcases List.mem_cons.mp hs with rfl | hs
      · exact ⟨rfl, Int.le_refl _, Int.le_refl _⟩
      · cases hs
    · next lo' hi' r' _ hx =>
      cases hx
      split at h
      · next l2 h2 hr =>
        cases h
        have key : (bif mz_le0 (l2 - lo') then lo' else l2) ≤ lo' ∧ (bif mz_le0 (l2 - lo') then lo' else l2) ≤ l2 := by
          cases hb : mz_le0 (l2 - lo') with
          | true => have := mz_le0_spec hb; show lo' ≤ lo' ∧ lo' ≤ l2; omega
          | false => have := mz_le0_f hb; show l2 ≤ lo' ∧ l2 ≤ l2; omega
        have key2 : hi' ≤ (bif mz_le0 (hi' - h2) then hi' else h2) ∧ h2 ≤ (bif mz_le0 (hi' - h2) then hi' else h2) := by
          cases hb : mz_le0 (hi' - h2) with
          | true => have := mz_le0_spec hb; show hi' ≤ hi' ∧ h2 ≤ hi'; omega
          | false => have := mz_le0_f hb; show hi' ≤ h2 ∧ h2 ≤ h2; omega
        rcases List.mem_cons.mp hs with rfl | hs
        · exact ⟨rfl, key.1, key2.1⟩
        · obtain ⟨q1, q2, q3⟩ := ih _ _ hr s hs
          exact ⟨q1, Int.le_trans key.2 q2, Int.le_trans q3 key2.2⟩
      · cases h
    · cases h
theorem mz_spr_ok {c : mz_Ce} {e : mz_E} {ρ : Nat → Int} {i : Nat} {v : Value} (hi : mz_ev ρ e = (i : Int)) (hv : mz_ok G (mz_at c i) v) (h9 : (mz_spr c e).1 ≠ 9) : mz_ok G (mz_spr c e) v := by
  cases hix : mz_ix c e with
  | some j =>
    have e1 : mz_spr c e = mz_spx c e := by unfold mz_spr mz_spx; rw [hix]
    rw [e1] at h9 ⊢
    rw [mz_spx_ok hi h9] at hv
    exact hv
  | none =>
    unfold mz_spr at h9 ⊢
    rw [hix] at h9 ⊢
    simp only at h9 ⊢
    split at h9
    · next lo hi' hh =>
      have hmem : mz_at c i ∈ c.2.2.2 ∨ mz_at c i = (9, 0, 0) := by
        unfold mz_at
        have key : ∀ j, c.2.2.2.getD j (9, 0, 0) ∈ c.2.2.2 ∨ c.2.2.2.getD j (9, 0, 0) = (9, 0, 0) := by
          intro j
          rw [List.getD_eq_getElem?_getD]
          cases hj : c.2.2.2[j]? with
          | none => exact .inr rfl
          | some s => exact .inl (List.mem_of_getElem? hj)
        split
        · exact key _
        · exact key _
      rcases hmem with hm | hm
      · obtain ⟨q1, q2, q3⟩ := mz_hull_ok _ _ _ hh _ hm
        unfold mz_ok at hv
        rw [q1] at hv
        cases v with
        | int x =>
          have h1 : (mz_at c i).2.1 ≤ x.toInt := hv.1
          have h2 : x.toInt ≤ (mz_at c i).2.2 := hv.2
          show lo ≤ x.toInt ∧ x.toInt ≤ hi'
          omega
        | _ => exact hv.elim
      · rw [hm] at hv
        cases v <;> exact hv.elim
    · exact absurd rfl h9
def mz_find (a i : Nat) : List (Nat × Nat) → List mz_E → Option mz_E
  | t :: ts, e :: es => bif Nat.beq t.1 a then bif Nat.beq t.2 i then some e else mz_find a i ts es else mz_find a i ts es
  | _, _ => none
theorem mz_find_ok {a i : Nat} {ρ : Nat → Int} {M : Nat → mq_C} {e : mz_E} : ∀ (ts : List (Nat × Nat)) (es : List mz_E), mz_gt G ρ M ts es → mz_find a i ts es = some e → mz_gt1 G ρ M (a, i) e := by
  intro ts
  induction ts with
  | nil => intro es _ h; cases h
  | cons t ts ih =>
    intro es hg h
    cases es with
    | nil => exact hg.elim
    | cons e' es =>
      unfold mz_find at h
      cases h1 : Nat.beq t.1 a with
      | false => rw [h1] at h; exact ih es hg.2 h
      | true =>
        cases h2 : Nat.beq t.2 i with
        | false => rw [h1, h2] at h; exact ih es hg.2 h
        | true =>
          rw [h1, h2] at h
          cases h
          have e1 := Nat.eq_of_beq_eq_true h1
          have e2 := Nat.eq_of_beq_eq_true h2
          have := hg.1
          obtain ⟨t1, t2⟩ := t
          cases e1
          cases e2
          exact this
def mz_subs (as bs : List Nat) : Bool := as.all (fun a => bs.elem a)
theorem mz_subs_ok {as bs : List Nat} (h : mz_subs as bs = true) {a : Nat} (ha : a ∈ as) : a ∈ bs := List.elem_iff.mp (List.all_eq_true.mp h a ha)
/-- all cells of the group have this length -/
def mz_ln (g : Nat) : Option mz_E := match G.2.1 g with
  | a :: _ => match G.1 a with
    | some c => bif mz_all G g (fun c' => Nat.beq c'.2.1 c.2.1) then some ((c.2.1 : Int), []) else none
    | none => none
  | [] => none
theorem mz_ln_ok {g b : Nat} {e : mz_E} {ρ : Nat → Int} (h : mz_ln G g = some e) (hb : b ∈ G.2.1 g) : ∃ c, G.1 b = some c ∧ (c.2.1 : Int) = mz_ev ρ e := by
  unfold mz_ln at h
  split at h
  · next a as _ =>
    split at h
    · next c _ =>
      obtain ⟨p, h⟩ := mz_bif4 h
      cases h
      obtain ⟨c', hc', hp⟩ := mz_all_ok G p hb
      exact ⟨c', hc', by rw [Nat.eq_of_beq_eq_true hp]; exact (Int.add_zero _).symm⟩
    · cases h
  · cases h
def mz_hd (g : Nat) : Option (mz_Ce × Option Nat) := match G.2.1 g with
  | [a] => match G.1 a with
    | some c => some (c, some a)
    | none => none
  | a :: _ => match G.1 a with
    | some c => some (c, none)
    | none => none
  | [] => none
theorem mz_hd_ok {g a b : Nat} {c : mz_Ce} (h : mz_hd G g = some (c, some a)) (hb : b ∈ G.2.1 g) : b = a := by
  unfold mz_hd at h
  split at h
  · next a' ha =>
    split at h
    · cases h
      rw [ha] at hb
      rcases List.mem_cons.mp hb with rfl | hb
      · rfl
      · cases hb
    · cases h
  · split at h <;> cases h
  · cases h
/-- the tracked slot that it is -/
def mz_ft (o : Option Nat) (ix : mz_E) (k : mz_K) : Option mz_E := match o, ix with
  | some a, (Int.ofNat i, []) => mz_find a i G.2.2.1 k.2.2.1
  | _, _ => none
theorem mz_ft_ok {g b i : Nat} {c : mz_Ce} {o : Option Nat} {ix e : mz_E} {k : mz_K} {ρ : Nat → Int} {M : Nat → mq_C} (h0 : mz_hd G g = some (c, o)) (hb : b ∈ G.2.1 g) (hi : mz_ev ρ ix = (i : Int)) (hg : mz_gt G ρ M G.2.2.1 k.2.2.1) (h : mz_ft G o ix k = some e) : mz_gt1 G ρ M (b, i) e := by
  unfold mz_ft at h
  split at h
  · next a i' =>
    have e1 := mz_hd_ok G h0 hb
    have e2 : (i' : Int) = (i : Int) := (Int.add_zero (i' : Int)).symm.trans hi
    have e3 : i' = i := Int.ofNat.inj e2
    rw [e1, ← e3]
    exact mz_find_ok G _ _ hg h
  · cases h
def mz_speq (s t : mz_Sp) : Bool := bif Nat.beq s.1 t.1 then (bif decide (s.2.1 = t.2.1) then decide (s.2.2 = t.2.2) else false) else false
theorem mz_speq_ok {s t : mz_Sp} (h : mz_speq s t = true) : s = t := by
  obtain ⟨h1, h⟩ := mz_bif h
  obtain ⟨h2, h3⟩ := mz_bif h
  obtain ⟨s1, s2, s3⟩ := s
  obtain ⟨t1, t2, t3⟩ := t
  have e1 : s1 = t1 := Nat.eq_of_beq_eq_true h1
  have e2 : s2 = t2 := of_decide_eq_true h2
  have e3 : s3 = t3 := of_decide_eq_true h3
  rw [e1, e2, e3]
/-- a reference out of a group of rows, at a place that isn't known -/
def mz_rdr (g : Nat) (k : mz_K) (hs : List mz_H) : Option (mz_V × mz_K × List mz_H) := match hs with
  | (g2, _) :: hs => bif mz_all G g (fun c' => c'.2.2.2.all (fun s => match s with
      | (1, gs, _) => mz_subs (G.2.1 gs.toNat) (G.2.1 g2)
      | _ => false)) then (match mz_ln G g2 with
        | some e => some ((1, g2, e), k, hs)
        | none => none) else none
  | [] => none
theorem mz_at_mem (c : mz_Ce) (i : Nat) : mz_at c i ∈ c.2.2.2 ∨ mz_at c i = (9, 0, 0) := by
  unfold mz_at
  have key : ∀ j, c.2.2.2.getD j (9, 0, 0) ∈ c.2.2.2 ∨ c.2.2.2.getD j (9, 0, 0) = (9, 0, 0) := by
    intro j
    rw [List.getD_eq_getElem?_getD]
    cases hj : c.2.2.2[j]? with
    | none => exact .inr rfl
    | some s => exact .inl (List.mem_of_getElem? hj)
  split
  · exact key _
  · exact key _
theorem mz_rdr_ok {n0 g b i : Nat} {k k' : mz_K} {hs hs' : List mz_H} {a : mz_V} {ρ : Nat → Int} {L : mq_L} {st : List Value} {M : Nat → mq_C} {v : Value} (h : mz_rdr G g k hs = some (a, k', hs')) (hg : mz_g G ρ k L st M) (hm : mz_sh G M) (hb : b ∈ G.2.1 g) (hv : (M b).2[i]? = some v) : ∃ ρ', mz_g G ρ' k' L st M ∧ mz_gv G ρ' a v ∧ (∀ i, i < n0 → ρ' i = ρ i) ∧ k'.1 = k.1 ∧ k'.2.1 = k.2.1 ∧ ((a.1 = 0 ∧ ∃ x, v = .int x) ∨ (a.1 = 1 ∧ ∃ x, v = .ref x)) := by
  unfold mz_rdr at h
  split at h
  · next g2 w hs =>
    obtain ⟨p, h⟩ := mz_bif4 h
    obtain ⟨cb, hcb, hq⟩ := mz_all_ok G p hb
    split at h
    · next e he =>
      cases h
      obtain ⟨m1, m2, m3⟩ := hm b cb hcb
      have hok := m3 i v hv
      rcases mz_at_mem cb i with hmem | hmem
      · have hs1 := List.all_eq_true.mp hq _ hmem
        split at hs1
        · next gs w1 hat =>
          rw [hat] at hok
          cases v with
          | ref x =>
            have hx2 := mz_subs_ok hs1 (show x ∈ G.2.1 gs.toNat from hok)
            exact ⟨ρ, hg, ⟨hx2, mz_ln_ok G he hx2⟩, fun _ _ => rfl, rfl, rfl, .inr ⟨rfl, x, rfl⟩⟩
          | _ => exact hok.elim
        · cases hs1
      · rw [hmem] at hok
        cases v <;> exact hok.elim
    · cases h
  · cases h
def mz_rd (n0 g : Nat) (ix : mz_E) (k : mz_K) (hs : List mz_H) : Option (mz_V × mz_K × List mz_H) := match mz_hd G g with
  | none => none
  | some (c, o) => match mz_spr c ix with
    | (0, lo, hi) => bif mz_all G g (fun c' => mz_speq (mz_spr c' ix) (0, lo, hi)) then (match mz_ft G o ix k with
        | some e => some ((0, 0, e), k, hs)
        | none => match mz_fresh n0 k lo hi with
          | some k' => some ((0, 0, (0, [(k.2.2.2.2, 1)])), k', hs)
          | none => none) else none
    | (1, _, _) => match hs with
      | (g2, _) :: hs => bif mz_all G g (fun c' => match mz_spr c' ix with
          | (1, gs, _) => mz_subs (G.2.1 gs.toNat) (G.2.1 g2)
          | _ => false) then (match mz_ft G o ix k with
            | some e => some ((1, g2, e), k, hs)
            | none => match mz_ln G g2 with
              | some e => some ((1, g2, e), k, hs)
              | none => none) else none
      | [] => none
    | _ => mz_rdr G g k hs
theorem mz_rd_ok {n0 g b i : Nat} {ix : mz_E} {k k' : mz_K} {hs hs' : List mz_H} {a : mz_V} {ρ : Nat → Int} {L : mq_L} {st : List Value} {M : Nat → mq_C} {v : Value} (h : mz_rd G n0 g ix k hs = some (a, k', hs')) (hg : mz_g G ρ k L st M) (hm : mz_sh G M) (hb : b ∈ G.2.1 g) (hi : mz_ev ρ ix = (i : Int)) (hv : (M b).2[i]? = some v) : ∃ ρ', mz_g G ρ' k' L st M ∧ mz_gv G ρ' a v ∧ (∀ i, i < n0 → ρ' i = ρ i) ∧ k'.1 = k.1 ∧ k'.2.1 = k.2.1 ∧ ((a.1 = 0 ∧ ∃ x, v = .int x) ∨ (a.1 = 1 ∧ ∃ x, v = .ref x)) := by
  unfold mz_rd at h
  split at h
  · cases h
  · next c o hh =>
    split at h
    · next lo hi' hsp =>
      obtain ⟨p, h⟩ := mz_bif4 h
      obtain ⟨cb, hcb, hq⟩ := mz_all_ok G p hb
      have hq := mz_speq_ok hq
      obtain ⟨m1, m2, m3⟩ := hm b cb hcb
      have hok := mz_spr_ok G (c := cb) hi (m3 i v hv) (by rw [hq]; exact fun h => by cases h)
      rw [hq] at hok
      obtain ⟨x, rfl, hx1, hx2⟩ : ∃ x, v = .int x ∧ lo ≤ x.toInt ∧ x.toInt ≤ hi' := by
        cases v with
        | int x => exact ⟨x, rfl, hok.1, hok.2⟩
        | _ => exact hok.elim
      split at h
      · next e he =>
        cases h
        have ht := mz_ft_ok G hh hb hi hg.2.2.1 he
        unfold mz_gt1 at ht
        simp only [hv] at ht
        exact ⟨ρ, hg, ht, fun _ _ => rfl, rfl, rfl, .inl ⟨rfl, x, rfl⟩⟩
      · split at h
        · next k1 hk =>
          cases h
          obtain ⟨ρ', g', hr, hn, h0, q1, q2, q3⟩ := mz_fresh_ok G hk hg hx1 hx2
          refine ⟨ρ', g', ?_, fun i hi => hr i (Nat.lt_of_lt_of_le hi h0), q1, q2, .inl ⟨rfl, x, rfl⟩⟩
          show x.toInt = 0 + (1 * ρ' k.2.2.2.2 + 0)
          rw [hn]; omega
        · cases h
    · next gs0 w0 hsp =>
      split at h
      · next g2 w hs =>
        obtain ⟨p, h⟩ := mz_bif4 h
        obtain ⟨cb, hcb, hq⟩ := mz_all_ok G p hb
        split at hq
        · next gs w1 hq1 =>
          obtain ⟨m1, m2, m3⟩ := hm b cb hcb
          have hok := mz_spr_ok G (c := cb) hi (m3 i v hv) (by rw [hq1]; exact fun h => by cases h)
          rw [hq1] at hok
          obtain ⟨x, rfl, hx⟩ : ∃ x, v = .ref x ∧ x ∈ G.2.1 gs.toNat := by
            cases v with
            | ref x => exact ⟨x, rfl, hok⟩
            | _ => exact hok.elim
          have hx2 := mz_subs_ok hq hx
          split at h
          · next e he =>
            cases h
            have ht := mz_ft_ok G hh hb hi hg.2.2.1 he
            unfold mz_gt1 at ht
            simp only [hv] at ht
            exact ⟨ρ, hg, ⟨hx2, ht⟩, fun _ _ => rfl, rfl, rfl, .inr ⟨rfl, x, rfl⟩⟩
          · split at h
            · next e he =>
              cases h
              exact ⟨ρ, hg, ⟨hx2, mz_ln_ok G he hx2⟩, fun _ _ => rfl, rfl, rfl, .inr ⟨rfl, x, rfl⟩⟩
            · cases h
        · cases hq
      · cases h
    · exact mz_rdr_ok G h hg hm hb hv
def mz_get : mz_F := fun n0 ns _ k hs => match ns, k.2.1 with
  | n :: ci :: j :: _, (1, g, _) :: r => bif mz_all G g (fun c => bif Nat.beq c.1 ci then Nat.blt j c.2.1 else false) then (match mz_rd G n0 g ((j : Int), []) k hs with
      | some (a, k', hs') => some ([(n, (k'.1, a :: r, k'.2.2))], hs')
      | none => none) else none
  | _, _ => none
theorem mz_lk {c : mq_C} {n j : Nat} (h : c.2.length = n) (hj : j < n) : ∃ v, c.2[j]? = some v := ⟨c.2[j]'(by omega), List.getElem?_eq_getElem (by omega)⟩
theorem mz_get_ok : mz_sd G (mz_get G) mq_o_get := by
  intro n0 ns cs k hs ss hs' ρ L st M z u h hg hm
  unfold mz_get at h
  split at h
  · next n ci j ns' g le r hk =>
    obtain ⟨p, h⟩ := mz_bif4 h
    split at h
    · next a k' hs2 hn =>
      cases h
      have hst := hg.2.1
      rw [hk] at hst
      obtain ⟨v, r1, rfl, hv, hr1⟩ := mz_gs_c G hst
      obtain ⟨b, rfl, hb, -⟩ := mz_gv_r G hv
      obtain ⟨c, hc, hp⟩ := mz_all_ok G p hb
      obtain ⟨hp1, hp2⟩ := mz_bif hp
      obtain ⟨m1, m2, m3⟩ := hm b c hc
      obtain ⟨w, hw⟩ := mz_lk m2 (Nat.le_of_ble_eq_true hp2)
      obtain ⟨ρ', g', hgv, hr, q1, q2, -⟩ := mz_rd_ok G hn hg hm hb (i := j) (Int.add_zero _) hw
      show mz_so G n0 z u ρ M (if (M b).1 = ci then (match (M b).2[j]? with
        | some v => mq_nx n L (v :: r1) (M, z, u)
        | none => none) else none) _
      rw [if_pos (m1.trans (Nat.eq_of_beq_eq_true hp1)), hw]
      refine mz_so1 G ⟨g'.1, ⟨hgv, ?_⟩, g'.2.2⟩ hr hm
      have := g'.2.1
      rw [q2, hk] at this
      exact this.2
    · cases h
  · cases h
theorem mz_clamp {x : Int32} {n : Nat} (h : x.toInt = (n : Int)) : x.toNatClampNeg = n ∧ ¬ x < 0 := by
  constructor
  · show x.toInt.toNat = n
    rw [h]; rfl
  · rw [Int32.lt_iff_toInt_lt, mz_z0, h]; omega
/-- what is loaded out of an array of this kind -/
def mz_lf (kind t : Nat) : Bool := match t with
  | 0 => bif Nat.beq kind 66 then false else Nat.blt kind 70
  | 1 => bif Nat.beq kind 66 then false else bif Nat.blt kind 70 then false else true
  | _ => false
def mz_ald : mz_F := fun n0 ns _ k hs => match ns, k.2.1, hs with
  | [n, kind], (0, _, ix) :: (1, g, le) :: r, h1 :: h2 :: hs => bif mz_all G g (fun c => bif Nat.beq c.1 kind then true else bif Nat.beq kind 64 then Nat.beq c.1 60 else false) then bif mz_pv k.2.2.2.1 h1 ix then bif mz_pv k.2.2.2.1 h2 (mz_add (mz_add (-1, []) le) (mz_mul (-1) ix)) then (match mz_rd G n0 g ix k hs with
      | some (a, k', hs') => bif mz_lf kind a.1 then some ([(n, (k'.1, a :: r, k'.2.2))], hs') else none
      | none => none) else none else none else none
  | _, _, _ => none
theorem mz_ald_ok : mz_sd G (mz_ald G) mq_o_ald := by
  intro n0 ns cs k hs ss hs' ρ L st M z u h hg hm
  unfold mz_ald at h
  split at h
  · next n kind gi ix g le r h1 h2 hs hk =>
    obtain ⟨p, h⟩ := mz_bif4 h
    obtain ⟨p1, h⟩ := mz_bif4 h
    obtain ⟨p2, h⟩ := mz_bif4 h
    split at h
    · next a k' hs2 hn =>
      obtain ⟨p3, h⟩ := mz_bif4 h
      cases h
      have hst := hg.2.1
      rw [hk] at hst
      obtain ⟨v, r1, rfl, hv, hr1⟩ := mz_gs_c G hst
      obtain ⟨X, rfl, hX⟩ := mz_gv_i G hv
      obtain ⟨v2, r2, rfl, hv2, hr2⟩ := mz_gs_c G hr1
      obtain ⟨b, rfl, hb, c', hc', hle⟩ := mz_gv_r G hv2
      obtain ⟨c, hc, hp⟩ := mz_all_ok G p hb
      have hcc : c' = c := Option.some.inj (hc'.symm.trans hc)
      rw [hcc] at hle
      obtain ⟨m1, m2, m3⟩ := hm b c hc
      have q1 := mz_pv_spec hg.2.2.2 p1
      have q2 := mz_pv_spec hg.2.2.2 p2
      rw [mz_add_ev, mz_m1, mz_ng, ← hle] at q2
      obtain ⟨i, hi⟩ := Int.eq_ofNat_of_zero_le q1
      obtain ⟨w, hw⟩ := mz_lk (j := i) m2 (by omega)
      obtain ⟨ρ', g', hgv, hr, z1, z2, hty⟩ := mz_rd_ok G hn hg hm hb hi hw
      obtain ⟨hcl, hn0⟩ := mz_clamp (hX.trans hi)
      have hkind : (M b).1 = kind ∨ (kind = 64 ∧ (M b).1 = 60) := by
        rw [m1]
        cases hk1 : Nat.beq c.1 kind with
        | true => exact .inl (Nat.eq_of_beq_eq_true hk1)
        | false =>
          rw [hk1] at hp
          obtain ⟨hp1, hp2⟩ := mz_bif hp
          exact .inr ⟨Nat.eq_of_beq_eq_true hp1, Nat.eq_of_beq_eq_true hp2⟩
      have hfit : mq_fit (if kind = 66 then 2 else if kind < 70 then 0 else 3) w = true := by
        rcases hty with ⟨ht, x, rfl⟩ | ⟨ht, x, rfl⟩
        · rw [ht] at p3
          have p3' : (bif Nat.beq kind 66 then false else Nat.blt kind 70) = true := p3
          cases h66 : Nat.beq kind 66 with
          | true => rw [h66] at p3'; cases p3'
          | false =>
            rw [h66] at p3'
            rw [if_neg (fun e => by rw [e] at h66; cases h66), if_pos (show kind < 70 from Nat.le_of_ble_eq_true p3')]
            rfl
        · rw [ht] at p3
          have p3' : (bif Nat.beq kind 66 then false else bif Nat.blt kind 70 then false else true) = true := p3
          cases h66 : Nat.beq kind 66 with
          | true => rw [h66] at p3'; cases p3'
          | false =>
            cases h70 : Nat.blt kind 70 with
            | true => rw [h66, h70] at p3'; cases p3'
            | false =>
              rw [if_neg (fun e => by rw [e] at h66; cases h66), if_neg (fun e => by rw [show Nat.blt kind 70 = true from Nat.ble_eq.mpr e] at h70; cases h70)]
              rfl
      show mz_so G n0 z u ρ M (if ((M b).1 = kind ∨ (kind = 64 ∧ (M b).1 = 60)) ∧ ¬ X < 0 then (match (M b).2[X.toNatClampNeg]? with
        | some v => if mq_fit (if kind = 66 then 2 else if kind < 70 then 0 else 3) v = true then mq_nx n L (v :: r2) (M, z, u) else none
        | none => none) else none) _
      rw [if_pos ⟨hkind, hn0⟩, hcl, hw]
      show mz_so G n0 z u ρ M (if mq_fit (if kind = 66 then 2 else if kind < 70 then 0 else 3) w = true then mq_nx n L (w :: r2) (M, z, u) else none) _
      rw [if_pos hfit]
      refine mz_so1 G ⟨g'.1, ⟨hgv, ?_⟩, g'.2.2⟩ hr hm
      have := g'.2.1
      rw [z2, hk] at this
      exact this.2.2
    · cases h
  · cases h
/-! writing -/
def mz_upd (a i : Nat) (e : mz_E) : List (Nat × Nat) → List mz_E → List mz_E
  | t :: ts, x :: es => (bif Nat.beq t.1 a then bif Nat.beq t.2 i then e else x else x) :: mz_upd a i e ts es
  | _, es => es
/-- the cell b with v in place i -/
def mz_put1 (M : Nat → mq_C) (b kd i : Nat) (v : Value) : Nat → mq_C := va_up M b (kd, (M b).2.set i v)
theorem mz_put1_ne {M : Nat → mq_C} {b kd i a j : Nat} {v : Value} (h : ¬ (a = b ∧ j = i)) : (mz_put1 M b kd i v a).2[j]? = (M a).2[j]? := by
  unfold mz_put1
  by_cases hab : a = b
  · subst hab
    rw [va_up_self]
    show ((M a).2.set i v)[j]? = _
    rw [List.getElem?_set_ne]
    exact fun e => h ⟨rfl, e.symm⟩
  · rw [va_up_ne _ _ hab]
theorem mz_gt1_ne {ρ : Nat → Int} {M : Nat → mq_C} {b kd i : Nat} {v : Value} {t : Nat × Nat} {e : mz_E} (h : ¬ (t.1 = b ∧ t.2 = i)) (hg : mz_gt1 G ρ M t e) : mz_gt1 G ρ (mz_put1 M b kd i v) t e := by
  unfold mz_gt1 at hg ⊢
  rw [mz_put1_ne h]
  exact hg
theorem mz_upd_ok {ρ : Nat → Int} {M : Nat → mq_C} {b kd i : Nat} {v : Value} {e : mz_E} (hn : mz_gt1 G ρ (mz_put1 M b kd i v) (b, i) e) : ∀ (ts : List (Nat × Nat)) (es : List mz_E), mz_gt G ρ M ts es → mz_gt G ρ (mz_put1 M b kd i v) ts (mz_upd b i e ts es) := by
  intro ts
  induction ts with
  | nil => intro es h; cases es with
    | nil => exact h
    | cons x es => exact h
  | cons t ts ih =>
    intro es h
    cases es with
    | nil => exact h
    | cons x es =>
      refine ⟨?_, ih es h.2⟩
      cases h1 : Nat.beq t.1 b with
      | false => exact mz_gt1_ne G (fun hh => by rw [hh.1, Nat.beq_refl] at h1; cases h1) h.1
      | true =>
        cases h2 : Nat.beq t.2 i with
        | false => exact mz_gt1_ne G (fun hh => by rw [hh.2, Nat.beq_refl] at h2; cases h2) h.1
        | true =>
          have e1 := Nat.eq_of_beq_eq_true h1
          have e2 := Nat.eq_of_beq_eq_true h2
          obtain ⟨t1, t2⟩ := t
          cases e1
          cases e2
          exact hn
/-- none of the slots is in the group (at this place, where it is known) -/
def mz_not (l : List (Nat × Nat)) (g : Nat) (ix : mz_E) : Bool := l.all (fun t => bif (G.2.1 g).elem t.1 then (match ix with
  | (Int.ofNat i, []) => bif Nat.beq t.2 i then false else true
  | _ => false) else true)
theorem mz_not_ok {l : List (Nat × Nat)} {g b i : Nat} {ix : mz_E} {ρ : Nat → Int} (h : mz_not G l g ix = true) (hb : b ∈ G.2.1 g) (hi : mz_ev ρ ix = (i : Int)) : ∀ t ∈ l, ¬ (t.1 = b ∧ t.2 = i) := by
  intro t ht ⟨e1, e2⟩
  have := List.all_eq_true.mp h t ht
  rw [e1, List.elem_iff.mpr hb] at this
  simp only [cond_true] at this
  split at this
  · next i' =>
    have e3 : (i' : Int) = (i : Int) := (Int.add_zero (i' : Int)).symm.trans hi
    have e4 : i' = i := Int.ofNat.inj e3
    rw [e2, e4, Nat.beq_refl] at this
    cases this
  · cases this
theorem mz_gt_ne {ρ : Nat → Int} {M : Nat → mq_C} {b kd i : Nat} {v : Value} : ∀ (ts : List (Nat × Nat)) (es : List mz_E), (∀ t ∈ ts, ¬ (t.1 = b ∧ t.2 = i)) → mz_gt G ρ M ts es → mz_gt G ρ (mz_put1 M b kd i v) ts es := by
  intro ts
  induction ts with
  | nil => intro es _ h; cases es with
    | nil => exact h
    | cons x es => exact h
  | cons t ts ih =>
    intro es hn h
    cases es with
    | nil => exact h
    | cons x es => exact ⟨mz_gt1_ne G (hn t (List.mem_cons_self ..)) h.1, ih es (fun t ht => hn t (List.mem_cons_of_mem _ ht)) h.2⟩
def mz_wt (g : Nat) (ix e : mz_E) (es : List mz_E) : Option (List mz_E) := match G.2.1 g, ix with
  | [a], (Int.ofNat i, []) => some (mz_upd a i e G.2.2.1 es)
  | _, _ => bif mz_not G G.2.2.1 g ix then some es else none
theorem mz_wt_ok {g b kd i : Nat} {ix e : mz_E} {es es' : List mz_E} {ρ : Nat → Int} {M : Nat → mq_C} {v : Value} (h : mz_wt G g ix e es = some es') (hb : b ∈ G.2.1 g) (hi : mz_ev ρ ix = (i : Int)) (hn : mz_gt1 G ρ (mz_put1 M b kd i v) (b, i) e) (hg : mz_gt G ρ M G.2.2.1 es) : mz_gt G ρ (mz_put1 M b kd i v) G.2.2.1 es' := by
  unfold mz_wt at h
  split at h
  · next a i' ha =>
    cases h
    rw [ha] at hb
    rcases List.mem_cons.mp hb with rfl | hb
    · have e3 : (i' : Int) = (i : Int) := (Int.add_zero (i' : Int)).symm.trans hi
      have e4 : i' = i := Int.ofNat.inj e3
      rw [e4]
      exact mz_upd_ok G hn _ _ hg
    · cases hb
  · obtain ⟨p, h⟩ := mz_bif4 h
    cases h
    exact mz_gt_ne G _ _ (mz_not_ok G p hb hi) hg
theorem mz_sh_put {M : Nat → mq_C} {b i : Nat} {c : mz_Ce} {v : Value} (hm : mz_sh G M) (hc : G.1 b = some c) (hv : mz_ok G (mz_at c i) v) : mz_sh G (mz_put1 M b c.1 i v) := by
  intro a ca ha
  obtain ⟨m1, m2, m3⟩ := hm a ca ha
  unfold mz_put1
  by_cases hab : a = b
  · subst hab
    rw [hc] at ha
    cases ha
    rw [va_up_self]
    refine ⟨rfl, ?_, ?_⟩
    · show ((M a).2.set i v).length = _
      rw [List.length_set]; exact m2
    · intro j w hw
      have hw' : ((M a).2.set i v)[j]? = some w := hw
      by_cases hij : i = j
      · subst hij
        rw [List.getElem?_set_self'] at hw'
        cases hx : (M a).2[i]? with
        | none => rw [hx] at hw'; cases hw'
        | some y => rw [hx] at hw'; cases hw'; exact hv
      · rw [List.getElem?_set_ne hij] at hw'
        exact m3 j w hw'
  · rw [va_up_ne _ _ hab]
    exact ⟨m1, m2, m3⟩
theorem mz_put1_self {M : Nat → mq_C} {b kd i : Nat} {v : Value} (hi : i < (M b).2.length) : (mz_put1 M b kd i v b).2[i]? = some v := by
  unfold mz_put1
  rw [va_up_self]
  show ((M b).2.set i v)[i]? = _
  rw [List.getElem?_set_self hi]
/-- a value is laid into a group: its range, then what is tracked -/
def mz_wr (g : Nat) (ix : mz_E) (a : mz_V) (bo : Bool) (k : mz_K) (hs : List mz_H) : Option (List mz_E × List mz_H) := bif (G.2.1 g).all (fun b => bif G.2.2.2.1 b then false else true) then bif mz_not G G.2.2.2.2 g ix then (match a with
  | (0, _, e) => match mz_hd G g, hs with
    | some (c, _), h1 :: h2 :: hs => (match mz_spx c ix with
      | (0, lo, hi) => bif mz_all G g (fun c' => mz_speq (mz_spx c' ix) (0, lo, hi)) then bif mz_pv k.2.2.2.1 h1 (mz_add (-lo, []) e) then bif mz_pv k.2.2.2.1 h2 (mz_add (hi, []) (mz_mul (-1) e)) then bif (bif bo then bif mz_le0 lo then mz_le0 (1 - hi) else false else true) then (match mz_wt G g ix e k.2.2.1 with
          | some es => some (es, hs)
          | none => none) else none else none else none else none
      | _ => none)
    | _, _ => none
  | (1, gv, le) => bif mz_all G g (fun c' => match mz_spx c' ix with
      | (1, gs, _) => mz_subs (G.2.1 gv) (G.2.1 gs.toNat)
      | _ => false) then (match mz_wt G g ix le k.2.2.1 with
        | some es => some (es, hs)
        | none => none) else none
  | (2, _, _) => bif mz_all G g (fun c' => match mz_spx c' ix with
      | (2, _, _) => true
      | _ => false) then bif mz_not G G.2.2.1 g ix then some (k.2.2.1, hs) else none else none
  | _ => none) else none else none
theorem mz_wr_ok {g b i : Nat} {ix : mz_E} {a : mz_V} {bo : Bool} {k : mz_K} {hs hs' : List mz_H} {es : List mz_E} {ρ : Nat → Int} {L : mq_L} {st : List Value} {M : Nat → mq_C} {v : Value} {c : mz_Ce} (h : mz_wr G g ix a bo k hs = some (es, hs')) (hg : mz_g G ρ k L st M) (hm : mz_sh G M) (hb : b ∈ G.2.1 g) (hc : G.1 b = some c) (hi : mz_ev ρ ix = (i : Int)) (hil : i < c.2.1) (hv : mz_gv G ρ a v) : mz_gt G ρ (mz_put1 M b c.1 i v) G.2.2.1 es ∧ mz_sh G (mz_put1 M b c.1 i v) ∧ mz_same G M (mz_put1 M b c.1 i v) ∧ (bo = true → a.1 = 0 → ∃ x, v = .int x ∧ (x = 0 ∨ x = 1)) ∧ a.1 < 3 := by
  unfold mz_wr at h
  obtain ⟨p, h⟩ := mz_bif4 h
  obtain ⟨pz, h⟩ := mz_bif4 h
  have hex : mz_same G M (mz_put1 M b c.1 i v) := by
    refine ⟨fun d hd => ?_, fun t ht => mz_put1_ne (mz_not_ok G pz hb hi t ht)⟩
    have := List.all_eq_true.mp p b hb
    refine va_up_ne _ _ ?_
    rintro rfl
    rw [hd] at this
    cases this
  obtain ⟨m1, m2, m3⟩ := hm b c hc
  have hil' : i < (M b).2.length := by omega
  split at h
  · next gx e =>
    obtain ⟨x, rfl, hx⟩ := mz_gv_i G hv
    split at h
    · next c0 o0 h1 h2 hs hh =>
      split at h
      · next lo hi' hsp =>
        obtain ⟨p0, h⟩ := mz_bif4 h
        obtain ⟨p1, h⟩ := mz_bif4 h
        obtain ⟨p2, h⟩ := mz_bif4 h
        obtain ⟨p3, h⟩ := mz_bif4 h
        split at h
        · next es' hw =>
          cases h
          obtain ⟨cb, hcb, hq⟩ := mz_all_ok G p0 hb
          rw [hc] at hcb
          cases hcb
          have hq := mz_speq_ok hq
          have hat := mz_spx_ok (c := c) hi (by rw [hq]; exact fun h => by cases h)
          have q1 := mz_pv_spec hg.2.2.2 p1
          rw [mz_add_ev] at q1
          have e1 : mz_ev ρ ((-lo : Int), []) = -lo := Int.add_zero _
          rw [e1] at q1
          have q2 := mz_pv_hi hg.2.2.2 p2
          have hlo : lo ≤ x.toInt := by omega
          have hhi : x.toInt ≤ hi' := by omega
          refine ⟨mz_wt_ok G hw hb hi ?_ hg.2.2.1, mz_sh_put G hm hc (by rw [hat, hq]; exact ⟨hlo, hhi⟩), hex, ?_, show (0 : Nat) < 3 from by decide⟩
          · unfold mz_gt1
            rw [mz_put1_self hil']
            exact hx
          · intro hbo _
            rw [hbo] at p3
            obtain ⟨r1, r2⟩ := mz_bif (a := mz_le0 lo) p3
            have r1 := mz_le0_spec r1
            have r2 := mz_le0_spec r2
            refine ⟨x, rfl, ?_⟩
            rw [mz_eq0, mz_eq0 (y := 1), mz_z0]
            have e3 : (1 : Int32).toInt = 1 := rfl
            rw [e3]
            omega
        · cases h
      · cases h
    · cases h
  · next gv le =>
    obtain ⟨x, rfl, hx, c', hc', hle⟩ := mz_gv_r G hv
    obtain ⟨p0, h⟩ := mz_bif4 h
    split at h
    · next es' hw =>
      cases h
      obtain ⟨cb, hcb, hq⟩ := mz_all_ok G p0 hb
      rw [hc] at hcb
      cases hcb
      split at hq
      · next gs w1 hq1 =>
        have hat := mz_spx_ok (c := c) hi (by rw [hq1]; exact fun h => by cases h)
        refine ⟨mz_wt_ok G hw hb hi ?_ hg.2.2.1, mz_sh_put G hm hc (by rw [hat, hq1]; exact mz_subs_ok hq hx), hex, fun _ h0 => absurd (show (1 : Nat) = 0 from h0) (by decide), show (1 : Nat) < 3 from by decide⟩
        unfold mz_gt1
        rw [mz_put1_self hil']
        exact ⟨c', hc', hle⟩
      · cases hq
    · cases h
  · next gl el =>
    obtain ⟨x, rfl, hx⟩ := mz_gv_l G hv
    obtain ⟨p0, h⟩ := mz_bif4 h
    obtain ⟨p1, h⟩ := mz_bif4 h
    cases h
    obtain ⟨cb, hcb, hq⟩ := mz_all_ok G p0 hb
    rw [hc] at hcb
    cases hcb
    split at hq
    · next w0 w1 hq1 =>
      have hat := mz_spx_ok (c := c) hi (by rw [hq1]; exact fun h => by cases h)
      exact ⟨mz_gt_ne G _ _ (mz_not_ok G p1 hb hi) hg.2.2.1, mz_sh_put G hm hc (by rw [hat, hq1]; trivial), hex, fun _ h0 => absurd (show (2 : Nat) = 0 from h0) (by decide), show (2 : Nat) < 3 from by decide⟩
    · cases hq
  · cases h
end VCM
