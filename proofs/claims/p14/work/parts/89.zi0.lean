/-! WHAT UNPACKING MEANS, as functions: numbers out of bits, tables of signs, how a sign is read. -/
def xb (B : Nat → Int) (a : Nat) : Nat → Int
  | 0 => 0
  | k + 1 => xb B a k + B (a + k) * 2 ^ k
theorem xb_b {B : Nat → Int} (h : ∀ i, B i = 0 ∨ B i = 1) (a : Nat) : ∀ k, 0 ≤ xb B a k ∧ xb B a k < 2 ^ k := by
  intro k
  induction k with
  | zero => exact ⟨Int.le_refl _, by show (0 : Int) < 1; decide⟩
  | succ k ih =>
    have e : (2 : Int) ^ (k + 1) = 2 ^ k * 2 := Int.pow_succ 2 k
    have p : (0 : Int) < 2 ^ k := Int.pow_pos (by decide)
    show 0 ≤ xb B a k + B (a + k) * 2 ^ k ∧ xb B a k + B (a + k) * 2 ^ k < 2 ^ (k + 1)
    rw [e]
    rcases h (a + k) with h1 | h1 <;> rw [h1] <;> constructor <;> omega
/-- how many of the first n have this length -/
def xc (f : Nat → Int) (n b : Nat) : Int := hb_cnt (fun i => decide (f i = (b : Int))) n
/-- how many have a shorter one, but 0 -/
def xq (f : Nat → Int) (n b : Nat) : Int := hb_sum (fun t => xc f n (t + 1)) (b - 1)
/-- the place of sign i among all in the order of length, then number -/
def xp (f : Nat → Int) (n i : Nat) : Int := xq f n (f i).toNat + hb_cnt (fun j => decide (f j = f i)) i
def xg (f : Nat → Int) (n : Nat) (k : Int) : Int := match (List.range n).find? (fun i => decide (1 ≤ f i) && decide (xp f n i = k)) with
  | some i => (i : Int)
  | none => 0
theorem xn_nth {p : Nat → Bool} {k : Int} (h0 : 0 ≤ k) : ∀ n, k < hb_cnt p n → ∃ i, i < n ∧ p i = true ∧ hb_cnt p i = k := by
  intro n
  induction n with
  | zero =>
    intro h
    have : hb_cnt p 0 = 0 := rfl
    omega
  | succ n ih =>
    intro h
    have e : hb_cnt p (n + 1) = hb_cnt p n + (if p n = true then 1 else 0) := rfl
    by_cases h1 : k < hb_cnt p n
    · obtain ⟨i, a, b, c⟩ := ih h1
      exact ⟨i, by omega, b, c⟩
    · by_cases h2 : p n = true
      · rw [if_pos h2] at e
        exact ⟨n, by omega, h2, by omega⟩
      · rw [if_neg h2] at e
        omega
/-- a row that has each sign at its place is the row of signs -/
theorem xg_eq {f : Nat → Int} {n : Nat} {S : Int → Int} (hT : ∀ i, i < n → 1 ≤ f i → S (xp f n i) = (i : Int)) {b : Nat} {k : Int} (hb : 1 ≤ b) (h0 : 0 ≤ k) (h1 : k < xc f n b) : S (xq f n b + k) = xg f n (xq f n b + k) := by
  obtain ⟨i, hi, hp, hc⟩ := xn_nth h0 n h1
  have hf : f i = (b : Int) := of_decide_eq_true hp
  have ei : xp f n i = xq f n b + k := by
    unfold xp
    rw [hf]
    show xq f n ((b : Int).toNat) + hb_cnt (fun j => decide (f j = (b : Int))) i = _
    rw [hc]
    rfl
  unfold xg
  cases hF : (List.range n).find? (fun i => decide (1 ≤ f i) && decide (xp f n i = xq f n b + k)) with
  | none =>
    have := List.find?_eq_none.mp hF i (List.mem_range.mpr hi)
    rw [decide_eq_true (by omega : 1 ≤ f i), decide_eq_true ei] at this
    exact absurd rfl this
  | some i' =>
    have h2 := List.find?_some hF
    have h3 := List.mem_range.mp (List.mem_of_find?_eq_some hF)
    rw [Bool.and_eq_true] at h2
    have h4 := of_decide_eq_true h2.1
    have h5 := of_decide_eq_true h2.2
    rw [← h5]
    exact hT i' h3 h4
theorem xc_0 (f : Nat → Int) (n b : Nat) : 0 ≤ xc f n b := hb_cnt_0 n
theorem xq_s {f : Nat → Int} {n b : Nat} (hb : 1 ≤ b) : xq f n (b + 1) = xq f n b + xc f n b := by
  obtain ⟨c, rfl⟩ : ∃ c, b = c + 1 := ⟨b - 1, by omega⟩
  rfl
theorem xq_m {f : Nat → Int} {n b c : Nat} (h : b ≤ c) : xq f n b ≤ xq f n c := hb_sum_m _ (by omega) (fun i _ => xc_0 f n (i + 1))
/-- two signs have two places -/
theorem xp_ne {f : Nat → Int} {n i j : Nat} (hi : i < n) (hj : j < i) (h1 : 1 ≤ f i) (h2 : 1 ≤ f j) : xp f n i ≠ xp f n j := by
  have key : ∀ i, i < n → 1 ≤ f i → xq f n (f i).toNat ≤ xp f n i ∧ xp f n i < xq f n ((f i).toNat + 1) := by
    intro i hi h1
    have e0 := hb_cnt_0 (p := fun j => decide (f j = f i)) i
    have e1 : hb_cnt (fun j => decide (f j = f i)) (i + 1) = hb_cnt (fun j => decide (f j = f i)) i + 1 := by
      show hb_cnt (fun j => decide (f j = f i)) i + (if decide (f i = f i) = true then 1 else 0) = _
      rw [if_pos (decide_eq_true rfl)]
    have e2 := hb_cnt_m (p := fun j => decide (f j = f i)) (show i + 1 ≤ n by omega)
    have e3 : hb_cnt (fun j => decide (f j = f i)) n = xc f n (f i).toNat := by
      unfold xc
      rw [show (((f i).toNat : Nat) : Int) = f i by omega]
    rw [xq_s (by omega)]
    unfold xp
    omega
  have ki := key i hi h1
  have kj := key j (by omega) h2
  intro e
  rcases Int.lt_trichotomy (f i) (f j) with h | h | h
  · have := xq_m (f := f) (n := n) (show (f i).toNat + 1 ≤ (f j).toNat by omega)
    omega
  · unfold xp at e
    rw [h] at e
    have e1 : hb_cnt (fun t => decide (f t = f j)) (j + 1) = hb_cnt (fun t => decide (f t = f j)) j + 1 := by
      show hb_cnt (fun t => decide (f t = f j)) j + (if decide (f j = f j) = true then 1 else 0) = _
      rw [if_pos (decide_eq_true rfl)]
    have e2 := hb_cnt_m (p := fun t => decide (f t = f j)) (show j + 1 ≤ i by omega)
    omega
  · have := xq_m (f := f) (n := n) (show (f j).toNat + 1 ≤ (f i).toNat by omega)
    omega
/-- one sign out of the bits from a on: E is their end -/
def xs (f : Nat → Int) (n E : Nat) (B : Nat → Int) : Nat → Nat → Int → Int → Int → Nat → Option (Int × Nat)
  | 0, _, _, _, _, _ => none
  | m + 1, b, code, first, before, a => if a < E then
      (if 2 * code + B a - first < xc f n b then some (xg f n (before + (2 * code + B a - first)), a + 1)
      else xs f n E B m (b + 1) (2 * code + B a) (2 * (first + xc f n b)) (before + xc f n b) (a + 1)) else none
def xsg (f : Nat → Int) (n E : Nat) (B : Nat → Int) (a : Nat) : Option (Int × Nat) := xs f n E B 15 1 0 0 0 a
/-- how much of the room of 15 bits the lengths take -/
def xf (f : Nat → Int) (n : Nat) : Int := hb_sum (fun t => xc f n (t + 1) * 2 ^ (14 - t)) 15
