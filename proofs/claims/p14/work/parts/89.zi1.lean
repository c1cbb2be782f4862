/-! More on rows of lengths. -/
theorem xc_s {f : Nat → Int} {n b : Nat} : xc f (n + 1) b = xc f n b + (if f n = (b : Int) then 1 else 0) := by
  unfold xc
  show hb_cnt _ n + (if decide (f n = (b : Int)) = true then 1 else 0) = _
  by_cases h : f n = (b : Int)
  · rw [if_pos (decide_eq_true h), if_pos h]
  · rw [if_neg (fun h' => h (of_decide_eq_true h')), if_neg h]
theorem xq_n {f : Nat → Int} {n b : Nat} : xq f (n + 1) b ≤ xq f n b + 1 := by
  have e : xq f (n + 1) b = xq f n b + hb_sum (fun t => if f n - 1 = (t : Int) then 1 else 0) (b - 1) := by
    unfold xq
    rw [← hb_sum_add]
    refine hb_sum_c _ (fun t _ => ?_)
    rw [xc_s]
    by_cases h : f n = ((t + 1 : Nat) : Int)
    · rw [if_pos h, if_pos (by omega)]
    · rw [if_neg h, if_neg (by omega)]
  have h1 := (hb_sum_1 (v := f n - 1) (b - 1)).2.1
  omega
theorem xq_le {f : Nat → Int} {b : Nat} : ∀ n, xq f n b ≤ (n : Int) := by
  intro n
  induction n with
  | zero =>
    have : xq f 0 b = 0 := by
      unfold xq
      rw [hb_sum_c (f := fun t => xc f 0 (t + 1)) (g := fun _ => 0) (b - 1) (fun t _ => rfl)]
      generalize b - 1 = m
      induction m with
      | zero => rfl
      | succ m ih => show hb_sum (fun _ => 0) m + 0 = 0; omega
    omega
  | succ n ih =>
    have := xq_n (f := f) (n := n) (b := b)
    omega
theorem xq_1 {f : Nat → Int} {n : Nat} : xq f n 1 = 0 := rfl
theorem xq_0 {f : Nat → Int} {n b : Nat} : 0 ≤ xq f n b := hb_sum_0 _ (fun t _ => xc_0 f n (t + 1))
/-- x twice, and a bit -/
theorem xe_shl1 {x c v : Int32} (h0 : 0 ≤ x.toInt) (h1 : x.toInt < 1048576) (hc : c.toInt = 1) (hv : v = x <<< (c &&& 31)) : v.toInt = 2 * x.toInt := by
  have e : ((2 ^ 1 : Nat) : Int) = 2 := by decide
  rw [hv, mz_shl32 (k := 1) (by decide) hc (by rw [e]; omega), e]
theorem xe_or1 {x y v : Int32} {m : Int} (hm : x.toInt = 2 * m) (h0 : 0 ≤ m) (h1 : m < 1048576) (h2 : y.toInt = 0 ∨ y.toInt = 1) (hv : v = x ||| y) : v.toInt = 2 * m + y.toInt := by
  have e : ((2 ^ 1 : Nat) : Int) = 2 := by decide
  rw [hv, mz_or32 (k := 1) (a := m) (by rw [e]; exact hm) (by omega) (by omega) (by rw [e]; omega), hm]
theorem xp_b {f : Nat → Int} {n i : Nat} (hi : i < n) (h1 : 1 ≤ f i) : xq f n (f i).toNat ≤ xp f n i ∧ xp f n i < xq f n ((f i).toNat + 1) := by
  have e0 := hb_cnt_0 (p := fun j => decide (f j = f i)) i
  have e1 : hb_cnt (fun j => decide (f j = f i)) (i + 1) = hb_cnt (fun j => decide (f j = f i)) i + 1 := by
    show hb_cnt (fun j => decide (f j = f i)) i + (if decide (f i = f i) = true then 1 else 0) = _
    rw [if_pos (decide_eq_true rfl)]
  have e2 := hb_cnt_m (p := fun j => decide (f j = f i)) (show i + 1 ≤ n by omega)
  have e3 : hb_cnt (fun j => decide (f j = f i)) n = xc f n (f i).toNat := by
    unfold xc
    rw [show (((f i).toNat : Nat) : Int) = f i by omega]
  rw [xq_s (by omega)]
  unfold xp
  omega
theorem xe_pow {a b : Nat} (h : a ≤ b) : (2 : Int) ^ a ≤ 2 ^ b := by
  have := Nat.pow_le_pow_right (n := 2) (by decide) h
  have e1 : ((2 ^ a : Nat) : Int) = 2 ^ a := Int.natCast_pow 2 a
  have e2 : ((2 ^ b : Nat) : Int) = 2 ^ b := Int.natCast_pow 2 b
  omega
theorem xc_le' {f : Nat → Int} {n b : Nat} : xc f n b ≤ (n : Int) := hb_cnt_le _ n
theorem xf_b {fl : Nat → Int} {n : Nat} (hn : n ≤ 288) : ∀ {m : Nat}, m ≤ 15 → 0 ≤ hb_sum (fun t => xc fl n (t + 1) * 2 ^ (14 - t)) m ∧ hb_sum (fun t => xc fl n (t + 1) * 2 ^ (14 - t)) m ≤ (m : Int) * 4718592 := by
  intro m
  induction m with
  | zero => intro _; exact ⟨Int.le_refl _, by show (0 : Int) ≤ 0 * 4718592; decide⟩
  | succ m ih =>
    intro hm
    have h := ih (by omega)
    have hc0 := xc_0 fl n (m + 1)
    have hcl := xc_le' (f := fl) (n := n) (b := m + 1)
    have hpw : (2 : Int) ^ (14 - m) ≤ 2 ^ 14 := xe_pow (by omega)
    have hpw' : (2 : Int) ^ 14 = 16384 := by decide
    have hpp : (0 : Int) < 2 ^ (14 - m) := Int.pow_pos (by decide)
    have hmul : xc fl n (m + 1) * 2 ^ (14 - m) ≤ 288 * 16384 := Int.mul_le_mul (by omega) (by omega) (by omega) (by omega)
    have hmul0 : 0 ≤ xc fl n (m + 1) * 2 ^ (14 - m) := Int.mul_nonneg (by omega) (by omega)
    have e9 : hb_sum (fun t => xc fl n (t + 1) * 2 ^ (14 - t)) (m + 1) = hb_sum (fun t => xc fl n (t + 1) * 2 ^ (14 - t)) m + xc fl n (m + 1) * 2 ^ (14 - m) := rfl
    rw [e9]
    omega
