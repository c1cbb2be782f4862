/-! BY HAND: sums, counts, parts of what holds. -/
theorem he_01 {x : Int32} (h : x.toInt = 0 ∨ x.toInt = 1) : x = 0 ∨ x = 1 := by
  rw [he_eqi, he_eqi (y := 1), he_0, show (1 : Int32).toInt = 1 from rfl]
  exact h
theorem hb_sum_add {f g : Nat → Int} : ∀ n, hb_sum (fun t => f t + g t) n = hb_sum f n + hb_sum g n := by
  intro n
  induction n with
  | zero => rfl
  | succ n ih => show hb_sum (fun t => f t + g t) n + (f n + g n) = hb_sum f n + f n + (hb_sum g n + g n); rw [ih]; omega
theorem hb_sum_sh {f : Nat → Int} : ∀ n, hb_sum f (n + 1) = f 0 + hb_sum (fun t => f (t + 1)) n := by
  intro n
  induction n with
  | zero => show 0 + f 0 = f 0 + 0; omega
  | succ n ih => show hb_sum f (n + 1) + f (n + 1) = f 0 + (hb_sum (fun t => f (t + 1)) n + f (n + 1)); rw [ih]; omega
theorem hb_sum_1 {v : Int} : ∀ n, 0 ≤ hb_sum (fun t => if v = (t : Int) then 1 else 0) n ∧ hb_sum (fun t => if v = (t : Int) then 1 else 0) n ≤ 1 ∧ ((n : Int) ≤ v → hb_sum (fun t => if v = (t : Int) then 1 else 0) n = 0) := by
  intro n
  induction n with
  | zero => exact ⟨Int.le_refl _, by show (0 : Int) ≤ 1; omega, fun _ => rfl⟩
  | succ n ih =>
    obtain ⟨h1, h2, h3⟩ := ih
    have e : hb_sum (fun t => if v = (t : Int) then 1 else 0) (n + 1) = hb_sum (fun t => if v = (t : Int) then 1 else 0) n + (if v = (n : Int) then 1 else 0) := rfl
    rw [e]
    by_cases h : v = (n : Int)
    · rw [if_pos h, h3 (by omega)]
      exact ⟨by omega, by omega, fun h' => by omega⟩
    · rw [if_neg h]
      exact ⟨by omega, by omega, fun h' => by rw [h3 (by omega)]; rfl⟩
/-- how often b stands among the first i -/
def hb_occ (B : Nat → Int) (b i : Nat) : Int := hb_cnt (fun j => decide (B j = (b : Int))) i
theorem hb_occ_s {B : Nat → Int} {b i : Nat} : hb_occ B b (i + 1) = hb_occ B b i + (if B i = (b : Int) then 1 else 0) := by
  show hb_occ B b i + (if decide (B i = (b : Int)) = true then 1 else 0) = _
  simp only [decide_eq_true_eq]
theorem hb_cnt_0 {p : Nat → Bool} (n : Nat) : 0 ≤ hb_cnt p n := hb_sum_0 n (fun i _ => by split <;> omega)
theorem hb_cnt_m {p : Nat → Bool} {m n : Nat} (h : m ≤ n) : hb_cnt p m ≤ hb_cnt p n := hb_sum_m n h (fun i _ => by split <;> omega)
theorem hb_occ_m {B : Nat → Int} {b i n : Nat} (h : i < n) (hb : B i = (b : Int)) : hb_occ B b i + 1 ≤ hb_occ B b n := by
  have h1 : hb_occ B b (i + 1) = hb_occ B b i + 1 := by rw [hb_occ_s, if_pos hb]
  have h2 : hb_occ B b (i + 1) ≤ hb_occ B b n := hb_cnt_m h
  omega
theorem hb_occ_t {B : Nat → Int} (m : Nat) : ∀ n, hb_sum (fun t => hb_occ B t n) m ≤ (n : Int) := by
  intro n
  induction n with
  | zero =>
    rw [hb_sum_c (f := fun t => hb_occ B t 0) (g := fun _ => 0) m (fun i _ => rfl)]
    have : ∀ m, hb_sum (fun _ => 0) m = 0 := by
      intro m
      induction m with
      | zero => rfl
      | succ m ih => show hb_sum (fun _ => 0) m + 0 = 0; rw [ih]; rfl
    rw [this]
    exact Int.le_refl _
  | succ n ih =>
    rw [hb_sum_c (g := fun t => hb_occ B t n + (if B n = (t : Int) then 1 else 0)) m (fun i _ => hb_occ_s), hb_sum_add]
    have := (hb_sum_1 (v := B n) m).2.1
    omega
/-- all but one -/
def HXm (p : Nat) (M : Nat → mq_C) : Prop := ∀ k, k ≠ p → hxk k M
theorem HXm_same (p : Nat) : ∀ M M' : Nat → mq_C, mz_same mz_GG M M' → HXm p M → HXm p M' := fun _ _ h hx k hk => hxk_c (fun _ _ hs => hb_same_x h hs) (hx k hk)
theorem HX_m {p : Nat} {M : Nat → mq_C} (h : HXm p M) (h1 : hxk p M) : HX M := fun k => by
  by_cases e : k = p
  · rw [e]; exact h1
  · exact h k e
/-- only these cells are changed -/
def hb_only (W : List Nat) (M M' : Nat → mq_C) : Prop := ∀ a, W.elem a = false → M' a = M a
theorem hb_only_r {W : List Nat} {M : Nat → mq_C} : hb_only W M M := fun _ _ => rfl
theorem hb_only_s {W : List Nat} {M M' M'' : Nat → mq_C} {a : Nat} (h : hb_only W M M') (ha : W.elem a = true) (h' : ∀ b, b ≠ a → M'' b = M' b) : hb_only W M M'' := by
  intro b hb
  refine (h' b ?_).trans (h b hb)
  rintro rfl
  rw [ha] at hb
  cases hb
theorem hb_only_t {W : List Nat} {M M' M'' : Nat → mq_C} (h : hb_only W M M') (h' : hb_only W M' M'') : hb_only W M M'' := fun b hb => (h' b hb).trans (h b hb)
theorem hb_only_w {W W' : List Nat} {M M' : Nat → mq_C} (hW : ∀ a ∈ W', a ∈ W) (h : hb_only W' M M') : hb_only W M M' := by
  intro a ha
  refine h a ?_
  cases hx : W'.elem a with
  | false => rfl
  | true =>
    rw [List.elem_iff.mpr (hW a (List.elem_iff.mp hx))] at ha
    cases ha
theorem hb_only_x {W : List Nat} {M M' : Nat → mq_C} {k : Nat} (h : hb_only W M M') (hk : ∀ a ∈ W, ∀ i, hsp k a i = false) (hx : hxk k M) : hxk k M' := by
  refine hxk_c (fun a i hs => hb_vc (h a ?_) i) hx
  cases hw : W.elem a with
  | false => rfl
  | true =>
    rw [hk a (List.elem_iff.mp hw) i] at hs
    cases hs
theorem hb_only_same {W : List Nat} {M M' : Nat → mq_C} {q : mz_Q} (h : hb_only W M M') (ht : ∀ t ∈ mz_GG.2.2.1, W.elem t.1 = false) : hb_same mz_GG q M M' := fun j t hj _ => hb_vc (h t.1 (ht t (List.mem_of_getElem? hj))) t.2
theorem hb_only_fr {W : List Nat} {M M' : Nat → mq_C} {q : mz_Q} (h : hb_only W M M') (hq : ∀ a ∈ W, a ∈ q.2.2.2.2.2) : mz_fr q M M' := fun a _ hw => hb_only_w hq h a hw
def hu_B (M0 : Nat → mq_C) (x2 : Int32) (j : Nat) : Int := hv M0 11 (x2.toInt.toNat + j)
def hu_G (M0 : Nat → mq_C) (x2 x3 : Int32) (t : Nat) : Int := hb_occ (hu_B M0 x2) (t + 1) x3.toInt.toNat
