/-! THE CHECKER: linear facts. -/
abbrev mz_E : Type := Int × List (Nat × Int)
def mz_ev1 (ρ : Nat → Int) : List (Nat × Int) → Int
  | [] => 0
  | t :: r => t.2 * ρ t.1 + mz_ev1 ρ r
def mz_ev (ρ : Nat → Int) (e : mz_E) : Int := e.1 + mz_ev1 ρ e.2
def mz_ins (v : Nat) (a : Int) : List (Nat × Int) → List (Nat × Int)
  | [] => [(v, a)]
  | t :: r => bif Nat.beq v t.1 then (match a + t.2 with
      | .ofNat 0 => r
      | c => (v, c) :: r) else t :: mz_ins v a r
theorem mz_ins_ev {ρ : Nat → Int} {v : Nat} {a : Int} : ∀ l : List (Nat × Int), mz_ev1 ρ (mz_ins v a l) = a * ρ v + mz_ev1 ρ l := by
  intro l
  induction l with
  | nil => rfl
  | cons t r ih =>
    unfold mz_ins
    cases h : Nat.beq v t.1 with
    | false =>
      show t.2 * ρ t.1 + mz_ev1 ρ (mz_ins v a r) = a * ρ v + (t.2 * ρ t.1 + mz_ev1 ρ r)
      rw [ih]; omega
    | true =>
      have e : v = t.1 := Nat.eq_of_beq_eq_true h
      have key : mz_ev1 ρ (match a + t.2 with
        | .ofNat 0 => r
        | c => (v, c) :: r) = (a + t.2) * ρ v + mz_ev1 ρ r := by
        split
        · next hz => rw [hz]; show mz_ev1 ρ r = 0 * ρ v + mz_ev1 ρ r; omega
        · rfl
      show mz_ev1 ρ (match a + t.2 with
        | .ofNat 0 => r
        | c => (v, c) :: r) = a * ρ v + (t.2 * ρ t.1 + mz_ev1 ρ r)
      rw [key, ← e, Int.add_mul]; omega
def mz_mg : List (Nat × Int) → List (Nat × Int) → List (Nat × Int)
  | [], m => m
  | t :: r, m => mz_ins t.1 t.2 (mz_mg r m)
theorem mz_mg_ev {ρ : Nat → Int} {m : List (Nat × Int)} : ∀ l, mz_ev1 ρ (mz_mg l m) = mz_ev1 ρ l + mz_ev1 ρ m := by
  intro l
  induction l with
  | nil => show mz_ev1 ρ m = 0 + mz_ev1 ρ m; omega
  | cons t r ih =>
    show mz_ev1 ρ (mz_ins t.1 t.2 (mz_mg r m)) = t.2 * ρ t.1 + mz_ev1 ρ r + mz_ev1 ρ m
    rw [mz_ins_ev, ih]; omega
def mz_add (e f : mz_E) : mz_E := (e.1 + f.1, mz_mg e.2 f.2)
theorem mz_add_ev {ρ : Nat → Int} {e f : mz_E} : mz_ev ρ (mz_add e f) = mz_ev ρ e + mz_ev ρ f := by
  show e.1 + f.1 + mz_ev1 ρ (mz_mg e.2 f.2) = e.1 + mz_ev1 ρ e.2 + (f.1 + mz_ev1 ρ f.2)
  rw [mz_mg_ev]; omega
def mz_sc (c : Int) : List (Nat × Int) → List (Nat × Int)
  | [] => []
  | t :: r => (t.1, c * t.2) :: mz_sc c r
theorem mz_sc_ev {ρ : Nat → Int} {c : Int} : ∀ l, mz_ev1 ρ (mz_sc c l) = c * mz_ev1 ρ l := by
  intro l
  induction l with
  | nil => show (0 : Int) = c * 0; omega
  | cons t r ih =>
    show c * t.2 * ρ t.1 + mz_ev1 ρ (mz_sc c r) = c * (t.2 * ρ t.1 + mz_ev1 ρ r)
    rw [ih, Int.mul_add, Int.mul_assoc]
def mz_mul (c : Int) (e : mz_E) : mz_E := (c * e.1, mz_sc c e.2)
theorem mz_mul_ev {ρ : Nat → Int} {c : Int} {e : mz_E} : mz_ev ρ (mz_mul c e) = c * mz_ev ρ e := by
  show c * e.1 + mz_ev1 ρ (mz_sc c e.2) = c * (e.1 + mz_ev1 ρ e.2)
  rw [mz_sc_ev, Int.mul_add]
def mz_comb (fs : List mz_E) : List (Nat × Nat) → mz_E → mz_E
  | [], t => t
  | h :: r, t => mz_comb fs r (mz_add (mz_mul (-(Int.ofNat h.2)) (fs.getD h.1 (0, []))) t)
def mz_le0 (c : Int) : Bool := match c with
  | .ofNat _ => true
  | .negSucc _ => false
theorem mz_le0_spec {c : Int} (h : mz_le0 c = true) : 0 ≤ c := by
  cases c with
  | ofNat n => exact Int.natCast_nonneg n
  | negSucc n => cases h
theorem mz_comb_ev {ρ : Nat → Int} {fs : List mz_E} (hf : ∀ f ∈ fs, 0 ≤ mz_ev ρ f) : ∀ (h : List (Nat × Nat)) (t : mz_E), mz_ev ρ (mz_comb fs h t) ≤ mz_ev ρ t := by
  intro h
  induction h with
  | nil => intro t; exact Int.le_refl _
  | cons a r ih =>
    intro t
    refine Int.le_trans (ih _) ?_
    rw [mz_add_ev, mz_mul_ev]
    have h0 : 0 ≤ mz_ev ρ (fs.getD a.1 (0, [])) := by
      rw [List.getD_eq_getElem?_getD]
      cases hi : fs[a.1]? with
      | none => show 0 ≤ (0 : Int) + 0; omega
      | some f => exact hf f (List.mem_of_getElem? hi)
    have h1 : 0 ≤ Int.ofNat a.2 * mz_ev ρ (fs.getD a.1 (0, [])) := Int.mul_nonneg (Int.natCast_nonneg _) h0
    rw [Int.neg_mul]
    omega
/-- divided by g, rounded down -/
def mz_dvl (g : Nat) : List (Nat × Int) → Option (List (Nat × Int))
  | [] => some []
  | t :: r => match t.2 % (g : Int) with
    | .ofNat 0 => match mz_dvl g r with
      | some l => some ((t.1, t.2 / (g : Int)) :: l)
      | none => none
    | _ => none
theorem mz_dvl_ev {ρ : Nat → Int} {g : Nat} : ∀ (l m : List (Nat × Int)), mz_dvl g l = some m → mz_ev1 ρ l = g * mz_ev1 ρ m := by
  intro l
  induction l with
  | nil => intro m h; cases h; show (0 : Int) = g * 0; omega
  | cons t r ih =>
    intro m h
    unfold mz_dvl at h
    split at h
    · next hz =>
      split at h
      · next l hl =>
        cases h
        show t.2 * ρ t.1 + mz_ev1 ρ r = g * (t.2 / (g : Int) * ρ t.1 + mz_ev1 ρ l)
        have e1 : t.2 = g * (t.2 / (g : Int)) := by
          have := Int.mul_ediv_add_emod t.2 g
          have hz' : t.2 % (g : Int) = 0 := hz
          omega
        rw [ih l hl, Int.mul_add, ← Int.mul_assoc, ← e1]
      · cases h
    · cases h
abbrev mz_H : Type := Nat × Nat × List (Nat × Nat)
/-- t ≥ 0, by a combination of facts, rounded by d + 1 -/
def mz_pw (fs : List mz_E) (d : Nat) (l : List (Nat × Nat)) (t : mz_E) : Bool :=
  match mz_comb fs l (mz_add (Int.ofNat d, []) (mz_mul (Int.ofNat (d + 1)) t)) with
  | (c, []) => mz_le0 c
  | _ => false
theorem mz_pw_spec {ρ : Nat → Int} {fs : List mz_E} (hf : ∀ f ∈ fs, 0 ≤ mz_ev ρ f) {d : Nat} {l : List (Nat × Nat)} {t : mz_E} (hp : mz_pw fs d l t = true) : 0 ≤ mz_ev ρ t := by
  unfold mz_pw at hp
  have h1 := mz_comb_ev hf l (mz_add (Int.ofNat d, []) (mz_mul (Int.ofNat (d + 1)) t))
  split at hp
  · next c hc =>
    rw [hc, mz_add_ev, mz_mul_ev] at h1
    have h2 := mz_le0_spec hp
    have e1 : mz_ev ρ (c, []) = c := Int.add_zero c
    have e2 : mz_ev ρ (Int.ofNat d, []) = Int.ofNat d := Int.add_zero _
    rw [e1, e2] at h1
    have h3 : 0 ≤ Int.ofNat d + Int.ofNat (d + 1) * mz_ev ρ t := Int.le_trans h2 h1
    rcases Int.lt_or_le (mz_ev ρ t) 0 with hn | hn
    · exfalso
      have h4 : Int.ofNat (d + 1) * mz_ev ρ t ≤ Int.ofNat (d + 1) * (-1) := Int.mul_le_mul_of_nonneg_left (by omega) (Int.natCast_nonneg _)
      have e3 : Int.ofNat (d + 1) = Int.ofNat d + 1 := rfl
      rw [e3] at h3 h4
      omega
    · exact hn
  · cases hp
/-- t ≥ 0, where t is divided by h.1 + 1 first -/
def mz_pv (fs : List mz_E) (h : mz_H) (t : mz_E) : Bool := match h.1 with
  | 0 => mz_pw fs h.2.1 h.2.2 t
  | g + 1 => match mz_dvl (g + 2) t.2 with
    | some m => mz_pw fs h.2.1 h.2.2 (t.1 / ((g + 2 : Nat) : Int), m)
    | none => false
theorem mz_pv_spec {ρ : Nat → Int} {fs : List mz_E} (hf : ∀ f ∈ fs, 0 ≤ mz_ev ρ f) {h : mz_H} {t : mz_E} (hp : mz_pv fs h t = true) : 0 ≤ mz_ev ρ t := by
  unfold mz_pv at hp
  split at hp
  · exact mz_pw_spec hf hp
  · next g _ =>
    split at hp
    · next m hm =>
      have h1 := mz_pw_spec hf hp
      have h2 := mz_dvl_ev (ρ := ρ) _ _ hm
      have h1' : 0 ≤ t.1 / ((g + 2 : Nat) : Int) + mz_ev1 ρ m := h1
      show 0 ≤ t.1 + mz_ev1 ρ t.2
      have h3 := Int.mul_ediv_add_emod t.1 ((g + 2 : Nat) : Int)
      have h4 := Int.emod_nonneg t.1 (b := ((g + 2 : Nat) : Int)) (by omega)
      have h5 : 0 ≤ ((g + 2 : Nat) : Int) * (t.1 / ((g + 2 : Nat) : Int) + mz_ev1 ρ m) := Int.mul_nonneg (by omega) h1'
      rw [Int.mul_add] at h5
      omega
    · cases hp
/-- all its variables are below n -/
def mz_wf (n : Nat) : List (Nat × Int) → Bool
  | [] => true
  | t :: r => bif Nat.blt t.1 n then mz_wf n r else false
theorem mz_wf_ev {ρ ρ' : Nat → Int} {n : Nat} (hr : ∀ i, i < n → ρ' i = ρ i) : ∀ l, mz_wf n l = true → mz_ev1 ρ' l = mz_ev1 ρ l := by
  intro l
  induction l with
  | nil => intro _; rfl
  | cons t r ih =>
    intro h
    unfold mz_wf at h
    cases hb : Nat.blt t.1 n with
    | false => rw [hb] at h; cases h
    | true =>
      rw [hb] at h
      show t.2 * ρ' t.1 + mz_ev1 ρ' r = t.2 * ρ t.1 + mz_ev1 ρ r
      rw [hr _ (Nat.le_of_ble_eq_true hb), ih h]
