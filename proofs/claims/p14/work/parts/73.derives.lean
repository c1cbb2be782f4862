/-! derives of the model. -/
theorem hb_sum_1e {v : Int} : ∀ n : Nat, 0 ≤ v → v < n → hb_sum (fun t => if v = (t : Int) then 1 else 0) n = 1 := by
  intro n
  induction n with
  | zero => intro h1 h2; omega
  | succ n ih =>
    intro h1 h2
    have e : hb_sum (fun t => if v = (t : Int) then 1 else 0) (n + 1) = hb_sum (fun t => if v = (t : Int) then 1 else 0) n + (if v = (n : Int) then 1 else 0) := rfl
    rw [e]
    by_cases h : v = (n : Int)
    · rw [if_pos h, (hb_sum_1 n).2.2 (by omega)]
      rfl
    · rw [if_neg h, ih h1 (by omega)]
      rfl
theorem hb_occ_e {B : Nat → Int} {m : Nat} : ∀ n : Nat, (∀ i, i < n → 0 ≤ B i ∧ B i < m) → hb_sum (fun t => hb_occ B t n) m = (n : Int) := by
  intro n
  induction n with
  | zero =>
    intro _
    rw [hb_sum_c (f := fun t => hb_occ B t 0) (g := fun _ => 0) m (fun i _ => rfl)]
    have : ∀ m, hb_sum (fun _ => 0) m = 0 := by
      intro m
      induction m with
      | zero => rfl
      | succ m ih => show hb_sum (fun _ => 0) m + 0 = 0; rw [ih]; rfl
    rw [this]
    rfl
  | succ n ih =>
    intro h
    rw [hb_sum_c (g := fun t => hb_occ B t n + (if B n = (t : Int) then 1 else 0)) m (fun i _ => hb_occ_s), hb_sum_add, ih (fun i hi => h i (by omega)), hb_sum_1e m (h n (by omega)).1 (h n (by omega)).2]
    omega
theorem hb_occ_x {B : Nat → Int} {t : Nat} : ∀ n : Nat, (∀ i, i < n → B i ≠ (t : Int)) → hb_occ B t n = 0 := by
  intro n
  induction n with
  | zero => intro _; rfl
  | succ n ih =>
    intro h
    rw [hb_occ_s, ih (fun i hi => h i (by omega)), if_neg (h n (by omega))]
    rfl
theorem hb_occ_1 {B : Nat → Int} {t : Nat} : ∀ n : Nat, (∀ i j, i < j → j < n → B i ≠ B j) → hb_occ B t n ≤ 1 := by
  intro n
  induction n with
  | zero => intro _; show (0 : Int) ≤ 1; omega
  | succ n ih =>
    intro h
    rw [hb_occ_s]
    by_cases e : B n = (t : Int)
    · rw [if_pos e, hb_occ_x n (fun i hi => by rw [← e]; exact h i n hi (by omega))]
      omega
    · rw [if_neg e]
      have := ih (fun i j h1 h2 => h i j h1 (by omega))
      omega
theorem hb_pig {B : Nat → Int} {m n : Nat} (h1 : ∀ i, i < n → 0 ≤ B i ∧ B i < m) (h2 : ∀ i j, i < j → j < n → B i ≠ B j) : n ≤ m := by
  have e := hb_occ_e n h1
  have h : ∀ k, hb_sum (fun t => hb_occ B t n) k ≤ (k : Int) := by
    intro k
    induction k with
    | zero => exact Int.le_refl _
    | succ k ih =>
      have := hb_occ_1 (t := k) n h2
      show hb_sum (fun t => hb_occ B t n) k + hb_occ B k n ≤ _
      omega
  have := h m
  omega
def hv_D (M : Nat → mq_C) (n : Int) : Prop := ∀ i j : Nat, i < j → (j : Int) < n → hv M 270 i ≠ hv M 270 j
theorem hv_Dc {M M' : Nat → mq_C} {n : Int} (h : M' 270 = M 270) (hd : hv_D M n) : hv_D M' n := by
  intro i j h1 h2
  rw [hb_vc h, hb_vc h]
  exact hd i j h1 h2
/-- there is room for one more -/
theorem hv_room {M : Nat → mq_C} {n x : Int} (hm : mz_sh mz_GG M) (h0 : 0 ≤ n) (h1 : n ≤ 128) (hd : hv_D M n) (hx : 0 ≤ x ∧ x ≤ 127) (hn : ∀ j : Nat, (j : Int) < n → hv M 270 j ≠ x) : n + 1 ≤ 128 := by
  have := hb_pig (B := fun i => if (i : Int) < n then hv M 270 i else x) (m := 128) (n := n.toNat + 1) (fun i hi => by
    show 0 ≤ (if (i : Int) < n then hv M 270 i else x) ∧ (if (i : Int) < n then hv M 270 i else x) < ((128 : Nat) : Int)
    split
    · have := hb_rg hm (a := 270) (i := i) rfl (show i < 130 by omega) hb_at1
      omega
    · omega) (fun i j h1 h2 => by
    show (if (i : Int) < n then hv M 270 i else x) ≠ (if (j : Int) < n then hv M 270 j else x)
    rw [if_pos (by omega)]
    split
    · exact hd i j h1 (by assumption)
    · exact hn i (by omega))
  omega
def hv_r2_q : mz_Q := (168, [(1, 234), (0, 0), (0, 0), (0, 0), (0, 0), (3, 0), (3, 0), (3, 0), (3, 0)], [(-1, [(3, 1)]), (128, [(3, -1)]), (0, [(4, 1)]), (0, [(3, 1), (4, -1)])], [], [], [])
def hv_r2_s : List mz_Sp2 := [(133, [(1, 234), (0, 0), (0, 0), (0, 0), (0, 0), (0, 0), (3, 0), (3, 0), (3, 0)], [], [(0, [(1, -1), (71, 1)]), (0, [(1, 1), (71, -1)]), (0, [(2, -1), (72, 1)]), (0, [(2, 1), (72, -1)]), (0, [(3, -1), (73, 1)]), (0, [(3, 1), (73, -1)]), (0, [(74, 1)]), (0, [(74, -1)]), (0, [(75, 1)]), (0, [(75, -1)]), (0, [(3, -1), (4, 1)])]), (21, [(1, 234), (0, 0), (0, 0), (0, 0), (0, 0), (0, 0), (3, 0), (3, 0), (3, 0)], [], [(0, [(1, -1), (71, 1)]), (0, [(1, 1), (71, -1)]), (0, [(2, -1), (72, 1)]), (0, [(2, 1), (72, -1)]), (0, [(3, -1), (73, 1)]), (0, [(3, 1), (73, -1)]), (0, [(4, -1), (74, 1)]), (0, [(4, 1), (74, -1)]), (-3, [(75, 1)]), (3, [(75, -1)]), (-1, [(3, 1), (4, -1)])])]
def hv_r2_h : List mz_H := [(0, 0, []), (0, 0, []), (0, 0, []), (0, 0, []), (0, 0, []), (0, 0, []), (0, 0, []), (0, 0, []), (0, 0, []), (0, 0, []), (0, 0, []), (0, 0, []), (0, 0, []), (0, 0, [(0, 1)]), (1, 0, []), (0, 0, []), (0, 0, []), (0, 0, []), (0, 0, []), (0, 0, []), (0, 0, []), (0, 0, []), (0, 0, []), (0, 0, []), (0, 0, []), (0, 0, [(0, 1)])]
set_option maxRecDepth 100000 in
theorem hv_r2_c : mz_blk mz_GG mq_PP mz_Cs hv_r2_q 9 1 12 hv_r2_s [] 16 hv_r2_h = true := by decide +kernel
theorem hv_r2 {X : (Nat → mq_C) → Prop} (hX : ∀ M M' : Nat → mq_C, mz_same mz_GG M M' → X M → X M') (hC : ∀ c ∈ mz_Cs, c.2 < 1 → mz_Ct mz_GG mq_PP X c.1 c.2) {d z u : Nat} {M : Nat → mq_C} {Q : (Option Value ⊕ Nat) → mq_S → Prop} {x1 : Int32} {x2 : Int32} {x3 : Int32} {x4 : Int32} {o5 : Option Value} {o6 : Option Value} {o7 : Option Value} {o8 : Option Value} (hd : 1 ≤ d) (hz : 272 ≤ z) (hm : mz_sh mz_GG M) (hx : X M) (h0 : mq_nl o5 = true) (h1 : mq_nl o6 = true) (h2 : mq_nl o7 = true) (h3 : mq_nl o8 = true) (p0 : 0 ≤ (-1) + x3.toInt) (p1 : 0 ≤ 128 - x3.toInt) (p2 : 0 ≤ x4.toInt) (p3 : 0 ≤ x3.toInt - x4.toInt)
    (k0 : ∀ (M' : Nat → mq_C) (y4 : Int32) (y5 : Int32) (w6 : Option Value) (w7 : Option Value) (w8 : Option Value), mz_sh mz_GG M' → X M' → mz_fr hv_r2_q M M' → (∀ a, a < 8 → M' a = M a) → hb_same mz_GG hv_r2_q M M' → mq_nl w6 = true → mq_nl w7 = true → mq_nl w8 = true → y4.toInt = 0 → y5.toInt = 0 → 0 ≤ 0 - x3.toInt + x4.toInt → mq_R mq_PP d 168 133 [some (.ref 234), some (.int x1), some (.int x2), some (.int x3), some (.int y4), some (.int y5), w6, w7, w8] [] (M', z, u) Q)
    (k1 : ∀ (M' : Nat → mq_C) (y5 : Int32) (w6 : Option Value) (w7 : Option Value) (w8 : Option Value), mz_sh mz_GG M' → X M' → mz_fr hv_r2_q M M' → (∀ a, a < 8 → M' a = M a) → hb_same mz_GG hv_r2_q M M' → mq_nl w6 = true → mq_nl w7 = true → mq_nl w8 = true → y5.toInt = 3 → 0 ≤ (-1) + x3.toInt - x4.toInt → mq_R mq_PP d 168 21 [some (.ref 234), some (.int x1), some (.int x2), some (.int x3), some (.int x4), some (.int y5), w6, w7, w8] [] (M', z, u) Q) : mq_R mq_PP d 168 12 [some (.ref 234), some (.int x1), some (.int x2), some (.int x3), some (.int x4), o5, o6, o7, o8] [] (M, z, u) Q := by
  refine hb_blk mz_GG mq_PP X (q := hv_r2_q) (nl := 9) (M := M) hb_okG hX hC hv_r2_c hz hd (L := [some (.ref 234), some (.int x1), some (.int x2), some (.int x3), some (.int x4), o5, o6, o7, o8]) (st := []) (show hb_lk mz_GG ([(1, 234), (0, 0), (0, 0), (0, 0), (0, 0), (3, 0), (3, 0), (3, 0), (3, 0)]) _ from ⟨⟨List.mem_singleton.mpr rfl, rfl⟩, trivial, trivial, trivial, trivial, h0, h1, h2, h3, trivial⟩) (show hb_pk mz_GG ([]) _ from trivial) hm hx ?_ ?_ ?_
  · exact hb_cons (show 0 ≤ mz_ev _ _ from (show 0 ≤ -1 + (1 * x3.toInt + 0) by omega)) (hb_cons (show 0 ≤ mz_ev _ _ from (show 0 ≤ 128 + ((-1) * x3.toInt + 0) by omega)) (hb_cons (show 0 ≤ mz_ev _ _ from (show 0 ≤ 0 + (1 * x4.toInt + 0) by omega)) (hb_cons (show 0 ≤ mz_ev _ _ from (show 0 ≤ 0 + (1 * x3.toInt + ((-1) * x4.toInt + 0)) by omega)) (hb_nil))))
  · intro s hs
    rcases List.mem_cons.mp hs with rfl | hs
    · intro ρ1 L' st' M' g1 g2 gm gr gf gs gx gw g8 ge
      obtain ⟨e0, L1, rfl, n0, gg0⟩ := hb_l1 mz_GG g1
      obtain rfl : e0 = 234 := List.mem_singleton.mp n0
      obtain ⟨y1, L1, rfl, qr71, gg1⟩ := hb_l0 mz_GG gg0
      have r71 : ρ1 71 = y1.toInt := qr71
      obtain ⟨y2, L1, rfl, qr72, gg2⟩ := hb_l0 mz_GG gg1
      have r72 : ρ1 72 = y2.toInt := qr72
      obtain ⟨y3, L1, rfl, qr73, gg3⟩ := hb_l0 mz_GG gg2
      have r73 : ρ1 73 = y3.toInt := qr73
      obtain ⟨y4, L1, rfl, qr74, gg4⟩ := hb_l0 mz_GG gg3
      have r74 : ρ1 74 = y4.toInt := qr74
      obtain ⟨y5, L1, rfl, qr75, gg5⟩ := hb_l0 mz_GG gg4
      have r75 : ρ1 75 = y5.toInt := qr75
      obtain ⟨w6, L1, rfl, n6, gg6⟩ := hb_l3 mz_GG gg5
      obtain ⟨w7, L1, rfl, n7, gg7⟩ := hb_l3 mz_GG gg6
      obtain ⟨w8, L1, rfl, n8, gg8⟩ := hb_l3 mz_GG gg7
      obtain rfl := hb_ln mz_GG gg8
      obtain rfl := hb_pn mz_GG g2
      have r1 : ρ1 1 = x1.toInt := gr 1 (by decide +kernel)
      have r2 : ρ1 2 = x2.toInt := gr 2 (by decide +kernel)
      have r3 : ρ1 3 = x3.toInt := gr 3 (by decide +kernel)
      have r4 : ρ1 4 = x4.toInt := gr 4 (by decide +kernel)
      obtain ⟨f0, gf⟩ := hb_unc gf
      have f0 : 0 ≤ 0 + ((-1) * ρ1 1 + (1 * ρ1 71 + 0)) := f0
      rw [r1, r71] at f0
      obtain ⟨f1, gf⟩ := hb_unc gf
      have f1 : 0 ≤ 0 + (1 * ρ1 1 + ((-1) * ρ1 71 + 0)) := f1
      rw [r1, r71] at f1
      obtain ⟨f2, gf⟩ := hb_unc gf
      have f2 : 0 ≤ 0 + ((-1) * ρ1 2 + (1 * ρ1 72 + 0)) := f2
      rw [r2, r72] at f2
      obtain ⟨f3, gf⟩ := hb_unc gf
      have f3 : 0 ≤ 0 + (1 * ρ1 2 + ((-1) * ρ1 72 + 0)) := f3
      rw [r2, r72] at f3
      obtain ⟨f4, gf⟩ := hb_unc gf
      have f4 : 0 ≤ 0 + ((-1) * ρ1 3 + (1 * ρ1 73 + 0)) := f4
      rw [r3, r73] at f4
      obtain ⟨f5, gf⟩ := hb_unc gf
      have f5 : 0 ≤ 0 + (1 * ρ1 3 + ((-1) * ρ1 73 + 0)) := f5
      rw [r3, r73] at f5
      obtain ⟨f6, gf⟩ := hb_unc gf
      have f6 : 0 ≤ 0 + (1 * ρ1 74 + 0) := f6
      rw [r74] at f6
      obtain ⟨f7, gf⟩ := hb_unc gf
      have f7 : 0 ≤ 0 + ((-1) * ρ1 74 + 0) := f7
      rw [r74] at f7
      obtain ⟨f8, gf⟩ := hb_unc gf
      have f8 : 0 ≤ 0 + (1 * ρ1 75 + 0) := f8
      rw [r75] at f8
      obtain ⟨f9, gf⟩ := hb_unc gf
      have f9 : 0 ≤ 0 + ((-1) * ρ1 75 + 0) := f9
      rw [r75] at f9
      obtain ⟨f10, gf⟩ := hb_unc gf
      have f10 : 0 ≤ 0 + ((-1) * ρ1 3 + (1 * ρ1 4 + 0)) := f10
      rw [r3, r4] at f10
      have hy1 : y1 = x1 := hb_inj f0 f1
      subst y1
      have hy2 : y2 = x2 := hb_inj f2 f3
      subst y2
      have hy3 : y3 = x3 := hb_inj f4 f5
      subst y3
      exact k0 M' y4 y5 w6 w7 w8 gs gx gw g8 ge n6 n7 n8 (by have h1 := f6; have h2 := f7; omega) (by have h1 := f8; have h2 := f9; omega) (by have h1 := f10; omega)
    rcases List.mem_cons.mp hs with rfl | hs
    · intro ρ1 L' st' M' g1 g2 gm gr gf gs gx gw g8 ge
      obtain ⟨e0, L1, rfl, n0, gg0⟩ := hb_l1 mz_GG g1
      obtain rfl : e0 = 234 := List.mem_singleton.mp n0
      obtain ⟨y1, L1, rfl, qr71, gg1⟩ := hb_l0 mz_GG gg0
      have r71 : ρ1 71 = y1.toInt := qr71
      obtain ⟨y2, L1, rfl, qr72, gg2⟩ := hb_l0 mz_GG gg1
      have r72 : ρ1 72 = y2.toInt := qr72
      obtain ⟨y3, L1, rfl, qr73, gg3⟩ := hb_l0 mz_GG gg2
      have r73 : ρ1 73 = y3.toInt := qr73
      obtain ⟨y4, L1, rfl, qr74, gg4⟩ := hb_l0 mz_GG gg3
      have r74 : ρ1 74 = y4.toInt := qr74
      obtain ⟨y5, L1, rfl, qr75, gg5⟩ := hb_l0 mz_GG gg4
      have r75 : ρ1 75 = y5.toInt := qr75
      obtain ⟨w6, L1, rfl, n6, gg6⟩ := hb_l3 mz_GG gg5
      obtain ⟨w7, L1, rfl, n7, gg7⟩ := hb_l3 mz_GG gg6
      obtain ⟨w8, L1, rfl, n8, gg8⟩ := hb_l3 mz_GG gg7
      obtain rfl := hb_ln mz_GG gg8
      obtain rfl := hb_pn mz_GG g2
      have r1 : ρ1 1 = x1.toInt := gr 1 (by decide +kernel)
      have r2 : ρ1 2 = x2.toInt := gr 2 (by decide +kernel)
      have r3 : ρ1 3 = x3.toInt := gr 3 (by decide +kernel)
      have r4 : ρ1 4 = x4.toInt := gr 4 (by decide +kernel)
      obtain ⟨f0, gf⟩ := hb_unc gf
      have f0 : 0 ≤ 0 + ((-1) * ρ1 1 + (1 * ρ1 71 + 0)) := f0
      rw [r1, r71] at f0
      obtain ⟨f1, gf⟩ := hb_unc gf
      have f1 : 0 ≤ 0 + (1 * ρ1 1 + ((-1) * ρ1 71 + 0)) := f1
      rw [r1, r71] at f1
      obtain ⟨f2, gf⟩ := hb_unc gf
      have f2 : 0 ≤ 0 + ((-1) * ρ1 2 + (1 * ρ1 72 + 0)) := f2
      rw [r2, r72] at f2
      obtain ⟨f3, gf⟩ := hb_unc gf
      have f3 : 0 ≤ 0 + (1 * ρ1 2 + ((-1) * ρ1 72 + 0)) := f3
      rw [r2, r72] at f3
      obtain ⟨f4, gf⟩ := hb_unc gf
      have f4 : 0 ≤ 0 + ((-1) * ρ1 3 + (1 * ρ1 73 + 0)) := f4
      rw [r3, r73] at f4
      obtain ⟨f5, gf⟩ := hb_unc gf
      have f5 : 0 ≤ 0 + (1 * ρ1 3 + ((-1) * ρ1 73 + 0)) := f5
      rw [r3, r73] at f5
      obtain ⟨f6, gf⟩ := hb_unc gf
      have f6 : 0 ≤ 0 + ((-1) * ρ1 4 + (1 * ρ1 74 + 0)) := f6
      rw [r4, r74] at f6
      obtain ⟨f7, gf⟩ := hb_unc gf
      have f7 : 0 ≤ 0 + (1 * ρ1 4 + ((-1) * ρ1 74 + 0)) := f7
      rw [r4, r74] at f7
      obtain ⟨f8, gf⟩ := hb_unc gf
      have f8 : 0 ≤ -3 + (1 * ρ1 75 + 0) := f8
      rw [r75] at f8
      obtain ⟨f9, gf⟩ := hb_unc gf
      have f9 : 0 ≤ 3 + ((-1) * ρ1 75 + 0) := f9
      rw [r75] at f9
      obtain ⟨f10, gf⟩ := hb_unc gf
      have f10 : 0 ≤ -1 + (1 * ρ1 3 + ((-1) * ρ1 4 + 0)) := f10
      rw [r3, r4] at f10
      have hy1 : y1 = x1 := hb_inj f0 f1
      subst y1
      have hy2 : y2 = x2 := hb_inj f2 f3
      subst y2
      have hy3 : y3 = x3 := hb_inj f4 f5
      subst y3
      have hy4 : y4 = x4 := hb_inj f6 f7
      subst y4
      exact k1 M' y5 w6 w7 w8 gs gx gw g8 ge n6 n7 n8 (by have h1 := f8; have h2 := f9; omega) (by have h1 := f10; omega)
    cases hs
  · intro r S hpo
    obtain ⟨b1, b2, b3, b4, b5, p, hp, res, hf, hre⟩ := hpo
    cases hp

def hv_r3_q : mz_Q := (168, [(1, 234), (0, 0), (0, 0), (0, 0), (0, 0), (0, 0), (3, 0), (3, 0), (3, 0)], [(-1, [(3, 1)]), (128, [(3, -1)]), (0, [(4, 1)]), (-1, [(3, 1), (4, -1)]), (-3, [(5, 1)]), (6, [(5, -1)])], [], [], [])
def hv_r3_s : List mz_Sp2 := [(12, [(1, 234), (0, 0), (0, 0), (0, 0), (0, 0), (0, 0), (3, 0), (3, 0), (3, 0)], [], [(0, [(1, -1), (71, 1)]), (0, [(1, 1), (71, -1)]), (0, [(2, -1), (72, 1)]), (0, [(2, 1), (72, -1)]), (0, [(3, -1), (73, 1)]), (0, [(3, 1), (73, -1)]), (-1, [(4, -1), (74, 1)]), (1, [(4, 1), (74, -1)]), (0, [(5, -1), (75, 1)]), (0, [(5, 1), (75, -1)]), (-6, [(5, 1)])]), (63, [(1, 234), (0, 0), (0, 0), (0, 0), (0, 0), (0, 0), (0, 0), (0, 0), (0, 0)], [], [(0, [(1, -1), (71, 1)]), (0, [(1, 1), (71, -1)]), (0, [(2, -1), (72, 1)]), (0, [(2, 1), (72, -1)]), (0, [(3, -1), (73, 1)]), (0, [(3, 1), (73, -1)]), (0, [(4, -1), (74, 1)]), (0, [(4, 1), (74, -1)]), (-3, [(75, 1)]), (3, [(75, -1)]), (0, [(77, 1)]), (0, [(77, -1)]), (0, [(78, 1)]), (0, [(78, -1)]), (5, [(5, -1)]), (3, [(5, -1)]), (127, [(76, -1)]), (1, [(76, 1)]), (-1, [(76, -1)])]), (63, [(1, 234), (0, 0), (0, 0), (0, 0), (0, 0), (0, 0), (0, 0), (0, 0), (0, 0)], [], [(0, [(1, -1), (71, 1)]), (0, [(1, 1), (71, -1)]), (0, [(2, -1), (72, 1)]), (0, [(2, 1), (72, -1)]), (0, [(3, -1), (73, 1)]), (0, [(3, 1), (73, -1)]), (0, [(4, -1), (74, 1)]), (0, [(4, 1), (74, -1)]), (-3, [(75, 1)]), (3, [(75, -1)]), (-1, [(77, 1)]), (1, [(77, -1)]), (0, [(78, 1)]), (0, [(78, -1)]), (5, [(5, -1)]), (3, [(5, -1)]), (127, [(76, -1)]), (1, [(76, 1)]), (0, [(76, 1)])]), (63, [(1, 234), (0, 0), (0, 0), (0, 0), (0, 0), (0, 0), (0, 0), (0, 0), (0, 0)], [], [(0, [(1, -1), (71, 1)]), (0, [(1, 1), (71, -1)]), (0, [(2, -1), (72, 1)]), (0, [(2, 1), (72, -1)]), (0, [(3, -1), (73, 1)]), (0, [(3, 1), (73, -1)]), (0, [(4, -1), (74, 1)]), (0, [(4, 1), (74, -1)]), (-4, [(75, 1)]), (4, [(75, -1)]), (0, [(77, 1)]), (0, [(77, -1)]), (0, [(78, 1)]), (0, [(78, -1)]), (5, [(5, -1)]), (-4, [(5, 1)]), (4, [(5, -1)]), (127, [(76, -1)]), (1, [(76, 1)]), (-1, [(76, -1)])]), (63, [(1, 234), (0, 0), (0, 0), (0, 0), (0, 0), (0, 0), (0, 0), (0, 0), (0, 0)], [], [(0, [(1, -1), (71, 1)]), (0, [(1, 1), (71, -1)]), (0, [(2, -1), (72, 1)]), (0, [(2, 1), (72, -1)]), (0, [(3, -1), (73, 1)]), (0, [(3, 1), (73, -1)]), (0, [(4, -1), (74, 1)]), (0, [(4, 1), (74, -1)]), (-4, [(75, 1)]), (4, [(75, -1)]), (-1, [(77, 1)]), (1, [(77, -1)]), (0, [(78, 1)]), (0, [(78, -1)]), (5, [(5, -1)]), (-4, [(5, 1)]), (4, [(5, -1)]), (127, [(76, -1)]), (1, [(76, 1)]), (0, [(76, 1)])]), (63, [(1, 234), (0, 0), (0, 0), (0, 0), (0, 0), (0, 0), (0, 0), (0, 0), (0, 0)], [], [(0, [(1, -1), (71, 1)]), (0, [(1, 1), (71, -1)]), (0, [(2, -1), (72, 1)]), (0, [(2, 1), (72, -1)]), (0, [(3, -1), (73, 1)]), (0, [(3, 1), (73, -1)]), (0, [(4, -1), (74, 1)]), (0, [(4, 1), (74, -1)]), (-5, [(75, 1)]), (5, [(75, -1)]), (0, [(77, 1)]), (0, [(77, -1)]), (0, [(78, 1)]), (0, [(78, -1)]), (5, [(5, -1)]), (-5, [(5, 1)]), (127, [(76, -1)]), (1, [(76, 1)]), (-1, [(76, -1)])]), (63, [(1, 234), (0, 0), (0, 0), (0, 0), (0, 0), (0, 0), (0, 0), (0, 0), (0, 0)], [], [(0, [(1, -1), (71, 1)]), (0, [(1, 1), (71, -1)]), (0, [(2, -1), (72, 1)]), (0, [(2, 1), (72, -1)]), (0, [(3, -1), (73, 1)]), (0, [(3, 1), (73, -1)]), (0, [(4, -1), (74, 1)]), (0, [(4, 1), (74, -1)]), (-5, [(75, 1)]), (5, [(75, -1)]), (-1, [(77, 1)]), (1, [(77, -1)]), (0, [(78, 1)]), (0, [(78, -1)]), (5, [(5, -1)]), (-5, [(5, 1)]), (127, [(76, -1)]), (1, [(76, 1)]), (0, [(76, 1)])])]
def hv_r3_h : List mz_H := [(0, 0, []), (0, 0, []), (0, 0, []), (0, 0, [(3, 1)]), (0, 0, [(4, 1), (2, 1)]), (0, 0, []), (0, 0, []), (0, 0, []), (0, 0, []), (0, 0, []), (0, 0, []), (0, 0, []), (0, 0, []), (0, 0, []), (0, 0, []), (0, 0, []), (0, 0, [(0, 1)]), (0, 0, []), (0, 0, [(5, 1)]), (0, 0, [(0, 1)]), (0, 0, []), (0, 0, []), (0, 0, []), (266, 0, []), (270, 0, []), (0, 0, [(5, 1)]), (0, 0, [(6, 1), (4, 1)]), (0, 0, []), (0, 0, [(0, 8)]), (0, 0, [(1, 8)]), (0, 0, []), (0, 0, [(0, 8)]), (0, 0, [(1, 8)]), (0, 0, [(0, 8)]), (0, 0, [(1, 8)]), (0, 0, []), (0, 0, []), (1, 0, []), (0, 0, []), (0, 0, []), (0, 0, []), (0, 0, []), (0, 0, []), (0, 0, []), (0, 0, []), (0, 0, []), (0, 0, []), (0, 0, []), (0, 0, []), (0, 0, []), (0, 0, []), (0, 0, []), (0, 0, [(5, 1)]), (0, 0, [(5, 1)]), (0, 0, [(0, 1)]), (0, 0, [(1, 1)]), (0, 0, [(0, 1)]), (2, 0, []), (0, 0, []), (0, 0, []), (0, 0, []), (0, 0, []), (0, 0, []), (0, 0, []), (0, 0, []), (0, 0, []), (0, 0, []), (0, 0, []), (0, 0, []), (0, 0, []), (0, 0, []), (0, 0, []), (0, 0, [(5, 1)]), (0, 0, [(5, 1)]), (0, 0, [(2, 1)]), (0, 0, [(0, 1)]), (0, 0, [(0, 1)]), (266, 0, []), (270, 0, []), (0, 0, [(5, 1)]), (0, 0, [(6, 1), (4, 1)]), (0, 0, []), (0, 0, [(0, 8)]), (0, 0, [(1, 8)]), (0, 0, []), (0, 0, [(0, 8)]), (0, 0, [(1, 8)]), (0, 0, [(0, 8)]), (0, 0, [(1, 8)]), (0, 0, []), (0, 0, []), (3, 0, []), (0, 0, []), (0, 0, []), (0, 0, []), (0, 0, []), (0, 0, []), (0, 0, []), (0, 0, []), (0, 0, []), (0, 0, []), (0, 0, []), (0, 0, []), (0, 0, []), (0, 0, []), (0, 0, []), (0, 0, [(5, 1)]), (0, 0, [(6, 1)]), (0, 0, [(5, 1)]), (0, 0, [(0, 1)]), (0, 0, [(1, 1)]), (0, 0, [(0, 1)]), (4, 0, []), (0, 0, []), (0, 0, []), (0, 0, []), (0, 0, []), (0, 0, []), (0, 0, []), (0, 0, []), (0, 0, []), (0, 0, []), (0, 0, []), (0, 0, []), (0, 0, []), (0, 0, []), (0, 0, []), (0, 0, [(5, 1)]), (0, 0, [(6, 1)]), (0, 0, [(5, 1)]), (0, 0, [(2, 1)]), (0, 0, [(0, 1)]), (0, 0, [(0, 1)]), (266, 0, []), (270, 0, []), (0, 0, [(5, 1)]), (0, 0, [(6, 1), (4, 1)]), (0, 0, []), (0, 0, [(0, 8)]), (0, 0, [(1, 8)]), (0, 0, []), (0, 0, [(0, 8)]), (0, 0, [(1, 8)]), (0, 0, [(0, 8)]), (0, 0, [(1, 8)]), (0, 0, []), (0, 0, []), (5, 0, []), (0, 0, []), (0, 0, []), (0, 0, []), (0, 0, []), (0, 0, []), (0, 0, []), (0, 0, []), (0, 0, []), (0, 0, []), (0, 0, []), (0, 0, []), (0, 0, []), (0, 0, []), (0, 0, []), (0, 0, [(5, 1)]), (0, 0, [(6, 1)]), (0, 0, [(0, 1)]), (0, 0, [(1, 1)]), (0, 0, [(0, 1)]), (6, 0, []), (0, 0, []), (0, 0, []), (0, 0, []), (0, 0, []), (0, 0, []), (0, 0, []), (0, 0, []), (0, 0, []), (0, 0, []), (0, 0, []), (0, 0, []), (0, 0, []), (0, 0, []), (0, 0, []), (0, 0, [(5, 1)]), (0, 0, [(6, 1)]), (0, 0, [(2, 1)]), (0, 0, [(0, 1)]), (0, 0, [(0, 1)])]
set_option maxRecDepth 100000 in
theorem hv_r3_c : mz_blk mz_GG mq_PP mz_Cs hv_r3_q 9 1 21 hv_r3_s [(28, 0, 5, 3, 3, [])] 84 hv_r3_h = true := by decide +kernel
theorem hv_r3 {X : (Nat → mq_C) → Prop} (hX : ∀ M M' : Nat → mq_C, mz_same mz_GG M M' → X M → X M') (hC : ∀ c ∈ mz_Cs, c.2 < 1 → mz_Ct mz_GG mq_PP X c.1 c.2) {d z u : Nat} {M : Nat → mq_C} {Q : (Option Value ⊕ Nat) → mq_S → Prop} {x1 : Int32} {x2 : Int32} {x3 : Int32} {x4 : Int32} {x5 : Int32} {o6 : Option Value} {o7 : Option Value} {o8 : Option Value} (hd : 1 ≤ d) (hz : 272 ≤ z) (hm : mz_sh mz_GG M) (hx : X M) (h0 : mq_nl o6 = true) (h1 : mq_nl o7 = true) (h2 : mq_nl o8 = true) (p0 : 0 ≤ (-1) + x3.toInt) (p1 : 0 ≤ 128 - x3.toInt) (p2 : 0 ≤ x4.toInt) (p3 : 0 ≤ (-1) + x3.toInt - x4.toInt) (p4 : 0 ≤ (-3) + x5.toInt) (p5 : 0 ≤ 6 - x5.toInt)
    (k0 : ∀ (M' : Nat → mq_C) (y4 : Int32) (w6 : Option Value) (w7 : Option Value) (w8 : Option Value), mz_sh mz_GG M' → X M' → mz_fr hv_r3_q M M' → (∀ a, a < 8 → M' a = M a) → hb_same mz_GG hv_r3_q M M' → mq_nl w6 = true → mq_nl w7 = true → mq_nl w8 = true → y4.toInt = 1 + x4.toInt → 0 ≤ (-6) + x5.toInt → mq_R mq_PP d 168 12 [some (.ref 234), some (.int x1), some (.int x2), some (.int x3), some (.int y4), some (.int x5), w6, w7, w8] [] (M', z, u) Q)
    (k1 : ∀ (M' : Nat → mq_C) (y5 : Int32) (y6 : Int32) (y7 : Int32) (y8 : Int32), mz_sh mz_GG M' → X M' → mz_fr hv_r3_q M M' → (∀ a, a < 8 → M' a = M a) → hb_same mz_GG hv_r3_q M M' → y5.toInt = 3 → y7.toInt = 0 → y8.toInt = 0 → 0 ≤ 5 - x5.toInt → 0 ≤ 3 - x5.toInt → 0 ≤ 127 - y6.toInt → 0 ≤ 1 + y6.toInt → 0 ≤ (-1) - y6.toInt → mq_R mq_PP d 168 63 [some (.ref 234), some (.int x1), some (.int x2), some (.int x3), some (.int x4), some (.int y5), some (.int y6), some (.int y7), some (.int y8)] [] (M', z, u) Q)
    (k2 : ∀ (M' : Nat → mq_C) (y5 : Int32) (y6 : Int32) (y7 : Int32) (y8 : Int32), mz_sh mz_GG M' → X M' → mz_fr hv_r3_q M M' → (∀ a, a < 8 → M' a = M a) → hb_same mz_GG hv_r3_q M M' → y5.toInt = 3 → y7.toInt = 1 → y8.toInt = 0 → 0 ≤ 5 - x5.toInt → 0 ≤ 3 - x5.toInt → 0 ≤ 127 - y6.toInt → 0 ≤ 1 + y6.toInt → 0 ≤ y6.toInt → mq_R mq_PP d 168 63 [some (.ref 234), some (.int x1), some (.int x2), some (.int x3), some (.int x4), some (.int y5), some (.int y6), some (.int y7), some (.int y8)] [] (M', z, u) Q)
    (k3 : ∀ (M' : Nat → mq_C) (y5 : Int32) (y6 : Int32) (y7 : Int32) (y8 : Int32), mz_sh mz_GG M' → X M' → mz_fr hv_r3_q M M' → (∀ a, a < 8 → M' a = M a) → hb_same mz_GG hv_r3_q M M' → y5.toInt = 4 → y7.toInt = 0 → y8.toInt = 0 → 0 ≤ 5 - x5.toInt → 0 ≤ (-4) + x5.toInt → 0 ≤ 4 - x5.toInt → 0 ≤ 127 - y6.toInt → 0 ≤ 1 + y6.toInt → 0 ≤ (-1) - y6.toInt → mq_R mq_PP d 168 63 [some (.ref 234), some (.int x1), some (.int x2), some (.int x3), some (.int x4), some (.int y5), some (.int y6), some (.int y7), some (.int y8)] [] (M', z, u) Q)
    (k4 : ∀ (M' : Nat → mq_C) (y5 : Int32) (y6 : Int32) (y7 : Int32) (y8 : Int32), mz_sh mz_GG M' → X M' → mz_fr hv_r3_q M M' → (∀ a, a < 8 → M' a = M a) → hb_same mz_GG hv_r3_q M M' → y5.toInt = 4 → y7.toInt = 1 → y8.toInt = 0 → 0 ≤ 5 - x5.toInt → 0 ≤ (-4) + x5.toInt → 0 ≤ 4 - x5.toInt → 0 ≤ 127 - y6.toInt → 0 ≤ 1 + y6.toInt → 0 ≤ y6.toInt → mq_R mq_PP d 168 63 [some (.ref 234), some (.int x1), some (.int x2), some (.int x3), some (.int x4), some (.int y5), some (.int y6), some (.int y7), some (.int y8)] [] (M', z, u) Q)
    (k5 : ∀ (M' : Nat → mq_C) (y5 : Int32) (y6 : Int32) (y7 : Int32) (y8 : Int32), mz_sh mz_GG M' → X M' → mz_fr hv_r3_q M M' → (∀ a, a < 8 → M' a = M a) → hb_same mz_GG hv_r3_q M M' → y5.toInt = 5 → y7.toInt = 0 → y8.toInt = 0 → 0 ≤ 5 - x5.toInt → 0 ≤ (-5) + x5.toInt → 0 ≤ 127 - y6.toInt → 0 ≤ 1 + y6.toInt → 0 ≤ (-1) - y6.toInt → mq_R mq_PP d 168 63 [some (.ref 234), some (.int x1), some (.int x2), some (.int x3), some (.int x4), some (.int y5), some (.int y6), some (.int y7), some (.int y8)] [] (M', z, u) Q)
    (k6 : ∀ (M' : Nat → mq_C) (y5 : Int32) (y6 : Int32) (y7 : Int32) (y8 : Int32), mz_sh mz_GG M' → X M' → mz_fr hv_r3_q M M' → (∀ a, a < 8 → M' a = M a) → hb_same mz_GG hv_r3_q M M' → y5.toInt = 5 → y7.toInt = 1 → y8.toInt = 0 → 0 ≤ 5 - x5.toInt → 0 ≤ (-5) + x5.toInt → 0 ≤ 127 - y6.toInt → 0 ≤ 1 + y6.toInt → 0 ≤ y6.toInt → mq_R mq_PP d 168 63 [some (.ref 234), some (.int x1), some (.int x2), some (.int x3), some (.int x4), some (.int y5), some (.int y6), some (.int y7), some (.int y8)] [] (M', z, u) Q) : mq_R mq_PP d 168 21 [some (.ref 234), some (.int x1), some (.int x2), some (.int x3), some (.int x4), some (.int x5), o6, o7, o8] [] (M, z, u) Q := by
  refine hb_blk mz_GG mq_PP X (q := hv_r3_q) (nl := 9) (M := M) hb_okG hX hC hv_r3_c hz hd (L := [some (.ref 234), some (.int x1), some (.int x2), some (.int x3), some (.int x4), some (.int x5), o6, o7, o8]) (st := []) (show hb_lk mz_GG ([(1, 234), (0, 0), (0, 0), (0, 0), (0, 0), (0, 0), (3, 0), (3, 0), (3, 0)]) _ from ⟨⟨List.mem_singleton.mpr rfl, rfl⟩, trivial, trivial, trivial, trivial, trivial, h0, h1, h2, trivial⟩) (show hb_pk mz_GG ([]) _ from trivial) hm hx ?_ ?_ ?_
  · exact hb_cons (show 0 ≤ mz_ev _ _ from (show 0 ≤ -1 + (1 * x3.toInt + 0) by omega)) (hb_cons (show 0 ≤ mz_ev _ _ from (show 0 ≤ 128 + ((-1) * x3.toInt + 0) by omega)) (hb_cons (show 0 ≤ mz_ev _ _ from (show 0 ≤ 0 + (1 * x4.toInt + 0) by omega)) (hb_cons (show 0 ≤ mz_ev _ _ from (show 0 ≤ -1 + (1 * x3.toInt + ((-1) * x4.toInt + 0)) by omega)) (hb_cons (show 0 ≤ mz_ev _ _ from (show 0 ≤ -3 + (1 * x5.toInt + 0) by omega)) (hb_cons (show 0 ≤ mz_ev _ _ from (show 0 ≤ 6 + ((-1) * x5.toInt + 0) by omega)) (hb_nil))))))
  · intro s hs
    rcases List.mem_cons.mp hs with rfl | hs
    · intro ρ1 L' st' M' g1 g2 gm gr gf gs gx gw g8 ge
      obtain ⟨e0, L1, rfl, n0, gg0⟩ := hb_l1 mz_GG g1
      obtain rfl : e0 = 234 := List.mem_singleton.mp n0
      obtain ⟨y1, L1, rfl, qr71, gg1⟩ := hb_l0 mz_GG gg0
      have r71 : ρ1 71 = y1.toInt := qr71
      obtain ⟨y2, L1, rfl, qr72, gg2⟩ := hb_l0 mz_GG gg1
      have r72 : ρ1 72 = y2.toInt := qr72
      obtain ⟨y3, L1, rfl, qr73, gg3⟩ := hb_l0 mz_GG gg2
      have r73 : ρ1 73 = y3.toInt := qr73
      obtain ⟨y4, L1, rfl, qr74, gg4⟩ := hb_l0 mz_GG gg3
      have r74 : ρ1 74 = y4.toInt := qr74
      obtain ⟨y5, L1, rfl, qr75, gg5⟩ := hb_l0 mz_GG gg4
      have r75 : ρ1 75 = y5.toInt := qr75
      obtain ⟨w6, L1, rfl, n6, gg6⟩ := hb_l3 mz_GG gg5
      obtain ⟨w7, L1, rfl, n7, gg7⟩ := hb_l3 mz_GG gg6
      obtain ⟨w8, L1, rfl, n8, gg8⟩ := hb_l3 mz_GG gg7
      obtain rfl := hb_ln mz_GG gg8
      obtain rfl := hb_pn mz_GG g2
      have r1 : ρ1 1 = x1.toInt := gr 1 (by decide +kernel)
      have r2 : ρ1 2 = x2.toInt := gr 2 (by decide +kernel)
      have r3 : ρ1 3 = x3.toInt := gr 3 (by decide +kernel)
      have r4 : ρ1 4 = x4.toInt := gr 4 (by decide +kernel)
      have r5 : ρ1 5 = x5.toInt := gr 5 (by decide +kernel)
      obtain ⟨f0, gf⟩ := hb_unc gf
      have f0 : 0 ≤ 0 + ((-1) * ρ1 1 + (1 * ρ1 71 + 0)) := f0
      rw [r1, r71] at f0
      obtain ⟨f1, gf⟩ := hb_unc gf
      have f1 : 0 ≤ 0 + (1 * ρ1 1 + ((-1) * ρ1 71 + 0)) := f1
      rw [r1, r71] at f1
      obtain ⟨f2, gf⟩ := hb_unc gf
      have f2 : 0 ≤ 0 + ((-1) * ρ1 2 + (1 * ρ1 72 + 0)) := f2
      rw [r2, r72] at f2
      obtain ⟨f3, gf⟩ := hb_unc gf
      have f3 : 0 ≤ 0 + (1 * ρ1 2 + ((-1) * ρ1 72 + 0)) := f3
      rw [r2, r72] at f3
      obtain ⟨f4, gf⟩ := hb_unc gf
      have f4 : 0 ≤ 0 + ((-1) * ρ1 3 + (1 * ρ1 73 + 0)) := f4
      rw [r3, r73] at f4
      obtain ⟨f5, gf⟩ := hb_unc gf
      have f5 : 0 ≤ 0 + (1 * ρ1 3 + ((-1) * ρ1 73 + 0)) := f5
      rw [r3, r73] at f5
      obtain ⟨f6, gf⟩ := hb_unc gf
      have f6 : 0 ≤ -1 + ((-1) * ρ1 4 + (1 * ρ1 74 + 0)) := f6
      rw [r4, r74] at f6
      obtain ⟨f7, gf⟩ := hb_unc gf
      have f7 : 0 ≤ 1 + (1 * ρ1 4 + ((-1) * ρ1 74 + 0)) := f7
      rw [r4, r74] at f7
      obtain ⟨f8, gf⟩ := hb_unc gf
      have f8 : 0 ≤ 0 + ((-1) * ρ1 5 + (1 * ρ1 75 + 0)) := f8
      rw [r5, r75] at f8
      obtain ⟨f9, gf⟩ := hb_unc gf
      have f9 : 0 ≤ 0 + (1 * ρ1 5 + ((-1) * ρ1 75 + 0)) := f9
      rw [r5, r75] at f9
      obtain ⟨f10, gf⟩ := hb_unc gf
      have f10 : 0 ≤ -6 + (1 * ρ1 5 + 0) := f10
      rw [r5] at f10
      have hy1 : y1 = x1 := hb_inj f0 f1
      subst y1
      have hy2 : y2 = x2 := hb_inj f2 f3
      subst y2
      have hy3 : y3 = x3 := hb_inj f4 f5
      subst y3
      have hy5 : y5 = x5 := hb_inj f8 f9
      subst y5
      exact k0 M' y4 w6 w7 w8 gs gx gw g8 ge n6 n7 n8 (by have h1 := f6; have h2 := f7; omega) (by have h1 := f10; omega)
    rcases List.mem_cons.mp hs with rfl | hs
    · intro ρ1 L' st' M' g1 g2 gm gr gf gs gx gw g8 ge
      obtain ⟨e0, L1, rfl, n0, gg0⟩ := hb_l1 mz_GG g1
      obtain rfl : e0 = 234 := List.mem_singleton.mp n0
      obtain ⟨y1, L1, rfl, qr71, gg1⟩ := hb_l0 mz_GG gg0
      have r71 : ρ1 71 = y1.toInt := qr71
      obtain ⟨y2, L1, rfl, qr72, gg2⟩ := hb_l0 mz_GG gg1
      have r72 : ρ1 72 = y2.toInt := qr72
      obtain ⟨y3, L1, rfl, qr73, gg3⟩ := hb_l0 mz_GG gg2
      have r73 : ρ1 73 = y3.toInt := qr73
      obtain ⟨y4, L1, rfl, qr74, gg4⟩ := hb_l0 mz_GG gg3
      have r74 : ρ1 74 = y4.toInt := qr74
      obtain ⟨y5, L1, rfl, qr75, gg5⟩ := hb_l0 mz_GG gg4
      have r75 : ρ1 75 = y5.toInt := qr75
      obtain ⟨y6, L1, rfl, qr76, gg6⟩ := hb_l0 mz_GG gg5
      have r76 : ρ1 76 = y6.toInt := qr76
      obtain ⟨y7, L1, rfl, qr77, gg7⟩ := hb_l0 mz_GG gg6
      have r77 : ρ1 77 = y7.toInt := qr77
      obtain ⟨y8, L1, rfl, qr78, gg8⟩ := hb_l0 mz_GG gg7
      have r78 : ρ1 78 = y8.toInt := qr78
      obtain rfl := hb_ln mz_GG gg8
      obtain rfl := hb_pn mz_GG g2
      have r1 : ρ1 1 = x1.toInt := gr 1 (by decide +kernel)
      have r2 : ρ1 2 = x2.toInt := gr 2 (by decide +kernel)
      have r3 : ρ1 3 = x3.toInt := gr 3 (by decide +kernel)
      have r4 : ρ1 4 = x4.toInt := gr 4 (by decide +kernel)
      have r5 : ρ1 5 = x5.toInt := gr 5 (by decide +kernel)
      obtain ⟨f0, gf⟩ := hb_unc gf
      have f0 : 0 ≤ 0 + ((-1) * ρ1 1 + (1 * ρ1 71 + 0)) := f0
      rw [r1, r71] at f0
      obtain ⟨f1, gf⟩ := hb_unc gf
      have f1 : 0 ≤ 0 + (1 * ρ1 1 + ((-1) * ρ1 71 + 0)) := f1
      rw [r1, r71] at f1
      obtain ⟨f2, gf⟩ := hb_unc gf
      have f2 : 0 ≤ 0 + ((-1) * ρ1 2 + (1 * ρ1 72 + 0)) := f2
      rw [r2, r72] at f2
      obtain ⟨f3, gf⟩ := hb_unc gf
      have f3 : 0 ≤ 0 + (1 * ρ1 2 + ((-1) * ρ1 72 + 0)) := f3
      rw [r2, r72] at f3
      obtain ⟨f4, gf⟩ := hb_unc gf
      have f4 : 0 ≤ 0 + ((-1) * ρ1 3 + (1 * ρ1 73 + 0)) := f4
      rw [r3, r73] at f4
      obtain ⟨f5, gf⟩ := hb_unc gf
      have f5 : 0 ≤ 0 + (1 * ρ1 3 + ((-1) * ρ1 73 + 0)) := f5
      rw [r3, r73] at f5
      obtain ⟨f6, gf⟩ := hb_unc gf
      have f6 : 0 ≤ 0 + ((-1) * ρ1 4 + (1 * ρ1 74 + 0)) := f6
      rw [r4, r74] at f6
      obtain ⟨f7, gf⟩ := hb_unc gf
      have f7 : 0 ≤ 0 + (1 * ρ1 4 + ((-1) * ρ1 74 + 0)) := f7
      rw [r4, r74] at f7
      obtain ⟨f8, gf⟩ := hb_unc gf
      have f8 : 0 ≤ -3 + (1 * ρ1 75 + 0) := f8
      rw [r75] at f8
      obtain ⟨f9, gf⟩ := hb_unc gf
      have f9 : 0 ≤ 3 + ((-1) * ρ1 75 + 0) := f9
      rw [r75] at f9
      obtain ⟨f10, gf⟩ := hb_unc gf
      have f10 : 0 ≤ 0 + (1 * ρ1 77 + 0) := f10
      rw [r77] at f10
      obtain ⟨f11, gf⟩ := hb_unc gf
      have f11 : 0 ≤ 0 + ((-1) * ρ1 77 + 0) := f11
      rw [r77] at f11
      obtain ⟨f12, gf⟩ := hb_unc gf
      have f12 : 0 ≤ 0 + (1 * ρ1 78 + 0) := f12
      rw [r78] at f12
      obtain ⟨f13, gf⟩ := hb_unc gf
      have f13 : 0 ≤ 0 + ((-1) * ρ1 78 + 0) := f13
      rw [r78] at f13
      obtain ⟨f14, gf⟩ := hb_unc gf
      have f14 : 0 ≤ 5 + ((-1) * ρ1 5 + 0) := f14
      rw [r5] at f14
      obtain ⟨f15, gf⟩ := hb_unc gf
      have f15 : 0 ≤ 3 + ((-1) * ρ1 5 + 0) := f15
      rw [r5] at f15
      obtain ⟨f16, gf⟩ := hb_unc gf
      have f16 : 0 ≤ 127 + ((-1) * ρ1 76 + 0) := f16
      rw [r76] at f16
      obtain ⟨f17, gf⟩ := hb_unc gf
      have f17 : 0 ≤ 1 + (1 * ρ1 76 + 0) := f17
      rw [r76] at f17
      obtain ⟨f18, gf⟩ := hb_unc gf
      have f18 : 0 ≤ -1 + ((-1) * ρ1 76 + 0) := f18
      rw [r76] at f18
      have hy1 : y1 = x1 := hb_inj f0 f1
      subst y1
      have hy2 : y2 = x2 := hb_inj f2 f3
      subst y2
      have hy3 : y3 = x3 := hb_inj f4 f5
      subst y3
      have hy4 : y4 = x4 := hb_inj f6 f7
      subst y4
      exact k1 M' y5 y6 y7 y8 gs gx gw g8 ge  (by have h1 := f8; have h2 := f9; omega) (by have h1 := f10; have h2 := f11; omega) (by have h1 := f12; have h2 := f13; omega) (by have h1 := f14; omega) (by have h1 := f15; omega) (by have h1 := f16; omega) (by have h1 := f17; omega) (by have h1 := f18; omega)
    rcases List.mem_cons.mp hs with rfl | hs
    · intro ρ1 L' st' M' g1 g2 gm gr gf gs gx gw g8 ge
      obtain ⟨e0, L1, rfl, n0, gg0⟩ := hb_l1 mz_GG g1
      obtain rfl : e0 = 234 := List.mem_singleton.mp n0
      obtain ⟨y1, L1, rfl, qr71, gg1⟩ := hb_l0 mz_GG gg0
      have r71 : ρ1 71 = y1.toInt := qr71
      obtain ⟨y2, L1, rfl, qr72, gg2⟩ := hb_l0 mz_GG gg1
      have r72 : ρ1 72 = y2.toInt := qr72
      obtain ⟨y3, L1, rfl, qr73, gg3⟩ := hb_l0 mz_GG gg2
      have r73 : ρ1 73 = y3.toInt := qr73
      obtain ⟨y4, L1, rfl, qr74, gg4⟩ := hb_l0 mz_GG gg3
      have r74 : ρ1 74 = y4.toInt := qr74
      obtain ⟨y5, L1, rfl, qr75, gg5⟩ := hb_l0 mz_GG gg4
      have r75 : ρ1 75 = y5.toInt := qr75
      obtain ⟨y6, L1, rfl, qr76, gg6⟩ := hb_l0 mz_GG gg5
      have r76 : ρ1 76 = y6.toInt := qr76
      obtain ⟨y7, L1, rfl, qr77, gg7⟩ := hb_l0 mz_GG gg6
      have r77 : ρ1 77 = y7.toInt := qr77
      obtain ⟨y8, L1, rfl, qr78, gg8⟩ := hb_l0 mz_GG gg7
      have r78 : ρ1 78 = y8.toInt := qr78
      obtain rfl := hb_ln mz_GG gg8
      obtain rfl := hb_pn mz_GG g2
      have r1 : ρ1 1 = x1.toInt := gr 1 (by decide +kernel)
      have r2 : ρ1 2 = x2.toInt := gr 2 (by decide +kernel)
      have r3 : ρ1 3 = x3.toInt := gr 3 (by decide +kernel)
      have r4 : ρ1 4 = x4.toInt := gr 4 (by decide +kernel)
      have r5 : ρ1 5 = x5.toInt := gr 5 (by decide +kernel)
      obtain ⟨f0, gf⟩ := hb_unc gf
      have f0 : 0 ≤ 0 + ((-1) * ρ1 1 + (1 * ρ1 71 + 0)) := f0
      rw [r1, r71] at f0
      obtain ⟨f1, gf⟩ := hb_unc gf
      have f1 : 0 ≤ 0 + (1 * ρ1 1 + ((-1) * ρ1 71 + 0)) := f1
      rw [r1, r71] at f1
      obtain ⟨f2, gf⟩ := hb_unc gf
      have f2 : 0 ≤ 0 + ((-1) * ρ1 2 + (1 * ρ1 72 + 0)) := f2
      rw [r2, r72] at f2
      obtain ⟨f3, gf⟩ := hb_unc gf
      have f3 : 0 ≤ 0 + (1 * ρ1 2 + ((-1) * ρ1 72 + 0)) := f3
      rw [r2, r72] at f3
      obtain ⟨f4, gf⟩ := hb_unc gf
      have f4 : 0 ≤ 0 + ((-1) * ρ1 3 + (1 * ρ1 73 + 0)) := f4
      rw [r3, r73] at f4
      obtain ⟨f5, gf⟩ := hb_unc gf
      have f5 : 0 ≤ 0 + (1 * ρ1 3 + ((-1) * ρ1 73 + 0)) := f5
      rw [r3, r73] at f5
      obtain ⟨f6, gf⟩ := hb_unc gf
      have f6 : 0 ≤ 0 + ((-1) * ρ1 4 + (1 * ρ1 74 + 0)) := f6
      rw [r4, r74] at f6
      obtain ⟨f7, gf⟩ := hb_unc gf
      have f7 : 0 ≤ 0 + (1 * ρ1 4 + ((-1) * ρ1 74 + 0)) := f7
      rw [r4, r74] at f7
      obtain ⟨f8, gf⟩ := hb_unc gf
      have f8 : 0 ≤ -3 + (1 * ρ1 75 + 0) := f8
      rw [r75] at f8
      obtain ⟨f9, gf⟩ := hb_unc gf
      have f9 : 0 ≤ 3 + ((-1) * ρ1 75 + 0) := f9
      rw [r75] at f9
      obtain ⟨f10, gf⟩ := hb_unc gf
      have f10 : 0 ≤ -1 + (1 * ρ1 77 + 0) := f10
      rw [r77] at f10
      obtain ⟨f11, gf⟩ := hb_unc gf
      have f11 : 0 ≤ 1 + ((-1) * ρ1 77 + 0) := f11
      rw [r77] at f11
      obtain ⟨f12, gf⟩ := hb_unc gf
      have f12 : 0 ≤ 0 + (1 * ρ1 78 + 0) := f12
      rw [r78] at f12
      obtain ⟨f13, gf⟩ := hb_unc gf
      have f13 : 0 ≤ 0 + ((-1) * ρ1 78 + 0) := f13
      rw [r78] at f13
      obtain ⟨f14, gf⟩ := hb_unc gf
      have f14 : 0 ≤ 5 + ((-1) * ρ1 5 + 0) := f14
      rw [r5] at f14
      obtain ⟨f15, gf⟩ := hb_unc gf
      have f15 : 0 ≤ 3 + ((-1) * ρ1 5 + 0) := f15
      rw [r5] at f15
      obtain ⟨f16, gf⟩ := hb_unc gf
      have f16 : 0 ≤ 127 + ((-1) * ρ1 76 + 0) := f16
      rw [r76] at f16
      obtain ⟨f17, gf⟩ := hb_unc gf
      have f17 : 0 ≤ 1 + (1 * ρ1 76 + 0) := f17
      rw [r76] at f17
      obtain ⟨f18, gf⟩ := hb_unc gf
      have f18 : 0 ≤ 0 + (1 * ρ1 76 + 0) := f18
      rw [r76] at f18
      have hy1 : y1 = x1 := hb_inj f0 f1
      subst y1
      have hy2 : y2 = x2 := hb_inj f2 f3
      subst y2
      have hy3 : y3 = x3 := hb_inj f4 f5
      subst y3
      have hy4 : y4 = x4 := hb_inj f6 f7
      subst y4
      exact k2 M' y5 y6 y7 y8 gs gx gw g8 ge  (by have h1 := f8; have h2 := f9; omega) (by have h1 := f10; have h2 := f11; omega) (by have h1 := f12; have h2 := f13; omega) (by have h1 := f14; omega) (by have h1 := f15; omega) (by have h1 := f16; omega) (by have h1 := f17; omega) (by have h1 := f18; omega)
    rcases List.mem_cons.mp hs with rfl | hs
    · intro ρ1 L' st' M' g1 g2 gm gr gf gs gx gw g8 ge
      obtain ⟨e0, L1, rfl, n0, gg0⟩ := hb_l1 mz_GG g1
      obtain rfl : e0 = 234 := List.mem_singleton.mp n0
      obtain ⟨y1, L1, rfl, qr71, gg1⟩ := hb_l0 mz_GG gg0
      have r71 : ρ1 71 = y1.toInt := qr71
      obtain ⟨y2, L1, rfl, qr72, gg2⟩ := hb_l0 mz_GG gg1
      have r72 : ρ1 72 = y2.toInt := qr72
      obtain ⟨y3, L1, rfl, qr73, gg3⟩ := hb_l0 mz_GG gg2
      have r73 : ρ1 73 = y3.toInt := qr73
      obtain ⟨y4, L1, rfl, qr74, gg4⟩ := hb_l0 mz_GG gg3
      have r74 : ρ1 74 = y4.toInt := qr74
      obtain ⟨y5, L1, rfl, qr75, gg5⟩ := hb_l0 mz_GG gg4
      have r75 : ρ1 75 = y5.toInt := qr75
      obtain ⟨y6, L1, rfl, qr76, gg6⟩ := hb_l0 mz_GG gg5
      have r76 : ρ1 76 = y6.toInt := qr76
      obtain ⟨y7, L1, rfl, qr77, gg7⟩ := hb_l0 mz_GG gg6
      have r77 : ρ1 77 = y7.toInt := qr77
      obtain ⟨y8, L1, rfl, qr78, gg8⟩ := hb_l0 mz_GG gg7
      have r78 : ρ1 78 = y8.toInt := qr78
      obtain rfl := hb_ln mz_GG gg8
      obtain rfl := hb_pn mz_GG g2
      have r1 : ρ1 1 = x1.toInt := gr 1 (by decide +kernel)
      have r2 : ρ1 2 = x2.toInt := gr 2 (by decide +kernel)
      have r3 : ρ1 3 = x3.toInt := gr 3 (by decide +kernel)
      have r4 : ρ1 4 = x4.toInt := gr 4 (by decide +kernel)
      have r5 : ρ1 5 = x5.toInt := gr 5 (by decide +kernel)
      obtain ⟨f0, gf⟩ := hb_unc gf
      have f0 : 0 ≤ 0 + ((-1) * ρ1 1 + (1 * ρ1 71 + 0)) := f0
      rw [r1, r71] at f0
      obtain ⟨f1, gf⟩ := hb_unc gf
      have f1 : 0 ≤ 0 + (1 * ρ1 1 + ((-1) * ρ1 71 + 0)) := f1
      rw [r1, r71] at f1
      obtain ⟨f2, gf⟩ := hb_unc gf
      have f2 : 0 ≤ 0 + ((-1) * ρ1 2 + (1 * ρ1 72 + 0)) := f2
      rw [r2, r72] at f2
      obtain ⟨f3, gf⟩ := hb_unc gf
      have f3 : 0 ≤ 0 + (1 * ρ1 2 + ((-1) * ρ1 72 + 0)) := f3
      rw [r2, r72] at f3
      obtain ⟨f4, gf⟩ := hb_unc gf
      have f4 : 0 ≤ 0 + ((-1) * ρ1 3 + (1 * ρ1 73 + 0)) := f4
      rw [r3, r73] at f4
      obtain ⟨f5, gf⟩ := hb_unc gf
      have f5 : 0 ≤ 0 + (1 * ρ1 3 + ((-1) * ρ1 73 + 0)) := f5
      rw [r3, r73] at f5
      obtain ⟨f6, gf⟩ := hb_unc gf
      have f6 : 0 ≤ 0 + ((-1) * ρ1 4 + (1 * ρ1 74 + 0)) := f6
      rw [r4, r74] at f6
      obtain ⟨f7, gf⟩ := hb_unc gf
      have f7 : 0 ≤ 0 + (1 * ρ1 4 + ((-1) * ρ1 74 + 0)) := f7
      rw [r4, r74] at f7
      obtain ⟨f8, gf⟩ := hb_unc gf
      have f8 : 0 ≤ -4 + (1 * ρ1 75 + 0) := f8
      rw [r75] at f8
      obtain ⟨f9, gf⟩ := hb_unc gf
      have f9 : 0 ≤ 4 + ((-1) * ρ1 75 + 0) := f9
      rw [r75] at f9
      obtain ⟨f10, gf⟩ := hb_unc gf
      have f10 : 0 ≤ 0 + (1 * ρ1 77 + 0) := f10
      rw [r77] at f10
      obtain ⟨f11, gf⟩ := hb_unc gf
      have f11 : 0 ≤ 0 + ((-1) * ρ1 77 + 0) := f11
      rw [r77] at f11
      obtain ⟨f12, gf⟩ := hb_unc gf
      have f12 : 0 ≤ 0 + (1 * ρ1 78 + 0) := f12
      rw [r78] at f12
      obtain ⟨f13, gf⟩ := hb_unc gf
      have f13 : 0 ≤ 0 + ((-1) * ρ1 78 + 0) := f13
      rw [r78] at f13
      obtain ⟨f14, gf⟩ := hb_unc gf
      have f14 : 0 ≤ 5 + ((-1) * ρ1 5 + 0) := f14
      rw [r5] at f14
      obtain ⟨f15, gf⟩ := hb_unc gf
      have f15 : 0 ≤ -4 + (1 * ρ1 5 + 0) := f15
      rw [r5] at f15
      obtain ⟨f16, gf⟩ := hb_unc gf
      have f16 : 0 ≤ 4 + ((-1) * ρ1 5 + 0) := f16
      rw [r5] at f16
      obtain ⟨f17, gf⟩ := hb_unc gf
      have f17 : 0 ≤ 127 + ((-1) * ρ1 76 + 0) := f17
      rw [r76] at f17
      obtain ⟨f18, gf⟩ := hb_unc gf
      have f18 : 0 ≤ 1 + (1 * ρ1 76 + 0) := f18
      rw [r76] at f18
      obtain ⟨f19, gf⟩ := hb_unc gf
      have f19 : 0 ≤ -1 + ((-1) * ρ1 76 + 0) := f19
      rw [r76] at f19
      have hy1 : y1 = x1 := hb_inj f0 f1
      subst y1
      have hy2 : y2 = x2 := hb_inj f2 f3
      subst y2
      have hy3 : y3 = x3 := hb_inj f4 f5
      subst y3
      have hy4 : y4 = x4 := hb_inj f6 f7
      subst y4
      exact k3 M' y5 y6 y7 y8 gs gx gw g8 ge  (by have h1 := f8; have h2 := f9; omega) (by have h1 := f10; have h2 := f11; omega) (by have h1 := f12; have h2 := f13; omega) (by have h1 := f14; omega) (by have h1 := f15; omega) (by have h1 := f16; omega) (by have h1 := f17; omega) (by have h1 := f18; omega) (by have h1 := f19; omega)
    rcases List.mem_cons.mp hs with rfl | hs
    · intro ρ1 L' st' M' g1 g2 gm gr gf gs gx gw g8 ge
      obtain ⟨e0, L1, rfl, n0, gg0⟩ := hb_l1 mz_GG g1
      obtain rfl : e0 = 234 := List.mem_singleton.mp n0
      obtain ⟨y1, L1, rfl, qr71, gg1⟩ := hb_l0 mz_GG gg0
      have r71 : ρ1 71 = y1.toInt := qr71
      obtain ⟨y2, L1, rfl, qr72, gg2⟩ := hb_l0 mz_GG gg1
      have r72 : ρ1 72 = y2.toInt := qr72
      obtain ⟨y3, L1, rfl, qr73, gg3⟩ := hb_l0 mz_GG gg2
      have r73 : ρ1 73 = y3.toInt := qr73
      obtain ⟨y4, L1, rfl, qr74, gg4⟩ := hb_l0 mz_GG gg3
      have r74 : ρ1 74 = y4.toInt := qr74
      obtain ⟨y5, L1, rfl, qr75, gg5⟩ := hb_l0 mz_GG gg4
      have r75 : ρ1 75 = y5.toInt := qr75
      obtain ⟨y6, L1, rfl, qr76, gg6⟩ := hb_l0 mz_GG gg5
      have r76 : ρ1 76 = y6.toInt := qr76
      obtain ⟨y7, L1, rfl, qr77, gg7⟩ := hb_l0 mz_GG gg6
      have r77 : ρ1 77 = y7.toInt := qr77
      obtain ⟨y8, L1, rfl, qr78, gg8⟩ := hb_l0 mz_GG gg7
      have r78 : ρ1 78 = y8.toInt := qr78
      obtain rfl := hb_ln mz_GG gg8
      obtain rfl := hb_pn mz_GG g2
      have r1 : ρ1 1 = x1.toInt := gr 1 (by decide +kernel)
      have r2 : ρ1 2 = x2.toInt := gr 2 (by decide +kernel)
      have r3 : ρ1 3 = x3.toInt := gr 3 (by decide +kernel)
      have r4 : ρ1 4 = x4.toInt := gr 4 (by decide +kernel)
      have r5 : ρ1 5 = x5.toInt := gr 5 (by decide +kernel)
      obtain ⟨f0, gf⟩ := hb_unc gf
      have f0 : 0 ≤ 0 + ((-1) * ρ1 1 + (1 * ρ1 71 + 0)) := f0
      rw [r1, r71] at f0
      obtain ⟨f1, gf⟩ := hb_unc gf
      have f1 : 0 ≤ 0 + (1 * ρ1 1 + ((-1) * ρ1 71 + 0)) := f1
      rw [r1, r71] at f1
      obtain ⟨f2, gf⟩ := hb_unc gf
      have f2 : 0 ≤ 0 + ((-1) * ρ1 2 + (1 * ρ1 72 + 0)) := f2
      rw [r2, r72] at f2
      obtain ⟨f3, gf⟩ := hb_unc gf
      have f3 : 0 ≤ 0 + (1 * ρ1 2 + ((-1) * ρ1 72 + 0)) := f3
      rw [r2, r72] at f3
      obtain ⟨f4, gf⟩ := hb_unc gf
      have f4 : 0 ≤ 0 + ((-1) * ρ1 3 + (1 * ρ1 73 + 0)) := f4
      rw [r3, r73] at f4
      obtain ⟨f5, gf⟩ := hb_unc gf
      have f5 : 0 ≤ 0 + (1 * ρ1 3 + ((-1) * ρ1 73 + 0)) := f5
      rw [r3, r73] at f5
      obtain ⟨f6, gf⟩ := hb_unc gf
      have f6 : 0 ≤ 0 + ((-1) * ρ1 4 + (1 * ρ1 74 + 0)) := f6
      rw [r4, r74] at f6
      obtain ⟨f7, gf⟩ := hb_unc gf
      have f7 : 0 ≤ 0 + (1 * ρ1 4 + ((-1) * ρ1 74 + 0)) := f7
      rw [r4, r74] at f7
      obtain ⟨f8, gf⟩ := hb_unc gf
      have f8 : 0 ≤ -4 + (1 * ρ1 75 + 0) := f8
      rw [r75] at f8
      obtain ⟨f9, gf⟩ := hb_unc gf
      have f9 : 0 ≤ 4 + ((-1) * ρ1 75 + 0) := f9
      rw [r75] at f9
      obtain ⟨f10, gf⟩ := hb_unc gf
      have f10 : 0 ≤ -1 + (1 * ρ1 77 + 0) := f10
      rw [r77] at f10
      obtain ⟨f11, gf⟩ := hb_unc gf
      have f11 : 0 ≤ 1 + ((-1) * ρ1 77 + 0) := f11
      rw [r77] at f11
      obtain ⟨f12, gf⟩ := hb_unc gf
      have f12 : 0 ≤ 0 + (1 * ρ1 78 + 0) := f12
      rw [r78] at f12
      obtain ⟨f13, gf⟩ := hb_unc gf
      have f13 : 0 ≤ 0 + ((-1) * ρ1 78 + 0) := f13
      rw [r78] at f13
      obtain ⟨f14, gf⟩ := hb_unc gf
      have f14 : 0 ≤ 5 + ((-1) * ρ1 5 + 0) := f14
      rw [r5] at f14
      obtain ⟨f15, gf⟩ := hb_unc gf
      have f15 : 0 ≤ -4 + (1 * ρ1 5 + 0) := f15
      rw [r5] at f15
      obtain ⟨f16, gf⟩ := hb_unc gf
      have f16 : 0 ≤ 4 + ((-1) * ρ1 5 + 0) := f16
      rw [r5] at f16
      obtain ⟨f17, gf⟩ := hb_unc gf
      have f17 : 0 ≤ 127 + ((-1) * ρ1 76 + 0) := f17
      rw [r76] at f17
      obtain ⟨f18, gf⟩ := hb_unc gf
      have f18 : 0 ≤ 1 + (1 * ρ1 76 + 0) := f18
      rw [r76] at f18
      obtain ⟨f19, gf⟩ := hb_unc gf
      have f19 : 0 ≤ 0 + (1 * ρ1 76 + 0) := f19
      rw [r76] at f19
      have hy1 : y1 = x1 := hb_inj f0 f1
      subst y1
      have hy2 : y2 = x2 := hb_inj f2 f3
      subst y2
      have hy3 : y3 = x3 := hb_inj f4 f5
      subst y3
      have hy4 : y4 = x4 := hb_inj f6 f7
      subst y4
      exact k4 M' y5 y6 y7 y8 gs gx gw g8 ge  (by have h1 := f8; have h2 := f9; omega) (by have h1 := f10; have h2 := f11; omega) (by have h1 := f12; have h2 := f13; omega) (by have h1 := f14; omega) (by have h1 := f15; omega) (by have h1 := f16; omega) (by have h1 := f17; omega) (by have h1 := f18; omega) (by have h1 := f19; omega)
    rcases List.mem_cons.mp hs with rfl | hs
    · intro ρ1 L' st' M' g1 g2 gm gr gf gs gx gw g8 ge
      obtain ⟨e0, L1, rfl, n0, gg0⟩ := hb_l1 mz_GG g1
      obtain rfl : e0 = 234 := List.mem_singleton.mp n0
      obtain ⟨y1, L1, rfl, qr71, gg1⟩ := hb_l0 mz_GG gg0
      have r71 : ρ1 71 = y1.toInt := qr71
      obtain ⟨y2, L1, rfl, qr72, gg2⟩ := hb_l0 mz_GG gg1
      have r72 : ρ1 72 = y2.toInt := qr72
      obtain ⟨y3, L1, rfl, qr73, gg3⟩ := hb_l0 mz_GG gg2
      have r73 : ρ1 73 = y3.toInt := qr73
      obtain ⟨y4, L1, rfl, qr74, gg4⟩ := hb_l0 mz_GG gg3
      have r74 : ρ1 74 = y4.toInt := qr74
      obtain ⟨y5, L1, rfl, qr75, gg5⟩ := hb_l0 mz_GG gg4
      have r75 : ρ1 75 = y5.toInt := qr75
      obtain ⟨y6, L1, rfl, qr76, gg6⟩ := hb_l0 mz_GG gg5
      have r76 : ρ1 76 = y6.toInt := qr76
      obtain ⟨y7, L1, rfl, qr77, gg7⟩ := hb_l0 mz_GG gg6
      have r77 : ρ1 77 = y7.toInt := qr77
      obtain ⟨y8, L1, rfl, qr78, gg8⟩ := hb_l0 mz_GG gg7
      have r78 : ρ1 78 = y8.toInt := qr78
      obtain rfl := hb_ln mz_GG gg8
      obtain rfl := hb_pn mz_GG g2
      have r1 : ρ1 1 = x1.toInt := gr 1 (by decide +kernel)
      have r2 : ρ1 2 = x2.toInt := gr 2 (by decide +kernel)
      have r3 : ρ1 3 = x3.toInt := gr 3 (by decide +kernel)
      have r4 : ρ1 4 = x4.toInt := gr 4 (by decide +kernel)
      have r5 : ρ1 5 = x5.toInt := gr 5 (by decide +kernel)
      obtain ⟨f0, gf⟩ := hb_unc gf
      have f0 : 0 ≤ 0 + ((-1) * ρ1 1 + (1 * ρ1 71 + 0)) := f0
      rw [r1, r71] at f0
      obtain ⟨f1, gf⟩ := hb_unc gf
      have f1 : 0 ≤ 0 + (1 * ρ1 1 + ((-1) * ρ1 71 + 0)) := f1
      rw [r1, r71] at f1
      obtain ⟨f2, gf⟩ := hb_unc gf
      have f2 : 0 ≤ 0 + ((-1) * ρ1 2 + (1 * ρ1 72 + 0)) := f2
      rw [r2, r72] at f2
      obtain ⟨f3, gf⟩ := hb_unc gf
      have f3 : 0 ≤ 0 + (1 * ρ1 2 + ((-1) * ρ1 72 + 0)) := f3
      rw [r2, r72] at f3
      obtain ⟨f4, gf⟩ := hb_unc gf
      have f4 : 0 ≤ 0 + ((-1) * ρ1 3 + (1 * ρ1 73 + 0)) := f4
      rw [r3, r73] at f4
      obtain ⟨f5, gf⟩ := hb_unc gf
      have f5 : 0 ≤ 0 + (1 * ρ1 3 + ((-1) * ρ1 73 + 0)) := f5
      rw [r3, r73] at f5
      obtain ⟨f6, gf⟩ := hb_unc gf
      have f6 : 0 ≤ 0 + ((-1) * ρ1 4 + (1 * ρ1 74 + 0)) := f6
      rw [r4, r74] at f6
      obtain ⟨f7, gf⟩ := hb_unc gf
      have f7 : 0 ≤ 0 + (1 * ρ1 4 + ((-1) * ρ1 74 + 0)) := f7
      rw [r4, r74] at f7
      obtain ⟨f8, gf⟩ := hb_unc gf
      have f8 : 0 ≤ -5 + (1 * ρ1 75 + 0) := f8
      rw [r75] at f8
      obtain ⟨f9, gf⟩ := hb_unc gf
      have f9 : 0 ≤ 5 + ((-1) * ρ1 75 + 0) := f9
      rw [r75] at f9
      obtain ⟨f10, gf⟩ := hb_unc gf
      have f10 : 0 ≤ 0 + (1 * ρ1 77 + 0) := f10
      rw [r77] at f10
      obtain ⟨f11, gf⟩ := hb_unc gf
      have f11 : 0 ≤ 0 + ((-1) * ρ1 77 + 0) := f11
      rw [r77] at f11
      obtain ⟨f12, gf⟩ := hb_unc gf
      have f12 : 0 ≤ 0 + (1 * ρ1 78 + 0) := f12
      rw [r78] at f12
      obtain ⟨f13, gf⟩ := hb_unc gf
      have f13 : 0 ≤ 0 + ((-1) * ρ1 78 + 0) := f13
      rw [r78] at f13
      obtain ⟨f14, gf⟩ := hb_unc gf
      have f14 : 0 ≤ 5 + ((-1) * ρ1 5 + 0) := f14
      rw [r5] at f14
      obtain ⟨f15, gf⟩ := hb_unc gf
      have f15 : 0 ≤ -5 + (1 * ρ1 5 + 0) := f15
      rw [r5] at f15
      obtain ⟨f16, gf⟩ := hb_unc gf
      have f16 : 0 ≤ 127 + ((-1) * ρ1 76 + 0) := f16
      rw [r76] at f16
      obtain ⟨f17, gf⟩ := hb_unc gf
      have f17 : 0 ≤ 1 + (1 * ρ1 76 + 0) := f17
      rw [r76] at f17
      obtain ⟨f18, gf⟩ := hb_unc gf
      have f18 : 0 ≤ -1 + ((-1) * ρ1 76 + 0) := f18
      rw [r76] at f18
      have hy1 : y1 = x1 := hb_inj f0 f1
      subst y1
      have hy2 : y2 = x2 := hb_inj f2 f3
      subst y2
      have hy3 : y3 = x3 := hb_inj f4 f5
      subst y3
      have hy4 : y4 = x4 := hb_inj f6 f7
      subst y4
      exact k5 M' y5 y6 y7 y8 gs gx gw g8 ge  (by have h1 := f8; have h2 := f9; omega) (by have h1 := f10; have h2 := f11; omega) (by have h1 := f12; have h2 := f13; omega) (by have h1 := f14; omega) (by have h1 := f15; omega) (by have h1 := f16; omega) (by have h1 := f17; omega) (by have h1 := f18; omega)
    rcases List.mem_cons.mp hs with rfl | hs
    · intro ρ1 L' st' M' g1 g2 gm gr gf gs gx gw g8 ge
      obtain ⟨e0, L1, rfl, n0, gg0⟩ := hb_l1 mz_GG g1
      obtain rfl : e0 = 234 := List.mem_singleton.mp n0
      obtain ⟨y1, L1, rfl, qr71, gg1⟩ := hb_l0 mz_GG gg0
      have r71 : ρ1 71 = y1.toInt := qr71
      obtain ⟨y2, L1, rfl, qr72, gg2⟩ := hb_l0 mz_GG gg1
      have r72 : ρ1 72 = y2.toInt := qr72
      obtain ⟨y3, L1, rfl, qr73, gg3⟩ := hb_l0 mz_GG gg2
      have r73 : ρ1 73 = y3.toInt := qr73
      obtain ⟨y4, L1, rfl, qr74, gg4⟩ := hb_l0 mz_GG gg3
      have r74 : ρ1 74 = y4.toInt := qr74
      obtain ⟨y5, L1, rfl, qr75, gg5⟩ := hb_l0 mz_GG gg4
      have r75 : ρ1 75 = y5.toInt := qr75
      obtain ⟨y6, L1, rfl, qr76, gg6⟩ := hb_l0 mz_GG gg5
      have r76 : ρ1 76 = y6.toInt := qr76
      obtain ⟨y7, L1, rfl, qr77, gg7⟩ := hb_l0 mz_GG gg6
      have r77 : ρ1 77 = y7.toInt := qr77
      obtain ⟨y8, L1, rfl, qr78, gg8⟩ := hb_l0 mz_GG gg7
      have r78 : ρ1 78 = y8.toInt := qr78
      obtain rfl := hb_ln mz_GG gg8
      obtain rfl := hb_pn mz_GG g2
      have r1 : ρ1 1 = x1.toInt := gr 1 (by decide +kernel)
      have r2 : ρ1 2 = x2.toInt := gr 2 (by decide +kernel)
      have r3 : ρ1 3 = x3.toInt := gr 3 (by decide +kernel)
      have r4 : ρ1 4 = x4.toInt := gr 4 (by decide +kernel)
      have r5 : ρ1 5 = x5.toInt := gr 5 (by decide +kernel)
      obtain ⟨f0, gf⟩ := hb_unc gf
      have f0 : 0 ≤ 0 + ((-1) * ρ1 1 + (1 * ρ1 71 + 0)) := f0
      rw [r1, r71] at f0
      obtain ⟨f1, gf⟩ := hb_unc gf
      have f1 : 0 ≤ 0 + (1 * ρ1 1 + ((-1) * ρ1 71 + 0)) := f1
      rw [r1, r71] at f1
      obtain ⟨f2, gf⟩ := hb_unc gf
      have f2 : 0 ≤ 0 + ((-1) * ρ1 2 + (1 * ρ1 72 + 0)) := f2
      rw [r2, r72] at f2
      obtain ⟨f3, gf⟩ := hb_unc gf
      have f3 : 0 ≤ 0 + (1 * ρ1 2 + ((-1) * ρ1 72 + 0)) := f3
      rw [r2, r72] at f3
      obtain ⟨f4, gf⟩ := hb_unc gf
      have f4 : 0 ≤ 0 + ((-1) * ρ1 3 + (1 * ρ1 73 + 0)) := f4
      rw [r3, r73] at f4
      obtain ⟨f5, gf⟩ := hb_unc gf
      have f5 : 0 ≤ 0 + (1 * ρ1 3 + ((-1) * ρ1 73 + 0)) := f5
      rw [r3, r73] at f5
      obtain ⟨f6, gf⟩ := hb_unc gf
      have f6 : 0 ≤ 0 + ((-1) * ρ1 4 + (1 * ρ1 74 + 0)) := f6
      rw [r4, r74] at f6
      obtain ⟨f7, gf⟩ := hb_unc gf
      have f7 : 0 ≤ 0 + (1 * ρ1 4 + ((-1) * ρ1 74 + 0)) := f7
      rw [r4, r74] at f7
      obtain ⟨f8, gf⟩ := hb_unc gf
      have f8 : 0 ≤ -5 + (1 * ρ1 75 + 0) := f8
      rw [r75] at f8
      obtain ⟨f9, gf⟩ := hb_unc gf
      have f9 : 0 ≤ 5 + ((-1) * ρ1 75 + 0) := f9
      rw [r75] at f9
      obtain ⟨f10, gf⟩ := hb_unc gf
      have f10 : 0 ≤ -1 + (1 * ρ1 77 + 0) := f10
      rw [r77] at f10
      obtain ⟨f11, gf⟩ := hb_unc gf
      have f11 : 0 ≤ 1 + ((-1) * ρ1 77 + 0) := f11
      rw [r77] at f11
      obtain ⟨f12, gf⟩ := hb_unc gf
      have f12 : 0 ≤ 0 + (1 * ρ1 78 + 0) := f12
      rw [r78] at f12
      obtain ⟨f13, gf⟩ := hb_unc gf
      have f13 : 0 ≤ 0 + ((-1) * ρ1 78 + 0) := f13
      rw [r78] at f13
      obtain ⟨f14, gf⟩ := hb_unc gf
      have f14 : 0 ≤ 5 + ((-1) * ρ1 5 + 0) := f14
      rw [r5] at f14
      obtain ⟨f15, gf⟩ := hb_unc gf
      have f15 : 0 ≤ -5 + (1 * ρ1 5 + 0) := f15
      rw [r5] at f15
      obtain ⟨f16, gf⟩ := hb_unc gf
      have f16 : 0 ≤ 127 + ((-1) * ρ1 76 + 0) := f16
      rw [r76] at f16
      obtain ⟨f17, gf⟩ := hb_unc gf
      have f17 : 0 ≤ 1 + (1 * ρ1 76 + 0) := f17
      rw [r76] at f17
      obtain ⟨f18, gf⟩ := hb_unc gf
      have f18 : 0 ≤ 0 + (1 * ρ1 76 + 0) := f18
      rw [r76] at f18
      have hy1 : y1 = x1 := hb_inj f0 f1
      subst y1
      have hy2 : y2 = x2 := hb_inj f2 f3
      subst y2
      have hy3 : y3 = x3 := hb_inj f4 f5
      subst y3
      have hy4 : y4 = x4 := hb_inj f6 f7
      subst y4
      exact k6 M' y5 y6 y7 y8 gs gx gw g8 ge  (by have h1 := f8; have h2 := f9; omega) (by have h1 := f10; have h2 := f11; omega) (by have h1 := f12; have h2 := f13; omega) (by have h1 := f14; omega) (by have h1 := f15; omega) (by have h1 := f16; omega) (by have h1 := f17; omega) (by have h1 := f18; omega)
    cases hs
  · intro r S hpo
    obtain ⟨b1, b2, b3, b4, b5, p, hp, res, hf, hre⟩ := hpo
    cases hp

def hv_r4_q : mz_Q := (168, [(1, 234), (0, 0), (0, 0), (0, 0), (0, 0), (0, 0), (3, 0), (3, 0), (3, 0)], [(-1, [(3, 1)]), (128, [(3, -1)]), (0, [(4, 1)]), (1, [(4, -1)]), (0, [(5, 1)]), (0, [(3, 1), (5, -1)])], [], [(0, 0, [(0, [(70, 1)]), (1, [(70, -1)])])], [])
def hv_r4_s : List mz_Sp2 := [(133, [(1, 234), (0, 0), (0, 0), (0, 0), (0, 0), (0, 0), (3, 0), (3, 0), (3, 0)], [], [(0, [(1, -1), (71, 1)]), (0, [(1, 1), (71, -1)]), (0, [(2, -1), (72, 1)]), (0, [(2, 1), (72, -1)]), (0, [(3, -1), (73, 1)]), (0, [(3, 1), (73, -1)]), (-1, [(74, 1)]), (1, [(74, -1)]), (-1, [(5, -1), (75, 1)]), (1, [(5, 1), (75, -1)]), (-1, [(3, 1), (5, -1)]), (-1, [(4, 1)])]), (133, [(1, 234), (0, 0), (0, 0), (0, 0), (0, 0), (0, 0), (3, 0), (3, 0), (3, 0)], [], [(0, [(1, -1), (71, 1)]), (0, [(1, 1), (71, -1)]), (0, [(2, -1), (72, 1)]), (0, [(2, 1), (72, -1)]), (0, [(3, -1), (73, 1)]), (0, [(3, 1), (73, -1)]), (0, [(74, 1)]), (0, [(74, -1)]), (-1, [(5, -1), (75, 1)]), (1, [(5, 1), (75, -1)]), (-1, [(3, 1), (5, -1)]), (0, [(4, -1)])]), (133, [(1, 234), (0, 0), (0, 0), (0, 0), (0, 0), (0, 0), (3, 0), (3, 0), (3, 0)], [], [(0, [(1, -1), (71, 1)]), (0, [(1, 1), (71, -1)]), (0, [(2, -1), (72, 1)]), (0, [(2, 1), (72, -1)]), (0, [(3, -1), (73, 1)]), (0, [(3, 1), (73, -1)]), (-1, [(74, 1)]), (1, [(74, -1)]), (-1, [(5, -1), (75, 1)]), (1, [(5, 1), (75, -1)]), (-1, [(3, 1), (5, -1)]), (0, [(4, -1)])])]
def hv_r4_h : List mz_H := [(0, 0, []), (0, 0, []), (0, 0, [(3, 1)]), (0, 0, [(4, 1)]), (0, 0, []), (0, 0, [(3, 1)]), (0, 0, [(4, 1)]), (3, 0, []), (0, 0, [(3, 1)]), (0, 0, []), (0, 0, []), (0, 0, [(6, 1)]), (0, 0, [(1, 1), (3, 1)]), (0, 0, []), (0, 0, []), (0, 0, []), (0, 0, []), (0, 0, []), (0, 0, []), (0, 0, []), (0, 0, []), (0, 0, []), (0, 0, []), (0, 0, []), (0, 0, [(1, 1)]), (0, 0, [(0, 1)]), (270, 0, []), (0, 0, [(7, 1)]), (0, 0, [(2, 1), (4, 1)]), (0, 0, []), (0, 0, []), (0, 0, []), (0, 0, [(9, 1)]), (0, 0, [(4, 1), (6, 1)]), (1, 0, []), (0, 0, []), (0, 0, []), (0, 0, []), (0, 0, []), (0, 0, []), (0, 0, []), (0, 0, []), (0, 0, []), (0, 0, []), (0, 0, []), (0, 0, [(4, 1)]), (0, 0, [(2, 1)]), (0, 0, []), (0, 0, [(11, 1)]), (0, 0, [(6, 1), (8, 1)]), (2, 0, []), (0, 0, []), (0, 0, []), (0, 0, []), (0, 0, []), (0, 0, []), (0, 0, []), (0, 0, []), (0, 0, []), (0, 0, []), (0, 0, []), (0, 0, [(6, 1)]), (0, 0, [(4, 1)])]
set_option maxRecDepth 100000 in
theorem hv_r4_c : mz_blk mz_GG mq_PP mz_Cs hv_r4_q 9 1 133 hv_r4_s [] 35 hv_r4_h = true := by decide +kernel
theorem hv_r4 {X : (Nat → mq_C) → Prop} (hX : ∀ M M' : Nat → mq_C, mz_same mz_GG M M' → X M → X M') (hC : ∀ c ∈ mz_Cs, c.2 < 1 → mz_Ct mz_GG mq_PP X c.1 c.2) {d z u : Nat} {M : Nat → mq_C} {Q : (Option Value ⊕ Nat) → mq_S → Prop} {x1 : Int32} {x2 : Int32} {x3 : Int32} {x4 : Int32} {x5 : Int32} {o6 : Option Value} {o7 : Option Value} {o8 : Option Value} (hd : 1 ≤ d) (hz : 272 ≤ z) (hm : mz_sh mz_GG M) (hx : X M) (h0 : mq_nl o6 = true) (h1 : mq_nl o7 = true) (h2 : mq_nl o8 = true) (p0 : 0 ≤ (-1) + x3.toInt) (p1 : 0 ≤ 128 - x3.toInt) (p2 : 0 ≤ x4.toInt) (p3 : 0 ≤ 1 - x4.toInt) (p4 : 0 ≤ x5.toInt) (p5 : 0 ≤ x3.toInt - x5.toInt)
    (k0 : ∀ (M' : Nat → mq_C) (y4 : Int32) (y5 : Int32) (w6 : Option Value) (w7 : Option Value) (w8 : Option Value), mz_sh mz_GG M' → X M' → mz_fr hv_r4_q M M' → (∀ a, a < 8 → M' a = M a) → hb_same mz_GG hv_r4_q M M' → mq_nl w6 = true → mq_nl w7 = true → mq_nl w8 = true → y4.toInt = 1 → y5.toInt = 1 + x5.toInt → 0 ≤ (-1) + x3.toInt - x5.toInt → 0 ≤ (-1) + x4.toInt → mq_R mq_PP d 168 133 [some (.ref 234), some (.int x1), some (.int x2), some (.int x3), some (.int y4), some (.int y5), w6, w7, w8] [] (M', z, u) Q)
    (k1 : ∀ (M' : Nat → mq_C) (y4 : Int32) (y5 : Int32) (w6 : Option Value) (w7 : Option Value) (w8 : Option Value), mz_sh mz_GG M' → X M' → mz_fr hv_r4_q M M' → (∀ a, a < 8 → M' a = M a) → hb_same mz_GG hv_r4_q M M' → mq_nl w6 = true → mq_nl w7 = true → mq_nl w8 = true → y4.toInt = 0 → y5.toInt = 1 + x5.toInt → 0 ≤ (-1) + x3.toInt - x5.toInt → 0 ≤ 0 - x4.toInt → mq_R mq_PP d 168 133 [some (.ref 234), some (.int x1), some (.int x2), some (.int x3), some (.int y4), some (.int y5), w6, w7, w8] [] (M', z, u) Q)
    (k2 : ∀ (M' : Nat → mq_C) (y4 : Int32) (y5 : Int32) (w6 : Option Value) (w7 : Option Value) (w8 : Option Value), mz_sh mz_GG M' → X M' → mz_fr hv_r4_q M M' → (∀ a, a < 8 → M' a = M a) → hb_same mz_GG hv_r4_q M M' → mq_nl w6 = true → mq_nl w7 = true → mq_nl w8 = true → y4.toInt = 1 → y5.toInt = 1 + x5.toInt → 0 ≤ (-1) + x3.toInt - x5.toInt → 0 ≤ 0 - x4.toInt → mq_R mq_PP d 168 133 [some (.ref 234), some (.int x1), some (.int x2), some (.int x3), some (.int y4), some (.int y5), w6, w7, w8] [] (M', z, u) Q)
    (w0 : ∀ (M' : Nat → mq_C) (r : Int32), mz_sh mz_GG M' → X M' → mz_fr hv_r4_q M M' → (∀ a, a < 8 → M' a = M a) → hb_same mz_GG hv_r4_q M M' → 0 ≤ r.toInt → 0 ≤ 1 - r.toInt → Q (.inl (some (.int r))) (M', z, u)) : mq_R mq_PP d 168 133 [some (.ref 234), some (.int x1), some (.int x2), some (.int x3), some (.int x4), some (.int x5), o6, o7, o8] [] (M, z, u) Q := by
  refine hb_blk mz_GG mq_PP X (q := hv_r4_q) (nl := 9) (M := M) hb_okG hX hC hv_r4_c hz hd (L := [some (.ref 234), some (.int x1), some (.int x2), some (.int x3), some (.int x4), some (.int x5), o6, o7, o8]) (st := []) (show hb_lk mz_GG ([(1, 234), (0, 0), (0, 0), (0, 0), (0, 0), (0, 0), (3, 0), (3, 0), (3, 0)]) _ from ⟨⟨List.mem_singleton.mpr rfl, rfl⟩, trivial, trivial, trivial, trivial, trivial, h0, h1, h2, trivial⟩) (show hb_pk mz_GG ([]) _ from trivial) hm hx ?_ ?_ ?_
  · exact hb_cons (show 0 ≤ mz_ev _ _ from (show 0 ≤ -1 + (1 * x3.toInt + 0) by omega)) (hb_cons (show 0 ≤ mz_ev _ _ from (show 0 ≤ 128 + ((-1) * x3.toInt + 0) by omega)) (hb_cons (show 0 ≤ mz_ev _ _ from (show 0 ≤ 0 + (1 * x4.toInt + 0) by omega)) (hb_cons (show 0 ≤ mz_ev _ _ from (show 0 ≤ 1 + ((-1) * x4.toInt + 0) by omega)) (hb_cons (show 0 ≤ mz_ev _ _ from (show 0 ≤ 0 + (1 * x5.toInt + 0) by omega)) (hb_cons (show 0 ≤ mz_ev _ _ from (show 0 ≤ 0 + (1 * x3.toInt + ((-1) * x5.toInt + 0)) by omega)) (hb_nil))))))
  · intro s hs
    rcases List.mem_cons.mp hs with rfl | hs
    · intro ρ1 L' st' M' g1 g2 gm gr gf gs gx gw g8 ge
      obtain ⟨e0, L1, rfl, n0, gg0⟩ := hb_l1 mz_GG g1
      obtain rfl : e0 = 234 := List.mem_singleton.mp n0
      obtain ⟨y1, L1, rfl, qr71, gg1⟩ := hb_l0 mz_GG gg0
      have r71 : ρ1 71 = y1.toInt := qr71
      obtain ⟨y2, L1, rfl, qr72, gg2⟩ := hb_l0 mz_GG gg1
      have r72 : ρ1 72 = y2.toInt := qr72
      obtain ⟨y3, L1, rfl, qr73, gg3⟩ := hb_l0 mz_GG gg2
      have r73 : ρ1 73 = y3.toInt := qr73
      obtain ⟨y4, L1, rfl, qr74, gg4⟩ := hb_l0 mz_GG gg3
      have r74 : ρ1 74 = y4.toInt := qr74
      obtain ⟨y5, L1, rfl, qr75, gg5⟩ := hb_l0 mz_GG gg4
      have r75 : ρ1 75 = y5.toInt := qr75
      obtain ⟨w6, L1, rfl, n6, gg6⟩ := hb_l3 mz_GG gg5
      obtain ⟨w7, L1, rfl, n7, gg7⟩ := hb_l3 mz_GG gg6
      obtain ⟨w8, L1, rfl, n8, gg8⟩ := hb_l3 mz_GG gg7
      obtain rfl := hb_ln mz_GG gg8
      obtain rfl := hb_pn mz_GG g2
      have r1 : ρ1 1 = x1.toInt := gr 1 (by decide +kernel)
      have r2 : ρ1 2 = x2.toInt := gr 2 (by decide +kernel)
      have r3 : ρ1 3 = x3.toInt := gr 3 (by decide +kernel)
      have r4 : ρ1 4 = x4.toInt := gr 4 (by decide +kernel)
      have r5 : ρ1 5 = x5.toInt := gr 5 (by decide +kernel)
      obtain ⟨f0, gf⟩ := hb_unc gf
      have f0 : 0 ≤ 0 + ((-1) * ρ1 1 + (1 * ρ1 71 + 0)) := f0
      rw [r1, r71] at f0
      obtain ⟨f1, gf⟩ := hb_unc gf
      have f1 : 0 ≤ 0 + (1 * ρ1 1 + ((-1) * ρ1 71 + 0)) := f1
      rw [r1, r71] at f1
      obtain ⟨f2, gf⟩ := hb_unc gf
      have f2 : 0 ≤ 0 + ((-1) * ρ1 2 + (1 * ρ1 72 + 0)) := f2
      rw [r2, r72] at f2
      obtain ⟨f3, gf⟩ := hb_unc gf
      have f3 : 0 ≤ 0 + (1 * ρ1 2 + ((-1) * ρ1 72 + 0)) := f3
      rw [r2, r72] at f3
      obtain ⟨f4, gf⟩ := hb_unc gf
      have f4 : 0 ≤ 0 + ((-1) * ρ1 3 + (1 * ρ1 73 + 0)) := f4
      rw [r3, r73] at f4
      obtain ⟨f5, gf⟩ := hb_unc gf
      have f5 : 0 ≤ 0 + (1 * ρ1 3 + ((-1) * ρ1 73 + 0)) := f5
      rw [r3, r73] at f5
      obtain ⟨f6, gf⟩ := hb_unc gf
      have f6 : 0 ≤ -1 + (1 * ρ1 74 + 0) := f6
      rw [r74] at f6
      obtain ⟨f7, gf⟩ := hb_unc gf
      have f7 : 0 ≤ 1 + ((-1) * ρ1 74 + 0) := f7
      rw [r74] at f7
      obtain ⟨f8, gf⟩ := hb_unc gf
      have f8 : 0 ≤ -1 + ((-1) * ρ1 5 + (1 * ρ1 75 + 0)) := f8
      rw [r5, r75] at f8
      obtain ⟨f9, gf⟩ := hb_unc gf
      have f9 : 0 ≤ 1 + (1 * ρ1 5 + ((-1) * ρ1 75 + 0)) := f9
      rw [r5, r75] at f9
      obtain ⟨f10, gf⟩ := hb_unc gf
      have f10 : 0 ≤ -1 + (1 * ρ1 3 + ((-1) * ρ1 5 + 0)) := f10
      rw [r3, r5] at f10
      obtain ⟨f11, gf⟩ := hb_unc gf
      have f11 : 0 ≤ -1 + (1 * ρ1 4 + 0) := f11
      rw [r4] at f11
      have hy1 : y1 = x1 := hb_inj f0 f1
      subst y1
      have hy2 : y2 = x2 := hb_inj f2 f3
      subst y2
      have hy3 : y3 = x3 := hb_inj f4 f5
      subst y3
      exact k0 M' y4 y5 w6 w7 w8 gs gx gw g8 ge n6 n7 n8 (by have h1 := f6; have h2 := f7; omega) (by have h1 := f8; have h2 := f9; omega) (by have h1 := f10; omega) (by have h1 := f11; omega)
    rcases List.mem_cons.mp hs with rfl | hs
    · intro ρ1 L' st' M' g1 g2 gm gr gf gs gx gw g8 ge
      obtain ⟨e0, L1, rfl, n0, gg0⟩ := hb_l1 mz_GG g1
      obtain rfl : e0 = 234 := List.mem_singleton.mp n0
      obtain ⟨y1, L1, rfl, qr71, gg1⟩ := hb_l0 mz_GG gg0
      have r71 : ρ1 71 = y1.toInt := qr71
      obtain ⟨y2, L1, rfl, qr72, gg2⟩ := hb_l0 mz_GG gg1
      have r72 : ρ1 72 = y2.toInt := qr72
      obtain ⟨y3, L1, rfl, qr73, gg3⟩ := hb_l0 mz_GG gg2
      have r73 : ρ1 73 = y3.toInt := qr73
      obtain ⟨y4, L1, rfl, qr74, gg4⟩ := hb_l0 mz_GG gg3
      have r74 : ρ1 74 = y4.toInt := qr74
      obtain ⟨y5, L1, rfl, qr75, gg5⟩ := hb_l0 mz_GG gg4
      have r75 : ρ1 75 = y5.toInt := qr75
      obtain ⟨w6, L1, rfl, n6, gg6⟩ := hb_l3 mz_GG gg5
      obtain ⟨w7, L1, rfl, n7, gg7⟩ := hb_l3 mz_GG gg6
      obtain ⟨w8, L1, rfl, n8, gg8⟩ := hb_l3 mz_GG gg7
      obtain rfl := hb_ln mz_GG gg8
      obtain rfl := hb_pn mz_GG g2
      have r1 : ρ1 1 = x1.toInt := gr 1 (by decide +kernel)
      have r2 : ρ1 2 = x2.toInt := gr 2 (by decide +kernel)
      have r3 : ρ1 3 = x3.toInt := gr 3 (by decide +kernel)
      have r4 : ρ1 4 = x4.toInt := gr 4 (by decide +kernel)
      have r5 : ρ1 5 = x5.toInt := gr 5 (by decide +kernel)
      obtain ⟨f0, gf⟩ := hb_unc gf
      have f0 : 0 ≤ 0 + ((-1) * ρ1 1 + (1 * ρ1 71 + 0)) := f0
      rw [r1, r71] at f0
      obtain ⟨f1, gf⟩ := hb_unc gf
      have f1 : 0 ≤ 0 + (1 * ρ1 1 + ((-1) * ρ1 71 + 0)) := f1
      rw [r1, r71] at f1
      obtain ⟨f2, gf⟩ := hb_unc gf
      have f2 : 0 ≤ 0 + ((-1) * ρ1 2 + (1 * ρ1 72 + 0)) := f2
      rw [r2, r72] at f2
      obtain ⟨f3, gf⟩ := hb_unc gf
      have f3 : 0 ≤ 0 + (1 * ρ1 2 + ((-1) * ρ1 72 + 0)) := f3
      rw [r2, r72] at f3
      obtain ⟨f4, gf⟩ := hb_unc gf
      have f4 : 0 ≤ 0 + ((-1) * ρ1 3 + (1 * ρ1 73 + 0)) := f4
      rw [r3, r73] at f4
      obtain ⟨f5, gf⟩ := hb_unc gf
      have f5 : 0 ≤ 0 + (1 * ρ1 3 + ((-1) * ρ1 73 + 0)) := f5
      rw [r3, r73] at f5
      obtain ⟨f6, gf⟩ := hb_unc gf
      have f6 : 0 ≤ 0 + (1 * ρ1 74 + 0) := f6
      rw [r74] at f6
      obtain ⟨f7, gf⟩ := hb_unc gf
      have f7 : 0 ≤ 0 + ((-1) * ρ1 74 + 0) := f7
      rw [r74] at f7
      obtain ⟨f8, gf⟩ := hb_unc gf
      have f8 : 0 ≤ -1 + ((-1) * ρ1 5 + (1 * ρ1 75 + 0)) := f8
      rw [r5, r75] at f8
      obtain ⟨f9, gf⟩ := hb_unc gf
      have f9 : 0 ≤ 1 + (1 * ρ1 5 + ((-1) * ρ1 75 + 0)) := f9
      rw [r5, r75] at f9
      obtain ⟨f10, gf⟩ := hb_unc gf
      have f10 : 0 ≤ -1 + (1 * ρ1 3 + ((-1) * ρ1 5 + 0)) := f10
      rw [r3, r5] at f10
      obtain ⟨f11, gf⟩ := hb_unc gf
      have f11 : 0 ≤ 0 + ((-1) * ρ1 4 + 0) := f11
      rw [r4] at f11
      have hy1 : y1 = x1 := hb_inj f0 f1
      subst y1
      have hy2 : y2 = x2 := hb_inj f2 f3
      subst y2
      have hy3 : y3 = x3 := hb_inj f4 f5
      subst y3
      exact k1 M' y4 y5 w6 w7 w8 gs gx gw g8 ge n6 n7 n8 (by have h1 := f6; have h2 := f7; omega) (by have h1 := f8; have h2 := f9; omega) (by have h1 := f10; omega) (by have h1 := f11; omega)
    rcases List.mem_cons.mp hs with rfl | hs
    · intro ρ1 L' st' M' g1 g2 gm gr gf gs gx gw g8 ge
      obtain ⟨e0, L1, rfl, n0, gg0⟩ := hb_l1 mz_GG g1
      obtain rfl : e0 = 234 := List.mem_singleton.mp n0
      obtain ⟨y1, L1, rfl, qr71, gg1⟩ := hb_l0 mz_GG gg0
      have r71 : ρ1 71 = y1.toInt := qr71
      obtain ⟨y2, L1, rfl, qr72, gg2⟩ := hb_l0 mz_GG gg1
      have r72 : ρ1 72 = y2.toInt := qr72
      obtain ⟨y3, L1, rfl, qr73, gg3⟩ := hb_l0 mz_GG gg2
      have r73 : ρ1 73 = y3.toInt := qr73
      obtain ⟨y4, L1, rfl, qr74, gg4⟩ := hb_l0 mz_GG gg3
      have r74 : ρ1 74 = y4.toInt := qr74
      obtain ⟨y5, L1, rfl, qr75, gg5⟩ := hb_l0 mz_GG gg4
      have r75 : ρ1 75 = y5.toInt := qr75
      obtain ⟨w6, L1, rfl, n6, gg6⟩ := hb_l3 mz_GG gg5
      obtain ⟨w7, L1, rfl, n7, gg7⟩ := hb_l3 mz_GG gg6
      obtain ⟨w8, L1, rfl, n8, gg8⟩ := hb_l3 mz_GG gg7
      obtain rfl := hb_ln mz_GG gg8
      obtain rfl := hb_pn mz_GG g2
      have r1 : ρ1 1 = x1.toInt := gr 1 (by decide +kernel)
      have r2 : ρ1 2 = x2.toInt := gr 2 (by decide +kernel)
      have r3 : ρ1 3 = x3.toInt := gr 3 (by decide +kernel)
      have r4 : ρ1 4 = x4.toInt := gr 4 (by decide +kernel)
      have r5 : ρ1 5 = x5.toInt := gr 5 (by decide +kernel)
      obtain ⟨f0, gf⟩ := hb_unc gf
      have f0 : 0 ≤ 0 + ((-1) * ρ1 1 + (1 * ρ1 71 + 0)) := f0
      rw [r1, r71] at f0
      obtain ⟨f1, gf⟩ := hb_unc gf
      have f1 : 0 ≤ 0 + (1 * ρ1 1 + ((-1) * ρ1 71 + 0)) := f1
      rw [r1, r71] at f1
      obtain ⟨f2, gf⟩ := hb_unc gf
      have f2 : 0 ≤ 0 + ((-1) * ρ1 2 + (1 * ρ1 72 + 0)) := f2
      rw [r2, r72] at f2
      obtain ⟨f3, gf⟩ := hb_unc gf
      have f3 : 0 ≤ 0 + (1 * ρ1 2 + ((-1) * ρ1 72 + 0)) := f3
      rw [r2, r72] at f3
      obtain ⟨f4, gf⟩ := hb_unc gf
      have f4 : 0 ≤ 0 + ((-1) * ρ1 3 + (1 * ρ1 73 + 0)) := f4
      rw [r3, r73] at f4
      obtain ⟨f5, gf⟩ := hb_unc gf
      have f5 : 0 ≤ 0 + (1 * ρ1 3 + ((-1) * ρ1 73 + 0)) := f5
      rw [r3, r73] at f5
      obtain ⟨f6, gf⟩ := hb_unc gf
      have f6 : 0 ≤ -1 + (1 * ρ1 74 + 0) := f6
      rw [r74] at f6
      obtain ⟨f7, gf⟩ := hb_unc gf
      have f7 : 0 ≤ 1 + ((-1) * ρ1 74 + 0) := f7
      rw [r74] at f7
      obtain ⟨f8, gf⟩ := hb_unc gf
      have f8 : 0 ≤ -1 + ((-1) * ρ1 5 + (1 * ρ1 75 + 0)) := f8
      rw [r5, r75] at f8
      obtain ⟨f9, gf⟩ := hb_unc gf
      have f9 : 0 ≤ 1 + (1 * ρ1 5 + ((-1) * ρ1 75 + 0)) := f9
      rw [r5, r75] at f9
      obtain ⟨f10, gf⟩ := hb_unc gf
      have f10 : 0 ≤ -1 + (1 * ρ1 3 + ((-1) * ρ1 5 + 0)) := f10
      rw [r3, r5] at f10
      obtain ⟨f11, gf⟩ := hb_unc gf
      have f11 : 0 ≤ 0 + ((-1) * ρ1 4 + 0) := f11
      rw [r4] at f11
      have hy1 : y1 = x1 := hb_inj f0 f1
      subst y1
      have hy2 : y2 = x2 := hb_inj f2 f3
      subst y2
      have hy3 : y3 = x3 := hb_inj f4 f5
      subst y3
      exact k2 M' y4 y5 w6 w7 w8 gs gx gw g8 ge n6 n7 n8 (by have h1 := f6; have h2 := f7; omega) (by have h1 := f8; have h2 := f9; omega) (by have h1 := f10; omega) (by have h1 := f11; omega)
    cases hs
  · intro r S hpo
    obtain ⟨b1, b2, b3, b4, b5, p, hp, res, hf, hre⟩ := hpo
    rcases List.mem_cons.mp hp with rfl | hp
    · obtain ⟨x, rfl, hr, hz1, hu1⟩ := mz_re_0 mz_GG hre rfl
      obtain ⟨M', z', u'⟩ := S
      cases hz1
      cases hu1
      have r70 : hb_r1 mz_GG hv_r4_q (hb_rb mz_GG hv_r4_q 9 [some (.ref 234), some (.int x1), some (.int x2), some (.int x3), some (.int x4), some (.int x5), o6, o7, o8] [] M) M' res 70 = res := rfl
      obtain ⟨f0, hf⟩ := hb_unc hf
      have f0 : 0 ≤ 0 + (1 * res + 0) := f0
      rw [← hr] at f0
      obtain ⟨f1, hf⟩ := hb_unc hf
      have f1 : 0 ≤ 1 + ((-1) * res + 0) := f1
      rw [← hr] at f1
      exact w0 M' x b1 b2 b3 b4 b5 (by have h1 := f0; omega) (by have h1 := f1; omega)
    cases hp

theorem hv_i {d z u : Nat} {Q : (Option Value ⊕ Nat) → mq_S → Prop} {M : Nat → mq_C} {x1 x2 x3 x4 x5 x6 : Int32} (hm : mz_sh mz_GG M) (p1 : 1 ≤ x3.toInt) (p2 : x3.toInt ≤ 128) (p3 : 3 ≤ x5.toInt) (p4 : x5.toInt ≤ 5) (p5 : -1 ≤ x6.toInt) (p6 : x6.toInt ≤ 127) (hD : hv_D M x3.toInt)
    (K : ∀ (M' : Nat → mq_C) (y3 y5 y7 y8 : Int32), mz_sh mz_GG M' → hb_only [270] M M' → x3.toInt ≤ y3.toInt → y3.toInt ≤ 128 → hv_D M' y3.toInt → y5.toInt = x5.toInt + 1 → mq_R mq_PP d 168 21 [some (.ref 234), some (.int x1), some (.int x2), some (.int y3), some (.int x4), some (.int y5), some (.int x6), some (.int y7), some (.int y8)] [] (M', z, u) Q) : ∀ (m : Nat) (x7 x8 : Int32), (m : Int) + x8.toInt = x3.toInt + 1 → 0 ≤ x8.toInt → (x7.toInt = 0 ∨ x7.toInt = 1 ∧ 0 ≤ x6.toInt ∧ ∀ j : Nat, (j : Int) < x8.toInt → hv M 270 j ≠ x6.toInt) → mq_R mq_PP d 168 63 [some (.ref 234), some (.int x1), some (.int x2), some (.int x3), some (.int x4), some (.int x5), some (.int x6), some (.int x7), some (.int x8)] [] (M, z, u) Q := by
  intro m
  induction m with
  | zero =>
    intro x7 x8 e1 e2 hn
    have e9 : x3.toInt ≤ x8.toInt := by omega
    refine he_iload (n := 65) (i := 8) (by decide +kernel) rfl ?_
    refine he_iload (n := 66) (i := 3) (by decide +kernel) rfl ?_
    refine he_cmpge_t (n := 69) (t := 99) (by decide +kernel) (by omega) ?_
    refine he_iload (n := 101) (i := 7) (by decide +kernel) rfl ?_
    by_cases h101 : x7.toInt = 0
    · skip
      refine he_ifeq_t (n := 104) (t := 115) (by decide +kernel) (by omega) ?_
      refine he_iinc (n := 118) (i := 5) (c := 1) (L' := fun v => [some (.ref 234), some (.int x1), some (.int x2), some (.int x3), some (.int x4), some (.int v), some (.int x6), some (.int x7), some (.int x8)]) (by decide +kernel) (by decide) rfl (fun _ => rfl) (by omega) (by omega) ?_
      intro i115 hi115
      refine he_goto (t := 21) (by decide +kernel) ?_
      exact K M x3 i115 x7 x8 hm hb_only_r (by omega) (by omega) hD (by omega)
    · rcases hn with hn | ⟨hn0, hn1, hn2⟩
      · exact absurd hn h101
      have hroom := hv_room (x := x6.toInt) hm (by omega) p2 hD ⟨hn1, p6⟩ (fun j hj => hn2 j (by omega))
      refine he_ifeq_f (n := 104) (t := 115) (by decide +kernel) (by omega) ?_
      refine he_aload (n := 105) (i := 0) (by decide +kernel) rfl ?_
      refine he_getr (n := 108) (ci := 9) (j := 64) (ns := [5001, 123]) (b := 270) hm (by decide +kernel) rfl rfl (by decide +kernel) ?_
      refine he_iload (n := 109) (i := 3) (by decide +kernel) rfl ?_
      refine he_iload (n := 111) (i := 6) (by decide +kernel) rfl ?_
      refine hb_sta (n := 112) (kind := 64) hm (by decide +kernel) rfl rfl (.inl rfl) (by omega) (show _ < (130 : Int) by omega) ?_
      generalize hM1 : hb_set M 270 (x3.toInt.toNat) x6 = M1
      have hm1 : mz_sh mz_GG M1 := by rw [← hM1]; exact hb_set_sh hm rfl hb_at1 (by omega) (by omega)
      have eM1 : ∀ b j, b ≠ 270 ∨ j ≠ x3.toInt.toNat → hv M1 b j = hv M b j := by intro b j h; rw [← hM1]; exact hb_set_n h
      have sM1 : hv M1 270 (x3.toInt.toNat) = x6.toInt := by rw [← hM1]; exact hb_set_v hm rfl (show _ < 130 by omega)
      have wM1 : ∀ b, b ≠ 270 → M1 b = M b := by intro b h; rw [← hM1]; exact hb_set_c h
      refine he_iinc (n := 115) (i := 3) (c := 1) (L' := fun v => [some (.ref 234), some (.int x1), some (.int x2), some (.int v), some (.int x4), some (.int x5), some (.int x6), some (.int x7), some (.int x8)]) (by decide +kernel) (by decide) rfl (fun _ => rfl) (by omega) (by omega) ?_
      intro i112 hi112
      refine he_iinc (n := 118) (i := 5) (c := 1) (L' := fun v => [some (.ref 234), some (.int x1), some (.int x2), some (.int i112), some (.int x4), some (.int v), some (.int x6), some (.int x7), some (.int x8)]) (by decide +kernel) (by decide) rfl (fun _ => rfl) (by omega) (by omega) ?_
      intro i115 hi115
      refine he_goto (t := 21) (by decide +kernel) ?_
      refine K M1 i112 i115 x7 x8 hm1 (hb_only_s hb_only_r (by decide) wM1) (by omega) (by omega) ?_ (by omega)
      intro i j h1 h2
      by_cases e : j = x3.toInt.toNat
      · rw [e, sM1, eM1 _ _ (.inr (by omega))]
        exact hn2 i (by omega)
      · rw [eM1 _ _ (.inr e), eM1 _ _ (.inr (by omega))]
        exact hD i j h1 (by omega)
  | succ m ih =>
    intro x7 x8 e1 e2 hn
    refine he_iload (n := 65) (i := 8) (by decide +kernel) rfl ?_
    refine he_iload (n := 66) (i := 3) (by decide +kernel) rfl ?_
    by_cases h66 : x3.toInt ≤ x8.toInt
    · skip
      refine he_cmpge_t (n := 69) (t := 99) (by decide +kernel) (by omega) ?_
      refine he_iload (n := 101) (i := 7) (by decide +kernel) rfl ?_
      by_cases h101 : x7.toInt = 0
      · skip
        refine he_ifeq_t (n := 104) (t := 115) (by decide +kernel) (by omega) ?_
        refine he_iinc (n := 118) (i := 5) (c := 1) (L' := fun v => [some (.ref 234), some (.int x1), some (.int x2), some (.int x3), some (.int x4), some (.int v), some (.int x6), some (.int x7), some (.int x8)]) (by decide +kernel) (by decide) rfl (fun _ => rfl) (by omega) (by omega) ?_
        intro i115 hi115
        refine he_goto (t := 21) (by decide +kernel) ?_
        exact K M x3 i115 x7 x8 hm hb_only_r (by omega) (by omega) hD (by omega)
      · rcases hn with hn | ⟨hn0, hn1, hn2⟩
        · exact absurd hn h101
        have hroom := hv_room (x := x6.toInt) hm (by omega) p2 hD ⟨hn1, p6⟩ (fun j hj => hn2 j (by omega))
        refine he_ifeq_f (n := 104) (t := 115) (by decide +kernel) (by omega) ?_
        refine he_aload (n := 105) (i := 0) (by decide +kernel) rfl ?_
        refine he_getr (n := 108) (ci := 9) (j := 64) (ns := [5001, 123]) (b := 270) hm (by decide +kernel) rfl rfl (by decide +kernel) ?_
        refine he_iload (n := 109) (i := 3) (by decide +kernel) rfl ?_
        refine he_iload (n := 111) (i := 6) (by decide +kernel) rfl ?_
        refine hb_sta (n := 112) (kind := 64) hm (by decide +kernel) rfl rfl (.inl rfl) (by omega) (show _ < (130 : Int) by omega) ?_
        generalize hM1 : hb_set M 270 (x3.toInt.toNat) x6 = M1
        have hm1 : mz_sh mz_GG M1 := by rw [← hM1]; exact hb_set_sh hm rfl hb_at1 (by omega) (by omega)
        have eM1 : ∀ b j, b ≠ 270 ∨ j ≠ x3.toInt.toNat → hv M1 b j = hv M b j := by intro b j h; rw [← hM1]; exact hb_set_n h
        have sM1 : hv M1 270 (x3.toInt.toNat) = x6.toInt := by rw [← hM1]; exact hb_set_v hm rfl (show _ < 130 by omega)
        have wM1 : ∀ b, b ≠ 270 → M1 b = M b := by intro b h; rw [← hM1]; exact hb_set_c h
        refine he_iinc (n := 115) (i := 3) (c := 1) (L' := fun v => [some (.ref 234), some (.int x1), some (.int x2), some (.int v), some (.int x4), some (.int x5), some (.int x6), some (.int x7), some (.int x8)]) (by decide +kernel) (by decide) rfl (fun _ => rfl) (by omega) (by omega) ?_
        intro i112 hi112
        refine he_iinc (n := 118) (i := 5) (c := 1) (L' := fun v => [some (.ref 234), some (.int x1), some (.int x2), some (.int i112), some (.int x4), some (.int v), some (.int x6), some (.int x7), some (.int x8)]) (by decide +kernel) (by decide) rfl (fun _ => rfl) (by omega) (by omega) ?_
        intro i115 hi115
        refine he_goto (t := 21) (by decide +kernel) ?_
        refine K M1 i112 i115 x7 x8 hm1 (hb_only_s hb_only_r (by decide) wM1) (by omega) (by omega) ?_ (by omega)
        intro i j h1 h2
        by_cases e : j = x3.toInt.toNat
        · rw [e, sM1, eM1 _ _ (.inr (by omega))]
          exact hn2 i (by omega)
        · rw [eM1 _ _ (.inr e), eM1 _ _ (.inr (by omega))]
          exact hD i j h1 (by omega)
    · skip
      refine he_cmpge_f (n := 69) (t := 99) (by decide +kernel) (by omega) ?_
      refine he_iload (n := 71) (i := 7) (by decide +kernel) rfl ?_
      by_cases h71 : x7.toInt = 0
      · skip
        refine he_ifeq_t (n := 74) (t := 90) (by decide +kernel) (by omega) ?_
        refine he_iconst (n := 91) (c := 0) (by decide +kernel) (by decide) ?_
        intro c90 hc90
        refine he_istore (n := 93) (i := 7) (by decide +kernel) rfl ?_
        refine he_iinc (n := 96) (i := 8) (c := 1) (L' := fun v => [some (.ref 234), some (.int x1), some (.int x2), some (.int x3), some (.int x4), some (.int x5), some (.int x6), some (.int c90), some (.int v)]) (by decide +kernel) (by decide) rfl (fun _ => rfl) (by omega) (by omega) ?_
        intro i93 hi93
        refine he_goto (t := 63) (by decide +kernel) ?_
        exact ih c90 i93 (by omega) (by omega) (.inl (by omega))
      · rcases hn with hn | ⟨hn0, hn1, hn2⟩
        · exact absurd hn h71
        refine he_ifeq_f (n := 74) (t := 90) (by decide +kernel) (by omega) ?_
        refine he_aload (n := 75) (i := 0) (by decide +kernel) rfl ?_
        refine he_getr (n := 78) (ci := 9) (j := 64) (ns := [5001, 123]) (b := 270) hm (by decide +kernel) rfl rfl (by decide +kernel) ?_
        refine he_iload (n := 80) (i := 8) (by decide +kernel) rfl ?_
        refine hb_ld (n := 81) (kind := 64) hm (by decide +kernel) rfl rfl (.inl rfl) (by omega) (show _ < (130 : Int) by omega) hb_at1 ?_
        intro v80 hv80 lv80 uv80
        refine he_iload (n := 83) (i := 6) (by decide +kernel) rfl ?_
        by_cases h83 : v80.toInt = x6.toInt
        · skip
          refine he_cmpeq_t (n := 86) (t := 90) (by decide +kernel) (by omega) ?_
          refine he_iconst (n := 91) (c := 0) (by decide +kernel) (by decide) ?_
          intro c90 hc90
          refine he_istore (n := 93) (i := 7) (by decide +kernel) rfl ?_
          refine he_iinc (n := 96) (i := 8) (c := 1) (L' := fun v => [some (.ref 234), some (.int x1), some (.int x2), some (.int x3), some (.int x4), some (.int x5), some (.int x6), some (.int c90), some (.int v)]) (by decide +kernel) (by decide) rfl (fun _ => rfl) (by omega) (by omega) ?_
          intro i93 hi93
          refine he_goto (t := 63) (by decide +kernel) ?_
          exact ih c90 i93 (by omega) (by omega) (.inl (by omega))
        · skip
          refine he_cmpeq_f (n := 86) (t := 90) (by decide +kernel) (by omega) ?_
          refine he_iconst (n := 87) (c := 1) (by decide +kernel) (by decide) ?_
          intro c86 hc86
          refine he_goto (t := 91) (by decide +kernel) ?_
          refine he_istore (n := 93) (i := 7) (by decide +kernel) rfl ?_
          refine he_iinc (n := 96) (i := 8) (c := 1) (L' := fun v => [some (.ref 234), some (.int x1), some (.int x2), some (.int x3), some (.int x4), some (.int x5), some (.int x6), some (.int c86), some (.int v)]) (by decide +kernel) (by decide) rfl (fun _ => rfl) (by omega) (by omega) ?_
          intro i93 hi93
          refine he_goto (t := 63) (by decide +kernel) ?_
          refine ih c86 i93 (by omega) (by omega) (.inr ⟨by omega, hn1, fun j hj => ?_⟩)
          by_cases e : (j : Int) = x8.toInt
          · rw [show j = x8.toInt.toNat by omega, hv80]
            exact h83
          · exact hn2 j (by omega)
theorem hv_sp (k i : Nat) : hsp k 270 i = false := by
  match k with
  | 0 | 1 | 2 | 3 | 4 | 5 | 6 | 7 | 8 | 9 | 10 | 11 | 12 | 13 | 14 | 15 | 16 | 17 | 18 | 19 | 20 | 21 | 22 | 23 | 24 | 25 | 26 | 27 | 28 | 29 => simp [hsp]
  | n + 30 => rfl
theorem hv_hx {M M' : Nat → mq_C} (h : hb_only [270] M M') (hx : HX M) : HX M' := fun k => hb_only_x h (fun a ha i => by rw [List.mem_singleton.mp ha]; exact hv_sp k i) (hx k)
theorem hv_w {d z u : Nat} {Q : (Option Value ⊕ Nat) → mq_S → Prop} {M0 : Nat → mq_C} {x1 x2 : Int32} (hd : 1 ≤ d) (hz : 272 ≤ z) {x4 : Int32} (p4 : 0 ≤ x4.toInt) (K : ∀ (M : Nat → mq_C) (y3 y4 y5 : Int32) (o6 o7 o8 : Option Value), mz_sh mz_GG M → HX M → mz_fr mz_q192 M0 M → (∀ a, a < 8 → M a = M0 a) → hb_same mz_GG mz_q192 M0 M → x4.toInt + 1 = y4.toInt → y4.toInt ≤ y3.toInt → 1 ≤ y3.toInt → y3.toInt ≤ 128 → hv_D M y3.toInt → mq_nl o6 = true → mq_nl o7 = true → mq_nl o8 = true → mq_R mq_PP d 168 12 [some (.ref 234), some (.int x1), some (.int x2), some (.int y3), some (.int y4), some (.int y5), o6, o7, o8] [] (M, z, u) Q) :
    ∀ (m : Nat) (M : Nat → mq_C) (x3 x5 : Int32) (o6 o7 o8 : Option Value), (m : Int) + x5.toInt = 6 → 3 ≤ x5.toInt → x4.toInt + 1 ≤ x3.toInt → x3.toInt ≤ 128 → mz_sh mz_GG M → HX M → mz_fr mz_q192 M0 M → (∀ a, a < 8 → M a = M0 a) → hb_same mz_GG mz_q192 M0 M → hv_D M x3.toInt → mq_nl o6 = true → mq_nl o7 = true → mq_nl o8 = true → mq_R mq_PP d 168 21 [some (.ref 234), some (.int x1), some (.int x2), some (.int x3), some (.int x4), some (.int x5), o6, o7, o8] [] (M, z, u) Q := by
  intro m
  induction m with
  | zero =>
    intro M x3 x5 o6 o7 o8 e1 e2 e3 e4 hm hx hf h8 he hD n6 n7 n8
    refine hv_r3 HX_same hb_C1 hd hz hm hx n6 n7 n8 (by omega) (by omega) (by omega) (by omega) (by omega) (by omega) ?_ ?_ ?_ ?_ ?_ ?_ ?_
    · intro M' y4 w6 w7 w8 gs gx gw g8 ge n6' n7' n8'
      intros
      have hf' : mz_fr mz_q192 M0 M' := hb_fr_t (q' := hv_r3_q) (fun a ha => rfl) hf gw
      have h8' : ∀ a, a < 8 → M' a = M0 a := fun a ha => (g8 a ha).trans (h8 a ha)
      have he' : hb_same mz_GG mz_q192 M0 M' := hb_same_t (q' := hv_r3_q) (fun j hj => rfl) he ge
      have hD' : hv_D M' x3.toInt := hv_Dc (gw 270 (by decide) rfl) hD
      exact K M' x3 y4 x5 _ _ _ gs gx hf' h8' he' (by omega) (by omega) (by omega) (by omega) hD' n6' n7' n8'
    · intro M' y5 y6 y7 y8 gs gx gw g8 ge 
      intros
      omega
    · intro M' y5 y6 y7 y8 gs gx gw g8 ge 
      intros
      omega
    · intro M' y5 y6 y7 y8 gs gx gw g8 ge 
      intros
      omega
    · intro M' y5 y6 y7 y8 gs gx gw g8 ge 
      intros
      omega
    · intro M' y5 y6 y7 y8 gs gx gw g8 ge 
      intros
      omega
    · intro M' y5 y6 y7 y8 gs gx gw g8 ge 
      intros
      omega
  | succ m ih =>
    intro M x3 x5 o6 o7 o8 e1 e2 e3 e4 hm hx hf h8 he hD n6 n7 n8
    refine hv_r3 HX_same hb_C1 hd hz hm hx n6 n7 n8 (by omega) (by omega) (by omega) (by omega) (by omega) (by omega) ?_ ?_ ?_ ?_ ?_ ?_ ?_
    · intro M' y4 w6 w7 w8 gs gx gw g8 ge n6' n7' n8'
      intros
      omega
    · intro M' y5 y6 y7 y8 gs gx gw g8 ge 
      intros
      have hf' : mz_fr mz_q192 M0 M' := hb_fr_t (q' := hv_r3_q) (fun a ha => rfl) hf gw
      have h8' : ∀ a, a < 8 → M' a = M0 a := fun a ha => (g8 a ha).trans (h8 a ha)
      have he' : hb_same mz_GG mz_q192 M0 M' := hb_same_t (q' := hv_r3_q) (fun j hj => rfl) he ge
      have hD' : hv_D M' x3.toInt := hv_Dc (gw 270 (by decide) rfl) hD
      refine hv_i gs (by omega) (by omega) (by omega) (by omega) (by omega) (by omega) hD' ?_ (x3.toInt.toNat + 1) y7 y8 (by omega) (by omega) ?_
      · intro M2 y3' y5' y7' y8' gs2 ho2 q1 q2 hD2 q5
        exact ih M2 y3' y5' _ _ _ (by omega) (by omega) (by omega) (by omega) gs2 (hv_hx ho2 gx) (hb_fr_t (q' := mz_q192) (fun a ha => ha) hf' (hb_only_fr ho2 (by decide))) (fun a ha => (hb_low ho2 (by decide) a ha).trans (h8' a ha)) (hb_same_t (q' := mz_q192) (fun j hj => hj) he' (hb_only_same ho2 (by decide +kernel))) hD2 rfl rfl rfl
      · first
        | exact .inl (by omega)
        | exact .inr ⟨by omega, by omega, fun j hj => by omega⟩
    · intro M' y5 y6 y7 y8 gs gx gw g8 ge 
      intros
      have hf' : mz_fr mz_q192 M0 M' := hb_fr_t (q' := hv_r3_q) (fun a ha => rfl) hf gw
      have h8' : ∀ a, a < 8 → M' a = M0 a := fun a ha => (g8 a ha).trans (h8 a ha)
      have he' : hb_same mz_GG mz_q192 M0 M' := hb_same_t (q' := hv_r3_q) (fun j hj => rfl) he ge
      have hD' : hv_D M' x3.toInt := hv_Dc (gw 270 (by decide) rfl) hD
      refine hv_i gs (by omega) (by omega) (by omega) (by omega) (by omega) (by omega) hD' ?_ (x3.toInt.toNat + 1) y7 y8 (by omega) (by omega) ?_
      · intro M2 y3' y5' y7' y8' gs2 ho2 q1 q2 hD2 q5
        exact ih M2 y3' y5' _ _ _ (by omega) (by omega) (by omega) (by omega) gs2 (hv_hx ho2 gx) (hb_fr_t (q' := mz_q192) (fun a ha => ha) hf' (hb_only_fr ho2 (by decide))) (fun a ha => (hb_low ho2 (by decide) a ha).trans (h8' a ha)) (hb_same_t (q' := mz_q192) (fun j hj => hj) he' (hb_only_same ho2 (by decide +kernel))) hD2 rfl rfl rfl
      · first
        | exact .inl (by omega)
        | exact .inr ⟨by omega, by omega, fun j hj => by omega⟩
    · intro M' y5 y6 y7 y8 gs gx gw g8 ge 
      intros
      have hf' : mz_fr mz_q192 M0 M' := hb_fr_t (q' := hv_r3_q) (fun a ha => rfl) hf gw
      have h8' : ∀ a, a < 8 → M' a = M0 a := fun a ha => (g8 a ha).trans (h8 a ha)
      have he' : hb_same mz_GG mz_q192 M0 M' := hb_same_t (q' := hv_r3_q) (fun j hj => rfl) he ge
      have hD' : hv_D M' x3.toInt := hv_Dc (gw 270 (by decide) rfl) hD
      refine hv_i gs (by omega) (by omega) (by omega) (by omega) (by omega) (by omega) hD' ?_ (x3.toInt.toNat + 1) y7 y8 (by omega) (by omega) ?_
      · intro M2 y3' y5' y7' y8' gs2 ho2 q1 q2 hD2 q5
        exact ih M2 y3' y5' _ _ _ (by omega) (by omega) (by omega) (by omega) gs2 (hv_hx ho2 gx) (hb_fr_t (q' := mz_q192) (fun a ha => ha) hf' (hb_only_fr ho2 (by decide))) (fun a ha => (hb_low ho2 (by decide) a ha).trans (h8' a ha)) (hb_same_t (q' := mz_q192) (fun j hj => hj) he' (hb_only_same ho2 (by decide +kernel))) hD2 rfl rfl rfl
      · first
        | exact .inl (by omega)
        | exact .inr ⟨by omega, by omega, fun j hj => by omega⟩
    · intro M' y5 y6 y7 y8 gs gx gw g8 ge 
      intros
      have hf' : mz_fr mz_q192 M0 M' := hb_fr_t (q' := hv_r3_q) (fun a ha => rfl) hf gw
      have h8' : ∀ a, a < 8 → M' a = M0 a := fun a ha => (g8 a ha).trans (h8 a ha)
      have he' : hb_same mz_GG mz_q192 M0 M' := hb_same_t (q' := hv_r3_q) (fun j hj => rfl) he ge
      have hD' : hv_D M' x3.toInt := hv_Dc (gw 270 (by decide) rfl) hD
      refine hv_i gs (by omega) (by omega) (by omega) (by omega) (by omega) (by omega) hD' ?_ (x3.toInt.toNat + 1) y7 y8 (by omega) (by omega) ?_
      · intro M2 y3' y5' y7' y8' gs2 ho2 q1 q2 hD2 q5
        exact ih M2 y3' y5' _ _ _ (by omega) (by omega) (by omega) (by omega) gs2 (hv_hx ho2 gx) (hb_fr_t (q' := mz_q192) (fun a ha => ha) hf' (hb_only_fr ho2 (by decide))) (fun a ha => (hb_low ho2 (by decide) a ha).trans (h8' a ha)) (hb_same_t (q' := mz_q192) (fun j hj => hj) he' (hb_only_same ho2 (by decide +kernel))) hD2 rfl rfl rfl
      · first
        | exact .inl (by omega)
        | exact .inr ⟨by omega, by omega, fun j hj => by omega⟩
    · intro M' y5 y6 y7 y8 gs gx gw g8 ge 
      intros
      have hf' : mz_fr mz_q192 M0 M' := hb_fr_t (q' := hv_r3_q) (fun a ha => rfl) hf gw
      have h8' : ∀ a, a < 8 → M' a = M0 a := fun a ha => (g8 a ha).trans (h8 a ha)
      have he' : hb_same mz_GG mz_q192 M0 M' := hb_same_t (q' := hv_r3_q) (fun j hj => rfl) he ge
      have hD' : hv_D M' x3.toInt := hv_Dc (gw 270 (by decide) rfl) hD
      refine hv_i gs (by omega) (by omega) (by omega) (by omega) (by omega) (by omega) hD' ?_ (x3.toInt.toNat + 1) y7 y8 (by omega) (by omega) ?_
      · intro M2 y3' y5' y7' y8' gs2 ho2 q1 q2 hD2 q5
        exact ih M2 y3' y5' _ _ _ (by omega) (by omega) (by omega) (by omega) gs2 (hv_hx ho2 gx) (hb_fr_t (q' := mz_q192) (fun a ha => ha) hf' (hb_only_fr ho2 (by decide))) (fun a ha => (hb_low ho2 (by decide) a ha).trans (h8' a ha)) (hb_same_t (q' := mz_q192) (fun j hj => hj) he' (hb_only_same ho2 (by decide +kernel))) hD2 rfl rfl rfl
      · first
        | exact .inl (by omega)
        | exact .inr ⟨by omega, by omega, fun j hj => by omega⟩
    · intro M' y5 y6 y7 y8 gs gx gw g8 ge 
      intros
      have hf' : mz_fr mz_q192 M0 M' := hb_fr_t (q' := hv_r3_q) (fun a ha => rfl) hf gw
      have h8' : ∀ a, a < 8 → M' a = M0 a := fun a ha => (g8 a ha).trans (h8 a ha)
      have he' : hb_same mz_GG mz_q192 M0 M' := hb_same_t (q' := hv_r3_q) (fun j hj => rfl) he ge
      have hD' : hv_D M' x3.toInt := hv_Dc (gw 270 (by decide) rfl) hD
      refine hv_i gs (by omega) (by omega) (by omega) (by omega) (by omega) (by omega) hD' ?_ (x3.toInt.toNat + 1) y7 y8 (by omega) (by omega) ?_
      · intro M2 y3' y5' y7' y8' gs2 ho2 q1 q2 hD2 q5
        exact ih M2 y3' y5' _ _ _ (by omega) (by omega) (by omega) (by omega) gs2 (hv_hx ho2 gx) (hb_fr_t (q' := mz_q192) (fun a ha => ha) hf' (hb_only_fr ho2 (by decide))) (fun a ha => (hb_low ho2 (by decide) a ha).trans (h8' a ha)) (hb_same_t (q' := mz_q192) (fun j hj => hj) he' (hb_only_same ho2 (by decide +kernel))) hD2 rfl rfl rfl
      · first
        | exact .inl (by omega)
        | exact .inr ⟨by omega, by omega, fun j hj => by omega⟩
theorem hv_k {d z u : Nat} {Q : (Option Value ⊕ Nat) → mq_S → Prop} {M0 : Nat → mq_C} {x1 x2 : Int32} (hd : 1 ≤ d) (hz : 272 ≤ z) (K : ∀ (M : Nat → mq_C) (y3 y4 y5 : Int32) (o6 o7 o8 : Option Value), mz_sh mz_GG M → HX M → mz_fr mz_q192 M0 M → (∀ a, a < 8 → M a = M0 a) → hb_same mz_GG mz_q192 M0 M → 1 ≤ y3.toInt → y3.toInt ≤ 128 → y4.toInt = 0 → y5.toInt = 0 → mq_nl o6 = true → mq_nl o7 = true → mq_nl o8 = true → mq_R mq_PP d 168 133 [some (.ref 234), some (.int x1), some (.int x2), some (.int y3), some (.int y4), some (.int y5), o6, o7, o8] [] (M, z, u) Q) :
    ∀ (m : Nat) (M : Nat → mq_C) (x3 x4 : Int32) (o5 o6 o7 o8 : Option Value), (m : Int) + x4.toInt = 128 → 0 ≤ x4.toInt → x4.toInt ≤ x3.toInt → 1 ≤ x3.toInt → x3.toInt ≤ 128 → mz_sh mz_GG M → HX M → mz_fr mz_q192 M0 M → (∀ a, a < 8 → M a = M0 a) → hb_same mz_GG mz_q192 M0 M → hv_D M x3.toInt → mq_nl o5 = true → mq_nl o6 = true → mq_nl o7 = true → mq_nl o8 = true → mq_R mq_PP d 168 12 [some (.ref 234), some (.int x1), some (.int x2), some (.int x3), some (.int x4), o5, o6, o7, o8] [] (M, z, u) Q := by
  intro m
  induction m with
  | zero =>
    intro M x3 x4 o5 o6 o7 o8 e1 e2 e3 e4 e5 hm hx hf h8 he hD n5 n6 n7 n8
    refine hv_r2 HX_same hb_C1 hd hz hm hx n5 n6 n7 n8 (by omega) (by omega) (by omega) (by omega) ?_ ?_
    · intro M' y4 y5 w6 w7 w8 gs gx gw g8 ge n6' n7' n8'
      intros
      have hf' : mz_fr mz_q192 M0 M' := hb_fr_t (q' := hv_r2_q) (fun a ha => rfl) hf gw
      have h8' : ∀ a, a < 8 → M' a = M0 a := fun a ha => (g8 a ha).trans (h8 a ha)
      have he' : hb_same mz_GG mz_q192 M0 M' := hb_same_t (q' := hv_r2_q) (fun j hj => rfl) he ge
      have hD' : hv_D M' x3.toInt := hv_Dc (gw 270 (by decide) rfl) hD
      exact K M' x3 y4 y5 _ _ _ gs gx hf' h8' he' (by omega) (by omega) (by omega) (by omega) n6' n7' n8'
    · intro M' y5 w6 w7 w8 gs gx gw g8 ge n6' n7' n8'
      intros
      omega
  | succ m ih =>
    intro M x3 x4 o5 o6 o7 o8 e1 e2 e3 e4 e5 hm hx hf h8 he hD n5 n6 n7 n8
    refine hv_r2 HX_same hb_C1 hd hz hm hx n5 n6 n7 n8 (by omega) (by omega) (by omega) (by omega) ?_ ?_
    · intro M' y4 y5 w6 w7 w8 gs gx gw g8 ge n6' n7' n8'
      intros
      have hf' : mz_fr mz_q192 M0 M' := hb_fr_t (q' := hv_r2_q) (fun a ha => rfl) hf gw
      have h8' : ∀ a, a < 8 → M' a = M0 a := fun a ha => (g8 a ha).trans (h8 a ha)
      have he' : hb_same mz_GG mz_q192 M0 M' := hb_same_t (q' := hv_r2_q) (fun j hj => rfl) he ge
      have hD' : hv_D M' x3.toInt := hv_Dc (gw 270 (by decide) rfl) hD
      exact K M' x3 y4 y5 _ _ _ gs gx hf' h8' he' (by omega) (by omega) (by omega) (by omega) n6' n7' n8'
    · intro M' y5 w6 w7 w8 gs gx gw g8 ge n6' n7' n8'
      intros
      have hf' : mz_fr mz_q192 M0 M' := hb_fr_t (q' := hv_r2_q) (fun a ha => rfl) hf gw
      have h8' : ∀ a, a < 8 → M' a = M0 a := fun a ha => (g8 a ha).trans (h8 a ha)
      have he' : hb_same mz_GG mz_q192 M0 M' := hb_same_t (q' := hv_r2_q) (fun j hj => rfl) he ge
      have hD' : hv_D M' x3.toInt := hv_Dc (gw 270 (by decide) rfl) hD
      refine hv_w (M0 := M0) hd hz (x4 := x4) e2 ?_ 3 M' x3 y5 _ _ _ (by omega) (by omega) (by omega) (by omega) gs gx hf' h8' he' hD' n6' n7' n8'
      intro M2 y3' y4' y5' o6' o7' o8' a1 a2 a3 a4 a5 a6 a7 a8 a9 a10 b6 b7 b8
      exact ih M2 y3' y4' _ _ _ _ (by omega) (by omega) (by omega) (by omega) (by omega) a1 a2 a3 a4 a5 a10 rfl b6 b7 b8
theorem hv_z {d z u : Nat} {Q : (Option Value ⊕ Nat) → mq_S → Prop} {M0 : Nat → mq_C} {x1 x2 : Int32} (hd : 1 ≤ d) (hz : 272 ≤ z) (K : ∀ (M' : Nat → mq_C) (r : Int32), mz_sh mz_GG M' → HX M' → mz_fr mz_q192 M0 M' → (∀ a, a < 8 → M' a = M0 a) → hb_same mz_GG mz_q192 M0 M' → 0 ≤ r.toInt → 0 ≤ 1 - r.toInt → Q (.inl (some (.int r))) (M', z, u)) :
    ∀ (m : Nat) (M : Nat → mq_C) (x3 x4 x5 : Int32) (o6 o7 o8 : Option Value), (m : Int) + x5.toInt = x3.toInt → 0 ≤ x5.toInt → 1 ≤ x3.toInt → x3.toInt ≤ 128 → 0 ≤ x4.toInt → x4.toInt ≤ 1 → mz_sh mz_GG M → HX M → mz_fr mz_q192 M0 M → (∀ a, a < 8 → M a = M0 a) → hb_same mz_GG mz_q192 M0 M → mq_nl o6 = true → mq_nl o7 = true → mq_nl o8 = true → mq_R mq_PP d 168 133 [some (.ref 234), some (.int x1), some (.int x2), some (.int x3), some (.int x4), some (.int x5), o6, o7, o8] [] (M, z, u) Q := by
  intro m
  induction m with
  | zero =>
    intro M x3 x4 x5 o6 o7 o8 e1 e2 e3 e4 e5 e6 hm hx hf h8 he n6 n7 n8
    refine hv_r4 HX_same hb_C1 hd hz hm hx n6 n7 n8 (by omega) (by omega) (by omega) (by omega) (by omega) (by omega) ?_ ?_ ?_ ?_
    · intro M' y4 y5 w6 w7 w8 gs gx gw g8 ge n6' n7' n8'
      intros
      omega
    · intro M' y4 y5 w6 w7 w8 gs gx gw g8 ge n6' n7' n8'
      intros
      omega
    · intro M' y4 y5 w6 w7 w8 gs gx gw g8 ge n6' n7' n8'
      intros
      omega
    · intro M' r gs gx gw g8 ge l1 l2
      exact K M' r gs gx (hb_fr_t (q' := hv_r4_q) (fun a ha => rfl) hf gw) (fun a ha => (g8 a ha).trans (h8 a ha)) (hb_same_t (q' := hv_r4_q) (fun j hj => rfl) he ge) l1 l2
  | succ m ih =>
    intro M x3 x4 x5 o6 o7 o8 e1 e2 e3 e4 e5 e6 hm hx hf h8 he n6 n7 n8
    refine hv_r4 HX_same hb_C1 hd hz hm hx n6 n7 n8 (by omega) (by omega) (by omega) (by omega) (by omega) (by omega) ?_ ?_ ?_ ?_
    · intro M' y4 y5 w6 w7 w8 gs gx gw g8 ge n6' n7' n8'
      intros
      exact ih M' x3 y4 y5 _ _ _ (by omega) (by omega) (by omega) (by omega) (by omega) (by omega) gs gx (hb_fr_t (q' := hv_r4_q) (fun a ha => rfl) hf gw) (fun a ha => (g8 a ha).trans (h8 a ha)) (hb_same_t (q' := hv_r4_q) (fun j hj => rfl) he ge) n6' n7' n8'
    · intro M' y4 y5 w6 w7 w8 gs gx gw g8 ge n6' n7' n8'
      intros
      exact ih M' x3 y4 y5 _ _ _ (by omega) (by omega) (by omega) (by omega) (by omega) (by omega) gs gx (hb_fr_t (q' := hv_r4_q) (fun a ha => rfl) hf gw) (fun a ha => (g8 a ha).trans (h8 a ha)) (hb_same_t (q' := hv_r4_q) (fun j hj => rfl) he ge) n6' n7' n8'
    · intro M' y4 y5 w6 w7 w8 gs gx gw g8 ge n6' n7' n8'
      intros
      exact ih M' x3 y4 y5 _ _ _ (by omega) (by omega) (by omega) (by omega) (by omega) (by omega) gs gx (hb_fr_t (q' := hv_r4_q) (fun a ha => rfl) hf gw) (fun a ha => (g8 a ha).trans (h8 a ha)) (hb_same_t (q' := hv_r4_q) (fun j hj => rfl) he ge) n6' n7' n8'
    · intro M' r gs gx gw g8 ge l1 l2
      exact K M' r gs gx (hb_fr_t (q' := hv_r4_q) (fun a ha => rfl) hf gw) (fun a ha => (g8 a ha).trans (h8 a ha)) (hb_same_t (q' := hv_r4_q) (fun j hj => rfl) he ge) l1 l2
theorem hs_derives_P : hc_derives_P := by
  intro d z u M Q x1 x2 hd hz hm hx p1 p2 K
  refine he_iconst (n := 1) (c := 1) (by decide +kernel) (by decide) ?_
  intro c0 hc0
  refine he_istore (n := 2) (i := 3) (by decide +kernel) rfl ?_
  refine he_aload (n := 3) (i := 0) (by decide +kernel) rfl ?_
  refine he_getr (n := 6) (ci := 9) (j := 64) (ns := [5001, 123]) (b := 270) hm (by decide +kernel) rfl rfl (by decide +kernel) ?_
  refine he_iconst (n := 7) (c := 0) (by decide +kernel) (by decide) ?_
  intro c6 hc6
  refine he_iload (n := 8) (i := 1) (by decide +kernel) rfl ?_
  refine hb_sta (n := 9) (kind := 64) hm (by decide +kernel) rfl rfl (.inl rfl) (by omega) (show _ < (130 : Int) by omega) ?_
  generalize hM1 : hb_set M 270 (c6.toInt.toNat) x1 = M1
  have hm1 : mz_sh mz_GG M1 := by rw [← hM1]; exact hb_set_sh hm rfl hb_at1 (by omega) (by omega)
  have eM1 : ∀ b j, b ≠ 270 ∨ j ≠ c6.toInt.toNat → hv M1 b j = hv M b j := by intro b j h; rw [← hM1]; exact hb_set_n h
  have sM1 : hv M1 270 (c6.toInt.toNat) = x1.toInt := by rw [← hM1]; exact hb_set_v hm rfl (show _ < 130 by omega)
  have wM1 : ∀ b, b ≠ 270 → M1 b = M b := by intro b h; rw [← hM1]; exact hb_set_c h
  refine he_iconst (n := 10) (c := 0) (by decide +kernel) (by decide) ?_
  intro c9 hc9
  refine he_istore (n := 12) (i := 4) (by decide +kernel) rfl ?_
  have ho : hb_only [270] M M1 := hb_only_s hb_only_r (by decide) wM1
  refine hv_k (M0 := M) hd hz ?_ 128 M1 c0 c9 none none none none (by omega) (by omega) (by omega) (by omega) (by omega) hm1 (hv_hx ho hx) (hb_only_fr ho (by decide)) (hb_low ho (by decide)) (hb_only_same ho (by decide +kernel)) (fun i j h1 h2 => by omega) rfl rfl rfl rfl
  intro M2 y3 y4 y5 o6 o7 o8 a1 a2 a3 a4 a5 a6 a7 a8 a9 b6 b7 b8
  exact hv_z (M0 := M) hd hz K y3.toInt.toNat M2 y3 y4 y5 o6 o7 o8 (by omega) (by omega) (by omega) (by omega) (by omega) (by omega) a1 a2 a3 a4 a5 b6 b7 b8
theorem hs_derives : mz_Ct mz_GG mq_PP HX mz_q192 1 := hc_derives hs_derives_P
