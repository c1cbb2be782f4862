/-! THE CHECKER: numbers, locals, stack. -/
section VCO
variable (G : mz_G)
def mz_iconst : mz_F := fun _ ns cs k hs => match ns, cs with
  | [n], [c] => bif mz_inr c then some ([(n, (k.1, (0, 0, (c, [])) :: k.2.1, k.2.2))], hs) else none
  | _, _ => none
theorem mz_iconst_ok : mz_sd G mz_iconst mq_o_iconst := by
  intro n0 ns cs k hs ss hs' ρ L st M z u h hg hm
  unfold mz_iconst at h
  split at h
  · next n c =>
    cases hc : mz_inr c with
    | false => rw [hc] at h; cases h
    | true =>
      rw [hc] at h; cases h
      refine mz_so1 G ⟨hg.1, ⟨?_, hg.2.1⟩, hg.2.2⟩ (fun _ _ => rfl) hm
      show (Int32.ofInt c).toInt = c + 0
      rw [mz_oi (mz_inr_ok hc)]; omega
  · cases h
def mz_in64 (c : Int) : Bool := bif mz_le0 (c + 9223372036854775808) then mz_le0 (9223372036854775807 - c) else false
def mz_lconst : mz_F := fun _ ns cs k hs => match ns, cs with
  | [n], [c] => bif mz_in64 c then some ([(n, (k.1, (2, 0, (c, [])) :: k.2.1, k.2.2))], hs) else none
  | _, _ => none
theorem mz_lconst_ok : mz_sd G mz_lconst mq_o_lconst := by
  intro n0 ns cs k hs ss hs' ρ L st M z u h hg hm
  unfold mz_lconst at h
  split at h
  · next n c =>
    cases hc : mz_in64 c with
    | false => rw [hc] at h; cases h
    | true =>
      rw [hc] at h; cases h
      refine mz_so1 G ⟨hg.1, ⟨?_, hg.2.1⟩, hg.2.2⟩ (fun _ _ => rfl) hm
      show (Int64.ofInt c).toInt = c + 0
      obtain ⟨h1, h2⟩ := mz_bif hc
      have h1 := mz_le0_spec h1
      have h2 := mz_le0_spec h2
      rw [Int64.toInt_ofInt_of_le (by omega) (by omega)]; omega
  · cases h
def mz_iload : mz_F := fun _ ns _ k hs => match ns with
  | [n, i] => match k.1[i]? with
    | some (0, g, e) => some ([(n, (k.1, (0, g, e) :: k.2.1, k.2.2))], hs)
    | _ => none
  | _ => none
theorem mz_iload_ok : mz_sd G mz_iload mq_o_iload := by
  intro n0 ns cs k hs ss hs' ρ L st M z u h hg hm
  unfold mz_iload at h
  split at h
  · next n i =>
    split at h
    · next g e hi =>
      cases h
      obtain ⟨o, ho, hgo⟩ := mz_gl_g G _ _ _ _ hg.1 hi
      obtain ⟨x, rfl, hx⟩ := mz_go_0 G hgo
      show mz_so G n0 z u ρ M (match L[i]? with
        | some (some (.int x)) => mq_nx n L (.int x :: st) (M, z, u)
        | _ => none) _
      rw [ho]
      exact mz_so1 G ⟨hg.1, ⟨hx, hg.2.1⟩, hg.2.2⟩ (fun _ _ => rfl) hm
    · cases h
  · cases h
def mz_lload : mz_F := fun _ ns _ k hs => match ns with
  | [n, i] => match k.1[i]? with
    | some (2, g, e) => some ([(n, (k.1, (2, g, e) :: k.2.1, k.2.2))], hs)
    | _ => none
  | _ => none
theorem mz_lload_ok : mz_sd G mz_lload mq_o_lload := by
  intro n0 ns cs k hs ss hs' ρ L st M z u h hg hm
  unfold mz_lload at h
  split at h
  · next n i =>
    split at h
    · next g e hi =>
      cases h
      obtain ⟨o, ho, v, rfl, hv⟩ := mz_gl_g G _ _ _ _ hg.1 hi
      obtain ⟨x, rfl, hx⟩ := mz_gv_l G hv
      show mz_so G n0 z u ρ M (match L[i]? with
        | some (some (.long x)) => mq_nx n L (.long x :: st) (M, z, u)
        | _ => none) _
      rw [ho]
      exact mz_so1 G ⟨hg.1, ⟨hx, hg.2.1⟩, hg.2.2⟩ (fun _ _ => rfl) hm
    · cases h
  · cases h
def mz_aload : mz_F := fun _ ns _ k hs => match ns with
  | [n, i] => match k.1[i]? with
    | some (1, g, e) => some ([(n, (k.1, (1, g, e) :: k.2.1, k.2.2))], hs)
    | _ => none
  | _ => none
theorem mz_aload_ok : mz_sd G mz_aload mq_o_aload := by
  intro n0 ns cs k hs ss hs' ρ L st M z u h hg hm
  unfold mz_aload at h
  split at h
  · next n i =>
    split at h
    · next g e hi =>
      cases h
      obtain ⟨o, ho, v, rfl, hv⟩ := mz_gl_g G _ _ _ _ hg.1 hi
      obtain ⟨x, rfl, hx⟩ := mz_gv_r G hv
      show mz_so G n0 z u ρ M (match L[i]? with
        | some (some (.ref x)) => mq_nx n L (.ref x :: st) (M, z, u)
        | _ => none) _
      rw [ho]
      exact mz_so1 G ⟨hg.1, ⟨hx, hg.2.1⟩, hg.2.2⟩ (fun _ _ => rfl) hm
    · cases h
  · cases h
def mz_istore : mz_F := fun _ ns _ k hs => match ns, k.2.1 with
  | [n, i], (0, g, e) :: r => bif mz_nlg k.1 i then bif Nat.blt i k.1.length then some ([(n, (k.1.set i (0, g, e), r, k.2.2))], hs) else none else none
  | _, _ => none
theorem mz_istore_ok : mz_sd G mz_istore mq_o_istore := by
  intro n0 ns cs k hs ss hs' ρ L st M z u h hg hm
  unfold mz_istore at h
  split at h
  · next n i g e r hk =>
    cases h1 : mz_nlg k.1 i with
    | false => rw [h1] at h; cases h
    | true =>
      cases h2 : Nat.blt i k.1.length with
      | false => rw [h1, h2] at h; cases h
      | true =>
        rw [h1, h2] at h; cases h
        have hst := hg.2.1
        rw [hk] at hst
        obtain ⟨v, r', rfl, hv, hr⟩ := mz_gs_c G hst
        obtain ⟨x, rfl, hx⟩ := mz_gv_i G hv
        show mz_so G n0 z u ρ M (match mq_set1 L i (.int x) with
          | some L' => mq_nx n L' r' (M, z, u)
          | none => none) _
        rw [mz_set1_ok G hg.1 h1 h2]
        exact mz_so1 G ⟨mz_gl_set G (mz_go_v G hv (by intro h; cases h)) _ _ _ hg.1, hr, hg.2.2⟩ (fun _ _ => rfl) hm
  · cases h
def mz_astore : mz_F := fun _ ns _ k hs => match ns, k.2.1 with
  | [n, i], (1, g, e) :: r => bif mz_nlg k.1 i then bif Nat.blt i k.1.length then some ([(n, (k.1.set i (1, g, e), r, k.2.2))], hs) else none else none
  | [n, i], (4, g, e) :: r => bif mz_nlg k.1 i then bif Nat.blt i k.1.length then some ([(n, (k.1.set i (4, g, e), r, k.2.2))], hs) else none else none
  | _, _ => none
theorem mz_astore_ok : mz_sd G mz_astore mq_o_astore := by
  intro n0 ns cs k hs ss hs' ρ L st M z u h hg hm
  unfold mz_astore at h
  split at h
  · next n i g e r hk =>
    cases h1 : mz_nlg k.1 i with
    | false => rw [h1] at h; cases h
    | true =>
      cases h2 : Nat.blt i k.1.length with
      | false => rw [h1, h2] at h; cases h
      | true =>
        rw [h1, h2] at h; cases h
        have hst := hg.2.1
        rw [hk] at hst
        obtain ⟨v, r', rfl, hv, hr⟩ := mz_gs_c G hst
        obtain ⟨x, rfl, hx⟩ := mz_gv_r G hv
        show mz_so G n0 z u ρ M (match mq_set1 L i (.ref x) with
          | some L' => mq_nx n L' r' (M, z, u)
          | none => none) _
        rw [mz_set1_ok G hg.1 h1 h2]
        exact mz_so1 G ⟨mz_gl_set G (mz_go_v G hv (by intro h; cases h)) _ _ _ hg.1, hr, hg.2.2⟩ (fun _ _ => rfl) hm
  · next n i g e r hk =>
    cases h1 : mz_nlg k.1 i with
    | false => rw [h1] at h; cases h
    | true =>
      cases h2 : Nat.blt i k.1.length with
      | false => rw [h1, h2] at h; cases h
      | true =>
        rw [h1, h2] at h; cases h
        have hst := hg.2.1
        rw [hk] at hst
        obtain ⟨v, r', rfl, hv, hr⟩ := mz_gs_c G hst
        obtain ⟨x, rfl⟩ := mz_gv_a G hv
        show mz_so G n0 z u ρ M (match mq_set1 L i (.ref x) with
          | some L' => mq_nx n L' r' (M, z, u)
          | none => none) _
        rw [mz_set1_ok G hg.1 h1 h2]
        exact mz_so1 G ⟨mz_gl_set G (mz_go_v G hv (by intro h; cases h)) _ _ _ hg.1, hr, hg.2.2⟩ (fun _ _ => rfl) hm
  · cases h
def mz_iinc : mz_F := fun n0 ns cs k hs => match ns, cs with
  | [n, i], [c] => bif mz_inr c then bif mz_nlg k.1 i then bif Nat.blt i k.1.length then (match k.1[i]? with
      | some (0, _, e) => match mz_num n0 (mz_add (c, []) e) k hs with
        | some (e', k', hs') => some ([(n, (k.1.set i (0, 0, e'), k.2.1, k'.2.2))], hs')
        | none => none
      | _ => none) else none else none else none
  | _, _ => none
theorem mz_iinc_ok : mz_sd G mz_iinc mq_o_iinc := by
  intro n0 ns cs k hs ss hs' ρ L st M z u h hg hm
  unfold mz_iinc at h
  split at h
  · next n i c =>
    cases h0 : mz_inr c with
    | false => rw [h0] at h; cases h
    | true =>
    cases h1 : mz_nlg k.1 i with
    | false => rw [h0, h1] at h; cases h
    | true =>
    cases h2 : Nat.blt i k.1.length with
    | false => rw [h0, h1, h2] at h; cases h
    | true =>
      rw [h0, h1, h2] at h
      simp only [cond_true] at h
      split at h
      · next g e hi =>
        split at h
        · next e' k' hs2 hn =>
          cases h
          obtain ⟨o, ho, hgo⟩ := mz_gl_g G _ _ _ _ hg.1 hi
          obtain ⟨x, rfl, hx⟩ := mz_go_0 G hgo
          have hc := mz_oi (mz_inr_ok h0)
          have key : mz_ns G n0 k ρ (x + Int32.ofInt c) (mz_num n0 (mz_add (c, []) e) k hs) := mz_num_ok G (by
            rw [mz_add_ev]
            have e1 : mz_ev ρ (c, []) = c := Int.add_zero c
            rw [e1, ← hx]
            intro hb
            rw [mz_add32 (by rw [hc]; omega), hc]; omega)
          obtain ⟨ρ', g', hx', hr, q1, q2, q3⟩ := key _ _ _ hn L st M hg
          show mz_so G n0 z u ρ M (match L[i]? with
            | some (some (.int x)) => match mq_set1 L i (.int (x + Int32.ofInt c)) with
              | some L' => mq_nx n L' st (M, z, u)
              | none => none
            | _ => none) _
          rw [ho]
          show mz_so G n0 z u ρ M (match mq_set1 L i (.int (x + Int32.ofInt c)) with
              | some L' => mq_nx n L' st (M, z, u)
              | none => none) _
          rw [mz_set1_ok G hg.1 h1 h2]
          refine mz_so1 G ⟨?_, ?_, g'.2.2⟩ hr hm
          · have := g'.1
            rw [q1] at this
            exact mz_gl_set G (mz_go_v G (a := (0, 0, e')) (v := .int (x + Int32.ofInt c)) hx' (by intro h; cases h)) _ _ _ this
          · have := g'.2.1
            rw [q2] at this
            exact this
        · cases h
      · cases h
  · cases h
/-! two numbers -/
def mz_bi (h : Nat → mz_E → mz_E → mz_K → List mz_H → mz_N) : mz_F := fun n0 ns _ k hs => match ns, k.2.1 with
  | [n], (0, _, y) :: (0, _, x) :: r => match h n0 x y k hs with
    | some (e, k', hs') => some ([(n, (k'.1, (0, 0, e) :: r, k'.2.2))], hs')
    | none => none
  | _, _ => none
theorem mz_bi_ok {f : Int32 → Int32 → Int32} {h : Nat → mz_E → mz_E → mz_K → List mz_H → mz_N} (H : ∀ n0 x y k hs ρ X Y, Int32.toInt X = mz_ev ρ x → Int32.toInt Y = mz_ev ρ y → mz_ns G n0 k ρ (f X Y) (h n0 x y k hs)) : mz_sd G (mz_bi h) (mq_bi f) := by
  intro n0 ns cs k hs ss hs' ρ L st M z u hh hg hm
  unfold mz_bi at hh
  split at hh
  · next n gy y gx x r hk =>
    split at hh
    · next e k' hs2 hn =>
      cases hh
      have hst := hg.2.1
      rw [hk] at hst
      obtain ⟨v, r1, rfl, hv, hr1⟩ := mz_gs_c G hst
      obtain ⟨Y, rfl, hY⟩ := mz_gv_i G hv
      obtain ⟨w, r2, rfl, hw, hr2⟩ := mz_gs_c G hr1
      obtain ⟨X, rfl, hX⟩ := mz_gv_i G hw
      obtain ⟨ρ', g', hx', hr, q1, q2, q3⟩ := H n0 x y k hs ρ X Y hX hY _ _ _ hn _ _ M hg
      refine mz_so1 G (n := n) (L := L) (st := .int (f X Y) :: r2) ⟨g'.1, ⟨hx', ?_⟩, g'.2.2⟩ hr hm
      have := g'.2.1
      rw [q2, hk] at this
      exact this.2.2
    · cases hh
  · cases hh
def mz_bd (h : Nat → mz_E → Int → mz_K → List mz_H → mz_N) : mz_F := fun n0 ns _ k hs => match ns, k.2.1 with
  | [n], (0, _, (Int.ofNat (c + 1), [])) :: (0, _, x) :: r => match h n0 x (Int.ofNat (c + 1)) k hs with
    | some (e, k', hs') => some ([(n, (k'.1, (0, 0, e) :: r, k'.2.2))], hs')
    | none => none
  | _, _ => none
theorem mz_bd_ok {f : Int32 → Int32 → Int32} {h : Nat → mz_E → Int → mz_K → List mz_H → mz_N} (H : ∀ n0 x y k hs ρ X Y, 0 < y → Int32.toInt X = mz_ev ρ x → Int32.toInt Y = y → mz_ns G n0 k ρ (f X Y) (h n0 x y k hs)) : mz_sd G (mz_bd h) (mq_bd f) := by
  intro n0 ns cs k hs ss hs' ρ L st M z u hh hg hm
  unfold mz_bd at hh
  split at hh
  · next n gy c gx x r hk =>
    split at hh
    · next e k' hs2 hn =>
      cases hh
      have hst := hg.2.1
      rw [hk] at hst
      obtain ⟨v, r1, rfl, hv, hr1⟩ := mz_gs_c G hst
      obtain ⟨Y, rfl, hY⟩ := mz_gv_i G hv
      obtain ⟨w, r2, rfl, hw, hr2⟩ := mz_gs_c G hr1
      obtain ⟨X, rfl, hX⟩ := mz_gv_i G hw
      have hY' : Y.toInt = Int.ofNat (c + 1) := hY.trans (Int.add_zero _)
      have hp : (0 : Int) < Int.ofNat (c + 1) := Int.natCast_pos.mpr (Nat.succ_pos c)
      obtain ⟨ρ', g', hx', hr, q1, q2, q3⟩ := H n0 x _ k hs ρ X Y hp hX hY' _ _ _ hn _ _ M hg
      have hne : ¬ Y = 0 := by
        rintro rfl
        have e0 : (0 : Int32).toInt = 0 := rfl
        rw [e0] at hY'
        omega
      show mz_so G n0 z u ρ M (if Y = 0 then none else mq_nx n L (.int (f X Y) :: r2) (M, z, u)) _
      rw [if_neg hne]
      refine mz_so1 G (n := n) (L := L) (st := .int (f X Y) :: r2) ⟨g'.1, ⟨hx', ?_⟩, g'.2.2⟩ hr hm
      have := g'.2.1
      rw [q2, hk] at this
      exact this.2.2
    · cases hh
  · cases hh
def mz_iadd := mz_bi (fun n0 x y k hs => mz_num n0 (mz_add x y) k hs)
theorem mz_iadd_ok : mz_sd G mz_iadd (mq_bi (fun x y => x + y)) := mz_bi_ok G (by
  intro n0 x y k hs ρ X Y hX hY
  refine mz_num_ok G ?_
  rw [mz_add_ev, ← hX, ← hY]
  exact mz_add32)
def mz_isub := mz_bi (fun n0 x y k hs => mz_num n0 (mz_add x (mz_mul (-1) y)) k hs)
theorem mz_isub_ok : mz_sd G mz_isub (mq_bi (fun x y => x - y)) := mz_bi_ok G (by
  intro n0 x y k hs ρ X Y hX hY
  refine mz_num_ok G ?_
  rw [mz_add_ev, mz_mul_ev, ← hX, ← hY]
  intro hb
  rw [mz_sub32 (by omega)]; omega)
def mz_imul := mz_bi (fun n0 x y k hs => match y.2, x.2 with
  | [], _ => mz_num n0 (mz_mul y.1 x) k hs
  | _, [] => mz_num n0 (mz_mul x.1 y) k hs
  | _, _ => mz_opq n0 k hs)
theorem mz_imul_ok : mz_sd G mz_imul (mq_bi (fun x y => x * y)) := mz_bi_ok G (by
  intro n0 x y k hs ρ X Y hX hY
  split
  · next hy =>
    refine mz_num_ok G ?_
    have e1 : mz_ev ρ y = y.1 := by show y.1 + mz_ev1 ρ y.2 = y.1; rw [hy]; exact Int.add_zero _
    rw [mz_mul_ev, ← hX, ← e1, ← hY]
    intro hb
    rw [Int.mul_comm] at hb
    rw [mz_mul32 hb, Int.mul_comm]
  · next hx _ =>
    refine mz_num_ok G ?_
    have e1 : mz_ev ρ x = x.1 := by show x.1 + mz_ev1 ρ x.2 = x.1; rw [hx]; exact Int.add_zero _
    rw [mz_mul_ev, ← hY, ← e1, ← hX]
    intro hb
    exact mz_mul32 hb
  · exact mz_opq_ok G)
/-- a new number between lo and hi -/
def mz_btw (n0 : Nat) (k : mz_K) (hs : List mz_H) (lo hi : Int) : mz_N := match mz_fresh n0 k lo hi with
  | some k' => some ((0, [(k.2.2.2.2, 1)]), k', hs)
  | none => none
theorem mz_btw_ok {n0 : Nat} {k : mz_K} {hs : List mz_H} {ρ : Nat → Int} {x : Int32} {lo hi : Int} (h1 : lo ≤ x.toInt) (h2 : x.toInt ≤ hi) : mz_ns G n0 k ρ x (mz_btw n0 k hs lo hi) := by
  intro e' k' hs' h L st M hg
  unfold mz_btw at h
  split at h
  · next k1 hk =>
    cases h
    obtain ⟨ρ', g', hr, hn, h0, q⟩ := mz_fresh_ok G hk hg h1 h2
    refine ⟨ρ', g', ?_, fun i hi => hr i (Nat.lt_of_lt_of_le hi h0), q⟩
    show x.toInt = 0 + (1 * ρ' k.2.2.2.2 + 0)
    rw [hn]; omega
  · cases h
def mz_iand := mz_bi (fun n0 x y k hs => match y, x with
  | (Int.ofNat m, []), _ => mz_btw n0 k hs 0 m
  | _, (Int.ofNat m, []) => mz_btw n0 k hs 0 m
  | _, _ => mz_opq n0 k hs)
theorem mz_iand_ok : mz_sd G mz_iand (mq_bi (fun x y => x &&& y)) := mz_bi_ok G (by
  intro n0 x y k hs ρ X Y hX hY
  split
  · next m =>
    have e1 : Y.toInt = (m : Int) := hY.trans (Int.add_zero _)
    have := mz_and32 (X := X) (Y := Y) (by omega)
    exact mz_btw_ok G this.1 (by omega)
  · next m _ =>
    have e1 : X.toInt = (m : Int) := hX.trans (Int.add_zero _)
    have := mz_and32' (X := X) (Y := Y) (by omega)
    exact mz_btw_ok G this.1 (by omega)
  · exact mz_opq_ok G)
/-- both between 0 and 2 ^ k - 1 -/
def mz_bnd (n0 : Nat) (x y : mz_E) (k : mz_K) (j : Nat) (hs : List mz_H) : mz_N := match hs with
  | h1 :: h2 :: h3 :: h4 :: hs => bif Nat.ble j 31 then bif mz_pv k.2.2.2.1 h1 x then bif mz_pv k.2.2.2.1 h2 (mz_add ((2 ^ j : Nat) - 1, []) (mz_mul (-1) x)) then bif mz_pv k.2.2.2.1 h3 y then bif mz_pv k.2.2.2.1 h4 (mz_add ((2 ^ j : Nat) - 1, []) (mz_mul (-1) y)) then mz_btw n0 k hs 0 ((2 ^ j : Nat) - 1) else none else none else none else none else none
  | _ => none
theorem mz_pv_hi {ρ : Nat → Int} {fs : List mz_E} (hf : ∀ f ∈ fs, 0 ≤ mz_ev ρ f) {h : mz_H} {c : Int} {x : mz_E} (hp : mz_pv fs h (mz_add (c, []) (mz_mul (-1) x)) = true) : mz_ev ρ x ≤ c := by
  have := mz_pv_spec hf hp
  rw [mz_add_ev, mz_mul_ev] at this
  have e1 : mz_ev ρ (c, []) = c := Int.add_zero c
  rw [e1] at this
  omega
theorem mz_bif4 {α : Type} {a : Bool} {o : Option α} {x : α} (h : (bif a then o else none) = some x) : a = true ∧ o = some x := by
  cases a with
  | false => cases h
  | true => exact ⟨rfl, h⟩
theorem mz_bnd_ok {n0 : Nat} {x y : mz_E} {k : mz_K} {j : Nat} {hs : List mz_H} {ρ : Nat → Int} {X Y Z : Int32} (hX : X.toInt = mz_ev ρ x) (hY : Y.toInt = mz_ev ρ y) (H : j ≤ 31 → 0 ≤ X.toInt → X.toInt < (2 ^ j : Nat) → 0 ≤ Y.toInt → Y.toInt < (2 ^ j : Nat) → 0 ≤ Z.toInt ∧ Z.toInt < (2 ^ j : Nat)) : mz_ns G n0 k ρ Z (mz_bnd n0 x y k j hs) := by
  intro e' k' hs' h L st M hg
  unfold mz_bnd at h
  split at h
  · next h1 h2 h3 h4 hs =>
    obtain ⟨p0, h⟩ := mz_bif4 h
    obtain ⟨p1, h⟩ := mz_bif4 h
    obtain ⟨p2, h⟩ := mz_bif4 h
    obtain ⟨p3, h⟩ := mz_bif4 h
    obtain ⟨p4, h⟩ := mz_bif4 h
    have q1 := mz_pv_spec hg.2.2.2 p1
    have q2 := mz_pv_hi hg.2.2.2 p2
    have q3 := mz_pv_spec hg.2.2.2 p3
    have q4 := mz_pv_hi hg.2.2.2 p4
    have := H (Nat.le_of_ble_eq_true p0) (by omega) (by omega) (by omega) (by omega)
    exact mz_btw_ok G this.1 (by omega) _ _ _ h L st M hg
  · cases h
/-- 2 ^ j times something -/
def mz_dvd (j : Nat) (x : mz_E) : Bool := match x.1 % ((2 ^ j : Nat) : Int), mz_dvl (2 ^ j) x.2 with
  | .ofNat 0, some _ => true
  | _, _ => false
theorem mz_dvd_ok {j : Nat} {x : mz_E} (h : mz_dvd j x = true) (ρ : Nat → Int) : ∃ a : Int, mz_ev ρ x = (2 ^ j : Nat) * a := by
  unfold mz_dvd at h
  split at h
  · next m hz hm =>
    refine ⟨x.1 / ((2 ^ j : Nat) : Int) + mz_ev1 ρ m, ?_⟩
    show x.1 + mz_ev1 ρ x.2 = _
    rw [mz_dvl_ev _ _ hm, Int.mul_add]
    have := Int.mul_ediv_add_emod x.1 ((2 ^ j : Nat) : Int)
    have hz' : x.1 % ((2 ^ j : Nat) : Int) = 0 := hz
    omega
  · cases h
def mz_orx (n0 : Nat) (x y s : mz_E) (k : mz_K) (j : Nat) (hs : List mz_H) : mz_N := match hs with
  | h1 :: h2 :: h3 :: hs => bif mz_dvd j x then bif mz_pv k.2.2.2.1 h1 y then bif mz_pv k.2.2.2.1 h2 (mz_add ((2 ^ j : Nat) - 1, []) (mz_mul (-1) y)) then bif mz_pv k.2.2.2.1 h3 x then mz_num n0 s k hs else none else none else none else none
  | _ => none
def mz_ior := mz_bi (fun n0 x y k hs => match hs with
  | (1, j, _) :: hs => mz_orx n0 x y (mz_add x y) k j hs
  | (2, j, _) :: hs => mz_orx n0 y x (mz_add x y) k j hs
  | (3, j, _) :: hs => mz_bnd n0 x y k j hs
  | _ :: hs => mz_opq n0 k hs
  | _ => none)
theorem mz_orx_ok {n0 : Nat} {x y s : mz_E} {k : mz_K} {j : Nat} {hs : List mz_H} {ρ : Nat → Int} {X Y Z : Int32} (hX : X.toInt = mz_ev ρ x) (hY : Y.toInt = mz_ev ρ y) (hs0 : mz_ev ρ s = mz_ev ρ x + mz_ev ρ y) (H : Z = X ||| Y) : mz_ns G n0 k ρ Z (mz_orx n0 x y s k j hs) := by
  intro e' k' hs' h L st M hg
  unfold mz_orx at h
  split at h
  · next h1 h2 h3 hs =>
    obtain ⟨p0, h⟩ := mz_bif4 h
    obtain ⟨p1, h⟩ := mz_bif4 h
    obtain ⟨p2, h⟩ := mz_bif4 h
    obtain ⟨p3, h⟩ := mz_bif4 h
    have q1 := mz_pv_spec hg.2.2.2 p1
    have q2 := mz_pv_hi hg.2.2.2 p2
    have q3 := mz_pv_spec hg.2.2.2 p3
    obtain ⟨a, ha⟩ := mz_dvd_ok p0 ρ
    have hor := mz_or32 (X := X) (Y := Y) (k := j) (a := a) (by rw [hX, ha]) (by omega) (by omega) (by omega)
    refine mz_num_ok G (x := Z) ?_ _ _ _ h L st M hg
    intro _
    rw [H, hor, hs0, hX, hY]
  · cases h
theorem mz_or_comm {X Y : Int32} : X ||| Y = Y ||| X := by
  apply Int32.toBitVec_inj.mp
  show X.toBitVec ||| Y.toBitVec = Y.toBitVec ||| X.toBitVec
  exact BitVec.or_comm _ _
theorem mz_ior_ok : mz_sd G mz_ior (mq_bi (fun x y => x ||| y)) := mz_bi_ok G (by
  intro n0 x y k hs ρ X Y hX hY
  split
  · exact mz_orx_ok G hX hY mz_add_ev rfl
  · exact mz_orx_ok G hY hX (by rw [mz_add_ev]; omega) mz_or_comm
  · exact mz_bnd_ok G hX hY mz_orb
  · exact mz_opq_ok G
  · intro e' k' hs' h; cases h)
def mz_ixor := mz_bi (fun n0 x y k hs => match hs with
  | (3, j, _) :: hs => mz_bnd n0 x y k j hs
  | _ :: hs => mz_opq n0 k hs
  | _ => none)
theorem mz_ixor_ok : mz_sd G mz_ixor (mq_bi (fun x y => x ^^^ y)) := mz_bi_ok G (by
  intro n0 x y k hs ρ X Y hX hY
  split
  · exact mz_bnd_ok G hX hY mz_xorb
  · exact mz_opq_ok G
  · intro e' k' hs' h; cases h)
def mz_ishl := mz_bi (fun n0 x y k hs => match y with
  | (Int.ofNat j, []) => bif Nat.blt j 32 then mz_num n0 (mz_mul ((2 ^ j : Nat) : Int) x) k hs else mz_opq n0 k hs
  | _ => mz_opq n0 k hs)
theorem mz_ishl_ok : mz_sd G mz_ishl (mq_bi (fun x y => x <<< (y &&& 31))) := mz_bi_ok G (by
  intro n0 x y k hs ρ X Y hX hY
  split
  · next j =>
    cases hj : Nat.blt j 32 with
    | false => exact mz_opq_ok G
    | true =>
      refine mz_num_ok G ?_
      have e1 : Y.toInt = (j : Int) := hY.trans (Int.add_zero _)
      rw [mz_mul_ev, ← hX]
      exact mz_shl32 (Nat.le_of_ble_eq_true hj) e1
  · exact mz_opq_ok G)
/-- x divided by c, rounded down, with what is known of it -/
def mz_quo (n0 : Nat) (x : mz_E) (c : Int) (k : mz_K) (hs : List mz_H) : mz_N := bif mz_wf k.2.2.2.2 x.2 then (match mz_fresh n0 k (-2147483648) 2147483647 with
  | some k' => some ((0, [(k.2.2.2.2, 1)]), mz_fa (mz_fa k' (mz_add x (0, [(k.2.2.2.2, -c)]))) (mz_add (c - 1, [(k.2.2.2.2, c)]) (mz_mul (-1) x)), hs)
  | none => none) else none
theorem mz_quo_ok {n0 : Nat} {x : mz_E} {c : Int} {k : mz_K} {hs : List mz_H} {ρ : Nat → Int} {X : Int32} (hc : 0 < c) (hX : X.toInt = mz_ev ρ x / c) : ∀ e' k' hs', mz_quo n0 x c k hs = some (e', k', hs') → ∀ L st M, mz_g G ρ k L st M → ∃ ρ', mz_g G ρ' k' L st M ∧ X.toInt = mz_ev ρ' e' ∧ (∀ i, i < n0 → ρ' i = ρ i) ∧ k'.1 = k.1 ∧ k'.2.1 = k.2.1 ∧ k'.2.2.1 = k.2.2.1 ∧ mz_ev ρ' x = mz_ev ρ x := by
  intro e' k' hs' h L st M hg
  unfold mz_quo at h
  obtain ⟨hw, h⟩ := mz_bif4 h
  split at h
  · next k1 hk =>
    cases h
    obtain ⟨ρ', g', hr, hn, h0, q1, q2, q3⟩ := mz_fresh_ok G hk hg (n := X.toInt) (mz_i32 X).1 (mz_i32 X).2
    have hx : mz_ev ρ' x = mz_ev ρ x := mz_wf_e hr hw
    have h2 := Int.mul_ediv_add_emod (mz_ev ρ x) c
    have h3 := Int.emod_nonneg (mz_ev ρ x) (Int.ne_of_gt hc)
    have h4 := Int.emod_lt_of_pos (mz_ev ρ x) hc
    rw [← hX] at h2
    refine ⟨ρ', mz_fa_ok G (mz_fa_ok G g' ?_) ?_, ?_, fun i hi => hr i (Nat.lt_of_lt_of_le hi h0), q1, q2, q3, hx⟩
    · rw [mz_add_ev, hx]
      show 0 ≤ mz_ev ρ x + (0 + (-c * ρ' k.2.2.2.2 + 0))
      rw [hn, Int.neg_mul]; omega
    · rw [mz_add_ev, mz_mul_ev, hx]
      show 0 ≤ (c - 1) + (c * ρ' k.2.2.2.2 + 0) + -1 * mz_ev ρ x
      rw [hn]; omega
    · show X.toInt = 0 + (1 * ρ' k.2.2.2.2 + 0)
      rw [hn]; omega
  · cases h
theorem mz_ns_of {n0 : Nat} {k : mz_K} {ρ : Nat → Int} {x : Int32} {o : mz_N} {P : (Nat → Int) → Prop} (h : ∀ e' k' hs', o = some (e', k', hs') → ∀ L st M, mz_g G ρ k L st M → ∃ ρ', mz_g G ρ' k' L st M ∧ x.toInt = mz_ev ρ' e' ∧ (∀ i, i < n0 → ρ' i = ρ i) ∧ k'.1 = k.1 ∧ k'.2.1 = k.2.1 ∧ k'.2.2.1 = k.2.2.1 ∧ P ρ') : mz_ns G n0 k ρ x o := by
  intro e' k' hs' ho L st M hg
  obtain ⟨ρ', a, b, c, d, e, f, _⟩ := h e' k' hs' ho L st M hg
  exact ⟨ρ', a, b, c, d, e, f⟩
def mz_ishr := mz_bi (fun n0 x y k hs => match y with
  | (Int.ofNat 0, []) => some (x, k, hs)
  | (Int.ofNat j, []) => bif Nat.blt j 32 then mz_quo n0 x ((2 ^ j : Nat) : Int) k hs else mz_opq n0 k hs
  | _ => mz_opq n0 k hs)
theorem mz_two (j : Nat) : (0 : Int) < ((2 ^ j : Nat) : Int) := Int.natCast_pos.mpr (Nat.two_pow_pos j)
theorem mz_ishr_ok : mz_sd G mz_ishr (mq_bi (fun x y => x >>> (y &&& 31))) := mz_bi_ok G (by
  intro n0 x y k hs ρ X Y hX hY
  split
  · intro e' k' hs' h L st M hg
    cases h
    have e1 : Y.toInt = ((0 : Nat) : Int) := hY.trans (Int.add_zero _)
    refine ⟨ρ, hg, ?_, fun _ _ => rfl, rfl, rfl, rfl⟩
    rw [mz_shr32 (by decide) e1, ← hX]
    show X.toInt / 1 = X.toInt
    omega
  · next j _ =>
    cases hj : Nat.blt j 32 with
    | false => exact mz_opq_ok G
    | true =>
      have e1 : Y.toInt = (j : Int) := hY.trans (Int.add_zero _)
      exact mz_ns_of G (mz_quo_ok G (mz_two j) (by rw [← hX]; exact mz_shr32 (Nat.le_of_ble_eq_true hj) e1))
  · exact mz_opq_ok G)
def mz_iushr := mz_bi (fun n0 x y k hs => match y with
  | (Int.ofNat 0, []) => some (x, k, hs)
  | (Int.ofNat (j + 1), []) => bif Nat.blt (j + 1) 32 then (match hs with
      | (0, _) :: hs => mz_btw n0 k hs 0 ((2 ^ (31 - j) : Nat) - 1)
      | _ :: h :: hs => bif mz_pv k.2.2.2.1 h x then mz_quo n0 x ((2 ^ (j + 1) : Nat) : Int) k hs else none
      | _ => none) else mz_opq n0 k hs
  | _ => mz_opq n0 k hs)
theorem mz_iushr_ok : mz_sd G mz_iushr (mq_bi (fun x y => (x.toUInt32 >>> (y.toUInt32 &&& Int32.toUInt32 31)).toInt32)) := mz_bi_ok G (by
  intro n0 x y k hs ρ X Y hX hY
  split
  · intro e' k' hs' h L st M hg
    cases h
    have e1 : Y.toInt = ((0 : Nat) : Int) := hY.trans (Int.add_zero _)
    refine ⟨ρ, hg, ?_, fun _ _ => rfl, rfl, rfl, rfl⟩
    have e2 := mz_ush_un (X := X) (Y := Y) (by decide) e1
    rw [← hX, mz_un_ti, mz_un_ti (x := X), e2]
    simp
  · next j =>
    cases hj : Nat.blt (j + 1) 32 with
    | false => exact mz_opq_ok G
    | true =>
      have e1 : Y.toInt = ((j + 1 : Nat) : Int) := hY.trans (Int.add_zero _)
      have hj' := Nat.le_of_ble_eq_true hj
      have e2 := mz_ush_un (X := X) (Y := Y) (k := j + 1) (by omega) e1
      have e3 := mz_un_lt (x := X)
      have e4 : mz_un X / 2 ^ (j + 1) < 2 ^ (31 - j) := by
        apply Nat.div_lt_of_lt_mul
        rw [← Nat.pow_add]
        have : j + 1 + (31 - j) = 32 := by omega
        rw [this]
        exact e3
      have e5 : 2 ^ (31 - j) ≤ 2 ^ 31 := Nat.pow_le_pow_right (by decide) (by omega)
      have e6 := mz_un_s (x := (X.toUInt32 >>> (Y.toUInt32 &&& Int32.toUInt32 31)).toInt32) (by rw [e2]; exact Nat.lt_of_lt_of_le e4 e5)
      show mz_ns G n0 k ρ _ (match hs with
        | (0, _) :: hs => mz_btw n0 k hs 0 ((2 ^ (31 - j) : Nat) - 1)
        | _ :: h :: hs => bif mz_pv k.2.2.2.1 h x then mz_quo n0 x ((2 ^ (j + 1) : Nat) : Int) k hs else none
        | _ => none)
      split
      · refine mz_btw_ok G ?_ ?_
        · rw [e6]; omega
        · rw [e6, e2]; omega
      · next h hs _ =>
        intro e' k' hs' ho L st M hg
        obtain ⟨p, ho⟩ := mz_bif4 ho
        have q := mz_pv_spec hg.2.2.2 p
        rw [← hX] at q
        obtain ⟨u1, u2⟩ := mz_un_p q
        refine mz_ns_of G (mz_quo_ok G (mz_two (j + 1)) ?_) _ _ _ ho L st M hg
        rw [e6, e2, ← hX, u1]
        simp
      · intro e' k' hs' h; cases h
  · exact mz_opq_ok G)
def mz_idiv := mz_bd (fun n0 x c k hs => match x with
  | (Int.ofNat a, []) => bif mz_inr (Int.ofNat a / c) then some ((Int.ofNat a / c, []), k, hs) else none
  | _ => match hs with
    | (0, _) :: hs => mz_opq n0 k hs
    | _ :: h :: hs => bif mz_pv k.2.2.2.1 h x then mz_quo n0 x c k hs else none
    | _ => none)
theorem mz_idiv_ok : mz_sd G mz_idiv (mq_bd (fun x y => x / y)) := mz_bd_ok G (by
  intro n0 x c k hs ρ X Y hc hX hY
  split
  · next a =>
    intro e' k' hs' ho L st M hg
    obtain ⟨p, ho⟩ := mz_bif4 ho
    cases ho
    have e1 : X.toInt = (a : Int) := hX.trans (Int.add_zero _)
    refine ⟨ρ, hg, ?_, fun _ _ => rfl, rfl, rfl, rfl⟩
    rw [mz_div32 hc hY (by omega), e1]
    exact (Int.add_zero _).symm
  · split
    · exact mz_opq_ok G
    · next h hs _ =>
      intro e' k' hs' ho L st M hg
      obtain ⟨p, ho⟩ := mz_bif4 ho
      have q := mz_pv_spec hg.2.2.2 p
      rw [← hX] at q
      exact mz_ns_of G (mz_quo_ok G hc (by rw [← hX]; exact mz_div32 hc hY q)) _ _ _ ho L st M hg
    · intro e' k' hs' h; cases h)
def mz_irem := mz_bd (fun n0 x c k hs => match x with
  | (Int.ofNat a, []) => some ((Int.ofNat a % c, []), k, hs)
  | _ => match hs with
    | _ :: h :: hs => bif mz_pv k.2.2.2.1 h x then (match mz_quo n0 x c k hs with
        | some (q, k', hs') => some (mz_add x (mz_mul (-c) q), k', hs')
        | none => none) else none
    | _ => none)
theorem mz_irem_ok : mz_sd G mz_irem (mq_bd (fun x y => x - x / y * y)) := mz_bd_ok G (by
  intro n0 x c k hs ρ X Y hc hX hY
  split
  · next a =>
    intro e' k' hs' ho L st M hg
    cases ho
    have e1 : X.toInt = (a : Int) := hX.trans (Int.add_zero _)
    refine ⟨ρ, hg, ?_, fun _ _ => rfl, rfl, rfl, rfl⟩
    show (X - X / Y * Y).toInt = Int.ofNat a % c + 0
    rw [mz_rem32 hc hY (by omega), e1]
    have h2 := Int.mul_ediv_add_emod (a : Int) c
    rw [Int.mul_comm] at h2
    have e3 : Int.ofNat a = (a : Int) := rfl
    rw [e3]
    omega
  · split
    · next h hs =>
      intro e' k' hs' ho L st M hg
      obtain ⟨p, ho⟩ := mz_bif4 ho
      have q := mz_pv_spec hg.2.2.2 p
      rw [← hX] at q
      split at ho
      · next qe k1 hs1 hq =>
        cases ho
        obtain ⟨ρ', g', hq', hr, q1, q2, q3, hx'⟩ := mz_quo_ok G (X := X / Y) hc (by rw [← hX]; exact mz_div32 hc hY q) _ _ _ hq L st M hg
        refine ⟨ρ', g', ?_, hr, q1, q2, q3⟩
        rw [mz_rem32 hc hY q, mz_add_ev, mz_mul_ev, ← hq', hx', ← hX, mz_div32 hc hY q, Int.neg_mul, Int.mul_comm]
        omega
      · cases ho
    · intro e' k' hs' h; cases h)
end VCO
