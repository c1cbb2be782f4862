/-! Numbers of bytes; what reading an archive gives. -/
theorem xo_shl {X Y : Int32} {k : Nat} (hk : k < 32) (h : Y.toInt = k) : mz_un (X <<< (Y &&& 31)) = (mz_un X * 2 ^ k) % 4294967296 := by
  rw [mz_k32 hk h]
  have e1 : ∀ k : Fin 32, ((Int32.ofNat k.val &&& 31).toBitVec.smod 32#32).toNat = k.val := by decide
  show (X.toBitVec <<< ((Int32.ofNat k &&& 31).toBitVec.smod 32#32)).toNat = _
  rw [BitVec.shiftLeft_eq', e1 ⟨k, hk⟩, BitVec.toNat_shiftLeft, Nat.shiftLeft_eq]
  rfl
theorem xo_or {v x s : Int32} {k : Nat} (hk : k ≤ 24) (hv : mz_un v < 2 ^ k) (h0 : 0 ≤ x.toInt) (h1 : x.toInt ≤ 255) (hs : s.toInt = (k : Int)) : mz_un (v ||| (x <<< (s &&& 31))) = mz_un v + x.toInt.toNat * 2 ^ k := by
  obtain ⟨p1, p2⟩ := mz_un_p h0
  have hp : 2 ^ k ≤ 2 ^ 24 := Nat.pow_le_pow_right (by decide) hk
  have hx : mz_un x = x.toInt.toNat := by omega
  have hx2 : x.toInt.toNat ≤ 255 := by omega
  have hm : x.toInt.toNat * 2 ^ k ≤ 255 * 2 ^ 24 := Nat.mul_le_mul hx2 hp
  have e : mz_un (x <<< (s &&& 31)) = 2 ^ k * mz_un x := by
    rw [xo_shl (by omega) hs, hx, Nat.mod_eq_of_lt (by omega), Nat.mul_comm]
  rw [mz_or_un, e, Nat.or_comm, ← Nat.two_pow_add_eq_or_of_lt hv, hx, Nat.mul_comm, Nat.add_comm]
def xnN (b : Nat → Int) (a : Nat) : Nat → Nat
  | 0 => 0
  | n + 1 => xnN b a n + (b (a + n)).toNat * 2 ^ (8 * n)
theorem xnN_lt {b : Nat → Int} {a : Nat} : ∀ n, (∀ i, i < n → b (a + i) ≤ 255) → xnN b a n < 2 ^ (8 * n) := by
  intro n
  induction n with
  | zero =>
    intro _
    show 0 < 2 ^ (8 * 0)
    decide
  | succ n ih =>
    intro h
    have h1 := ih (fun i hi => h i (by omega))
    have h2 := h n (by omega)
    have h3 : (b (a + n)).toNat * 2 ^ (8 * n) ≤ 255 * 2 ^ (8 * n) := Nat.mul_le_mul_right _ (by omega)
    have h4 : 2 ^ (8 * (n + 1)) = 256 * 2 ^ (8 * n) := by rw [show 8 * (n + 1) = 8 + 8 * n by omega, Nat.pow_add]
    show xnN b a n + (b (a + n)).toNat * 2 ^ (8 * n) < _
    omega
theorem xnN_c {b b' : Nat → Int} {a a' : Nat} : ∀ n, (∀ i, i < n → b (a + i) = b' (a' + i)) → xnN b a n = xnN b' a' n := by
  intro n
  induction n with
  | zero => intro _; rfl
  | succ n ih =>
    intro h
    show xnN b a n + (b (a + n)).toNat * _ = xnN b' a' n + (b' (a' + n)).toNat * _
    rw [ih (fun i hi => h i (by omega)), h n (by omega)]
def xs32 (n : Nat) : Int := if 2 * n < 4294967296 then (n : Int) else (n : Int) - 4294967296
theorem xs32_p {n : Nat} (h : n < 2147483648) : xs32 n = (n : Int) := by
  unfold xs32
  rw [if_pos (by omega)]
/-- name, method, sum, size, packed size, place -/
abbrev xRc : Type := Int × Int × Int × Int × Int × Int
def xut (r : xRc) : Int := r.2.2.2.2.2 + 2 + r.2.2.2.2.1
abbrev xap (r k : xRc) : Prop := ¬ k.1 = r.1 ∧ (xut r ≤ k.2.2.2.2.2 ∨ xut k ≤ r.2.2.2.2.2)
/-- the record that stands at a, with so many bytes of name -/
def xrr (b : Nat → Int) (a n : Nat) : xRc := (xs32 (xnN b (a + 1) n), b (a + 1 + n), xs32 (xnN b (a + 1 + n + 1) 4), (xnN b (a + 1 + n + 5) 2 : Nat), (xnN b (a + 1 + n + 7) 2 : Nat), (xnN b (a + 1 + n + 9) 2 : Nat))
abbrev xrk (b : Nat → Int) (e : Nat) (a : Nat) : Prop := a < e ∧ 1 ≤ b a ∧ b a ≤ 4 ∧ a + 12 + (b a).toNat ≤ e
abbrev xrf (r : xRc) (n : Nat) : Prop := hb_nm r.1 = (n : Int) ∧ r.2.2.2.1 ≤ 200 ∧ (r.2.1 = 0 ∨ r.2.1 = 8)
abbrev xrb2 (b : Nat → Int) (dir : Nat) (r : xRc) : Prop := xut r ≤ (dir : Int) ∧ b r.2.2.2.2.2.toNat = 75 ∧ b (r.2.2.2.2.2.toNat + 1) = r.2.1
def xrcd (b : Nat → Int) (e dir : Nat) (l : List xRc) (a : Nat) : Option (xRc × Nat) := if xrk b e a ∧ xrf (xrr b a (b a).toNat) (b a).toNat ∧ xrb2 b dir (xrr b a (b a).toNat) ∧ (l.all fun k => decide (xap (xrr b a (b a).toNat) k)) = true then some (xrr b a (b a).toNat, a + 12 + (b a).toNat) else none
def xrcs (b : Nat → Int) (e dir : Nat) : Nat → List xRc → Nat → Option (List xRc × Nat)
  | 0, l, a => some (l, a)
  | m + 1, l, a => match xrcd b e dir l a with
    | some (r, a') => xrcs b e dir m (l ++ [r]) a'
    | none => none
def xsnd (b : Nat → Int) (len : Nat) : Option (List xRc) := if 4 ≤ len ∧ b (len - 4) = 80 ∧ b (len - 3) ≤ 6 then (match xrcs b (len - 4) (xnN b (len - 2) 2) (b (len - 3)).toNat [] (xnN b (len - 2) 2) with
    | some (l, a) => if a = len - 4 then some l else none
    | none => none) else none
/-- r is the first place below n where f is x, or -1 -/
def xfs (f : Nat → Int) (n : Nat) (x r : Int) : Prop := (∃ j : Nat, j < n ∧ r = (j : Int) ∧ f j = x ∧ ∀ i, i < j → ¬ f i = x) ∨ (r = -1 ∧ ∀ i, i < n → ¬ f i = x)
theorem xfs_d {f g : Nat → Int} {n : Nat} {x r r' : Int} (hfg : ∀ i, i < n → f i = g i) (h : xfs f n x r) (h' : xfs g n x r') : r = r' := by
  rcases h with ⟨j, j1, j2, j3, j4⟩ | ⟨h1, h2⟩
  · rcases h' with ⟨k, k1, k2, k3, k4⟩ | ⟨g1, g2⟩
    · rcases Nat.lt_trichotomy j k with h | h | h
      · exact absurd ((hfg j j1).symm.trans j3) (k4 j h)
      · omega
      · exact absurd ((hfg k k1).trans k3) (j4 k h)
    · exact absurd ((hfg j j1).symm.trans j3) (g2 j j1)
  · rcases h' with ⟨k, k1, k2, k3, k4⟩ | ⟨g1, g2⟩
    · exact absurd ((hfg k k1).trans k3) (h2 k k1)
    · omega
