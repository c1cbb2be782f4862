/-! numbers of 32 bits: what the operations do to their values -/
theorem mz_bm {n : Int} (h : -2147483648 ≤ n ∧ n ≤ 2147483647) : n.bmod 4294967296 = n := Int.bmod_eq_of_le (by omega) (by omega)
theorem mz_add32 {X Y : Int32} (h : -2147483648 ≤ X.toInt + Y.toInt ∧ X.toInt + Y.toInt ≤ 2147483647) : (X + Y).toInt = X.toInt + Y.toInt := by
  rw [Int32.toInt_add]; exact mz_bm h
theorem mz_sub32 {X Y : Int32} (h : -2147483648 ≤ X.toInt - Y.toInt ∧ X.toInt - Y.toInt ≤ 2147483647) : (X - Y).toInt = X.toInt - Y.toInt := by
  rw [Int32.toInt_sub]; exact mz_bm h
theorem mz_mul32 {X Y : Int32} (h : -2147483648 ≤ X.toInt * Y.toInt ∧ X.toInt * Y.toInt ≤ 2147483647) : (X * Y).toInt = X.toInt * Y.toInt := by
  rw [Int32.toInt_mul]; exact mz_bm h
def mz_un (x : Int32) : Nat := x.toBitVec.toNat
theorem mz_un_lt {x : Int32} : mz_un x < 4294967296 := x.toBitVec.isLt
theorem mz_un_ti {x : Int32} : x.toInt = if 2 * mz_un x < 4294967296 then (mz_un x : Int) else (mz_un x : Int) - 4294967296 := by
  show x.toBitVec.toInt = _
  rw [BitVec.toInt_eq_toNat_cond]
  rfl
theorem mz_un_p {x : Int32} (h : 0 ≤ x.toInt) : x.toInt = mz_un x ∧ mz_un x < 2147483648 := by
  have h1 := mz_un_ti (x := x)
  have h2 := mz_un_lt (x := x)
  split at h1 <;> omega
theorem mz_un_s {x : Int32} (h : mz_un x < 2147483648) : x.toInt = mz_un x := by
  rw [mz_un_ti, if_pos (by omega)]
theorem mz_and_un {X Y : Int32} : mz_un (X &&& Y) = mz_un X &&& mz_un Y := by
  show (X.toBitVec &&& Y.toBitVec).toNat = _
  rw [BitVec.toNat_and]; rfl
theorem mz_or_un {X Y : Int32} : mz_un (X ||| Y) = mz_un X ||| mz_un Y := by
  show (X.toBitVec ||| Y.toBitVec).toNat = _
  rw [BitVec.toNat_or]; rfl
theorem mz_xor_un {X Y : Int32} : mz_un (X ^^^ Y) = mz_un X ^^^ mz_un Y := by
  show (X.toBitVec ^^^ Y.toBitVec).toNat = _
  rw [BitVec.toNat_xor]; rfl
theorem mz_and32 {X Y : Int32} (h : 0 ≤ Y.toInt) : 0 ≤ (X &&& Y).toInt ∧ (X &&& Y).toInt ≤ Y.toInt := by
  obtain ⟨h1, h2⟩ := mz_un_p h
  have h3 : mz_un (X &&& Y) ≤ mz_un Y := by rw [mz_and_un]; exact Nat.and_le_right
  have h4 := mz_un_s (x := X &&& Y) (by omega)
  omega
theorem mz_and32' {X Y : Int32} (h : 0 ≤ X.toInt) : 0 ≤ (X &&& Y).toInt ∧ (X &&& Y).toInt ≤ X.toInt := by
  obtain ⟨h1, h2⟩ := mz_un_p h
  have h3 : mz_un (X &&& Y) ≤ mz_un X := by rw [mz_and_un]; exact Nat.and_le_left
  have h4 := mz_un_s (x := X &&& Y) (by omega)
  omega
theorem mz_or32 {X Y : Int32} {k : Nat} {a : Int} (hX : X.toInt = (2 ^ k : Nat) * a) (h0 : 0 ≤ X.toInt) (h1 : 0 ≤ Y.toInt) (h2 : Y.toInt < (2 ^ k : Nat)) : (X ||| Y).toInt = X.toInt + Y.toInt := by
  obtain ⟨p1, p2⟩ := mz_un_p h0
  obtain ⟨q1, q2⟩ := mz_un_p h1
  have hp : 0 < 2 ^ k := Nat.two_pow_pos k
  have ha : 0 ≤ a := by
    rcases Int.lt_or_le a 0 with hn | hn
    · exfalso
      have : ((2 ^ k : Nat) : Int) * a ≤ ((2 ^ k : Nat) : Int) * (-1) := Int.mul_le_mul_of_nonneg_left (by omega) (by omega)
      omega
    · exact hn
  obtain ⟨b, rfl⟩ := Int.eq_ofNat_of_zero_le ha
  have e1 : mz_un X = 2 ^ k * b := by
    have : (mz_un X : Int) = ((2 ^ k * b : Nat) : Int) := by rw [← p1, hX]; simp
    exact Int.ofNat.inj this
  have e2 : mz_un (X ||| Y) = mz_un X + mz_un Y := by
    rw [mz_or_un, e1, Nat.two_pow_add_eq_or_of_lt (by omega : mz_un Y < 2 ^ k)]
  have e3 : mz_un (X ||| Y) < 2 ^ 31 := by rw [mz_or_un]; exact Nat.or_lt_two_pow p2 q2
  have e4 := mz_un_s (x := X ||| Y) e3
  omega
theorem mz_orb {X Y : Int32} {k : Nat} (hk : k ≤ 31) (h0 : 0 ≤ X.toInt) (h1 : X.toInt < (2 ^ k : Nat)) (h2 : 0 ≤ Y.toInt) (h3 : Y.toInt < (2 ^ k : Nat)) : 0 ≤ (X ||| Y).toInt ∧ (X ||| Y).toInt < (2 ^ k : Nat) := by
  obtain ⟨p1, p2⟩ := mz_un_p h0
  obtain ⟨q1, q2⟩ := mz_un_p h2
  have e3 : mz_un (X ||| Y) < 2 ^ k := by rw [mz_or_un]; exact Nat.or_lt_two_pow (by omega) (by omega)
  have e5 : 2 ^ k ≤ 2 ^ 31 := Nat.pow_le_pow_right (by decide) hk
  have e4 := mz_un_s (x := X ||| Y) (Nat.lt_of_lt_of_le e3 e5)
  omega
theorem mz_xorb {X Y : Int32} {k : Nat} (hk : k ≤ 31) (h0 : 0 ≤ X.toInt) (h1 : X.toInt < (2 ^ k : Nat)) (h2 : 0 ≤ Y.toInt) (h3 : Y.toInt < (2 ^ k : Nat)) : 0 ≤ (X ^^^ Y).toInt ∧ (X ^^^ Y).toInt < (2 ^ k : Nat) := by
  obtain ⟨p1, p2⟩ := mz_un_p h0
  obtain ⟨q1, q2⟩ := mz_un_p h2
  have e3 : mz_un (X ^^^ Y) < 2 ^ k := by rw [mz_xor_un]; exact Nat.xor_lt_two_pow (by omega) (by omega)
  have e5 : 2 ^ k ≤ 2 ^ 31 := Nat.pow_le_pow_right (by decide) hk
  have e4 := mz_un_s (x := X ^^^ Y) (Nat.lt_of_lt_of_le e3 e5)
  omega
theorem mz_k32 {Y : Int32} {k : Nat} (hk : k < 32) (h : Y.toInt = k) : Y = Int32.ofNat k := by
  apply Int32.toInt_inj.mp
  rw [h, Int32.toInt_ofNat_of_lt (by omega)]
theorem mz_shl32 {X Y : Int32} {k : Nat} (hk : k < 32) (h : Y.toInt = k) (hr : -2147483648 ≤ (2 ^ k : Nat) * X.toInt ∧ (2 ^ k : Nat) * X.toInt ≤ 2147483647) : (X <<< (Y &&& 31)).toInt = (2 ^ k : Nat) * X.toInt := by
  rw [mz_k32 hk h]
  have e1 : ∀ k : Fin 32, ((Int32.ofNat k.val &&& 31).toBitVec.smod 32#32).toNat = k.val := by decide
  have e2 : mz_un (X <<< (Int32.ofNat k &&& 31)) = (mz_un X * 2 ^ k) % 4294967296 := by
    show (X.toBitVec <<< ((Int32.ofNat k &&& 31).toBitVec.smod 32#32)).toNat = _
    rw [BitVec.shiftLeft_eq', e1 ⟨k, hk⟩, BitVec.toNat_shiftLeft, Nat.shiftLeft_eq]
    rfl
  have h1 := mz_un_ti (x := X)
  have h2 := mz_un_ti (x := X <<< (Int32.ofNat k &&& 31))
  rw [e2] at h2
  have h3 := Nat.div_add_mod (mz_un X * 2 ^ k) 4294967296
  have h4 : ((mz_un X * 2 ^ k : Nat) : Int) = (2 ^ k : Nat) * (mz_un X : Int) := by rw [Nat.mul_comm]; simp
  have h5 := Nat.mod_lt (mz_un X * 2 ^ k) (by decide : 4294967296 > 0)
  split at h1
  · rw [← h1] at h4
    split at h2 <;> omega
  · have h6 : (2 ^ k : Nat) * (mz_un X : Int) = (2 ^ k : Nat) * X.toInt + (2 ^ k : Nat) * 4294967296 := by rw [← Int.mul_add]; congr 1; omega
    rw [h6] at h4
    split at h2 <;> omega
theorem mz_shr32 {X Y : Int32} {k : Nat} (hk : k < 32) (h : Y.toInt = k) : (X >>> (Y &&& 31)).toInt = X.toInt / (2 ^ k : Nat) := by
  rw [mz_k32 hk h]
  have e1 : ∀ k : Fin 32, ((Int32.ofNat k.val &&& 31).toBitVec.smod 32#32).toNat = k.val := by decide
  show (X.toBitVec.sshiftRight' ((Int32.ofNat k &&& 31).toBitVec.smod 32#32)).toInt = _
  rw [BitVec.sshiftRight_eq', e1 ⟨k, hk⟩, BitVec.toInt_sshiftRight, Int.shiftRight_eq_div_pow]
  rfl
theorem mz_ush_un {X Y : Int32} {k : Nat} (hk : k < 32) (h : Y.toInt = k) : mz_un (X.toUInt32 >>> (Y.toUInt32 &&& Int32.toUInt32 31)).toInt32 = mz_un X / 2 ^ k := by
  rw [mz_k32 hk h]
  have e1 : ∀ k : Fin 32, (((Int32.ofNat k.val).toBitVec &&& (Int32.toBitVec 31)) % 32#32).toNat = k.val := by decide
  show (X.toBitVec >>> (((Int32.ofNat k).toBitVec &&& (Int32.toBitVec 31)) % 32#32)).toNat = _
  rw [BitVec.ushiftRight_eq', e1 ⟨k, hk⟩, BitVec.toNat_ushiftRight, Nat.shiftRight_eq_div_pow]
  rfl
theorem mz_div32 {X Y : Int32} {c : Int} (hc : 0 < c) (h : Y.toInt = c) (h0 : 0 ≤ X.toInt) : (X / Y).toInt = X.toInt / c := by
  rw [Int32.toInt_div, h, Int.tdiv_eq_ediv_of_nonneg h0]
  apply mz_bm
  have h1 := Int.ediv_nonneg h0 (Int.le_of_lt hc)
  have h2 := Int.ediv_le_self c h0
  have h3 := mz_i32 X
  omega
theorem mz_rem32 {X Y : Int32} {c : Int} (hc : 0 < c) (h : Y.toInt = c) (h0 : 0 ≤ X.toInt) : (X - X / Y * Y).toInt = X.toInt - X.toInt / c * c := by
  have h3 := mz_i32 X
  have h1 := mz_div32 hc h h0
  have h2 := Int.mul_ediv_add_emod X.toInt c
  have h4 := Int.emod_nonneg X.toInt (Int.ne_of_gt hc)
  have h5 := Int.ediv_nonneg h0 (Int.le_of_lt hc)
  have h6 : 0 ≤ X.toInt / c * c := Int.mul_nonneg h5 (Int.le_of_lt hc)
  rw [Int.mul_comm] at h2
  have h7 : (X / Y * Y).toInt = X.toInt / c * c := by
    have := mz_mul32 (X := X / Y) (Y := Y) (by rw [h1, h]; omega)
    rw [this, h1, h]
  rw [mz_sub32 (by rw [h7]; omega), h7]
