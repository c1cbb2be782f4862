/-! Names: how many bytes they have, on both sides. -/
def mq_un (x : Int32) : Nat := x.toBitVec.toNat
theorem mq_un_lt {x : Int32} : mq_un x < 4294967296 := x.toBitVec.isLt
theorem mq_un0 {x : Int32} : x = 0 ↔ mq_un x = 0 := by
  constructor
  · intro h; rw [h]; rfl
  · intro h
    apply Int32.toBitVec_inj.mp
    apply BitVec.eq_of_toNat_eq
    exact h
theorem mq_un_ti {x : Int32} : x.toInt = if 2 * mq_un x < 4294967296 then (mq_un x : Int) else (mq_un x : Int) - 4294967296 := by
  show x.toBitVec.toInt = _
  rw [BitVec.toInt_eq_toNat_cond]
  rfl
theorem mq_un_le {x : Int32} : 0 ≤ x ↔ mq_un x < 2147483648 := by
  rw [Int32.le_iff_toInt_le, mq_un_ti (x := x)]
  have h0 : (0 : Int32).toInt = 0 := rfl
  rw [h0]
  have := mq_un_lt (x := x)
  split <;> omega
theorem mq_un_and {x : Int32} : mq_un (x &&& 255) = mq_un x % 256 := by
  show (x.toBitVec &&& (255 : Int32).toBitVec).toNat = _
  rw [BitVec.toNat_and]
  exact Nat.and_two_pow_sub_one_eq_mod _ 8
theorem mq_and_ti {x : Int32} : (x &&& 255).toInt = ((mq_un x % 256 : Nat) : Int) := by
  rw [mq_un_ti, mq_un_and, if_pos (by omega)]
def mq_us (x : Int32) : Int32 := (x.toUInt32 >>> (Int32.toUInt32 8 &&& Int32.toUInt32 31)).toInt32
theorem mq_us_un {x : Int32} : mq_un (mq_us x) = mq_un x / 256 := by
  show (x.toBitVec >>> ((8#32 &&& 31#32) % 32#32)).toNat = _
  rw [show (8#32 &&& 31#32) % 32#32 = 8#32 from rfl]
  rw [BitVec.ushiftRight_eq', BitVec.toNat_ushiftRight, Nat.shiftRight_eq_div_pow]
  rfl
theorem mq_ss_us {x : Int32} (h : mq_un x < 2147483648) : x >>> ((8 : Int32) &&& 31) = mq_us x := by
  apply Int32.toBitVec_inj.mp
  show x.toBitVec.sshiftRight' ((8#32 &&& 31#32).smod 32#32) = x.toBitVec >>> ((8#32 &&& 31#32) % 32#32)
  rw [show (8#32 &&& 31#32) % 32#32 = 8#32 from rfl, show (8#32 &&& 31#32).smod 32#32 = 8#32 from rfl]
  show x.toBitVec.sshiftRight 8 = x.toBitVec >>> (8#32)
  have hm : x.toBitVec.msb = false := by
    rw [BitVec.msb_eq_decide]
    exact decide_eq_false (by have h9 : x.toBitVec.toNat < 2147483648 := h; show ¬ 2147483648 ≤ x.toBitVec.toNat; omega)
  rw [BitVec.sshiftRight_eq_of_msb_false hm]
  rfl
