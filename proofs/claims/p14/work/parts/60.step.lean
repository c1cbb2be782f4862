/-! Rows for walking by simp; printed by gen_y.py. -/
theorem mq_pe {c : mq_C} {i : Nat} (h : c.1 = i) : c = (i, c.2) := by rw [← h]
theorem mq_gd9 {l : List Value} {j : Nat} (h : j < l.length) : l[j]? = some (l.getD j .null) := by rw [List.getD_eq_getElem?_getD, List.getElem?_eq_getElem h]; rfl
theorem mq_y_get {P : List mq_T} {d k pc n : Nat} {L : mq_L} {st : List Value} {M : Nat → mq_C} {z u : Nat} {Q : (Option Value ⊕ Nat) → mq_S → Prop} {ci j : Nat} {ns : List Nat} {a : Nat} (h : (M a).1 = ci) (hv : j < (M a).2.length) : mq_X P d k pc (52, n :: ci :: j :: ns, []) L (.ref a :: st) (M, z, u) Q = mq_R P d k n L ((M a).2.getD j .null :: st) (M, z, u) Q := mq_x_get (mq_pe h) (mq_gd9 hv)
theorem mq_y_put {P : List mq_T} {d k pc n : Nat} {L : mq_L} {st : List Value} {M : Nat → mq_C} {z u : Nat} {Q : (Option Value ⊕ Nat) → mq_S → Prop} {ci j t : Nat} {ns : List Nat} {a : Nat} {v : Value} (h : (M a).1 = ci) (hl : j < (M a).2.length) (hf : mq_fit t v = true) : mq_X P d k pc (53, n :: ci :: j :: t :: ns, []) L (v :: .ref a :: st) (M, z, u) Q = mq_R P d k n L st (va_up M a (ci, (M a).2.set j v), z, u) Q := mq_x_put (mq_pe h) hl hf
theorem mq_y_ald {P : List mq_T} {d k pc n : Nat} {L : mq_L} {st : List Value} {M : Nat → mq_C} {z u : Nat} {Q : (Option Value ⊕ Nat) → mq_S → Prop} {a kind : Nat} {i : Int32} (h : (M a).1 = kind) (h0 : ¬ i < 0) (hl : i.toNatClampNeg < (M a).2.length) (hf : mq_fit (if kind = 66 then 2 else if kind < 70 then 0 else 3) ((M a).2.getD i.toNatClampNeg .null) = true) : mq_X P d k pc (58, [n, kind], []) L (.int i :: .ref a :: st) (M, z, u) Q = mq_R P d k n L ((M a).2.getD i.toNatClampNeg .null :: st) (M, z, u) Q := mq_x_ald (mq_pe h) h0 (mq_gd9 hl) hf
theorem mq_y_aldo {P : List mq_T} {d k pc n : Nat} {L : mq_L} {st : List Value} {M : Nat → mq_C} {z u : Nat} {Q : (Option Value ⊕ Nat) → mq_S → Prop} {a : Nat} {i : Int32} (h : (M a).1 = 60) (h0 : ¬ i < 0) (hl : i.toNatClampNeg < (M a).2.length) (hf : mq_fit 0 ((M a).2.getD i.toNatClampNeg .null) = true) : mq_X P d k pc (58, [n, 64], []) L (.int i :: .ref a :: st) (M, z, u) Q = mq_R P d k n L ((M a).2.getD i.toNatClampNeg .null :: st) (M, z, u) Q := mq_x_aldo (mq_pe h) h0 (mq_gd9 hl) hf
theorem mq_y_ast {P : List mq_T} {d k pc n : Nat} {L : mq_L} {st : List Value} {M : Nat → mq_C} {z u : Nat} {Q : (Option Value ⊕ Nat) → mq_S → Prop} {a kind : Nat} {i : Int32} {v : Value} (h : (M a).1 = kind) (h0 : ¬ i < 0) (hl : i.toNatClampNeg < (M a).2.length) (hf : mq_fit (mq_ak kind) v = true) (hk : kind < 70) : mq_X P d k pc (59, [n, kind], []) L (v :: .int i :: .ref a :: st) (M, z, u) Q = mq_R P d k n L st (va_up M a (kind, (M a).2.set i.toNatClampNeg v), z, u) Q := mq_x_ast (mq_pe h) h0 hl hf (Or.inl hk)
theorem mq_y_alen {P : List mq_T} {d k pc n : Nat} {L : mq_L} {st : List Value} {M : Nat → mq_C} {z u : Nat} {Q : (Option Value ⊕ Nat) → mq_S → Prop} {a : Nat} (h : mq_isarr (M a).1 = true) : mq_X P d k pc (57, [n], []) L (.ref a :: st) (M, z, u) Q = mq_R P d k n L (.int (Int32.ofNat (M a).2.length) :: st) (M, z, u) Q := mq_x_alen (mq_pe rfl) h
theorem mq_y_s0 {P : List mq_T} {d k pc n j mx : Nat} {ns : List Nat} {L : mq_L} {r : List Value} {S : mq_S} {Q : (Option Value ⊕ Nat) → mq_S → Prop} (hw : mq_wt r ≤ 8) (hm : (mq_sp []).length ≤ mx) : mq_X P d k pc (60, n :: j :: 0 :: mx :: ns, []) L (r) S Q = mq_call P d k pc j [] n L r S Q := mq_x_static (st := r) (c := 0) (by simp) hw hm
theorem mq_y_v0 {P : List mq_T} {d k pc n j ci mx a : Nat} {ns : List Nat} {L : mq_L} {r : List Value} {M : Nat → mq_C} {z u : Nat} {Q : (Option Value ⊕ Nat) → mq_S → Prop} (h : (M a).1 = ci) (hw : mq_wt r ≤ 8) (hm : (mq_sp [.ref a]).length ≤ mx) : mq_X P d k pc (61, n :: j :: 0 :: ci :: mx :: ns, []) L (.ref a :: r) (M, z, u) Q = mq_call P d k pc j [.ref a] n L r (M, z, u) Q := mq_x_virtual (st := .ref a :: r) (c := 0) (r := r) rfl (mq_pe h) hw hm
theorem mq_y_s1 {P : List mq_T} {d k pc n j mx : Nat} {ns : List Nat} {L : mq_L} {r : List Value} {S : mq_S} {Q : (Option Value ⊕ Nat) → mq_S → Prop} {v0 : Value} (hw : mq_wt r ≤ 8) (hm : (mq_sp [v0]).length ≤ mx) : mq_X P d k pc (60, n :: j :: 1 :: mx :: ns, []) L (v0 :: r) S Q = mq_call P d k pc j [v0] n L r S Q := mq_x_static (st := v0 :: r) (c := 1) (by simp) hw hm
theorem mq_y_v1 {P : List mq_T} {d k pc n j ci mx a : Nat} {ns : List Nat} {L : mq_L} {r : List Value} {M : Nat → mq_C} {z u : Nat} {Q : (Option Value ⊕ Nat) → mq_S → Prop} {v0 : Value} (h : (M a).1 = ci) (hw : mq_wt r ≤ 8) (hm : (mq_sp [.ref a, v0]).length ≤ mx) : mq_X P d k pc (61, n :: j :: 1 :: ci :: mx :: ns, []) L (v0 :: .ref a :: r) (M, z, u) Q = mq_call P d k pc j [.ref a, v0] n L r (M, z, u) Q := mq_x_virtual (st := v0 :: .ref a :: r) (c := 1) (r := r) rfl (mq_pe h) hw hm
theorem mq_y_s2 {P : List mq_T} {d k pc n j mx : Nat} {ns : List Nat} {L : mq_L} {r : List Value} {S : mq_S} {Q : (Option Value ⊕ Nat) → mq_S → Prop} {v0 v1 : Value} (hw : mq_wt r ≤ 8) (hm : (mq_sp [v0, v1]).length ≤ mx) : mq_X P d k pc (60, n :: j :: 2 :: mx :: ns, []) L (v1 :: v0 :: r) S Q = mq_call P d k pc j [v0, v1] n L r S Q := mq_x_static (st := v1 :: v0 :: r) (c := 2) (by simp) hw hm
theorem mq_y_v2 {P : List mq_T} {d k pc n j ci mx a : Nat} {ns : List Nat} {L : mq_L} {r : List Value} {M : Nat → mq_C} {z u : Nat} {Q : (Option Value ⊕ Nat) → mq_S → Prop} {v0 v1 : Value} (h : (M a).1 = ci) (hw : mq_wt r ≤ 8) (hm : (mq_sp [.ref a, v0, v1]).length ≤ mx) : mq_X P d k pc (61, n :: j :: 2 :: ci :: mx :: ns, []) L (v1 :: v0 :: .ref a :: r) (M, z, u) Q = mq_call P d k pc j [.ref a, v0, v1] n L r (M, z, u) Q := mq_x_virtual (st := v1 :: v0 :: .ref a :: r) (c := 2) (r := r) rfl (mq_pe h) hw hm
theorem mq_y_s3 {P : List mq_T} {d k pc n j mx : Nat} {ns : List Nat} {L : mq_L} {r : List Value} {S : mq_S} {Q : (Option Value ⊕ Nat) → mq_S → Prop} {v0 v1 v2 : Value} (hw : mq_wt r ≤ 8) (hm : (mq_sp [v0, v1, v2]).length ≤ mx) : mq_X P d k pc (60, n :: j :: 3 :: mx :: ns, []) L (v2 :: v1 :: v0 :: r) S Q = mq_call P d k pc j [v0, v1, v2] n L r S Q := mq_x_static (st := v2 :: v1 :: v0 :: r) (c := 3) (by simp) hw hm
theorem mq_y_v3 {P : List mq_T} {d k pc n j ci mx a : Nat} {ns : List Nat} {L : mq_L} {r : List Value} {M : Nat → mq_C} {z u : Nat} {Q : (Option Value ⊕ Nat) → mq_S → Prop} {v0 v1 v2 : Value} (h : (M a).1 = ci) (hw : mq_wt r ≤ 8) (hm : (mq_sp [.ref a, v0, v1, v2]).length ≤ mx) : mq_X P d k pc (61, n :: j :: 3 :: ci :: mx :: ns, []) L (v2 :: v1 :: v0 :: .ref a :: r) (M, z, u) Q = mq_call P d k pc j [.ref a, v0, v1, v2] n L r (M, z, u) Q := mq_x_virtual (st := v2 :: v1 :: v0 :: .ref a :: r) (c := 3) (r := r) rfl (mq_pe h) hw hm
theorem mq_y_s4 {P : List mq_T} {d k pc n j mx : Nat} {ns : List Nat} {L : mq_L} {r : List Value} {S : mq_S} {Q : (Option Value ⊕ Nat) → mq_S → Prop} {v0 v1 v2 v3 : Value} (hw : mq_wt r ≤ 8) (hm : (mq_sp [v0, v1, v2, v3]).length ≤ mx) : mq_X P d k pc (60, n :: j :: 4 :: mx :: ns, []) L (v3 :: v2 :: v1 :: v0 :: r) S Q = mq_call P d k pc j [v0, v1, v2, v3] n L r S Q := mq_x_static (st := v3 :: v2 :: v1 :: v0 :: r) (c := 4) (by simp) hw hm
theorem mq_y_v4 {P : List mq_T} {d k pc n j ci mx a : Nat} {ns : List Nat} {L : mq_L} {r : List Value} {M : Nat → mq_C} {z u : Nat} {Q : (Option Value ⊕ Nat) → mq_S → Prop} {v0 v1 v2 v3 : Value} (h : (M a).1 = ci) (hw : mq_wt r ≤ 8) (hm : (mq_sp [.ref a, v0, v1, v2, v3]).length ≤ mx) : mq_X P d k pc (61, n :: j :: 4 :: ci :: mx :: ns, []) L (v3 :: v2 :: v1 :: v0 :: .ref a :: r) (M, z, u) Q = mq_call P d k pc j [.ref a, v0, v1, v2, v3] n L r (M, z, u) Q := mq_x_virtual (st := v3 :: v2 :: v1 :: v0 :: .ref a :: r) (c := 4) (r := r) rfl (mq_pe h) hw hm
theorem mq_y_s5 {P : List mq_T} {d k pc n j mx : Nat} {ns : List Nat} {L : mq_L} {r : List Value} {S : mq_S} {Q : (Option Value ⊕ Nat) → mq_S → Prop} {v0 v1 v2 v3 v4 : Value} (hw : mq_wt r ≤ 8) (hm : (mq_sp [v0, v1, v2, v3, v4]).length ≤ mx) : mq_X P d k pc (60, n :: j :: 5 :: mx :: ns, []) L (v4 :: v3 :: v2 :: v1 :: v0 :: r) S Q = mq_call P d k pc j [v0, v1, v2, v3, v4] n L r S Q := mq_x_static (st := v4 :: v3 :: v2 :: v1 :: v0 :: r) (c := 5) (by simp) hw hm
theorem mq_y_v5 {P : List mq_T} {d k pc n j ci mx a : Nat} {ns : List Nat} {L : mq_L} {r : List Value} {M : Nat → mq_C} {z u : Nat} {Q : (Option Value ⊕ Nat) → mq_S → Prop} {v0 v1 v2 v3 v4 : Value} (h : (M a).1 = ci) (hw : mq_wt r ≤ 8) (hm : (mq_sp [.ref a, v0, v1, v2, v3, v4]).length ≤ mx) : mq_X P d k pc (61, n :: j :: 5 :: ci :: mx :: ns, []) L (v4 :: v3 :: v2 :: v1 :: v0 :: .ref a :: r) (M, z, u) Q = mq_call P d k pc j [.ref a, v0, v1, v2, v3, v4] n L r (M, z, u) Q := mq_x_virtual (st := v4 :: v3 :: v2 :: v1 :: v0 :: .ref a :: r) (c := 5) (r := r) rfl (mq_pe h) hw hm
theorem mq_y_s6 {P : List mq_T} {d k pc n j mx : Nat} {ns : List Nat} {L : mq_L} {r : List Value} {S : mq_S} {Q : (Option Value ⊕ Nat) → mq_S → Prop} {v0 v1 v2 v3 v4 v5 : Value} (hw : mq_wt r ≤ 8) (hm : (mq_sp [v0, v1, v2, v3, v4, v5]).length ≤ mx) : mq_X P d k pc (60, n :: j :: 6 :: mx :: ns, []) L (v5 :: v4 :: v3 :: v2 :: v1 :: v0 :: r) S Q = mq_call P d k pc j [v0, v1, v2, v3, v4, v5] n L r S Q := mq_x_static (st := v5 :: v4 :: v3 :: v2 :: v1 :: v0 :: r) (c := 6) (by simp) hw hm
theorem mq_y_v6 {P : List mq_T} {d k pc n j ci mx a : Nat} {ns : List Nat} {L : mq_L} {r : List Value} {M : Nat → mq_C} {z u : Nat} {Q : (Option Value ⊕ Nat) → mq_S → Prop} {v0 v1 v2 v3 v4 v5 : Value} (h : (M a).1 = ci) (hw : mq_wt r ≤ 8) (hm : (mq_sp [.ref a, v0, v1, v2, v3, v4, v5]).length ≤ mx) : mq_X P d k pc (61, n :: j :: 6 :: ci :: mx :: ns, []) L (v5 :: v4 :: v3 :: v2 :: v1 :: v0 :: .ref a :: r) (M, z, u) Q = mq_call P d k pc j [.ref a, v0, v1, v2, v3, v4, v5] n L r (M, z, u) Q := mq_x_virtual (st := v5 :: v4 :: v3 :: v2 :: v1 :: v0 :: .ref a :: r) (c := 6) (r := r) rfl (mq_pe h) hw hm
theorem mq_y_throw {P : List mq_T} {d k pc e : Nat} {ns : List Nat} {L : mq_L} {st : List Value} {M : Nat → mq_C} {z u : Nat} {Q : (Option Value ⊕ Nat) → mq_S → Prop} (h : mq_wt st ≤ 8) : mq_X P d k pc (68, e :: ns, []) L st (M, z, u) Q = Q (.inr z) (va_up M z (e, []), z + 1, u + 6) := by
  show mq_Y P d k pc (if mq_wt st ≤ 8 then _ else none) Q = _
  rw [if_pos h]
  rfl
def mq_cth (P : List mq_T) (d k : Nat) (L : mq_L) (a : Nat) (S : mq_S) (Q : (Option Value ⊕ Nat) → mq_S → Prop) (o : Option Nat) : Prop := match o with
  | some h => mq_R P d k h L [.ref a] S Q
  | none => mq_nh P k = true ∧ Q (.inr a) S
theorem mq_y_afterx {P : List mq_T} {d k pc n : Nat} {st : List Value} {L : mq_L} {M : Nat → mq_C} {z u : Nat} {Q : (Option Value ⊕ Nat) → mq_S → Prop} {a : Nat} : mq_after P d k pc n L st Q (.inr a) (M, z, u) = mq_cth P d k L a (M, z, u) Q (mq_hd P k pc (M a).1) := by
  show (match mq_hd P k pc (M a).1 with
    | some h => mq_R P d k h L [.ref a] (M, z, u) Q
    | none => mq_nh P k = true ∧ Q (.inr a) (M, z, u)) = _
  unfold mq_cth
  rfl
theorem mq_y_cths {P : List mq_T} {d k a h : Nat} {L : mq_L} {S : mq_S} {Q : (Option Value ⊕ Nat) → mq_S → Prop} : mq_cth P d k L a S Q (some h) = mq_R P d k h L [.ref a] S Q := rfl
theorem mq_y_call {P : List mq_T} {d k pc j n : Nat} {as st : List Value} {L : mq_L} {S : mq_S} {Q : (Option Value ⊕ Nat) → mq_S → Prop} : mq_call P (d + 1) k pc j as n L st S Q = mq_R P d j 0 (mq_en P j as) [] S (mq_after P (d + 1) k pc n L st Q) := rfl
theorem mq_y_after {P : List mq_T} {d k pc n : Nat} {st : List Value} {L : mq_L} {S : mq_S} {Q : (Option Value ⊕ Nat) → mq_S → Prop} {v : Option Value} : mq_after P d k pc n L st Q (.inl v) S = mq_R P d k n L (v.toList ++ st) S Q := rfl
theorem mq_w0n : (mq_wt [] ≤ 0) = True := eq_true (by decide)
theorem mq_w1n : (mq_wt [] ≤ 1) = True := eq_true (by decide)
theorem mq_w1i {x : Int32} {r : List Value} : (mq_wt (.int x :: r) ≤ 1) = (mq_wt r ≤ 0) := by
  have e : mq_wt (.int x :: r) = 1 + mq_wt r := rfl
  rw [e]
  apply propext
  omega
theorem mq_w1r {x : Nat} {r : List Value} : (mq_wt (.ref x :: r) ≤ 1) = (mq_wt r ≤ 0) := by
  have e : mq_wt (.ref x :: r) = 1 + mq_wt r := rfl
  rw [e]
  apply propext
  omega
theorem mq_w2n : (mq_wt [] ≤ 2) = True := eq_true (by decide)
theorem mq_w2i {x : Int32} {r : List Value} : (mq_wt (.int x :: r) ≤ 2) = (mq_wt r ≤ 1) := by
  have e : mq_wt (.int x :: r) = 1 + mq_wt r := rfl
  rw [e]
  apply propext
  omega
theorem mq_w2r {x : Nat} {r : List Value} : (mq_wt (.ref x :: r) ≤ 2) = (mq_wt r ≤ 1) := by
  have e : mq_wt (.ref x :: r) = 1 + mq_wt r := rfl
  rw [e]
  apply propext
  omega
theorem mq_w2l {x : Int64} {r : List Value} : (mq_wt (.long x :: r) ≤ 2) = (mq_wt r ≤ 0) := by
  have e : mq_wt (.long x :: r) = 2 + mq_wt r := rfl
  rw [e]
  apply propext
  omega
theorem mq_w3n : (mq_wt [] ≤ 3) = True := eq_true (by decide)
theorem mq_w3i {x : Int32} {r : List Value} : (mq_wt (.int x :: r) ≤ 3) = (mq_wt r ≤ 2) := by
  have e : mq_wt (.int x :: r) = 1 + mq_wt r := rfl
  rw [e]
  apply propext
  omega
theorem mq_w3r {x : Nat} {r : List Value} : (mq_wt (.ref x :: r) ≤ 3) = (mq_wt r ≤ 2) := by
  have e : mq_wt (.ref x :: r) = 1 + mq_wt r := rfl
  rw [e]
  apply propext
  omega
theorem mq_w3l {x : Int64} {r : List Value} : (mq_wt (.long x :: r) ≤ 3) = (mq_wt r ≤ 1) := by
  have e : mq_wt (.long x :: r) = 2 + mq_wt r := rfl
  rw [e]
  apply propext
  omega
theorem mq_w4n : (mq_wt [] ≤ 4) = True := eq_true (by decide)
theorem mq_w4i {x : Int32} {r : List Value} : (mq_wt (.int x :: r) ≤ 4) = (mq_wt r ≤ 3) := by
  have e : mq_wt (.int x :: r) = 1 + mq_wt r := rfl
  rw [e]
  apply propext
  omega
theorem mq_w4r {x : Nat} {r : List Value} : (mq_wt (.ref x :: r) ≤ 4) = (mq_wt r ≤ 3) := by
  have e : mq_wt (.ref x :: r) = 1 + mq_wt r := rfl
  rw [e]
  apply propext
  omega
theorem mq_w4l {x : Int64} {r : List Value} : (mq_wt (.long x :: r) ≤ 4) = (mq_wt r ≤ 2) := by
  have e : mq_wt (.long x :: r) = 2 + mq_wt r := rfl
  rw [e]
  apply propext
  omega
theorem mq_w5n : (mq_wt [] ≤ 5) = True := eq_true (by decide)
theorem mq_w5i {x : Int32} {r : List Value} : (mq_wt (.int x :: r) ≤ 5) = (mq_wt r ≤ 4) := by
  have e : mq_wt (.int x :: r) = 1 + mq_wt r := rfl
  rw [e]
  apply propext
  omega
theorem mq_w5r {x : Nat} {r : List Value} : (mq_wt (.ref x :: r) ≤ 5) = (mq_wt r ≤ 4) := by
  have e : mq_wt (.ref x :: r) = 1 + mq_wt r := rfl
  rw [e]
  apply propext
  omega
theorem mq_w5l {x : Int64} {r : List Value} : (mq_wt (.long x :: r) ≤ 5) = (mq_wt r ≤ 3) := by
  have e : mq_wt (.long x :: r) = 2 + mq_wt r := rfl
  rw [e]
  apply propext
  omega
theorem mq_w6n : (mq_wt [] ≤ 6) = True := eq_true (by decide)
theorem mq_w6i {x : Int32} {r : List Value} : (mq_wt (.int x :: r) ≤ 6) = (mq_wt r ≤ 5) := by
  have e : mq_wt (.int x :: r) = 1 + mq_wt r := rfl
  rw [e]
  apply propext
  omega
theorem mq_w6r {x : Nat} {r : List Value} : (mq_wt (.ref x :: r) ≤ 6) = (mq_wt r ≤ 5) := by
  have e : mq_wt (.ref x :: r) = 1 + mq_wt r := rfl
  rw [e]
  apply propext
  omega
theorem mq_w6l {x : Int64} {r : List Value} : (mq_wt (.long x :: r) ≤ 6) = (mq_wt r ≤ 4) := by
  have e : mq_wt (.long x :: r) = 2 + mq_wt r := rfl
  rw [e]
  apply propext
  omega
theorem mq_w7n : (mq_wt [] ≤ 7) = True := eq_true (by decide)
theorem mq_w7i {x : Int32} {r : List Value} : (mq_wt (.int x :: r) ≤ 7) = (mq_wt r ≤ 6) := by
  have e : mq_wt (.int x :: r) = 1 + mq_wt r := rfl
  rw [e]
  apply propext
  omega
theorem mq_w7r {x : Nat} {r : List Value} : (mq_wt (.ref x :: r) ≤ 7) = (mq_wt r ≤ 6) := by
  have e : mq_wt (.ref x :: r) = 1 + mq_wt r := rfl
  rw [e]
  apply propext
  omega
theorem mq_w7l {x : Int64} {r : List Value} : (mq_wt (.long x :: r) ≤ 7) = (mq_wt r ≤ 5) := by
  have e : mq_wt (.long x :: r) = 2 + mq_wt r := rfl
  rw [e]
  apply propext
  omega
theorem mq_w8n : (mq_wt [] ≤ 8) = True := eq_true (by decide)
theorem mq_w8i {x : Int32} {r : List Value} : (mq_wt (.int x :: r) ≤ 8) = (mq_wt r ≤ 7) := by
  have e : mq_wt (.int x :: r) = 1 + mq_wt r := rfl
  rw [e]
  apply propext
  omega
theorem mq_w8r {x : Nat} {r : List Value} : (mq_wt (.ref x :: r) ≤ 8) = (mq_wt r ≤ 7) := by
  have e : mq_wt (.ref x :: r) = 1 + mq_wt r := rfl
  rw [e]
  apply propext
  omega
theorem mq_w8l {x : Int64} {r : List Value} : (mq_wt (.long x :: r) ≤ 8) = (mq_wt r ≤ 6) := by
  have e : mq_wt (.long x :: r) = 2 + mq_wt r := rfl
  rw [e]
  apply propext
  omega
theorem mq_sp_nil : mq_sp [] = [] := rfl
theorem mq_sp_i {x : Int32} {r : List Value} : mq_sp (.int x :: r) = some (.int x) :: mq_sp r := rfl
theorem mq_sp_r {x : Nat} {r : List Value} : mq_sp (.ref x :: r) = some (.ref x) :: mq_sp r := rfl
theorem mq_sp_l {x : Int64} {r : List Value} : mq_sp (.long x :: r) = some (.long x) :: none :: mq_sp r := rfl
theorem mq_up_s {M : Nat → mq_C} {a : Nat} {c : mq_C} : va_up M a c a = c := va_up_self _ _ _
theorem mq_up_n {M : Nat → mq_C} {a b : Nat} {c : mq_C} (h : b ≠ a) : va_up M a c b = M b := va_up_ne _ _ h
theorem mq_up_u {M : Nat → mq_C} {a : Nat} {c c' : mq_C} : va_up (va_up M a c) a c' = va_up M a c' := by
  funext b
  by_cases e : b = a
  · rw [e, va_up_self, va_up_self]
  · rw [va_up_ne _ _ e, va_up_ne _ _ e, va_up_ne _ _ e]
theorem mq_fiti {x : Int32} : (mq_fit 0 (.int x) = true) = True := eq_true rfl
theorem mq_fitr {x : Nat} : (mq_fit 3 (.ref x) = true) = True := eq_true rfl
theorem mq_fitl {x : Int64} : (mq_fit 2 (.long x) = true) = True := eq_true rfl
theorem mq_fitb0 : (mq_fit 1 (.int 0) = true) = True := eq_true rfl
theorem mq_fitb1 : (mq_fit 1 (.int 1) = true) = True := eq_true rfl
theorem mq_nln : (mq_nl none = true) = True := eq_true rfl
theorem mq_nli {x : Int32} : (mq_nl (some (.int x)) = true) = True := eq_true rfl
theorem mq_nlr {x : Nat} : (mq_nl (some (.ref x)) = true) = True := eq_true rfl
theorem mq_nlu : (mq_nl (some .null) = true) = True := eq_true rfl
theorem mq_ak64 : mq_ak 64 = 0 := by decide
theorem mq_ak65 : mq_ak 65 = 1 := by decide
theorem mq_ak66 : mq_ak 66 = 2 := by decide
theorem mq_ia64 : (mq_isarr 64 = true) = True := eq_true (by decide)
theorem mq_ia60 : (mq_isarr 60 = true) = True := eq_true (by decide)
theorem mq_ia65 : (mq_isarr 65 = true) = True := eq_true (by decide)
theorem mq_ia66 : (mq_isarr 66 = true) = True := eq_true (by decide)
theorem mq_fk64 : (if 64 = 66 then 2 else if 64 < 70 then 0 else 3) = 0 := by decide
theorem mq_fk65 : (if 65 = 66 then 2 else if 65 < 70 then 0 else 3) = 0 := by decide
theorem mq_fk66 : (if 66 = 66 then 2 else if 66 < 70 then 0 else 3) = 2 := by decide
theorem mq_fk71 : (if 71 = 66 then 2 else if 71 < 70 then 0 else 3) = 3 := by decide
theorem mq_fk72 : (if 72 = 66 then 2 else if 72 < 70 then 0 else 3) = 3 := by decide
theorem mq_fk75 : (if 75 = 66 then 2 else if 75 < 70 then 0 else 3) = 3 := by decide
theorem mq_ltc {a b : Int32} : (a < b) = ¬ (b ≤ a) := by
  apply propext
  simp only [Int32.lt_iff_toInt_lt, Int32.le_iff_toInt_le]
  omega
theorem mq_hd171 : mq_hd mq_PP 170 5 10 = some 13 := by decide +kernel
theorem mq_hd172 : mq_hd mq_PP 171 5 10 = some 13 := by decide +kernel
theorem mq_l64 : (64 < 70) = True := eq_true (by decide)
theorem mq_e0 {a0 : Nat} : mq_en mq_PP 0 [.ref a0] = [some (.ref a0), none] := rfl
theorem mq_e1 {a0 : Nat} {a1 : Int64} {a2 : Int32} : mq_en mq_PP 1 [.ref a0, .long a1, .int a2] = [some (.ref a0), some (.long a1), none, some (.int a2)] := rfl
theorem mq_e2 {a0 : Nat} {a1 : Int32} {a2 : Int32} : mq_en mq_PP 2 [.ref a0, .int a1, .int a2] = [some (.ref a0), some (.int a1), some (.int a2), none, none] := rfl
theorem mq_e3 {a0 : Nat} {a1 : Int32} : mq_en mq_PP 3 [.ref a0, .int a1] = [some (.ref a0), some (.int a1)] := rfl
theorem mq_e4 {a0 : Nat} {a1 : Int32} {a2 : Int32} {a3 : Int32} : mq_en mq_PP 4 [.ref a0, .int a1, .int a2, .int a3] = [some (.ref a0), some (.int a1), some (.int a2), some (.int a3)] := rfl
theorem mq_e5 {a0 : Nat} {a1 : Int32} {a2 : Int32} : mq_en mq_PP 5 [.ref a0, .int a1, .int a2] = [some (.ref a0), some (.int a1), some (.int a2)] := rfl
theorem mq_e6 {a0 : Nat} {a1 : Int32} : mq_en mq_PP 6 [.ref a0, .int a1] = [some (.ref a0), some (.int a1), none] := rfl
theorem mq_e7 {a0 : Nat} {a1 : Int32} {a2 : Int32} : mq_en mq_PP 7 [.ref a0, .int a1, .int a2] = [some (.ref a0), some (.int a1), some (.int a2)] := rfl
theorem mq_e8 {a0 : Nat} {a1 : Int32} : mq_en mq_PP 8 [.ref a0, .int a1] = [some (.ref a0), some (.int a1)] := rfl
theorem mq_e9 {a0 : Nat} {a1 : Int32} {a2 : Int32} : mq_en mq_PP 9 [.ref a0, .int a1, .int a2] = [some (.ref a0), some (.int a1), some (.int a2), none] := rfl
theorem mq_e10 {a0 : Nat} : mq_en mq_PP 10 [.ref a0] = [some (.ref a0)] := rfl
theorem mq_e11 {a0 : Nat} : mq_en mq_PP 11 [.ref a0] = [some (.ref a0)] := rfl
theorem mq_e12 {a0 : Nat} {a1 : Int32} {a2 : Int32} : mq_en mq_PP 12 [.ref a0, .int a1, .int a2] = [some (.ref a0), some (.int a1), some (.int a2)] := rfl
theorem mq_e13 {a0 : Nat} {a1 : Int32} {a2 : Int32} {a3 : Int32} : mq_en mq_PP 13 [.ref a0, .int a1, .int a2, .int a3] = [some (.ref a0), some (.int a1), some (.int a2), some (.int a3)] := rfl
theorem mq_e14 {a0 : Nat} {a1 : Int32} {a2 : Int32} : mq_en mq_PP 14 [.ref a0, .int a1, .int a2] = [some (.ref a0), some (.int a1), some (.int a2)] := rfl
theorem mq_e15 {a0 : Nat} {a1 : Int32} {a2 : Int32} : mq_en mq_PP 15 [.ref a0, .int a1, .int a2] = [some (.ref a0), some (.int a1), some (.int a2), none] := rfl
theorem mq_e16 {a0 : Nat} : mq_en mq_PP 16 [.ref a0] = [some (.ref a0), none, none] := rfl
theorem mq_e17 {a0 : Int32} : mq_en mq_PP 17 [.int a0] = [some (.int a0)] := rfl
theorem mq_e18 {a0 : Nat} {a1 : Int32} {a2 : Int32} : mq_en mq_PP 18 [.ref a0, .int a1, .int a2] = [some (.ref a0), some (.int a1), some (.int a2)] := rfl
theorem mq_e19 {a0 : Nat} {a1 : Int32} : mq_en mq_PP 19 [.ref a0, .int a1] = [some (.ref a0), some (.int a1)] := rfl
theorem mq_e20 {a0 : Int32} : mq_en mq_PP 20 [.int a0] = [some (.int a0)] := rfl
theorem mq_e21 {a0 : Int32} : mq_en mq_PP 21 [.int a0] = [some (.int a0)] := rfl
theorem mq_e22 {a0 : Int32} : mq_en mq_PP 22 [.int a0] = [some (.int a0), none, none, none] := rfl
theorem mq_e23 {a0 : Int32} : mq_en mq_PP 23 [.int a0] = [some (.int a0)] := rfl
theorem mq_e24 {a0 : Int32} {a1 : Int32} : mq_en mq_PP 24 [.int a0, .int a1] = [some (.int a0), some (.int a1)] := rfl
theorem mq_e25 {a0 : Nat} {a1 : Int32} {a2 : Int32} : mq_en mq_PP 25 [.ref a0, .int a1, .int a2] = [some (.ref a0), some (.int a1), some (.int a2)] := rfl
theorem mq_e26 {a0 : Int32} : mq_en mq_PP 26 [.int a0] = [some (.int a0)] := rfl
theorem mq_e27 {a0 : Nat} {a1 : Int32} : mq_en mq_PP 27 [.ref a0, .int a1] = [some (.ref a0), some (.int a1), none] := rfl
theorem mq_e28 {a0 : Nat} {a1 : Nat} : mq_en mq_PP 28 [.ref a0, .ref a1] = [some (.ref a0), some (.ref a1), none] := rfl
theorem mq_e29 {a0 : Nat} {a1 : Int32} {a2 : Int32} : mq_en mq_PP 29 [.ref a0, .int a1, .int a2] = [some (.ref a0), some (.int a1), some (.int a2), none, none] := rfl
theorem mq_e30 {a0 : Nat} {a1 : Int32} : mq_en mq_PP 30 [.ref a0, .int a1] = [some (.ref a0), some (.int a1), none] := rfl
theorem mq_e31 {a0 : Nat} {a1 : Int32} {a2 : Int32} : mq_en mq_PP 31 [.ref a0, .int a1, .int a2] = [some (.ref a0), some (.int a1), some (.int a2), none] := rfl
theorem mq_e32 {a0 : Nat} {a1 : Int32} {a2 : Int32} {a3 : Nat} : mq_en mq_PP 32 [.ref a0, .int a1, .int a2, .ref a3] = [some (.ref a0), some (.int a1), some (.int a2), some (.ref a3), none, none] := rfl
theorem mq_e33 {a0 : Nat} {a1 : Int32} {a2 : Int32} : mq_en mq_PP 33 [.ref a0, .int a1, .int a2] = [some (.ref a0), some (.int a1), some (.int a2), none, none] := rfl
theorem mq_e34 {a0 : Nat} {a1 : Nat} {a2 : Int32} {a3 : Nat} {a4 : Int32} : mq_en mq_PP 34 [.ref a0, .ref a1, .int a2, .ref a3, .int a4] = [some (.ref a0), some (.ref a1), some (.int a2), some (.ref a3), some (.int a4), none, none, none] := rfl
theorem mq_e35 {a0 : Nat} {a1 : Nat} {a2 : Int32} : mq_en mq_PP 35 [.ref a0, .ref a1, .int a2] = [some (.ref a0), some (.ref a1), some (.int a2), none, none] := rfl
theorem mq_e36 {a0 : Nat} : mq_en mq_PP 36 [.ref a0] = [some (.ref a0)] := rfl
theorem mq_e37 {a0 : Nat} {a1 : Int32} {a2 : Int32} {a3 : Int32} : mq_en mq_PP 37 [.ref a0, .int a1, .int a2, .int a3] = [some (.ref a0), some (.int a1), some (.int a2), some (.int a3), none, none] := rfl
theorem mq_e38 {a0 : Nat} {a1 : Int32} {a2 : Int32} {a3 : Int32} : mq_en mq_PP 38 [.ref a0, .int a1, .int a2, .int a3] = [some (.ref a0), some (.int a1), some (.int a2), some (.int a3), none, none, none, none, none, none] := rfl
theorem mq_e39 {a0 : Nat} {a1 : Nat} {a2 : Int32} {a3 : Int32} : mq_en mq_PP 39 [.ref a0, .ref a1, .int a2, .int a3] = [some (.ref a0), some (.ref a1), some (.int a2), some (.int a3), none] := rfl
theorem mq_e40 {a0 : Nat} {a1 : Int32} {a2 : Int32} : mq_en mq_PP 40 [.ref a0, .int a1, .int a2] = [some (.ref a0), some (.int a1), some (.int a2)] := rfl
theorem mq_e41 {a0 : Nat} {a1 : Int32} {a2 : Nat} {a3 : Int32} : mq_en mq_PP 41 [.ref a0, .int a1, .ref a2, .int a3] = [some (.ref a0), some (.int a1), some (.ref a2), some (.int a3), none, none, none] := rfl
theorem mq_e42 {a0 : Nat} {a1 : Int32} {a2 : Int32} {a3 : Int32} {a4 : Int32} : mq_en mq_PP 42 [.ref a0, .int a1, .int a2, .int a3, .int a4] = [some (.ref a0), some (.int a1), some (.int a2), some (.int a3), some (.int a4), none, none, none] := rfl
theorem mq_e43 {a0 : Nat} {a1 : Int32} {a2 : Nat} {a3 : Int32} : mq_en mq_PP 43 [.ref a0, .int a1, .ref a2, .int a3] = [some (.ref a0), some (.int a1), some (.ref a2), some (.int a3), none, none] := rfl
theorem mq_e44 {a0 : Nat} : mq_en mq_PP 44 [.ref a0] = [some (.ref a0), none, none] := rfl
theorem mq_e45 {a0 : Nat} {a1 : Int32} : mq_en mq_PP 45 [.ref a0, .int a1] = [some (.ref a0), some (.int a1)] := rfl
theorem mq_e46 {a0 : Nat} {a1 : Int32} {a2 : Int32} : mq_en mq_PP 46 [.ref a0, .int a1, .int a2] = [some (.ref a0), some (.int a1), some (.int a2), none, none, none] := rfl
theorem mq_e47 {a0 : Nat} : mq_en mq_PP 47 [.ref a0] = [some (.ref a0)] := rfl
theorem mq_e48 {a0 : Nat} {a1 : Nat} : mq_en mq_PP 48 [.ref a0, .ref a1] = [some (.ref a0), some (.ref a1), none] := rfl
theorem mq_e49 {a0 : Nat} {a1 : Int32} {a2 : Nat} : mq_en mq_PP 49 [.ref a0, .int a1, .ref a2] = [some (.ref a0), some (.int a1), some (.ref a2), none] := rfl
theorem mq_e50 {a0 : Nat} {a1 : Int32} : mq_en mq_PP 50 [.ref a0, .int a1] = [some (.ref a0), some (.int a1), none] := rfl
theorem mq_e51 {a0 : Nat} {a1 : Int32} : mq_en mq_PP 51 [.ref a0, .int a1] = [some (.ref a0), some (.int a1), none] := rfl
theorem mq_e52 {a0 : Nat} : mq_en mq_PP 52 [.ref a0] = [some (.ref a0), none, none, none, none] := rfl
theorem mq_e53 {a0 : Nat} {a1 : Int32} {a2 : Int32} {a3 : Int32} : mq_en mq_PP 53 [.ref a0, .int a1, .int a2, .int a3] = [some (.ref a0), some (.int a1), some (.int a2), some (.int a3), none, none, none, none] := rfl
theorem mq_e54 {a0 : Nat} {a1 : Int32} {a2 : Int32} : mq_en mq_PP 54 [.ref a0, .int a1, .int a2] = [some (.ref a0), some (.int a1), some (.int a2), none] := rfl
theorem mq_e55 {a0 : Nat} {a1 : Int32} : mq_en mq_PP 55 [.ref a0, .int a1] = [some (.ref a0), some (.int a1), none, none, none, none, none] := rfl
theorem mq_e56 {a0 : Nat} {a1 : Int32} {a2 : Int32} : mq_en mq_PP 56 [.ref a0, .int a1, .int a2] = [some (.ref a0), some (.int a1), some (.int a2), none, none] := rfl
theorem mq_e57 {a0 : Nat} : mq_en mq_PP 57 [.ref a0] = [some (.ref a0)] := rfl
theorem mq_e58 {a0 : Nat} {a1 : Nat} {a2 : Int32} {a3 : Int32} : mq_en mq_PP 58 [.ref a0, .ref a1, .int a2, .int a3] = [some (.ref a0), some (.ref a1), some (.int a2), some (.int a3)] := rfl
theorem mq_e59 {a0 : Nat} {a1 : Nat} {a2 : Int32} : mq_en mq_PP 59 [.ref a0, .ref a1, .int a2] = [some (.ref a0), some (.ref a1), some (.int a2), none, none] := rfl
theorem mq_e60 {a0 : Nat} : mq_en mq_PP 60 [.ref a0] = [some (.ref a0), none] := rfl
theorem mq_e61 {a0 : Nat} : mq_en mq_PP 61 [.ref a0] = [some (.ref a0)] := rfl
theorem mq_e62 {a0 : Nat} {a1 : Int32} : mq_en mq_PP 62 [.ref a0, .int a1] = [some (.ref a0), some (.int a1)] := rfl
theorem mq_e63 {a0 : Nat} {a1 : Nat} {a2 : Int32} {a3 : Int32} : mq_en mq_PP 63 [.ref a0, .ref a1, .int a2, .int a3] = [some (.ref a0), some (.ref a1), some (.int a2), some (.int a3), none, none] := rfl
theorem mq_e64 {a0 : Nat} : mq_en mq_PP 64 [.ref a0] = [some (.ref a0)] := rfl
theorem mq_e65 {a0 : Nat} : mq_en mq_PP 65 [.ref a0] = [some (.ref a0)] := rfl
theorem mq_e66 {a0 : Nat} : mq_en mq_PP 66 [.ref a0] = [some (.ref a0)] := rfl
theorem mq_e67 {a0 : Nat} {a1 : Int32} {a2 : Int32} : mq_en mq_PP 67 [.ref a0, .int a1, .int a2] = [some (.ref a0), some (.int a1), some (.int a2), none] := rfl
theorem mq_e68 {a0 : Nat} : mq_en mq_PP 68 [.ref a0] = [some (.ref a0)] := rfl
theorem mq_e69 {a0 : Nat} {a1 : Nat} {a2 : Int32} : mq_en mq_PP 69 [.ref a0, .ref a1, .int a2] = [some (.ref a0), some (.ref a1), some (.int a2), none, none, none] := rfl
theorem mq_e70 {a0 : Nat} {a1 : Int32} {a2 : Int32} : mq_en mq_PP 70 [.ref a0, .int a1, .int a2] = [some (.ref a0), some (.int a1), some (.int a2), none, none, none] := rfl
theorem mq_e71 {a0 : Nat} : mq_en mq_PP 71 [.ref a0] = [some (.ref a0)] := rfl
theorem mq_e72 {a0 : Nat} {a1 : Int32} : mq_en mq_PP 72 [.ref a0, .int a1] = [some (.ref a0), some (.int a1)] := rfl
theorem mq_e73 {a0 : Nat} : mq_en mq_PP 73 [.ref a0] = [some (.ref a0)] := rfl
theorem mq_e74 {a0 : Nat} {a1 : Int64} {a2 : Int32} : mq_en mq_PP 74 [.ref a0, .long a1, .int a2] = [some (.ref a0), some (.long a1), none, some (.int a2), none] := rfl
theorem mq_e75 {a0 : Nat} {a1 : Int32} : mq_en mq_PP 75 [.ref a0, .int a1] = [some (.ref a0), some (.int a1), none] := rfl
theorem mq_e76 {a0 : Nat} {a1 : Int32} : mq_en mq_PP 76 [.ref a0, .int a1] = [some (.ref a0), some (.int a1)] := rfl
theorem mq_e77 {a0 : Nat} {a1 : Int32} {a2 : Int32} {a3 : Int32} : mq_en mq_PP 77 [.ref a0, .int a1, .int a2, .int a3] = [some (.ref a0), some (.int a1), some (.int a2), some (.int a3)] := rfl
theorem mq_e78 {a0 : Nat} {a1 : Int32} {a2 : Int32} : mq_en mq_PP 78 [.ref a0, .int a1, .int a2] = [some (.ref a0), some (.int a1), some (.int a2)] := rfl
theorem mq_e79 {a0 : Nat} {a1 : Int32} {a2 : Int32} : mq_en mq_PP 79 [.ref a0, .int a1, .int a2] = [some (.ref a0), some (.int a1), some (.int a2), none] := rfl
theorem mq_e80 {a0 : Nat} {a1 : Nat} : mq_en mq_PP 80 [.ref a0, .ref a1] = [some (.ref a0), some (.ref a1), none] := rfl
theorem mq_e81 {a0 : Nat} : mq_en mq_PP 81 [.ref a0] = [some (.ref a0)] := rfl
theorem mq_e82 {a0 : Nat} : mq_en mq_PP 82 [.ref a0] = [some (.ref a0), none] := rfl
theorem mq_e83 {a0 : Nat} {a1 : Nat} {a2 : Int32} : mq_en mq_PP 83 [.ref a0, .ref a1, .int a2] = [some (.ref a0), some (.ref a1), some (.int a2), none, none] := rfl
theorem mq_e84 {a0 : Nat} {a1 : Int32} : mq_en mq_PP 84 [.ref a0, .int a1] = [some (.ref a0), some (.int a1)] := rfl
theorem mq_e85 {a0 : Nat} {a1 : Nat} {a2 : Int32} {a3 : Int32} : mq_en mq_PP 85 [.ref a0, .ref a1, .int a2, .int a3] = [some (.ref a0), some (.ref a1), some (.int a2), some (.int a3), none, none] := rfl
theorem mq_e86 {a0 : Nat} {a1 : Nat} {a2 : Int32} {a3 : Int32} : mq_en mq_PP 86 [.ref a0, .ref a1, .int a2, .int a3] = [some (.ref a0), some (.ref a1), some (.int a2), some (.int a3)] := rfl
theorem mq_e87 {a0 : Nat} {a1 : Int32} : mq_en mq_PP 87 [.ref a0, .int a1] = [some (.ref a0), some (.int a1)] := rfl
theorem mq_e88 {a0 : Nat} {a1 : Int32} : mq_en mq_PP 88 [.ref a0, .int a1] = [some (.ref a0), some (.int a1), none] := rfl
theorem mq_e89 {a0 : Nat} {a1 : Int32} : mq_en mq_PP 89 [.ref a0, .int a1] = [some (.ref a0), some (.int a1)] := rfl
theorem mq_e90 {a0 : Nat} : mq_en mq_PP 90 [.ref a0] = [some (.ref a0), none] := rfl
theorem mq_e91 {a0 : Nat} {a1 : Int32} {a2 : Int32} {a3 : Int32} : mq_en mq_PP 91 [.ref a0, .int a1, .int a2, .int a3] = [some (.ref a0), some (.int a1), some (.int a2), some (.int a3), none] := rfl
theorem mq_e92 {a0 : Nat} {a1 : Int32} {a2 : Nat} {a3 : Int32} {a4 : Int32} : mq_en mq_PP 92 [.ref a0, .int a1, .ref a2, .int a3, .int a4] = [some (.ref a0), some (.int a1), some (.ref a2), some (.int a3), some (.int a4), none, none] := rfl
theorem mq_e93 {a0 : Nat} : mq_en mq_PP 93 [.ref a0] = [some (.ref a0), none, none, none] := rfl
theorem mq_e94 {a0 : Nat} {a1 : Int32} : mq_en mq_PP 94 [.ref a0, .int a1] = [some (.ref a0), some (.int a1), none, none] := rfl
theorem mq_e95 {a0 : Nat} {a1 : Int32} : mq_en mq_PP 95 [.ref a0, .int a1] = [some (.ref a0), some (.int a1), none] := rfl
theorem mq_e96 {a0 : Nat} : mq_en mq_PP 96 [.ref a0] = [some (.ref a0), none, none] := rfl
theorem mq_e97 {a0 : Nat} : mq_en mq_PP 97 [.ref a0] = [some (.ref a0), none, none] := rfl
theorem mq_e98 {a0 : Nat} {a1 : Int32} : mq_en mq_PP 98 [.ref a0, .int a1] = [some (.ref a0), some (.int a1), none] := rfl
theorem mq_e99 {a0 : Nat} {a1 : Int32} : mq_en mq_PP 99 [.ref a0, .int a1] = [some (.ref a0), some (.int a1), none, none, none, none, none] := rfl
theorem mq_e100 {a0 : Nat} {a1 : Nat} : mq_en mq_PP 100 [.ref a0, .ref a1] = [some (.ref a0), some (.ref a1), none, none, none, none, none] := rfl
theorem mq_e101 {a0 : Nat} {a1 : Nat} {a2 : Nat} : mq_en mq_PP 101 [.ref a0, .ref a1, .ref a2] = [some (.ref a0), some (.ref a1), some (.ref a2), none, none, none] := rfl
theorem mq_e102 {a0 : Nat} {a1 : Int32} : mq_en mq_PP 102 [.ref a0, .int a1] = [some (.ref a0), some (.int a1)] := rfl
theorem mq_e103 {a0 : Nat} {a1 : Int32} : mq_en mq_PP 103 [.ref a0, .int a1] = [some (.ref a0), some (.int a1), none] := rfl
theorem mq_e104 {a0 : Nat} {a1 : Int32} : mq_en mq_PP 104 [.ref a0, .int a1] = [some (.ref a0), some (.int a1), none] := rfl
theorem mq_e105 {a0 : Nat} {a1 : Int32} {a2 : Int32} : mq_en mq_PP 105 [.ref a0, .int a1, .int a2] = [some (.ref a0), some (.int a1), some (.int a2), none] := rfl
theorem mq_e106 {a0 : Nat} : mq_en mq_PP 106 [.ref a0] = [some (.ref a0), none] := rfl
theorem mq_e107 {a0 : Int32} {a1 : Int32} : mq_en mq_PP 107 [.int a0, .int a1] = [some (.int a0), some (.int a1)] := rfl
theorem mq_e108 {a0 : Nat} : mq_en mq_PP 108 [.ref a0] = [some (.ref a0), none] := rfl
theorem mq_e109 {a0 : Nat} {a1 : Int32} : mq_en mq_PP 109 [.ref a0, .int a1] = [some (.ref a0), some (.int a1), none, none] := rfl
theorem mq_e110 {a0 : Nat} {a1 : Int32} : mq_en mq_PP 110 [.ref a0, .int a1] = [some (.ref a0), some (.int a1)] := rfl
theorem mq_e111 {a0 : Nat} : mq_en mq_PP 111 [.ref a0] = [some (.ref a0), none, none, none, none, none] := rfl
theorem mq_e112 {a0 : Nat} {a1 : Int32} {a2 : Int32} {a3 : Int32} : mq_en mq_PP 112 [.ref a0, .int a1, .int a2, .int a3] = [some (.ref a0), some (.int a1), some (.int a2), some (.int a3), none, none, none, none] := rfl
theorem mq_e113 {a0 : Nat} {a1 : Int32} : mq_en mq_PP 113 [.ref a0, .int a1] = [some (.ref a0), some (.int a1), none, none, none, none, none] := rfl
theorem mq_e114 {a0 : Nat} : mq_en mq_PP 114 [.ref a0] = [some (.ref a0), none] := rfl
theorem mq_e115 {a0 : Int32} : mq_en mq_PP 115 [.int a0] = [some (.int a0)] := rfl
theorem mq_e116 {a0 : Nat} : mq_en mq_PP 116 [.ref a0] = [some (.ref a0), none, none, none, none, none, none, none, none] := rfl
theorem mq_e117 {a0 : Nat} : mq_en mq_PP 117 [.ref a0] = [some (.ref a0), none, none] := rfl
theorem mq_e118 {a0 : Nat} {a1 : Int32} : mq_en mq_PP 118 [.ref a0, .int a1] = [some (.ref a0), some (.int a1), none, none, none, none, none, none] := rfl
theorem mq_e119 {a0 : Nat} : mq_en mq_PP 119 [.ref a0] = [some (.ref a0), none, none, none] := rfl
theorem mq_e120 {a0 : Nat} {a1 : Int32} : mq_en mq_PP 120 [.ref a0, .int a1] = [some (.ref a0), some (.int a1), none, none] := rfl
theorem mq_e121 {a0 : Nat} : mq_en mq_PP 121 [.ref a0] = [some (.ref a0), none, none, none] := rfl
theorem mq_e122 {a0 : Nat} {a1 : Int64} {a2 : Int32} : mq_en mq_PP 122 [.ref a0, .long a1, .int a2] = [some (.ref a0), some (.long a1), none, some (.int a2), none] := rfl
theorem mq_e123 {a0 : Int32} : mq_en mq_PP 123 [.int a0] = [some (.int a0), none, none, none] := rfl
theorem mq_e124 {a0 : Nat} {a1 : Int32} {a2 : Int32} : mq_en mq_PP 124 [.ref a0, .int a1, .int a2] = [some (.ref a0), some (.int a1), some (.int a2), none, none, none, none] := rfl
theorem mq_e125 {a0 : Nat} {a1 : Int32} {a2 : Int32} : mq_en mq_PP 125 [.ref a0, .int a1, .int a2] = [some (.ref a0), some (.int a1), some (.int a2)] := rfl
theorem mq_e126 {a0 : Nat} {a1 : Int32} {a2 : Int32} : mq_en mq_PP 126 [.ref a0, .int a1, .int a2] = [some (.ref a0), some (.int a1), some (.int a2)] := rfl
theorem mq_e127 {a0 : Nat} {a1 : Int32} : mq_en mq_PP 127 [.ref a0, .int a1] = [some (.ref a0), some (.int a1), none, none, none] := rfl
theorem mq_e128 {a0 : Nat} {a1 : Int32} {a2 : Int32} {a3 : Int32} : mq_en mq_PP 128 [.ref a0, .int a1, .int a2, .int a3] = [some (.ref a0), some (.int a1), some (.int a2), some (.int a3)] := rfl
theorem mq_e129 {a0 : Nat} {a1 : Int32} {a2 : Int32} : mq_en mq_PP 129 [.ref a0, .int a1, .int a2] = [some (.ref a0), some (.int a1), some (.int a2)] := rfl
theorem mq_e130 {a0 : Nat} {a1 : Int32} {a2 : Int32} : mq_en mq_PP 130 [.ref a0, .int a1, .int a2] = [some (.ref a0), some (.int a1), some (.int a2)] := rfl
theorem mq_e131 {a0 : Nat} {a1 : Int32} {a2 : Int32} : mq_en mq_PP 131 [.ref a0, .int a1, .int a2] = [some (.ref a0), some (.int a1), some (.int a2)] := rfl
theorem mq_e132 {a0 : Nat} {a1 : Int32} {a2 : Int32} {a3 : Int32} {a4 : Int32} {a5 : Int32} : mq_en mq_PP 132 [.ref a0, .int a1, .int a2, .int a3, .int a4, .int a5] = [some (.ref a0), some (.int a1), some (.int a2), some (.int a3), some (.int a4), some (.int a5), none, none, none, none, none, none, none, none] := rfl
theorem mq_e133 {a0 : Nat} {a1 : Int32} : mq_en mq_PP 133 [.ref a0, .int a1] = [some (.ref a0), some (.int a1), none, none, none, none, none] := rfl
theorem mq_e134 {a0 : Nat} {a1 : Int32} {a2 : Int32} : mq_en mq_PP 134 [.ref a0, .int a1, .int a2] = [some (.ref a0), some (.int a1), some (.int a2), none] := rfl
theorem mq_e135 {a0 : Nat} {a1 : Int32} {a2 : Int32} : mq_en mq_PP 135 [.ref a0, .int a1, .int a2] = [some (.ref a0), some (.int a1), some (.int a2), none, none] := rfl
theorem mq_e136 {a0 : Nat} {a1 : Int32} {a2 : Int32} {a3 : Int32} : mq_en mq_PP 136 [.ref a0, .int a1, .int a2, .int a3] = [some (.ref a0), some (.int a1), some (.int a2), some (.int a3), none, none] := rfl
theorem mq_e137 {a0 : Nat} {a1 : Int32} : mq_en mq_PP 137 [.ref a0, .int a1] = [some (.ref a0), some (.int a1), none, none, none, none, none, none] := rfl
theorem mq_e138 {a0 : Nat} {a1 : Int32} : mq_en mq_PP 138 [.ref a0, .int a1] = [some (.ref a0), some (.int a1), none] := rfl
theorem mq_e139 {a0 : Nat} {a1 : Int32} {a2 : Int32} : mq_en mq_PP 139 [.ref a0, .int a1, .int a2] = [some (.ref a0), some (.int a1), some (.int a2), none] := rfl
theorem mq_e140 {a0 : Nat} {a1 : Int32} : mq_en mq_PP 140 [.ref a0, .int a1] = [some (.ref a0), some (.int a1)] := rfl
theorem mq_e141 {a0 : Nat} {a1 : Int32} {a2 : Int32} : mq_en mq_PP 141 [.ref a0, .int a1, .int a2] = [some (.ref a0), some (.int a1), some (.int a2)] := rfl
theorem mq_e142 {a0 : Nat} {a1 : Int32} : mq_en mq_PP 142 [.ref a0, .int a1] = [some (.ref a0), some (.int a1)] := rfl
theorem mq_e143 {a0 : Nat} {a1 : Int32} : mq_en mq_PP 143 [.ref a0, .int a1] = [some (.ref a0), some (.int a1), none, none, none, none] := rfl
theorem mq_e144 {a0 : Int32} : mq_en mq_PP 144 [.int a0] = [some (.int a0)] := rfl
theorem mq_e145 {a0 : Nat} {a1 : Int32} : mq_en mq_PP 145 [.ref a0, .int a1] = [some (.ref a0), some (.int a1), none, none] := rfl
theorem mq_e146 {a0 : Nat} {a1 : Int32} : mq_en mq_PP 146 [.ref a0, .int a1] = [some (.ref a0), some (.int a1), none, none] := rfl
theorem mq_e147 {a0 : Nat} {a1 : Int32} {a2 : Int32} : mq_en mq_PP 147 [.ref a0, .int a1, .int a2] = [some (.ref a0), some (.int a1), some (.int a2), none] := rfl
theorem mq_e148 {a0 : Nat} {a1 : Int32} {a2 : Int32} {a3 : Int32} : mq_en mq_PP 148 [.ref a0, .int a1, .int a2, .int a3] = [some (.ref a0), some (.int a1), some (.int a2), some (.int a3)] := rfl
theorem mq_e149 {a0 : Nat} {a1 : Int32} {a2 : Int32} : mq_en mq_PP 149 [.ref a0, .int a1, .int a2] = [some (.ref a0), some (.int a1), some (.int a2)] := rfl
theorem mq_e150 {a0 : Nat} {a1 : Int32} {a2 : Int32} : mq_en mq_PP 150 [.ref a0, .int a1, .int a2] = [some (.ref a0), some (.int a1), some (.int a2), none] := rfl
theorem mq_e151 {a0 : Nat} {a1 : Int32} : mq_en mq_PP 151 [.ref a0, .int a1] = [some (.ref a0), some (.int a1), none, none] := rfl
theorem mq_e152 {a0 : Nat} {a1 : Int32} : mq_en mq_PP 152 [.ref a0, .int a1] = [some (.ref a0), some (.int a1), none, none, none, none, none, none, none, none] := rfl
theorem mq_e153 {a0 : Nat} {a1 : Int32} {a2 : Int32} : mq_en mq_PP 153 [.ref a0, .int a1, .int a2] = [some (.ref a0), some (.int a1), some (.int a2), none, none, none, none] := rfl
theorem mq_e154 {a0 : Nat} {a1 : Int32} : mq_en mq_PP 154 [.ref a0, .int a1] = [some (.ref a0), some (.int a1), none, none, none, none, none, none, none] := rfl
theorem mq_e155 {a0 : Int32} : mq_en mq_PP 155 [.int a0] = [some (.int a0)] := rfl
theorem mq_e156 {a0 : Nat} {a1 : Int32} {a2 : Int32} : mq_en mq_PP 156 [.ref a0, .int a1, .int a2] = [some (.ref a0), some (.int a1), some (.int a2)] := rfl
theorem mq_e157 {a0 : Nat} : mq_en mq_PP 157 [.ref a0] = [some (.ref a0)] := rfl
theorem mq_e158 {a0 : Nat} : mq_en mq_PP 158 [.ref a0] = [some (.ref a0)] := rfl
theorem mq_e159 {a0 : Nat} {a1 : Int32} {a2 : Int32} : mq_en mq_PP 159 [.ref a0, .int a1, .int a2] = [some (.ref a0), some (.int a1), some (.int a2)] := rfl
theorem mq_e160 {a0 : Nat} {a1 : Int32} {a2 : Int32} : mq_en mq_PP 160 [.ref a0, .int a1, .int a2] = [some (.ref a0), some (.int a1), some (.int a2), none, none, none, none, none, none] := rfl
theorem mq_e161 {a0 : Nat} {a1 : Int32} {a2 : Int32} {a3 : Int32} : mq_en mq_PP 161 [.ref a0, .int a1, .int a2, .int a3] = [some (.ref a0), some (.int a1), some (.int a2), some (.int a3)] := rfl
theorem mq_e162 {a0 : Nat} {a1 : Int32} : mq_en mq_PP 162 [.ref a0, .int a1] = [some (.ref a0), some (.int a1)] := rfl
theorem mq_e163 {a0 : Nat} {a1 : Int32} {a2 : Int32} : mq_en mq_PP 163 [.ref a0, .int a1, .int a2] = [some (.ref a0), some (.int a1), some (.int a2)] := rfl
theorem mq_e164 {a0 : Nat} {a1 : Int32} {a2 : Int32} : mq_en mq_PP 164 [.ref a0, .int a1, .int a2] = [some (.ref a0), some (.int a1), some (.int a2), none, none] := rfl
theorem mq_e165 {a0 : Nat} {a1 : Int32} {a2 : Int32} : mq_en mq_PP 165 [.ref a0, .int a1, .int a2] = [some (.ref a0), some (.int a1), some (.int a2)] := rfl
theorem mq_e166 {a0 : Nat} : mq_en mq_PP 166 [.ref a0] = [some (.ref a0)] := rfl
theorem mq_e167 {a0 : Nat} : mq_en mq_PP 167 [.ref a0] = [some (.ref a0), none, none, none] := rfl
theorem mq_e168 {a0 : Nat} {a1 : Int32} {a2 : Int32} : mq_en mq_PP 168 [.ref a0, .int a1, .int a2] = [some (.ref a0), some (.int a1), some (.int a2), none, none, none, none, none, none] := rfl
theorem mq_e169 {a0 : Nat} : mq_en mq_PP 169 [.ref a0] = [some (.ref a0), none, none] := rfl
theorem mq_e170 {a0 : Nat} {a1 : Int32} {a2 : Int32} {a3 : Nat} : mq_en mq_PP 170 [.ref a0, .int a1, .int a2, .ref a3] = [some (.ref a0), some (.int a1), some (.int a2), some (.ref a3), none] := rfl
theorem mq_e171 {a0 : Nat} {a1 : Int32} {a2 : Int32} {a3 : Nat} : mq_en mq_PP 171 [.ref a0, .int a1, .int a2, .ref a3] = [some (.ref a0), some (.int a1), some (.int a2), some (.ref a3), none] := rfl
theorem mq_e172 {a0 : Nat} {a1 : Nat} : mq_en mq_PP 172 [.ref a0, .ref a1] = [some (.ref a0), some (.ref a1), none] := rfl
theorem mq_e173 {a0 : Nat} : mq_en mq_PP 173 [.ref a0] = [some (.ref a0), none, none, none, none, none, none] := rfl
theorem mq_e174 {a0 : Nat} {a1 : Int32} : mq_en mq_PP 174 [.ref a0, .int a1] = [some (.ref a0), some (.int a1), none, none] := rfl
