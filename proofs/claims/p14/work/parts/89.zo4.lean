/-! What a manifest says; the class's reading of it, exactly. -/
/-- the capital (-1: none), the capitals seen, the bytes behind V, the archives behind P -/
abbrev xMs : Type := Int × Int32 × Int × List Int
abbrev xseen (mk : Int32) (c : Int) : Prop := ((mk >>> (Int32.ofInt (c - 65) &&& 31)) &&& Int32.ofInt 1).toInt = 1
def xmset (mk : Int32) (c : Int) : Int32 := mk ||| ((Int32.ofInt 1) <<< (Int32.ofInt (c - 65) &&& 31))
def xmadd (l : List Int) (x : Int) : List Int := if l.elem x = true then l else l ++ [x]
def xmb (s : xMs) (b : Int) : Option xMs :=
  if s.1 = 80 then (if 48 ≤ b ∧ b < 52 then some (s.1, s.2.1, s.2.2.1, xmadd s.2.2.2 (b - 48)) else none)
  else if s.1 = 86 then (if b = 89 ∧ s.2.2.1 = 0 then some (s.1, s.2.1, 1, s.2.2.2) else none)
  else if s.1 = 90 then (if 97 ≤ b ∧ b < 101 then some s else none)
  else (if 32 ≤ b ∧ b ≤ 126 then some s else none)
def xmbs (t : Nat → Int) : Nat → Nat → xMs → Option xMs
  | 0, _, s => some s
  | m + 1, i, s => match xmb s (t i) with
    | some s' => xmbs t m (i + 1) s'
    | none => none
abbrev xmc (t : Nat → Int) (s : xMs) (f e : Nat) : Prop := 2 ≤ e - f ∧ 65 ≤ t f ∧ t f ≤ 90 ∧ t (f + 1) = 58 ∧ ¬ xseen s.2.1 (t f)
def xml (t : Nat → Int) (s : xMs) (f e : Nat) : Option xMs :=
  if e = f ∨ 8 < e - f then none
  else if t f = 32 then (if s.1 = -1 then none else xmbs t (e - (f + 1)) (f + 1) s)
  else if xmc t s f e then xmbs t (e - (f + 2)) (f + 2) (t f, xmset s.2.1 (t f), s.2.2.1, s.2.2.2) else none
def xmr (t : Nat → Int) : Nat → Nat → Nat → xMs → Option (Nat × xMs)
  | 0, _, f, s => some (f, s)
  | m + 1, i, f, s => if t i = 10 then (match xml t s f i with
    | some s' => xmr t m (i + 1) (i + 1) s'
    | none => none) else xmr t m (i + 1) f s
def xm0 : xMs := (-1, 0, 0, [])
def xman (t : Nat → Int) (len : Nat) : Option xMs := match xmr t len 0 0 xm0 with
  | some (f, s) => if f = len ∧ (s.2.2.1 = 1 ∨ ¬ xseen s.2.1 86) then some s else none
  | none => none
theorem xo_i32 {x y : Int32} (h : x.toInt = y.toInt) : x = y := Int32.toInt_inj.mp h
/-- the class's manifest behind A holds s -/
def xMV (A : Nat) (M0 M : Nat → mq_C) (s : xMs) : Prop := mz_sh mz_GG M ∧ (∀ b, b < A + 2 ∨ A + 4 < b → M b = M0 b) ∧ hv M (A + 2) 4 = s.1 ∧ hv M (A + 2) 5 = s.2.1.toInt ∧ hv M (A + 2) 6 = s.2.2.1 ∧ hv M (A + 2) 2 = (s.2.2.2.length : Int) ∧ (∀ i, i < s.2.2.2.length → hv M (A + 3) i = s.2.2.2.getD i 0) ∧ hxd (hv M (A + 2) 2) (fun i => hv M (A + 3) i) ∧ (s.2.2.1 = 0 ∨ s.2.2.1 = 1) ∧ (s.1 = -1 ∨ (65 ≤ s.1 ∧ s.1 ≤ 90))
