/-! THE MINI-MACHINE: the instructions that the classes use, over a plain memory: a function from addresses to cells (kind, contents), how many cells there are, how many slots they have. Kinds: below 60 an object of that number in the list of classes; 60 an old int array (read only); 64 int[], 65 boolean[], 66 long[]; 70 + c an array of references to objects of class c; 999 nothing (an exception is an object of its class, its fields untold). -/
abbrev mq_C : Type := Nat × List Value
abbrev mq_S : Type := (Nat → mq_C) × Nat × Nat
abbrev mq_L : Type := List (Option Value)
abbrev mq_P : Type := Nat × List Nat × List Int
/-- what an instruction does: goes on; returns; throws; calls (callee, arguments, then place, locals, stack behind) -/
abbrev mq_O : Type := (Nat × mq_L × List Value × mq_S) ⊕ (Option Value × mq_S) ⊕ (Nat × mq_S) ⊕ (Nat × List Value × Nat × mq_L × List Value × mq_S)
abbrev mq_E : Type := List Nat → List Int → mq_L → List Value → mq_S → Option mq_O
abbrev mq_nx (n : Nat) (L : mq_L) (st : List Value) (S : mq_S) : Option mq_O := some (.inl (n, L, st, S))
/-- is the place before this one a long? -/
def mq_lg (L : mq_L) : Nat → Bool
  | 0 => false
  | j + 1 => match L[j]? with
    | some (some (.long _)) => true
    | some (some (.double _)) => true
    | _ => false
def mq_set1 (L : mq_L) (i : Nat) (v : Value) : Option mq_L := if mq_lg L i = true ∨ L.length ≤ i then none else some (L.set i (some v))
def mq_set2 (L : mq_L) (i : Nat) (v : Value) : Option mq_L := if mq_lg L i = true ∨ L.length ≤ i + 1 then none else some ((L.set i (some v)).set (i + 1) none)
def mq_o_iconst : mq_E := fun ns cs L st S => match ns, cs with
  | [n], [c] => mq_nx n L (.int (Int32.ofInt c) :: st) S
  | _, _ => none
def mq_o_lconst : mq_E := fun ns cs L st S => match ns, cs with
  | [n], [c] => mq_nx n L (.long (Int64.ofInt c) :: st) S
  | _, _ => none
def mq_o_iload : mq_E := fun ns _ L st S => match ns with
  | [n, i] => match L[i]? with
    | some (some (.int x)) => mq_nx n L (.int x :: st) S
    | _ => none
  | _ => none
def mq_o_lload : mq_E := fun ns _ L st S => match ns with
  | [n, i] => match L[i]? with
    | some (some (.long x)) => mq_nx n L (.long x :: st) S
    | _ => none
  | _ => none
def mq_o_aload : mq_E := fun ns _ L st S => match ns with
  | [n, i] => match L[i]? with
    | some (some (.ref x)) => mq_nx n L (.ref x :: st) S
    | _ => none
  | _ => none
def mq_o_istore : mq_E := fun ns _ L st S => match ns, st with
  | [n, i], .int x :: r => match mq_set1 L i (.int x) with
    | some L' => mq_nx n L' r S
    | none => none
  | _, _ => none
def mq_o_lstore : mq_E := fun ns _ L st S => match ns, st with
  | [n, i], .long x :: r => match mq_set2 L i (.long x) with
    | some L' => mq_nx n L' r S
    | none => none
  | _, _ => none
def mq_o_astore : mq_E := fun ns _ L st S => match ns, st with
  | [n, i], .ref x :: r => match mq_set1 L i (.ref x) with
    | some L' => mq_nx n L' r S
    | none => none
  | _, _ => none
def mq_o_iinc : mq_E := fun ns cs L st S => match ns, cs with
  | [n, i], [c] => match L[i]? with
    | some (some (.int x)) => match mq_set1 L i (.int (x + Int32.ofInt c)) with
      | some L' => mq_nx n L' st S
      | none => none
    | _ => none
  | _, _ => none
def mq_bi (f : Int32 → Int32 → Int32) : mq_E := fun ns _ L st S => match ns, st with
  | [n], .int y :: .int x :: r => mq_nx n L (.int (f x y) :: r) S
  | _, _ => none
def mq_bd (f : Int32 → Int32 → Int32) : mq_E := fun ns _ L st S => match ns, st with
  | [n], .int y :: .int x :: r => if y = 0 then none else mq_nx n L (.int (f x y) :: r) S
  | _, _ => none
def mq_bl (f : Int64 → Int64 → Int64) : mq_E := fun ns _ L st S => match ns, st with
  | [n], .long y :: .long x :: r => mq_nx n L (.long (f x y) :: r) S
  | _, _ => none
def mq_sl (f : Int64 → Int32 → Int64) : mq_E := fun ns _ L st S => match ns, st with
  | [n], .int y :: .long x :: r => mq_nx n L (.long (f x y) :: r) S
  | _, _ => none
def mq_ui (f : Int32 → Value) : mq_E := fun ns _ L st S => match ns, st with
  | [n], .int x :: r => mq_nx n L (f x :: r) S
  | _, _ => none
def mq_ul (f : Int64 → Value) : mq_E := fun ns _ L st S => match ns, st with
  | [n], .long x :: r => mq_nx n L (f x :: r) S
  | _, _ => none
def mq_o_lcmp : mq_E := fun ns _ L st S => match ns, st with
  | [n], .long y :: .long x :: r => mq_nx n L (.int (lg_cmp x y) :: r) S
  | _, _ => none
def mq_o_dup : mq_E := fun ns _ L st S => match ns, st with
  | [n], a :: r => if a.category = 1 then mq_nx n L (a :: a :: r) S else none
  | _, _ => none
def mq_o_pop : mq_E := fun ns _ L st S => match ns, st with
  | [n], a :: r => if a.category = 1 then mq_nx n L r S else none
  | _, _ => none
def mq_o_dup_x1 : mq_E := fun ns _ L st S => match ns, st with
  | [n], a :: b :: r => if a.category = 1 ∧ b.category = 1 then mq_nx n L (a :: b :: a :: r) S else none
  | _, _ => none
def mq_o_dup_x2 : mq_E := fun ns _ L st S => match ns, st with
  | [n], a :: b :: c :: r => if a.category = 1 ∧ b.category = 1 ∧ c.category = 1 then mq_nx n L (a :: b :: c :: a :: r) S else none
  | _, _ => none
def mq_o_dup2 : mq_E := fun ns _ L st S => match ns, st with
  | [n], a :: b :: r => if a.category = 1 ∧ b.category = 1 then mq_nx n L (a :: b :: a :: b :: r) S else none
  | _, _ => none
def mq_if1 (f : Int32 → Bool) : mq_E := fun ns _ L st S => match ns, st with
  | [n, t], .int x :: r => mq_nx (if f x = true then t else n) L r S
  | _, _ => none
def mq_if2 (f : Int32 → Int32 → Bool) : mq_E := fun ns _ L st S => match ns, st with
  | [n, t], .int y :: .int x :: r => mq_nx (if f x y = true then t else n) L r S
  | _, _ => none
def mq_o_goto : mq_E := fun ns _ L st S => match ns with
  | [t] => mq_nx t L st S
  | _ => none
/-- the target of a switch: keys and places side by side, the last place for all others -/
def mq_sw : List Int → List Nat → Int → Option Nat
  | k :: ks, t :: ts, x => if x = k then some t else mq_sw ks ts x
  | [], [t], _ => some t
  | _, _, _ => none
def mq_o_switch : mq_E := fun ns cs L st S => match st with
  | .int x :: r => match mq_sw cs ns x.toInt with
    | some t => mq_nx t L r S
    | none => none
  | _ => none
/-- [next, class, field] -/
def mq_o_get : mq_E := fun ns _ L st S => match ns, st with
  | n :: ci :: k :: _, .ref a :: r => if (S.1 a).1 = ci then (match (S.1 a).2[k]? with
      | some v => mq_nx n L (v :: r) S
      | none => none) else none
  | _, _ => none
/-- what a field of such a kind takes: 0 int, 1 boolean, 2 long, 3 a reference -/
def mq_fit (t : Nat) (v : Value) : Bool := match t, v with
  | 0, .int _ => true
  | 1, .int x => decide (x = 0 ∨ x = 1)
  | 2, .long _ => true
  | 3, .ref _ => true
  | _, _ => false
/-- [next, class, field, type] -/
def mq_o_put : mq_E := fun ns _ L st S => match ns, st with
  | n :: ci :: k :: t :: _, v :: .ref a :: r => if (S.1 a).1 = ci ∧ k < (S.1 a).2.length ∧ mq_fit t v = true then
      mq_nx n L r (va_up S.1 a (ci, (S.1 a).2.set k v), S.2.1, S.2.2) else none
  | _, _ => none
/-- [next, address of an old array] -/
def mq_o_gets : mq_E := fun ns _ L st S => match ns with
  | n :: a :: _ => mq_nx n L (.ref a :: st) S
  | _ => none
/-- the fields of a new object, by their types -/
def mq_dv (t : Nat) : Value := match t with
  | 2 => .long 0
  | 3 => .null
  | _ => .int 0
/-- [next, class, types ..] -/
def mq_o_new : mq_E := fun ns _ L st S => match ns with
  | n :: ci :: _ :: ts => mq_nx n L (.ref S.2.1 :: st) (va_up S.1 S.2.1 (ci, ts.map mq_dv), S.2.1 + 1, S.2.2 + ts.length)
  | _ => none
def mq_av (kind : Nat) : Value := if kind = 66 then .long 0 else if kind < 70 then .int 0 else .null
/-- [next, kind] -/
def mq_o_newarr : mq_E := fun ns _ L st S => match ns, st with
  | n :: kind :: _, .int c :: r => if c < 0 ∨ 1000000 < c.toNatClampNeg then none else
      mq_nx n L (.ref S.2.1 :: r) (va_up S.1 S.2.1 (kind, List.replicate c.toNatClampNeg (mq_av kind)), S.2.1 + 1, S.2.2 + c.toNatClampNeg)
  | _, _ => none
def mq_isarr (kind : Nat) : Bool := decide (kind = 60 ∨ kind = 64 ∨ kind = 65 ∨ kind = 66)
def mq_o_alen : mq_E := fun ns _ L st S => match ns, st with
  | [n], .ref a :: r => if mq_isarr (S.1 a).1 = true then mq_nx n L (.int (Int32.ofNat (S.1 a).2.length) :: r) S else none
  | _, _ => none
/-- [next, kind]; an old int array serves where an int array does -/
def mq_o_ald : mq_E := fun ns _ L st S => match ns, st with
  | [n, kind], .int i :: .ref a :: r => if ((S.1 a).1 = kind ∨ (kind = 64 ∧ (S.1 a).1 = 60)) ∧ ¬ i < 0 then (match (S.1 a).2[i.toNatClampNeg]? with
      | some v => if mq_fit (if kind = 66 then 2 else if kind < 70 then 0 else 3) v = true then mq_nx n L (v :: r) S else none
      | none => none) else none
  | _, _ => none
/-- may it be laid into an array of this kind: an object of the class of the array's references -/
def mq_rk (M : Nat → mq_C) (kind : Nat) (v : Value) : Bool := match v with
  | .ref b => decide ((M b).1 + 70 = kind)
  | _ => false
def mq_ak (kind : Nat) : Nat := if kind = 66 then 2 else if kind = 65 then 1 else if kind < 70 then 0 else 3
/-- [next, kind] -/
def mq_o_ast : mq_E := fun ns _ L st S => match ns, st with
  | [n, kind], v :: .int i :: .ref a :: r => if (S.1 a).1 = kind ∧ ¬ i < 0 ∧ i.toNatClampNeg < (S.1 a).2.length ∧ mq_fit (mq_ak kind) v = true ∧ (kind < 70 ∨ mq_rk S.1 kind v = true) then
      mq_nx n L r (va_up S.1 a (kind, (S.1 a).2.set i.toNatClampNeg v), S.2.1, S.2.2) else none
  | _, _ => none
def mq_wt (st : List Value) : Nat := (st.map fun v => v.category).sum
def mq_sp (vs : List Value) : mq_L := vs.flatMap (fun v => if v.category = 2 then [some v, none] else [some v])
/-- a static method: [next, callee, how many arguments, the callee's locals] -/
def mq_o_static : mq_E := fun ns _ L st S => match ns with
  | n :: j :: c :: mx :: _ => if c ≤ st.length ∧ mq_wt (st.drop c) ≤ 8 ∧ (mq_sp (st.take c).reverse).length ≤ mx then some (.inr (.inr (.inr (j, (st.take c).reverse, n, L, st.drop c, S)))) else none
  | _ => none
/-- a method of an object, or a constructor: [next, callee, how many arguments but the object, its class, the callee's locals] -/
def mq_o_virtual : mq_E := fun ns _ L st S => match ns with
  | n :: j :: c :: ci :: mx :: _ => match st.drop c with
    | .ref b :: r => if (S.1 b).1 = ci ∧ mq_wt r ≤ 8 ∧ (mq_sp (.ref b :: (st.take c).reverse)).length ≤ mx then some (.inr (.inr (.inr (j, .ref b :: (st.take c).reverse, n, L, r, S)))) else none
    | _ => none
  | _ => none
/-- Object's constructor -/
def mq_o_object : mq_E := fun ns _ L st S => match ns, st with
  | n :: _, .ref _ :: r => if mq_wt r ≤ 8 then mq_nx n L r S else none
  | _, _ => none
def mq_o_min : mq_E := fun ns _ L st S => match ns, st with
  | n :: _, .int y :: .int x :: r => if mq_wt r ≤ 8 then mq_nx n L (.int (if y < x then y else x) :: r) S else none
  | _, _ => none
def mq_o_max : mq_E := fun ns _ L st S => match ns, st with
  | n :: _, .int y :: .int x :: r => if mq_wt r ≤ 8 then mq_nx n L (.int (if x < y then y else x) :: r) S else none
  | _, _ => none
def mq_cpy (f g : List Value) (sp dp n : Nat) : List Value := g.take dp ++ (f.drop sp).take n ++ g.drop (dp + n)
/-- System.arraycopy of ints -/
def mq_o_copy : mq_E := fun ns _ L st S => match ns, st with
  | n :: _, .int c :: .int dp :: .ref b :: .int sp :: .ref a :: r =>
    if mq_wt r ≤ 8 ∧ (S.1 a).1 = 64 ∧ (S.1 b).1 = 64 ∧ ¬ c < 0 ∧ ¬ dp < 0 ∧ ¬ sp < 0 ∧ sp.toNatClampNeg + c.toNatClampNeg ≤ (S.1 a).2.length ∧ dp.toNatClampNeg + c.toNatClampNeg ≤ (S.1 b).2.length then
      mq_nx n L r (va_up S.1 b (64, mq_cpy (S.1 a).2 (S.1 b).2 sp.toNatClampNeg dp.toNatClampNeg c.toNatClampNeg), S.2.1, S.2.2) else none
  | _, _ => none
def mq_o_ret : mq_E := fun _ _ _ st S => match st with
  | [] => some (.inr (.inl (none, S)))
  | _ => none
/-- [type: 0 int, 1 boolean, 2 long, 3 a reference] -/
def mq_o_retv : mq_E := fun ns _ _ st S => match ns, st with
  | [t], [v] => if mq_fit t v = true then some (.inr (.inl (some v, S))) else none
  | _, _ => none
/-- throw new ..(): new, dup, the constructor and athrow in one; [the exception's class] -/
def mq_o_throw : mq_E := fun ns _ _ st S => match ns with
  | e :: _ => if mq_wt st ≤ 8 then some (.inr (.inr (.inl (S.2.1, (va_up S.1 S.2.1 (e, []), S.2.1 + 1, S.2.2 + 6))))) else none
  | _ => none
def mq_ops : List mq_E := [
  mq_o_iconst, mq_o_lconst, mq_o_iload, mq_o_lload, mq_o_aload, mq_o_istore, mq_o_lstore, mq_o_astore, mq_o_iinc, -- 0 .. 8
  mq_bi (fun x y => x + y), mq_bi (fun x y => x - y), mq_bi (fun x y => x * y), mq_bi (fun x y => x &&& y), mq_bi (fun x y => x ||| y), mq_bi (fun x y => x ^^^ y), -- 9 .. 14
  mq_bi (fun x y => x <<< (y &&& 31)), mq_bi (fun x y => x >>> (y &&& 31)), mq_bi (fun x y => (x.toUInt32 >>> (y.toUInt32 &&& Int32.toUInt32 31)).toInt32), mq_bd (fun x y => x / y), mq_bd (fun x y => x - x / y * y), mq_ui (fun x => .int (-x)), -- 15 .. 20
  mq_bl (fun x y => x + y), mq_bl (fun x y => x - y), mq_bl (fun x y => x * y), mq_bl (fun x y => x &&& y), mq_bl (fun x y => x ||| y), mq_bl (fun x y => x ^^^ y), -- 21 .. 26
  mq_sl (fun x y => x <<< (y.toInt64 &&& 63)), mq_sl (fun x y => x >>> (y.toInt64 &&& 63)), mq_sl (fun x y => (x.toUInt64 >>> (y.toInt64.toUInt64 &&& Int64.toUInt64 63)).toInt64), mq_o_lcmp, -- 27 .. 30
  mq_ui (fun x => .long x.toInt64), mq_ul (fun x => .int x.toInt32), -- 31, 32
  mq_o_dup, mq_o_pop, mq_o_dup_x1, mq_o_dup_x2, mq_o_dup2, -- 33 .. 37
  mq_if1 (fun x => decide (x = 0)), mq_if1 (fun x => decide (¬ x = 0)), mq_if1 (fun x => decide (x < 0)), mq_if1 (fun x => decide (0 ≤ x)), mq_if1 (fun x => decide (0 < x)), mq_if1 (fun x => decide (x ≤ 0)), -- 38 .. 43
  mq_if2 (fun x y => decide (x = y)), mq_if2 (fun x y => decide (¬ x = y)), mq_if2 (fun x y => decide (x < y)), mq_if2 (fun x y => decide (y ≤ x)), mq_if2 (fun x y => decide (y < x)), mq_if2 (fun x y => decide (x ≤ y)), -- 44 .. 49
  mq_o_goto, mq_o_switch, mq_o_get, mq_o_put, mq_o_gets, mq_o_new, mq_o_newarr, mq_o_alen, mq_o_ald, mq_o_ast, -- 50 .. 59
  mq_o_static, mq_o_virtual, mq_o_object, mq_o_min, mq_o_max, mq_o_copy, mq_o_ret, mq_o_retv, mq_o_throw] -- 60 .. 68
/-- what comes of each: 0 it goes on, 1 it returns, 2 it throws, 3 it calls -/
def mq_tg : List Nat := [0, 0, 0, 0, 0, 0, 0, 0, 0, 0, 0, 0, 0, 0, 0, 0, 0, 0, 0, 0, 0, 0, 0, 0, 0, 0, 0, 0, 0, 0, 0, 0, 0, 0, 0, 0, 0, 0, 0, 0, 0, 0, 0, 0, 0, 0, 0, 0, 0, 0, 0, 0, 0, 0, 0, 0, 0, 0, 0, 0, 3, 3, 0, 0, 0, 0, 1, 1, 2]
/-- a method: how many locals; its handlers (from, behind, place, exception's number); its instructions -/
abbrev mq_T : Type := Nat × List (Nat × Nat × Nat × Nat) × List (Nat × mq_P)
def mq_at (P : List mq_T) (k pc : Nat) : Option mq_P := match P[k]? with
  | some t => t.2.2.lookup pc
  | none => none
def mq_ex (o : mq_P) (L : mq_L) (st : List Value) (S : mq_S) : Option mq_O := match mq_ops[o.1]? with
  | some f => f o.2.1 o.2.2 L st S
  | none => none
def mq_en (P : List mq_T) (j : Nat) (vs : List Value) : mq_L := match P[j]? with
  | some t => mq_sp vs ++ List.replicate (t.1 - (mq_sp vs).length) none
  | none => []
/-- where an exception is caught -/
def mq_hx (pc kind : Nat) : List (Nat × Nat × Nat × Nat) → Option Nat
  | [] => none
  | (a, b, h, e) :: r => if a ≤ pc ∧ pc < b ∧ kind = e then some h else mq_hx pc kind r
def mq_hd (P : List mq_T) (k pc kind : Nat) : Option Nat := match P[k]? with
  | some t => mq_hx pc kind t.2.1
  | none => none
/-- a method without handlers lets every exception through -/
def mq_nh (P : List mq_T) (k : Nat) : Bool := match P[k]? with
  | some t => t.2.1.isEmpty
  | none => true
theorem mq_if {α : Type} {c : Prop} [Decidable c] {a b : α} (h : (if c then some a else none) = some b) : c ∧ a = b := by
  by_cases hc : c
  · rw [if_pos hc] at h
    exact ⟨hc, Option.some.inj h⟩
  · rw [if_neg hc] at h
    cases h
def mq_stp (P : List mq_T) (k pc : Nat) (L : mq_L) (st : List Value) (S : mq_S) : Option mq_O := match mq_at P k pc with
  | some o => mq_ex o L st S
  | none => none
abbrev mq_A : Type := (Option Value ⊕ Nat) × mq_S
def mq_run (P : List mq_T) : Nat → Nat → Nat → Nat → mq_L → List Value → mq_S → Option mq_A
  | 0, _, _, _, _, _, _ => none
  | n + 1, d, k, pc, L, st, S => match mq_stp P k pc L st S with
    | none => none
    | some (.inl (pc', L', st', S')) => mq_run P n d k pc' L' st' S'
    | some (.inr (.inl (v, S'))) => some (.inl v, S')
    | some (.inr (.inr (.inl (a, S')))) => some (.inr a, S')
    | some (.inr (.inr (.inr (j, as, pc', L', st', S')))) => match d with
      | 0 => none
      | d' + 1 => match mq_run P n d' j 0 (mq_en P j as) [] S' with
        | none => none
        | some (.inl v, S1) => mq_run P n (d' + 1) k pc' L' (v.toList ++ st') S1
        | some (.inr a, S1) => match mq_hd P k pc (S1.1 a).1 with
          | some h => mq_run P n (d' + 1) k h L' [.ref a] S1
          | none => if mq_nh P k = true then some (.inr a, S1) else none
/-- it comes to an end, with Q -/
def mq_R (P : List mq_T) (d k pc : Nat) (L : mq_L) (st : List Value) (S : mq_S) (Q : (Option Value ⊕ Nat) → mq_S → Prop) : Prop := ∃ (n : Nat) (r : mq_A), mq_run P n d k pc L st S = some r ∧ Q r.1 r.2
def mq_after (P : List mq_T) (d k pc pc' : Nat) (L' : mq_L) (st' : List Value) (Q : (Option Value ⊕ Nat) → mq_S → Prop) (r : Option Value ⊕ Nat) (S1 : mq_S) : Prop := match r with
  | .inl v => mq_R P d k pc' L' (v.toList ++ st') S1 Q
  | .inr a => match mq_hd P k pc (S1.1 a).1 with
    | some h => mq_R P d k h L' [.ref a] S1 Q
    | none => mq_nh P k = true ∧ Q (.inr a) S1
def mq_call (P : List mq_T) (d k pc j : Nat) (as : List Value) (pc' : Nat) (L' : mq_L) (st' : List Value) (S : mq_S) (Q : (Option Value ⊕ Nat) → mq_S → Prop) : Prop := match d with
  | 0 => False
  | d' + 1 => mq_R P d' j 0 (mq_en P j as) [] S (mq_after P (d' + 1) k pc pc' L' st' Q)
def mq_Y (P : List mq_T) (d k pc : Nat) (o : Option mq_O) (Q : (Option Value ⊕ Nat) → mq_S → Prop) : Prop := match o with
  | none => False
  | some (.inl (pc', L', st', S')) => mq_R P d k pc' L' st' S' Q
  | some (.inr (.inl (v, S'))) => Q (.inl v) S'
  | some (.inr (.inr (.inl (a, S')))) => Q (.inr a) S'
  | some (.inr (.inr (.inr (j, as, pc', L', st', S')))) => mq_call P d k pc j as pc' L' st' S' Q
theorem mq_mono1 (P : List mq_T) : ∀ (n d k pc : Nat) (L : mq_L) (st : List Value) (S : mq_S) (r : mq_A), mq_run P n d k pc L st S = some r → mq_run P (n + 1) d k pc L st S = some r := by
  intro n
  induction n with
  | zero => intro d k pc L st S r h; simp [mq_run] at h
  | succ n ih =>
    intro d k pc L st S r h
    rw [mq_run] at h ⊢
    cases hs : mq_stp P k pc L st S with
    | none => rw [hs] at h; cases h
    | some o =>
      rw [hs] at h
      rcases o with ⟨pc', L', st', S'⟩ | ⟨v, S'⟩ | ⟨a, S'⟩ | ⟨j, as, pc', L', st', S'⟩
      · exact ih _ _ _ _ _ _ _ h
      · exact h
      · exact h
      · cases d with
        | zero => cases h
        | succ d' =>
          simp only at h ⊢
          cases hc : mq_run P n d' j 0 (mq_en P j as) [] S' with
          | none => rw [hc] at h; cases h
          | some x =>
            rw [hc] at h
            rw [ih _ _ _ _ _ _ _ hc]
            obtain ⟨v | a, S1⟩ := x
            · exact ih _ _ _ _ _ _ _ h
            · simp only at h ⊢
              cases hh : mq_hd P k pc (S1.1 a).1 with
              | none => rw [hh] at h; exact h
              | some q => rw [hh] at h; exact ih _ _ _ _ _ _ _ h
theorem mq_mono (P : List mq_T) {n n' d k pc : Nat} {L : mq_L} {st : List Value} {S : mq_S} {r : mq_A} (h : mq_run P n d k pc L st S = some r) (hn : n ≤ n') : mq_run P n' d k pc L st S = some r := by
  induction hn with
  | refl => exact h
  | step _ ih => exact mq_mono1 P _ _ _ _ _ _ _ _ ih
theorem mq_R_eq (P : List mq_T) (d k pc : Nat) (L : mq_L) (st : List Value) (S : mq_S) (Q : (Option Value ⊕ Nat) → mq_S → Prop) : mq_R P d k pc L st S Q = mq_Y P d k pc (mq_stp P k pc L st S) Q := by
  apply propext
  constructor
  · rintro ⟨n, r, h, hq⟩
    cases n with
    | zero => simp [mq_run] at h
    | succ n =>
      rw [mq_run] at h
      cases hs : mq_stp P k pc L st S with
      | none => rw [hs] at h; cases h
      | some o =>
        rw [hs] at h
        rcases o with ⟨pc', L', st', S'⟩ | ⟨v, S'⟩ | ⟨a, S'⟩ | ⟨j, as, pc', L', st', S'⟩
        · exact ⟨n, r, h, hq⟩
        · cases h; exact hq
        · cases h; exact hq
        · cases d with
          | zero => cases h
          | succ d' =>
            simp only at h
            cases hc : mq_run P n d' j 0 (mq_en P j as) [] S' with
            | none => rw [hc] at h; cases h
            | some x =>
              rw [hc] at h
              refine ⟨n, x, hc, ?_⟩
              obtain ⟨v | a, S1⟩ := x
              · exact ⟨n, r, h, hq⟩
              · simp only at h
                show (match mq_hd P k pc (S1.1 a).1 with
                  | some h => mq_R P (d' + 1) k h L' [.ref a] S1 Q
                  | none => mq_nh P k = true ∧ Q (.inr a) S1)
                cases hh : mq_hd P k pc (S1.1 a).1 with
                | none =>
                  rw [hh] at h
                  obtain ⟨h1, rfl⟩ := mq_if h
                  exact ⟨h1, hq⟩
                | some q => rw [hh] at h; exact ⟨n, r, h, hq⟩
  · intro hy
    cases hs : mq_stp P k pc L st S with
    | none => rw [hs] at hy; exact hy.elim
    | some o =>
      rw [hs] at hy
      rcases o with ⟨pc', L', st', S'⟩ | ⟨v, S'⟩ | ⟨a, S'⟩ | ⟨j, as, pc', L', st', S'⟩
      · obtain ⟨n, r, h, hq⟩ := hy
        exact ⟨n + 1, r, by rw [mq_run, hs]; exact h, hq⟩
      · exact ⟨1, (.inl v, S'), by rw [mq_run, hs], hy⟩
      · exact ⟨1, (.inr a, S'), by rw [mq_run, hs], hy⟩
      · cases d with
        | zero => exact hy.elim
        | succ d' =>
          obtain ⟨n, x, hc, hq⟩ := hy
          obtain ⟨v | a, S1⟩ := x
          · obtain ⟨n2, r, h2, hq2⟩ := hq
            refine ⟨max n n2 + 1, r, ?_, hq2⟩
            rw [mq_run, hs]
            simp only
            rw [mq_mono P hc (Nat.le_max_left n n2)]
            exact mq_mono P h2 (Nat.le_max_right n n2)
          · have hq : (match mq_hd P k pc (S1.1 a).1 with
                | some h => mq_R P (d' + 1) k h L' [.ref a] S1 Q
                | none => mq_nh P k = true ∧ Q (.inr a) S1) := hq
            cases hh : mq_hd P k pc (S1.1 a).1 with
            | none =>
              rw [hh] at hq
              refine ⟨n + 1, (.inr a, S1), ?_, hq.2⟩
              rw [mq_run, hs]
              simp only
              rw [hc]
              simp only [hh]
              rw [if_pos hq.1]
            | some q =>
              rw [hh] at hq
              obtain ⟨n2, r, h2, hq2⟩ := hq
              refine ⟨max n n2 + 1, r, ?_, hq2⟩
              rw [mq_run, hs]
              simp only
              rw [mq_mono P hc (Nat.le_max_left n n2)]
              simp only [hh]
              exact mq_mono P h2 (Nat.le_max_right n n2)
/-- one instruction, by what stands at its place -/
def mq_X (P : List mq_T) (d k pc : Nat) (o : mq_P) (L : mq_L) (st : List Value) (S : mq_S) (Q : (Option Value ⊕ Nat) → mq_S → Prop) : Prop := mq_Y P d k pc (mq_ex o L st S) Q
theorem mq_R_at {P : List mq_T} {d k pc : Nat} {o : mq_P} (h : mq_at P k pc = some o) {L : mq_L} {st : List Value} {S : mq_S} {Q : (Option Value ⊕ Nat) → mq_S → Prop} : mq_R P d k pc L st S Q = mq_X P d k pc o L st S Q := by
  rw [mq_R_eq, mq_stp, h]
  rfl
theorem mq_R_mono {P : List mq_T} {d k pc : Nat} {L : mq_L} {st : List Value} {S : mq_S} {Q Q' : (Option Value ⊕ Nat) → mq_S → Prop} (h : mq_R P d k pc L st S Q) (hq : ∀ r S', Q r S' → Q' r S') : mq_R P d k pc L st S Q' := by
  obtain ⟨n, r, h1, h2⟩ := h
  exact ⟨n, r, h1, hq _ _ h2⟩
