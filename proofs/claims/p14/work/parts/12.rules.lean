/-! What one instruction of the mini-machine does, as equations (printed by gen_x.py). -/
theorem mq_x_iconst {P : List mq_T} {d k pc n : Nat} {L : mq_L} {st : List Value} {S : mq_S} {Q : (Option Value ⊕ Nat) → mq_S → Prop} {c : Int} : mq_X P d k pc (0, [n], [c]) L st S Q = mq_R P d k n L (.int (Int32.ofInt c) :: st) S Q := rfl
theorem mq_x_lconst {P : List mq_T} {d k pc n : Nat} {L : mq_L} {st : List Value} {S : mq_S} {Q : (Option Value ⊕ Nat) → mq_S → Prop} {c : Int} : mq_X P d k pc (1, [n], [c]) L st S Q = mq_R P d k n L (.long (Int64.ofInt c) :: st) S Q := rfl
theorem mq_x_iload0 {P : List mq_T} {d k pc n : Nat} {L : mq_L} {st : List Value} {S : mq_S} {Q : (Option Value ⊕ Nat) → mq_S → Prop}  {x : Int32} : mq_X P d k pc (2, [n, 0], []) (some (.int x) :: L) st S Q = mq_R P d k n (some (.int x) :: L) (.int x :: st) S Q := rfl
theorem mq_x_lload0 {P : List mq_T} {d k pc n : Nat} {L : mq_L} {st : List Value} {S : mq_S} {Q : (Option Value ⊕ Nat) → mq_S → Prop}  {x : Int64} : mq_X P d k pc (3, [n, 0], []) (some (.long x) :: L) st S Q = mq_R P d k n (some (.long x) :: L) (.long x :: st) S Q := rfl
theorem mq_x_aload0 {P : List mq_T} {d k pc n : Nat} {L : mq_L} {st : List Value} {S : mq_S} {Q : (Option Value ⊕ Nat) → mq_S → Prop}  {x : Nat} : mq_X P d k pc (4, [n, 0], []) (some (.ref x) :: L) st S Q = mq_R P d k n (some (.ref x) :: L) (.ref x :: st) S Q := rfl
theorem mq_x_iload1 {P : List mq_T} {d k pc n : Nat} {L : mq_L} {st : List Value} {S : mq_S} {Q : (Option Value ⊕ Nat) → mq_S → Prop} {a0 : Option Value} {x : Int32} : mq_X P d k pc (2, [n, 1], []) (a0 :: some (.int x) :: L) st S Q = mq_R P d k n (a0 :: some (.int x) :: L) (.int x :: st) S Q := rfl
theorem mq_x_lload1 {P : List mq_T} {d k pc n : Nat} {L : mq_L} {st : List Value} {S : mq_S} {Q : (Option Value ⊕ Nat) → mq_S → Prop} {a0 : Option Value} {x : Int64} : mq_X P d k pc (3, [n, 1], []) (a0 :: some (.long x) :: L) st S Q = mq_R P d k n (a0 :: some (.long x) :: L) (.long x :: st) S Q := rfl
theorem mq_x_aload1 {P : List mq_T} {d k pc n : Nat} {L : mq_L} {st : List Value} {S : mq_S} {Q : (Option Value ⊕ Nat) → mq_S → Prop} {a0 : Option Value} {x : Nat} : mq_X P d k pc (4, [n, 1], []) (a0 :: some (.ref x) :: L) st S Q = mq_R P d k n (a0 :: some (.ref x) :: L) (.ref x :: st) S Q := rfl
theorem mq_x_iload2 {P : List mq_T} {d k pc n : Nat} {L : mq_L} {st : List Value} {S : mq_S} {Q : (Option Value ⊕ Nat) → mq_S → Prop} {a0 a1 : Option Value} {x : Int32} : mq_X P d k pc (2, [n, 2], []) (a0 :: a1 :: some (.int x) :: L) st S Q = mq_R P d k n (a0 :: a1 :: some (.int x) :: L) (.int x :: st) S Q := rfl
theorem mq_x_lload2 {P : List mq_T} {d k pc n : Nat} {L : mq_L} {st : List Value} {S : mq_S} {Q : (Option Value ⊕ Nat) → mq_S → Prop} {a0 a1 : Option Value} {x : Int64} : mq_X P d k pc (3, [n, 2], []) (a0 :: a1 :: some (.long x) :: L) st S Q = mq_R P d k n (a0 :: a1 :: some (.long x) :: L) (.long x :: st) S Q := rfl
theorem mq_x_aload2 {P : List mq_T} {d k pc n : Nat} {L : mq_L} {st : List Value} {S : mq_S} {Q : (Option Value ⊕ Nat) → mq_S → Prop} {a0 a1 : Option Value} {x : Nat} : mq_X P d k pc (4, [n, 2], []) (a0 :: a1 :: some (.ref x) :: L) st S Q = mq_R P d k n (a0 :: a1 :: some (.ref x) :: L) (.ref x :: st) S Q := rfl
theorem mq_x_iload3 {P : List mq_T} {d k pc n : Nat} {L : mq_L} {st : List Value} {S : mq_S} {Q : (Option Value ⊕ Nat) → mq_S → Prop} {a0 a1 a2 : Option Value} {x : Int32} : mq_X P d k pc (2, [n, 3], []) (a0 :: a1 :: a2 :: some (.int x) :: L) st S Q = mq_R P d k n (a0 :: a1 :: a2 :: some (.int x) :: L) (.int x :: st) S Q := rfl
theorem mq_x_lload3 {P : List mq_T} {d k pc n : Nat} {L : mq_L} {st : List Value} {S : mq_S} {Q : (Option Value ⊕ Nat) → mq_S → Prop} {a0 a1 a2 : Option Value} {x : Int64} : mq_X P d k pc (3, [n, 3], []) (a0 :: a1 :: a2 :: some (.long x) :: L) st S Q = mq_R P d k n (a0 :: a1 :: a2 :: some (.long x) :: L) (.long x :: st) S Q := rfl
theorem mq_x_aload3 {P : List mq_T} {d k pc n : Nat} {L : mq_L} {st : List Value} {S : mq_S} {Q : (Option Value ⊕ Nat) → mq_S → Prop} {a0 a1 a2 : Option Value} {x : Nat} : mq_X P d k pc (4, [n, 3], []) (a0 :: a1 :: a2 :: some (.ref x) :: L) st S Q = mq_R P d k n (a0 :: a1 :: a2 :: some (.ref x) :: L) (.ref x :: st) S Q := rfl
theorem mq_x_iload4 {P : List mq_T} {d k pc n : Nat} {L : mq_L} {st : List Value} {S : mq_S} {Q : (Option Value ⊕ Nat) → mq_S → Prop} {a0 a1 a2 a3 : Option Value} {x : Int32} : mq_X P d k pc (2, [n, 4], []) (a0 :: a1 :: a2 :: a3 :: some (.int x) :: L) st S Q = mq_R P d k n (a0 :: a1 :: a2 :: a3 :: some (.int x) :: L) (.int x :: st) S Q := rfl
theorem mq_x_lload4 {P : List mq_T} {d k pc n : Nat} {L : mq_L} {st : List Value} {S : mq_S} {Q : (Option Value ⊕ Nat) → mq_S → Prop} {a0 a1 a2 a3 : Option Value} {x : Int64} : mq_X P d k pc (3, [n, 4], []) (a0 :: a1 :: a2 :: a3 :: some (.long x) :: L) st S Q = mq_R P d k n (a0 :: a1 :: a2 :: a3 :: some (.long x) :: L) (.long x :: st) S Q := rfl
theorem mq_x_aload4 {P : List mq_T} {d k pc n : Nat} {L : mq_L} {st : List Value} {S : mq_S} {Q : (Option Value ⊕ Nat) → mq_S → Prop} {a0 a1 a2 a3 : Option Value} {x : Nat} : mq_X P d k pc (4, [n, 4], []) (a0 :: a1 :: a2 :: a3 :: some (.ref x) :: L) st S Q = mq_R P d k n (a0 :: a1 :: a2 :: a3 :: some (.ref x) :: L) (.ref x :: st) S Q := rfl
theorem mq_x_iload5 {P : List mq_T} {d k pc n : Nat} {L : mq_L} {st : List Value} {S : mq_S} {Q : (Option Value ⊕ Nat) → mq_S → Prop} {a0 a1 a2 a3 a4 : Option Value} {x : Int32} : mq_X P d k pc (2, [n, 5], []) (a0 :: a1 :: a2 :: a3 :: a4 :: some (.int x) :: L) st S Q = mq_R P d k n (a0 :: a1 :: a2 :: a3 :: a4 :: some (.int x) :: L) (.int x :: st) S Q := rfl
theorem mq_x_lload5 {P : List mq_T} {d k pc n : Nat} {L : mq_L} {st : List Value} {S : mq_S} {Q : (Option Value ⊕ Nat) → mq_S → Prop} {a0 a1 a2 a3 a4 : Option Value} {x : Int64} : mq_X P d k pc (3, [n, 5], []) (a0 :: a1 :: a2 :: a3 :: a4 :: some (.long x) :: L) st S Q = mq_R P d k n (a0 :: a1 :: a2 :: a3 :: a4 :: some (.long x) :: L) (.long x :: st) S Q := rfl
theorem mq_x_aload5 {P : List mq_T} {d k pc n : Nat} {L : mq_L} {st : List Value} {S : mq_S} {Q : (Option Value ⊕ Nat) → mq_S → Prop} {a0 a1 a2 a3 a4 : Option Value} {x : Nat} : mq_X P d k pc (4, [n, 5], []) (a0 :: a1 :: a2 :: a3 :: a4 :: some (.ref x) :: L) st S Q = mq_R P d k n (a0 :: a1 :: a2 :: a3 :: a4 :: some (.ref x) :: L) (.ref x :: st) S Q := rfl
theorem mq_x_iload6 {P : List mq_T} {d k pc n : Nat} {L : mq_L} {st : List Value} {S : mq_S} {Q : (Option Value ⊕ Nat) → mq_S → Prop} {a0 a1 a2 a3 a4 a5 : Option Value} {x : Int32} : mq_X P d k pc (2, [n, 6], []) (a0 :: a1 :: a2 :: a3 :: a4 :: a5 :: some (.int x) :: L) st S Q = mq_R P d k n (a0 :: a1 :: a2 :: a3 :: a4 :: a5 :: some (.int x) :: L) (.int x :: st) S Q := rfl
theorem mq_x_lload6 {P : List mq_T} {d k pc n : Nat} {L : mq_L} {st : List Value} {S : mq_S} {Q : (Option Value ⊕ Nat) → mq_S → Prop} {a0 a1 a2 a3 a4 a5 : Option Value} {x : Int64} : mq_X P d k pc (3, [n, 6], []) (a0 :: a1 :: a2 :: a3 :: a4 :: a5 :: some (.long x) :: L) st S Q = mq_R P d k n (a0 :: a1 :: a2 :: a3 :: a4 :: a5 :: some (.long x) :: L) (.long x :: st) S Q := rfl
theorem mq_x_aload6 {P : List mq_T} {d k pc n : Nat} {L : mq_L} {st : List Value} {S : mq_S} {Q : (Option Value ⊕ Nat) → mq_S → Prop} {a0 a1 a2 a3 a4 a5 : Option Value} {x : Nat} : mq_X P d k pc (4, [n, 6], []) (a0 :: a1 :: a2 :: a3 :: a4 :: a5 :: some (.ref x) :: L) st S Q = mq_R P d k n (a0 :: a1 :: a2 :: a3 :: a4 :: a5 :: some (.ref x) :: L) (.ref x :: st) S Q := rfl
theorem mq_x_iload7 {P : List mq_T} {d k pc n : Nat} {L : mq_L} {st : List Value} {S : mq_S} {Q : (Option Value ⊕ Nat) → mq_S → Prop} {a0 a1 a2 a3 a4 a5 a6 : Option Value} {x : Int32} : mq_X P d k pc (2, [n, 7], []) (a0 :: a1 :: a2 :: a3 :: a4 :: a5 :: a6 :: some (.int x) :: L) st S Q = mq_R P d k n (a0 :: a1 :: a2 :: a3 :: a4 :: a5 :: a6 :: some (.int x) :: L) (.int x :: st) S Q := rfl
theorem mq_x_lload7 {P : List mq_T} {d k pc n : Nat} {L : mq_L} {st : List Value} {S : mq_S} {Q : (Option Value ⊕ Nat) → mq_S → Prop} {a0 a1 a2 a3 a4 a5 a6 : Option Value} {x : Int64} : mq_X P d k pc (3, [n, 7], []) (a0 :: a1 :: a2 :: a3 :: a4 :: a5 :: a6 :: some (.long x) :: L) st S Q = mq_R P d k n (a0 :: a1 :: a2 :: a3 :: a4 :: a5 :: a6 :: some (.long x) :: L) (.long x :: st) S Q := rfl
theorem mq_x_aload7 {P : List mq_T} {d k pc n : Nat} {L : mq_L} {st : List Value} {S : mq_S} {Q : (Option Value ⊕ Nat) → mq_S → Prop} {a0 a1 a2 a3 a4 a5 a6 : Option Value} {x : Nat} : mq_X P d k pc (4, [n, 7], []) (a0 :: a1 :: a2 :: a3 :: a4 :: a5 :: a6 :: some (.ref x) :: L) st S Q = mq_R P d k n (a0 :: a1 :: a2 :: a3 :: a4 :: a5 :: a6 :: some (.ref x) :: L) (.ref x :: st) S Q := rfl
theorem mq_x_iload8 {P : List mq_T} {d k pc n : Nat} {L : mq_L} {st : List Value} {S : mq_S} {Q : (Option Value ⊕ Nat) → mq_S → Prop} {a0 a1 a2 a3 a4 a5 a6 a7 : Option Value} {x : Int32} : mq_X P d k pc (2, [n, 8], []) (a0 :: a1 :: a2 :: a3 :: a4 :: a5 :: a6 :: a7 :: some (.int x) :: L) st S Q = mq_R P d k n (a0 :: a1 :: a2 :: a3 :: a4 :: a5 :: a6 :: a7 :: some (.int x) :: L) (.int x :: st) S Q := rfl
theorem mq_x_lload8 {P : List mq_T} {d k pc n : Nat} {L : mq_L} {st : List Value} {S : mq_S} {Q : (Option Value ⊕ Nat) → mq_S → Prop} {a0 a1 a2 a3 a4 a5 a6 a7 : Option Value} {x : Int64} : mq_X P d k pc (3, [n, 8], []) (a0 :: a1 :: a2 :: a3 :: a4 :: a5 :: a6 :: a7 :: some (.long x) :: L) st S Q = mq_R P d k n (a0 :: a1 :: a2 :: a3 :: a4 :: a5 :: a6 :: a7 :: some (.long x) :: L) (.long x :: st) S Q := rfl
theorem mq_x_aload8 {P : List mq_T} {d k pc n : Nat} {L : mq_L} {st : List Value} {S : mq_S} {Q : (Option Value ⊕ Nat) → mq_S → Prop} {a0 a1 a2 a3 a4 a5 a6 a7 : Option Value} {x : Nat} : mq_X P d k pc (4, [n, 8], []) (a0 :: a1 :: a2 :: a3 :: a4 :: a5 :: a6 :: a7 :: some (.ref x) :: L) st S Q = mq_R P d k n (a0 :: a1 :: a2 :: a3 :: a4 :: a5 :: a6 :: a7 :: some (.ref x) :: L) (.ref x :: st) S Q := rfl
theorem mq_x_iload9 {P : List mq_T} {d k pc n : Nat} {L : mq_L} {st : List Value} {S : mq_S} {Q : (Option Value ⊕ Nat) → mq_S → Prop} {a0 a1 a2 a3 a4 a5 a6 a7 a8 : Option Value} {x : Int32} : mq_X P d k pc (2, [n, 9], []) (a0 :: a1 :: a2 :: a3 :: a4 :: a5 :: a6 :: a7 :: a8 :: some (.int x) :: L) st S Q = mq_R P d k n (a0 :: a1 :: a2 :: a3 :: a4 :: a5 :: a6 :: a7 :: a8 :: some (.int x) :: L) (.int x :: st) S Q := rfl
theorem mq_x_lload9 {P : List mq_T} {d k pc n : Nat} {L : mq_L} {st : List Value} {S : mq_S} {Q : (Option Value ⊕ Nat) → mq_S → Prop} {a0 a1 a2 a3 a4 a5 a6 a7 a8 : Option Value} {x : Int64} : mq_X P d k pc (3, [n, 9], []) (a0 :: a1 :: a2 :: a3 :: a4 :: a5 :: a6 :: a7 :: a8 :: some (.long x) :: L) st S Q = mq_R P d k n (a0 :: a1 :: a2 :: a3 :: a4 :: a5 :: a6 :: a7 :: a8 :: some (.long x) :: L) (.long x :: st) S Q := rfl
theorem mq_x_aload9 {P : List mq_T} {d k pc n : Nat} {L : mq_L} {st : List Value} {S : mq_S} {Q : (Option Value ⊕ Nat) → mq_S → Prop} {a0 a1 a2 a3 a4 a5 a6 a7 a8 : Option Value} {x : Nat} : mq_X P d k pc (4, [n, 9], []) (a0 :: a1 :: a2 :: a3 :: a4 :: a5 :: a6 :: a7 :: a8 :: some (.ref x) :: L) st S Q = mq_R P d k n (a0 :: a1 :: a2 :: a3 :: a4 :: a5 :: a6 :: a7 :: a8 :: some (.ref x) :: L) (.ref x :: st) S Q := rfl
theorem mq_x_iload10 {P : List mq_T} {d k pc n : Nat} {L : mq_L} {st : List Value} {S : mq_S} {Q : (Option Value ⊕ Nat) → mq_S → Prop} {a0 a1 a2 a3 a4 a5 a6 a7 a8 a9 : Option Value} {x : Int32} : mq_X P d k pc (2, [n, 10], []) (a0 :: a1 :: a2 :: a3 :: a4 :: a5 :: a6 :: a7 :: a8 :: a9 :: some (.int x) :: L) st S Q = mq_R P d k n (a0 :: a1 :: a2 :: a3 :: a4 :: a5 :: a6 :: a7 :: a8 :: a9 :: some (.int x) :: L) (.int x :: st) S Q := rfl
theorem mq_x_lload10 {P : List mq_T} {d k pc n : Nat} {L : mq_L} {st : List Value} {S : mq_S} {Q : (Option Value ⊕ Nat) → mq_S → Prop} {a0 a1 a2 a3 a4 a5 a6 a7 a8 a9 : Option Value} {x : Int64} : mq_X P d k pc (3, [n, 10], []) (a0 :: a1 :: a2 :: a3 :: a4 :: a5 :: a6 :: a7 :: a8 :: a9 :: some (.long x) :: L) st S Q = mq_R P d k n (a0 :: a1 :: a2 :: a3 :: a4 :: a5 :: a6 :: a7 :: a8 :: a9 :: some (.long x) :: L) (.long x :: st) S Q := rfl
theorem mq_x_aload10 {P : List mq_T} {d k pc n : Nat} {L : mq_L} {st : List Value} {S : mq_S} {Q : (Option Value ⊕ Nat) → mq_S → Prop} {a0 a1 a2 a3 a4 a5 a6 a7 a8 a9 : Option Value} {x : Nat} : mq_X P d k pc (4, [n, 10], []) (a0 :: a1 :: a2 :: a3 :: a4 :: a5 :: a6 :: a7 :: a8 :: a9 :: some (.ref x) :: L) st S Q = mq_R P d k n (a0 :: a1 :: a2 :: a3 :: a4 :: a5 :: a6 :: a7 :: a8 :: a9 :: some (.ref x) :: L) (.ref x :: st) S Q := rfl
theorem mq_x_iload11 {P : List mq_T} {d k pc n : Nat} {L : mq_L} {st : List Value} {S : mq_S} {Q : (Option Value ⊕ Nat) → mq_S → Prop} {a0 a1 a2 a3 a4 a5 a6 a7 a8 a9 a10 : Option Value} {x : Int32} : mq_X P d k pc (2, [n, 11], []) (a0 :: a1 :: a2 :: a3 :: a4 :: a5 :: a6 :: a7 :: a8 :: a9 :: a10 :: some (.int x) :: L) st S Q = mq_R P d k n (a0 :: a1 :: a2 :: a3 :: a4 :: a5 :: a6 :: a7 :: a8 :: a9 :: a10 :: some (.int x) :: L) (.int x :: st) S Q := rfl
theorem mq_x_lload11 {P : List mq_T} {d k pc n : Nat} {L : mq_L} {st : List Value} {S : mq_S} {Q : (Option Value ⊕ Nat) → mq_S → Prop} {a0 a1 a2 a3 a4 a5 a6 a7 a8 a9 a10 : Option Value} {x : Int64} : mq_X P d k pc (3, [n, 11], []) (a0 :: a1 :: a2 :: a3 :: a4 :: a5 :: a6 :: a7 :: a8 :: a9 :: a10 :: some (.long x) :: L) st S Q = mq_R P d k n (a0 :: a1 :: a2 :: a3 :: a4 :: a5 :: a6 :: a7 :: a8 :: a9 :: a10 :: some (.long x) :: L) (.long x :: st) S Q := rfl
theorem mq_x_aload11 {P : List mq_T} {d k pc n : Nat} {L : mq_L} {st : List Value} {S : mq_S} {Q : (Option Value ⊕ Nat) → mq_S → Prop} {a0 a1 a2 a3 a4 a5 a6 a7 a8 a9 a10 : Option Value} {x : Nat} : mq_X P d k pc (4, [n, 11], []) (a0 :: a1 :: a2 :: a3 :: a4 :: a5 :: a6 :: a7 :: a8 :: a9 :: a10 :: some (.ref x) :: L) st S Q = mq_R P d k n (a0 :: a1 :: a2 :: a3 :: a4 :: a5 :: a6 :: a7 :: a8 :: a9 :: a10 :: some (.ref x) :: L) (.ref x :: st) S Q := rfl
theorem mq_x_iload12 {P : List mq_T} {d k pc n : Nat} {L : mq_L} {st : List Value} {S : mq_S} {Q : (Option Value ⊕ Nat) → mq_S → Prop} {a0 a1 a2 a3 a4 a5 a6 a7 a8 a9 a10 a11 : Option Value} {x : Int32} : mq_X P d k pc (2, [n, 12], []) (a0 :: a1 :: a2 :: a3 :: a4 :: a5 :: a6 :: a7 :: a8 :: a9 :: a10 :: a11 :: some (.int x) :: L) st S Q = mq_R P d k n (a0 :: a1 :: a2 :: a3 :: a4 :: a5 :: a6 :: a7 :: a8 :: a9 :: a10 :: a11 :: some (.int x) :: L) (.int x :: st) S Q := rfl
theorem mq_x_lload12 {P : List mq_T} {d k pc n : Nat} {L : mq_L} {st : List Value} {S : mq_S} {Q : (Option Value ⊕ Nat) → mq_S → Prop} {a0 a1 a2 a3 a4 a5 a6 a7 a8 a9 a10 a11 : Option Value} {x : Int64} : mq_X P d k pc (3, [n, 12], []) (a0 :: a1 :: a2 :: a3 :: a4 :: a5 :: a6 :: a7 :: a8 :: a9 :: a10 :: a11 :: some (.long x) :: L) st S Q = mq_R P d k n (a0 :: a1 :: a2 :: a3 :: a4 :: a5 :: a6 :: a7 :: a8 :: a9 :: a10 :: a11 :: some (.long x) :: L) (.long x :: st) S Q := rfl
theorem mq_x_aload12 {P : List mq_T} {d k pc n : Nat} {L : mq_L} {st : List Value} {S : mq_S} {Q : (Option Value ⊕ Nat) → mq_S → Prop} {a0 a1 a2 a3 a4 a5 a6 a7 a8 a9 a10 a11 : Option Value} {x : Nat} : mq_X P d k pc (4, [n, 12], []) (a0 :: a1 :: a2 :: a3 :: a4 :: a5 :: a6 :: a7 :: a8 :: a9 :: a10 :: a11 :: some (.ref x) :: L) st S Q = mq_R P d k n (a0 :: a1 :: a2 :: a3 :: a4 :: a5 :: a6 :: a7 :: a8 :: a9 :: a10 :: a11 :: some (.ref x) :: L) (.ref x :: st) S Q := rfl
theorem mq_x_iload13 {P : List mq_T} {d k pc n : Nat} {L : mq_L} {st : List Value} {S : mq_S} {Q : (Option Value ⊕ Nat) → mq_S → Prop} {a0 a1 a2 a3 a4 a5 a6 a7 a8 a9 a10 a11 a12 : Option Value} {x : Int32} : mq_X P d k pc (2, [n, 13], []) (a0 :: a1 :: a2 :: a3 :: a4 :: a5 :: a6 :: a7 :: a8 :: a9 :: a10 :: a11 :: a12 :: some (.int x) :: L) st S Q = mq_R P d k n (a0 :: a1 :: a2 :: a3 :: a4 :: a5 :: a6 :: a7 :: a8 :: a9 :: a10 :: a11 :: a12 :: some (.int x) :: L) (.int x :: st) S Q := rfl
theorem mq_x_lload13 {P : List mq_T} {d k pc n : Nat} {L : mq_L} {st : List Value} {S : mq_S} {Q : (Option Value ⊕ Nat) → mq_S → Prop} {a0 a1 a2 a3 a4 a5 a6 a7 a8 a9 a10 a11 a12 : Option Value} {x : Int64} : mq_X P d k pc (3, [n, 13], []) (a0 :: a1 :: a2 :: a3 :: a4 :: a5 :: a6 :: a7 :: a8 :: a9 :: a10 :: a11 :: a12 :: some (.long x) :: L) st S Q = mq_R P d k n (a0 :: a1 :: a2 :: a3 :: a4 :: a5 :: a6 :: a7 :: a8 :: a9 :: a10 :: a11 :: a12 :: some (.long x) :: L) (.long x :: st) S Q := rfl
theorem mq_x_aload13 {P : List mq_T} {d k pc n : Nat} {L : mq_L} {st : List Value} {S : mq_S} {Q : (Option Value ⊕ Nat) → mq_S → Prop} {a0 a1 a2 a3 a4 a5 a6 a7 a8 a9 a10 a11 a12 : Option Value} {x : Nat} : mq_X P d k pc (4, [n, 13], []) (a0 :: a1 :: a2 :: a3 :: a4 :: a5 :: a6 :: a7 :: a8 :: a9 :: a10 :: a11 :: a12 :: some (.ref x) :: L) st S Q = mq_R P d k n (a0 :: a1 :: a2 :: a3 :: a4 :: a5 :: a6 :: a7 :: a8 :: a9 :: a10 :: a11 :: a12 :: some (.ref x) :: L) (.ref x :: st) S Q := rfl
theorem mq_x_iload14 {P : List mq_T} {d k pc n : Nat} {L : mq_L} {st : List Value} {S : mq_S} {Q : (Option Value ⊕ Nat) → mq_S → Prop} {a0 a1 a2 a3 a4 a5 a6 a7 a8 a9 a10 a11 a12 a13 : Option Value} {x : Int32} : mq_X P d k pc (2, [n, 14], []) (a0 :: a1 :: a2 :: a3 :: a4 :: a5 :: a6 :: a7 :: a8 :: a9 :: a10 :: a11 :: a12 :: a13 :: some (.int x) :: L) st S Q = mq_R P d k n (a0 :: a1 :: a2 :: a3 :: a4 :: a5 :: a6 :: a7 :: a8 :: a9 :: a10 :: a11 :: a12 :: a13 :: some (.int x) :: L) (.int x :: st) S Q := rfl
theorem mq_x_lload14 {P : List mq_T} {d k pc n : Nat} {L : mq_L} {st : List Value} {S : mq_S} {Q : (Option Value ⊕ Nat) → mq_S → Prop} {a0 a1 a2 a3 a4 a5 a6 a7 a8 a9 a10 a11 a12 a13 : Option Value} {x : Int64} : mq_X P d k pc (3, [n, 14], []) (a0 :: a1 :: a2 :: a3 :: a4 :: a5 :: a6 :: a7 :: a8 :: a9 :: a10 :: a11 :: a12 :: a13 :: some (.long x) :: L) st S Q = mq_R P d k n (a0 :: a1 :: a2 :: a3 :: a4 :: a5 :: a6 :: a7 :: a8 :: a9 :: a10 :: a11 :: a12 :: a13 :: some (.long x) :: L) (.long x :: st) S Q := rfl
theorem mq_x_aload14 {P : List mq_T} {d k pc n : Nat} {L : mq_L} {st : List Value} {S : mq_S} {Q : (Option Value ⊕ Nat) → mq_S → Prop} {a0 a1 a2 a3 a4 a5 a6 a7 a8 a9 a10 a11 a12 a13 : Option Value} {x : Nat} : mq_X P d k pc (4, [n, 14], []) (a0 :: a1 :: a2 :: a3 :: a4 :: a5 :: a6 :: a7 :: a8 :: a9 :: a10 :: a11 :: a12 :: a13 :: some (.ref x) :: L) st S Q = mq_R P d k n (a0 :: a1 :: a2 :: a3 :: a4 :: a5 :: a6 :: a7 :: a8 :: a9 :: a10 :: a11 :: a12 :: a13 :: some (.ref x) :: L) (.ref x :: st) S Q := rfl
theorem mq_x_iload15 {P : List mq_T} {d k pc n : Nat} {L : mq_L} {st : List Value} {S : mq_S} {Q : (Option Value ⊕ Nat) → mq_S → Prop} {a0 a1 a2 a3 a4 a5 a6 a7 a8 a9 a10 a11 a12 a13 a14 : Option Value} {x : Int32} : mq_X P d k pc (2, [n, 15], []) (a0 :: a1 :: a2 :: a3 :: a4 :: a5 :: a6 :: a7 :: a8 :: a9 :: a10 :: a11 :: a12 :: a13 :: a14 :: some (.int x) :: L) st S Q = mq_R P d k n (a0 :: a1 :: a2 :: a3 :: a4 :: a5 :: a6 :: a7 :: a8 :: a9 :: a10 :: a11 :: a12 :: a13 :: a14 :: some (.int x) :: L) (.int x :: st) S Q := rfl
theorem mq_x_lload15 {P : List mq_T} {d k pc n : Nat} {L : mq_L} {st : List Value} {S : mq_S} {Q : (Option Value ⊕ Nat) → mq_S → Prop} {a0 a1 a2 a3 a4 a5 a6 a7 a8 a9 a10 a11 a12 a13 a14 : Option Value} {x : Int64} : mq_X P d k pc (3, [n, 15], []) (a0 :: a1 :: a2 :: a3 :: a4 :: a5 :: a6 :: a7 :: a8 :: a9 :: a10 :: a11 :: a12 :: a13 :: a14 :: some (.long x) :: L) st S Q = mq_R P d k n (a0 :: a1 :: a2 :: a3 :: a4 :: a5 :: a6 :: a7 :: a8 :: a9 :: a10 :: a11 :: a12 :: a13 :: a14 :: some (.long x) :: L) (.long x :: st) S Q := rfl
theorem mq_x_aload15 {P : List mq_T} {d k pc n : Nat} {L : mq_L} {st : List Value} {S : mq_S} {Q : (Option Value ⊕ Nat) → mq_S → Prop} {a0 a1 a2 a3 a4 a5 a6 a7 a8 a9 a10 a11 a12 a13 a14 : Option Value} {x : Nat} : mq_X P d k pc (4, [n, 15], []) (a0 :: a1 :: a2 :: a3 :: a4 :: a5 :: a6 :: a7 :: a8 :: a9 :: a10 :: a11 :: a12 :: a13 :: a14 :: some (.ref x) :: L) st S Q = mq_R P d k n (a0 :: a1 :: a2 :: a3 :: a4 :: a5 :: a6 :: a7 :: a8 :: a9 :: a10 :: a11 :: a12 :: a13 :: a14 :: some (.ref x) :: L) (.ref x :: st) S Q := rfl
def mq_nl (o : Option Value) : Bool := match o with
  | some (.long _) => false
  | some (.double _) => false
  | _ => true
theorem mq_nl_n : mq_nl none = true := rfl
theorem mq_nl_i {x : Int32} : mq_nl (some (.int x)) = true := rfl
theorem mq_nl_r {x : Nat} : mq_nl (some (.ref x)) = true := rfl
theorem mq_nl_u : mq_nl (some .null) = true := rfl
theorem mq_lg_nl {L : mq_L} {j : Nat} {a : Option Value} (hj : L[j]? = some a) (h : mq_nl a = true) : mq_lg L (j + 1) = false := by
  simp only [mq_lg]
  rw [hj]
  cases a with
  | none => rfl
  | some v => cases v <;> first | rfl | (simp [mq_nl] at h)
theorem mq_x_istore0 {P : List mq_T} {d k pc n : Nat} {L : mq_L} {st : List Value} {S : mq_S} {Q : (Option Value ⊕ Nat) → mq_S → Prop} {a0 : Option Value} {x : Int32}  : mq_X P d k pc (5, [n, 0], []) (a0 :: L) (.int x :: st) S Q = mq_R P d k n (some (.int x) :: L) st S Q := rfl
theorem mq_x_astore0 {P : List mq_T} {d k pc n : Nat} {L : mq_L} {st : List Value} {S : mq_S} {Q : (Option Value ⊕ Nat) → mq_S → Prop} {a0 : Option Value} {x : Nat}  : mq_X P d k pc (7, [n, 0], []) (a0 :: L) (.ref x :: st) S Q = mq_R P d k n (some (.ref x) :: L) st S Q := rfl
theorem mq_x_iinc0 {P : List mq_T} {d k pc n : Nat} {L : mq_L} {st : List Value} {S : mq_S} {Q : (Option Value ⊕ Nat) → mq_S → Prop} {x : Int32} {c : Int} : mq_X P d k pc (8, [n, 0], [c]) (some (.int x) :: L) st S Q = mq_R P d k n (some (.int (x + Int32.ofInt c)) :: L) st S Q := rfl
theorem mq_x_istore1 {P : List mq_T} {d k pc n : Nat} {L : mq_L} {st : List Value} {S : mq_S} {Q : (Option Value ⊕ Nat) → mq_S → Prop} {a0 a1 : Option Value} {x : Int32} (h : mq_nl a0 = true) : mq_X P d k pc (5, [n, 1], []) (a0 :: a1 :: L) (.int x :: st) S Q = mq_R P d k n (a0 :: some (.int x) :: L) st S Q := by
  have hl : mq_lg (a0 :: a1 :: L) 1 = false := mq_lg_nl rfl h
  show mq_Y P d k pc (mq_o_istore [n, 1] [] (a0 :: a1 :: L) (.int x :: st) S) Q = _
  simp only [mq_o_istore, mq_set1, hl]
  simp [mq_Y]
theorem mq_x_astore1 {P : List mq_T} {d k pc n : Nat} {L : mq_L} {st : List Value} {S : mq_S} {Q : (Option Value ⊕ Nat) → mq_S → Prop} {a0 a1 : Option Value} {x : Nat} (h : mq_nl a0 = true) : mq_X P d k pc (7, [n, 1], []) (a0 :: a1 :: L) (.ref x :: st) S Q = mq_R P d k n (a0 :: some (.ref x) :: L) st S Q := by
  have hl : mq_lg (a0 :: a1 :: L) 1 = false := mq_lg_nl rfl h
  show mq_Y P d k pc (mq_o_astore [n, 1] [] (a0 :: a1 :: L) (.ref x :: st) S) Q = _
  simp only [mq_o_astore, mq_set1, hl]
  simp [mq_Y]
theorem mq_x_iinc1 {P : List mq_T} {d k pc n : Nat} {L : mq_L} {st : List Value} {S : mq_S} {Q : (Option Value ⊕ Nat) → mq_S → Prop} {a0 : Option Value} {x : Int32} {c : Int} (h : mq_nl a0 = true) : mq_X P d k pc (8, [n, 1], [c]) (a0 :: some (.int x) :: L) st S Q = mq_R P d k n (a0 :: some (.int (x + Int32.ofInt c)) :: L) st S Q := by
  have hl : mq_lg (a0 :: some (.int x) :: L) 1 = false := mq_lg_nl rfl h
  show mq_Y P d k pc (mq_o_iinc [n, 1] [c] (a0 :: some (.int x) :: L) st S) Q = _
  simp only [mq_o_iinc, mq_set1, hl]
  simp [mq_Y, mq_set1, hl]
theorem mq_x_istore2 {P : List mq_T} {d k pc n : Nat} {L : mq_L} {st : List Value} {S : mq_S} {Q : (Option Value ⊕ Nat) → mq_S → Prop} {a0 a1 a2 : Option Value} {x : Int32} (h : mq_nl a1 = true) : mq_X P d k pc (5, [n, 2], []) (a0 :: a1 :: a2 :: L) (.int x :: st) S Q = mq_R P d k n (a0 :: a1 :: some (.int x) :: L) st S Q := by
  have hl : mq_lg (a0 :: a1 :: a2 :: L) 2 = false := mq_lg_nl rfl h
  show mq_Y P d k pc (mq_o_istore [n, 2] [] (a0 :: a1 :: a2 :: L) (.int x :: st) S) Q = _
  simp only [mq_o_istore, mq_set1, hl]
  simp [mq_Y]
theorem mq_x_astore2 {P : List mq_T} {d k pc n : Nat} {L : mq_L} {st : List Value} {S : mq_S} {Q : (Option Value ⊕ Nat) → mq_S → Prop} {a0 a1 a2 : Option Value} {x : Nat} (h : mq_nl a1 = true) : mq_X P d k pc (7, [n, 2], []) (a0 :: a1 :: a2 :: L) (.ref x :: st) S Q = mq_R P d k n (a0 :: a1 :: some (.ref x) :: L) st S Q := by
  have hl : mq_lg (a0 :: a1 :: a2 :: L) 2 = false := mq_lg_nl rfl h
  show mq_Y P d k pc (mq_o_astore [n, 2] [] (a0 :: a1 :: a2 :: L) (.ref x :: st) S) Q = _
  simp only [mq_o_astore, mq_set1, hl]
  simp [mq_Y]
theorem mq_x_iinc2 {P : List mq_T} {d k pc n : Nat} {L : mq_L} {st : List Value} {S : mq_S} {Q : (Option Value ⊕ Nat) → mq_S → Prop} {a0 a1 : Option Value} {x : Int32} {c : Int} (h : mq_nl a1 = true) : mq_X P d k pc (8, [n, 2], [c]) (a0 :: a1 :: some (.int x) :: L) st S Q = mq_R P d k n (a0 :: a1 :: some (.int (x + Int32.ofInt c)) :: L) st S Q := by
  have hl : mq_lg (a0 :: a1 :: some (.int x) :: L) 2 = false := mq_lg_nl rfl h
  show mq_Y P d k pc (mq_o_iinc [n, 2] [c] (a0 :: a1 :: some (.int x) :: L) st S) Q = _
  simp only [mq_o_iinc, mq_set1, hl]
  simp [mq_Y, mq_set1, hl]
theorem mq_x_istore3 {P : List mq_T} {d k pc n : Nat} {L : mq_L} {st : List Value} {S : mq_S} {Q : (Option Value ⊕ Nat) → mq_S → Prop} {a0 a1 a2 a3 : Option Value} {x : Int32} (h : mq_nl a2 = true) : mq_X P d k pc (5, [n, 3], []) (a0 :: a1 :: a2 :: a3 :: L) (.int x :: st) S Q = mq_R P d k n (a0 :: a1 :: a2 :: some (.int x) :: L) st S Q := by
  have hl : mq_lg (a0 :: a1 :: a2 :: a3 :: L) 3 = false := mq_lg_nl rfl h
  show mq_Y P d k pc (mq_o_istore [n, 3] [] (a0 :: a1 :: a2 :: a3 :: L) (.int x :: st) S) Q = _
  simp only [mq_o_istore, mq_set1, hl]
  simp [mq_Y]
theorem mq_x_astore3 {P : List mq_T} {d k pc n : Nat} {L : mq_L} {st : List Value} {S : mq_S} {Q : (Option Value ⊕ Nat) → mq_S → Prop} {a0 a1 a2 a3 : Option Value} {x : Nat} (h : mq_nl a2 = true) : mq_X P d k pc (7, [n, 3], []) (a0 :: a1 :: a2 :: a3 :: L) (.ref x :: st) S Q = mq_R P d k n (a0 :: a1 :: a2 :: some (.ref x) :: L) st S Q := by
  have hl : mq_lg (a0 :: a1 :: a2 :: a3 :: L) 3 = false := mq_lg_nl rfl h
  show mq_Y P d k pc (mq_o_astore [n, 3] [] (a0 :: a1 :: a2 :: a3 :: L) (.ref x :: st) S) Q = _
  simp only [mq_o_astore, mq_set1, hl]
  simp [mq_Y]
theorem mq_x_iinc3 {P : List mq_T} {d k pc n : Nat} {L : mq_L} {st : List Value} {S : mq_S} {Q : (Option Value ⊕ Nat) → mq_S → Prop} {a0 a1 a2 : Option Value} {x : Int32} {c : Int} (h : mq_nl a2 = true) : mq_X P d k pc (8, [n, 3], [c]) (a0 :: a1 :: a2 :: some (.int x) :: L) st S Q = mq_R P d k n (a0 :: a1 :: a2 :: some (.int (x + Int32.ofInt c)) :: L) st S Q := by
  have hl : mq_lg (a0 :: a1 :: a2 :: some (.int x) :: L) 3 = false := mq_lg_nl rfl h
  show mq_Y P d k pc (mq_o_iinc [n, 3] [c] (a0 :: a1 :: a2 :: some (.int x) :: L) st S) Q = _
  simp only [mq_o_iinc, mq_set1, hl]
  simp [mq_Y, mq_set1, hl]
theorem mq_x_istore4 {P : List mq_T} {d k pc n : Nat} {L : mq_L} {st : List Value} {S : mq_S} {Q : (Option Value ⊕ Nat) → mq_S → Prop} {a0 a1 a2 a3 a4 : Option Value} {x : Int32} (h : mq_nl a3 = true) : mq_X P d k pc (5, [n, 4], []) (a0 :: a1 :: a2 :: a3 :: a4 :: L) (.int x :: st) S Q = mq_R P d k n (a0 :: a1 :: a2 :: a3 :: some (.int x) :: L) st S Q := by
  have hl : mq_lg (a0 :: a1 :: a2 :: a3 :: a4 :: L) 4 = false := mq_lg_nl rfl h
  show mq_Y P d k pc (mq_o_istore [n, 4] [] (a0 :: a1 :: a2 :: a3 :: a4 :: L) (.int x :: st) S) Q = _
  simp only [mq_o_istore, mq_set1, hl]
  simp [mq_Y]
theorem mq_x_astore4 {P : List mq_T} {d k pc n : Nat} {L : mq_L} {st : List Value} {S : mq_S} {Q : (Option Value ⊕ Nat) → mq_S → Prop} {a0 a1 a2 a3 a4 : Option Value} {x : Nat} (h : mq_nl a3 = true) : mq_X P d k pc (7, [n, 4], []) (a0 :: a1 :: a2 :: a3 :: a4 :: L) (.ref x :: st) S Q = mq_R P d k n (a0 :: a1 :: a2 :: a3 :: some (.ref x) :: L) st S Q := by
  have hl : mq_lg (a0 :: a1 :: a2 :: a3 :: a4 :: L) 4 = false := mq_lg_nl rfl h
  show mq_Y P d k pc (mq_o_astore [n, 4] [] (a0 :: a1 :: a2 :: a3 :: a4 :: L) (.ref x :: st) S) Q = _
  simp only [mq_o_astore, mq_set1, hl]
  simp [mq_Y]
theorem mq_x_iinc4 {P : List mq_T} {d k pc n : Nat} {L : mq_L} {st : List Value} {S : mq_S} {Q : (Option Value ⊕ Nat) → mq_S → Prop} {a0 a1 a2 a3 : Option Value} {x : Int32} {c : Int} (h : mq_nl a3 = true) : mq_X P d k pc (8, [n, 4], [c]) (a0 :: a1 :: a2 :: a3 :: some (.int x) :: L) st S Q = mq_R P d k n (a0 :: a1 :: a2 :: a3 :: some (.int (x + Int32.ofInt c)) :: L) st S Q := by
  have hl : mq_lg (a0 :: a1 :: a2 :: a3 :: some (.int x) :: L) 4 = false := mq_lg_nl rfl h
  show mq_Y P d k pc (mq_o_iinc [n, 4] [c] (a0 :: a1 :: a2 :: a3 :: some (.int x) :: L) st S) Q = _
  simp only [mq_o_iinc, mq_set1, hl]
  simp [mq_Y, mq_set1, hl]
theorem mq_x_istore5 {P : List mq_T} {d k pc n : Nat} {L : mq_L} {st : List Value} {S : mq_S} {Q : (Option Value ⊕ Nat) → mq_S → Prop} {a0 a1 a2 a3 a4 a5 : Option Value} {x : Int32} (h : mq_nl a4 = true) : mq_X P d k pc (5, [n, 5], []) (a0 :: a1 :: a2 :: a3 :: a4 :: a5 :: L) (.int x :: st) S Q = mq_R P d k n (a0 :: a1 :: a2 :: a3 :: a4 :: some (.int x) :: L) st S Q := by
  have hl : mq_lg (a0 :: a1 :: a2 :: a3 :: a4 :: a5 :: L) 5 = false := mq_lg_nl rfl h
  show mq_Y P d k pc (mq_o_istore [n, 5] [] (a0 :: a1 :: a2 :: a3 :: a4 :: a5 :: L) (.int x :: st) S) Q = _
  simp only [mq_o_istore, mq_set1, hl]
  simp [mq_Y]
theorem mq_x_astore5 {P : List mq_T} {d k pc n : Nat} {L : mq_L} {st : List Value} {S : mq_S} {Q : (Option Value ⊕ Nat) → mq_S → Prop} {a0 a1 a2 a3 a4 a5 : Option Value} {x : Nat} (h : mq_nl a4 = true) : mq_X P d k pc (7, [n, 5], []) (a0 :: a1 :: a2 :: a3 :: a4 :: a5 :: L) (.ref x :: st) S Q = mq_R P d k n (a0 :: a1 :: a2 :: a3 :: a4 :: some (.ref x) :: L) st S Q := by
  have hl : mq_lg (a0 :: a1 :: a2 :: a3 :: a4 :: a5 :: L) 5 = false := mq_lg_nl rfl h
  show mq_Y P d k pc (mq_o_astore [n, 5] [] (a0 :: a1 :: a2 :: a3 :: a4 :: a5 :: L) (.ref x :: st) S) Q = _
  simp only [mq_o_astore, mq_set1, hl]
  simp [mq_Y]
theorem mq_x_iinc5 {P : List mq_T} {d k pc n : Nat} {L : mq_L} {st : List Value} {S : mq_S} {Q : (Option Value ⊕ Nat) → mq_S → Prop} {a0 a1 a2 a3 a4 : Option Value} {x : Int32} {c : Int} (h : mq_nl a4 = true) : mq_X P d k pc (8, [n, 5], [c]) (a0 :: a1 :: a2 :: a3 :: a4 :: some (.int x) :: L) st S Q = mq_R P d k n (a0 :: a1 :: a2 :: a3 :: a4 :: some (.int (x + Int32.ofInt c)) :: L) st S Q := by
  have hl : mq_lg (a0 :: a1 :: a2 :: a3 :: a4 :: some (.int x) :: L) 5 = false := mq_lg_nl rfl h
  show mq_Y P d k pc (mq_o_iinc [n, 5] [c] (a0 :: a1 :: a2 :: a3 :: a4 :: some (.int x) :: L) st S) Q = _
  simp only [mq_o_iinc, mq_set1, hl]
  simp [mq_Y, mq_set1, hl]
theorem mq_x_istore6 {P : List mq_T} {d k pc n : Nat} {L : mq_L} {st : List Value} {S : mq_S} {Q : (Option Value ⊕ Nat) → mq_S → Prop} {a0 a1 a2 a3 a4 a5 a6 : Option Value} {x : Int32} (h : mq_nl a5 = true) : mq_X P d k pc (5, [n, 6], []) (a0 :: a1 :: a2 :: a3 :: a4 :: a5 :: a6 :: L) (.int x :: st) S Q = mq_R P d k n (a0 :: a1 :: a2 :: a3 :: a4 :: a5 :: some (.int x) :: L) st S Q := by
  have hl : mq_lg (a0 :: a1 :: a2 :: a3 :: a4 :: a5 :: a6 :: L) 6 = false := mq_lg_nl rfl h
  show mq_Y P d k pc (mq_o_istore [n, 6] [] (a0 :: a1 :: a2 :: a3 :: a4 :: a5 :: a6 :: L) (.int x :: st) S) Q = _
  simp only [mq_o_istore, mq_set1, hl]
  simp [mq_Y]
theorem mq_x_astore6 {P : List mq_T} {d k pc n : Nat} {L : mq_L} {st : List Value} {S : mq_S} {Q : (Option Value ⊕ Nat) → mq_S → Prop} {a0 a1 a2 a3 a4 a5 a6 : Option Value} {x : Nat} (h : mq_nl a5 = true) : mq_X P d k pc (7, [n, 6], []) (a0 :: a1 :: a2 :: a3 :: a4 :: a5 :: a6 :: L) (.ref x :: st) S Q = mq_R P d k n (a0 :: a1 :: a2 :: a3 :: a4 :: a5 :: some (.ref x) :: L) st S Q := by
  have hl : mq_lg (a0 :: a1 :: a2 :: a3 :: a4 :: a5 :: a6 :: L) 6 = false := mq_lg_nl rfl h
  show mq_Y P d k pc (mq_o_astore [n, 6] [] (a0 :: a1 :: a2 :: a3 :: a4 :: a5 :: a6 :: L) (.ref x :: st) S) Q = _
  simp only [mq_o_astore, mq_set1, hl]
  simp [mq_Y]
theorem mq_x_iinc6 {P : List mq_T} {d k pc n : Nat} {L : mq_L} {st : List Value} {S : mq_S} {Q : (Option Value ⊕ Nat) → mq_S → Prop} {a0 a1 a2 a3 a4 a5 : Option Value} {x : Int32} {c : Int} (h : mq_nl a5 = true) : mq_X P d k pc (8, [n, 6], [c]) (a0 :: a1 :: a2 :: a3 :: a4 :: a5 :: some (.int x) :: L) st S Q = mq_R P d k n (a0 :: a1 :: a2 :: a3 :: a4 :: a5 :: some (.int (x + Int32.ofInt c)) :: L) st S Q := by
  have hl : mq_lg (a0 :: a1 :: a2 :: a3 :: a4 :: a5 :: some (.int x) :: L) 6 = false := mq_lg_nl rfl h
  show mq_Y P d k pc (mq_o_iinc [n, 6] [c] (a0 :: a1 :: a2 :: a3 :: a4 :: a5 :: some (.int x) :: L) st S) Q = _
  simp only [mq_o_iinc, mq_set1, hl]
  simp [mq_Y, mq_set1, hl]
theorem mq_x_istore7 {P : List mq_T} {d k pc n : Nat} {L : mq_L} {st : List Value} {S : mq_S} {Q : (Option Value ⊕ Nat) → mq_S → Prop} {a0 a1 a2 a3 a4 a5 a6 a7 : Option Value} {x : Int32} (h : mq_nl a6 = true) : mq_X P d k pc (5, [n, 7], []) (a0 :: a1 :: a2 :: a3 :: a4 :: a5 :: a6 :: a7 :: L) (.int x :: st) S Q = mq_R P d k n (a0 :: a1 :: a2 :: a3 :: a4 :: a5 :: a6 :: some (.int x) :: L) st S Q := by
  have hl : mq_lg (a0 :: a1 :: a2 :: a3 :: a4 :: a5 :: a6 :: a7 :: L) 7 = false := mq_lg_nl rfl h
  show mq_Y P d k pc (mq_o_istore [n, 7] [] (a0 :: a1 :: a2 :: a3 :: a4 :: a5 :: a6 :: a7 :: L) (.int x :: st) S) Q = _
  simp only [mq_o_istore, mq_set1, hl]
  simp [mq_Y]
theorem mq_x_astore7 {P : List mq_T} {d k pc n : Nat} {L : mq_L} {st : List Value} {S : mq_S} {Q : (Option Value ⊕ Nat) → mq_S → Prop} {a0 a1 a2 a3 a4 a5 a6 a7 : Option Value} {x : Nat} (h : mq_nl a6 = true) : mq_X P d k pc (7, [n, 7], []) (a0 :: a1 :: a2 :: a3 :: a4 :: a5 :: a6 :: a7 :: L) (.ref x :: st) S Q = mq_R P d k n (a0 :: a1 :: a2 :: a3 :: a4 :: a5 :: a6 :: some (.ref x) :: L) st S Q := by
  have hl : mq_lg (a0 :: a1 :: a2 :: a3 :: a4 :: a5 :: a6 :: a7 :: L) 7 = false := mq_lg_nl rfl h
  show mq_Y P d k pc (mq_o_astore [n, 7] [] (a0 :: a1 :: a2 :: a3 :: a4 :: a5 :: a6 :: a7 :: L) (.ref x :: st) S) Q = _
  simp only [mq_o_astore, mq_set1, hl]
  simp [mq_Y]
theorem mq_x_iinc7 {P : List mq_T} {d k pc n : Nat} {L : mq_L} {st : List Value} {S : mq_S} {Q : (Option Value ⊕ Nat) → mq_S → Prop} {a0 a1 a2 a3 a4 a5 a6 : Option Value} {x : Int32} {c : Int} (h : mq_nl a6 = true) : mq_X P d k pc (8, [n, 7], [c]) (a0 :: a1 :: a2 :: a3 :: a4 :: a5 :: a6 :: some (.int x) :: L) st S Q = mq_R P d k n (a0 :: a1 :: a2 :: a3 :: a4 :: a5 :: a6 :: some (.int (x + Int32.ofInt c)) :: L) st S Q := by
  have hl : mq_lg (a0 :: a1 :: a2 :: a3 :: a4 :: a5 :: a6 :: some (.int x) :: L) 7 = false := mq_lg_nl rfl h
  show mq_Y P d k pc (mq_o_iinc [n, 7] [c] (a0 :: a1 :: a2 :: a3 :: a4 :: a5 :: a6 :: some (.int x) :: L) st S) Q = _
  simp only [mq_o_iinc, mq_set1, hl]
  simp [mq_Y, mq_set1, hl]
theorem mq_x_istore8 {P : List mq_T} {d k pc n : Nat} {L : mq_L} {st : List Value} {S : mq_S} {Q : (Option Value ⊕ Nat) → mq_S → Prop} {a0 a1 a2 a3 a4 a5 a6 a7 a8 : Option Value} {x : Int32} (h : mq_nl a7 = true) : mq_X P d k pc (5, [n, 8], []) (a0 :: a1 :: a2 :: a3 :: a4 :: a5 :: a6 :: a7 :: a8 :: L) (.int x :: st) S Q = mq_R P d k n (a0 :: a1 :: a2 :: a3 :: a4 :: a5 :: a6 :: a7 :: some (.int x) :: L) st S Q := by
  have hl : mq_lg (a0 :: a1 :: a2 :: a3 :: a4 :: a5 :: a6 :: a7 :: a8 :: L) 8 = false := mq_lg_nl rfl h
  show mq_Y P d k pc (mq_o_istore [n, 8] [] (a0 :: a1 :: a2 :: a3 :: a4 :: a5 :: a6 :: a7 :: a8 :: L) (.int x :: st) S) Q = _
  simp only [mq_o_istore, mq_set1, hl]
  simp [mq_Y]
theorem mq_x_astore8 {P : List mq_T} {d k pc n : Nat} {L : mq_L} {st : List Value} {S : mq_S} {Q : (Option Value ⊕ Nat) → mq_S → Prop} {a0 a1 a2 a3 a4 a5 a6 a7 a8 : Option Value} {x : Nat} (h : mq_nl a7 = true) : mq_X P d k pc (7, [n, 8], []) (a0 :: a1 :: a2 :: a3 :: a4 :: a5 :: a6 :: a7 :: a8 :: L) (.ref x :: st) S Q = mq_R P d k n (a0 :: a1 :: a2 :: a3 :: a4 :: a5 :: a6 :: a7 :: some (.ref x) :: L) st S Q := by
  have hl : mq_lg (a0 :: a1 :: a2 :: a3 :: a4 :: a5 :: a6 :: a7 :: a8 :: L) 8 = false := mq_lg_nl rfl h
  show mq_Y P d k pc (mq_o_astore [n, 8] [] (a0 :: a1 :: a2 :: a3 :: a4 :: a5 :: a6 :: a7 :: a8 :: L) (.ref x :: st) S) Q = _
  simp only [mq_o_astore, mq_set1, hl]
  simp [mq_Y]
theorem mq_x_iinc8 {P : List mq_T} {d k pc n : Nat} {L : mq_L} {st : List Value} {S : mq_S} {Q : (Option Value ⊕ Nat) → mq_S → Prop} {a0 a1 a2 a3 a4 a5 a6 a7 : Option Value} {x : Int32} {c : Int} (h : mq_nl a7 = true) : mq_X P d k pc (8, [n, 8], [c]) (a0 :: a1 :: a2 :: a3 :: a4 :: a5 :: a6 :: a7 :: some (.int x) :: L) st S Q = mq_R P d k n (a0 :: a1 :: a2 :: a3 :: a4 :: a5 :: a6 :: a7 :: some (.int (x + Int32.ofInt c)) :: L) st S Q := by
  have hl : mq_lg (a0 :: a1 :: a2 :: a3 :: a4 :: a5 :: a6 :: a7 :: some (.int x) :: L) 8 = false := mq_lg_nl rfl h
  show mq_Y P d k pc (mq_o_iinc [n, 8] [c] (a0 :: a1 :: a2 :: a3 :: a4 :: a5 :: a6 :: a7 :: some (.int x) :: L) st S) Q = _
  simp only [mq_o_iinc, mq_set1, hl]
  simp [mq_Y, mq_set1, hl]
theorem mq_x_istore9 {P : List mq_T} {d k pc n : Nat} {L : mq_L} {st : List Value} {S : mq_S} {Q : (Option Value ⊕ Nat) → mq_S → Prop} {a0 a1 a2 a3 a4 a5 a6 a7 a8 a9 : Option Value} {x : Int32} (h : mq_nl a8 = true) : mq_X P d k pc (5, [n, 9], []) (a0 :: a1 :: a2 :: a3 :: a4 :: a5 :: a6 :: a7 :: a8 :: a9 :: L) (.int x :: st) S Q = mq_R P d k n (a0 :: a1 :: a2 :: a3 :: a4 :: a5 :: a6 :: a7 :: a8 :: some (.int x) :: L) st S Q := by
  have hl : mq_lg (a0 :: a1 :: a2 :: a3 :: a4 :: a5 :: a6 :: a7 :: a8 :: a9 :: L) 9 = false := mq_lg_nl rfl h
  show mq_Y P d k pc (mq_o_istore [n, 9] [] (a0 :: a1 :: a2 :: a3 :: a4 :: a5 :: a6 :: a7 :: a8 :: a9 :: L) (.int x :: st) S) Q = _
  simp only [mq_o_istore, mq_set1, hl]
  simp [mq_Y]
theorem mq_x_astore9 {P : List mq_T} {d k pc n : Nat} {L : mq_L} {st : List Value} {S : mq_S} {Q : (Option Value ⊕ Nat) → mq_S → Prop} {a0 a1 a2 a3 a4 a5 a6 a7 a8 a9 : Option Value} {x : Nat} (h : mq_nl a8 = true) : mq_X P d k pc (7, [n, 9], []) (a0 :: a1 :: a2 :: a3 :: a4 :: a5 :: a6 :: a7 :: a8 :: a9 :: L) (.ref x :: st) S Q = mq_R P d k n (a0 :: a1 :: a2 :: a3 :: a4 :: a5 :: a6 :: a7 :: a8 :: some (.ref x) :: L) st S Q := by
  have hl : mq_lg (a0 :: a1 :: a2 :: a3 :: a4 :: a5 :: a6 :: a7 :: a8 :: a9 :: L) 9 = false := mq_lg_nl rfl h
  show mq_Y P d k pc (mq_o_astore [n, 9] [] (a0 :: a1 :: a2 :: a3 :: a4 :: a5 :: a6 :: a7 :: a8 :: a9 :: L) (.ref x :: st) S) Q = _
  simp only [mq_o_astore, mq_set1, hl]
  simp [mq_Y]
theorem mq_x_iinc9 {P : List mq_T} {d k pc n : Nat} {L : mq_L} {st : List Value} {S : mq_S} {Q : (Option Value ⊕ Nat) → mq_S → Prop} {a0 a1 a2 a3 a4 a5 a6 a7 a8 : Option Value} {x : Int32} {c : Int} (h : mq_nl a8 = true) : mq_X P d k pc (8, [n, 9], [c]) (a0 :: a1 :: a2 :: a3 :: a4 :: a5 :: a6 :: a7 :: a8 :: some (.int x) :: L) st S Q = mq_R P d k n (a0 :: a1 :: a2 :: a3 :: a4 :: a5 :: a6 :: a7 :: a8 :: some (.int (x + Int32.ofInt c)) :: L) st S Q := by
  have hl : mq_lg (a0 :: a1 :: a2 :: a3 :: a4 :: a5 :: a6 :: a7 :: a8 :: some (.int x) :: L) 9 = false := mq_lg_nl rfl h
  show mq_Y P d k pc (mq_o_iinc [n, 9] [c] (a0 :: a1 :: a2 :: a3 :: a4 :: a5 :: a6 :: a7 :: a8 :: some (.int x) :: L) st S) Q = _
  simp only [mq_o_iinc, mq_set1, hl]
  simp [mq_Y, mq_set1, hl]
theorem mq_x_istore10 {P : List mq_T} {d k pc n : Nat} {L : mq_L} {st : List Value} {S : mq_S} {Q : (Option Value ⊕ Nat) → mq_S → Prop} {a0 a1 a2 a3 a4 a5 a6 a7 a8 a9 a10 : Option Value} {x : Int32} (h : mq_nl a9 = true) : mq_X P d k pc (5, [n, 10], []) (a0 :: a1 :: a2 :: a3 :: a4 :: a5 :: a6 :: a7 :: a8 :: a9 :: a10 :: L) (.int x :: st) S Q = mq_R P d k n (a0 :: a1 :: a2 :: a3 :: a4 :: a5 :: a6 :: a7 :: a8 :: a9 :: some (.int x) :: L) st S Q := by
  have hl : mq_lg (a0 :: a1 :: a2 :: a3 :: a4 :: a5 :: a6 :: a7 :: a8 :: a9 :: a10 :: L) 10 = false := mq_lg_nl rfl h
  show mq_Y P d k pc (mq_o_istore [n, 10] [] (a0 :: a1 :: a2 :: a3 :: a4 :: a5 :: a6 :: a7 :: a8 :: a9 :: a10 :: L) (.int x :: st) S) Q = _
  simp only [mq_o_istore, mq_set1, hl]
  simp [mq_Y]
theorem mq_x_astore10 {P : List mq_T} {d k pc n : Nat} {L : mq_L} {st : List Value} {S : mq_S} {Q : (Option Value ⊕ Nat) → mq_S → Prop} {a0 a1 a2 a3 a4 a5 a6 a7 a8 a9 a10 : Option Value} {x : Nat} (h : mq_nl a9 = true) : mq_X P d k pc (7, [n, 10], []) (a0 :: a1 :: a2 :: a3 :: a4 :: a5 :: a6 :: a7 :: a8 :: a9 :: a10 :: L) (.ref x :: st) S Q = mq_R P d k n (a0 :: a1 :: a2 :: a3 :: a4 :: a5 :: a6 :: a7 :: a8 :: a9 :: some (.ref x) :: L) st S Q := by
  have hl : mq_lg (a0 :: a1 :: a2 :: a3 :: a4 :: a5 :: a6 :: a7 :: a8 :: a9 :: a10 :: L) 10 = false := mq_lg_nl rfl h
  show mq_Y P d k pc (mq_o_astore [n, 10] [] (a0 :: a1 :: a2 :: a3 :: a4 :: a5 :: a6 :: a7 :: a8 :: a9 :: a10 :: L) (.ref x :: st) S) Q = _
  simp only [mq_o_astore, mq_set1, hl]
  simp [mq_Y]
theorem mq_x_iinc10 {P : List mq_T} {d k pc n : Nat} {L : mq_L} {st : List Value} {S : mq_S} {Q : (Option Value ⊕ Nat) → mq_S → Prop} {a0 a1 a2 a3 a4 a5 a6 a7 a8 a9 : Option Value} {x : Int32} {c : Int} (h : mq_nl a9 = true) : mq_X P d k pc (8, [n, 10], [c]) (a0 :: a1 :: a2 :: a3 :: a4 :: a5 :: a6 :: a7 :: a8 :: a9 :: some (.int x) :: L) st S Q = mq_R P d k n (a0 :: a1 :: a2 :: a3 :: a4 :: a5 :: a6 :: a7 :: a8 :: a9 :: some (.int (x + Int32.ofInt c)) :: L) st S Q := by
  have hl : mq_lg (a0 :: a1 :: a2 :: a3 :: a4 :: a5 :: a6 :: a7 :: a8 :: a9 :: some (.int x) :: L) 10 = false := mq_lg_nl rfl h
  show mq_Y P d k pc (mq_o_iinc [n, 10] [c] (a0 :: a1 :: a2 :: a3 :: a4 :: a5 :: a6 :: a7 :: a8 :: a9 :: some (.int x) :: L) st S) Q = _
  simp only [mq_o_iinc, mq_set1, hl]
  simp [mq_Y, mq_set1, hl]
theorem mq_x_istore11 {P : List mq_T} {d k pc n : Nat} {L : mq_L} {st : List Value} {S : mq_S} {Q : (Option Value ⊕ Nat) → mq_S → Prop} {a0 a1 a2 a3 a4 a5 a6 a7 a8 a9 a10 a11 : Option Value} {x : Int32} (h : mq_nl a10 = true) : mq_X P d k pc (5, [n, 11], []) (a0 :: a1 :: a2 :: a3 :: a4 :: a5 :: a6 :: a7 :: a8 :: a9 :: a10 :: a11 :: L) (.int x :: st) S Q = mq_R P d k n (a0 :: a1 :: a2 :: a3 :: a4 :: a5 :: a6 :: a7 :: a8 :: a9 :: a10 :: some (.int x) :: L) st S Q := by
  have hl : mq_lg (a0 :: a1 :: a2 :: a3 :: a4 :: a5 :: a6 :: a7 :: a8 :: a9 :: a10 :: a11 :: L) 11 = false := mq_lg_nl rfl h
  show mq_Y P d k pc (mq_o_istore [n, 11] [] (a0 :: a1 :: a2 :: a3 :: a4 :: a5 :: a6 :: a7 :: a8 :: a9 :: a10 :: a11 :: L) (.int x :: st) S) Q = _
  simp only [mq_o_istore, mq_set1, hl]
  simp [mq_Y]
theorem mq_x_astore11 {P : List mq_T} {d k pc n : Nat} {L : mq_L} {st : List Value} {S : mq_S} {Q : (Option Value ⊕ Nat) → mq_S → Prop} {a0 a1 a2 a3 a4 a5 a6 a7 a8 a9 a10 a11 : Option Value} {x : Nat} (h : mq_nl a10 = true) : mq_X P d k pc (7, [n, 11], []) (a0 :: a1 :: a2 :: a3 :: a4 :: a5 :: a6 :: a7 :: a8 :: a9 :: a10 :: a11 :: L) (.ref x :: st) S Q = mq_R P d k n (a0 :: a1 :: a2 :: a3 :: a4 :: a5 :: a6 :: a7 :: a8 :: a9 :: a10 :: some (.ref x) :: L) st S Q := by
  have hl : mq_lg (a0 :: a1 :: a2 :: a3 :: a4 :: a5 :: a6 :: a7 :: a8 :: a9 :: a10 :: a11 :: L) 11 = false := mq_lg_nl rfl h
  show mq_Y P d k pc (mq_o_astore [n, 11] [] (a0 :: a1 :: a2 :: a3 :: a4 :: a5 :: a6 :: a7 :: a8 :: a9 :: a10 :: a11 :: L) (.ref x :: st) S) Q = _
  simp only [mq_o_astore, mq_set1, hl]
  simp [mq_Y]
theorem mq_x_iinc11 {P : List mq_T} {d k pc n : Nat} {L : mq_L} {st : List Value} {S : mq_S} {Q : (Option Value ⊕ Nat) → mq_S → Prop} {a0 a1 a2 a3 a4 a5 a6 a7 a8 a9 a10 : Option Value} {x : Int32} {c : Int} (h : mq_nl a10 = true) : mq_X P d k pc (8, [n, 11], [c]) (a0 :: a1 :: a2 :: a3 :: a4 :: a5 :: a6 :: a7 :: a8 :: a9 :: a10 :: some (.int x) :: L) st S Q = mq_R P d k n (a0 :: a1 :: a2 :: a3 :: a4 :: a5 :: a6 :: a7 :: a8 :: a9 :: a10 :: some (.int (x + Int32.ofInt c)) :: L) st S Q := by
  have hl : mq_lg (a0 :: a1 :: a2 :: a3 :: a4 :: a5 :: a6 :: a7 :: a8 :: a9 :: a10 :: some (.int x) :: L) 11 = false := mq_lg_nl rfl h
  show mq_Y P d k pc (mq_o_iinc [n, 11] [c] (a0 :: a1 :: a2 :: a3 :: a4 :: a5 :: a6 :: a7 :: a8 :: a9 :: a10 :: some (.int x) :: L) st S) Q = _
  simp only [mq_o_iinc, mq_set1, hl]
  simp [mq_Y, mq_set1, hl]
theorem mq_x_istore12 {P : List mq_T} {d k pc n : Nat} {L : mq_L} {st : List Value} {S : mq_S} {Q : (Option Value ⊕ Nat) → mq_S → Prop} {a0 a1 a2 a3 a4 a5 a6 a7 a8 a9 a10 a11 a12 : Option Value} {x : Int32} (h : mq_nl a11 = true) : mq_X P d k pc (5, [n, 12], []) (a0 :: a1 :: a2 :: a3 :: a4 :: a5 :: a6 :: a7 :: a8 :: a9 :: a10 :: a11 :: a12 :: L) (.int x :: st) S Q = mq_R P d k n (a0 :: a1 :: a2 :: a3 :: a4 :: a5 :: a6 :: a7 :: a8 :: a9 :: a10 :: a11 :: some (.int x) :: L) st S Q := by
  have hl : mq_lg (a0 :: a1 :: a2 :: a3 :: a4 :: a5 :: a6 :: a7 :: a8 :: a9 :: a10 :: a11 :: a12 :: L) 12 = false := mq_lg_nl rfl h
  show mq_Y P d k pc (mq_o_istore [n, 12] [] (a0 :: a1 :: a2 :: a3 :: a4 :: a5 :: a6 :: a7 :: a8 :: a9 :: a10 :: a11 :: a12 :: L) (.int x :: st) S) Q = _
  simp only [mq_o_istore, mq_set1, hl]
  simp [mq_Y]
theorem mq_x_astore12 {P : List mq_T} {d k pc n : Nat} {L : mq_L} {st : List Value} {S : mq_S} {Q : (Option Value ⊕ Nat) → mq_S → Prop} {a0 a1 a2 a3 a4 a5 a6 a7 a8 a9 a10 a11 a12 : Option Value} {x : Nat} (h : mq_nl a11 = true) : mq_X P d k pc (7, [n, 12], []) (a0 :: a1 :: a2 :: a3 :: a4 :: a5 :: a6 :: a7 :: a8 :: a9 :: a10 :: a11 :: a12 :: L) (.ref x :: st) S Q = mq_R P d k n (a0 :: a1 :: a2 :: a3 :: a4 :: a5 :: a6 :: a7 :: a8 :: a9 :: a10 :: a11 :: some (.ref x) :: L) st S Q := by
  have hl : mq_lg (a0 :: a1 :: a2 :: a3 :: a4 :: a5 :: a6 :: a7 :: a8 :: a9 :: a10 :: a11 :: a12 :: L) 12 = false := mq_lg_nl rfl h
  show mq_Y P d k pc (mq_o_astore [n, 12] [] (a0 :: a1 :: a2 :: a3 :: a4 :: a5 :: a6 :: a7 :: a8 :: a9 :: a10 :: a11 :: a12 :: L) (.ref x :: st) S) Q = _
  simp only [mq_o_astore, mq_set1, hl]
  simp [mq_Y]
theorem mq_x_iinc12 {P : List mq_T} {d k pc n : Nat} {L : mq_L} {st : List Value} {S : mq_S} {Q : (Option Value ⊕ Nat) → mq_S → Prop} {a0 a1 a2 a3 a4 a5 a6 a7 a8 a9 a10 a11 : Option Value} {x : Int32} {c : Int} (h : mq_nl a11 = true) : mq_X P d k pc (8, [n, 12], [c]) (a0 :: a1 :: a2 :: a3 :: a4 :: a5 :: a6 :: a7 :: a8 :: a9 :: a10 :: a11 :: some (.int x) :: L) st S Q = mq_R P d k n (a0 :: a1 :: a2 :: a3 :: a4 :: a5 :: a6 :: a7 :: a8 :: a9 :: a10 :: a11 :: some (.int (x + Int32.ofInt c)) :: L) st S Q := by
  have hl : mq_lg (a0 :: a1 :: a2 :: a3 :: a4 :: a5 :: a6 :: a7 :: a8 :: a9 :: a10 :: a11 :: some (.int x) :: L) 12 = false := mq_lg_nl rfl h
  show mq_Y P d k pc (mq_o_iinc [n, 12] [c] (a0 :: a1 :: a2 :: a3 :: a4 :: a5 :: a6 :: a7 :: a8 :: a9 :: a10 :: a11 :: some (.int x) :: L) st S) Q = _
  simp only [mq_o_iinc, mq_set1, hl]
  simp [mq_Y, mq_set1, hl]
theorem mq_x_istore13 {P : List mq_T} {d k pc n : Nat} {L : mq_L} {st : List Value} {S : mq_S} {Q : (Option Value ⊕ Nat) → mq_S → Prop} {a0 a1 a2 a3 a4 a5 a6 a7 a8 a9 a10 a11 a12 a13 : Option Value} {x : Int32} (h : mq_nl a12 = true) : mq_X P d k pc (5, [n, 13], []) (a0 :: a1 :: a2 :: a3 :: a4 :: a5 :: a6 :: a7 :: a8 :: a9 :: a10 :: a11 :: a12 :: a13 :: L) (.int x :: st) S Q = mq_R P d k n (a0 :: a1 :: a2 :: a3 :: a4 :: a5 :: a6 :: a7 :: a8 :: a9 :: a10 :: a11 :: a12 :: some (.int x) :: L) st S Q := by
  have hl : mq_lg (a0 :: a1 :: a2 :: a3 :: a4 :: a5 :: a6 :: a7 :: a8 :: a9 :: a10 :: a11 :: a12 :: a13 :: L) 13 = false := mq_lg_nl rfl h
  show mq_Y P d k pc (mq_o_istore [n, 13] [] (a0 :: a1 :: a2 :: a3 :: a4 :: a5 :: a6 :: a7 :: a8 :: a9 :: a10 :: a11 :: a12 :: a13 :: L) (.int x :: st) S) Q = _
  simp only [mq_o_istore, mq_set1, hl]
  simp [mq_Y]
theorem mq_x_astore13 {P : List mq_T} {d k pc n : Nat} {L : mq_L} {st : List Value} {S : mq_S} {Q : (Option Value ⊕ Nat) → mq_S → Prop} {a0 a1 a2 a3 a4 a5 a6 a7 a8 a9 a10 a11 a12 a13 : Option Value} {x : Nat} (h : mq_nl a12 = true) : mq_X P d k pc (7, [n, 13], []) (a0 :: a1 :: a2 :: a3 :: a4 :: a5 :: a6 :: a7 :: a8 :: a9 :: a10 :: a11 :: a12 :: a13 :: L) (.ref x :: st) S Q = mq_R P d k n (a0 :: a1 :: a2 :: a3 :: a4 :: a5 :: a6 :: a7 :: a8 :: a9 :: a10 :: a11 :: a12 :: some (.ref x) :: L) st S Q := by
  have hl : mq_lg (a0 :: a1 :: a2 :: a3 :: a4 :: a5 :: a6 :: a7 :: a8 :: a9 :: a10 :: a11 :: a12 :: a13 :: L) 13 = false := mq_lg_nl rfl h
  show mq_Y P d k pc (mq_o_astore [n, 13] [] (a0 :: a1 :: a2 :: a3 :: a4 :: a5 :: a6 :: a7 :: a8 :: a9 :: a10 :: a11 :: a12 :: a13 :: L) (.ref x :: st) S) Q = _
  simp only [mq_o_astore, mq_set1, hl]
  simp [mq_Y]
theorem mq_x_iinc13 {P : List mq_T} {d k pc n : Nat} {L : mq_L} {st : List Value} {S : mq_S} {Q : (Option Value ⊕ Nat) → mq_S → Prop} {a0 a1 a2 a3 a4 a5 a6 a7 a8 a9 a10 a11 a12 : Option Value} {x : Int32} {c : Int} (h : mq_nl a12 = true) : mq_X P d k pc (8, [n, 13], [c]) (a0 :: a1 :: a2 :: a3 :: a4 :: a5 :: a6 :: a7 :: a8 :: a9 :: a10 :: a11 :: a12 :: some (.int x) :: L) st S Q = mq_R P d k n (a0 :: a1 :: a2 :: a3 :: a4 :: a5 :: a6 :: a7 :: a8 :: a9 :: a10 :: a11 :: a12 :: some (.int (x + Int32.ofInt c)) :: L) st S Q := by
  have hl : mq_lg (a0 :: a1 :: a2 :: a3 :: a4 :: a5 :: a6 :: a7 :: a8 :: a9 :: a10 :: a11 :: a12 :: some (.int x) :: L) 13 = false := mq_lg_nl rfl h
  show mq_Y P d k pc (mq_o_iinc [n, 13] [c] (a0 :: a1 :: a2 :: a3 :: a4 :: a5 :: a6 :: a7 :: a8 :: a9 :: a10 :: a11 :: a12 :: some (.int x) :: L) st S) Q = _
  simp only [mq_o_iinc, mq_set1, hl]
  simp [mq_Y, mq_set1, hl]
theorem mq_x_istore14 {P : List mq_T} {d k pc n : Nat} {L : mq_L} {st : List Value} {S : mq_S} {Q : (Option Value ⊕ Nat) → mq_S → Prop} {a0 a1 a2 a3 a4 a5 a6 a7 a8 a9 a10 a11 a12 a13 a14 : Option Value} {x : Int32} (h : mq_nl a13 = true) : mq_X P d k pc (5, [n, 14], []) (a0 :: a1 :: a2 :: a3 :: a4 :: a5 :: a6 :: a7 :: a8 :: a9 :: a10 :: a11 :: a12 :: a13 :: a14 :: L) (.int x :: st) S Q = mq_R P d k n (a0 :: a1 :: a2 :: a3 :: a4 :: a5 :: a6 :: a7 :: a8 :: a9 :: a10 :: a11 :: a12 :: a13 :: some (.int x) :: L) st S Q := by
  have hl : mq_lg (a0 :: a1 :: a2 :: a3 :: a4 :: a5 :: a6 :: a7 :: a8 :: a9 :: a10 :: a11 :: a12 :: a13 :: a14 :: L) 14 = false := mq_lg_nl rfl h
  show mq_Y P d k pc (mq_o_istore [n, 14] [] (a0 :: a1 :: a2 :: a3 :: a4 :: a5 :: a6 :: a7 :: a8 :: a9 :: a10 :: a11 :: a12 :: a13 :: a14 :: L) (.int x :: st) S) Q = _
  simp only [mq_o_istore, mq_set1, hl]
  simp [mq_Y]
theorem mq_x_astore14 {P : List mq_T} {d k pc n : Nat} {L : mq_L} {st : List Value} {S : mq_S} {Q : (Option Value ⊕ Nat) → mq_S → Prop} {a0 a1 a2 a3 a4 a5 a6 a7 a8 a9 a10 a11 a12 a13 a14 : Option Value} {x : Nat} (h : mq_nl a13 = true) : mq_X P d k pc (7, [n, 14], []) (a0 :: a1 :: a2 :: a3 :: a4 :: a5 :: a6 :: a7 :: a8 :: a9 :: a10 :: a11 :: a12 :: a13 :: a14 :: L) (.ref x :: st) S Q = mq_R P d k n (a0 :: a1 :: a2 :: a3 :: a4 :: a5 :: a6 :: a7 :: a8 :: a9 :: a10 :: a11 :: a12 :: a13 :: some (.ref x) :: L) st S Q := by
  have hl : mq_lg (a0 :: a1 :: a2 :: a3 :: a4 :: a5 :: a6 :: a7 :: a8 :: a9 :: a10 :: a11 :: a12 :: a13 :: a14 :: L) 14 = false := mq_lg_nl rfl h
  show mq_Y P d k pc (mq_o_astore [n, 14] [] (a0 :: a1 :: a2 :: a3 :: a4 :: a5 :: a6 :: a7 :: a8 :: a9 :: a10 :: a11 :: a12 :: a13 :: a14 :: L) (.ref x :: st) S) Q = _
  simp only [mq_o_astore, mq_set1, hl]
  simp [mq_Y]
theorem mq_x_iinc14 {P : List mq_T} {d k pc n : Nat} {L : mq_L} {st : List Value} {S : mq_S} {Q : (Option Value ⊕ Nat) → mq_S → Prop} {a0 a1 a2 a3 a4 a5 a6 a7 a8 a9 a10 a11 a12 a13 : Option Value} {x : Int32} {c : Int} (h : mq_nl a13 = true) : mq_X P d k pc (8, [n, 14], [c]) (a0 :: a1 :: a2 :: a3 :: a4 :: a5 :: a6 :: a7 :: a8 :: a9 :: a10 :: a11 :: a12 :: a13 :: some (.int x) :: L) st S Q = mq_R P d k n (a0 :: a1 :: a2 :: a3 :: a4 :: a5 :: a6 :: a7 :: a8 :: a9 :: a10 :: a11 :: a12 :: a13 :: some (.int (x + Int32.ofInt c)) :: L) st S Q := by
  have hl : mq_lg (a0 :: a1 :: a2 :: a3 :: a4 :: a5 :: a6 :: a7 :: a8 :: a9 :: a10 :: a11 :: a12 :: a13 :: some (.int x) :: L) 14 = false := mq_lg_nl rfl h
  show mq_Y P d k pc (mq_o_iinc [n, 14] [c] (a0 :: a1 :: a2 :: a3 :: a4 :: a5 :: a6 :: a7 :: a8 :: a9 :: a10 :: a11 :: a12 :: a13 :: some (.int x) :: L) st S) Q = _
  simp only [mq_o_iinc, mq_set1, hl]
  simp [mq_Y, mq_set1, hl]
theorem mq_x_istore15 {P : List mq_T} {d k pc n : Nat} {L : mq_L} {st : List Value} {S : mq_S} {Q : (Option Value ⊕ Nat) → mq_S → Prop} {a0 a1 a2 a3 a4 a5 a6 a7 a8 a9 a10 a11 a12 a13 a14 a15 : Option Value} {x : Int32} (h : mq_nl a14 = true) : mq_X P d k pc (5, [n, 15], []) (a0 :: a1 :: a2 :: a3 :: a4 :: a5 :: a6 :: a7 :: a8 :: a9 :: a10 :: a11 :: a12 :: a13 :: a14 :: a15 :: L) (.int x :: st) S Q = mq_R P d k n (a0 :: a1 :: a2 :: a3 :: a4 :: a5 :: a6 :: a7 :: a8 :: a9 :: a10 :: a11 :: a12 :: a13 :: a14 :: some (.int x) :: L) st S Q := by
  have hl : mq_lg (a0 :: a1 :: a2 :: a3 :: a4 :: a5 :: a6 :: a7 :: a8 :: a9 :: a10 :: a11 :: a12 :: a13 :: a14 :: a15 :: L) 15 = false := mq_lg_nl rfl h
  show mq_Y P d k pc (mq_o_istore [n, 15] [] (a0 :: a1 :: a2 :: a3 :: a4 :: a5 :: a6 :: a7 :: a8 :: a9 :: a10 :: a11 :: a12 :: a13 :: a14 :: a15 :: L) (.int x :: st) S) Q = _
  simp only [mq_o_istore, mq_set1, hl]
  simp [mq_Y]
theorem mq_x_astore15 {P : List mq_T} {d k pc n : Nat} {L : mq_L} {st : List Value} {S : mq_S} {Q : (Option Value ⊕ Nat) → mq_S → Prop} {a0 a1 a2 a3 a4 a5 a6 a7 a8 a9 a10 a11 a12 a13 a14 a15 : Option Value} {x : Nat} (h : mq_nl a14 = true) : mq_X P d k pc (7, [n, 15], []) (a0 :: a1 :: a2 :: a3 :: a4 :: a5 :: a6 :: a7 :: a8 :: a9 :: a10 :: a11 :: a12 :: a13 :: a14 :: a15 :: L) (.ref x :: st) S Q = mq_R P d k n (a0 :: a1 :: a2 :: a3 :: a4 :: a5 :: a6 :: a7 :: a8 :: a9 :: a10 :: a11 :: a12 :: a13 :: a14 :: some (.ref x) :: L) st S Q := by
  have hl : mq_lg (a0 :: a1 :: a2 :: a3 :: a4 :: a5 :: a6 :: a7 :: a8 :: a9 :: a10 :: a11 :: a12 :: a13 :: a14 :: a15 :: L) 15 = false := mq_lg_nl rfl h
  show mq_Y P d k pc (mq_o_astore [n, 15] [] (a0 :: a1 :: a2 :: a3 :: a4 :: a5 :: a6 :: a7 :: a8 :: a9 :: a10 :: a11 :: a12 :: a13 :: a14 :: a15 :: L) (.ref x :: st) S) Q = _
  simp only [mq_o_astore, mq_set1, hl]
  simp [mq_Y]
theorem mq_x_iinc15 {P : List mq_T} {d k pc n : Nat} {L : mq_L} {st : List Value} {S : mq_S} {Q : (Option Value ⊕ Nat) → mq_S → Prop} {a0 a1 a2 a3 a4 a5 a6 a7 a8 a9 a10 a11 a12 a13 a14 : Option Value} {x : Int32} {c : Int} (h : mq_nl a14 = true) : mq_X P d k pc (8, [n, 15], [c]) (a0 :: a1 :: a2 :: a3 :: a4 :: a5 :: a6 :: a7 :: a8 :: a9 :: a10 :: a11 :: a12 :: a13 :: a14 :: some (.int x) :: L) st S Q = mq_R P d k n (a0 :: a1 :: a2 :: a3 :: a4 :: a5 :: a6 :: a7 :: a8 :: a9 :: a10 :: a11 :: a12 :: a13 :: a14 :: some (.int (x + Int32.ofInt c)) :: L) st S Q := by
  have hl : mq_lg (a0 :: a1 :: a2 :: a3 :: a4 :: a5 :: a6 :: a7 :: a8 :: a9 :: a10 :: a11 :: a12 :: a13 :: a14 :: some (.int x) :: L) 15 = false := mq_lg_nl rfl h
  show mq_Y P d k pc (mq_o_iinc [n, 15] [c] (a0 :: a1 :: a2 :: a3 :: a4 :: a5 :: a6 :: a7 :: a8 :: a9 :: a10 :: a11 :: a12 :: a13 :: a14 :: some (.int x) :: L) st S) Q = _
  simp only [mq_o_iinc, mq_set1, hl]
  simp [mq_Y, mq_set1, hl]
theorem mq_x_iadd {P : List mq_T} {d k pc n : Nat} {L : mq_L} {st : List Value} {S : mq_S} {Q : (Option Value ⊕ Nat) → mq_S → Prop} {x y : Int32} : mq_X P d k pc (9, [n], []) L (.int y :: .int x :: st) S Q = mq_R P d k n L (.int (x + y) :: st) S Q := rfl
theorem mq_x_isub {P : List mq_T} {d k pc n : Nat} {L : mq_L} {st : List Value} {S : mq_S} {Q : (Option Value ⊕ Nat) → mq_S → Prop} {x y : Int32} : mq_X P d k pc (10, [n], []) L (.int y :: .int x :: st) S Q = mq_R P d k n L (.int (x - y) :: st) S Q := rfl
theorem mq_x_imul {P : List mq_T} {d k pc n : Nat} {L : mq_L} {st : List Value} {S : mq_S} {Q : (Option Value ⊕ Nat) → mq_S → Prop} {x y : Int32} : mq_X P d k pc (11, [n], []) L (.int y :: .int x :: st) S Q = mq_R P d k n L (.int (x * y) :: st) S Q := rfl
theorem mq_x_iand {P : List mq_T} {d k pc n : Nat} {L : mq_L} {st : List Value} {S : mq_S} {Q : (Option Value ⊕ Nat) → mq_S → Prop} {x y : Int32} : mq_X P d k pc (12, [n], []) L (.int y :: .int x :: st) S Q = mq_R P d k n L (.int (x &&& y) :: st) S Q := rfl
theorem mq_x_ior {P : List mq_T} {d k pc n : Nat} {L : mq_L} {st : List Value} {S : mq_S} {Q : (Option Value ⊕ Nat) → mq_S → Prop} {x y : Int32} : mq_X P d k pc (13, [n], []) L (.int y :: .int x :: st) S Q = mq_R P d k n L (.int (x ||| y) :: st) S Q := rfl
theorem mq_x_ixor {P : List mq_T} {d k pc n : Nat} {L : mq_L} {st : List Value} {S : mq_S} {Q : (Option Value ⊕ Nat) → mq_S → Prop} {x y : Int32} : mq_X P d k pc (14, [n], []) L (.int y :: .int x :: st) S Q = mq_R P d k n L (.int (x ^^^ y) :: st) S Q := rfl
theorem mq_x_ishl {P : List mq_T} {d k pc n : Nat} {L : mq_L} {st : List Value} {S : mq_S} {Q : (Option Value ⊕ Nat) → mq_S → Prop} {x y : Int32} : mq_X P d k pc (15, [n], []) L (.int y :: .int x :: st) S Q = mq_R P d k n L (.int (x <<< (y &&& 31)) :: st) S Q := rfl
theorem mq_x_ishr {P : List mq_T} {d k pc n : Nat} {L : mq_L} {st : List Value} {S : mq_S} {Q : (Option Value ⊕ Nat) → mq_S → Prop} {x y : Int32} : mq_X P d k pc (16, [n], []) L (.int y :: .int x :: st) S Q = mq_R P d k n L (.int (x >>> (y &&& 31)) :: st) S Q := rfl
theorem mq_x_iushr {P : List mq_T} {d k pc n : Nat} {L : mq_L} {st : List Value} {S : mq_S} {Q : (Option Value ⊕ Nat) → mq_S → Prop} {x y : Int32} : mq_X P d k pc (17, [n], []) L (.int y :: .int x :: st) S Q = mq_R P d k n L (.int ((x.toUInt32 >>> (y.toUInt32 &&& Int32.toUInt32 31)).toInt32) :: st) S Q := rfl
theorem mq_x_idiv {P : List mq_T} {d k pc n : Nat} {L : mq_L} {st : List Value} {S : mq_S} {Q : (Option Value ⊕ Nat) → mq_S → Prop} {x y : Int32} (h : ¬ y = 0) : mq_X P d k pc (18, [n], []) L (.int y :: .int x :: st) S Q = mq_R P d k n L (.int (x / y) :: st) S Q := by
  show mq_Y P d k pc (if y = 0 then none else _) Q = _
  rw [if_neg h]
  rfl
theorem mq_x_irem {P : List mq_T} {d k pc n : Nat} {L : mq_L} {st : List Value} {S : mq_S} {Q : (Option Value ⊕ Nat) → mq_S → Prop} {x y : Int32} (h : ¬ y = 0) : mq_X P d k pc (19, [n], []) L (.int y :: .int x :: st) S Q = mq_R P d k n L (.int (x - x / y * y) :: st) S Q := by
  show mq_Y P d k pc (if y = 0 then none else _) Q = _
  rw [if_neg h]
  rfl
theorem mq_x_ineg {P : List mq_T} {d k pc n : Nat} {L : mq_L} {st : List Value} {S : mq_S} {Q : (Option Value ⊕ Nat) → mq_S → Prop} {x : Int32} : mq_X P d k pc (20, [n], []) L (.int x :: st) S Q = mq_R P d k n L (.int (-x) :: st) S Q := rfl
theorem mq_x_ladd {P : List mq_T} {d k pc n : Nat} {L : mq_L} {st : List Value} {S : mq_S} {Q : (Option Value ⊕ Nat) → mq_S → Prop} {x y : Int64} : mq_X P d k pc (21, [n], []) L (.long y :: .long x :: st) S Q = mq_R P d k n L (.long (x + y) :: st) S Q := rfl
theorem mq_x_lsub {P : List mq_T} {d k pc n : Nat} {L : mq_L} {st : List Value} {S : mq_S} {Q : (Option Value ⊕ Nat) → mq_S → Prop} {x y : Int64} : mq_X P d k pc (22, [n], []) L (.long y :: .long x :: st) S Q = mq_R P d k n L (.long (x - y) :: st) S Q := rfl
theorem mq_x_lmul {P : List mq_T} {d k pc n : Nat} {L : mq_L} {st : List Value} {S : mq_S} {Q : (Option Value ⊕ Nat) → mq_S → Prop} {x y : Int64} : mq_X P d k pc (23, [n], []) L (.long y :: .long x :: st) S Q = mq_R P d k n L (.long (x * y) :: st) S Q := rfl
theorem mq_x_land {P : List mq_T} {d k pc n : Nat} {L : mq_L} {st : List Value} {S : mq_S} {Q : (Option Value ⊕ Nat) → mq_S → Prop} {x y : Int64} : mq_X P d k pc (24, [n], []) L (.long y :: .long x :: st) S Q = mq_R P d k n L (.long (x &&& y) :: st) S Q := rfl
theorem mq_x_lor {P : List mq_T} {d k pc n : Nat} {L : mq_L} {st : List Value} {S : mq_S} {Q : (Option Value ⊕ Nat) → mq_S → Prop} {x y : Int64} : mq_X P d k pc (25, [n], []) L (.long y :: .long x :: st) S Q = mq_R P d k n L (.long (x ||| y) :: st) S Q := rfl
theorem mq_x_lxor {P : List mq_T} {d k pc n : Nat} {L : mq_L} {st : List Value} {S : mq_S} {Q : (Option Value ⊕ Nat) → mq_S → Prop} {x y : Int64} : mq_X P d k pc (26, [n], []) L (.long y :: .long x :: st) S Q = mq_R P d k n L (.long (x ^^^ y) :: st) S Q := rfl
theorem mq_x_lshl {P : List mq_T} {d k pc n : Nat} {L : mq_L} {st : List Value} {S : mq_S} {Q : (Option Value ⊕ Nat) → mq_S → Prop} {x : Int64} {y : Int32} : mq_X P d k pc (27, [n], []) L (.int y :: .long x :: st) S Q = mq_R P d k n L (.long (x <<< (y.toInt64 &&& 63)) :: st) S Q := rfl
theorem mq_x_lshr {P : List mq_T} {d k pc n : Nat} {L : mq_L} {st : List Value} {S : mq_S} {Q : (Option Value ⊕ Nat) → mq_S → Prop} {x : Int64} {y : Int32} : mq_X P d k pc (28, [n], []) L (.int y :: .long x :: st) S Q = mq_R P d k n L (.long (x >>> (y.toInt64 &&& 63)) :: st) S Q := rfl
theorem mq_x_lushr {P : List mq_T} {d k pc n : Nat} {L : mq_L} {st : List Value} {S : mq_S} {Q : (Option Value ⊕ Nat) → mq_S → Prop} {x : Int64} {y : Int32} : mq_X P d k pc (29, [n], []) L (.int y :: .long x :: st) S Q = mq_R P d k n L (.long ((x.toUInt64 >>> (y.toInt64.toUInt64 &&& Int64.toUInt64 63)).toInt64) :: st) S Q := rfl
theorem mq_x_lcmp {P : List mq_T} {d k pc n : Nat} {L : mq_L} {st : List Value} {S : mq_S} {Q : (Option Value ⊕ Nat) → mq_S → Prop} {x y : Int64} : mq_X P d k pc (30, [n], []) L (.long y :: .long x :: st) S Q = mq_R P d k n L (.int (lg_cmp x y) :: st) S Q := rfl
theorem mq_x_i2l {P : List mq_T} {d k pc n : Nat} {L : mq_L} {st : List Value} {S : mq_S} {Q : (Option Value ⊕ Nat) → mq_S → Prop} {x : Int32} : mq_X P d k pc (31, [n], []) L (.int x :: st) S Q = mq_R P d k n L (.long x.toInt64 :: st) S Q := rfl
theorem mq_x_l2i {P : List mq_T} {d k pc n : Nat} {L : mq_L} {st : List Value} {S : mq_S} {Q : (Option Value ⊕ Nat) → mq_S → Prop} {x : Int64} : mq_X P d k pc (32, [n], []) L (.long x :: st) S Q = mq_R P d k n L (.int x.toInt32 :: st) S Q := rfl
theorem mq_x_dup_int {P : List mq_T} {d k pc n : Nat} {L : mq_L} {st : List Value} {S : mq_S} {Q : (Option Value ⊕ Nat) → mq_S → Prop} {x : Int32} : mq_X P d k pc (33, [n], []) L (.int x :: st) S Q = mq_R P d k n L (.int x :: .int x :: st) S Q := rfl
theorem mq_x_pop_int {P : List mq_T} {d k pc n : Nat} {L : mq_L} {st : List Value} {S : mq_S} {Q : (Option Value ⊕ Nat) → mq_S → Prop} {x : Int32} : mq_X P d k pc (34, [n], []) L (.int x :: st) S Q = mq_R P d k n L st S Q := rfl
theorem mq_x_dup_x1_int_int {P : List mq_T} {d k pc n : Nat} {L : mq_L} {st : List Value} {S : mq_S} {Q : (Option Value ⊕ Nat) → mq_S → Prop} {x : Int32} {y : Int32} : mq_X P d k pc (35, [n], []) L (.int x :: .int y :: st) S Q = mq_R P d k n L (.int x :: .int y :: .int x :: st) S Q := rfl
theorem mq_x_dup2_int_int {P : List mq_T} {d k pc n : Nat} {L : mq_L} {st : List Value} {S : mq_S} {Q : (Option Value ⊕ Nat) → mq_S → Prop} {x : Int32} {y : Int32} : mq_X P d k pc (37, [n], []) L (.int x :: .int y :: st) S Q = mq_R P d k n L (.int x :: .int y :: .int x :: .int y :: st) S Q := rfl
theorem mq_x_dup_x1_int_ref {P : List mq_T} {d k pc n : Nat} {L : mq_L} {st : List Value} {S : mq_S} {Q : (Option Value ⊕ Nat) → mq_S → Prop} {x : Int32} {y : Nat} : mq_X P d k pc (35, [n], []) L (.int x :: .ref y :: st) S Q = mq_R P d k n L (.int x :: .ref y :: .int x :: st) S Q := rfl
theorem mq_x_dup2_int_ref {P : List mq_T} {d k pc n : Nat} {L : mq_L} {st : List Value} {S : mq_S} {Q : (Option Value ⊕ Nat) → mq_S → Prop} {x : Int32} {y : Nat} : mq_X P d k pc (37, [n], []) L (.int x :: .ref y :: st) S Q = mq_R P d k n L (.int x :: .ref y :: .int x :: .ref y :: st) S Q := rfl
theorem mq_x_dup_ref {P : List mq_T} {d k pc n : Nat} {L : mq_L} {st : List Value} {S : mq_S} {Q : (Option Value ⊕ Nat) → mq_S → Prop} {x : Nat} : mq_X P d k pc (33, [n], []) L (.ref x :: st) S Q = mq_R P d k n L (.ref x :: .ref x :: st) S Q := rfl
theorem mq_x_pop_ref {P : List mq_T} {d k pc n : Nat} {L : mq_L} {st : List Value} {S : mq_S} {Q : (Option Value ⊕ Nat) → mq_S → Prop} {x : Nat} : mq_X P d k pc (34, [n], []) L (.ref x :: st) S Q = mq_R P d k n L st S Q := rfl
theorem mq_x_dup_x1_ref_int {P : List mq_T} {d k pc n : Nat} {L : mq_L} {st : List Value} {S : mq_S} {Q : (Option Value ⊕ Nat) → mq_S → Prop} {x : Nat} {y : Int32} : mq_X P d k pc (35, [n], []) L (.ref x :: .int y :: st) S Q = mq_R P d k n L (.ref x :: .int y :: .ref x :: st) S Q := rfl
theorem mq_x_dup2_ref_int {P : List mq_T} {d k pc n : Nat} {L : mq_L} {st : List Value} {S : mq_S} {Q : (Option Value ⊕ Nat) → mq_S → Prop} {x : Nat} {y : Int32} : mq_X P d k pc (37, [n], []) L (.ref x :: .int y :: st) S Q = mq_R P d k n L (.ref x :: .int y :: .ref x :: .int y :: st) S Q := rfl
theorem mq_x_dup_x1_ref_ref {P : List mq_T} {d k pc n : Nat} {L : mq_L} {st : List Value} {S : mq_S} {Q : (Option Value ⊕ Nat) → mq_S → Prop} {x : Nat} {y : Nat} : mq_X P d k pc (35, [n], []) L (.ref x :: .ref y :: st) S Q = mq_R P d k n L (.ref x :: .ref y :: .ref x :: st) S Q := rfl
theorem mq_x_dup2_ref_ref {P : List mq_T} {d k pc n : Nat} {L : mq_L} {st : List Value} {S : mq_S} {Q : (Option Value ⊕ Nat) → mq_S → Prop} {x : Nat} {y : Nat} : mq_X P d k pc (37, [n], []) L (.ref x :: .ref y :: st) S Q = mq_R P d k n L (.ref x :: .ref y :: .ref x :: .ref y :: st) S Q := rfl
theorem mq_x_dup_x2 {P : List mq_T} {d k pc n : Nat} {L : mq_L} {st : List Value} {S : mq_S} {Q : (Option Value ⊕ Nat) → mq_S → Prop} {x y : Int32} {z : Nat} : mq_X P d k pc (36, [n], []) L (.int x :: .int y :: .ref z :: st) S Q = mq_R P d k n L (.int x :: .int y :: .ref z :: .int x :: st) S Q := rfl
theorem mq_br {c : Prop} [Decidable c] {P : List mq_T} {d k n t : Nat} {L : mq_L} {st : List Value} {S : mq_S} {Q : (Option Value ⊕ Nat) → mq_S → Prop} : mq_R P d k (if decide c = true then t else n) L st S Q = ((c → mq_R P d k t L st S Q) ∧ (¬ c → mq_R P d k n L st S Q)) := by
  apply propext
  by_cases h : c
  · simp [h]
  · simp [h]
theorem mq_x_if_eq {P : List mq_T} {d k pc n : Nat} {L : mq_L} {st : List Value} {S : mq_S} {Q : (Option Value ⊕ Nat) → mq_S → Prop} {t : Nat} {x : Int32} : mq_X P d k pc (38, [n, t], []) L (.int x :: st) S Q = ((x = 0 → mq_R P d k t L st S Q) ∧ (¬ (x = 0) → mq_R P d k n L st S Q)) := mq_br
theorem mq_x_if_ne {P : List mq_T} {d k pc n : Nat} {L : mq_L} {st : List Value} {S : mq_S} {Q : (Option Value ⊕ Nat) → mq_S → Prop} {t : Nat} {x : Int32} : mq_X P d k pc (39, [n, t], []) L (.int x :: st) S Q = ((¬ x = 0 → mq_R P d k t L st S Q) ∧ (¬ (¬ x = 0) → mq_R P d k n L st S Q)) := mq_br
theorem mq_x_if_lt {P : List mq_T} {d k pc n : Nat} {L : mq_L} {st : List Value} {S : mq_S} {Q : (Option Value ⊕ Nat) → mq_S → Prop} {t : Nat} {x : Int32} : mq_X P d k pc (40, [n, t], []) L (.int x :: st) S Q = ((x < 0 → mq_R P d k t L st S Q) ∧ (¬ (x < 0) → mq_R P d k n L st S Q)) := mq_br
theorem mq_x_if_ge {P : List mq_T} {d k pc n : Nat} {L : mq_L} {st : List Value} {S : mq_S} {Q : (Option Value ⊕ Nat) → mq_S → Prop} {t : Nat} {x : Int32} : mq_X P d k pc (41, [n, t], []) L (.int x :: st) S Q = ((0 ≤ x → mq_R P d k t L st S Q) ∧ (¬ (0 ≤ x) → mq_R P d k n L st S Q)) := mq_br
theorem mq_x_if_gt {P : List mq_T} {d k pc n : Nat} {L : mq_L} {st : List Value} {S : mq_S} {Q : (Option Value ⊕ Nat) → mq_S → Prop} {t : Nat} {x : Int32} : mq_X P d k pc (42, [n, t], []) L (.int x :: st) S Q = ((0 < x → mq_R P d k t L st S Q) ∧ (¬ (0 < x) → mq_R P d k n L st S Q)) := mq_br
theorem mq_x_if_le {P : List mq_T} {d k pc n : Nat} {L : mq_L} {st : List Value} {S : mq_S} {Q : (Option Value ⊕ Nat) → mq_S → Prop} {t : Nat} {x : Int32} : mq_X P d k pc (43, [n, t], []) L (.int x :: st) S Q = ((x ≤ 0 → mq_R P d k t L st S Q) ∧ (¬ (x ≤ 0) → mq_R P d k n L st S Q)) := mq_br
theorem mq_x_icmp_eq {P : List mq_T} {d k pc n : Nat} {L : mq_L} {st : List Value} {S : mq_S} {Q : (Option Value ⊕ Nat) → mq_S → Prop} {t : Nat} {x y : Int32} : mq_X P d k pc (44, [n, t], []) L (.int y :: .int x :: st) S Q = ((x = y → mq_R P d k t L st S Q) ∧ (¬ (x = y) → mq_R P d k n L st S Q)) := mq_br
theorem mq_x_icmp_ne {P : List mq_T} {d k pc n : Nat} {L : mq_L} {st : List Value} {S : mq_S} {Q : (Option Value ⊕ Nat) → mq_S → Prop} {t : Nat} {x y : Int32} : mq_X P d k pc (45, [n, t], []) L (.int y :: .int x :: st) S Q = ((¬ x = y → mq_R P d k t L st S Q) ∧ (¬ (¬ x = y) → mq_R P d k n L st S Q)) := mq_br
theorem mq_x_icmp_lt {P : List mq_T} {d k pc n : Nat} {L : mq_L} {st : List Value} {S : mq_S} {Q : (Option Value ⊕ Nat) → mq_S → Prop} {t : Nat} {x y : Int32} : mq_X P d k pc (46, [n, t], []) L (.int y :: .int x :: st) S Q = ((x < y → mq_R P d k t L st S Q) ∧ (¬ (x < y) → mq_R P d k n L st S Q)) := mq_br
theorem mq_x_icmp_ge {P : List mq_T} {d k pc n : Nat} {L : mq_L} {st : List Value} {S : mq_S} {Q : (Option Value ⊕ Nat) → mq_S → Prop} {t : Nat} {x y : Int32} : mq_X P d k pc (47, [n, t], []) L (.int y :: .int x :: st) S Q = ((y ≤ x → mq_R P d k t L st S Q) ∧ (¬ (y ≤ x) → mq_R P d k n L st S Q)) := mq_br
theorem mq_x_icmp_gt {P : List mq_T} {d k pc n : Nat} {L : mq_L} {st : List Value} {S : mq_S} {Q : (Option Value ⊕ Nat) → mq_S → Prop} {t : Nat} {x y : Int32} : mq_X P d k pc (48, [n, t], []) L (.int y :: .int x :: st) S Q = ((y < x → mq_R P d k t L st S Q) ∧ (¬ (y < x) → mq_R P d k n L st S Q)) := mq_br
theorem mq_x_icmp_le {P : List mq_T} {d k pc n : Nat} {L : mq_L} {st : List Value} {S : mq_S} {Q : (Option Value ⊕ Nat) → mq_S → Prop} {t : Nat} {x y : Int32} : mq_X P d k pc (49, [n, t], []) L (.int y :: .int x :: st) S Q = ((x ≤ y → mq_R P d k t L st S Q) ∧ (¬ (x ≤ y) → mq_R P d k n L st S Q)) := mq_br
theorem mq_x_goto {P : List mq_T} {d k pc n : Nat} {L : mq_L} {st : List Value} {S : mq_S} {Q : (Option Value ⊕ Nat) → mq_S → Prop}  : mq_X P d k pc (50, [n], []) L st S Q = mq_R P d k n L st S Q := rfl
def mq_swR (P : List mq_T) (d k : Nat) (L : mq_L) (st : List Value) (S : mq_S) (Q : (Option Value ⊕ Nat) → mq_S → Prop) : List Int → List Nat → Int → Prop
  | c :: cs, t :: ts, x => (x = c → mq_R P d k t L st S Q) ∧ (¬ x = c → mq_swR P d k L st S Q cs ts x)
  | [], [t], _ => mq_R P d k t L st S Q
  | _, _, _ => False
theorem mq_sw_R {P : List mq_T} {d k pc : Nat} {L : mq_L} {st : List Value} {S : mq_S} {Q : (Option Value ⊕ Nat) → mq_S → Prop} : ∀ (cs : List Int) (ns : List Nat) (x : Int), mq_Y P d k pc (match mq_sw cs ns x with
    | some t => mq_nx t L st S
    | none => none) Q = mq_swR P d k L st S Q cs ns x
  | [], [], _ => rfl
  | [], [_], _ => rfl
  | [], _ :: _ :: _, _ => rfl
  | _ :: _, [], _ => rfl
  | c :: cs, t :: ts, x => by
    have ih := mq_sw_R (P := P) (d := d) (k := k) (pc := pc) (L := L) (st := st) (S := S) (Q := Q) cs ts x
    apply propext
    by_cases h : x = c
    · simp [mq_sw, mq_swR, h, mq_Y]
    · simp only [mq_sw, if_neg h, mq_swR]
      rw [ih]
      simp [h]
theorem mq_x_switch {P : List mq_T} {d k pc n : Nat} {L : mq_L} {st : List Value} {S : mq_S} {Q : (Option Value ⊕ Nat) → mq_S → Prop} {ns : List Nat} {cs : List Int} {x : Int32} : mq_X P d k pc (51, ns, cs) L (.int x :: st) S Q = mq_swR P d k L st S Q cs ns x.toInt := mq_sw_R cs ns x.toInt
theorem mq_x_get {P : List mq_T} {d k pc n : Nat} {L : mq_L} {st : List Value} {M : Nat → mq_C} {z u : Nat} {Q : (Option Value ⊕ Nat) → mq_S → Prop} {ci j : Nat} {ns : List Nat} {a : Nat} {fs : List Value} {v : Value} (h : M a = (ci, fs)) (hv : fs[j]? = some v) : mq_X P d k pc (52, n :: ci :: j :: ns, []) L (.ref a :: st) (M, z, u) Q = mq_R P d k n L (v :: st) (M, z, u) Q := by
  show mq_Y P d k pc (if (M a).1 = ci then (match (M a).2[j]? with | some v => mq_nx n L (v :: st) (M, z, u) | none => none) else none) Q = _
  rw [h]
  simp only [hv, if_true]
  rfl
theorem mq_x_put {P : List mq_T} {d k pc n : Nat} {L : mq_L} {st : List Value} {M : Nat → mq_C} {z u : Nat} {Q : (Option Value ⊕ Nat) → mq_S → Prop} {ci j t : Nat} {ns : List Nat} {a : Nat} {fs : List Value} {v : Value} (h : M a = (ci, fs)) (hl : j < fs.length) (hf : mq_fit t v = true) : mq_X P d k pc (53, n :: ci :: j :: t :: ns, []) L (v :: .ref a :: st) (M, z, u) Q = mq_R P d k n L st (va_up M a (ci, fs.set j v), z, u) Q := by
  show mq_Y P d k pc (if (M a).1 = ci ∧ j < (M a).2.length ∧ mq_fit t v = true then mq_nx n L st (va_up M a (ci, (M a).2.set j v), z, u) else none) Q = _
  rw [h, if_pos ⟨rfl, hl, hf⟩]
  rfl
theorem mq_x_gets {P : List mq_T} {d k pc n : Nat} {L : mq_L} {st : List Value} {M : Nat → mq_C} {z u : Nat} {Q : (Option Value ⊕ Nat) → mq_S → Prop} {a : Nat} {ns : List Nat} : mq_X P d k pc (54, n :: a :: ns, []) L st (M, z, u) Q = mq_R P d k n L (.ref a :: st) (M, z, u) Q := rfl
theorem mq_x_new {P : List mq_T} {d k pc n : Nat} {L : mq_L} {st : List Value} {M : Nat → mq_C} {z u : Nat} {Q : (Option Value ⊕ Nat) → mq_S → Prop} {ci w : Nat} {ts : List Nat} : mq_X P d k pc (55, n :: ci :: w :: ts, []) L st (M, z, u) Q = mq_R P d k n L (.ref z :: st) (va_up M z (ci, ts.map mq_dv), z + 1, u + ts.length) Q := rfl
theorem mq_x_newarr {P : List mq_T} {d k pc n : Nat} {L : mq_L} {st : List Value} {M : Nat → mq_C} {z u : Nat} {Q : (Option Value ⊕ Nat) → mq_S → Prop} {kind : Nat} {ns : List Nat} {c : Int32} (h : ¬ (c < 0 ∨ 1000000 < c.toNatClampNeg)) : mq_X P d k pc (56, n :: kind :: ns, []) L (.int c :: st) (M, z, u) Q = mq_R P d k n L (.ref z :: st) (va_up M z (kind, List.replicate c.toNatClampNeg (mq_av kind)), z + 1, u + c.toNatClampNeg) Q := by
  show mq_Y P d k pc (if c < 0 ∨ 1000000 < c.toNatClampNeg then none else _) Q = _
  rw [if_neg h]
  rfl
theorem mq_x_alen {P : List mq_T} {d k pc n : Nat} {L : mq_L} {st : List Value} {M : Nat → mq_C} {z u : Nat} {Q : (Option Value ⊕ Nat) → mq_S → Prop} {a kind : Nat} {vs : List Value} (h : M a = (kind, vs)) (hk : mq_isarr kind = true) : mq_X P d k pc (57, [n], []) L (.ref a :: st) (M, z, u) Q = mq_R P d k n L (.int (Int32.ofNat vs.length) :: st) (M, z, u) Q := by
  show mq_Y P d k pc (if mq_isarr (M a).1 = true then mq_nx n L (.int (Int32.ofNat (M a).2.length) :: st) (M, z, u) else none) Q = _
  rw [h, if_pos hk]
  rfl
theorem mq_x_ald {P : List mq_T} {d k pc n : Nat} {L : mq_L} {st : List Value} {M : Nat → mq_C} {z u : Nat} {Q : (Option Value ⊕ Nat) → mq_S → Prop} {a kind : Nat} {vs : List Value} {i : Int32} {v : Value} (h : M a = (kind, vs)) (h0 : ¬ i < 0) (hv : vs[i.toNatClampNeg]? = some v) (hf : mq_fit (if kind = 66 then 2 else if kind < 70 then 0 else 3) v = true) : mq_X P d k pc (58, [n, kind], []) L (.int i :: .ref a :: st) (M, z, u) Q = mq_R P d k n L (v :: st) (M, z, u) Q := by
  show mq_Y P d k pc (if ((M a).1 = kind ∨ (kind = 64 ∧ (M a).1 = 60)) ∧ ¬ i < 0 then (match (M a).2[i.toNatClampNeg]? with | some v => if mq_fit (if kind = 66 then 2 else if kind < 70 then 0 else 3) v = true then mq_nx n L (v :: st) (M, z, u) else none | none => none) else none) Q = _
  rw [h, if_pos ⟨Or.inl rfl, h0⟩]
  simp only [hv]
  rw [if_pos hf]
  rfl
theorem mq_x_aldo {P : List mq_T} {d k pc n : Nat} {L : mq_L} {st : List Value} {M : Nat → mq_C} {z u : Nat} {Q : (Option Value ⊕ Nat) → mq_S → Prop} {a : Nat} {vs : List Value} {i : Int32} {v : Value} (h : M a = (60, vs)) (h0 : ¬ i < 0) (hv : vs[i.toNatClampNeg]? = some v) (hf : mq_fit 0 v = true) : mq_X P d k pc (58, [n, 64], []) L (.int i :: .ref a :: st) (M, z, u) Q = mq_R P d k n L (v :: st) (M, z, u) Q := by
  show mq_Y P d k pc (if ((M a).1 = 64 ∨ (64 = 64 ∧ (M a).1 = 60)) ∧ ¬ i < 0 then (match (M a).2[i.toNatClampNeg]? with | some v => if mq_fit 0 v = true then mq_nx n L (v :: st) (M, z, u) else none | none => none) else none) Q = _
  rw [h, if_pos ⟨Or.inr ⟨rfl, rfl⟩, h0⟩]
  simp only [hv]
  rw [if_pos hf]
  rfl
theorem mq_x_ast {P : List mq_T} {d k pc n : Nat} {L : mq_L} {st : List Value} {M : Nat → mq_C} {z u : Nat} {Q : (Option Value ⊕ Nat) → mq_S → Prop} {a kind : Nat} {vs : List Value} {i : Int32} {v : Value} (h : M a = (kind, vs)) (h0 : ¬ i < 0) (hl : i.toNatClampNeg < vs.length) (hf : mq_fit (mq_ak kind) v = true) (hk : kind < 70 ∨ mq_rk M kind v = true) : mq_X P d k pc (59, [n, kind], []) L (v :: .int i :: .ref a :: st) (M, z, u) Q = mq_R P d k n L st (va_up M a (kind, vs.set i.toNatClampNeg v), z, u) Q := by
  show mq_Y P d k pc (if (M a).1 = kind ∧ ¬ i < 0 ∧ i.toNatClampNeg < (M a).2.length ∧ mq_fit (mq_ak kind) v = true ∧ (kind < 70 ∨ mq_rk M kind v = true) then mq_nx n L st (va_up M a (kind, (M a).2.set i.toNatClampNeg v), z, u) else none) Q = _
  rw [h, if_pos ⟨rfl, h0, hl, hf, hk⟩]
  rfl
theorem mq_x_static {P : List mq_T} {d k pc n j c mx : Nat} {ns : List Nat} {L : mq_L} {st : List Value} {S : mq_S} {Q : (Option Value ⊕ Nat) → mq_S → Prop} (h : c ≤ st.length) (hw : mq_wt (st.drop c) ≤ 8) (hm : (mq_sp (st.take c).reverse).length ≤ mx) : mq_X P d k pc (60, n :: j :: c :: mx :: ns, []) L st S Q = mq_call P d k pc j (st.take c).reverse n L (st.drop c) S Q := by
  show mq_Y P d k pc (if c ≤ st.length ∧ mq_wt (st.drop c) ≤ 8 ∧ (mq_sp (st.take c).reverse).length ≤ mx then _ else none) Q = _
  rw [if_pos ⟨h, hw, hm⟩]
  rfl
theorem mq_x_virtual {P : List mq_T} {d k pc n j c ci mx b : Nat} {ns : List Nat} {L : mq_L} {st r : List Value} {M : Nat → mq_C} {z u : Nat} {fs : List Value} {Q : (Option Value ⊕ Nat) → mq_S → Prop} (hd : st.drop c = .ref b :: r) (h : M b = (ci, fs)) (hw : mq_wt r ≤ 8) (hm : (mq_sp (.ref b :: (st.take c).reverse)).length ≤ mx) : mq_X P d k pc (61, n :: j :: c :: ci :: mx :: ns, []) L st (M, z, u) Q = mq_call P d k pc j (.ref b :: (st.take c).reverse) n L r (M, z, u) Q := by
  show mq_Y P d k pc (match st.drop c with | .ref b :: r => if (M b).1 = ci ∧ mq_wt r ≤ 8 ∧ (mq_sp (.ref b :: (st.take c).reverse)).length ≤ mx then some (.inr (.inr (.inr (j, .ref b :: (st.take c).reverse, n, L, r, (M, z, u))))) else none | _ => none) Q = _
  rw [hd]
  simp only [h]
  rw [if_pos ⟨trivial, hw, hm⟩]
  rfl
theorem mq_x_ret {P : List mq_T} {d k pc : Nat} {ns : List Nat} {L : mq_L} {S : mq_S} {Q : (Option Value ⊕ Nat) → mq_S → Prop} : mq_X P d k pc (66, ns, []) L [] S Q = Q (.inl none) S := rfl
theorem mq_x_iret {P : List mq_T} {d k pc : Nat} {L : mq_L} {S : mq_S} {x : Int32} {Q : (Option Value ⊕ Nat) → mq_S → Prop} : mq_X P d k pc (67, [0], []) L [.int x] S Q = Q (.inl (some (.int x))) S := rfl
theorem mq_x_zret {P : List mq_T} {d k pc : Nat} {L : mq_L} {S : mq_S} {x : Int32} {Q : (Option Value ⊕ Nat) → mq_S → Prop} (h : x = 0 ∨ x = 1) : mq_X P d k pc (67, [1], []) L [.int x] S Q = Q (.inl (some (.int x))) S := by
  show mq_Y P d k pc (if mq_fit 1 (.int x) = true then _ else none) Q = _
  rw [if_pos (by simpa [mq_fit] using h)]
  rfl
theorem mq_x_lret {P : List mq_T} {d k pc : Nat} {L : mq_L} {S : mq_S} {x : Int64} {Q : (Option Value ⊕ Nat) → mq_S → Prop} : mq_X P d k pc (67, [2], []) L [.long x] S Q = Q (.inl (some (.long x))) S := rfl
theorem mq_x_aret {P : List mq_T} {d k pc : Nat} {L : mq_L} {S : mq_S} {x : Nat} {Q : (Option Value ⊕ Nat) → mq_S → Prop} : mq_X P d k pc (67, [3], []) L [.ref x] S Q = Q (.inl (some (.ref x))) S := rfl
