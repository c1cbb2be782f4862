/-! What unpacking means depends on the bits before the end alone. -/
section XC
variable {B B' : Nat → Int} {E : Nat}
theorem xb_c : ∀ {a k : Nat}, (∀ i, a ≤ i → i < a + k → B i = B' i) → xb B a k = xb B' a k := by
  intro a k
  induction k with
  | zero => intro _; rfl
  | succ k ih =>
    intro h
    show xb B a k + B (a + k) * 2 ^ k = xb B' a k + B' (a + k) * 2 ^ k
    rw [ih (fun i h1 h2 => h i h1 (by omega)), h (a + k) (by omega) (by omega)]
theorem xb_e (h : ∀ i, i < E → B i = B' i) {a k : Nat} (hk : a + k ≤ E) : xb B a k = xb B' a k := xb_c (fun i _ h2 => h i (by omega))
theorem xs_e (h : ∀ i, i < E → B i = B' i) {f : Nat → Int} {n : Nat} : ∀ (m b : Nat) (c fi be : Int) (a : Nat), xs f n E B m b c fi be a = xs f n E B' m b c fi be a := by
  intro m
  induction m with
  | zero => intro b c fi be a; rfl
  | succ m ih =>
    intro b c fi be a
    rw [xs, xs]
    by_cases ha : a < E
    · rw [if_pos ha, if_pos ha, h a ha, ih]
    · rw [if_neg ha, if_neg ha]
theorem xsg_e (h : ∀ i, i < E → B i = B' i) {f : Nat → Int} {n a : Nat} : xsg f n E B a = xsg f n E B' a := xs_e h _ _ _ _ _ _
theorem xlen_e (h : ∀ i, i < E → B i = B' i) {s a : Nat} : xlen E B s a = xlen E B' s a := by
  unfold xlen
  by_cases hk : a + (s - 261) / 4 ≤ E
  · rw [xb_e h hk]
  · rw [if_neg hk, if_neg hk]
theorem xdis_e (h : ∀ i, i < E → B i = B' i) {s a : Nat} : xdis E B s a = xdis E B' s a := by
  unfold xdis
  by_cases hk : a + (s / 2 - 1) ≤ E
  · rw [xb_e h hk]
  · rw [if_neg hk, if_neg hk]
theorem xlt_e (h : ∀ i, i < E → B i = B' i) {fL fD : Nat → Int} {nL nD : Nat} : ∀ (m a : Nat) (o : List Int), xlt fL nL fD nD E B m a o = xlt fL nL fD nD E B' m a o := by
  intro m
  induction m with
  | zero => intro a o; rfl
  | succ m ih =>
    intro a o
    rw [xlt, xlt, xsg_e h]
    cases xsg fL nL E B' a with
    | none => rfl
    | some p =>
      obtain ⟨s, a1⟩ := p
      show (if s = 256 then _ else if s < 256 then _ else _) = (if s = 256 then _ else if s < 256 then _ else _)
      rw [ih, xlen_e h]
      cases xlen E B' s.toNat a1 with
      | none => rfl
      | some p =>
        obtain ⟨n, a2⟩ := p
        show (if s = 256 then _ else if s < 256 then _ else (match xsg fD nD E B a2 with | none => none | some (dd, a3) => _)) = (if s = 256 then _ else if s < 256 then _ else (match xsg fD nD E B' a2 with | none => none | some (dd, a3) => _))
        rw [xsg_e h]
        cases xsg fD nD E B' a2 with
        | none => rfl
        | some p =>
          obtain ⟨dd, a3⟩ := p
          show (if s = 256 then _ else if s < 256 then _ else (match xdis E B dd.toNat a3 with | none => none | some (far, a4) => _)) = (if s = 256 then _ else if s < 256 then _ else (match xdis E B' dd.toNat a3 with | none => none | some (far, a4) => _))
          rw [xdis_e h]
          cases xdis E B' dd.toNat a3 with
          | none => rfl
          | some p =>
            obtain ⟨far, a4⟩ := p
            show (if s = 256 then _ else if s < 256 then _ else (if far ≤ o.length ∧ n ≤ 200 - o.length then _ else none)) = (if s = 256 then _ else if s < 256 then _ else (if far ≤ o.length ∧ n ≤ 200 - o.length then _ else none))
            rw [ih]
theorem xby_e (h : ∀ i, i < E → B i = B' i) : ∀ (n a : Nat) (o : List Int), a + 8 * n ≤ E → xby B n a o = xby B' n a o := by
  intro n
  induction n with
  | zero => intro a o _; rfl
  | succ n ih =>
    intro a o hn
    show xby B n (a + 8) (o ++ [xb B a 8]) = xby B' n (a + 8) (o ++ [xb B' a 8])
    rw [xb_e h (by omega), ih _ _ (by omega)]
theorem xst_e (h : ∀ i, i < E → B i = B' i) {a : Nat} {o : List Int} : xst E B a o = xst E B' a o := by
  unfold xst
  by_cases h1 : (a + 7) / 8 * 8 + 32 ≤ E
  · rw [if_pos h1, if_pos h1, xb_e h (show (a + 7) / 8 * 8 + 16 ≤ E by omega), xb_e h (show (a + 7) / 8 * 8 + 16 + 16 ≤ E by omega)]
    by_cases h2 : (xb B' ((a + 7) / 8 * 8) 16).toNat ≤ 200 - o.length ∧ (a + 7) / 8 * 8 + 32 + 8 * (xb B' ((a + 7) / 8 * 8) 16).toNat ≤ E
    · rw [if_pos h2, if_pos h2, xby_e h _ _ _ h2.2]
    · rw [if_neg h2, if_neg h2]
  · rw [if_neg h1, if_neg h1]
theorem xmk_e (h : ∀ i, i < E → B i = B' i) : ∀ (c a : Nat), a + 3 * c ≤ E → xmk B a c = xmk B' a c := by
  intro c
  induction c with
  | zero => intro a _; rfl
  | succ c ih =>
    intro a hc
    funext j
    show (if j = xord c then xb B (a + 3 * c) 3 else xmk B a c j) = (if j = xord c then xb B' (a + 3 * c) 3 else xmk B' a c j)
    rw [xb_e h (by omega), ih a (by omega)]
theorem xrb_e (h : ∀ i, i < E → B i = B' i) {fM : Nat → Int} {N : Nat} : ∀ (m a : Nat) (l : List Int), xrb fM E N B m a l = xrb fM E N B' m a l := by
  intro m
  induction m with
  | zero => intro a l; rfl
  | succ m ih =>
    intro a l
    rw [xrb, xrb, xsg_e h]
    by_cases hl : l.length < N
    · rw [if_pos hl, if_pos hl]
      cases xsg fM 19 E B' a with
      | none => rfl
      | some p =>
        obtain ⟨s, a1⟩ := p
        show (if s < 16 then _ else if s = 16 then _ else if s = 17 then _ else _) = (if s < 16 then _ else if s = 16 then _ else if s = 17 then _ else _)
        rw [ih, ih, ih, ih]
        have k2 : ∀ (x : Option (Nat × List Int)) (y : Int → Option (Nat × List Int)), (a1 + 2 ≤ E → True) → True := fun _ _ _ => trivial
        by_cases c2 : a1 + 2 ≤ E
        · rw [xb_e h c2]
          by_cases c3 : a1 + 3 ≤ E
          · rw [xb_e h c3]
            by_cases c7 : a1 + 7 ≤ E
            · rw [xb_e h c7]
            · rw [if_neg (show ¬ (a1 + 7 ≤ E ∧ _) from fun h => c7 h.1), if_neg (show ¬ (a1 + 7 ≤ E ∧ _) from fun h => c7 h.1)]
          · rw [if_neg (show ¬ (a1 + 3 ≤ E ∧ _) from fun h => c3 h.1), if_neg (show ¬ (a1 + 3 ≤ E ∧ _) from fun h => c3 h.1), if_neg (show ¬ (a1 + 7 ≤ E ∧ _) from fun h => c3 (by omega)), if_neg (show ¬ (a1 + 7 ≤ E ∧ _) from fun h => c3 (by omega))]
        · rw [if_neg (show ¬ (a1 + 2 ≤ E ∧ _) from fun h => c2 h.1), if_neg (show ¬ (a1 + 2 ≤ E ∧ _) from fun h => c2 h.1), if_neg (show ¬ (a1 + 3 ≤ E ∧ _) from fun h => c2 (by omega)), if_neg (show ¬ (a1 + 3 ≤ E ∧ _) from fun h => c2 (by omega)), if_neg (show ¬ (a1 + 7 ≤ E ∧ _) from fun h => c2 (by omega)), if_neg (show ¬ (a1 + 7 ≤ E ∧ _) from fun h => c2 (by omega))]
    · rw [if_neg hl, if_neg hl]
theorem xcd_e (h : ∀ i, i < E → B i = B' i) {a : Nat} : xcd E B a = xcd E B' a := by
  unfold xcd
  by_cases h14 : a + 14 ≤ E
  · rw [if_pos h14, if_pos h14, xb_e h (show a + 5 ≤ E by omega), xb_e h (show a + 5 + 5 ≤ E by omega), xb_e h (show a + 10 + 4 ≤ E by omega)]
    generalize (xb B' a 5).toNat + 257 = nl
    generalize (xb B' (a + 5) 5).toNat + 1 = nd
    generalize (xb B' (a + 10) 4).toNat + 4 = nc
    unfold xcd2
    by_cases hc : a + 14 + 3 * nc ≤ E
    · rw [xmk_e h nc (a + 14) hc, xrb_e h]
    · rw [if_neg (fun h => hc h.1), if_neg (fun h => hc h.1)]
  · rw [if_neg h14, if_neg h14]
theorem xblk_e (h : ∀ i, i < E → B i = B' i) {t : Int} {a : Nat} {o : List Int} : xblk E B t a o = xblk E B' t a o := by
  unfold xblk
  rw [xst_e h, xlt_e h, xcd_e h]
  cases xcd E B' a with
  | none => rfl
  | some p =>
    obtain ⟨a1, l, nl, nd⟩ := p
    show (if t = 0 then _ else if t = 1 then _ else if t = 2 then xlt _ nl _ nd E B 1921 a1 o else none) = (if t = 0 then _ else if t = 1 then _ else if t = 2 then xlt _ nl _ nd E B' 1921 a1 o else none)
    rw [xlt_e h]
theorem xun_e (h : ∀ i, i < E → B i = B' i) : ∀ (m a : Nat) (o : List Int), xun E B m a o = xun E B' m a o := by
  intro m
  induction m with
  | zero => intro a o; rfl
  | succ m ih =>
    intro a o
    rw [xun, xun]
    by_cases h3 : a + 3 ≤ E
    · rw [if_pos h3, if_pos h3, xb_e h (show a + 1 + 2 ≤ E by omega), xb_e h (show a + 1 ≤ E by omega), xblk_e h]
      cases xblk E B' (xb B' (a + 1) 2) (a + 3) o with
      | none => rfl
      | some p =>
        obtain ⟨a1, o1⟩ := p
        show (if xb B' a 1 = 1 then _ else xun E B m a1 o1) = (if xb B' a 1 = 1 then _ else xun E B' m a1 o1)
        rw [ih]
    · rw [if_neg h3, if_neg h3]
theorem xop_e (h : ∀ i, i < E → B i = B' i) {m : Int} (h8 : 8 * (E / 8) ≤ E) : xop m E B = xop m E B' := by
  unfold xop
  rw [xun_e h, xby_e h _ _ _ (by omega)]
end XC
