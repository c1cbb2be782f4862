/-! The plain instructions (printed by gen_p.py): what the mini-machine does there, the machine does. -/
theorem mq_if2_ {α : Type} {c : Prop} [Decidable c] {a b : α} (h : (if c then none else some a) = some b) : ¬ c ∧ a = b := by
  by_cases hc : c
  · rw [if_pos hc] at h
    cases h
  · rw [if_neg hc] at h
    exact ⟨hc, Option.some.inj h⟩
theorem mq_i_bi {f : Int32 → Int32 → Int32} {n : Nat} {L : mq_L} {st : List Value} {S : mq_S} {o : mq_O} (h : mq_bi f [n] [] L st S = some o) : ∃ (x y : Int32) (r : List Value), st = .int y :: .int x :: r ∧ o = .inl (n, L, .int (f x y) :: r, S) := by
  unfold mq_bi at h
  split at h
  next q _ e1 => cases e1; cases h; exact ⟨_, _, _, rfl, rfl⟩
  · cases h
theorem mq_i_bd {f : Int32 → Int32 → Int32} {n : Nat} {L : mq_L} {st : List Value} {S : mq_S} {o : mq_O} (h : mq_bd f [n] [] L st S = some o) : ∃ (x y : Int32) (r : List Value), st = .int y :: .int x :: r ∧ ¬ y = 0 ∧ o = .inl (n, L, .int (f x y) :: r, S) := by
  unfold mq_bd at h
  split at h
  next q _ e1 =>
    cases e1
    obtain ⟨h0, rfl⟩ := mq_if2_ h
    exact ⟨_, _, _, rfl, h0, rfl⟩
  · cases h
theorem mq_i_bl {f : Int64 → Int64 → Int64} {n : Nat} {L : mq_L} {st : List Value} {S : mq_S} {o : mq_O} (h : mq_bl f [n] [] L st S = some o) : ∃ (x y : Int64) (r : List Value), st = .long y :: .long x :: r ∧ o = .inl (n, L, .long (f x y) :: r, S) := by
  unfold mq_bl at h
  split at h
  next q _ e1 => cases e1; cases h; exact ⟨_, _, _, rfl, rfl⟩
  · cases h
theorem mq_i_sl {f : Int64 → Int32 → Int64} {n : Nat} {L : mq_L} {st : List Value} {S : mq_S} {o : mq_O} (h : mq_sl f [n] [] L st S = some o) : ∃ (x : Int64) (y : Int32) (r : List Value), st = .int y :: .long x :: r ∧ o = .inl (n, L, .long (f x y) :: r, S) := by
  unfold mq_sl at h
  split at h
  next q _ e1 => cases e1; cases h; exact ⟨_, _, _, rfl, rfl⟩
  · cases h
theorem mq_i_ui {f : Int32 → Value} {n : Nat} {L : mq_L} {st : List Value} {S : mq_S} {o : mq_O} (h : mq_ui f [n] [] L st S = some o) : ∃ (x : Int32) (r : List Value), st = .int x :: r ∧ o = .inl (n, L, f x :: r, S) := by
  unfold mq_ui at h
  split at h
  next q _ e1 => cases e1; cases h; exact ⟨_, _, rfl, rfl⟩
  · cases h
theorem mq_i_ul {f : Int64 → Value} {n : Nat} {L : mq_L} {st : List Value} {S : mq_S} {o : mq_O} (h : mq_ul f [n] [] L st S = some o) : ∃ (x : Int64) (r : List Value), st = .long x :: r ∧ o = .inl (n, L, f x :: r, S) := by
  unfold mq_ul at h
  split at h
  next q _ e1 => cases e1; cases h; exact ⟨_, _, rfl, rfl⟩
  · cases h
theorem mq_i_lcmp {n : Nat} {L : mq_L} {st : List Value} {S : mq_S} {o : mq_O} (h : mq_o_lcmp [n] [] L st S = some o) : ∃ (x y : Int64) (r : List Value), st = .long y :: .long x :: r ∧ o = .inl (n, L, .int (lg_cmp x y) :: r, S) := by
  unfold mq_o_lcmp at h
  split at h
  next q _ e1 => cases e1; cases h; exact ⟨_, _, _, rfl, rfl⟩
  · cases h
theorem mq_i_iload {n i : Nat} {L : mq_L} {st : List Value} {S : mq_S} {o : mq_O} (h : mq_o_iload [n, i] [] L st S = some o) : ∃ (x : Int32), L[i]? = some (some (.int x)) ∧ o = .inl (n, L, .int x :: st, S) := by
  unfold mq_o_iload at h
  simp only at h
  split at h
  next x hx => cases h; exact ⟨x, hx, rfl⟩
  · cases h
theorem mq_i_lload {n i : Nat} {L : mq_L} {st : List Value} {S : mq_S} {o : mq_O} (h : mq_o_lload [n, i] [] L st S = some o) : ∃ (x : Int64), L[i]? = some (some (.long x)) ∧ o = .inl (n, L, .long x :: st, S) := by
  unfold mq_o_lload at h
  simp only at h
  split at h
  next x hx => cases h; exact ⟨x, hx, rfl⟩
  · cases h
theorem mq_i_aload {n i : Nat} {L : mq_L} {st : List Value} {S : mq_S} {o : mq_O} (h : mq_o_aload [n, i] [] L st S = some o) : ∃ (x : Nat), L[i]? = some (some (.ref x)) ∧ o = .inl (n, L, .ref x :: st, S) := by
  unfold mq_o_aload at h
  simp only at h
  split at h
  next x hx => cases h; exact ⟨x, hx, rfl⟩
  · cases h
theorem mq_i_istore {n i : Nat} {L : mq_L} {st : List Value} {S : mq_S} {o : mq_O} (h : mq_o_istore [n, i] [] L st S = some o) : ∃ (x : Int32) (r : List Value) (L' : mq_L), st = .int x :: r ∧ mq_set1 L i (.int x) = some L' ∧ o = .inl (n, L', r, S) := by
  unfold mq_o_istore at h
  split at h
  next q _ e1 =>
    cases e1
    split at h
    next L' hL => cases h; exact ⟨_, _, L', rfl, hL, rfl⟩
    · cases h
  · cases h
theorem mq_i_lstore {n i : Nat} {L : mq_L} {st : List Value} {S : mq_S} {o : mq_O} (h : mq_o_lstore [n, i] [] L st S = some o) : ∃ (x : Int64) (r : List Value) (L' : mq_L), st = .long x :: r ∧ mq_set2 L i (.long x) = some L' ∧ o = .inl (n, L', r, S) := by
  unfold mq_o_lstore at h
  split at h
  next q _ e1 =>
    cases e1
    split at h
    next L' hL => cases h; exact ⟨_, _, L', rfl, hL, rfl⟩
    · cases h
  · cases h
theorem mq_i_astore {n i : Nat} {L : mq_L} {st : List Value} {S : mq_S} {o : mq_O} (h : mq_o_astore [n, i] [] L st S = some o) : ∃ (x : Nat) (r : List Value) (L' : mq_L), st = .ref x :: r ∧ mq_set1 L i (.ref x) = some L' ∧ o = .inl (n, L', r, S) := by
  unfold mq_o_astore at h
  split at h
  next q _ e1 =>
    cases e1
    split at h
    next L' hL => cases h; exact ⟨_, _, L', rfl, hL, rfl⟩
    · cases h
  · cases h
theorem mq_i_iinc {n i : Nat} {c : Int} {L : mq_L} {st : List Value} {S : mq_S} {o : mq_O} (h : mq_o_iinc [n, i] [c] L st S = some o) : ∃ (x : Int32) (L' : mq_L), L[i]? = some (some (.int x)) ∧ mq_set1 L i (.int (x + Int32.ofInt c)) = some L' ∧ o = .inl (n, L', st, S) := by
  unfold mq_o_iinc at h
  simp only at h
  split at h
  next x hx =>
    split at h
    next L' hL => cases h; exact ⟨x, L', hx, hL, rfl⟩
    · cases h
  · cases h
theorem mq_i_dup {n : Nat} {L : mq_L} {st : List Value} {S : mq_S} {o : mq_O} (h : mq_o_dup [n] [] L st S = some o) : ∃ (a : Value) (r : List Value), st = a :: r ∧ a.category = 1 ∧ o = .inl (n, L, a :: a :: r, S) := by
  unfold mq_o_dup at h
  split at h
  next q _ e1 =>
    cases e1
    obtain ⟨h0, rfl⟩ := mq_if h
    exact ⟨_, _, rfl, h0, rfl⟩
  · cases h
theorem mq_i_pop {n : Nat} {L : mq_L} {st : List Value} {S : mq_S} {o : mq_O} (h : mq_o_pop [n] [] L st S = some o) : ∃ (a : Value) (r : List Value), st = a :: r ∧ a.category = 1 ∧ o = .inl (n, L, r, S) := by
  unfold mq_o_pop at h
  split at h
  next q _ e1 =>
    cases e1
    obtain ⟨h0, rfl⟩ := mq_if h
    exact ⟨_, _, rfl, h0, rfl⟩
  · cases h
theorem mq_i_dup_x1 {n : Nat} {L : mq_L} {st : List Value} {S : mq_S} {o : mq_O} (h : mq_o_dup_x1 [n] [] L st S = some o) : ∃ (a b : Value) (r : List Value), st = a :: b :: r ∧ (a.category = 1 ∧ b.category = 1) ∧ o = .inl (n, L, a :: b :: a :: r, S) := by
  unfold mq_o_dup_x1 at h
  split at h
  next q _ e1 =>
    cases e1
    obtain ⟨h0, rfl⟩ := mq_if h
    exact ⟨_, _, _, rfl, h0, rfl⟩
  · cases h
theorem mq_i_dup_x2 {n : Nat} {L : mq_L} {st : List Value} {S : mq_S} {o : mq_O} (h : mq_o_dup_x2 [n] [] L st S = some o) : ∃ (a b d : Value) (r : List Value), st = a :: b :: d :: r ∧ (a.category = 1 ∧ b.category = 1 ∧ d.category = 1) ∧ o = .inl (n, L, a :: b :: d :: a :: r, S) := by
  unfold mq_o_dup_x2 at h
  split at h
  next q _ e1 =>
    cases e1
    obtain ⟨h0, rfl⟩ := mq_if h
    exact ⟨_, _, _, _, rfl, h0, rfl⟩
  · cases h
theorem mq_i_dup2 {n : Nat} {L : mq_L} {st : List Value} {S : mq_S} {o : mq_O} (h : mq_o_dup2 [n] [] L st S = some o) : ∃ (a b : Value) (r : List Value), st = a :: b :: r ∧ (a.category = 1 ∧ b.category = 1) ∧ o = .inl (n, L, a :: b :: a :: b :: r, S) := by
  unfold mq_o_dup2 at h
  split at h
  next q _ e1 =>
    cases e1
    obtain ⟨h0, rfl⟩ := mq_if h
    exact ⟨_, _, _, rfl, h0, rfl⟩
  · cases h
theorem mq_i_if1 {f : Int32 → Bool} {n t : Nat} {L : mq_L} {st : List Value} {S : mq_S} {o : mq_O} (h : mq_if1 f [n, t] [] L st S = some o) : ∃ (x : Int32) (r : List Value), st = .int x :: r ∧ o = .inl ((if f x = true then t else n), L, r, S) := by
  unfold mq_if1 at h
  split at h
  next q _ e1 => cases e1; cases h; exact ⟨_, _, rfl, rfl⟩
  · cases h
theorem mq_i_if2 {f : Int32 → Int32 → Bool} {n t : Nat} {L : mq_L} {st : List Value} {S : mq_S} {o : mq_O} (h : mq_if2 f [n, t] [] L st S = some o) : ∃ (x y : Int32) (r : List Value), st = .int y :: .int x :: r ∧ o = .inl ((if f x y = true then t else n), L, r, S) := by
  unfold mq_if2 at h
  split at h
  next q _ e1 => cases e1; cases h; exact ⟨_, _, _, rfl, rfl⟩
  · cases h
/-- the mini-machine's word for a plain instruction -/
def mq_can (pc : Nat) (i : Instr) (len : Nat) : Option mq_P := match i with
  | .iconst c => if len = 1 then some (0, [pc + 1], [c]) else none
  | .bipush c => if len = 2 ∧ (Int8.ofInt c).toInt32 = Int32.ofInt c then some (0, [pc + 2], [c]) else none
  | .sipush c => if len = 3 ∧ (Int16.ofInt c).toInt32 = Int32.ofInt c then some (0, [pc + 3], [c]) else none
  | .lconst c => if len = 1 ∧ Int64.ofNat c.val = Int64.ofInt (c.val : Int) then some (1, [pc + 1], [(c.val : Int)]) else none
  | .iload_n i => if len = 1 then some (2, [pc + 1, i.val], []) else none
  | .iload i => if len = 2 then some (2, [pc + 2, i], []) else none
  | .lload_n i => if len = 1 then some (3, [pc + 1, i.val], []) else none
  | .lload i => if len = 2 then some (3, [pc + 2, i], []) else none
  | .aload_n i => if len = 1 then some (4, [pc + 1, i.val], []) else none
  | .aload i => if len = 2 then some (4, [pc + 2, i], []) else none
  | .istore_n i => if len = 1 then some (5, [pc + 1, i.val], []) else none
  | .istore i => if len = 2 then some (5, [pc + 2, i], []) else none
  | .lstore_n i => if len = 1 then some (6, [pc + 1, i.val], []) else none
  | .lstore i => if len = 2 then some (6, [pc + 2, i], []) else none
  | .astore_n i => if len = 1 then some (7, [pc + 1, i.val], []) else none
  | .astore i => if len = 2 then some (7, [pc + 2, i], []) else none
  | .iinc i c => if len = 3 then some (8, [pc + 3, i], [c]) else none
  | .iadd => if len = 1 then some (9, [pc + 1], []) else none
  | .isub => if len = 1 then some (10, [pc + 1], []) else none
  | .imul => if len = 1 then some (11, [pc + 1], []) else none
  | .iand => if len = 1 then some (12, [pc + 1], []) else none
  | .ior => if len = 1 then some (13, [pc + 1], []) else none
  | .ixor => if len = 1 then some (14, [pc + 1], []) else none
  | .ishl => if len = 1 then some (15, [pc + 1], []) else none
  | .ishr => if len = 1 then some (16, [pc + 1], []) else none
  | .iushr => if len = 1 then some (17, [pc + 1], []) else none
  | .idiv => if len = 1 then some (18, [pc + 1], []) else none
  | .irem => if len = 1 then some (19, [pc + 1], []) else none
  | .ineg => if len = 1 then some (20, [pc + 1], []) else none
  | .ladd => if len = 1 then some (21, [pc + 1], []) else none
  | .lsub => if len = 1 then some (22, [pc + 1], []) else none
  | .lmul => if len = 1 then some (23, [pc + 1], []) else none
  | .land => if len = 1 then some (24, [pc + 1], []) else none
  | .lor => if len = 1 then some (25, [pc + 1], []) else none
  | .lxor => if len = 1 then some (26, [pc + 1], []) else none
  | .lshl => if len = 1 then some (27, [pc + 1], []) else none
  | .lshr => if len = 1 then some (28, [pc + 1], []) else none
  | .lushr => if len = 1 then some (29, [pc + 1], []) else none
  | .lcmp => if len = 1 then some (30, [pc + 1], []) else none
  | .i2l => if len = 1 then some (31, [pc + 1], []) else none
  | .l2i => if len = 1 then some (32, [pc + 1], []) else none
  | .dup => if len = 1 then some (33, [pc + 1], []) else none
  | .pop => if len = 1 then some (34, [pc + 1], []) else none
  | .dup_x1 => if len = 1 then some (35, [pc + 1], []) else none
  | .dup_x2 => if len = 1 then some (36, [pc + 1], []) else none
  | .dup2 => if len = 1 then some (37, [pc + 1], []) else none
  | .ifCond .eq off => if len = 3 ∧ 0 ≤ (pc : Int) + off then some (38, [pc + 3, ((pc : Int) + off).toNat], []) else none
  | .ifCond .ne off => if len = 3 ∧ 0 ≤ (pc : Int) + off then some (39, [pc + 3, ((pc : Int) + off).toNat], []) else none
  | .ifCond .lt off => if len = 3 ∧ 0 ≤ (pc : Int) + off then some (40, [pc + 3, ((pc : Int) + off).toNat], []) else none
  | .ifCond .ge off => if len = 3 ∧ 0 ≤ (pc : Int) + off then some (41, [pc + 3, ((pc : Int) + off).toNat], []) else none
  | .ifCond .gt off => if len = 3 ∧ 0 ≤ (pc : Int) + off then some (42, [pc + 3, ((pc : Int) + off).toNat], []) else none
  | .ifCond .le off => if len = 3 ∧ 0 ≤ (pc : Int) + off then some (43, [pc + 3, ((pc : Int) + off).toNat], []) else none
  | .if_icmp .eq off => if len = 3 ∧ 0 ≤ (pc : Int) + off then some (44, [pc + 3, ((pc : Int) + off).toNat], []) else none
  | .if_icmp .ne off => if len = 3 ∧ 0 ≤ (pc : Int) + off then some (45, [pc + 3, ((pc : Int) + off).toNat], []) else none
  | .if_icmp .lt off => if len = 3 ∧ 0 ≤ (pc : Int) + off then some (46, [pc + 3, ((pc : Int) + off).toNat], []) else none
  | .if_icmp .ge off => if len = 3 ∧ 0 ≤ (pc : Int) + off then some (47, [pc + 3, ((pc : Int) + off).toNat], []) else none
  | .if_icmp .gt off => if len = 3 ∧ 0 ≤ (pc : Int) + off then some (48, [pc + 3, ((pc : Int) + off).toNat], []) else none
  | .if_icmp .le off => if len = 3 ∧ 0 ≤ (pc : Int) + off then some (49, [pc + 3, ((pc : Int) + off).toNat], []) else none
  | .goto off => if len = 3 ∧ 0 ≤ (pc : Int) + off then some (50, [((pc : Int) + off).toNat], []) else none
  | _ => none
section MPL
variable {p : Program} {l : Launch} {e : Env} {R : Room} {s : State} {m : MethodId} {args : Array Value} {below : List Frame} {meth : Method} {c : Code} {H : Heap} {locs : List Loc} {cells slots : Nat} {Q : State → Prop}
theorem mq_tgt {pc : Nat} {off : Int} (h : 0 ≤ (pc : Int) + off) : (pc : Int) + off = ((((pc : Int) + off).toNat : Nat) : Int) := (Int.toNat_of_nonneg h).symm
set_option maxHeartbeats 4000000 in
theorem mq_plain {cc : ByteArray} {pc len n : Nat} {i : Instr} {o : mq_P} {L L' : mq_L} {st st' : List Value} {S S' : mq_S} {f : Nat → Nat} {ls : Array Slot} (hx : p.tables.exec = Jvm.exec) (hb : c.code = cc) (hd : decode cc pc = .ok (i, len)) (hc : mq_can pc i len = some o) (he : mq_ex o L st S = some (.inl (n, L', st', S'))) (hl : mq_lr f L ls)
    (kk : ∀ ls', S' = S → mq_lr f L' ls' → W p l e R s m args below meth c H locs cells slots Q (F0 m n ls' (st'.map (mq_v f)))) : W p l e R s m args below meth c H locs cells slots Q (F0 m pc ls (st.map (mq_v f))) := by
  unfold mq_can at hc
  split at hc
  · obtain ⟨rfl, rfl⟩ := mq_if hc
    cases he
    exact lv_iconst hx hb hd rfl (kk ls rfl hl)
  · obtain ⟨⟨rfl, h9⟩, rfl⟩ := mq_if hc
    cases he
    exact lv_bipush hx hb hd h9 (kk ls rfl hl)
  · obtain ⟨⟨rfl, h9⟩, rfl⟩ := mq_if hc
    cases he
    exact lv_sipush hx hb hd h9 (kk ls rfl hl)
  · obtain ⟨⟨rfl, h9⟩, rfl⟩ := mq_if hc
    cases he
    exact lv_lconst hx hb hd h9 (kk ls rfl hl)
  · obtain ⟨rfl, rfl⟩ := mq_if hc
    obtain ⟨x, h1, h2⟩ := mq_i_iload he
    cases h2
    exact lv_iload_n hx hb hd rfl (hl.2.2 _ _ h1) (kk ls rfl hl)
  · obtain ⟨rfl, rfl⟩ := mq_if hc
    obtain ⟨x, h1, h2⟩ := mq_i_iload he
    cases h2
    exact lv_iload hx hb hd (hl.2.2 _ _ h1) (kk ls rfl hl)
  · obtain ⟨rfl, rfl⟩ := mq_if hc
    obtain ⟨x, h1, h2⟩ := mq_i_lload he
    cases h2
    exact lv_lload_n hx hb hd rfl (hl.2.2 _ _ h1) (kk ls rfl hl)
  · obtain ⟨rfl, rfl⟩ := mq_if hc
    obtain ⟨x, h1, h2⟩ := mq_i_lload he
    cases h2
    exact lv_lload hx hb hd (hl.2.2 _ _ h1) (kk ls rfl hl)
  · obtain ⟨rfl, rfl⟩ := mq_if hc
    obtain ⟨x, h1, h2⟩ := mq_i_aload he
    cases h2
    exact lv_aload_n hx hb hd rfl (hl.2.2 _ _ h1) (kk ls rfl hl)
  · obtain ⟨rfl, rfl⟩ := mq_if hc
    obtain ⟨x, h1, h2⟩ := mq_i_aload he
    cases h2
    exact lv_aload hx hb hd (hl.2.2 _ _ h1) (kk ls rfl hl)
  · obtain ⟨rfl, rfl⟩ := mq_if hc
    obtain ⟨x, r, L9, rfl, h1, h2⟩ := mq_i_istore he
    cases h2
    exact lv_istore_n hx hb hd rfl (mq_lr_has hl) (mq_set1_lt h1) rfl (fun ls' h' => kk ls' rfl (mq_lr_of1 h' h1))
  · obtain ⟨rfl, rfl⟩ := mq_if hc
    obtain ⟨x, r, L9, rfl, h1, h2⟩ := mq_i_istore he
    cases h2
    exact lv_istore hx hb hd (mq_lr_has hl) (mq_set1_lt h1) rfl (fun ls' h' => kk ls' rfl (mq_lr_of1 h' h1))
  · obtain ⟨rfl, rfl⟩ := mq_if hc
    obtain ⟨x, r, L9, rfl, h1, h2⟩ := mq_i_lstore he
    cases h2
    exact lv_lstore_n hx hb hd rfl (mq_lr_has hl) (mq_set2_lt h1) rfl (fun ls' h' => kk ls' rfl (mq_lr_of2 h' h1))
  · obtain ⟨rfl, rfl⟩ := mq_if hc
    obtain ⟨x, r, L9, rfl, h1, h2⟩ := mq_i_lstore he
    cases h2
    exact lv_lstore hx hb hd (mq_lr_has hl) (mq_set2_lt h1) rfl (fun ls' h' => kk ls' rfl (mq_lr_of2 h' h1))
  · obtain ⟨rfl, rfl⟩ := mq_if hc
    obtain ⟨x, r, L9, rfl, h1, h2⟩ := mq_i_astore he
    cases h2
    exact lv_astore_n hx hb hd rfl (mq_lr_has hl) (mq_set1_lt h1) rfl (fun ls' h' => kk ls' rfl (mq_lr_of1 h' h1))
  · obtain ⟨rfl, rfl⟩ := mq_if hc
    obtain ⟨x, r, L9, rfl, h1, h2⟩ := mq_i_astore he
    cases h2
    exact lv_astore hx hb hd (mq_lr_has hl) (mq_set1_lt h1) rfl (fun ls' h' => kk ls' rfl (mq_lr_of1 h' h1))
  · obtain ⟨rfl, rfl⟩ := mq_if hc
    obtain ⟨x, L9, h0, h1, h2⟩ := mq_i_iinc he
    cases h2
    obtain ⟨k9, hk9⟩ := List.getElem?_of_mem (mq_pr_mem.mpr ⟨_, h0, rfl⟩ : (_, mq_v f (.int x)) ∈ mq_pr f L)
    exact lv_iinc hx hb hd (mq_lr_has hl) hk9 rfl (mq_set1_lt h1) rfl (fun ls' h' => kk ls' rfl (mq_lr_of1 h' h1))
  · obtain ⟨rfl, rfl⟩ := mq_if hc
    obtain ⟨x, y, r, rfl, h2⟩ := mq_i_bi he
    cases h2
    exact lv_iadd hx hb hd (kk ls rfl hl)
  · obtain ⟨rfl, rfl⟩ := mq_if hc
    obtain ⟨x, y, r, rfl, h2⟩ := mq_i_bi he
    cases h2
    exact lv_isub hx hb hd (kk ls rfl hl)
  · obtain ⟨rfl, rfl⟩ := mq_if hc
    obtain ⟨x, y, r, rfl, h2⟩ := mq_i_bi he
    cases h2
    exact lv_imul hx hb hd (kk ls rfl hl)
  · obtain ⟨rfl, rfl⟩ := mq_if hc
    obtain ⟨x, y, r, rfl, h2⟩ := mq_i_bi he
    cases h2
    exact lv_iand hx hb hd (kk ls rfl hl)
  · obtain ⟨rfl, rfl⟩ := mq_if hc
    obtain ⟨x, y, r, rfl, h2⟩ := mq_i_bi he
    cases h2
    exact lv_ior hx hb hd (kk ls rfl hl)
  · obtain ⟨rfl, rfl⟩ := mq_if hc
    obtain ⟨x, y, r, rfl, h2⟩ := mq_i_bi he
    cases h2
    exact lv_ixor hx hb hd (kk ls rfl hl)
  · obtain ⟨rfl, rfl⟩ := mq_if hc
    obtain ⟨x, y, r, rfl, h2⟩ := mq_i_bi he
    cases h2
    exact lv_ishl hx hb hd (kk ls rfl hl)
  · obtain ⟨rfl, rfl⟩ := mq_if hc
    obtain ⟨x, y, r, rfl, h2⟩ := mq_i_bi he
    cases h2
    exact lv_ishr hx hb hd (kk ls rfl hl)
  · obtain ⟨rfl, rfl⟩ := mq_if hc
    obtain ⟨x, y, r, rfl, h2⟩ := mq_i_bi he
    cases h2
    exact lv_iushr hx hb hd rfl (kk ls rfl hl)
  · obtain ⟨rfl, rfl⟩ := mq_if hc
    obtain ⟨x, y, r, rfl, h0, h2⟩ := mq_i_bd he
    cases h2
    exact lv_idiv hx hb hd h0 (kk ls rfl hl)
  · obtain ⟨rfl, rfl⟩ := mq_if hc
    obtain ⟨x, y, r, rfl, h0, h2⟩ := mq_i_bd he
    cases h2
    exact lv_irem hx hb hd h0 (kk ls rfl hl)
  · obtain ⟨rfl, rfl⟩ := mq_if hc
    obtain ⟨x, r, rfl, h2⟩ := mq_i_ui he
    cases h2
    exact lv_ineg hx hb hd (kk ls rfl hl)
  · obtain ⟨rfl, rfl⟩ := mq_if hc
    obtain ⟨x, y, r, rfl, h2⟩ := mq_i_bl he
    cases h2
    exact lv_ladd hx hb hd (kk ls rfl hl)
  · obtain ⟨rfl, rfl⟩ := mq_if hc
    obtain ⟨x, y, r, rfl, h2⟩ := mq_i_bl he
    cases h2
    exact lv_lsub hx hb hd (kk ls rfl hl)
  · obtain ⟨rfl, rfl⟩ := mq_if hc
    obtain ⟨x, y, r, rfl, h2⟩ := mq_i_bl he
    cases h2
    exact lv_lmul hx hb hd (kk ls rfl hl)
  · obtain ⟨rfl, rfl⟩ := mq_if hc
    obtain ⟨x, y, r, rfl, h2⟩ := mq_i_bl he
    cases h2
    exact lv_land hx hb hd (kk ls rfl hl)
  · obtain ⟨rfl, rfl⟩ := mq_if hc
    obtain ⟨x, y, r, rfl, h2⟩ := mq_i_bl he
    cases h2
    exact lv_lor hx hb hd (kk ls rfl hl)
  · obtain ⟨rfl, rfl⟩ := mq_if hc
    obtain ⟨x, y, r, rfl, h2⟩ := mq_i_bl he
    cases h2
    exact lv_lxor hx hb hd (kk ls rfl hl)
  · obtain ⟨rfl, rfl⟩ := mq_if hc
    obtain ⟨x, y, r, rfl, h2⟩ := mq_i_sl he
    cases h2
    exact lv_lshl hx hb hd rfl (kk ls rfl hl)
  · obtain ⟨rfl, rfl⟩ := mq_if hc
    obtain ⟨x, y, r, rfl, h2⟩ := mq_i_sl he
    cases h2
    exact lv_lshr hx hb hd rfl (kk ls rfl hl)
  · obtain ⟨rfl, rfl⟩ := mq_if hc
    obtain ⟨x, y, r, rfl, h2⟩ := mq_i_sl he
    cases h2
    exact lv_lushr hx hb hd rfl (kk ls rfl hl)
  · obtain ⟨rfl, rfl⟩ := mq_if hc
    obtain ⟨x, y, r, rfl, h2⟩ := mq_i_lcmp he
    cases h2
    exact W.lcmp hx hb hd (kk ls rfl hl)
  · obtain ⟨rfl, rfl⟩ := mq_if hc
    obtain ⟨x, r, rfl, h2⟩ := mq_i_ui he
    cases h2
    exact lv_i2l hx hb hd rfl (kk ls rfl hl)
  · obtain ⟨rfl, rfl⟩ := mq_if hc
    obtain ⟨x, r, rfl, h2⟩ := mq_i_ul he
    cases h2
    exact lv_l2i hx hb hd rfl (kk ls rfl hl)
  · obtain ⟨rfl, rfl⟩ := mq_if hc
    obtain ⟨a, r, rfl, h0, h2⟩ := mq_i_dup he
    cases h2
    exact lv_dup hx hb hd (by rw [mq_v_cat]; exact h0) (kk ls rfl hl)
  · obtain ⟨rfl, rfl⟩ := mq_if hc
    obtain ⟨a, r, rfl, h0, h2⟩ := mq_i_pop he
    cases h2
    exact lv_pop hx hb hd (by rw [mq_v_cat]; exact h0) (kk ls rfl hl)
  · obtain ⟨rfl, rfl⟩ := mq_if hc
    obtain ⟨a, b, r, rfl, h0, h2⟩ := mq_i_dup_x1 he
    cases h2
    exact lv_dup_x1 hx hb hd (by rw [mq_v_cat]; exact h0.1) (by rw [mq_v_cat]; exact h0.2) (kk ls rfl hl)
  · obtain ⟨rfl, rfl⟩ := mq_if hc
    obtain ⟨a, b, d, r, rfl, h0, h2⟩ := mq_i_dup_x2 he
    cases h2
    exact lv_dup_x2 hx hb hd (by rw [mq_v_cat]; exact h0.1) (by rw [mq_v_cat]; exact h0.2.1) (by rw [mq_v_cat]; exact h0.2.2) (kk ls rfl hl)
  · obtain ⟨rfl, rfl⟩ := mq_if hc
    obtain ⟨a, b, r, rfl, h0, h2⟩ := mq_i_dup2 he
    cases h2
    exact lv_dup2_11 hx hb hd (by rw [mq_v_cat]; exact h0.1) (by rw [mq_v_cat]; exact h0.2) (kk ls rfl hl)
  · obtain ⟨⟨rfl, h9⟩, rfl⟩ := mq_if hc
    obtain ⟨x, r, rfl, h2⟩ := mq_i_if1 he
    cases h2
    refine lv_if_eq hx hb hd (mq_tgt h9) (fun h => ?_) (fun h => ?_)
    · have := kk ls rfl hl
      rwa [if_pos (decide_eq_true h)] at this
    · have := kk ls rfl hl
      rwa [if_neg (by simpa using h)] at this
  · obtain ⟨⟨rfl, h9⟩, rfl⟩ := mq_if hc
    obtain ⟨x, r, rfl, h2⟩ := mq_i_if1 he
    cases h2
    refine lv_if_ne hx hb hd (mq_tgt h9) (fun h => ?_) (fun h => ?_)
    · have := kk ls rfl hl
      rwa [if_pos (decide_eq_true h)] at this
    · have := kk ls rfl hl
      rwa [if_neg (by simpa using h)] at this
  · obtain ⟨⟨rfl, h9⟩, rfl⟩ := mq_if hc
    obtain ⟨x, r, rfl, h2⟩ := mq_i_if1 he
    cases h2
    refine lv_if_lt hx hb hd (mq_tgt h9) (fun h => ?_) (fun h => ?_)
    · have := kk ls rfl hl
      rwa [if_pos (decide_eq_true h)] at this
    · have := kk ls rfl hl
      rwa [if_neg (by simpa using h)] at this
  · obtain ⟨⟨rfl, h9⟩, rfl⟩ := mq_if hc
    obtain ⟨x, r, rfl, h2⟩ := mq_i_if1 he
    cases h2
    refine lv_if_ge hx hb hd (mq_tgt h9) (fun h => ?_) (fun h => ?_)
    · have := kk ls rfl hl
      rwa [if_pos (decide_eq_true h)] at this
    · have := kk ls rfl hl
      rwa [if_neg (by simpa using h)] at this
  · obtain ⟨⟨rfl, h9⟩, rfl⟩ := mq_if hc
    obtain ⟨x, r, rfl, h2⟩ := mq_i_if1 he
    cases h2
    refine lv_if_gt hx hb hd (mq_tgt h9) (fun h => ?_) (fun h => ?_)
    · have := kk ls rfl hl
      rwa [if_pos (decide_eq_true h)] at this
    · have := kk ls rfl hl
      rwa [if_neg (by simpa using h)] at this
  · obtain ⟨⟨rfl, h9⟩, rfl⟩ := mq_if hc
    obtain ⟨x, r, rfl, h2⟩ := mq_i_if1 he
    cases h2
    refine lv_if_le hx hb hd (mq_tgt h9) (fun h => ?_) (fun h => ?_)
    · have := kk ls rfl hl
      rwa [if_pos (decide_eq_true h)] at this
    · have := kk ls rfl hl
      rwa [if_neg (by simpa using h)] at this
  · obtain ⟨⟨rfl, h9⟩, rfl⟩ := mq_if hc
    obtain ⟨x, y, r, rfl, h2⟩ := mq_i_if2 he
    cases h2
    refine lv_icmp_eq hx hb hd (mq_tgt h9) (fun h => ?_) (fun h => ?_)
    · have := kk ls rfl hl
      rwa [if_pos (decide_eq_true h)] at this
    · have := kk ls rfl hl
      rwa [if_neg (by simpa using h)] at this
  · obtain ⟨⟨rfl, h9⟩, rfl⟩ := mq_if hc
    obtain ⟨x, y, r, rfl, h2⟩ := mq_i_if2 he
    cases h2
    refine lv_icmp_ne hx hb hd (mq_tgt h9) (fun h => ?_) (fun h => ?_)
    · have := kk ls rfl hl
      rwa [if_pos (decide_eq_true h)] at this
    · have := kk ls rfl hl
      rwa [if_neg (by simpa using h)] at this
  · obtain ⟨⟨rfl, h9⟩, rfl⟩ := mq_if hc
    obtain ⟨x, y, r, rfl, h2⟩ := mq_i_if2 he
    cases h2
    refine lv_icmp_lt hx hb hd (mq_tgt h9) (fun h => ?_) (fun h => ?_)
    · have := kk ls rfl hl
      rwa [if_pos (decide_eq_true h)] at this
    · have := kk ls rfl hl
      rwa [if_neg (by simpa using h)] at this
  · obtain ⟨⟨rfl, h9⟩, rfl⟩ := mq_if hc
    obtain ⟨x, y, r, rfl, h2⟩ := mq_i_if2 he
    cases h2
    refine lv_icmp_ge hx hb hd (mq_tgt h9) (fun h => ?_) (fun h => ?_)
    · have := kk ls rfl hl
      rwa [if_pos (decide_eq_true h)] at this
    · have := kk ls rfl hl
      rwa [if_neg (by simpa using h)] at this
  · obtain ⟨⟨rfl, h9⟩, rfl⟩ := mq_if hc
    obtain ⟨x, y, r, rfl, h2⟩ := mq_i_if2 he
    cases h2
    refine lv_icmp_gt hx hb hd (mq_tgt h9) (fun h => ?_) (fun h => ?_)
    · have := kk ls rfl hl
      rwa [if_pos (decide_eq_true h)] at this
    · have := kk ls rfl hl
      rwa [if_neg (by simpa using h)] at this
  · obtain ⟨⟨rfl, h9⟩, rfl⟩ := mq_if hc
    obtain ⟨x, y, r, rfl, h2⟩ := mq_i_if2 he
    cases h2
    refine lv_icmp_le hx hb hd (mq_tgt h9) (fun h => ?_) (fun h => ?_)
    · have := kk ls rfl hl
      rwa [if_pos (decide_eq_true h)] at this
    · have := kk ls rfl hl
      rwa [if_neg (by simpa using h)] at this
  · obtain ⟨⟨rfl, h9⟩, rfl⟩ := mq_if hc
    cases he
    exact lv_goto hx hb hd (mq_tgt h9) (kk ls rfl hl)
  · cases hc
end MPL
