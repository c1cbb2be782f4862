/-! No run of the class's methods writes the fixed tables (cells 24 .. 31). -/
abbrev fz_A (b : Nat) : Prop := (b = 1 ∨ 8 ≤ b) ∧ b < 271 ∧ ¬ (24 ≤ b ∧ b ≤ 31)
abbrev fz_D (b : Nat) : Prop := 24 ≤ b ∧ b ≤ 31
def fz_md (k : Nat) : Nat := if k = 100 ∨ k = 101 then 2 else if 102 ≤ k ∧ k ≤ 105 then 1 else 0
def fz_tt (k pc : Nat) : Nat := if k = 92 then (if pc = 132 then 1 else if pc = 133 then 2 else if pc = 136 then 2 else 0) else 0
def fz_B (k b : Nat) : Prop := fz_A b ∨ (fz_md k = 2 ∧ fz_D b)
def fz_J (M0 : Nat → mq_C) (S : mq_S) : Prop := 271 ≤ S.2.1 ∧ (S.1 9).1 = 8 ∧ (∀ a, fz_D a → S.1 a = M0 a) ∧ ∀ (a i b : Nat), fz_A a → (S.1 a).2[i]? = some (Value.ref b) → fz_A b ∨ (fz_D b ∧ a = 9 ∧ (i = 10 ∨ i = 11))
def fz_0 (M0 : Nat → mq_C) : Prop := ∀ a, fz_D a → (M0 a).1 ≠ 8 ∧ ∀ (i b : Nat), (M0 a).2[i]? = some (Value.ref b) → fz_D b
def fz_LP (k : Nat) (L : mq_L) : Prop := ∀ (i b : Nat), L[i]? = some (some (Value.ref b)) → (fz_md k = 1 → i = 0) → fz_B k b
def fz_F (k pc : Nat) (L : mq_L) (st : List Value) : Prop := fz_LP k L ∧ (∀ b : Nat, Value.ref b ∈ st.drop (fz_tt k pc) → fz_B k b) ∧ ∀ b : Nat, Value.ref b ∈ st.take (fz_tt k pc) → fz_A b ∨ fz_D b
theorem fz_md2 (j : Nat) : fz_md j ≤ 2 := by
  unfold fz_md
  split
  · omega
  · split <;> omega
theorem fz_F0 {k pc : Nat} {L : mq_L} {st : List Value} (h : fz_tt k pc = 0) (h1 : fz_LP k L) (h2 : ∀ b : Nat, Value.ref b ∈ st → fz_B k b) : fz_F k pc L st := by
  unfold fz_F
  rw [h]
  exact ⟨h1, h2, fun b hb => by cases hb⟩
theorem fz_F1 {k pc : Nat} {L : mq_L} {st : List Value} (h : fz_tt k pc = 0) (hF : fz_F k pc L st) : fz_LP k L ∧ ∀ b : Nat, Value.ref b ∈ st → fz_B k b := by
  unfold fz_F at hF
  rw [h] at hF
  exact ⟨hF.1, hF.2.1⟩
def fz_O (M0 : Nat → mq_C) (Ks : List Nat) (k : Nat) (out : mq_O) : Prop := match out with
  | .inl (pc', L', st', S') => fz_J M0 S' ∧ fz_F k pc' L' st'
  | .inr (.inl (v, S')) => fz_J M0 S' ∧ ∀ b : Nat, v = some (Value.ref b) → fz_A b
  | .inr (.inr (.inl (_, S'))) => fz_J M0 S'
  | .inr (.inr (.inr (j, as, pc', L', st', S'))) => fz_J M0 S' ∧ j ∈ Ks ∧ fz_LP j (mq_en mq_PP j as) ∧ ∀ v : Option Value, (∀ b : Nat, v = some (Value.ref b) → fz_A b) → fz_F k pc' L' (v.toList ++ st')
/-- instructions that only move values -/
def fz_pl (f : mq_E) : Prop := ∀ ns cs L st S out, f ns cs L st S = some out → ∃ n L' st', out = .inl (n, L', st', S) ∧ n ∈ ns ∧ (∀ b : Nat, Value.ref b ∈ st' → Value.ref b ∈ st) ∧ ∀ (i b : Nat), L'[i]? = some (some (Value.ref b)) → L[i]? = some (some (Value.ref b)) ∨ Value.ref b ∈ st
theorem fz_set1 {L : mq_L} {i : Nat} {v : Value} {L' : mq_L} (hs : mq_set1 L i v = some L') : ∀ (j b : Nat), L'[j]? = some (some (Value.ref b)) → L[j]? = some (some (Value.ref b)) ∨ v = Value.ref b := by
  unfold mq_set1 at hs
  split at hs
  · cases hs
  · cases hs
    intro j b hb
    rw [List.getElem?_set] at hb
    split at hb
    · split at hb
      · exact .inr (Option.some.inj (Option.some.inj hb))
      · cases hb
    · exact .inl hb
theorem fz_sw : ∀ (cs : List Int) (ns : List Nat) (x : Int) (t : Nat), mq_sw cs ns x = some t → t ∈ ns := by
  intro cs
  induction cs with
  | nil =>
    intro ns x t h
    rcases ns with _ | ⟨a, _ | ⟨b, r⟩⟩
    · simp [mq_sw] at h
    · simp [mq_sw] at h
      simp [h]
    · simp [mq_sw] at h
  | cons k ks ih =>
    intro ns x t h
    rcases ns with _ | ⟨a, r⟩
    · simp [mq_sw] at h
    · rw [mq_sw] at h
      split at h
      · cases h
        exact List.mem_cons_self ..
      · exact List.mem_cons_of_mem _ (ih _ _ _ h)
theorem fz_iconst : fz_pl mq_o_iconst := by
  intro ns cs L st S out h
  unfold mq_o_iconst at h
  repeat' split at h
  all_goals first
    | (cases h; exact ⟨_, _, _, rfl, by simp, fun b hb => by simpa using hb, fun i b hb => .inl hb⟩)
    | (cases h; exact ⟨_, _, _, rfl, by simp, fun b hb => List.mem_cons_of_mem _ hb, fun i b hb => .inl hb⟩)
    | (cases h; exact ⟨_, _, _, rfl, by simp, fun b hb => List.mem_cons_of_mem _ (by simpa using hb), fun i b hb => .inl hb⟩)
    | cases h
theorem fz_iload : fz_pl mq_o_iload := by
  intro ns cs L st S out h
  unfold mq_o_iload at h
  repeat' split at h
  all_goals first
    | (cases h; exact ⟨_, _, _, rfl, by simp, fun b hb => by simpa using hb, fun i b hb => .inl hb⟩)
    | (cases h; exact ⟨_, _, _, rfl, by simp, fun b hb => List.mem_cons_of_mem _ hb, fun i b hb => .inl hb⟩)
    | (cases h; exact ⟨_, _, _, rfl, by simp, fun b hb => List.mem_cons_of_mem _ (by simpa using hb), fun i b hb => .inl hb⟩)
    | cases h
theorem fz_lload : fz_pl mq_o_lload := by
  intro ns cs L st S out h
  unfold mq_o_lload at h
  repeat' split at h
  all_goals first
    | (cases h; exact ⟨_, _, _, rfl, by simp, fun b hb => by simpa using hb, fun i b hb => .inl hb⟩)
    | (cases h; exact ⟨_, _, _, rfl, by simp, fun b hb => List.mem_cons_of_mem _ hb, fun i b hb => .inl hb⟩)
    | (cases h; exact ⟨_, _, _, rfl, by simp, fun b hb => List.mem_cons_of_mem _ (by simpa using hb), fun i b hb => .inl hb⟩)
    | cases h
theorem fz_istore : fz_pl mq_o_istore := by
  intro ns cs L st S out h
  unfold mq_o_istore at h
  repeat' split at h
  all_goals first
    | (next hs => cases h; exact ⟨_, _, _, rfl, by simp, fun b hb => List.mem_cons_of_mem _ hb, fun i b hb => (fz_set1 hs i b hb).imp id fun e => by simp [e]⟩)
    | cases h
theorem fz_astore : fz_pl mq_o_astore := by
  intro ns cs L st S out h
  unfold mq_o_astore at h
  repeat' split at h
  all_goals first
    | (next hs => cases h; exact ⟨_, _, _, rfl, by simp, fun b hb => List.mem_cons_of_mem _ hb, fun i b hb => (fz_set1 hs i b hb).imp id fun e => by simp [e]⟩)
    | cases h
theorem fz_iinc : fz_pl mq_o_iinc := by
  intro ns cs L st S out h
  unfold mq_o_iinc at h
  repeat' split at h
  all_goals first
    | (next hs => cases h; exact ⟨_, _, _, rfl, by simp, fun b hb => hb, fun i b hb => (fz_set1 hs i b hb).imp id fun e => by cases e⟩)
    | cases h
theorem fz_bi (f : Int32 → Int32 → Int32) : fz_pl (mq_bi f) := by
  intro ns cs L st S out h
  unfold mq_bi at h
  repeat' split at h
  all_goals first
    | (cases h; exact ⟨_, _, _, rfl, by simp, fun b hb => by simpa using hb, fun i b hb => .inl hb⟩)
    | (cases h; exact ⟨_, _, _, rfl, by simp, fun b hb => List.mem_cons_of_mem _ hb, fun i b hb => .inl hb⟩)
    | (cases h; exact ⟨_, _, _, rfl, by simp, fun b hb => List.mem_cons_of_mem _ (by simpa using hb), fun i b hb => .inl hb⟩)
    | cases h
theorem fz_bd (f : Int32 → Int32 → Int32) : fz_pl (mq_bd f) := by
  intro ns cs L st S out h
  unfold mq_bd at h
  repeat' split at h
  all_goals first
    | (cases h; exact ⟨_, _, _, rfl, by simp, fun b hb => by simpa using hb, fun i b hb => .inl hb⟩)
    | (cases h; exact ⟨_, _, _, rfl, by simp, fun b hb => List.mem_cons_of_mem _ hb, fun i b hb => .inl hb⟩)
    | (cases h; exact ⟨_, _, _, rfl, by simp, fun b hb => List.mem_cons_of_mem _ (by simpa using hb), fun i b hb => .inl hb⟩)
    | cases h
theorem fz_sl (f : Int64 → Int32 → Int64) : fz_pl (mq_sl f) := by
  intro ns cs L st S out h
  unfold mq_sl at h
  repeat' split at h
  all_goals first
    | (cases h; exact ⟨_, _, _, rfl, by simp, fun b hb => by simpa using hb, fun i b hb => .inl hb⟩)
    | (cases h; exact ⟨_, _, _, rfl, by simp, fun b hb => List.mem_cons_of_mem _ hb, fun i b hb => .inl hb⟩)
    | (cases h; exact ⟨_, _, _, rfl, by simp, fun b hb => List.mem_cons_of_mem _ (by simpa using hb), fun i b hb => .inl hb⟩)
    | cases h
theorem fz_ul (f : Int64 → Int32) : fz_pl (mq_ul (fun x => .int (f x))) := by
  intro ns cs L st S out h
  unfold mq_ul at h
  repeat' split at h
  all_goals first
    | (cases h; exact ⟨_, _, _, rfl, by simp, fun b hb => by simpa using hb, fun i b hb => .inl hb⟩)
    | (cases h; exact ⟨_, _, _, rfl, by simp, fun b hb => List.mem_cons_of_mem _ hb, fun i b hb => .inl hb⟩)
    | (cases h; exact ⟨_, _, _, rfl, by simp, fun b hb => List.mem_cons_of_mem _ (by simpa using hb), fun i b hb => .inl hb⟩)
    | cases h
theorem fz_dup : fz_pl mq_o_dup := by
  intro ns cs L st S out h
  unfold mq_o_dup at h
  repeat' split at h
  all_goals first
    | (cases h; exact ⟨_, _, _, rfl, by simp, fun b hb => by simpa using hb, fun i b hb => .inl hb⟩)
    | (cases h; exact ⟨_, _, _, rfl, by simp, fun b hb => List.mem_cons_of_mem _ hb, fun i b hb => .inl hb⟩)
    | (cases h; exact ⟨_, _, _, rfl, by simp, fun b hb => List.mem_cons_of_mem _ (by simpa using hb), fun i b hb => .inl hb⟩)
    | cases h
theorem fz_pop : fz_pl mq_o_pop := by
  intro ns cs L st S out h
  unfold mq_o_pop at h
  repeat' split at h
  all_goals first
    | (cases h; exact ⟨_, _, _, rfl, by simp, fun b hb => by simpa using hb, fun i b hb => .inl hb⟩)
    | (cases h; exact ⟨_, _, _, rfl, by simp, fun b hb => List.mem_cons_of_mem _ hb, fun i b hb => .inl hb⟩)
    | (cases h; exact ⟨_, _, _, rfl, by simp, fun b hb => List.mem_cons_of_mem _ (by simpa using hb), fun i b hb => .inl hb⟩)
    | cases h
theorem fz_dup2 : fz_pl mq_o_dup2 := by
  intro ns cs L st S out h
  unfold mq_o_dup2 at h
  repeat' split at h
  all_goals first
    | (cases h; exact ⟨_, _, _, rfl, by simp, fun b hb => by simp only [List.mem_cons] at hb ⊢; rcases hb with h | h | h | h | h <;> simp [h], fun i b hb => .inl hb⟩)
    | cases h
theorem fz_goto : fz_pl mq_o_goto := by
  intro ns cs L st S out h
  unfold mq_o_goto at h
  repeat' split at h
  all_goals first
    | (cases h; exact ⟨_, _, _, rfl, by simp, fun b hb => by simpa using hb, fun i b hb => .inl hb⟩)
    | (cases h; exact ⟨_, _, _, rfl, by simp, fun b hb => List.mem_cons_of_mem _ hb, fun i b hb => .inl hb⟩)
    | (cases h; exact ⟨_, _, _, rfl, by simp, fun b hb => List.mem_cons_of_mem _ (by simpa using hb), fun i b hb => .inl hb⟩)
    | cases h
theorem fz_alen : fz_pl mq_o_alen := by
  intro ns cs L st S out h
  unfold mq_o_alen at h
  repeat' split at h
  all_goals first
    | (cases h; exact ⟨_, _, _, rfl, by simp, fun b hb => by simpa using hb, fun i b hb => .inl hb⟩)
    | (cases h; exact ⟨_, _, _, rfl, by simp, fun b hb => List.mem_cons_of_mem _ hb, fun i b hb => .inl hb⟩)
    | (cases h; exact ⟨_, _, _, rfl, by simp, fun b hb => List.mem_cons_of_mem _ (by simpa using hb), fun i b hb => .inl hb⟩)
    | cases h
theorem fz_min : fz_pl mq_o_min := by
  intro ns cs L st S out h
  unfold mq_o_min at h
  repeat' split at h
  all_goals first
    | (cases h; exact ⟨_, _, _, rfl, by simp, fun b hb => by simpa using hb, fun i b hb => .inl hb⟩)
    | (cases h; exact ⟨_, _, _, rfl, by simp, fun b hb => List.mem_cons_of_mem _ hb, fun i b hb => .inl hb⟩)
    | (cases h; exact ⟨_, _, _, rfl, by simp, fun b hb => List.mem_cons_of_mem _ (by simpa using hb), fun i b hb => .inl hb⟩)
    | cases h
theorem fz_if1 (f : Int32 → Bool) : fz_pl (mq_if1 f) := by
  intro ns cs L st S out h
  unfold mq_if1 at h
  split at h
  · cases h
    exact ⟨_, _, _, rfl, by split <;> simp, fun b hb => by simpa using hb, fun i b hb => .inl hb⟩
  · cases h
theorem fz_if2 (f : Int32 → Int32 → Bool) : fz_pl (mq_if2 f) := by
  intro ns cs L st S out h
  unfold mq_if2 at h
  split at h
  · cases h
    exact ⟨_, _, _, rfl, by split <;> simp, fun b hb => by simpa using hb, fun i b hb => .inl hb⟩
  · cases h
theorem fz_switch : fz_pl mq_o_switch := by
  intro ns cs L st S out h
  unfold mq_o_switch at h
  split at h
  · split at h
    · next t ht =>
      cases h
      exact ⟨_, _, _, rfl, fz_sw _ _ _ _ ht, fun b hb => List.mem_cons_of_mem _ hb, fun i b hb => .inl hb⟩
    · cases h
  · cases h
def fz_okp (o : Nat) : Bool := [0, 2, 3, 5, 7, 8, 9, 10, 11, 12, 13, 14, 15, 16, 17, 18, 19, 29, 32, 33, 34, 37, 38, 39, 40, 41, 42, 43, 44, 45, 46, 47, 48, 49, 50, 51, 57, 63].elem o
theorem fz_pls {o : Nat} {f : mq_E} (ho : fz_okp o = true) (hf : mq_ops[o]? = some f) : fz_pl f := by
  have h := List.elem_iff.mp ho
  simp only [List.mem_cons, List.not_mem_nil, or_false] at h
  rcases h with rfl | rfl | rfl | rfl | rfl | rfl | rfl | rfl | rfl | rfl | rfl | rfl | rfl | rfl | rfl | rfl | rfl | rfl | rfl | rfl | rfl | rfl | rfl | rfl | rfl | rfl | rfl | rfl | rfl | rfl | rfl | rfl | rfl | rfl | rfl | rfl | rfl | rfl <;> cases hf
  · exact fz_iconst
  · exact fz_iload
  · exact fz_lload
  · exact fz_istore
  · exact fz_astore
  · exact fz_iinc
  · exact fz_bi _
  · exact fz_bi _
  · exact fz_bi _
  · exact fz_bi _
  · exact fz_bi _
  · exact fz_bi _
  · exact fz_bi _
  · exact fz_bi _
  · exact fz_bi _
  · exact fz_bd _
  · exact fz_bd _
  · exact fz_sl _
  · exact fz_ul _
  · exact fz_dup
  · exact fz_pop
  · exact fz_dup2
  · exact fz_if1 _
  · exact fz_if1 _
  · exact fz_if1 _
  · exact fz_if1 _
  · exact fz_if1 _
  · exact fz_if1 _
  · exact fz_if2 _
  · exact fz_if2 _
  · exact fz_if2 _
  · exact fz_if2 _
  · exact fz_if2 _
  · exact fz_if2 _
  · exact fz_goto
  · exact fz_switch
  · exact fz_alen
  · exact fz_min
def fz_ck0 (Ks : List Nat) (m : Nat) (o : mq_P) : Bool := match o.1, o.2.1 with
  | 4, [_, i] => decide (m = 1 → i = 0)
  | 52, _ :: ci :: f :: _ => decide (m = 2 ∨ ¬ (ci = 8 ∧ (f = 10 ∨ f = 11)))
  | 53, _ :: ci :: _ :: t :: _ => decide (m = 2 → ci = 8 ∧ t < 2)
  | 54, _ :: a :: _ => decide (fz_A a)
  | 58, [_, kind] => decide (8 < kind)
  | 59, _ => decide (¬ m = 2)
  | 60, _ :: j :: _ => Ks.elem j && decide (¬ m = 2)
  | 61, _ :: j :: _ :: ci :: _ => Ks.elem j && decide (m = 2 → ci = 8 ∧ 1 ≤ fz_md j)
  | 65, _ => decide (¬ m = 2)
  | 66, _ => true
  | 67, [t] => decide (m = 2 → t < 3)
  | 68, _ => true
  | o1, _ => fz_okp o1
def fz_ckS (Ks : List Nat) (pc : Nat) (o : mq_P) : Bool := match o.1, o.2.1 with
  | 52, n :: _ => decide ((pc = 129 ∧ n = 132) ∨ (pc = 133 ∧ n = 136))
  | 4, [n, _] => decide (pc = 132 ∧ n = 133)
  | 61, n :: j :: c :: _ => decide (pc = 136 ∧ n = 139 ∧ j = 101 ∧ c = 2) && Ks.elem 101
  | _, _ => false
def fz_ck (Ks : List Nat) (k pc : Nat) (o : mq_P) : Bool := if k = 92 ∧ (pc = 129 ∨ pc = 132 ∨ pc = 133 ∨ pc = 136) then fz_ckS Ks pc o else (fz_ck0 Ks (fz_md k) o && o.2.1.all fun n => decide (fz_tt k n = 0))
def fz_ms (Ks : List Nat) : Bool := Ks.all fun k => match mq_PP[k]? with
  | some t => t.2.1.isEmpty && t.2.2.all fun x => fz_ck Ks k x.1 x.2
  | none => false
theorem fz_rd {M0 : Nat → mq_C} (h0 : fz_0 M0) {S : mq_S} (hJ : fz_J M0 S) {k a i b : Nat} (ha : fz_B k a) (hi : (S.1 a).2[i]? = some (Value.ref b)) (hn : fz_md k = 2 ∨ ¬ ((S.1 a).1 = 8 ∧ (i = 10 ∨ i = 11))) : fz_B k b := by
  rcases ha with ha | ⟨hm, ha⟩
  · rcases hJ.2.2.2 a i b ha hi with h1 | ⟨h1, h2, h3⟩
    · exact .inl h1
    · rcases hn with hn | hn
      · exact .inr ⟨hn, h1⟩
      · subst h2
        exact absurd ⟨hJ.2.1, h3⟩ hn
  · rw [hJ.2.2.1 a ha] at hi
    exact .inr ⟨hm, (h0 a ha).2 i b hi⟩
theorem fz_AD {a : Nat} (h : fz_A a) (h' : fz_D a) : False := h.2.2 h'
theorem fz_Jup {M0 : Nat → mq_C} {S : mq_S} (hJ : fz_J M0 S) {a kd : Nat} {l : List Value} (ha : fz_A a) (hk : (S.1 a).1 = kd) (hl : ∀ (i b : Nat), l[i]? = some (Value.ref b) → fz_A b ∨ (S.1 a).2[i]? = some (Value.ref b)) : fz_J M0 (va_up S.1 a (kd, l), S.2.1, S.2.2) := by
  obtain ⟨j1, j2, j3, j4⟩ := hJ
  refine ⟨j1, ?_, ?_, ?_⟩
  · show (va_up S.1 a (kd, l) 9).1 = 8
    by_cases e : 9 = a
    · subst e
      rw [va_up_self]
      exact hk.symm.trans j2
    · rw [va_up_ne _ _ e]
      exact j2
  · intro a' h'
    show va_up S.1 a (kd, l) a' = M0 a'
    rw [va_up_ne _ _ (by rintro rfl; exact fz_AD ha h')]
    exact j3 a' h'
  · intro a' i b h' hi
    have hi : (va_up S.1 a (kd, l) a').2[i]? = some (Value.ref b) := hi
    by_cases e : a' = a
    · subst e
      rw [va_up_self] at hi
      rcases hl i b hi with h1 | h1
      · exact .inl h1
      · exact j4 a' i b h' h1
    · rw [va_up_ne _ _ e] at hi
      exact j4 a' i b h' hi
theorem fz_Jset {M0 : Nat → mq_C} {S : mq_S} (hJ : fz_J M0 S) {a kd k : Nat} {v : Value} (ha : fz_A a) (hk : (S.1 a).1 = kd) (hv : ∀ b : Nat, v = Value.ref b → fz_A b) : fz_J M0 (va_up S.1 a (kd, (S.1 a).2.set k v), S.2.1, S.2.2) := by
  refine fz_Jup hJ ha hk fun i b hi => ?_
  rw [List.getElem?_set] at hi
  split at hi
  · split at hi
    · exact .inl (hv b (Option.some.inj hi))
    · cases hi
  · exact .inr hi
theorem fz_arr {M0 : Nat → mq_C} {S : mq_S} (hJ : fz_J M0 S) {a b : Nat} (ha : fz_A a) (hk : (S.1 a).1 = 64) (hb : Value.ref b ∈ (S.1 a).2) : fz_A b := by
  obtain ⟨i, hi⟩ := List.mem_iff_getElem?.mp hb
  rcases hJ.2.2.2 a i b ha hi with h1 | ⟨_, h2, _⟩
  · exact h1
  · subst h2
    rw [hJ.2.1] at hk
    cases hk
theorem fz_Jcpy {M0 : Nat → mq_C} {S : mq_S} (hJ : fz_J M0 S) {a b sp dp n : Nat} (ha : fz_A a) (hb : fz_A b) (hka : (S.1 a).1 = 64) (hkb : (S.1 b).1 = 64) : fz_J M0 (va_up S.1 b (64, mq_cpy (S.1 a).2 (S.1 b).2 sp dp n), S.2.1, S.2.2) := by
  refine fz_Jup hJ hb hkb fun i c hi => .inl ?_
  have hm := List.mem_of_getElem? hi
  unfold mq_cpy at hm
  rcases List.mem_append.mp hm with h1 | h1
  · rcases List.mem_append.mp h1 with h2 | h2
    · exact fz_arr hJ hb hkb (List.mem_of_mem_take h2)
    · exact fz_arr hJ ha hka (List.mem_of_mem_drop (List.mem_of_mem_take h2))
  · exact fz_arr hJ hb hkb (List.mem_of_mem_drop h1)
theorem fz_Jthr {M0 : Nat → mq_C} {S : mq_S} (hJ : fz_J M0 S) (e u : Nat) : fz_J M0 (va_up S.1 S.2.1 (e, []), S.2.1 + 1, u) := by
  obtain ⟨j1, j2, j3, j4⟩ := hJ
  refine ⟨Nat.le_succ_of_le j1, ?_, ?_, ?_⟩
  · show (va_up S.1 S.2.1 (e, []) 9).1 = 8
    rw [va_up_ne _ _ (by omega)]
    exact j2
  · intro a' h'
    show va_up S.1 S.2.1 (e, []) a' = M0 a'
    have := h'.2
    rw [va_up_ne _ _ (by omega)]
    exact j3 a' h'
  · intro a' i b h' hi
    have hi : (va_up S.1 S.2.1 (e, []) a').2[i]? = some (Value.ref b) := hi
    have := h'.2.1
    rw [va_up_ne _ _ (by omega)] at hi
    exact j4 a' i b h' hi
theorem fz_en {B : Nat → Prop} {j : Nat} {as : List Value} (h : ∀ b : Nat, Value.ref b ∈ as → B b) : ∀ (i b : Nat), (mq_en mq_PP j as)[i]? = some (some (Value.ref b)) → B b := fun _ b hi => hy_en B h b (List.mem_of_getElem? hi)
theorem fz_en0 {j b : Nat} {as : List Value} : ∀ c : Nat, (mq_en mq_PP j (Value.ref b :: as))[0]? = some (some (Value.ref c)) → c = b := by
  intro c hc
  unfold mq_en at hc
  split at hc
  · have e : mq_sp (Value.ref b :: as) = some (Value.ref b) :: mq_sp as := rfl
    rw [e] at hc
    have hc : some (some (Value.ref b)) = some (some (Value.ref c)) := hc
    cases hc
    rfl
  · cases hc
theorem fz_all {k : Nat} {ns : List Nat} (h : (ns.all fun n => decide (fz_tt k n = 0)) = true) {n : Nat} (hn : n ∈ ns) : fz_tt k n = 0 := of_decide_eq_true (List.all_eq_true.mp h n hn)
theorem fz_cs {k : Nat} {st : List Value} {v : Value} (h : ∀ b : Nat, Value.ref b ∈ st → fz_B k b) (hv : ∀ b : Nat, v = Value.ref b → fz_B k b) : ∀ b : Nat, Value.ref b ∈ v :: st → fz_B k b := hy_c (fz_B k) h hv
theorem fz_vs {k : Nat} {st : List Value} (h : ∀ b : Nat, Value.ref b ∈ st → fz_B k b) {v : Option Value} (hv : ∀ b : Nat, v = some (Value.ref b) → fz_A b) : ∀ b : Nat, Value.ref b ∈ v.toList ++ st → fz_B k b := by
  intro b hb
  rcases List.mem_append.mp hb with h1 | h1
  · cases v with
    | none => cases h1
    | some w =>
      have h1 : Value.ref b ∈ [w] := h1
      rw [List.mem_singleton] at h1
      exact .inl (hv b (by rw [h1]))
  · exact h b h1
theorem fz_8 {M0 : Nat → mq_C} (h0 : fz_0 M0) {S : mq_S} (hJ : fz_J M0 S) {k a : Nat} (hb : fz_B k a) (hn : fz_md k = 2 → (S.1 a).1 = 8) : fz_A a := by
  rcases hb with h1 | ⟨h1, h2⟩
  · exact h1
  · have h3 := hn h1
    rw [hJ.2.2.1 a h2] at h3
    exact absurd h3 (h0 a h2).1
/-- one instruction at any other place -/
theorem fz_step0 {M0 : Nat → mq_C} (h0 : fz_0 M0) {Ks : List Nat} {k pc : Nat} {o : mq_P} (hck : fz_ck0 Ks (fz_md k) o = true) (hall : (o.2.1.all fun n => decide (fz_tt k n = 0)) = true) {L : mq_L} {st : List Value} {S : mq_S} {out : mq_O} (h : mq_ex o L st S = some out) (hJ : fz_J M0 S) (hL : fz_LP k L) (hS : ∀ b : Nat, Value.ref b ∈ st → fz_B k b) : fz_O M0 Ks k out := by
  obtain ⟨o1, ns, cs⟩ := o
  unfold fz_ck0 at hck
  split at hck
  · next n i e1 e2 =>
    obtain rfl : o1 = 4 := e1
    obtain rfl : ns = [n, i] := e2
    have h2 : mq_o_aload [n, i] cs L st S = some out := h
    clear h
    have h2 : (match L[i]? with | some (some (Value.ref x)) => mq_nx n L (Value.ref x :: st) S | _ => none) = some out := h2
    split at h2
    · next x hx =>
      cases h2
      exact ⟨hJ, fz_F0 (fz_all hall (by simp)) hL (fz_cs hS fun b hb => by cases hb; exact hL _ _ hx (of_decide_eq_true hck))⟩
    · cases h2
  · next n ci f r e1 e2 =>
    obtain rfl : o1 = 52 := e1
    obtain rfl : ns = n :: ci :: f :: r := e2
    have h2 : mq_o_get (n :: ci :: f :: r) cs L st S = some out := h
    clear h
    unfold mq_o_get at h2
    split at h2
    · next n' ci' f' r' a s' en =>
      cases en
      split at h2
      · next hc =>
        split at h2
        · next v hv =>
          cases h2
          refine ⟨hJ, fz_F0 (fz_all hall (by simp)) hL (fz_cs (fun b hb => hS b (List.mem_cons_of_mem _ hb)) fun b hb => ?_)⟩
          subst hb
          refine fz_rd h0 hJ (hS a (List.mem_cons_self ..)) hv ?_
          rw [hc]
          exact of_decide_eq_true hck
        · cases h2
      · cases h2
    · cases h2
  · next n ci f t r e1 e2 =>
    obtain rfl : o1 = 53 := e1
    obtain rfl : ns = n :: ci :: f :: t :: r := e2
    have h2 : mq_o_put (n :: ci :: f :: t :: r) cs L st S = some out := h
    clear h
    unfold mq_o_put at h2
    split at h2
    · next n' ci' f' t' r' v a s' en =>
      cases en
      split at h2
      · next hc =>
        cases h2
        have hd := of_decide_eq_true hck
        have ha : fz_A a := fz_8 h0 hJ (hS a (List.mem_cons_of_mem _ (List.mem_cons_self ..))) fun hm => hc.1.trans (hd hm).1
        refine ⟨fz_Jset hJ ha hc.1 fun b hb => ?_, fz_F0 (fz_all hall (by simp)) hL fun b hb => hS b (List.mem_cons_of_mem _ (List.mem_cons_of_mem _ hb))⟩
        subst hb
        rcases hS b (List.mem_cons_self ..) with h1 | ⟨h1, _⟩
        · exact h1
        · have h3 := (hd h1).2
          have h4 := hc.2.2
          exfalso
          rcases t with _ | _ | t
          · exact Bool.false_ne_true h4
          · exact Bool.false_ne_true h4
          · omega
      · cases h2
    · cases h2
  · next n a r e1 e2 =>
    obtain rfl : o1 = 54 := e1
    obtain rfl : ns = n :: a :: r := e2
    have h2 : mq_o_gets (n :: a :: r) cs L st S = some out := h
    clear h
    have h2 : some (Sum.inl (n, L, Value.ref a :: st, S)) = some out := h2
    · cases h2
      exact ⟨hJ, fz_F0 (fz_all hall (by simp)) hL (fz_cs hS fun b hb => by cases hb; exact .inl (of_decide_eq_true hck))⟩
  · next n kind e1 e2 =>
    obtain rfl : o1 = 58 := e1
    obtain rfl : ns = [n, kind] := e2
    have h2 : mq_o_ald [n, kind] cs L st S = some out := h
    clear h
    unfold mq_o_ald at h2
    split at h2
    · next n' kind' i a s' en =>
      cases en
      split at h2
      · next hc =>
        split at h2
        · next v hv =>
          obtain ⟨_, h2⟩ := mq_if h2
          cases h2
          refine ⟨hJ, fz_F0 (fz_all hall (by simp)) hL (fz_cs (fun b hb => hS b (List.mem_cons_of_mem _ (List.mem_cons_of_mem _ hb))) fun b hb => ?_)⟩
          subst hb
          refine fz_rd h0 hJ (hS a (List.mem_cons_of_mem _ (List.mem_cons_self ..))) hv (.inr ?_)
          rintro ⟨h8, _⟩
          have h9 := of_decide_eq_true hck
          rcases hc.1 with h3 | ⟨_, h3⟩ <;> omega
        · cases h2
      · cases h2
    · cases h2
  · obtain rfl : o1 = 59 := by assumption
    have h2 : mq_o_ast ns cs L st S = some out := h
    clear h
    unfold mq_o_ast at h2
    split at h2
    · next n' kind' v i a s' e9 =>
      split at h2
      · next hc =>
        cases h2
        have hm : ¬ fz_md k = 2 := of_decide_eq_true hck
        have ha : fz_A a := fz_8 h0 hJ (hS a (List.mem_cons_of_mem _ (List.mem_cons_of_mem _ (List.mem_cons_self ..)))) fun e => absurd e hm
        refine ⟨fz_Jset hJ ha hc.1 fun b hb => ?_, fz_F0 (fz_all hall (by simp)) hL fun b hb => hS b (List.mem_cons_of_mem _ (List.mem_cons_of_mem _ (List.mem_cons_of_mem _ hb)))⟩
        subst hb
        rcases hS b (List.mem_cons_self ..) with h1 | ⟨h1, _⟩
        · exact h1
        · exact absurd h1 hm
      · cases h2
    · cases h2
  · next n j r e1 e2 =>
    obtain rfl : o1 = 60 := e1
    obtain rfl : ns = n :: j :: r := e2
    have h2 : mq_o_static (n :: j :: r) cs L st S = some out := h
    clear h
    obtain ⟨k1, k2⟩ := Bool.and_eq_true_iff.mp hck
    have hm : ¬ fz_md k = 2 := of_decide_eq_true k2
    have hA : ∀ b : Nat, Value.ref b ∈ st → fz_A b := fun b hb => Or.resolve_right (hS b hb) fun e => hm e.1
    unfold mq_o_static at h2
    split at h2
    · next n' j' c' mx' r' en =>
      cases en
      split at h2
      · cases h2
        exact ⟨hJ, List.elem_iff.mp k1, fun i b hi _ => .inl (fz_en (fun c hc => hA c (List.mem_of_mem_take (List.mem_reverse.mp hc))) i b hi), fun v hv => fz_F0 (fz_all hall (by simp)) hL (fz_vs (fun b hb => hS b (List.mem_of_mem_drop hb)) hv)⟩
      · cases h2
    · cases h2
  · next n j c ci r e1 e2 =>
    obtain rfl : o1 = 61 := e1
    obtain rfl : ns = n :: j :: c :: ci :: r := e2
    have h2 : mq_o_virtual (n :: j :: c :: ci :: r) cs L st S = some out := h
    clear h
    obtain ⟨k1, k2⟩ := Bool.and_eq_true_iff.mp hck
    have hd := of_decide_eq_true k2
    unfold mq_o_virtual at h2
    split at h2
    · next n' j' c' ci' mx' r' en =>
      cases en
      split at h2
      · next b s' hdr =>
        split at h2
        · next hc =>
          cases h2
          have hsub : ∀ v ∈ Value.ref b :: s', v ∈ st := fun v hv => List.mem_of_mem_drop (by rw [hdr]; exact hv)
          have hb := hS b (hsub _ (List.mem_cons_self ..))
          refine ⟨hJ, List.elem_iff.mp k1, fun i a hi hmj => ?_, fun v hv => fz_F0 (fz_all hall (by simp)) hL (fz_vs (fun b hb => hS b (hsub _ (List.mem_cons_of_mem _ hb))) hv)⟩
          by_cases hm : fz_md k = 2
          · have hA : fz_A b := fz_8 h0 hJ hb fun e => hc.1.trans (hd e).1
            by_cases hj : fz_md j = 1
            · have e := hmj hj
              subst e
              rw [fz_en0 a hi]
              exact .inl hA
            · have hj2 : fz_md j = 2 := by
                have g1 := (hd hm).2
                have g2 := fz_md2 j
                omega
              have hA2 : ∀ x, Value.ref x ∈ Value.ref b :: (st.take c).reverse → fz_B k x := by
                intro x hx
                rcases List.mem_cons.mp hx with h1 | h1
                · cases h1
                  exact hb
                · exact hS x (List.mem_of_mem_take (List.mem_reverse.mp h1))
              rcases fz_en hA2 i a hi with h1 | h1
              · exact .inl h1
              · exact .inr ⟨hj2, h1.2⟩
          · refine .inl (fz_en (fun x hx => ?_) i a hi)
            rcases List.mem_cons.mp hx with h1 | h1
            · cases h1
              exact Or.resolve_right hb fun e => hm e.1
            · exact Or.resolve_right (hS x (List.mem_of_mem_take (List.mem_reverse.mp h1))) fun e => hm e.1
        · cases h2
      · cases h2
    · cases h2
  · obtain rfl : o1 = 65 := by assumption
    have h2 : mq_o_copy ns cs L st S = some out := h
    clear h
    have hm : ¬ fz_md k = 2 := of_decide_eq_true hck
    unfold mq_o_copy at h2
    split at h2
    · next n' r' c dp b sp a s' e9 =>
      split at h2
      · next hc =>
        cases h2
        have hA : ∀ x, Value.ref x ∈ [Value.int c, .int dp, Value.ref b, .int sp, Value.ref a] ++ s' → fz_A x := fun x hx => Or.resolve_right (hS x hx) fun e => hm e.1
        exact ⟨fz_Jcpy hJ (hA a (by simp)) (hA b (by simp)) hc.2.1 hc.2.2.1, fz_F0 (fz_all hall (by simp)) hL fun x hx => hS x (List.mem_append_right [Value.int c, .int dp, Value.ref b, .int sp, Value.ref a] hx)⟩
      · cases h2
    · cases h2
  · obtain rfl : o1 = 66 := by assumption
    have h2 : mq_o_ret ns cs L st S = some out := h
    clear h
    unfold mq_o_ret at h2
    split at h2
    · cases h2
      exact ⟨hJ, fun b hb => by cases hb⟩
    · cases h2
  · next t e1 e2 =>
    obtain rfl : o1 = 67 := e1
    obtain rfl : ns = [t] := e2
    have h2 : mq_o_retv [t] cs L st S = some out := h
    clear h
    unfold mq_o_retv at h2
    split at h2
    · next t' v en =>
      cases en
      split at h2
      · next hf =>
        cases h2
        refine ⟨hJ, fun b hb => ?_⟩
        cases hb
        rcases hS b (List.mem_cons_self ..) with h1 | ⟨h1, _⟩
        · exact h1
        · have h3 := of_decide_eq_true hck h1
          exfalso
          rcases t with _ | _ | _ | t
          · exact Bool.false_ne_true hf
          · exact Bool.false_ne_true hf
          · exact Bool.false_ne_true hf
          · omega
      · cases h2
    · cases h2
  · obtain rfl : o1 = 68 := by assumption
    have h2 : mq_o_throw ns cs L st S = some out := h
    clear h
    unfold mq_o_throw at h2
    split at h2
    · split at h2
      · cases h2
        exact fz_Jthr hJ _ _
      · cases h2
    · cases h2
  · unfold mq_ex at h
    split at h
    · next f hf =>
      obtain ⟨n, L', st', rfl, hn, hs', hl'⟩ := fz_pls hck hf _ _ _ _ _ _ h
      refine ⟨hJ, fz_F0 (fz_all hall hn) (fun i b hi hm => ?_) fun b hb => hS b (hs' b hb)⟩
      rcases hl' i b hi with h1 | h1
      · exact hL i b h1 hm
      · exact hS b h1
    · cases h
/-- the places that hold the fixed tables -/
theorem fz_stepS {M0 : Nat → mq_C} (h0 : fz_0 M0) {Ks : List Nat} {pc : Nat} {o : mq_P} (hck : fz_ckS Ks pc o = true) {L : mq_L} {st : List Value} {S : mq_S} {out : mq_O} (h : mq_ex o L st S = some out) (hJ : fz_J M0 S) (hF : fz_F 92 pc L st) : fz_O M0 Ks 92 out := by
  obtain ⟨o1, ns, cs⟩ := o
  obtain ⟨hL, hD, hT⟩ := hF
  have hB : ∀ b, fz_B 92 b → fz_A b := fun b hb => Or.resolve_right hb fun e => Nat.noConfusion (show 0 = 2 from e.1)
  unfold fz_ckS at hck
  split at hck
  · next n r e1 e2 =>
    obtain rfl : o1 = 52 := e1
    obtain rfl : ns = n :: r := e2
    have h2 : mq_o_get (n :: r) cs L st S = some out := h
    clear h
    unfold mq_o_get at h2
    split at h2
    · next n' ci' f' r' a s' en =>
      cases en
      split at h2
      · next hc =>
        split at h2
        · next v hv =>
          cases h2
          have hd := of_decide_eq_true hck
          rcases hd with ⟨rfl, rfl⟩ | ⟨rfl, rfl⟩
          · have hD : ∀ b : Nat, Value.ref b ∈ Value.ref a :: s' → fz_B 92 b := hD
            refine ⟨hJ, hL, (show ∀ b : Nat, Value.ref b ∈ s' → fz_B 92 b from fun b hb => hD b (List.mem_cons_of_mem _ hb)), ?_⟩
            show ∀ b : Nat, Value.ref b ∈ [v] → fz_A b ∨ fz_D b
            intro b hb
            have hb := (List.mem_singleton.mp hb).symm
            subst hb
            rcases hJ.2.2.2 a _ b (hB a (hD a (List.mem_cons_self ..))) hv with h1 | ⟨h1, _⟩
            · exact .inl h1
            · exact .inr h1
          · have hT : ∀ b : Nat, Value.ref b ∈ (Value.ref a :: s').take 2 → fz_A b ∨ fz_D b := hT
            have hD : ∀ b : Nat, Value.ref b ∈ s'.drop 1 → fz_B 92 b := hD
            refine ⟨hJ, hL, (show ∀ b : Nat, Value.ref b ∈ s'.drop 1 → fz_B 92 b from hD), ?_⟩
            show ∀ b : Nat, Value.ref b ∈ v :: s'.take 1 → fz_A b ∨ fz_D b
            intro b hb
            rcases List.mem_cons.mp hb with h1 | h1
            · subst h1
              rcases hT a (List.mem_cons_self ..) with h3 | h3
              · rcases hJ.2.2.2 a _ b h3 hv with h1 | ⟨h1, _⟩
                · exact .inl h1
                · exact .inr h1
              · exact .inr ((h0 a h3).2 f' b (by rw [← hJ.2.2.1 a h3]; exact hv))
            · exact hT b (List.mem_cons_of_mem _ h1)
        · cases h2
      · cases h2
    · cases h2
  · next n i e1 e2 =>
    obtain rfl : o1 = 4 := e1
    obtain rfl : ns = [n, i] := e2
    have h2 : mq_o_aload [n, i] cs L st S = some out := h
    clear h
    obtain ⟨rfl, rfl⟩ := of_decide_eq_true hck
    have h2 : (match L[i]? with | some (some (Value.ref x)) => mq_nx 133 L (Value.ref x :: st) S | _ => none) = some out := h2
    split at h2
    · next x hx =>
        cases h2
        have hT : ∀ b : Nat, Value.ref b ∈ st.take 1 → fz_A b ∨ fz_D b := hT
        have hD : ∀ b : Nat, Value.ref b ∈ st.drop 1 → fz_B 92 b := hD
        refine ⟨hJ, hL, (show ∀ b : Nat, Value.ref b ∈ st.drop 1 → fz_B 92 b from hD), ?_⟩
        show ∀ b : Nat, Value.ref b ∈ Value.ref x :: st.take 1 → fz_A b ∨ fz_D b
        intro b hb
        rcases List.mem_cons.mp hb with h1 | h1
        · cases h1
          exact .inl (hB _ (hL _ _ hx (fun e => by cases e)))
        · exact hT b h1
    · cases h2
  · next n j c r e1 e2 =>
    obtain rfl : o1 = 61 := e1
    obtain rfl : ns = n :: j :: c :: r := e2
    have h2 : mq_o_virtual (n :: j :: c :: r) cs L st S = some out := h
    clear h
    obtain ⟨k1, k2⟩ := Bool.and_eq_true_iff.mp hck
    obtain ⟨rfl, rfl, rfl, rfl⟩ := of_decide_eq_true k1
    have hT : ∀ b : Nat, Value.ref b ∈ st.take 2 → fz_A b ∨ fz_D b := hT
    have hD : ∀ b : Nat, Value.ref b ∈ st.drop 2 → fz_B 92 b := hD
    unfold mq_o_virtual at h2
    split at h2
    · next n' j' c' ci' mx' r' en =>
      cases en
      split at h2
      · next b s' hdr =>
        split at h2
        · next hc =>
          cases h2
          rw [hdr] at hD
          refine ⟨hJ, List.elem_iff.mp k2, fun i a hi _ => ?_, fun v hv => fz_F0 rfl hL (fz_vs (fun b hb => hD b (List.mem_cons_of_mem _ hb)) hv)⟩
          have hA2 : ∀ x, Value.ref x ∈ Value.ref b :: (st.take 2).reverse → fz_A x ∨ fz_D x := by
            intro x hx
            rcases List.mem_cons.mp hx with h1 | h1
            · cases h1
              exact .inl (hB _ (hD b (List.mem_cons_self ..)))
            · exact hT x (List.mem_reverse.mp h1)
          rcases fz_en (B := fun x => fz_A x ∨ fz_D x) hA2 i a hi with h1 | h1
          · exact .inl h1
          · exact .inr ⟨rfl, h1⟩
        · cases h2
      · cases h2
    · cases h2
  · cases hck
theorem fz_lk {pc : Nat} {o : mq_P} : ∀ l : List (Nat × mq_P), l.lookup pc = some o → (pc, o) ∈ l := by
  intro l
  induction l with
  | nil => intro h; cases h
  | cons a l ih =>
    intro h
    rw [List.lookup_cons] at h
    split at h
    · next e =>
      cases h
      have e : pc = a.1 := by simpa using e
      rw [e]
      exact List.mem_cons_self ..
    · exact List.mem_cons_of_mem _ (ih h)
theorem fz_at {Ks : List Nat} (hk : fz_ms Ks = true) {k pc : Nat} {o : mq_P} (h1 : k ∈ Ks) (h : mq_at mq_PP k pc = some o) : fz_ck Ks k pc o = true := by
  have h2 := List.all_eq_true.mp hk k h1
  unfold mq_at at h
  split at h
  · next t ht =>
    rw [ht] at h2
    exact List.all_eq_true.mp (Bool.and_eq_true_iff.mp h2).2 _ (fz_lk _ h)
  · cases h
theorem fz_hd {Ks : List Nat} (hk : fz_ms Ks = true) {k : Nat} (h1 : k ∈ Ks) (pc e : Nat) : mq_hd mq_PP k pc e = none := by
  have h2 := List.all_eq_true.mp hk k h1
  unfold mq_hd
  split
  · next t ht =>
    rw [ht] at h2
    have h3 := List.isEmpty_iff.mp (Bool.and_eq_true_iff.mp h2).1
    rw [h3]
    rfl
  · rfl
theorem fz_step {M0 : Nat → mq_C} (h0 : fz_0 M0) {Ks : List Nat} {k pc : Nat} {o : mq_P} (hck : fz_ck Ks k pc o = true) {L : mq_L} {st : List Value} {S : mq_S} {out : mq_O} (h : mq_ex o L st S = some out) (hJ : fz_J M0 S) (hF : fz_F k pc L st) : fz_O M0 Ks k out := by
  unfold fz_ck at hck
  split at hck
  · next hs =>
    obtain ⟨rfl, _⟩ := hs
    exact fz_stepS h0 hck h hJ hF
  · next hs =>
    obtain ⟨k1, k2⟩ := Bool.and_eq_true_iff.mp hck
    have ht : fz_tt k pc = 0 := by
      unfold fz_tt
      split
      · next e =>
        have : ¬ pc = 132 ∧ ¬ pc = 133 ∧ ¬ pc = 136 := ⟨fun x => hs ⟨e, by simp [x]⟩, fun x => hs ⟨e, by simp [x]⟩, fun x => hs ⟨e, by simp [x]⟩⟩
        rw [if_neg this.1, if_neg this.2.1, if_neg this.2.2]
      · rfl
    obtain ⟨f1, f2⟩ := fz_F1 ht hF
    exact fz_step0 h0 (pc := pc) k1 k2 h hJ f1 f2
theorem fz_tt0 (j : Nat) : fz_tt j 0 = 0 := by
  unfold fz_tt
  split <;> rfl
theorem fz_run {M0 : Nat → mq_C} (h0 : fz_0 M0) {Ks : List Nat} (hk : fz_ms Ks = true) : ∀ (n d k pc : Nat) (L : mq_L) (st : List Value) (S : mq_S) (r : mq_A), k ∈ Ks → fz_J M0 S → fz_F k pc L st → mq_run mq_PP n d k pc L st S = some r → fz_J M0 r.2 ∧ ∀ b, r.1 = .inl (some (Value.ref b)) → fz_A b := by
  intro n
  induction n with
  | zero => intro d k pc L st S r _ _ _ h; simp [mq_run] at h
  | succ n ih =>
    intro d k pc L st S r hm hJ hF h
    rw [mq_run] at h
    cases hs : mq_stp mq_PP k pc L st S with
    | none => rw [hs] at h; cases h
    | some out =>
      rw [hs] at h
      unfold mq_stp at hs
      split at hs
      · next o ho =>
        have hO := fz_step h0 (fz_at hk hm ho) hs hJ hF
        rcases out with ⟨pc', L', st', S'⟩ | ⟨v, S'⟩ | ⟨a, S'⟩ | ⟨j, as, pc', L', st', S'⟩
        · exact ih _ _ _ _ _ _ _ hm hO.1 hO.2 h
        · cases h
          exact ⟨hO.1, fun b hb => hO.2 b (Sum.inl.inj hb)⟩
        · cases h
          exact ⟨hO, fun b hb => by cases hb⟩
        · obtain ⟨g1, g2, g3, g4⟩ := hO
          cases d with
          | zero => cases h
          | succ d' =>
            simp only at h
            cases hc : mq_run mq_PP n d' j 0 (mq_en mq_PP j as) [] S' with
            | none => rw [hc] at h; cases h
            | some x =>
              rw [hc] at h
              obtain ⟨e1, e2⟩ := ih _ _ _ _ _ _ _ g2 g1 (fz_F0 (fz_tt0 j) g3 (fun b hb => by cases hb)) hc
              obtain ⟨v | a, S1⟩ := x
              · have h : mq_run mq_PP n (d' + 1) k pc' L' (v.toList ++ st') S1 = some r := h
                exact ih _ _ _ _ _ _ _ hm e1 (g4 v fun b hb => e2 b (by rw [hb])) h
              · simp only [fz_hd hk hm] at h
                obtain ⟨_, h⟩ := mq_if h
                cases h
                exact ⟨e1, fun b hb => by cases hb⟩
      · cases hs
def fz_tb : Bool := (List.range 271).all fun a => match mz_tabl.getD a none with
  | none => decide (¬ fz_A a ∧ ¬ fz_D a)
  | some c => (decide (fz_D a → c.1 ≠ 8)) && (List.range c.2.2.2.length).all fun j => !((c.2.2.2.getD j (9, 0, 0)).1 == 1) || (bif decide (fz_A a) then (mz_GG.2.1 (c.2.2.2.getD j (9, 0, 0)).2.1.toNat).all (fun b => decide (fz_A b ∨ (fz_D b ∧ c.2.2.1 = 0 ∧ a = 9 ∧ (j = 10 ∨ j = 11)))) else (mz_GG.2.1 (c.2.2.2.getD j (9, 0, 0)).2.1.toNat).all (fun b => decide (fz_D b)))
theorem fz_tb_ok : fz_tb = true := by decide +kernel
theorem fz_cell {M : Nat → mq_C} (hM : mz_sh mz_GG M) {a : Nat} (ha : fz_A a ∨ fz_D a) : ∃ c, mz_tabl.getD a none = some c ∧ (M a).1 = c.1 ∧ (fz_D a → c.1 ≠ 8) ∧ ∀ (i b : Nat), (M a).2[i]? = some (Value.ref b) → (fz_A a → fz_A b ∨ (fz_D b ∧ a = 9 ∧ (i = 10 ∨ i = 11))) ∧ (fz_D a → fz_D b) := by
  have hl : a < 271 := by
    rcases ha with h | h
    · exact h.2.1
    · have := h.2
      omega
  have ht := List.all_eq_true.mp fz_tb_ok a (List.mem_range.mpr hl)
  cases hc : mz_tabl.getD a none with
  | none =>
    rw [hc] at ht
    have := of_decide_eq_true ht
    exact (ha.elim this.1 this.2).elim
  | some c =>
    rw [hc] at ht
    obtain ⟨t1, t2⟩ := Bool.and_eq_true_iff.mp ht
    obtain ⟨m1, _, m3⟩ := hM a c hc
    refine ⟨c, rfl, m1, of_decide_eq_true t1, fun i b hi => ?_⟩
    have hok := m3 i _ hi
    have key : ∃ j, mz_at c i = c.2.2.2.getD j (9, 0, 0) ∧ (c.2.2.1 = 0 → j = i) := by
      unfold mz_at
      cases hp : c.2.2.1 with
      | zero => exact ⟨i, rfl, fun _ => rfl⟩
      | succ p => exact ⟨i % (p + 1), rfl, fun e => by cases e⟩
    obtain ⟨j, ej, hj⟩ := key
    rw [ej] at hok
    by_cases hjl : j < c.2.2.2.length
    · have h5 := List.all_eq_true.mp t2 j (List.mem_range.mpr hjl)
      generalize c.2.2.2.getD j (9, 0, 0) = sp at hok h5
      obtain ⟨s1, s2, s3⟩ := sp
      have hok' : s1 = 1 ∧ b ∈ mz_GG.2.1 s2.toNat := by
        rcases s1 with _ | _ | _ | s1
        · exact False.elim hok
        · exact ⟨rfl, hok⟩
        · exact False.elim hok
        · exact False.elim hok
      obtain ⟨rfl, hb⟩ := hok'
      have h5 : (bif decide (fz_A a) then (mz_GG.2.1 s2.toNat).all (fun b => decide (fz_A b ∨ (fz_D b ∧ c.2.2.1 = 0 ∧ a = 9 ∧ (j = 10 ∨ j = 11)))) else (mz_GG.2.1 s2.toNat).all (fun b => decide (fz_D b))) = true := h5
      refine ⟨fun hA => ?_, fun hD => ?_⟩
      · rw [decide_eq_true hA] at h5
        rcases of_decide_eq_true (List.all_eq_true.mp h5 b hb) with h6 | ⟨h6, h7, h8, h9⟩
        · exact .inl h6
        · rw [hj h7] at h9
          exact .inr ⟨h6, h8, h9⟩
      · rw [decide_eq_false (fun hA => fz_AD hA hD)] at h5
        exact of_decide_eq_true (List.all_eq_true.mp h5 b hb)
    · rw [List.getD_eq_getElem?_getD, List.getElem?_eq_none (by omega)] at hok
      exact False.elim hok
theorem fz_sh {M : Nat → mq_C} (hM : mz_sh mz_GG M) {z u : Nat} (hz : 272 ≤ z) : fz_J M (M, z, u) ∧ fz_0 M := by
  refine ⟨⟨(show 271 ≤ z by omega), ?_, fun _ _ => rfl, fun a i b ha hi => ?_⟩, fun a ha => ⟨?_, fun i b hi => ?_⟩⟩
  · exact (hM 9 _ (show mz_GG.1 9 = some _ from rfl)).1
  · obtain ⟨c, _, _, _, h4⟩ := fz_cell hM (.inl ha)
    exact (h4 i b hi).1 ha
  · obtain ⟨c, _, h2, h3, _⟩ := fz_cell hM (.inr ha)
    rw [h2]
    exact h3 ha
  · obtain ⟨c, _, _, _, h4⟩ := fz_cell hM (.inr ha)
    exact (h4 i b hi).2 ha
def fz_Ks : List Nat := [1, 2, 3, 4, 5, 6, 7, 8, 9, 10, 11, 12, 13, 14, 15, 16, 17, 18, 19, 20, 21, 22, 23, 24, 25, 26, 27, 28, 29, 30, 31, 32, 33, 34, 35, 36, 37, 38, 39, 40, 41, 42, 43, 44, 45, 46, 48, 49, 50, 51, 52, 53, 54, 55, 56, 58, 59, 60, 61, 63, 64, 65, 67, 68, 69, 70, 72, 74, 75, 76, 77, 78, 79, 80, 82, 83, 84, 85, 86, 87, 88, 89, 91, 92, 93, 94, 95, 96, 97, 98, 99, 100, 101, 102, 103, 104, 105, 174]
set_option maxRecDepth 100000 in
theorem fz_Ks_ok : fz_ms fz_Ks = true := by decide +kernel
/-- a run of the class's methods leaves the fixed tables alone -/
theorem fz_R {d k : Nat} {as : List Value} {M : Nat → mq_C} {z u : Nat} {Q : (Option Value ⊕ Nat) → mq_S → Prop} (hm : fz_Ks.elem k = true) (hM : mz_sh mz_GG M) (hz : 272 ≤ z) (ha : ∀ b : Nat, Value.ref b ∈ as → fz_A b) (h : mq_R mq_PP d k 0 (mq_en mq_PP k as) [] (M, z, u) (fun r S' => (∀ a, 24 ≤ a → a ≤ 31 → S'.1 a = M a) → Q r S')) : mq_R mq_PP d k 0 (mq_en mq_PP k as) [] (M, z, u) Q := by
  obtain ⟨n, r, h1, h2⟩ := h
  obtain ⟨hJ, h0⟩ := fz_sh hM (u := u) hz
  have hF : fz_F k 0 (mq_en mq_PP k as) [] := fz_F0 (fz_tt0 k) (fun i b hi _ => .inl (fz_en ha i b hi)) (fun b hb => by cases hb)
  obtain ⟨e1, _⟩ := fz_run h0 fz_Ks_ok n d k 0 _ _ _ r (List.elem_iff.mp hm) hJ hF h1
  exact ⟨n, r, h1, h2 fun a p q => e1.2.2.1 a ⟨p, q⟩⟩
