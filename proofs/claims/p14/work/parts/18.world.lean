/-! The mini-machine's memory as a world of the kit: address a (8 and more) is cell h0 + (a - 8) of the heap; below 8 stand old arrays that are only read. G: the classes' numbers and slots, the array classes by kind, where the old arrays are, h0. -/
abbrev mq_G : Type := va_G × (Nat → ClassId) × (Nat → Nat) × Nat
def mq_f (G : mq_G) (a : Nat) : Nat := if a < 8 then G.2.2.1 a else G.2.2.2 + (a - 8)
def mq_ri (v : Value) : Int32 := match v with
  | .int x => x
  | _ => 0
def mq_rl (v : Value) : Int64 := match v with
  | .long x => x
  | _ => 0
def mq_rr (f : Nat → Nat) (v : Value) : Option Nat := match v with
  | .ref a => some (f a)
  | _ => none
def mq_tr (G : mq_G) (c : mq_C) : va_E :=
  if c.1 < 60 then .inr (c.1, c.2.map (mq_v (mq_f G)))
  else if c.1 < 66 then .inl (G.2.1 c.1, c.2.length, .inl (fun j => mq_ri (c.2.getD j .null)))
  else if c.1 = 66 then .inl (G.2.1 66, c.2.length, .inr (.inl (fun j => mq_rl (c.2.getD j .null))))
  else .inl (G.2.1 c.1, c.2.length, .inr (.inr (.inr (.inr (fun j => mq_rr (mq_f G) (c.2.getD j .null))))))
def mq_ws (G : mq_G) (S : mq_S) : va_W := (List.range (S.2.1 - 8)).map (fun i => (mq_f G (8 + i), mq_tr G (S.1 (8 + i))))
theorem mq_f_new {G : mq_G} {a : Nat} (h : 8 ≤ a) : mq_f G a = G.2.2.2 + (a - 8) := by
  unfold mq_f
  rw [if_neg (by omega)]
theorem mq_f_inj {G : mq_G} {a b : Nat} (ha : 8 ≤ a) (hb : 8 ≤ b) (h : mq_f G a = mq_f G b) : a = b := by
  rw [mq_f_new ha, mq_f_new hb] at h
  omega
theorem mq_ws_len {G : mq_G} {S : mq_S} : (mq_ws G S).length = S.2.1 - 8 := by simp [mq_ws]
theorem mq_ws_get {G : mq_G} {S : mq_S} {i : Nat} (h : i < S.2.1 - 8) : (mq_ws G S)[i]? = some (mq_f G (8 + i), mq_tr G (S.1 (8 + i))) := by
  unfold mq_ws
  rw [List.getElem?_map, List.getElem?_range h]
  rfl
theorem mq_ws_at {G : mq_G} {S : mq_S} {a : Nat} (h8 : 8 ≤ a) (hz : a < S.2.1) : (mq_ws G S)[a - 8]? = some (mq_f G a, mq_tr G (S.1 a)) := by
  rw [mq_ws_get (by omega), show 8 + (a - 8) = a by omega]
theorem mq_ws_set {G : mq_G} {M : Nat → mq_C} {z u u' a : Nat} {c : mq_C} (h8 : 8 ≤ a) : (mq_ws G (M, z, u)).set (a - 8) (mq_f G a, mq_tr G c) = mq_ws G (va_up M a c, z, u') := by
  apply List.ext_getElem?
  intro i
  by_cases hi : i < z - 8
  · by_cases e : i = a - 8
    · subst e
      rw [List.getElem?_set_self (by rw [mq_ws_len]; exact hi), mq_ws_get (by exact hi)]
      rw [show 8 + (a - 8) = a by omega]
      show _ = some (mq_f G a, mq_tr G (va_up M a c a))
      rw [va_up_self]
    · rw [List.getElem?_set_ne (Ne.symm e), mq_ws_get (by exact hi), mq_ws_get (by exact hi)]
      show some (mq_f G (8 + i), mq_tr G (M (8 + i))) = some (mq_f G (8 + i), mq_tr G (va_up M a c (8 + i)))
      have hne : 8 + i ≠ a := by omega
      rw [va_up_ne _ _ hne]
  · rw [List.getElem?_eq_none (by rw [List.length_set, mq_ws_len]; exact Nat.not_lt.mp hi), List.getElem?_eq_none (by rw [mq_ws_len]; exact Nat.not_lt.mp hi)]
theorem mq_ws_push {G : mq_G} {M : Nat → mq_C} {z u u' : Nat} {c : mq_C} (h8 : 8 ≤ z) : mq_ws G (M, z, u) ++ [(mq_f G z, mq_tr G c)] = mq_ws G (va_up M z c, z + 1, u') := by
  apply List.ext_getElem?
  intro i
  by_cases hi : i < z - 8
  · rw [List.getElem?_append_left (by rw [mq_ws_len]; exact hi), mq_ws_get (by exact hi), mq_ws_get (by show i < z + 1 - 8; omega)]
    show some (mq_f G (8 + i), mq_tr G (M (8 + i))) = some (mq_f G (8 + i), mq_tr G (va_up M z c (8 + i)))
    have hne : 8 + i ≠ z := by omega
    rw [va_up_ne _ _ hne]
  · rw [List.getElem?_append_right (by rw [mq_ws_len]; exact Nat.not_lt.mp hi), mq_ws_len]
    by_cases e : i = z - 8
    · subst e
      rw [mq_ws_get (by show z - 8 < z + 1 - 8; omega), show 8 + (z - 8) = z by omega]
      show [(mq_f G z, mq_tr G c)][z - 8 - (z - 8)]? = some (mq_f G z, mq_tr G (va_up M z c z))
      rw [Nat.sub_self, va_up_self]
      rfl
    · rw [List.getElem?_eq_none (by show 1 ≤ i - (z - 8); omega), List.getElem?_eq_none (by rw [mq_ws_len]; show z + 1 - 8 ≤ i; omega)]
theorem mq_ws_D {G : mq_G} {S : mq_S} : va_D (fun q => G.2.2.2 ≤ q) (mq_ws G S) := by
  have key : ∀ (i : Nat) (q : Nat × va_E), (mq_ws G S)[i]? = some q → q.1 = G.2.2.2 + i := by
    intro i q h
    have hi : i < S.2.1 - 8 := by
      have := (List.getElem?_eq_some_iff.mp h).1
      rwa [mq_ws_len] at this
    rw [mq_ws_get hi] at h
    cases h
    show mq_f G (8 + i) = _
    rw [mq_f_new (by omega)]
    omega
  refine ⟨fun i j x y hi hj hxy => ?_, fun k q hk => ?_⟩
  · rw [key i x hi, key j y hj] at hxy
    omega
  · rw [key k q hk]
    exact Nat.le_add_right _ _
/-- an old int array, that is only read -/
def mq_old (b L : Nat) (xs : Nat → Int32) (U : State) (H : Heap) : Prop := ∃ scr : Cell, H[b]? = some scr ∧ U.isArrayOf scr .int ∧ scr.vm ≠ .unknown ∧ L ≤ scr.slots.size ∧ scr.slots.size.toInt32 = Int32.ofNat L ∧ ∀ j : Nat, j < L → scr.slots[j]? = some (.int (xs j))
theorem mq_old.kept {b L : Nat} {xs : Nat → Int32} {U : State} {H H1 : Heap} (h : mq_old b L xs U H) (hq : H1[b]? = H[b]?) : mq_old b L xs U H1 := by
  obtain ⟨scr, h1, h2⟩ := h
  exact ⟨scr, by rw [hq]; exact h1, h2⟩
theorem mq_old.moved {b L : Nat} {xs : Nat → Int32} {u U : State} {H : Heap} (hvm : u.vm.Alike U.vm) (h : mq_old b L xs u H) : mq_old b L xs U H := by
  obtain ⟨scr, h1, h2, h3⟩ := h
  exact ⟨scr, h1, State.isArrayOf_alike hvm h2, h3⟩
/-- the heap holds the mini-machine's memory -/
def mq_ok (cl : List vw_C) (G : mq_G) (S : mq_S) (U : State) (H : Heap) : Prop :=
  va_P G.1 cl (mq_ws G S) H ∧ H.size = G.2.2.2 + (S.2.1 - 8) ∧ 8 ≤ S.2.1 ∧ (∀ a, S.2.1 ≤ a → (S.1 a).1 = 999) ∧ (∀ a, a < 8 → (S.1 a).1 = 60 ∨ (S.1 a).1 = 999) ∧ (∀ a, 8 ≤ a → (S.1 a).1 ≠ 60) ∧
  ∀ a, a < 8 → (S.1 a).1 = 60 → G.2.2.1 a < G.2.2.2 ∧ mq_old (G.2.2.1 a) (S.1 a).2.length (fun j => mq_ri ((S.1 a).2.getD j .null)) U H
theorem mq_ok.in {cl : List vw_C} {G : mq_G} {S : mq_S} {U : State} {H : Heap} (h : mq_ok cl G S U H) {a : Nat} (h1 : (S.1 a).1 ≠ 60) (h2 : (S.1 a).1 ≠ 999) : 8 ≤ a ∧ a < S.2.1 := by
  obtain ⟨-, -, -, k1, k2, -⟩ := h
  refine ⟨Nat.not_lt.mp fun q => ?_, Nat.not_le.mp fun q => h2 (k1 a q)⟩
  rcases k2 a q with e | e
  · exact h1 e
  · exact h2 e
theorem mq_ok.moved {cl : List vw_C} {G : mq_G} {S : mq_S} {u U : State} {H : Heap} (hvm : u.vm.Alike U.vm) (h : mq_ok cl G S u H) : mq_ok cl G S U H :=
  ⟨h.1, h.2.1, h.2.2.1, h.2.2.2.1, h.2.2.2.2.1, h.2.2.2.2.2.1, fun a ha hk => ⟨(h.2.2.2.2.2.2 a ha hk).1, (h.2.2.2.2.2.2 a ha hk).2.moved hvm⟩⟩
/-- an old cell of the memory is written -/
theorem mq_ok.set {cl : List vw_C} {G : mq_G} {M : Nat → mq_C} {z u : Nat} {U : State} {H H1 : Heap} (h : mq_ok cl G (M, z, u) U H) {a : Nat} {c : mq_C} (h8 : 8 ≤ a) (hz : a < z) (hc : c.1 ≠ 60) (hP : va_P G.1 cl ((mq_ws G (M, z, u)).set (a - 8) (mq_f G a, mq_tr G c)) H1) (hs : H1.size = H.size) (ho : ∀ q : Nat, q < G.2.2.2 → H1[q]? = H[q]?) : mq_ok cl G (va_up M a c, z, u) U H1 := by
  obtain ⟨-, k0, k1, k2, k3, k4, k5⟩ := h
  refine ⟨by rw [← mq_ws_set h8]; exact hP, by rw [hs]; exact k0, k1, fun q hq => ?_, fun q hq => ?_, fun q hq => ?_, fun q hq hk => ?_⟩
  · show (va_up M a c q).1 = 999
    have hq' : z ≤ q := hq
    rw [va_up_ne _ _ (by omega)]
    exact k2 q hq
  · show (va_up M a c q).1 = 60 ∨ (va_up M a c q).1 = 999
    rw [va_up_ne _ _ (by omega)]
    exact k3 q hq
  · show (va_up M a c q).1 ≠ 60
    by_cases e : q = a
    · rw [e, va_up_self]; exact hc
    · rw [va_up_ne _ _ e]; exact k4 q hq
  · have e : va_up M a c q = M q := va_up_ne _ _ (by omega)
    have hk' : (M q).1 = 60 := by rw [← e]; exact hk
    obtain ⟨g1, g2⟩ := k5 q hq hk'
    refine ⟨g1, ?_⟩
    show mq_old (G.2.2.1 q) (va_up M a c q).2.length (fun j => mq_ri ((va_up M a c q).2.getD j .null)) U H1
    rw [e]
    exact g2.kept (ho _ g1)
/-- a new cell -/
theorem mq_ok.push {cl : List vw_C} {G : mq_G} {M : Nat → mq_C} {z u u' : Nat} {U : State} {H H1 : Heap} (h : mq_ok cl G (M, z, u) U H) {c : mq_C} (hc : c.1 ≠ 60) (hat : va_at G.1 cl (H.size, mq_tr G c) H1) (hs : H1.size = H.size + 1) (ho : ∀ q : Nat, q < H.size → H1[q]? = H[q]?) : mq_ok cl G (va_up M z c, z + 1, u') U H1 ∧ mq_f G z = H.size := by
  obtain ⟨kP, k0, k1, k2, k3, k4, k5⟩ := h
  have k0' : H.size = G.2.2.2 + (z - 8) := k0
  have k1' : 8 ≤ z := k1
  have hf : mq_f G z = H.size := by rw [mq_f_new k1', k0']
  refine ⟨⟨?_, ?_, ?_, fun q hq => ?_, fun q hq => ?_, fun q hq => ?_, fun q hq hk => ?_⟩, hf⟩
  · rw [← mq_ws_push (u := u) (c := c) k1']
    refine va_P.app (kP.kept fun k q hk => ho _ (kP k q hk).lt) (fun k q hk => ?_)
    have hz : k < 1 := (List.getElem?_eq_some_iff.mp hk).1
    rw [show k = 0 by omega] at hk
    cases hk
    rw [hf]
    exact hat
  · rw [hs, k0']
    show _ = G.2.2.2 + (z + 1 - 8)
    omega
  · show 8 ≤ z + 1
    omega
  · have hq' : z + 1 ≤ q := hq
    show (va_up M z c q).1 = 999
    rw [va_up_ne _ _ (by omega)]
    exact k2 q (by show z ≤ q; omega)
  · show (va_up M z c q).1 = 60 ∨ (va_up M z c q).1 = 999
    rw [va_up_ne _ _ (by omega)]
    exact k3 q hq
  · show (va_up M z c q).1 ≠ 60
    by_cases e : q = z
    · rw [e, va_up_self]; exact hc
    · rw [va_up_ne _ _ e]; exact k4 q hq
  · have e : va_up M z c q = M q := va_up_ne _ _ (by omega)
    have hk' : (M q).1 = 60 := by rw [← e]; exact hk
    obtain ⟨g1, g2⟩ := k5 q hq hk'
    refine ⟨g1, ?_⟩
    show mq_old (G.2.2.1 q) (va_up M z c q).2.length (fun j => mq_ri ((va_up M z c q).2.getD j .null)) U H1
    rw [e]
    exact g2.kept (ho _ (by omega))
