/-! The words that stay true, and a program that checks every instruction of the mini-machine's program against the bytes and the words. -/
def mq_gd (w : Cond) : Bool := goodWord w || (match w with
  | .methodLinkNest .. => true
  | .arrayOver (.object _) => true
  | .castable _ _ => true
  | .declares _ => true
  | .not (.castable _ _) => true
  | _ => false)
theorem mq_gd_ok {w : Cond} (h : mq_gd w = true) {args args' : Array Value} {s U : State} (hW : s.WarmedH U.vm) (hb : w.before args s = true) : w.before args' U = true := by
  unfold mq_gd at h
  rw [Bool.or_eq_true] at h
  rcases h with h | h
  · exact word_at hW (good_of_word h) hb
  · split at h
    · exact va_Nw.use rfl (va_Nw.warmM hW (va_Nw.of rfl hb))
    · exact va_AO.use (va_AO.moved hW.alike (va_AO.of hb))
    · exact va_Nw.use rfl (va_Nw.warmC hW (va_Nw.of rfl hb))
    · exact va_Nw.use rfl (va_Nw.warmD hW (va_Nw.of rfl hb))
    · simp only [Cond.before, Cond.holds, Cond.value, hW.alike.findClass, hW.alike.assignable] at hb ⊢
      exact hb
    · cases h
def mq_X0 : String := "java/lang/IndexOutOfBoundsException"
def mq_X1 : String := "java/util/NoSuchElementException"
def mq_X2 : String := "java/lang/UnsupportedOperationException"
def mq_X3 : String := "java/lang/IllegalArgumentException"
def mq_X4 : String := "java/lang/IllegalStateException"
/-- exceptions that are not one another's kind -/
def mq_NC : List Cond := [mq_X0, mq_X1, mq_X2, mq_X3, mq_X4].flatMap fun a => ([mq_X0, mq_X1, mq_X2, mq_X3, mq_X4].filter (fun b => a != b)).map fun b => Cond.not (.castable a b)
def mq_TT : List Cond := lw_tbl.filter mq_gd ++ mq_NC
theorem mq_NC_gd : ∀ w ∈ mq_NC, mq_gd w = true := by
  intro w hw
  obtain ⟨a, -, ha⟩ := List.mem_flatMap.mp hw
  obtain ⟨b, -, rfl⟩ := List.mem_map.mp ha
  rfl
theorem mq_TT_stable : mq_stable mq_TT := by
  intro w hw args args' s U hW hb
  rcases List.mem_append.mp hw with h | h
  · exact mq_gd_ok (List.mem_filter.mp h).2 hW hb
  · exact mq_gd_ok (mq_NC_gd w h) hW hb
def mq_tb (t : Nat) : List Cond := match t with
  | 0 => k2_sels lw_privs
  | 1 => tables_1_1
  | 2 => tables_1_2
  | 3 => tables_1_3
  | 4 => tables_1_4
  | 5 => tables_1_5
  | 6 => tables_1_6
  | _ => []
theorem mq_tb_in {t : Nat} {w : Cond} (h : w ∈ mq_tb t) : w ∈ lw_tbl := by
  have e : lw_tbl = k2_sels lw_privs ++ (tables_1_1 ++ (tables_1_2 ++ (tables_1_3 ++ (tables_1_4 ++ (tables_1_5 ++ tables_1_6))))) := rfl
  rw [e]
  simp only [List.mem_append]
  unfold mq_tb at h
  split at h
  · exact Or.inl h
  · exact Or.inr (Or.inl h)
  · exact Or.inr (Or.inr (Or.inl h))
  · exact Or.inr (Or.inr (Or.inr (Or.inl h)))
  · exact Or.inr (Or.inr (Or.inr (Or.inr (Or.inl h))))
  · exact Or.inr (Or.inr (Or.inr (Or.inr (Or.inr (Or.inl h)))))
  · exact Or.inr (Or.inr (Or.inr (Or.inr (Or.inr (Or.inr h)))))
  · cases h
def mq_w (q : Nat) : Option Cond := (mq_tb (q / 1000))[q % 1000]?
theorem mq_w_in {q : Nat} {w : Cond} (h : mq_w q = some w) (hg : mq_gd w = true) : w ∈ mq_TT := by
  refine List.mem_append.mpr (Or.inl (List.mem_filter.mpr ⟨mq_tb_in (t := q / 1000) ?_, hg⟩))
  exact List.mem_of_getElem? h
def mq_isw (q : Nat) (w : Cond) : Bool := decide (mq_w q = some w) && mq_gd w
theorem mq_isw_in {q : Nat} {w : Cond} (h : mq_isw q w = true) : w ∈ mq_TT := by
  unfold mq_isw at h
  rw [Bool.and_eq_true, decide_eq_true_eq] at h
  exact mq_w_in h.1 h.2
def mq_isl (q : Nat) (own : String) (index : Nat) (y : MethodName) : Bool := mq_isw q (.methodLink own index y) || mq_isw q (.methodLinkNest own index y "ClassHouse")
theorem mq_isl_in {q index : Nat} {own : String} {y : MethodName} (h : mq_isl q own index y = true) : mq_mlk mq_TT own index y := by
  unfold mq_isl at h
  rw [Bool.or_eq_true] at h
  rcases h with h | h
  · exact Or.inl (mq_isw_in h)
  · exact Or.inr ⟨_, mq_isw_in h⟩
def mq_dk (N : mq_Nm) (pc : Nat) (i : Instr) (len : Nat) : Bool := decide (decode N.2.1 pc = .ok (i, len))
theorem mq_dk_ok {N : mq_Nm} {pc len : Nat} {i : Instr} (h : mq_dk N pc i len = true) : decode N.2.1 pc = .ok (i, len) := of_decide_eq_true h
def mq_c52 (N : mq_Nm) (pc : Nat) (ns : List Nat) : Bool := match ns with
  | [n, ci, k, q, index] => decide (n = pc + 3) && decide (ci < 60) && mq_dk N pc (.getfield index) 3 && (match mq_cl[ci]? with
    | some r => decide (k < r.2.2) && mq_isw q (.fieldLink N.1.cls index (r.2.1 k).1 (r.2.1 k).2.1 (r.2.1 k).2.2.1)
    | none => false)
  | _ => false
theorem mq_c52_ok {N : mq_Nm} {pc : Nat} {ns : List Nat} (h : mq_c52 N pc ns = true) : mq_fc mq_cl mq_TT mq_Zs mq_ks N pc (52, ns, []) := by
  unfold mq_c52 at h
  split at h
  next n ci k q index =>
    simp only [Bool.and_eq_true, decide_eq_true_eq] at h
    obtain ⟨⟨⟨rfl, h60⟩, hd⟩, h4⟩ := h
    split at h4
    next r hr =>
      simp only [Bool.and_eq_true, decide_eq_true_eq] at h4
      exact Or.inr (Or.inr (Or.inr (Or.inr (Or.inl ⟨ci, k, r, index, _, mq_dk_ok hd, hr, h60, h4.1, Or.inl (mq_isw_in h4.2), rfl⟩))))
    · cases h4
  · cases h
def mq_c53 (N : mq_Nm) (pc : Nat) (ns : List Nat) : Bool := match ns with
  | [n, ci, k, t, q, index] => decide (n = pc + 3) && decide (ci < 60) && mq_dk N pc (.putfield index) 3 && (match mq_cl[ci]? with
    | some r => decide (k < r.2.2) && mq_isw q (.fieldLink N.1.cls index (r.2.1 k).1 (r.2.1 k).2.1 (r.2.1 k).2.2.1) && (match parseFieldDescriptor (r.2.1 k).2.2.1 with
      | some ty => mq_tk t ty
      | none => false) && (!(r.2.1 k).2.2.2 || (decide (N.1.name = "<init>") && decide ((r.2.1 k).1 = N.1.cls)))
    | none => false)
  | _ => false
theorem mq_c53_ok {N : mq_Nm} {pc : Nat} {ns : List Nat} (h : mq_c53 N pc ns = true) : mq_fc mq_cl mq_TT mq_Zs mq_ks N pc (53, ns, []) := by
  unfold mq_c53 at h
  split at h
  next n ci k t q index =>
    simp only [Bool.and_eq_true, decide_eq_true_eq] at h
    obtain ⟨⟨⟨rfl, h60⟩, hd⟩, h4⟩ := h
    split at h4
    next r hr =>
      simp only [Bool.and_eq_true, decide_eq_true_eq] at h4
      obtain ⟨⟨⟨g1, g2⟩, g3⟩, g4⟩ := h4
      split at g3
      next ty hty =>
        refine Or.inr (Or.inr (Or.inr (Or.inr (Or.inr (Or.inl ⟨ci, k, t, r, index, _, ty, mq_dk_ok hd, hr, h60, g1, hty, g3, ?_, rfl⟩)))))
        cases hf : (r.2.1 k).2.2.2 with
        | false => exact Or.inl ⟨rfl, Or.inl (mq_isw_in g2)⟩
        | true =>
          rw [hf] at g4
          simp at g4
          exact Or.inr ⟨rfl, g4.1, g4.2, mq_isw_in g2⟩
      · cases g3
    · cases h4
  · cases h
def mq_c54 (N : mq_Nm) (pc : Nat) (ns : List Nat) : Bool := match ns with
  | [n, a, q, index] => decide (n = pc + 3) && decide (a = 1) && mq_dk N pc (.getstatic index) 3 && mq_isw q (.fieldLink N.1.cls index "ClassHouse$Unpacker" "MARK_ORDER" "[I")
  | _ => false
theorem mq_c54_ok {N : mq_Nm} {pc : Nat} {ns : List Nat} (h : mq_c54 N pc ns = true) : mq_fc mq_cl mq_TT mq_Zs mq_ks N pc (54, ns, []) := by
  unfold mq_c54 at h
  split at h
  next n a q index =>
    simp only [Bool.and_eq_true, decide_eq_true_eq] at h
    obtain ⟨⟨⟨rfl, rfl⟩, hd⟩, h4⟩ := h
    exact Or.inr (Or.inr (Or.inr (Or.inr (Or.inr (Or.inr (Or.inl ⟨1, "ClassHouse$Unpacker", "MARK_ORDER", "[I", index, _, mq_dk_ok hd, List.mem_cons_self, by decide, mq_isw_in h4, rfl⟩))))))
  · cases h
def mq_dvs (l : List (String × String × String × Bool)) (ts : List Nat) : Bool := match l, ts with
  | [], [] => true
  | f :: l, t :: ts => (match parseFieldDescriptor f.2.2.1 with
    | some ty => decide (defaultValue ty = mq_dv t)
    | none => false) && mq_dvs l ts
  | _, _ => false
theorem mq_dvs_ok : ∀ (l : List (String × String × String × Bool)) (ts : List Nat), mq_dvs l ts = true → ts.length = l.length ∧ ∀ j, j < l.length → ∃ ty, parseFieldDescriptor (mq_fd l j).2.2.1 = some ty ∧ defaultValue ty = vp_V (ts.map mq_dv) j
  | [], [], _ => ⟨rfl, fun j hj => absurd hj (Nat.not_lt_zero j)⟩
  | [], _ :: _, h => by cases h
  | _ :: _, [], h => by cases h
  | f :: l, t :: ts, h => by
    have h' : ((match parseFieldDescriptor f.2.2.1 with
      | some ty => decide (defaultValue ty = mq_dv t)
      | none => false) && mq_dvs l ts) = true := h
    rw [Bool.and_eq_true] at h'
    obtain ⟨h1, h2⟩ := h'
    obtain ⟨g1, g2⟩ := mq_dvs_ok l ts h2
    refine ⟨by simp [g1], fun j hj => ?_⟩
    cases j with
    | zero =>
      split at h1
      next ty hty => exact ⟨ty, hty, of_decide_eq_true h1⟩
      · cases h1
    | succ j => exact g2 j (by simpa using hj)
def mq_Fs : List (List (String × String × String × Bool)) := [mq_F0, mq_F1, mq_F2, mq_F3, mq_F4, mq_F5, mq_F6, mq_F7, mq_F8, mq_F9]
theorem mq_Fs_cl {ci : Nat} {l : List (String × String × String × Bool)} (h : mq_Fs[ci]? = some l) : ∃ C, mq_cl[ci]? = some (C, mq_fd l, l.length) := by
  match ci, h with
  | 0, h => cases h; exact ⟨_, rfl⟩
  | 1, h => cases h; exact ⟨_, rfl⟩
  | 2, h => cases h; exact ⟨_, rfl⟩
  | 3, h => cases h; exact ⟨_, rfl⟩
  | 4, h => cases h; exact ⟨_, rfl⟩
  | 5, h => cases h; exact ⟨_, rfl⟩
  | 6, h => cases h; exact ⟨_, rfl⟩
  | 7, h => cases h; exact ⟨_, rfl⟩
  | 8, h => cases h; exact ⟨_, rfl⟩
  | 9, h => cases h; exact ⟨_, rfl⟩
  | _ + 10, h => cases h
def mq_c55 (N : mq_Nm) (pc : Nat) (ns : List Nat) : Bool := match ns with
  | n :: ci :: w :: ts => decide (n = pc + 3) && decide (ci < 60) && mq_dk N pc (.new (w / 1000000000000)) 3 && (match mq_Fs[ci]?, mq_cl[ci]? with
    | some l, some r => mq_dvs l ts && mq_isw (w % 10000) (.classLink N.1.cls (w / 1000000000000) r.1) && mq_isw (w / 10000 % 10000) (.instantiable r.1 r.2.2) && mq_isw (w / 100000000 % 10000) (.initialized r.1)
    | _, _ => false)
  | _ => false
theorem mq_c55_ok {N : mq_Nm} {pc : Nat} {ns : List Nat} (h : mq_c55 N pc ns = true) : mq_fc mq_cl mq_TT mq_Zs mq_ks N pc (55, ns, []) := by
  unfold mq_c55 at h
  split at h
  next n ci w ts =>
    simp only [Bool.and_eq_true, decide_eq_true_eq] at h
    obtain ⟨⟨⟨rfl, h60⟩, hd⟩, h4⟩ := h
    split at h4
    next l r hl hr =>
      simp only [Bool.and_eq_true] at h4
      obtain ⟨⟨⟨g1, g2⟩, g3⟩, g4⟩ := h4
      obtain ⟨C, hC⟩ := mq_Fs_cl hl
      obtain ⟨k1, k2⟩ := mq_dvs_ok l ts g1
      cases hC.symm.trans hr
      exact Or.inr (Or.inr (Or.inr (Or.inr (Or.inr (Or.inr (Or.inr (Or.inl ⟨ci, _, ts, _, w, mq_dk_ok hd, hr, h60, k1, k2, mq_isw_in g2, mq_isw_in g3, mq_isw_in g4, rfl⟩)))))))
    · cases h4
  · cases h
def mq_c56 (N : mq_Nm) (pc : Nat) (ns : List Nat) : Bool := match ns with
  | [n, kind, q] => (decide (n = pc + 2) && decide (kind = 64) && mq_dk N pc (.newarray .int) 2 && mq_isw q (.arrayClass .int)) || (decide (n = pc + 2) && decide (kind = 65) && mq_dk N pc (.newarray .boolean) 2 && mq_isw q (.arrayClass .boolean)) || (decide (n = pc + 2) && decide (kind = 66) && mq_dk N pc (.newarray .long) 2 && mq_isw q (.arrayClass .long)) ||
      (decide (n = pc + 3) && decide (70 ≤ kind) && decide (kind < 130) && decide (kind ∈ mq_ks) && mq_dk N pc (.anewarray (q / 100000000)) 3 && (match mq_cl[kind - 70]? with
        | some r => mq_isw (q % 10000) (.classLink N.1.cls (q / 100000000) r.1) && mq_isw (q / 10000 % 10000) (.arrayOver (.object r.1))
        | none => false))
  | _ => false
theorem mq_c56_ok {N : mq_Nm} {pc : Nat} {ns : List Nat} (h : mq_c56 N pc ns = true) : mq_fc mq_cl mq_TT mq_Zs mq_ks N pc (56, ns, []) := by
  unfold mq_c56 at h
  split at h
  next n kind q =>
    simp only [Bool.or_eq_true, Bool.and_eq_true, decide_eq_true_eq] at h
    rcases h with ((⟨⟨⟨rfl, rfl⟩, hd⟩, hw⟩ | ⟨⟨⟨rfl, rfl⟩, hd⟩, hw⟩) | ⟨⟨⟨rfl, rfl⟩, hd⟩, hw⟩) | ⟨⟨⟨⟨⟨rfl, g1⟩, g2⟩, g3⟩, hd⟩, h4⟩
    · exact Or.inr (Or.inr (Or.inr (Or.inr (Or.inr (Or.inr (Or.inr (Or.inr (Or.inl ⟨.int, _, mq_dk_ok hd, Or.inl rfl, by decide, mq_isw_in hw, rfl⟩))))))))
    · exact Or.inr (Or.inr (Or.inr (Or.inr (Or.inr (Or.inr (Or.inr (Or.inr (Or.inl ⟨.boolean, _, mq_dk_ok hd, Or.inr (Or.inl rfl), by decide, mq_isw_in hw, rfl⟩))))))))
    · exact Or.inr (Or.inr (Or.inr (Or.inr (Or.inr (Or.inr (Or.inr (Or.inr (Or.inl ⟨.long, _, mq_dk_ok hd, Or.inr (Or.inr rfl), by decide, mq_isw_in hw, rfl⟩))))))))
    · split at h4
      next r hr =>
        rw [Bool.and_eq_true] at h4
        have e : 70 + (kind - 70) = kind := by omega
        exact Or.inr (Or.inr (Or.inr (Or.inr (Or.inr (Or.inr (Or.inr (Or.inr (Or.inr (Or.inl ⟨kind - 70, r, _, [q], mq_dk_ok hd, hr, by omega, by rw [e]; exact g3, mq_isw_in h4.1, mq_isw_in h4.2, by rw [e]⟩)))))))))
      · cases h4
  · cases h
