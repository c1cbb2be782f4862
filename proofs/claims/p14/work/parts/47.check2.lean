/-! The other instructions; a whole method. -/
theorem mq_f11 {cl : List vw_C} {TT : List Cond} {Zs : List (Nat × String × String × String)} {ks : List Nat} {N : mq_Nm} {pc : Nat} (hd : decode N.2.1 pc = .ok (.arraylength, 1)) (h1 : 64 ∈ ks) (h2 : 65 ∈ ks) (h3 : 66 ∈ ks) : mq_fc cl TT Zs ks N pc (57, [pc + 1], []) := by
  unfold mq_fc
  iterate 10 apply Or.inr
  exact Or.inl ⟨hd, h1, h2, h3, rfl⟩
def mq_c57 (N : mq_Nm) (pc : Nat) (ns : List Nat) : Bool := decide (ns = [pc + 1]) && mq_dk N pc .arraylength 1
theorem mq_c57_ok {N : mq_Nm} {pc : Nat} {ns : List Nat} (h : mq_c57 N pc ns = true) : mq_fc mq_cl mq_TT mq_Zs mq_ks N pc (57, ns, []) := by
  unfold mq_c57 at h
  simp only [Bool.and_eq_true, decide_eq_true_eq] at h
  rw [h.1]
  exact mq_f11 (mq_dk_ok h.2) (by decide) (by decide) (by decide)
def mq_c58 (N : mq_Nm) (pc : Nat) (ns : List Nat) : Bool := match ns with
  | [n, kind] => decide (n = pc + 1) && ((decide (kind = 64) && mq_dk N pc .iaload 1) || (decide (kind = 65) && mq_dk N pc .baload 1) || (decide (kind = 66) && mq_dk N pc .laload 1) || (decide (70 ≤ kind) && decide (kind < 130) && decide (kind ∈ mq_ks) && decide (kind - 70 < mq_cl.length) && mq_dk N pc .aaload 1))
  | _ => false
theorem mq_c58_ok {N : mq_Nm} {pc : Nat} {ns : List Nat} (h : mq_c58 N pc ns = true) : mq_fc mq_cl mq_TT mq_Zs mq_ks N pc (58, ns, []) := by
  unfold mq_c58 at h
  split at h
  next n kind =>
    simp only [Bool.or_eq_true, Bool.and_eq_true, decide_eq_true_eq] at h
    obtain ⟨rfl, h⟩ := h
    unfold mq_fc
    iterate 11 apply Or.inr
    rcases h with ((⟨rfl, hd⟩ | ⟨rfl, hd⟩) | ⟨rfl, hd⟩) | ⟨⟨⟨⟨g1, g2⟩, g3⟩, g4⟩, hd⟩
    · exact Or.inl ⟨mq_dk_ok hd, by decide, rfl⟩
    · exact Or.inr (Or.inl ⟨mq_dk_ok hd, by decide, rfl⟩)
    · exact Or.inr (Or.inr (Or.inl ⟨mq_dk_ok hd, by decide, rfl⟩))
    · have e : 70 + (kind - 70) = kind := by omega
      exact Or.inr (Or.inr (Or.inr (Or.inl ⟨kind - 70, _, mq_dk_ok hd, List.getElem?_eq_getElem g4, by omega, by rw [e]; exact g3, by rw [e]⟩)))
  · cases h
def mq_c59 (N : mq_Nm) (pc : Nat) (ns : List Nat) : Bool := match ns with
  | [n, kind] => decide (n = pc + 1) && ((decide (kind = 64) && mq_dk N pc .iastore 1) || (decide (kind = 65) && mq_dk N pc .bastore 1) || (decide (kind = 66) && mq_dk N pc .lastore 1) || (decide (70 ≤ kind) && decide (kind < 130) && decide (kind ∈ mq_ks) && decide (kind - 70 < mq_cl.length) && mq_dk N pc .aastore 1))
  | _ => false
theorem mq_c59_ok {N : mq_Nm} {pc : Nat} {ns : List Nat} (h : mq_c59 N pc ns = true) : mq_fc mq_cl mq_TT mq_Zs mq_ks N pc (59, ns, []) := by
  unfold mq_c59 at h
  split at h
  next n kind =>
    simp only [Bool.or_eq_true, Bool.and_eq_true, decide_eq_true_eq] at h
    obtain ⟨rfl, h⟩ := h
    unfold mq_fc
    iterate 15 apply Or.inr
    rcases h with ((⟨rfl, hd⟩ | ⟨rfl, hd⟩) | ⟨rfl, hd⟩) | ⟨⟨⟨⟨g1, g2⟩, g3⟩, g4⟩, hd⟩
    · exact Or.inl ⟨mq_dk_ok hd, by decide, rfl⟩
    · exact Or.inr (Or.inl ⟨mq_dk_ok hd, by decide, rfl⟩)
    · exact Or.inr (Or.inr (Or.inl ⟨mq_dk_ok hd, by decide, rfl⟩))
    · have e : 70 + (kind - 70) = kind := by omega
      exact Or.inr (Or.inr (Or.inr (Or.inl ⟨kind - 70, _, mq_dk_ok hd, List.getElem?_eq_getElem g4, by omega, by rw [e]; exact g3, by rw [e]⟩)))
  · cases h
theorem mq_wo1 : Cond.instanceMethod Lib.objectInit ∈ mq_TT := mq_w_in (q := 1028) (by decide +kernel) (by decide +kernel)
theorem mq_wo2 : Cond.code Lib.objectInit ⟨#[0xb1]⟩ 1 none ∈ mq_TT := mq_w_in (q := 1029) (by decide +kernel) (by decide +kernel)
def mq_c62 (N : mq_Nm) (pc : Nat) (ns : List Nat) : Bool := match ns with
  | [n, q, index] => decide (n = pc + 3) && mq_dk N pc (.invokespecial index) 3 && mq_isw q (.methodLink N.1.cls index Lib.objectInit)
  | _ => false
theorem mq_c62_ok {N : mq_Nm} {pc : Nat} {ns : List Nat} (h : mq_c62 N pc ns = true) : mq_fc mq_cl mq_TT mq_Zs mq_ks N pc (62, ns, []) := by
  unfold mq_c62 at h
  split at h
  next n q index =>
    simp only [Bool.and_eq_true, decide_eq_true_eq] at h
    obtain ⟨⟨rfl, hd⟩, hw⟩ := h
    unfold mq_fc
    iterate 19 apply Or.inr
    exact Or.inl ⟨index, _, mq_dk_ok hd, mq_isw_in hw, mq_wo1, mq_wo2, rfl⟩
  · cases h
theorem mq_wm1 : Cond.static Lib.Math.min.name ∈ mq_TT := mq_w_in (q := 4152) (by decide +kernel) (by decide +kernel)
theorem mq_wm2 : Cond.initialized "java/lang/Math" ∈ mq_TT := mq_w_in (q := 1021) (by decide +kernel) (by decide +kernel)
theorem mq_wm3 : Cond.code Lib.Math.min.name Lib.Math.min.code 2 (some .int) ∈ mq_TT := mq_w_in (q := 4153) (by decide +kernel) (by decide +kernel)
def mq_c63 (N : mq_Nm) (pc : Nat) (ns : List Nat) : Bool := match ns with
  | [n, q, index] => decide (n = pc + 3) && mq_dk N pc (.invokestatic index) 3 && mq_isw q (.methodLink N.1.cls index Lib.Math.min.name)
  | _ => false
theorem mq_c63_ok {N : mq_Nm} {pc : Nat} {ns : List Nat} (h : mq_c63 N pc ns = true) : mq_fc mq_cl mq_TT mq_Zs mq_ks N pc (63, ns, []) := by
  unfold mq_c63 at h
  split at h
  next n q index =>
    simp only [Bool.and_eq_true, decide_eq_true_eq] at h
    obtain ⟨⟨rfl, hd⟩, hw⟩ := h
    unfold mq_fc
    iterate 20 apply Or.inr
    exact Or.inl ⟨index, _, mq_dk_ok hd, mq_isw_in hw, mq_wm1, mq_wm2, mq_wm3, rfl⟩
  · cases h
theorem mq_wc1 : Cond.native arraycopyName ∈ mq_TT := mq_w_in (q := 2212) (by decide +kernel) (by decide +kernel)
theorem mq_wc2 : Cond.static arraycopyName ∈ mq_TT := mq_w_in (q := 2211) (by decide +kernel) (by decide +kernel)
theorem mq_wc3 : Cond.initialized "java/lang/System" ∈ mq_TT := mq_w_in (q := 1012) (by decide +kernel) (by decide +kernel)
def mq_c65 (N : mq_Nm) (pc : Nat) (ns : List Nat) : Bool := match ns with
  | [n, q, index] => decide (n = pc + 3) && mq_dk N pc (.invokestatic index) 3 && mq_isw q (.methodLink N.1.cls index arraycopyName)
  | _ => false
theorem mq_c65_ok {N : mq_Nm} {pc : Nat} {ns : List Nat} (h : mq_c65 N pc ns = true) : mq_fc mq_cl mq_TT mq_Zs mq_ks N pc (65, ns, []) := by
  unfold mq_c65 at h
  split at h
  next n q index =>
    simp only [Bool.and_eq_true, decide_eq_true_eq] at h
    obtain ⟨⟨rfl, hd⟩, hw⟩ := h
    unfold mq_fc
    iterate 21 apply Or.inr
    exact ⟨index, _, mq_dk_ok hd, mq_isw_in hw, mq_wc1, mq_wc2, mq_wc3, by decide, rfl⟩
  · cases h
/-- every method's code stands among the words (all but the law's own, which is never called) -/
def mq_cws (Nms : List mq_Nm) : Prop := ∀ (j : Nat) (N : mq_Nm), Nms[j]? = some N → N.1.name ≠ "law" → mq_cw N ∈ mq_TT
def mq_c60 (N : mq_Nm) (pc : Nat) (ns : List Nat) : Bool := match ns with
  | [n, j, c, mx, q, qs, qi, index] => decide (n = pc + 3) && mq_dk N pc (.invokestatic index) 3 && (match mq_NN[j]? with
    | some Nj => mq_isl q N.1.cls index Nj.1 && mq_isw qs (.static Nj.1) && mq_isw qi (.initialized Nj.1.cls) && decide (Nj.1.name ≠ "law") && mq_pl Nj c && decide (mx = Nj.2.2.1)
    | none => false)
  | _ => false
theorem mq_c60_ok (hcw : mq_cws mq_NN) {N : mq_Nm} {pc : Nat} {ns : List Nat} (h : mq_c60 N pc ns = true) : mq_fcall mq_cl mq_TT mq_NN N pc (60, ns, []) := by
  unfold mq_c60 at h
  split at h
  next n j c mx q qs qi index =>
    simp only [Bool.and_eq_true, decide_eq_true_eq] at h
    obtain ⟨⟨rfl, hd⟩, h4⟩ := h
    split at h4
    next Nj hj =>
      simp only [Bool.and_eq_true, decide_eq_true_eq] at h4
      obtain ⟨⟨⟨⟨⟨g1, g2⟩, g3⟩, g4⟩, g5⟩, rfl⟩ := h4
      exact Or.inl ⟨j, Nj, index, c, _, mq_dk_ok hd, hj, mq_isl_in g1, mq_isw_in g2, mq_isw_in g3, hcw j Nj hj g4, g5, rfl⟩
    · cases h4
  · cases h
def mq_c61 (N : mq_Nm) (pc : Nat) (ns : List Nat) : Bool := match ns with
  | [n, j, c, ci, mx, q, qi, qs, index] => decide (n = pc + 3) && decide (ci < 60) && mq_dk N pc (.invokevirtual index) 3 && (match mq_NN[j]?, mq_cl[ci]? with
    | some Nj, some r => mq_isl q N.1.cls index Nj.1 && mq_isw qi (.instanceMethod Nj.1) && mq_isw qs (.selects r.1 Nj.1 Nj.1) && decide (Nj.1.name ≠ "law") && mq_pl Nj c && decide (mx = Nj.2.2.1)
    | _, _ => false)
  | [n, j, c, _, mx, q, qi, index] => decide (n = pc + 3) && mq_dk N pc (.invokespecial index) 3 && (match mq_NN[j]? with
    | some Nj => mq_isl q N.1.cls index Nj.1 && mq_isw qi (.instanceMethod Nj.1) && decide (Nj.1.name = "<init>") && decide (Nj.2.2.2.2 = []) && decide (Nj.2.2.2.1 = none) && decide (Nj.1.name ≠ "law") && mq_pl Nj c && decide (mx = Nj.2.2.1)
    | none => false)
  | _ => false
theorem mq_c61_ok (hcw : mq_cws mq_NN) {N : mq_Nm} {pc : Nat} {ns : List Nat} (h : mq_c61 N pc ns = true) : mq_fcall mq_cl mq_TT mq_NN N pc (61, ns, []) := by
  unfold mq_c61 at h
  split at h
  next n j c ci mx q qi qs index =>
    simp only [Bool.and_eq_true, decide_eq_true_eq] at h
    obtain ⟨⟨⟨rfl, h60⟩, hd⟩, h4⟩ := h
    split at h4
    next Nj r hj hr =>
      simp only [Bool.and_eq_true, decide_eq_true_eq] at h4
      obtain ⟨⟨⟨⟨⟨g1, g2⟩, g3⟩, g4⟩, g5⟩, rfl⟩ := h4
      exact Or.inr (Or.inl ⟨j, Nj, index, c, ci, r, _, mq_dk_ok hd, hj, mq_isl_in g1, mq_isw_in g2, hr, h60, mq_isw_in g3, hcw j Nj hj g4, g5, rfl⟩)
    · cases h4
  next n j c ci mx q qi index =>
    simp only [Bool.and_eq_true, decide_eq_true_eq] at h
    obtain ⟨⟨rfl, hd⟩, h4⟩ := h
    split at h4
    next Nj hj =>
      simp only [Bool.and_eq_true, decide_eq_true_eq] at h4
      obtain ⟨⟨⟨⟨⟨⟨⟨g1, g2⟩, g3⟩, g4⟩, g5⟩, g6⟩, g7⟩, rfl⟩ := h4
      exact Or.inr (Or.inr ⟨j, Nj, index, c, ci, _, mq_dk_ok hd, hj, mq_isl_in g1, mq_isw_in g2, g3, g4, g5, hcw j Nj hj g6, g7, rfl⟩)
    · cases h4
  · cases h
def mq_c67 (N : mq_Nm) (pc : Nat) (ns : List Nat) : Bool := match ns with
  | [t] => (decide (t = 0) && mq_dk N pc .ireturn 1 && decide (N.2.2.2.1 = some .int)) || (decide (t = 1) && mq_dk N pc .ireturn 1 && decide (N.2.2.2.1 = some .boolean)) || (decide (t = 2) && mq_dk N pc .lreturn 1 && decide (N.2.2.2.1 = some .long))
  | _ => false
theorem mq_c67_ok {N : mq_Nm} {pc : Nat} {ns : List Nat} (h : mq_c67 N pc ns = true) : mq_fret N pc (67, ns, []) := by
  unfold mq_c67 at h
  split at h
  next t =>
    simp only [Bool.or_eq_true, Bool.and_eq_true, decide_eq_true_eq] at h
    rcases h with (⟨⟨rfl, hd⟩, hr⟩ | ⟨⟨rfl, hd⟩, hr⟩) | ⟨⟨rfl, hd⟩, hr⟩
    · exact Or.inr (Or.inl ⟨mq_dk_ok hd, hr, rfl⟩)
    · exact Or.inr (Or.inr (Or.inl ⟨mq_dk_ok hd, hr, rfl⟩))
    · exact Or.inr (Or.inr (Or.inr (Or.inl ⟨mq_dk_ok hd, hr, rfl⟩)))
  · cases h
def mq_c0 (N : mq_Nm) (pc : Nat) (o : mq_P) : Bool := match decode N.2.1 pc with
  | .ok (.ldc index, len) => decide (len = 2) && (match o with
    | (0, [n], [v]) => decide (n = pc + 2) && ([2158, 2197, 2225, 5165, 5178, 5202, 6073].any fun q => mq_isw q (.constant N.1.cls index (Int32.ofInt v)))
    | _ => false)
  | .ok (.ldc2_w index, len) => decide (len = 3) && (match o with
    | (1, [n], [v]) => decide (n = pc + 3) && ([5137, 6146].any fun q => mq_isw q (.constantLong N.1.cls index (Int64.ofInt v)))
    | _ => false)
  | .ok (i, len) => decide (mq_can pc i len = some o) || decide (mq_csw pc i = some o)
  | _ => false
theorem mq_c0_ok {N : mq_Nm} {pc : Nat} {o : mq_P} (h : mq_c0 N pc o = true) : mq_fc mq_cl mq_TT mq_Zs mq_ks N pc o := by
  unfold mq_c0 at h
  split at h
  next index len hd =>
    rw [Bool.and_eq_true, decide_eq_true_eq] at h
    obtain ⟨rfl, h⟩ := h
    split at h
    next n v =>
      rw [Bool.and_eq_true, decide_eq_true_eq] at h
      obtain ⟨rfl, h⟩ := h
      obtain ⟨q, -, hq⟩ := List.any_eq_true.mp h
      exact Or.inr (Or.inr (Or.inl ⟨index, v, hd, mq_isw_in hq, rfl⟩))
    · cases h
  next index len hd =>
    rw [Bool.and_eq_true, decide_eq_true_eq] at h
    obtain ⟨rfl, h⟩ := h
    split at h
    next n v =>
      rw [Bool.and_eq_true, decide_eq_true_eq] at h
      obtain ⟨rfl, h⟩ := h
      obtain ⟨q, -, hq⟩ := List.any_eq_true.mp h
      exact Or.inr (Or.inr (Or.inr (Or.inl ⟨index, v, hd, mq_isw_in hq, rfl⟩)))
    · cases h
  next i len _ _ hd =>
    rw [Bool.or_eq_true, decide_eq_true_eq, decide_eq_true_eq] at h
    rcases h with h | h
    · exact Or.inl ⟨i, len, hd, h⟩
    · exact Or.inr (Or.inl ⟨i, len, hd, h⟩)
  · cases h
def mq_ck (N : mq_Nm) (pc : Nat) (o : mq_P) : Bool :=
  if o.1 < 52 then mq_c0 N pc o else decide (o.2.2 = []) && (
    if o.1 = 52 then mq_c52 N pc o.2.1 else if o.1 = 53 then mq_c53 N pc o.2.1 else if o.1 = 54 then mq_c54 N pc o.2.1 else if o.1 = 55 then mq_c55 N pc o.2.1 else if o.1 = 56 then mq_c56 N pc o.2.1 else if o.1 = 57 then mq_c57 N pc o.2.1 else if o.1 = 58 then mq_c58 N pc o.2.1 else if o.1 = 59 then mq_c59 N pc o.2.1 else
    if o.1 = 60 then mq_c60 N pc o.2.1 else if o.1 = 61 then mq_c61 N pc o.2.1 else if o.1 = 62 then mq_c62 N pc o.2.1 else if o.1 = 63 then mq_c63 N pc o.2.1 else if o.1 = 65 then mq_c65 N pc o.2.1 else if o.1 = 66 then decide (o.2.1 = []) && mq_dk N pc .return_ 1 && decide (N.2.2.2.1 = none) else if o.1 = 67 then mq_c67 N pc o.2.1 else false)
theorem mq_ck_ok (hcw : mq_cws mq_NN) {N : mq_Nm} {pc : Nat} {o : mq_P} (h : mq_ck N pc o = true) : mq_fc mq_cl mq_TT mq_Zs mq_ks N pc o ∨ mq_fcall mq_cl mq_TT mq_NN N pc o ∨ mq_fret N pc o := by
  obtain ⟨op, ns, cs⟩ := o
  unfold mq_ck at h
  by_cases h52 : op < 52
  · rw [if_pos (show op < 52 from h52)] at h
    exact Or.inl (mq_c0_ok h)
  · rw [if_neg (show ¬ op < 52 from h52), Bool.and_eq_true, decide_eq_true_eq] at h
    obtain ⟨hcs, h⟩ := h
    have hcs' : cs = [] := hcs
    subst hcs'
    have h : (if op = 52 then mq_c52 N pc ns else if op = 53 then mq_c53 N pc ns else if op = 54 then mq_c54 N pc ns else if op = 55 then mq_c55 N pc ns else if op = 56 then mq_c56 N pc ns else if op = 57 then mq_c57 N pc ns else if op = 58 then mq_c58 N pc ns else if op = 59 then mq_c59 N pc ns else if op = 60 then mq_c60 N pc ns else if op = 61 then mq_c61 N pc ns else if op = 62 then mq_c62 N pc ns else if op = 63 then mq_c63 N pc ns else if op = 65 then mq_c65 N pc ns else if op = 66 then decide (ns = []) && mq_dk N pc .return_ 1 && decide (N.2.2.2.1 = none) else if op = 67 then mq_c67 N pc ns else false) = true := h
    by_cases e52 : op = 52
    · rw [if_pos e52] at h
      subst e52
      exact Or.inl (mq_c52_ok h)
    rw [if_neg e52] at h
    by_cases e53 : op = 53
    · rw [if_pos e53] at h
      subst e53
      exact Or.inl (mq_c53_ok h)
    rw [if_neg e53] at h
    by_cases e54 : op = 54
    · rw [if_pos e54] at h
      subst e54
      exact Or.inl (mq_c54_ok h)
    rw [if_neg e54] at h
    by_cases e55 : op = 55
    · rw [if_pos e55] at h
      subst e55
      exact Or.inl (mq_c55_ok h)
    rw [if_neg e55] at h
    by_cases e56 : op = 56
    · rw [if_pos e56] at h
      subst e56
      exact Or.inl (mq_c56_ok h)
    rw [if_neg e56] at h
    by_cases e57 : op = 57
    · rw [if_pos e57] at h
      subst e57
      exact Or.inl (mq_c57_ok h)
    rw [if_neg e57] at h
    by_cases e58 : op = 58
    · rw [if_pos e58] at h
      subst e58
      exact Or.inl (mq_c58_ok h)
    rw [if_neg e58] at h
    by_cases e59 : op = 59
    · rw [if_pos e59] at h
      subst e59
      exact Or.inl (mq_c59_ok h)
    rw [if_neg e59] at h
    by_cases e60 : op = 60
    · rw [if_pos e60] at h
      subst e60
      exact Or.inr (Or.inl (mq_c60_ok hcw h))
    rw [if_neg e60] at h
    by_cases e61 : op = 61
    · rw [if_pos e61] at h
      subst e61
      exact Or.inr (Or.inl (mq_c61_ok hcw h))
    rw [if_neg e61] at h
    by_cases e62 : op = 62
    · rw [if_pos e62] at h
      subst e62
      exact Or.inl (mq_c62_ok h)
    rw [if_neg e62] at h
    by_cases e63 : op = 63
    · rw [if_pos e63] at h
      subst e63
      exact Or.inl (mq_c63_ok h)
    rw [if_neg e63] at h
    by_cases e65 : op = 65
    · rw [if_pos e65] at h
      subst e65
      exact Or.inl (mq_c65_ok h)
    rw [if_neg e65] at h
    by_cases e66 : op = 66
    · rw [if_pos e66] at h
      subst e66
      have h9 : (decide (ns = []) && mq_dk N pc .return_ 1 && decide (N.2.2.2.1 = none)) = true := h
      rw [Bool.and_eq_true, Bool.and_eq_true, decide_eq_true_eq, decide_eq_true_eq] at h9
      obtain ⟨⟨rfl, hd⟩, hr⟩ := h9
      exact Or.inr (Or.inr (Or.inl ⟨mq_dk_ok hd, hr, rfl⟩))
    rw [if_neg e66] at h
    by_cases e67 : op = 67
    · rw [if_pos e67] at h
      subst e67
      exact Or.inr (Or.inr (mq_c67_ok h))
    rw [if_neg e67] at h
    cases h
/-- a method's check: its locals, its handlers, its instructions but the throws -/
def mq_mk (t : mq_T) (N : mq_Nm) : Bool := decide (t.1 = N.2.2.1) && decide (t.1 ≤ 40) && (!t.2.1.isEmpty || N.2.2.2.2.isEmpty) && t.2.2.all (fun q => decide (q.2.1 = 68) || mq_ck N q.1 q.2)
