/-! All methods together: the mini-machine's program is the machine's. -/
set_option maxRecDepth 100000 in
theorem mq_mall : ∀ q ∈ mq_ZZ, mq_mk q.1 q.2 = true := by
  unfold mq_ZZ
  exact List.forall_mem_cons.mpr ⟨mq_m0, List.forall_mem_cons.mpr ⟨mq_m1, List.forall_mem_cons.mpr ⟨mq_m2, List.forall_mem_cons.mpr ⟨mq_m3, List.forall_mem_cons.mpr ⟨mq_m4, List.forall_mem_cons.mpr ⟨mq_m5, List.forall_mem_cons.mpr ⟨mq_m6, List.forall_mem_cons.mpr ⟨mq_m7, List.forall_mem_cons.mpr ⟨mq_m8, List.forall_mem_cons.mpr ⟨mq_m9, List.forall_mem_cons.mpr ⟨mq_m10, List.forall_mem_cons.mpr ⟨mq_m11, List.forall_mem_cons.mpr ⟨mq_m12, List.forall_mem_cons.mpr ⟨mq_m13, List.forall_mem_cons.mpr ⟨mq_m14, List.forall_mem_cons.mpr ⟨mq_m15, List.forall_mem_cons.mpr ⟨mq_m16, List.forall_mem_cons.mpr ⟨mq_m17, List.forall_mem_cons.mpr ⟨mq_m18, List.forall_mem_cons.mpr ⟨mq_m19, List.forall_mem_cons.mpr ⟨mq_m20, List.forall_mem_cons.mpr ⟨mq_m21, List.forall_mem_cons.mpr ⟨mq_m22, List.forall_mem_cons.mpr ⟨mq_m23, List.forall_mem_cons.mpr ⟨mq_m24, List.forall_mem_cons.mpr ⟨mq_m25, List.forall_mem_cons.mpr ⟨mq_m26, List.forall_mem_cons.mpr ⟨mq_m27, List.forall_mem_cons.mpr ⟨mq_m28, List.forall_mem_cons.mpr ⟨mq_m29, List.forall_mem_cons.mpr ⟨mq_m30, List.forall_mem_cons.mpr ⟨mq_m31, List.forall_mem_cons.mpr ⟨mq_m32, List.forall_mem_cons.mpr ⟨mq_m33, List.forall_mem_cons.mpr ⟨mq_m34, List.forall_mem_cons.mpr ⟨mq_m35, List.forall_mem_cons.mpr ⟨mq_m36, List.forall_mem_cons.mpr ⟨mq_m37, List.forall_mem_cons.mpr ⟨mq_m38, List.forall_mem_cons.mpr ⟨mq_m39, List.forall_mem_cons.mpr ⟨mq_m40, List.forall_mem_cons.mpr ⟨mq_m41, List.forall_mem_cons.mpr ⟨mq_m42, List.forall_mem_cons.mpr ⟨mq_m43, List.forall_mem_cons.mpr ⟨mq_m44, List.forall_mem_cons.mpr ⟨mq_m45, List.forall_mem_cons.mpr ⟨mq_m46, List.forall_mem_cons.mpr ⟨mq_m47, List.forall_mem_cons.mpr ⟨mq_m48, List.forall_mem_cons.mpr ⟨mq_m49, List.forall_mem_cons.mpr ⟨mq_m50, List.forall_mem_cons.mpr ⟨mq_m51, List.forall_mem_cons.mpr ⟨mq_m52, List.forall_mem_cons.mpr ⟨mq_m53, List.forall_mem_cons.mpr ⟨mq_m54, List.forall_mem_cons.mpr ⟨mq_m55, List.forall_mem_cons.mpr ⟨mq_m56, List.forall_mem_cons.mpr ⟨mq_m57, List.forall_mem_cons.mpr ⟨mq_m58, List.forall_mem_cons.mpr ⟨mq_m59, List.forall_mem_cons.mpr ⟨mq_m60, List.forall_mem_cons.mpr ⟨mq_m61, List.forall_mem_cons.mpr ⟨mq_m62, List.forall_mem_cons.mpr ⟨mq_m63, List.forall_mem_cons.mpr ⟨mq_m64, List.forall_mem_cons.mpr ⟨mq_m65, List.forall_mem_cons.mpr ⟨mq_m66, List.forall_mem_cons.mpr ⟨mq_m67, List.forall_mem_cons.mpr ⟨mq_m68, List.forall_mem_cons.mpr ⟨mq_m69, List.forall_mem_cons.mpr ⟨mq_m70, List.forall_mem_cons.mpr ⟨mq_m71, List.forall_mem_cons.mpr ⟨mq_m72, List.forall_mem_cons.mpr ⟨mq_m73, List.forall_mem_cons.mpr ⟨mq_m74, List.forall_mem_cons.mpr ⟨mq_m75, List.forall_mem_cons.mpr ⟨mq_m76, List.forall_mem_cons.mpr ⟨mq_m77, List.forall_mem_cons.mpr ⟨mq_m78, List.forall_mem_cons.mpr ⟨mq_m79, List.forall_mem_cons.mpr ⟨mq_m80, List.forall_mem_cons.mpr ⟨mq_m81, List.forall_mem_cons.mpr ⟨mq_m82, List.forall_mem_cons.mpr ⟨mq_m83, List.forall_mem_cons.mpr ⟨mq_m84, List.forall_mem_cons.mpr ⟨mq_m85, List.forall_mem_cons.mpr ⟨mq_m86, List.forall_mem_cons.mpr ⟨mq_m87, List.forall_mem_cons.mpr ⟨mq_m88, List.forall_mem_cons.mpr ⟨mq_m89, List.forall_mem_cons.mpr ⟨mq_m90, List.forall_mem_cons.mpr ⟨mq_m91, List.forall_mem_cons.mpr ⟨mq_m92, List.forall_mem_cons.mpr ⟨mq_m93, List.forall_mem_cons.mpr ⟨mq_m94, List.forall_mem_cons.mpr ⟨mq_m95, List.forall_mem_cons.mpr ⟨mq_m96, List.forall_mem_cons.mpr ⟨mq_m97, List.forall_mem_cons.mpr ⟨mq_m98, List.forall_mem_cons.mpr ⟨mq_m99, List.forall_mem_cons.mpr ⟨mq_m100, List.forall_mem_cons.mpr ⟨mq_m101, List.forall_mem_cons.mpr ⟨mq_m102, List.forall_mem_cons.mpr ⟨mq_m103, List.forall_mem_cons.mpr ⟨mq_m104, List.forall_mem_cons.mpr ⟨mq_m105, List.forall_mem_cons.mpr ⟨mq_m106, List.forall_mem_cons.mpr ⟨mq_m107, List.forall_mem_cons.mpr ⟨mq_m108, List.forall_mem_cons.mpr ⟨mq_m109, List.forall_mem_cons.mpr ⟨mq_m110, List.forall_mem_cons.mpr ⟨mq_m111, List.forall_mem_cons.mpr ⟨mq_m112, List.forall_mem_cons.mpr ⟨mq_m113, List.forall_mem_cons.mpr ⟨mq_m114, List.forall_mem_cons.mpr ⟨mq_m115, List.forall_mem_cons.mpr ⟨mq_m116, List.forall_mem_cons.mpr ⟨mq_m117, List.forall_mem_cons.mpr ⟨mq_m118, List.forall_mem_cons.mpr ⟨mq_m119, List.forall_mem_cons.mpr ⟨mq_m120, List.forall_mem_cons.mpr ⟨mq_m121, List.forall_mem_cons.mpr ⟨mq_m122, List.forall_mem_cons.mpr ⟨mq_m123, List.forall_mem_cons.mpr ⟨mq_m124, List.forall_mem_cons.mpr ⟨mq_m125, List.forall_mem_cons.mpr ⟨mq_m126, List.forall_mem_cons.mpr ⟨mq_m127, List.forall_mem_cons.mpr ⟨mq_m128, List.forall_mem_cons.mpr ⟨mq_m129, List.forall_mem_cons.mpr ⟨mq_m130, List.forall_mem_cons.mpr ⟨mq_m131, List.forall_mem_cons.mpr ⟨mq_m132, List.forall_mem_cons.mpr ⟨mq_m133, List.forall_mem_cons.mpr ⟨mq_m134, List.forall_mem_cons.mpr ⟨mq_m135, List.forall_mem_cons.mpr ⟨mq_m136, List.forall_mem_cons.mpr ⟨mq_m137, List.forall_mem_cons.mpr ⟨mq_m138, List.forall_mem_cons.mpr ⟨mq_m139, List.forall_mem_cons.mpr ⟨mq_m140, List.forall_mem_cons.mpr ⟨mq_m141, List.forall_mem_cons.mpr ⟨mq_m142, List.forall_mem_cons.mpr ⟨mq_m143, List.forall_mem_cons.mpr ⟨mq_m144, List.forall_mem_cons.mpr ⟨mq_m145, List.forall_mem_cons.mpr ⟨mq_m146, List.forall_mem_cons.mpr ⟨mq_m147, List.forall_mem_cons.mpr ⟨mq_m148, List.forall_mem_cons.mpr ⟨mq_m149, List.forall_mem_cons.mpr ⟨mq_m150, List.forall_mem_cons.mpr ⟨mq_m151, List.forall_mem_cons.mpr ⟨mq_m152, List.forall_mem_cons.mpr ⟨mq_m153, List.forall_mem_cons.mpr ⟨mq_m154, List.forall_mem_cons.mpr ⟨mq_m155, List.forall_mem_cons.mpr ⟨mq_m156, List.forall_mem_cons.mpr ⟨mq_m157, List.forall_mem_cons.mpr ⟨mq_m158, List.forall_mem_cons.mpr ⟨mq_m159, List.forall_mem_cons.mpr ⟨mq_m160, List.forall_mem_cons.mpr ⟨mq_m161, List.forall_mem_cons.mpr ⟨mq_m162, List.forall_mem_cons.mpr ⟨mq_m163, List.forall_mem_cons.mpr ⟨mq_m164, List.forall_mem_cons.mpr ⟨mq_m165, List.forall_mem_cons.mpr ⟨mq_m166, List.forall_mem_cons.mpr ⟨mq_m167, List.forall_mem_cons.mpr ⟨mq_m168, List.forall_mem_cons.mpr ⟨mq_m169, List.forall_mem_cons.mpr ⟨mq_m170, List.forall_mem_cons.mpr ⟨mq_m171, List.forall_mem_cons.mpr ⟨mq_m172, List.forall_mem_cons.mpr ⟨mq_m173, List.forall_mem_cons.mpr ⟨mq_m174, fun _ h => absurd h List.not_mem_nil⟩⟩⟩⟩⟩⟩⟩⟩⟩⟩⟩⟩⟩⟩⟩⟩⟩⟩⟩⟩⟩⟩⟩⟩⟩⟩⟩⟩⟩⟩⟩⟩⟩⟩⟩⟩⟩⟩⟩⟩⟩⟩⟩⟩⟩⟩⟩⟩⟩⟩⟩⟩⟩⟩⟩⟩⟩⟩⟩⟩⟩⟩⟩⟩⟩⟩⟩⟩⟩⟩⟩⟩⟩⟩⟩⟩⟩⟩⟩⟩⟩⟩⟩⟩⟩⟩⟩⟩⟩⟩⟩⟩⟩⟩⟩⟩⟩⟩⟩⟩⟩⟩⟩⟩⟩⟩⟩⟩⟩⟩⟩⟩⟩⟩⟩⟩⟩⟩⟩⟩⟩⟩⟩⟩⟩⟩⟩⟩⟩⟩⟩⟩⟩⟩⟩⟩⟩⟩⟩⟩⟩⟩⟩⟩⟩⟩⟩⟩⟩⟩⟩⟩⟩⟩⟩⟩⟩⟩⟩⟩⟩⟩⟩⟩⟩⟩⟩⟩⟩⟩⟩⟩⟩⟩⟩
theorem mq_lookup_mem {pc : Nat} {o : mq_P} : ∀ l : List (Nat × mq_P), l.lookup pc = some o → (pc, o) ∈ l
  | [], h => by cases h
  | (a, x) :: l, h => by
    rw [List.lookup_cons] at h
    by_cases e : pc = a
    · subst e
      simp at h
      rw [h]
      exact List.mem_cons_self
    · have e9 : (pc == a) = false := by simpa using e
      rw [e9] at h
      exact List.mem_cons_of_mem _ (mq_lookup_mem l h)
/-- throw new: its four instructions, its words -/
def mq_c68 (N : mq_Nm) (pc : Nat) (o : mq_P) : Bool := match o with
  | (68, [x, index, ic], []) => mq_dk N pc (.new index) 3 && mq_dk N (pc + 3) .dup 1 && mq_dk N (pc + 4) (.invokespecial ic) 3 && mq_dk N (pc + 7) .athrow 1 && decide (N.2.2.2.2 = []) && decide (10 ≤ x) && (match mq_cl[x]? with
    | some r => decide (r.2.2 = 0) && decide (Cond.classLink N.1.cls index r.1 ∈ mq_TT) && decide (Cond.instantiable r.1 6 ∈ mq_TT) && decide (Cond.initialized r.1 ∈ mq_TT) && (Bundle.ownAtoms0 N.1.cls ic r.1 ["java/lang/RuntimeException", "java/lang/Exception"]).all (fun w => decide (w ∈ mq_HW) || decide (w ∈ mq_TT)) && Bundle.fit r.1
    | none => false)
  | _ => false
theorem mq_c68_ok {p : Program} {l : Launch} {G : mq_G} (htr : ∀ e : Env, l.admits e → e.platform.stackTraces = false) {N : mq_Nm} {pc : Nat} {o : mq_P} (h : mq_c68 N pc o = true) : ∃ x ns, o = (68, x :: ns, []) ∧ mq_HT mq_cl mq_TT mq_Zs mq_ks G p l N pc x := by
  unfold mq_c68 at h
  split at h
  next x index ic =>
    simp only [Bool.and_eq_true, decide_eq_true_eq] at h
    obtain ⟨⟨⟨⟨⟨⟨hd0, hd1⟩, hd2⟩, hd3⟩, hh⟩, h10⟩, h4⟩ := h
    split at h4
    next r hr =>
      simp only [Bool.and_eq_true, decide_eq_true_eq] at h4
      obtain ⟨⟨⟨⟨⟨g1, g2⟩, g3⟩, g4⟩, g5⟩, g6⟩ := h4
      obtain ⟨X, T, n⟩ := r
      have g1' : n = 0 := g1
      subst g1'
      refine ⟨x, _, rfl, mq_HT_of htr (mq_dk_ok hd0) (mq_dk_ok hd1) (mq_dk_ok hd2) (mq_dk_ok hd3) hh hr ?_ g2 g3 g4 (names := ["java/lang/RuntimeException", "java/lang/Exception"]) (fun w hw => ?_) g6 ?_ (by decide)⟩
      · have : x < mq_cl.length := (List.getElem?_eq_some_iff.mp hr).1
        exact Nat.lt_of_lt_of_le this (by decide)
      · have := List.all_eq_true.mp g5 w hw
        rw [Bool.or_eq_true, decide_eq_true_eq, decide_eq_true_eq] at this
        exact this.symm
      · intro m hm
        simp only [List.mem_cons, List.not_mem_nil, or_false] at hm
        rcases hm with rfl | rfl <;> decide +kernel
    · cases h4
  · cases h
set_option maxRecDepth 100000 in
theorem mq_thr : (mq_ZZ.all fun q => q.1.2.2.all fun x => !decide (x.2.1 = 68) || mq_c68 q.2 x.1 x.2) = true := by decide +kernel
