/-! From the law's entry to the mini-machine: the classes' words, the start's memory, the end. -/
theorem mq_zipall {α β : Type} {l : List α} {l2 : List β} {f : α → β → Bool} (hl : l.length = l2.length) (h : ((l.zip l2).all fun x => f x.1 x.2) = true) : ∀ a ∈ l, ∃ b, f a b = true := by
  intro a ha
  obtain ⟨i, hi, rfl⟩ := List.mem_iff_getElem.mp ha
  refine ⟨l2[i]'(by omega), ?_⟩
  have hz : i < (l.zip l2).length := by rw [List.length_zip]; omega
  have := List.getElem_mem hz
  rw [List.getElem_zip] at this
  exact List.all_eq_true.mp h _ this
def mq_cp : List (List Nat × Nat × Nat) := [([2092, 2094, 2096, 2098, 2100, 2102, 2104, 2106, 2108, 2110, 2112, 2114, 2116, 2118, 2120], 1023, 15), ([1231, 1233, 1235, 1237, 1239, 2001, 2003, 2005, 2007, 2009, 2011], 1177, 11), ([2066, 2068, 2070, 2072, 2074], 2051, 5), ([1048, 1050, 1052, 1054], 1037, 4), ([1161, 1163, 1165, 1167, 1169, 1171, 1173], 1143, 7), ([2036, 2038, 2040, 2042, 2044, 2046, 2048], 2014, 7), ([1121, 1123, 1125, 1127, 1129, 1131, 1133], 1107, 7), ([1199, 1201, 1203, 1205, 1207, 1209, 1211], 1183, 7), ([1081, 1083, 1085, 1087, 1089, 1091, 1093, 1095, 1097, 1099, 1101, 1103], 1031, 12), ([5002, 5004, 5006, 5008, 5010, 5012, 5014, 5016, 5018, 5020, 5022, 5024, 5026, 5028, 5030, 5032, 5034, 5036, 5038, 5040, 5042, 5044, 5046, 5048, 5050, 5052, 5054, 5056, 5058, 5060, 5062, 5064, 5066, 5068, 5070, 5072, 5074, 5076, 5078, 5080, 5082, 5084, 5086, 5088, 5090, 5092, 5094, 5096, 5098, 5100, 5102, 5104, 5106, 5108, 5110, 5112, 5114, 5116, 5118, 5120, 5122, 5124, 5126, 5128, 5130], 4172, 65), ([], 3173, 6), ([], 4066, 6), ([], 4081, 6), ([], 4096, 6), ([], 4111, 6)]
def mq_cf (r : vw_C) (q : List Nat × Nat × Nat) : Bool := decide ((u_ws r.1 r.2.1 r.2.2).length = q.1.length) && (((u_ws r.1 r.2.1 r.2.2).zip q.1).all fun x => (fun w n => mq_isw n w) x.1 x.2) && ((List.range r.2.2).all fun k => (parseFieldDescriptor (r.2.1 k).2.2.1).isSome) && ((List.range r.2.2).all fun a => (List.range r.2.2).all fun b => decide (a = b) || decide ((r.2.1 a).2.1 ≠ (r.2.1 b).2.1)) && mq_isw q.2.1 (.instantiable r.1 q.2.2)
set_option maxRecDepth 100000 in
theorem mq_clk : ((mq_cl.zip mq_cp).all fun x => mq_cf x.1 x.2) = true := by decide +kernel
theorem mq_cl_ok {r : vw_C} (h : r ∈ mq_cl) : ((∀ w ∈ u_ws r.1 r.2.1 r.2.2, w ∈ mq_TT) ∧ (∃ ty0 : Nat → FieldType, ∀ k, k < r.2.2 → parseFieldDescriptor (r.2.1 k).2.2.1 = some (ty0 k)) ∧ ∀ a, a < r.2.2 → ∀ b, b < r.2.2 → a ≠ b → (r.2.1 a).2.1 ≠ (r.2.1 b).2.1) ∧ ∃ n, Cond.instantiable r.1 n ∈ mq_TT := by
  obtain ⟨q, hq⟩ := mq_zipall (f := mq_cf) rfl mq_clk r h
  unfold mq_cf at hq
  simp only [Bool.and_eq_true] at hq
  obtain ⟨⟨⟨⟨h1, h2⟩, h3⟩, h4⟩, h5⟩ := hq
  refine ⟨⟨fun w hw => ?_, ⟨fun k => (parseFieldDescriptor (r.2.1 k).2.2.1).getD .int, fun k hk => ?_⟩, fun a ha b hb hab => ?_⟩, q.2.2, mq_isw_in h5⟩
  · obtain ⟨n, hn⟩ := mq_zipall (f := fun w n => mq_isw n w) (of_decide_eq_true h1) h2 w hw
    exact mq_isw_in hn
  · have := List.all_eq_true.mp h3 k (List.mem_range.mpr hk)
    obtain ⟨y, hy⟩ := Option.isSome_iff_exists.mp this
    show parseFieldDescriptor (r.2.1 k).2.2.1 = some ((parseFieldDescriptor (r.2.1 k).2.2.1).getD .int)
    rw [hy]
    rfl
  · have := List.all_eq_true.mp (List.all_eq_true.mp h4 a (List.mem_range.mpr ha)) b (List.mem_range.mpr hb)
    rw [Bool.or_eq_true, decide_eq_true_eq, decide_eq_true_eq] at this
    exact this.resolve_left hab
theorem mq_cls_ok : mq_cls mq_cl mq_TT := fun ci r h => (mq_cl_ok (List.mem_of_getElem? h)).1
section MQT
variable {args : Array Value} {s : State}
theorem mq_arr_prim {ty : FieldType} (hno : ∀ C, ty ≠ .object C) (h : (Cond.arrayClass ty).before args s = true) : ∃ cA, ArrOfT s cA ty ∧ va_RA s cA ty := by
  obtain ⟨cA, k, comp, h1, h2, h3⟩ := Cond.arrayClass_spec h
  refine ⟨cA, fun N z => ⟨fun k h => (by cases h), k, h2, comp, h3⟩, ?_⟩
  cases ty <;> first | exact h1 | exact absurd rfl (hno _)
theorem mq_arr_obj {C : String} (h : (Cond.arrayOver (.object C)).before args s = true) : ∃ cA, ArrOfT s cA (.object C) ∧ va_RA s cA (.object C) := by
  obtain ⟨comp, cA, k, h1, -, h2, h3, h4⟩ := Cond.arrayOver_spec h
  exact ⟨cA, fun N z => ⟨fun k h => (by cases h), k, h2, comp, h3⟩, k, comp, h2, h3, h1, h4⟩
theorem mq_arrs (hts : ∀ w ∈ mq_TT, w.before args s = true) : ∀ k ∈ mq_ks, ∃ cA, ArrOfT s cA (mq_ty mq_cl k) ∧ va_RA s cA (mq_ty mq_cl k) := by
  intro k hk
  simp only [mq_ks, List.mem_cons, List.not_mem_nil, or_false] at hk
  rcases hk with rfl | rfl | rfl | rfl | rfl | rfl
  · exact mq_arr_prim (ty := .int) (by intro C h; cases h) (hts _ (mq_w_in (q := 1057) rfl rfl))
  · exact mq_arr_prim (ty := .boolean) (by intro C h; cases h) (hts _ (mq_w_in (q := 1176) rfl rfl))
  · exact mq_arr_prim (ty := .long) (by intro C h; cases h) (hts _ (mq_w_in (q := 6147) rfl rfl))
  · exact mq_arr_obj (C := "ClassHouse$Archive") (hts _ (mq_w_in (q := 1137) rfl rfl))
  · exact mq_arr_obj (C := "ClassHouse$ClassFile") (hts _ (mq_w_in (q := 1141) rfl rfl))
  · exact mq_arr_obj (C := "ClassHouse$Loader") (hts _ (mq_w_in (q := 1139) rfl rfl))
theorem mq_K_ok (hts : ∀ w ∈ mq_TT, w.before args s = true) : ∃ (D : va_G) (dA : Nat → ClassId), ∀ (old : Nat → Nat) (h0 : Nat), va_K D mq_cl (mq_tys mq_cl mq_ks ((D, dA, old, h0) : mq_G)) s := by
  have hc : ∀ ci : Nat, ∃ q : ClassId × (Nat → Nat), ∀ r, mq_cl[ci]? = some r → u_Kn s r.1 r.2.1 r.2.2 q.1 q.2 := by
    intro ci
    cases hr : mq_cl[ci]? with
    | none => exact ⟨(default, fun _ => 0), fun r h => by cases h⟩
    | some r =>
      obtain ⟨h1, n, h2⟩ := mq_cl_ok (List.mem_of_getElem? hr)
      obtain ⟨cC, iS, h⟩ := u_known (n := n) hts h1.1 (hts _ h2)
      exact ⟨(cC, iS), fun r' h' => by cases h'; exact h⟩
  have ha : ∀ k : Nat, ∃ cA : ClassId, k ∈ mq_ks → ArrOfT s cA (mq_ty mq_cl k) ∧ va_RA s cA (mq_ty mq_cl k) := by
    intro k
    by_cases hk : k ∈ mq_ks
    · obtain ⟨cA, h⟩ := mq_arrs hts k hk
      exact ⟨cA, fun _ => h⟩
    · exact ⟨default, fun h => absurd h hk⟩
  refine ⟨(fun ci => (Classical.choose (hc ci)).1, fun ci => (Classical.choose (hc ci)).2), fun k => Classical.choose (ha k), fun old h0 => ⟨fun ci r hr => Classical.choose_spec (hc ci) r hr, fun k q hk => ?_⟩⟩
  unfold mq_tys at hk
  rw [List.getElem?_map] at hk
  cases hz : mq_ks[k]? with
  | none => rw [hz] at hk; cases hk
  | some k9 =>
    rw [hz] at hk
    cases hk
    exact Classical.choose_spec (ha k9) (List.mem_of_getElem? hz)
end MQT
/-! The start's memory: the script, the order of the marks. -/
def mq_MO : List Value := [.int 16, .int 17, .int 18, .int 0, .int 8, .int 7, .int 9, .int 6, .int 10, .int 5, .int 11, .int 4, .int 12, .int 3, .int 13, .int 2, .int 14, .int 1, .int 15]
def mq_sc (L : Nat) (xs : Nat → Int32) : List Value := (List.range L).map fun j => .int (xs j)
def mq_M0 (L : Nat) (xs : Nat → Int32) : Nat → mq_C := va_up (va_up (fun _ => (999, [])) 1 (60, mq_MO)) 0 (60, mq_sc L xs)
def mq_S0 (L : Nat) (xs : Nat → Int32) : mq_S := (mq_M0 L xs, 8, 0)
theorem mq_sc_get {L : Nat} {xs : Nat → Int32} {j : Nat} (h : j < L) : (mq_sc L xs).getD j .null = .int (xs j) := by
  unfold mq_sc
  rw [List.getD_eq_getElem?_getD, List.getElem?_map, List.getElem?_range h]
  rfl
def mq_FN : List Cond := flatC (Jvm.Cond.and given_1 narrow_1)
set_option maxRecDepth 100000 in
theorem mq_nc_in : (mq_NC.all fun w => decide (w ∈ mq_FN)) = true := by decide +kernel
def mq_MOt : Term := .static "ClassHouse$Unpacker" "MARK_ORDER" "[I"
def mq_MOi : List Int32 := [16, 17, 18, 0, 8, 7, 9, 6, 10, 5, 11, 4, 12, 3, 13, 2, 14, 1, 15]
set_option maxRecDepth 100000 in
theorem mq_mo_in : ((List.range 19).all fun j => decide (Cond.eq (.elem mq_MOt (.int (Int32.ofNat j))) (.int (mq_MOi.getD j 0)) ∈ mq_FN)) = true := by decide +kernel
set_option maxRecDepth 100000 in
theorem mq_mo_l : Cond.eq (.length mq_MOt) (.int (Int32.ofNat 19)) ∈ mq_FN := by decide +kernel
set_option maxRecDepth 100000 in
theorem mq_mo_a : Cond.arrayOf mq_MOt .int ∈ mq_FN := by decide +kernel
set_option maxRecDepth 100000 in
theorem mq_hw_r : (decide (Cond.isRef (.static Bundle.tN "UNASSIGNED_STACK" Bundle.steD) ∈ mq_FN) && decide (Cond.isRef (.static Bundle.tN "SUPPRESSED_SENTINEL" Bundle.listD) ∈ mq_FN)) = true := by decide +kernel
set_option maxRecDepth 100000 in
theorem mq_hw_l : (decide (Cond.laysStatic Bundle.tN "UNASSIGNED_STACK" Bundle.steD ∈ tables_1) && decide (Cond.laysStatic Bundle.tN "SUPPRESSED_SENTINEL" Bundle.listD ∈ tables_1) && decide (Cond.laysStatic "ClassHouse$Unpacker" "MARK_ORDER" "[I" ∈ tables_1) && decide (Cond.initialized "ClassHouse$Unpacker" ∈ tables_1)) = true := by decide +kernel
theorem mq_MO_get {j : Nat} (h : j < 19) : mq_MO.getD j .null = .int (mq_MOi.getD j 0) := by
  have : mq_MO = mq_MOi.map .int := rfl
  rw [this, List.getD_eq_getElem?_getD, List.getD_eq_getElem?_getD, List.getElem?_map]
  have h9 : j < mq_MOi.length := h
  rw [List.getElem?_eq_getElem h9]
  rfl
/-- what holds at the law's entry -/
def mq_At (p : Program) (s : State) (m : MethodId) (meth : Method) (c : Code) (b L : Nat) (xs : Nat → Int32) : Prop :=
  p.tables.exec = Jvm.exec ∧ mq_is mq_n173 s m meth c ∧ (∀ w ∈ lw_tbl, w.before #[Value.ref b] s = true) ∧ va_X b L xs s s.heap ∧ b < s.heap.size ∧ (Jvm.Cond.and given_1 narrow_1).before #[Value.ref b] s = true
set_option maxHeartbeats 4000000 in
theorem mq_enter {p : Program} {e : Env} {s : State} {m : MethodId} {below : List Frame} {meth : Method} {c : Code} {l : Launch} {b L : Nat} {xs : Nat → Int32} (htr : ∀ e : Env, l.admits e → e.platform.stackTraces = false) (C0 : mq_At p s m meth c b L xs) {d : Nat} {R : Room} (hd : d + 12 ≤ R.frames ∧ 64 * d + 300 ≤ R.locals)
    (h : mq_R mq_PP d 173 0 (mq_en mq_PP 173 [.ref 0]) [] (mq_S0 L xs) (fun r S => r = .inl (some (.int 1)) ∧ S.2.1 ≤ R.cells + 8 ∧ S.2.2 ≤ R.slots)) :
    W p l e R s m #[Value.ref b] below meth c s.heap [] 0 0 (fun t => ∃ o, t.status = .running ∧ Ended t below o ∧ o = .returned (some (.int 1)) ∧ Framed s o t [] R.cells R.slots) (entryFrame m ([Value.ref b] : List Value).toArray 7) := by
  obtain ⟨hx, hN, hts, hX, hbl, hgv⟩ := C0
  have hfl := flat_of_before _ hgv
  have hTT : ∀ w ∈ mq_TT, w.before #[Value.ref b] s = true := by
    intro w hw
    rcases List.mem_append.mp hw with h1 | h1
    · exact hts w (List.mem_filter.mp h1).1
    · exact hfl w (of_decide_eq_true (List.all_eq_true.mp mq_nc_in w h1))
  have htab : ∀ w ∈ tables_1, w.before #[Value.ref b] s = true := fun w hw => hts w (List.mem_append_right _ hw)
  obtain ⟨D, dA, hK⟩ := mq_K_ok hTT
  have hl := mq_hw_l
  simp only [Bool.and_eq_true, decide_eq_true_eq] at hl
  obtain ⟨⟨⟨hl1, hl2⟩, hl3⟩, hl4⟩ := hl
  have hr := mq_hw_r
  simp only [Bool.and_eq_true, decide_eq_true_eq] at hr
  obtain ⟨hr1, hr2⟩ := hr
  have hA : ∀ a : Nat, a < s.heap.size → ¬ (fun q => s.heap.size ≤ q) a := fun a ha => Nat.not_le.mpr ha
  obtain ⟨t1, ht1, hT1⟩ := va_Tof (N := 19) (f := fun j => mq_MO.getD j .null) (A := fun q => s.heap.size ≤ q) (by decide) (hfl _ mq_mo_a) (va_eqt (hfl _ mq_mo_l)) (fun j hj => by
    have := va_eqt (hfl _ (of_decide_eq_true (List.all_eq_true.mp mq_mo_in j (List.mem_range.mpr hj))))
    rw [mq_MO_get hj]
    exact this) hA
  have hZ := va_Zof (htab _ hl3) (htab _ hl4) ht1 hA
  let G : mq_G := ((D, dA, (fun a => if a = 0 then b else t1), s.heap.size) : mq_G)
  have hST : mq_St mq_cl mq_TT mq_Zs mq_ks mq_n173 G p s m #[Value.ref b] meth c := by
    refine ⟨hx, hN, hTT, hK _ _, ⟨Nat.le_refl _, s, ?_, rfl, State.WarmedH.refl s, fun _ _ => rfl⟩, ?_⟩
    · intro w hw args
      simp only [mq_HW, List.mem_cons, List.not_mem_nil, or_false] at hw
      rcases hw with rfl | rfl | rfl | rfl
      · exact htab _ hl1
      · exact htab _ hl2
      · exact hfl _ hr1
      · exact hfl _ hr2
    · intro a C n dd hz
      simp only [mq_Zs, List.mem_cons, List.not_mem_nil, or_false, Prod.mk.injEq] at hz
      obtain ⟨rfl, rfl, rfl, rfl⟩ := hz
      exact ⟨fun _ => hZ, fun h8 => absurd h8 (by decide)⟩
  have hOK : mq_ok mq_cl G (mq_S0 L xs) s s.heap := by
    refine ⟨fun k q hq => ?_, rfl, Nat.le_refl _, fun a ha => ?_, fun a ha => ?_, fun a ha => ?_, fun a ha hk => ?_⟩
    · have : k < (mq_ws G (mq_S0 L xs)).length := (List.getElem?_eq_some_iff.mp hq).1
      rw [mq_ws_len] at this
      exact absurd this (Nat.not_lt_zero k)
    · have ha' : 8 ≤ a := ha
      show (mq_M0 L xs a).1 = 999
      unfold mq_M0
      rw [va_up_ne _ _ (by omega), va_up_ne _ _ (by omega)]
    · show (mq_M0 L xs a).1 = 60 ∨ (mq_M0 L xs a).1 = 999
      unfold mq_M0
      by_cases e0 : a = 0
      · subst e0; left; rw [va_up_self]
      · rw [va_up_ne _ _ e0]
        by_cases e1 : a = 1
        · subst e1; left; rw [va_up_self]
        · right; rw [va_up_ne _ _ e1]
    · show (mq_M0 L xs a).1 ≠ 60
      unfold mq_M0
      rw [va_up_ne _ _ (by omega), va_up_ne _ _ (by omega)]
      decide
    · have hk' : (mq_M0 L xs a).1 = 60 := hk
      show G.2.2.1 a < s.heap.size ∧ mq_old (G.2.2.1 a) (mq_M0 L xs a).2.length (fun j => mq_ri ((mq_M0 L xs a).2.getD j .null)) s s.heap
      unfold mq_M0 at hk' ⊢
      by_cases e0 : a = 0
      · subst e0
        rw [va_up_self]
        refine ⟨hbl, ?_⟩
        obtain ⟨scr, k1, k2, k3, k4, k5⟩ := hX
        have hlen : (mq_sc L xs).length = L := by simp [mq_sc]
        show mq_old b (mq_sc L xs).length _ s s.heap
        rw [hlen]
        refine ⟨scr, k1, k2, k3, by omega, by rw [k4], fun j hj => ?_⟩
        rw [k5 j hj]
        show _ = some (Value.int (mq_ri ((mq_sc L xs).getD j .null)))
        rw [mq_sc_get hj]
        rfl
      · rw [va_up_ne _ _ e0] at hk' ⊢
        by_cases e1 : a = 1
        · subst e1
          rw [va_up_self]
          obtain ⟨cell, k1, k2, k3, k4, k5, k6, k7⟩ := hT1
          refine ⟨Nat.not_le.mp k7, cell, k1, k2, k3, k4, k5, fun j hj => ?_⟩
          have hj' : j < 19 := hj
          rw [k6 j hj']
          show some (mq_MO.getD j .null) = some (Value.int (mq_ri (mq_MO.getD j .null)))
          rw [mq_MO_get hj']
          rfl
        · rw [va_up_ne _ _ e1] at hk'
          cases hk'
  obtain ⟨n, ⟨r, S'⟩, hrun, hq⟩ := h
  obtain ⟨rfl, hc, hs⟩ := hq
  rw [lg_entry_eq]
  intro T hT X
  have hen : mq_en mq_PP 173 [.ref 0] = mq_sp [.ref 0] ++ List.replicate (7 - (mq_sp [.ref 0]).length) none := rfl
  obtain ⟨t, hst, f1, f2, f3, ⟨L9, f4, f5⟩, -⟩ := mq_main (G := G) (p := p) (l := l) mq_cls_ok mq_TT_stable (mq_prog_ok htr) n d 173 0 _ _ _ _ _ hrun mq_k173 mq_n173 rfl rfl rfl e R s m #[Value.ref b] below meth c s.heap [] 0 0 _ hST hOK va_S.rf
    (by rw [hen]; exact mq_lr_entry (mq_f G) [.ref 0] (n := 7) (by decide)) (by have h8 : (mq_S0 L xs).2.1 = 8 := rfl; have hc' : S'.2.1 ≤ R.cells + 8 := hc; omega) (by have h8 : (mq_S0 L xs).2.2 = 0 := rfl; have hs' : S'.2.2 ≤ R.slots := hs; omega) hd.1 hd.2 T hT X
  refine ⟨t, hst, .returned (some (.int 1)), f1, f2, rfl, ⟨_, rfl⟩, f3, ?_⟩
  obtain ⟨g1, g2, g3, g4, g5, g6⟩ := f4
  refine ⟨g1, g2, g3, g4, g5, fun a c9 ha => ?_⟩
  obtain ⟨c', k1, k2, k3, k4⟩ := g6 a c9 ha
  refine ⟨c', k1, k2, k3, fun i _ => k4 i (fun hm => ?_)⟩
  have hlt : a < s.heap.size := (Array.getElem?_eq_some_iff.mp ha).1
  exact absurd hlt (Nat.not_lt.mpr (f5 _ hm))
