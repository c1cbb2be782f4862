/-! THE CHECKER: writing; lengths; copies. -/
section VCW
variable (G : mz_G)
def mz_tf (t a : Nat) : Bool := match t, a with
  | 0, 0 => true
  | 1, 0 => true
  | 2, 2 => true
  | 3, 1 => true
  | _, _ => false
theorem mz_tf_ok {ρ : Nat → Int} {t : Nat} {a : mz_V} {v : Value} (h : mz_tf t a.1 = true) (hv : mz_gv G ρ a v) (hb : Nat.beq t 1 = true → a.1 = 0 → ∃ x, v = .int x ∧ (x = 0 ∨ x = 1)) : mq_fit t v = true := by
  obtain ⟨a1, g, e⟩ := a
  unfold mz_tf at h
  split at h
  · next h1 =>
    cases h1
    obtain ⟨x, rfl, _⟩ := mz_gv_i G hv
    rfl
  · next h1 =>
    cases h1
    obtain ⟨x, rfl, hx⟩ := hb rfl rfl
    exact decide_eq_true hx
  · next h1 =>
    cases h1
    obtain ⟨x, rfl, _⟩ := mz_gv_l G hv
    rfl
  · next h1 =>
    cases h1
    obtain ⟨x, rfl, _⟩ := mz_gv_r G hv
    rfl
  · cases h
def mz_put : mz_F := fun _ ns _ k hs => match ns, k.2.1 with
  | n :: ci :: j :: t :: _, a :: (1, g, _) :: r => bif mz_all G g (fun c => bif Nat.beq c.1 ci then Nat.blt j c.2.1 else false) then bif mz_tf t a.1 then (match mz_wr G g ((j : Int), []) a (Nat.beq t 1) k hs with
      | some (es, hs') => some ([(n, (k.1, r, es, k.2.2.2))], hs')
      | none => none) else none else none
  | _, _ => none
theorem mz_put_ok : mz_sd G (mz_put G) mq_o_put := by
  intro n0 ns cs k hs ss hs' ρ L st M z u h hg hm
  unfold mz_put at h
  split at h
  · next n ci j t ns' a g le r hk =>
    obtain ⟨p, h⟩ := mz_bif4 h
    obtain ⟨p1, h⟩ := mz_bif4 h
    split at h
    · next es hs2 hw =>
      cases h
      have hst := hg.2.1
      rw [hk] at hst
      obtain ⟨v, r1, rfl, hv, hr1⟩ := mz_gs_c G hst
      obtain ⟨v2, r2, rfl, hv2, hr2⟩ := mz_gs_c G hr1
      obtain ⟨b, rfl, hb, -⟩ := mz_gv_r G hv2
      obtain ⟨c, hc, hp⟩ := mz_all_ok G p hb
      obtain ⟨hp1, hp2⟩ := mz_bif hp
      obtain ⟨m1, m2, m3⟩ := hm b c hc
      have hj : j < c.2.1 := Nat.le_of_ble_eq_true hp2
      obtain ⟨w1, w2, w3, w4, w5⟩ := mz_wr_ok G hw hg hm hb hc (i := j) (Int.add_zero _) hj hv
      have hci : c.1 = ci := Nat.eq_of_beq_eq_true hp1
      have hfit := mz_tf_ok G p1 hv w4
      show mz_so G n0 z u ρ M (if (M b).1 = ci ∧ j < (M b).2.length ∧ mq_fit t v = true then mq_nx n L r2 (va_up M b (ci, (M b).2.set j v), z, u) else none) _
      rw [if_pos ⟨m1.trans hci, by omega, hfit⟩]
      rw [hci] at w1 w2 w3
      exact ⟨n, L, r2, _, _, ρ, rfl, List.mem_cons_self .., ⟨hg.1, hr2, w1, hg.2.2.2⟩, fun _ _ => rfl, w2, w3⟩
    · cases h
  · cases h
def mz_ast : mz_F := fun _ ns _ k hs => match ns, k.2.1, hs with
  | [n, kind], a :: (0, _, ix) :: (1, g, le) :: r, h1 :: h2 :: hs => bif mz_all G g (fun c => Nat.beq c.1 kind) then bif Nat.blt kind 70 then bif mz_pv k.2.2.2.1 h1 ix then bif mz_pv k.2.2.2.1 h2 (mz_add (mz_add (-1, []) le) (mz_mul (-1) ix)) then bif mz_tf (mq_ak kind) a.1 then (match mz_wr G g ix a (Nat.beq (mq_ak kind) 1) k hs with
      | some (es, hs') => some ([(n, (k.1, r, es, k.2.2.2))], hs')
      | none => none) else none else none else none else none else none
  | _, _, _ => none
theorem mz_ast_ok : mz_sd G (mz_ast G) mq_o_ast := by
  intro n0 ns cs k hs ss hs' ρ L st M z u h hg hm
  unfold mz_ast at h
  split at h
  · next n kind a gi ix g le r h1 h2 hs hk =>
    obtain ⟨p, h⟩ := mz_bif4 h
    obtain ⟨p70, h⟩ := mz_bif4 h
    obtain ⟨p1, h⟩ := mz_bif4 h
    obtain ⟨p2, h⟩ := mz_bif4 h
    obtain ⟨p3, h⟩ := mz_bif4 h
    split at h
    · next es hs2 hw =>
      cases h
      have hst := hg.2.1
      rw [hk] at hst
      obtain ⟨v, r1, rfl, hv, hr1⟩ := mz_gs_c G hst
      obtain ⟨vi, r2, rfl, hvi, hr2⟩ := mz_gs_c G hr1
      obtain ⟨X, rfl, hX⟩ := mz_gv_i G hvi
      obtain ⟨v2, r3, rfl, hv2, hr3⟩ := mz_gs_c G hr2
      obtain ⟨b, rfl, hb, c', hc', hle⟩ := mz_gv_r G hv2
      obtain ⟨c, hc, hp⟩ := mz_all_ok G p hb
      have hcc : c' = c := Option.some.inj (hc'.symm.trans hc)
      rw [hcc] at hle
      obtain ⟨m1, m2, m3⟩ := hm b c hc
      have q1 := mz_pv_spec hg.2.2.2 p1
      have q2 := mz_pv_spec hg.2.2.2 p2
      rw [mz_add_ev, mz_m1, mz_ng, ← hle] at q2
      obtain ⟨i, hi⟩ := Int.eq_ofNat_of_zero_le q1
      obtain ⟨hcl, hn0⟩ := mz_clamp (hX.trans hi)
      obtain ⟨w1, w2, w3, w4, w5⟩ := mz_wr_ok G hw hg hm hb hc hi (by omega) hv
      have hci : c.1 = kind := Nat.eq_of_beq_eq_true hp
      have hfit := mz_tf_ok G p3 hv w4
      show mz_so G n0 z u ρ M (if (M b).1 = kind ∧ ¬ X < 0 ∧ X.toNatClampNeg < (M b).2.length ∧ mq_fit (mq_ak kind) v = true ∧ (kind < 70 ∨ mq_rk M kind v = true) then mq_nx n L r3 (va_up M b (kind, (M b).2.set X.toNatClampNeg v), z, u) else none) _
      rw [if_pos ⟨m1.trans hci, hn0, by omega, hfit, .inl (Nat.le_of_ble_eq_true p70)⟩, hcl]
      rw [hci] at w1 w2 w3
      exact ⟨n, L, r3, _, _, ρ, rfl, List.mem_cons_self .., ⟨hg.1, hr3, w1, hg.2.2.2⟩, fun _ _ => rfl, w2, w3⟩
    · cases h
  · cases h
def mz_gets : mz_F := fun _ ns _ k hs => match ns with
  | n :: a :: _ => bif (G.2.1 a).elem a then (match mz_ln G a with
      | some e => some ([(n, (k.1, (1, a, e) :: k.2.1, k.2.2))], hs)
      | none => none) else none
  | _ => none
theorem mz_gets_ok : mz_sd G (mz_gets G) mq_o_gets := by
  intro n0 ns cs k hs ss hs' ρ L st M z u h hg hm
  unfold mz_gets at h
  split at h
  · next n a ns' =>
    obtain ⟨p, h⟩ := mz_bif4 h
    split at h
    · next e he =>
      cases h
      have ha := List.elem_iff.mp p
      exact mz_so1 G (n := n) (L := L) (st := .ref a :: st) ⟨hg.1, ⟨⟨ha, mz_ln_ok G he ha⟩, hg.2.1⟩, hg.2.2⟩ (fun _ _ => rfl) hm
    · cases h
  · cases h
def mz_alen : mz_F := fun _ ns _ k hs => match ns, k.2.1, hs with
  | [n], (1, g, le) :: r, h :: hs => bif mz_all G g (fun c => mq_isarr c.1) then bif mz_pv k.2.2.2.1 h (mz_add (2147483647, []) (mz_mul (-1) le)) then some ([(n, (k.1, (0, 0, le) :: r, k.2.2))], hs) else none else none
  | _, _, _ => none
theorem mz_alen_ok : mz_sd G (mz_alen G) mq_o_alen := by
  intro n0 ns cs k hs ss hs' ρ L st M z u h hg hm
  unfold mz_alen at h
  split at h
  · next n g le r h1 hs hk =>
    obtain ⟨p, h⟩ := mz_bif4 h
    obtain ⟨p1, h⟩ := mz_bif4 h
    cases h
    have hst := hg.2.1
    rw [hk] at hst
    obtain ⟨v, r1, rfl, hv, hr1⟩ := mz_gs_c G hst
    obtain ⟨b, rfl, hb, c', hc', hle⟩ := mz_gv_r G hv
    obtain ⟨c, hc, hp⟩ := mz_all_ok G p hb
    have hcc : c' = c := Option.some.inj (hc'.symm.trans hc)
    rw [hcc] at hle
    obtain ⟨m1, m2, m3⟩ := hm b c hc
    have q1 := mz_pv_hi hg.2.2.2 p1
    show mz_so G n0 z u ρ M (if mq_isarr (M b).1 = true then mq_nx n L (.int (Int32.ofNat (M b).2.length) :: r1) (M, z, u) else none) _
    rw [if_pos (by rw [m1]; exact hp)]
    refine mz_so1 G ⟨hg.1, ⟨?_, hr1⟩, hg.2.2⟩ (fun _ _ => rfl) hm
    show (Int32.ofNat (M b).2.length).toInt = mz_ev ρ le
    rw [Int32.toInt_ofNat_of_lt (by omega), m2]
    exact hle
  · cases h
theorem mz_min_ok : mz_sd G mz_min mq_o_min := by
  intro n0 ns cs k hs ss hs' ρ L st M z u h hg hm
  unfold mz_min at h
  split at h
  · next n ns' gy y gx x r hk =>
    obtain ⟨p, h⟩ := mz_bif4 h
    split at h
    · next ks hs1 hk1 =>
      split at h
      · next ks' hs2 hk2 =>
        cases h
        have hst := hg.2.1
        rw [hk] at hst
        obtain ⟨v, r1, rfl, hv, hr1⟩ := mz_gs_c G hst
        obtain ⟨Y, rfl, hY⟩ := mz_gv_i G hv
        obtain ⟨w, r2, rfl, hw, hr2⟩ := mz_gs_c G hr1
        obtain ⟨X, rfl, hX⟩ := mz_gv_i G hw
        have hwt : mq_wt r2 ≤ 8 := by
          have h1 := mz_wt_le G _ _ hr2
          have h2 := Nat.le_of_ble_eq_true p
          omega
        show mz_so G n0 z u ρ M (if mq_wt r2 ≤ 8 then mq_nx n L (.int (if Y < X then Y else X) :: r2) (M, z, u) else none) _
        rw [if_pos hwt]
        have e1 : mz_ev ρ (mz_add x (mz_mul (-1) y)) = X.toInt - Y.toInt := by rw [mz_add_ev, mz_ng, ← hX, ← hY]; omega
        have e2 : mz_ev ρ (mz_add y (mz_mul (-1) x)) = Y.toInt - X.toInt := by rw [mz_add_ev, mz_ng, ← hX, ← hY]; omega
        by_cases hlt : Y < X
        · rw [if_pos hlt]
          rw [Int32.lt_iff_toInt_lt] at hlt
          obtain ⟨k', hk', g'⟩ := mz_br_ok G hk1 (ρ := ρ) (mz_one (by rw [mz_m1, e1]; omega)) L _ M hg
          exact ⟨n, L, .int Y :: r2, M, _, ρ, rfl, List.mem_append_left _ (List.mem_map.mpr ⟨k', hk', rfl⟩), ⟨g'.1, ⟨hY, hr2⟩, g'.2.2⟩, fun _ _ => rfl, hm, mz_same_refl G⟩
        · rw [if_neg hlt]
          rw [Int32.lt_iff_toInt_lt] at hlt
          obtain ⟨k', hk', g'⟩ := mz_br_ok G hk2 (ρ := ρ) (mz_one (by rw [e2]; omega)) L _ M hg
          exact ⟨n, L, .int X :: r2, M, _, ρ, rfl, List.mem_append_right _ (List.mem_map.mpr ⟨k', hk', rfl⟩), ⟨g'.1, ⟨hX, hr2⟩, g'.2.2⟩, fun _ _ => rfl, hm, mz_same_refl G⟩
      · cases h
    · cases h
  · cases h
/-! copies between arrays of numbers -/
def mz_uni (c : mz_Ce) : Option (Int × Int) := match c with
  | (64, _, 1, [(0, lo, hi)]) => some (lo, hi)
  | _ => none
def mz_copy : mz_F := fun _ ns _ k hs => match ns, k.2.1, hs with
  | n :: _, (0, _, c) :: (0, _, dp) :: (1, gb, lb) :: (0, _, sp) :: (1, ga, la) :: r, h1 :: h2 :: h3 :: h4 :: h5 :: hs => bif Nat.ble r.length 4 then
    bif mz_pv k.2.2.2.1 h1 c then bif mz_pv k.2.2.2.1 h2 dp then bif mz_pv k.2.2.2.1 h3 sp then bif mz_pv k.2.2.2.1 h4 (mz_add la (mz_add (mz_mul (-1) sp) (mz_mul (-1) c))) then bif mz_pv k.2.2.2.1 h5 (mz_add lb (mz_add (mz_mul (-1) dp) (mz_mul (-1) c))) then
    (match mz_hd G gb with
      | some (cb, _) => match mz_uni cb with
        | some (lo, hi) => bif mz_all G gb (fun c' => match mz_uni c' with
            | some (lo', hi') => bif mz_le0 (lo - lo') then mz_le0 (hi' - hi) else false
            | none => false) then bif mz_all G ga (fun c' => match mz_uni c' with
            | some (lo', hi') => bif mz_le0 (lo' - lo) then mz_le0 (hi - hi') else false
            | none => false) then bif (G.2.1 gb).all (fun b => bif G.2.2.2.1 b then false else true) then bif mz_not G G.2.2.1 gb (0, [(0, 1)]) then bif mz_not G G.2.2.2.2 gb (0, [(0, 1)]) then some ([(n, (k.1, r, k.2.2))], hs) else none else none else none else none else none
        | none => none
      | none => none) else none else none else none else none else none else none
  | _, _, _ => none
theorem mz_uni_ok {c : mz_Ce} {lo hi : Int} (h : mz_uni c = some (lo, hi)) : c.1 = 64 ∧ ∀ i, mz_at c i = (0, lo, hi) := by
  unfold mz_uni at h
  split at h
  · cases h
    refine ⟨rfl, fun i => ?_⟩
    show [((0 : Nat), lo, hi)].getD (i % 1) (9, 0, 0) = _
    rw [Nat.mod_one]
    rfl
  · cases h
theorem mz_cpy_g {f g : List Value} {sp dp n j : Nat} {v : Value} (h : (mq_cpy f g sp dp n)[j]? = some v) : v ∈ f ∨ v ∈ g := by
  have hm := List.mem_of_getElem? h
  unfold mq_cpy at hm
  rcases List.mem_append.mp hm with hm | hm
  · rcases List.mem_append.mp hm with hm | hm
    · exact .inr (List.mem_of_mem_take hm)
    · exact .inl (List.mem_of_mem_drop (List.mem_of_mem_take hm))
  · exact .inr (List.mem_of_mem_drop hm)
theorem mz_cpy_len {f g : List Value} {sp dp n : Nat} (h1 : sp + n ≤ f.length) (h2 : dp + n ≤ g.length) : (mq_cpy f g sp dp n).length = g.length := by
  unfold mq_cpy
  rw [List.length_append, List.length_append, List.length_take, List.length_take, List.length_drop, List.length_drop]
  omega
theorem mz_copy_ok : mz_sd G (mz_copy G) mq_o_copy := by
  intro n0 ns cs k hs ss hs' ρ L st M z u h hg hm
  unfold mz_copy at h
  split at h
  · next n ns' gc c gd dp gb lb gsp sp ga la r h1 h2 h3 h4 h5 hs hk =>
    obtain ⟨p0, h⟩ := mz_bif4 h
    obtain ⟨p1, h⟩ := mz_bif4 h
    obtain ⟨p2, h⟩ := mz_bif4 h
    obtain ⟨p3, h⟩ := mz_bif4 h
    obtain ⟨p4, h⟩ := mz_bif4 h
    obtain ⟨p5, h⟩ := mz_bif4 h
    split at h
    · next cb ob hh =>
      split at h
      · next lo hi hu =>
        obtain ⟨a1, h⟩ := mz_bif4 h
        obtain ⟨a2, h⟩ := mz_bif4 h
        obtain ⟨a3, h⟩ := mz_bif4 h
        obtain ⟨a4, h⟩ := mz_bif4 h
        obtain ⟨a5, h⟩ := mz_bif4 h
        cases h
        have hst := hg.2.1
        rw [hk] at hst
        obtain ⟨v1, r1, rfl, hv1, hr1⟩ := mz_gs_c G hst
        obtain ⟨C, rfl, hC⟩ := mz_gv_i G hv1
        obtain ⟨v2, r2, rfl, hv2, hr2⟩ := mz_gs_c G hr1
        obtain ⟨D, rfl, hD⟩ := mz_gv_i G hv2
        obtain ⟨v3, r3, rfl, hv3, hr3⟩ := mz_gs_c G hr2
        obtain ⟨b, rfl, hb, cb', hcb', hlb⟩ := mz_gv_r G hv3
        obtain ⟨v4, r4, rfl, hv4, hr4⟩ := mz_gs_c G hr3
        obtain ⟨S, rfl, hS⟩ := mz_gv_i G hv4
        obtain ⟨v5, r5, rfl, hv5, hr5⟩ := mz_gs_c G hr4
        obtain ⟨a, rfl, ha, ca', hca', hla⟩ := mz_gv_r G hv5
        have q1 := mz_pv_spec hg.2.2.2 p1
        have q2 := mz_pv_spec hg.2.2.2 p2
        have q3 := mz_pv_spec hg.2.2.2 p3
        have q4 := mz_pv_spec hg.2.2.2 p4
        have q5 := mz_pv_spec hg.2.2.2 p5
        rw [mz_add_ev, mz_add_ev, mz_ng, mz_ng, ← hla] at q4
        rw [mz_add_ev, mz_add_ev, mz_ng, mz_ng, ← hlb] at q5
        obtain ⟨nc, hnc⟩ := Int.eq_ofNat_of_zero_le q1
        obtain ⟨nd, hnd⟩ := Int.eq_ofNat_of_zero_le q2
        obtain ⟨nsp, hns⟩ := Int.eq_ofNat_of_zero_le q3
        obtain ⟨c1, c2⟩ := mz_clamp (hC.trans hnc)
        obtain ⟨d1, d2⟩ := mz_clamp (hD.trans hnd)
        obtain ⟨s1, s2⟩ := mz_clamp (hS.trans hns)
        obtain ⟨mb1, mb2, mb3⟩ := hm b cb' hcb'
        obtain ⟨ma1, ma2, ma3⟩ := hm a ca' hca'
        obtain ⟨cb2, hcb2, hpb⟩ := mz_all_ok G a1 hb
        have hcc : cb2 = cb' := Option.some.inj (hcb2.symm.trans hcb')
        rw [hcc] at hpb
        obtain ⟨ca2, hca2, hpa⟩ := mz_all_ok G a2 ha
        have hca : ca2 = ca' := Option.some.inj (hca2.symm.trans hca')
        rw [hca] at hpa
        have hwt : mq_wt r5 ≤ 8 := by
          have h1 := mz_wt_le G _ _ hr5
          have h2 := Nat.le_of_ble_eq_true p0
          omega
        split at hpb
        · next lob hib hub =>
          split at hpa
          · next loa hia hua =>
            obtain ⟨kb, hatb⟩ := mz_uni_ok hub
            obtain ⟨ka, hata⟩ := mz_uni_ok hua
            obtain ⟨x1, x2⟩ := mz_bif hpb
            obtain ⟨x3, x4⟩ := mz_bif hpa
            have x1 := mz_le0_spec x1
            have x2 := mz_le0_spec x2
            have x3 := mz_le0_spec x3
            have x4 := mz_le0_spec x4
            show mz_so G n0 z u ρ M (if mq_wt r5 ≤ 8 ∧ (M a).1 = 64 ∧ (M b).1 = 64 ∧ ¬ C < 0 ∧ ¬ D < 0 ∧ ¬ S < 0 ∧ S.toNatClampNeg + C.toNatClampNeg ≤ (M a).2.length ∧ D.toNatClampNeg + C.toNatClampNeg ≤ (M b).2.length then mq_nx n L r5 (va_up M b (64, mq_cpy (M a).2 (M b).2 S.toNatClampNeg D.toNatClampNeg C.toNatClampNeg), z, u) else none) _
            rw [c1, d1, s1, if_pos ⟨hwt, ma1.trans ka, mb1.trans kb, c2, d2, s2, by omega, by omega⟩]
            have hnot := a4
            have hne : ∀ l : List (Nat × Nat), mz_not G l gb (0, [(0, 1)]) = true → ∀ t ∈ l, t.1 ≠ b := by
              intro l hnl t ht e1
              have := List.all_eq_true.mp hnl t ht
              rw [e1, List.elem_iff.mpr hb] at this
              cases this
            have hex : mz_same G M (va_up M b (64, mq_cpy (M a).2 (M b).2 nsp nd nc)) := by
              refine ⟨fun d hd => ?_, fun t ht => by rw [va_up_ne _ _ (hne _ a5 t ht)]⟩
              have := List.all_eq_true.mp a3 b hb
              refine va_up_ne _ _ ?_
              rintro rfl
              rw [hd] at this
              cases this
            refine ⟨n, L, r5, _, _, ρ, rfl, List.mem_cons_self .., ⟨hg.1, hr5, ?_, hg.2.2.2⟩, fun _ _ => rfl, ?_, hex⟩
            · have htr : ∀ t ∈ G.2.2.1, t.1 ≠ b := hne _ hnot
              have key : ∀ (ts : List (Nat × Nat)) (es : List mz_E), (∀ t ∈ ts, t.1 ≠ b) → mz_gt G ρ M ts es → mz_gt G ρ (va_up M b (64, mq_cpy (M a).2 (M b).2 nsp nd nc)) ts es := by
                intro ts
                induction ts with
                | nil => intro es _ h; cases es with
                  | nil => exact h
                  | cons x es => exact h
                | cons t ts ih =>
                  intro es hn h
                  cases es with
                  | nil => exact h
                  | cons x es =>
                    refine ⟨?_, ih es (fun t ht => hn t (List.mem_cons_of_mem _ ht)) h.2⟩
                    have h0 := h.1
                    unfold mz_gt1 at h0 ⊢
                    rw [va_up_ne _ _ (hn t (List.mem_cons_self ..))]
                    exact h0
              exact key _ _ htr hg.2.2.1
            · intro d cd hcd
              by_cases hdb : d = b
              · subst hdb
                have hcd' : cd = cb' := Option.some.inj (hcd.symm.trans hcb')
                rw [hcd', va_up_self]
                refine ⟨kb.symm, ?_, ?_⟩
                · show (mq_cpy (M a).2 (M d).2 nsp nd nc).length = _
                  rw [mz_cpy_len (by omega) (by omega)]; exact mb2
                · intro j w hw
                  rw [hatb j]
                  rcases mz_cpy_g hw with hw | hw
                  · obtain ⟨i, hi⟩ := List.getElem?_of_mem hw
                    have hok := ma3 i w hi
                    rw [hata i] at hok
                    cases w with
                    | int x =>
                      have h1 : loa ≤ x.toInt := hok.1
                      have h2 : x.toInt ≤ hia := hok.2
                      show lob ≤ x.toInt ∧ x.toInt ≤ hib
                      omega
                    | _ => exact hok.elim
                  · obtain ⟨i, hi⟩ := List.getElem?_of_mem hw
                    have hok := mb3 i w hi
                    rw [hatb i] at hok
                    exact hok
              · rw [va_up_ne _ _ hdb]
                exact hm d cd hcd
          · cases hpa
        · cases hpb
      · cases h
    · cases h
  · cases h
/-- the instructions -/
def mz_ops : List (Option mz_F) := [
  some mz_iconst, some mz_lconst, some mz_iload, some mz_lload, some mz_aload, some mz_istore, none, some mz_astore, some mz_iinc, -- 0 .. 8
  some mz_iadd, some mz_isub, some mz_imul, some mz_iand, some mz_ior, some mz_ixor, some mz_ishl, some mz_ishr, some mz_iushr, some mz_idiv, some mz_irem, none, -- 9 .. 20
  some mz_bl, some mz_bl, some mz_bl, some mz_land, some mz_bl, some mz_bl, some mz_sl, some mz_sl, some mz_sl, some mz_lcmp, some mz_i2l, some mz_l2i, -- 21 .. 32
  some mz_dup, some mz_pop, none, none, some mz_dup2, -- 33 .. 37
  some (mz_if1 0 1), some (mz_if1 1 0), some (mz_if1 2 3), some (mz_if1 3 2), some (mz_if1 4 5), some (mz_if1 5 4), -- 38 .. 43
  some (mz_if2 0 1), some (mz_if2 1 0), some (mz_if2 2 3), some (mz_if2 3 2), some (mz_if2 4 5), some (mz_if2 5 4), -- 44 .. 49
  some mz_goto, some mz_switch, some (mz_get G), some (mz_put G), some (mz_gets G), none, none, some (mz_alen G), some (mz_ald G), some (mz_ast G), -- 50 .. 59
  none, none, none, some mz_min, none, some (mz_copy G)] -- 60 .. 65
def mz_op (o : Nat) : Option mz_F := match (mz_ops G)[o]? with
  | some x => x
  | none => none
def mz_zip : List (Option mz_F) → List mq_E → Prop
  | some f :: fs, g :: gs => mz_sd G f g ∧ mz_zip fs gs
  | none :: fs, _ :: gs => mz_zip fs gs
  | [], _ => True
  | _, [] => False
theorem mz_zip_ok : ∀ (fs : List (Option mz_F)) (gs : List mq_E), mz_zip G fs gs → ∀ (i : Nat) (f : mz_F), fs[i]? = some (some f) → ∃ g, gs[i]? = some g ∧ mz_sd G f g := by
  intro fs
  induction fs with
  | nil => intro gs _ i f h; cases h
  | cons x fs ih =>
    intro gs hz i f h
    cases gs with
    | nil => cases x <;> exact hz.elim
    | cons g gs =>
      cases i with
      | zero =>
        cases h
        exact ⟨g, rfl, hz.1⟩
      | succ i =>
        cases x with
        | none => exact ih gs hz i f h
        | some y => exact ih gs hz.2 i f h
theorem mz_op_ok {o : Nat} {f : mz_F} (h : mz_op G o = some f) : ∃ g, mq_ops[o]? = some g ∧ mz_sd G f g := by
  refine mz_zip_ok G (mz_ops G) mq_ops ?_ o f ?_
  · exact ⟨mz_iconst_ok G, mz_lconst_ok G, mz_iload_ok G, mz_lload_ok G, mz_aload_ok G, mz_istore_ok G, mz_astore_ok G, mz_iinc_ok G, mz_iadd_ok G, mz_isub_ok G, mz_imul_ok G, mz_iand_ok G, mz_ior_ok G, mz_ixor_ok G, mz_ishl_ok G, mz_ishr_ok G, mz_iushr_ok G, mz_idiv_ok G, mz_irem_ok G, mz_bl_ok G, mz_bl_ok G, mz_bl_ok G, mz_land_ok G, mz_bl_ok G, mz_bl_ok G, mz_sl_ok G, mz_sl_ok G, mz_sl_ok G, mz_lcmp_ok G, mz_i2l_ok G, mz_l2i_ok G, mz_dup_ok G, mz_pop_ok G, mz_dup2_ok G, mz_i38 G, mz_i39 G, mz_i40 G, mz_i41 G, mz_i42 G, mz_i43 G, mz_i44 G, mz_i45 G, mz_i46 G, mz_i47 G, mz_i48 G, mz_i49 G, mz_goto_ok G, mz_switch_ok G, mz_get_ok G, mz_put_ok G, mz_gets_ok G, mz_alen_ok G, mz_ald_ok G, mz_ast_ok G, mz_min_ok G, mz_copy_ok G, trivial⟩
  · unfold mz_op at h
    split at h
    · next x hx => rw [hx, h]
    · cases h
end VCW
