/-! THE CHECKER: runs. -/
section VCU
variable (G : mz_G) (P : List mq_T) (X : (Nat → mq_C) → Prop)
/-- a call with these arguments -/
def mz_call1 (Cs : List (mz_Q × Nat)) (q : mz_Q) (nb dep pc n j mx : Nat) (as rl : List mz_V) (k : mz_K) (hs : List mz_H) : mz_R := match hs with
  | (id, _) :: hs => match Cs[id]? with
    | some (q2, d2) => bif Nat.beq q2.1 j then bif Nat.blt d2 dep then bif mz_subs q2.2.2.2.2.2 q.2.2.2.2.2 then bif mz_mts G q2.2.1 as then bif q2.2.1.all (fun p => Nat.blt p.1 3) then bif Nat.ble (mz_wd as) mx then bif Nat.ble rl.length 4 then bif mz_wfk nb (k.1, rl, k.2.2) then bif mz_wfl k.2.2.2.2 (as.map (fun a => a.2.2)) then bif decide q2.2.2.2.1.Nodup then (match mz_pvs k.2.2.2.1 (mz_th 0 (as.map (fun a => a.2.2) ++ k.2.2.1)) q2.2.2.1 hs with
        | some hs => mz_ps G P q q2 pc n (k.1, rl, k.2.2) (as.map (fun a => a.2.2)) q2.2.2.2.2.1 hs
        | none => none) else none else none else none else none else none else none else none else none else none else none
    | none => none
  | [] => none
def mz_call (Cs : List (mz_Q × Nat)) (q : mz_Q) (nb dep pc o : Nat) (ns : List Nat) (k : mz_K) (hs : List mz_H) : mz_R := match o, ns with
  | 60, n :: j :: c :: mx :: _ => bif Nat.ble c k.2.1.length then mz_call1 G P Cs q nb dep pc n j mx (k.2.1.take c).reverse (k.2.1.drop c) k hs else none
  | 61, n :: j :: c :: ci :: mx :: _ => match k.2.1.drop c with
    | (1, g, e) :: r => bif mz_all G g (fun c => Nat.beq c.1 ci) then mz_call1 G P Cs q nb dep pc n j mx ((1, g, e) :: (k.2.1.take c).reverse) r k hs else none
    | _ => none
  | _, _ => none
theorem mq_R_imp {P : List mq_T} {d k pc : Nat} {L : mq_L} {st : List Value} {S : mq_S} {Q Q' : (Option Value ⊕ Nat) → mq_S → Prop} (h : mq_R P d k pc L st S Q) (hq : ∀ r S', Q r S' → Q' r S') : mq_R P d k pc L st S Q' := by
  obtain ⟨n, r, hr, hQ⟩ := h
  exact ⟨n, r, hr, hq _ _ hQ⟩
theorem mz_call1_ok {Cs : List (mz_Q × Nat)} {q : mz_Q} {nb dep pc n j mx d' z u : Nat} {as rl : List mz_V} {k : mz_K} {hs hs' : List mz_H} {ss : List (Nat × mz_K)} {ρ0 ρ : Nat → Int} {M0 M : Nat → mq_C} {L : mq_L} {vs rs : List Value} {Q : (Option Value ⊕ Nat) → mq_S → Prop} (htr : ∀ t ∈ G.2.2.1, t.1 < 272) (hC : ∀ c ∈ Cs, c.2 < dep → mz_Ct G P X c.1 c.2) (h : mz_call1 G P Cs q nb dep pc n j mx as rl k hs = some (ss, hs')) (hgl : mz_gl G ρ k.1 L) (hga : mz_gs G ρ as vs) (hgr : mz_gs G ρ rl rs) (hgt : mz_gt G ρ M G.2.2.1 k.2.2.1) (hgf : ∀ f ∈ k.2.2.2.1, 0 ≤ mz_ev ρ f) (hi : mz_iv G X q ρ0 M0 ρ M) (hz : 272 ≤ z) (hd : dep ≤ d' + 1) (hnb : mz_n0 G q ≤ nb)
    (hcov : ∀ (ρ3 : Nat → Int) (S : mq_S) (r : Option Value ⊕ Nat), mz_iv G X q ρ0 M0 ρ3 S.1 → (∀ i, i < nb → ρ3 i = ρ i) → mz_cov G P X q pc n ss ρ0 M0 z u ρ3 L rs r S → Q r S) : mq_R P d' j 0 (mq_en P j vs) [] (M, z, u) Q ∧ mq_wt rs ≤ 8 ∧ (mq_sp vs).length ≤ mx := by
  unfold mz_call1 at h
  split at h
  · next id w hs =>
    split at h
    · next q2 d2 hq2 =>
      obtain ⟨p1, h⟩ := mz_bif4 h
      obtain ⟨p2, h⟩ := mz_bif4 h
      obtain ⟨p3, h⟩ := mz_bif4 h
      obtain ⟨p4, h⟩ := mz_bif4 h
      obtain ⟨p5, h⟩ := mz_bif4 h
      obtain ⟨p6, h⟩ := mz_bif4 h
      obtain ⟨p7, h⟩ := mz_bif4 h
      obtain ⟨p8, h⟩ := mz_bif4 h
      obtain ⟨p9, h⟩ := mz_bif4 h
      obtain ⟨p10, h⟩ := mz_bif4 h
      split at h
      · next hs2 hpre =>
        have hj : q2.1 = j := Nat.eq_of_beq_eq_true p1
        have hd2 : d2 < dep := Nat.le_of_ble_eq_true p2
        have hwt : mq_wt rs ≤ 8 := by
          have h1 := mz_wt_le G _ _ hgr
          have h2 := Nat.le_of_ble_eq_true p7
          omega
        have hwd : (mq_sp vs).length ≤ mx := by
          rw [mz_wd_ok G _ _ hga]; exact Nat.le_of_ble_eq_true p6
        refine ⟨?_, hwt, hwd⟩
        have hal : (as.map (fun a => a.2.2)).length = mz_np q2 := by
          rw [List.length_map]; exact mz_mts_len G _ _ p4
        have hthi : ∀ (l : List mz_E) (i : Nat) (e : mz_E), l[i]? = some e → mz_th 0 l i = e := by
          intro l i e he
          unfold mz_th
          show l.getD (i - 0) (0, []) = e
          rw [Nat.sub_zero, List.getD_eq_getElem?_getD, he]
          rfl
        have hgp : mz_gp G (fun v => mz_ev ρ (mz_th 0 (as.map (fun a => a.2.2) ++ k.2.2.1) v)) 0 q2.2.1 vs := by
          refine mz_mts_v G (ρ := ρ) _ as vs 0 p4 p5 (fun i a ha => ?_) hga
          show mz_ev ρ _ = _
          rw [hthi _ (0 + i) a.2.2]
          rw [Nat.zero_add, List.getElem?_append_left (by rw [List.length_map]; exact (List.getElem?_eq_some_iff.mp ha).1), List.getElem?_map, ha]
          rfl
        have hgt2 : mz_gt G (fun v => mz_ev ρ (mz_th 0 (as.map (fun a => a.2.2) ++ k.2.2.1) v)) M G.2.2.1 (mz_vs (mz_np q2) G.2.2.1.length) := by
          have key : ∀ (ts : List (Nat × Nat)) (es : List mz_E) (s : Nat), (∀ (i : Nat) (e : mz_E), es[i]? = some e → mz_ev ρ (mz_th 0 (as.map (fun a => a.2.2) ++ k.2.2.1) (s + i)) = mz_ev ρ e) → mz_gt G ρ M ts es → mz_gt G (fun v => mz_ev ρ (mz_th 0 (as.map (fun a => a.2.2) ++ k.2.2.1) v)) M ts (mz_vs s ts.length) := by
            intro ts
            induction ts with
            | nil => intro es s _ h; exact trivial
            | cons t ts ih =>
              intro es s he h
              cases es with
              | nil => exact h.elim
              | cons e es =>
                refine ⟨mz_gt1_x G ?_ h.1, ih es (s + 1) (fun i e' h' => ?_) h.2⟩
                · rw [mz_vr_ev]; exact he 0 e rfl
                · have := he (i + 1) e' h'
                  rw [show s + (i + 1) = s + 1 + i by omega] at this
                  exact this
          refine key _ _ _ (fun i e he => ?_) hgt
          rw [hthi _ (mz_np q2 + i) e]
          rw [List.getElem?_append_right (by omega), hal, Nat.add_sub_cancel_left]
          exact he
        have hpr := mz_pvs_ok (ρ := ρ) hgf _ _ _ hpre
        have hct := hC (q2, d2) (List.mem_of_getElem? hq2) hd2 d' (by show d2 ≤ d'; omega) _ vs M z u hgp hgt2 hpr hi.2.1 hi.2.2.1 hz
        rw [← hj]
        refine mq_R_imp hct (fun r S hpo => ?_)
        obtain ⟨ρ2, b1, b2, b3, b4, b5, b6, p, b7, b8, b9⟩ := hpo
        have hkeep : mz_fr q M0 S.1 := by
          intro a ha hw
          refine (b4 a ha ?_).trans (hi.2.2.2.1 a ha hw)
          cases hx : q2.2.2.2.2.2.elem a with
          | false => rfl
          | true =>
            rw [List.elem_iff.mpr (mz_subs_ok p3 (List.elem_iff.mp hx))] at hw
            cases hw
        have hk0 : mz_g G ρ (k.1, rl, k.2.2) L rs M := ⟨hgl, hgr, hgt, hgf⟩
        have hrr : p.1 = 0 → -2147483648 ≤ ρ2 (mz_n0 G q2 + q2.2.2.2.1.length) ∧ ρ2 (mz_n0 G q2 + q2.2.2.2.1.length) ≤ 2147483647 := by
          intro h0
          obtain ⟨x, _, hx, _⟩ := mz_re_0 G b9 h0
          rw [← hx]
          exact mz_i32 x
        have hb : nb ≤ k.2.2.2.2 := Nat.le_of_ble_eq_true (mz_bif p8).1
        have hn0 : mz_n0 G q ≤ k.2.2.2.2 := Nat.le_trans hnb hb
        have hrn : ∀ i, mz_rn ρ ρ2 k.2.2.2.2 (mz_n0 G q2) (k.2.2.2.2 + i) = ρ2 (mz_n0 G q2 + i) := by
          intro i
          unfold mz_rn
          rw [if_neg (by omega), Nat.add_sub_cancel_left]
        have hiv : mz_iv G X q ρ0 M0 (mz_rn ρ ρ2 k.2.2.2.2 (mz_n0 G q2)) S.1 := ⟨fun i hi' => (if_pos (Nat.lt_of_lt_of_le hi' hn0)).trans (hi.1 i hi'), b2, b3, hkeep, fun a ha => (b5 a ha).trans (hi.2.2.2.2 a ha)⟩
        refine hcov _ S r hiv (fun i hi' => if_pos (Nat.lt_of_lt_of_le hi' hb)) ?_
        refine mz_ps_ok G P X (k := (k.1, rl, k.2.2)) htr hiv (hrn _) _ _ _ _ h p b7 (fun hwp => ?_) b9
        exact (mz_pk_ok G hk0 p8 p9 hal (of_decide_eq_true p10) hwp b2 b1 b6 b8 hrr).1
      · cases h
    · cases h
  · cases h
/-! a case for each value -/
def mz_sv (k : mz_K) (w i : Nat) : Option mz_E := match w with
  | 0 => match k.1[i]? with
    | some (0, _, e) => some e
    | _ => none
  | _ => match k.2.1[i]? with
    | some (0, _, e) => some e
    | _ => none
def mz_ss (k : mz_K) (w i : Nat) (c : Int) : mz_K := match w with
  | 0 => (k.1.set i (0, 0, (c, [])), k.2)
  | _ => (k.1, k.2.1.set i (0, 0, (c, [])), k.2.2)
def mz_sp1 (k : mz_K) (w i : Nat) (e : mz_E) : Nat → Int → List mz_H → mz_W
  | 0, _, hs => some ([], hs)
  | m + 1, c, hs => match mz_br k [mz_add (-c, []) e, mz_add (c, []) (mz_mul (-1) e)] hs with
    | some (ks, hs) => match mz_sp1 k w i e m (c + 1) hs with
      | some (ks', hs) => some (ks.map (fun k => mz_ss k w i c) ++ ks', hs)
      | none => none
    | none => none
/-- a combination of locals and tracked slots -/
def mz_as (k : mz_K) : List (Nat × Nat × Int) → mz_E → Option mz_E
  | [], e => some e
  | (0, i, a) :: r, e => match k.1[i]? with
    | some (0, _, x) => mz_as k r (mz_add (mz_mul a x) e)
    | _ => none
  | (_, j, a) :: r, e => match k.2.2.1[j]? with
    | some x => mz_as k r (mz_add (mz_mul a x) e)
    | none => none
def mz_ast2 (k : mz_K) (lo : Int) (ts : List (Nat × Nat × Int)) (hs : List mz_H) : mz_W := match mz_as k ts (lo, []), hs with
  | some e, h :: hs => bif mz_pv k.2.2.2.1 h e then some ([mz_fa k e], hs) else none
  | _, _ => none
theorem mz_ast2_ok {k : mz_K} {lo : Int} {ts : List (Nat × Nat × Int)} {hs hs' : List mz_H} {ks : List mz_K} {ρ : Nat → Int} {L : mq_L} {st : List Value} {M : Nat → mq_C} (h : mz_ast2 k lo ts hs = some (ks, hs')) (hg : mz_g G ρ k L st M) : ∃ k' ∈ ks, mz_g G ρ k' L st M := by
  unfold mz_ast2 at h
  split at h
  · next e h1 hs1 he =>
    obtain ⟨p, h⟩ := mz_bif4 h
    cases h
    exact ⟨_, List.mem_cons_self .., mz_fa_ok G hg (mz_pv_spec hg.2.2.2 p)⟩
  · cases h
def mz_split (k : mz_K) (w i : Nat) (lo : Int) (m : Nat) (hs : List mz_H) : mz_W := match hs with
  | (0, _) :: h1 :: h2 :: hs => match mz_sv k w i with
    | some e => bif mz_pv k.2.2.2.1 h1 (mz_add (-lo, []) e) then bif mz_pv k.2.2.2.1 h2 (mz_add (lo + m - 1, []) (mz_mul (-1) e)) then mz_sp1 k w i e m lo hs else none else none
    | none => none
  | _ :: hs => some ([k], hs)
  | [] => none
theorem mz_ss_ok {k : mz_K} {w i : Nat} {e : mz_E} {c : Int} {ρ : Nat → Int} {L : mq_L} {st : List Value} {M : Nat → mq_C} (hv : mz_sv k w i = some e) (hc : mz_ev ρ e = c) (hg : mz_g G ρ k L st M) : mz_g G ρ (mz_ss k w i c) L st M := by
  have hcc : ∀ c : Int, mz_ev ρ (c, []) = c := fun c => Int.add_zero c
  unfold mz_sv at hv
  unfold mz_ss
  split at hv
  · split at hv
    · next g e' he =>
      cases hv
      refine ⟨?_, hg.2⟩
      obtain ⟨o, ho, hgo⟩ := mz_gl_g G _ _ _ _ hg.1 he
      obtain ⟨x, rfl, hx⟩ := mz_go_0 G hgo
      have h1 := mz_gl_set G (ρ := ρ) (a := (0, 0, (c, []))) (o := some (.int x)) (mz_go_v G (show x.toInt = mz_ev ρ (c, []) by rw [hcc, hx]; exact hc) (by intro h; cases h)) k.1 L i hg.1
      have h2 : L.set i (some (.int x)) = L := by
        apply List.ext_getElem?
        intro j
        by_cases hij : i = j
        · subst hij
          rw [List.getElem?_set_self (List.getElem?_eq_some_iff.mp ho).1, ho]
        · rw [List.getElem?_set_ne hij]
      rw [h2] at h1
      exact h1
    · cases hv
  · split at hv
    · next g e' he =>
      cases hv
      refine ⟨hg.1, ?_, hg.2.2⟩
      have key : ∀ (as : List mz_V) (vs : List Value) (i : Nat), mz_gs G ρ as vs → as[i]? = some (0, g, e) → mz_gs G ρ (as.set i (0, 0, (c, []))) vs := by
        intro as
        induction as with
        | nil => intro vs i _ h; cases h
        | cons a as ih =>
          intro vs i h ha
          cases vs with
          | nil => exact h.elim
          | cons v vs =>
            cases i with
            | zero =>
              cases ha
              obtain ⟨x, rfl, hx⟩ := mz_gv_i G h.1
              exact ⟨show x.toInt = mz_ev ρ (c, []) by rw [hcc, hx]; exact hc, h.2⟩
            | succ i => exact ⟨h.1, ih vs i h.2 ha⟩
      exact key _ _ _ hg.2.1 he
    · cases hv
theorem mz_sp1_ok {k : mz_K} {w i : Nat} {e : mz_E} {ρ : Nat → Int} {L : mq_L} {st : List Value} {M : Nat → mq_C} (hv : mz_sv k w i = some e) (hg : mz_g G ρ k L st M) : ∀ (m : Nat) (c : Int) (hs hs' : List mz_H) (ks : List mz_K), mz_sp1 k w i e m c hs = some (ks, hs') → c ≤ mz_ev ρ e → mz_ev ρ e ≤ c + m - 1 → ∃ k' ∈ ks, mz_g G ρ k' L st M := by
  intro m
  induction m with
  | zero => intro c hs hs' ks _ h1 h2; omega
  | succ m ih =>
    intro c hs hs' ks h h1 h2
    unfold mz_sp1 at h
    split at h
    · next ks1 hs1 hk1 =>
      split at h
      · next ks2 hs2 hk2 =>
        cases h
        by_cases hc : mz_ev ρ e = c
        · obtain ⟨k', hk', g'⟩ := mz_br_ok G hk1 (ρ := ρ) (mz_two_l (by
            rw [mz_add_ev]
            have e1 : mz_ev ρ ((-c : Int), []) = -c := Int.add_zero _
            rw [e1]; omega) (by
            rw [mz_add_ev, mz_ng]
            have e1 : mz_ev ρ ((c : Int), []) = c := Int.add_zero _
            rw [e1]; omega)) L st M hg
          refine ⟨mz_ss k' w i c, List.mem_append_left _ (List.mem_map.mpr ⟨k', hk', rfl⟩), ?_⟩
          refine mz_ss_ok G (e := e) ?_ hc g'
          have hsame : ∀ (fs : List mz_E) (k : mz_K), (fs.foldl mz_fa k).1 = k.1 ∧ (fs.foldl mz_fa k).2.1 = k.2.1 := by
            intro fs
            induction fs with
            | nil => intro k; exact ⟨rfl, rfl⟩
            | cons f fs ih2 => intro k; exact ⟨(ih2 _).1.trans rfl, (ih2 _).2.trans rfl⟩
          have hkk : k'.1 = k.1 ∧ k'.2.1 = k.2.1 := by
            unfold mz_br at hk1
            split at hk1
            · cases hk1
              rcases List.mem_cons.mp hk' with rfl | hk'
              · exact hsame _ k
              · cases hk'
            · obtain ⟨_, hk1⟩ := mz_bif4 hk1
              cases hk1
              cases hk'
            · cases hk1
          unfold mz_sv at hv ⊢
          rw [hkk.1, hkk.2]
          exact hv
        · obtain ⟨k', hk', g'⟩ := ih (c + 1) _ _ _ hk2 (by omega) (by omega)
          exact ⟨k', List.mem_append_right _ hk', g'⟩
      · cases h
    · cases h
theorem mz_split_ok {k : mz_K} {w i m : Nat} {lo : Int} {hs hs' : List mz_H} {ks : List mz_K} {ρ : Nat → Int} {L : mq_L} {st : List Value} {M : Nat → mq_C} (h : mz_split k w i lo m hs = some (ks, hs')) (hg : mz_g G ρ k L st M) : ∃ k' ∈ ks, mz_g G ρ k' L st M := by
  unfold mz_split at h
  split at h
  · next w' h1 h2 hs =>
    split at h
    · next e he =>
      obtain ⟨p1, h⟩ := mz_bif4 h
      obtain ⟨p2, h⟩ := mz_bif4 h
      have q1 := mz_pv_spec hg.2.2.2 p1
      rw [mz_add_ev] at q1
      have e1 : mz_ev ρ ((-lo : Int), []) = -lo := Int.add_zero _
      rw [e1] at q1
      have q2 := mz_pv_hi hg.2.2.2 p2
      exact mz_sp1_ok G he hg _ _ _ _ _ h (by omega) (by omega)
    · cases h
  · cases h
    exact ⟨k, List.mem_cons_self .., hg⟩
  · cases h
end VCU
