/-! THE CHECKER: the run, and what a checked contract says. -/
section VCV
variable (G : mz_G) (P : List mq_T) (X : (Nat → mq_C) → Prop)
def mz_fold (f : Nat × mz_K → List mz_H → Option (List mz_H)) : List (Nat × mz_K) → List mz_H → Option (List mz_H)
  | [], hs => some hs
  | s :: ss, hs => match f s hs with
    | some hs => mz_fold f ss hs
    | none => none
theorem mz_fold_ok {f : Nat × mz_K → List mz_H → Option (List mz_H)} : ∀ (ss : List (Nat × mz_K)) (hs hs' : List mz_H), mz_fold f ss hs = some hs' → ∀ s ∈ ss, ∃ h h', f s h = some h' := by
  intro ss
  induction ss with
  | nil => intro hs hs' _ s hs; cases hs
  | cons a ss ih =>
    intro hs hs' h s hm
    unfold mz_fold at h
    split at h
    · next hs1 h1 =>
      rcases List.mem_cons.mp hm with rfl | hm
      · exact ⟨hs, hs1, h1⟩
      · exact ih _ _ h s hm
    · cases h
/-- place, locals (0) or stack (1) or a fact (2), which, from, how many, of what -/
abbrev mz_Sl : Type := Nat × Nat × Nat × Int × Nat × List (Nat × Nat × Int)
def mz_fs (pc : Nat) : List mz_Sl → Option mz_Sl
  | [] => none
  | s :: r => bif Nat.beq s.1 pc then some s else mz_fs pc r
def mz_rv (q : mz_Q) (k : mz_K) (ns : List Nat) (hs : List mz_H) : Option (List mz_H) := match k.2.1, ns with
  | [(0, g, e)], [0] => mz_exit G q k (some (0, g, e)) 0 0 hs
  | [(0, g, e)], [1] => match hs with
    | h1 :: h2 :: hs => bif mz_pv k.2.2.2.1 h1 e then bif mz_pv k.2.2.2.1 h2 (mz_add (1, []) (mz_mul (-1) e)) then mz_exit G q k (some (0, g, e)) 0 0 hs else none else none
    | _ => none
  | [(1, g, e)], [3] => mz_exit G q k (some (1, g, e)) 1 0 hs
  | _, _ => none
def mz_x (Cs : List (mz_Q × Nat)) (q : mz_Q) (nb dep : Nat) (hds : List mz_Hd) (sp : List mz_Sl) (old : Option mz_E) : Nat → Nat → Nat → mz_K → List mz_H → Option (List mz_H)
  | 0, _, _, _, _ => none
  | f + 1, md, pc, k, hs => bif (bif Nat.beq md 0 then hds.any (fun h => Nat.beq h.1 pc) else false) then mz_cut G q hds old pc k hs else
    match (bif Nat.beq md 2 then none else mz_fs pc sp) with
    | some s => match (match s.2.1 with
        | 2 => mz_ast2 k s.2.2.2.1 s.2.2.2.2.2 hs
        | w => mz_split k w s.2.2.1 s.2.2.2.1 s.2.2.2.2.1 hs) with
      | some (ks, hs) => mz_fold (fun s hs => mz_x Cs q nb dep hds sp old f 2 s.1 s.2 hs) (ks.map (fun k => (pc, k))) hs
      | none => none
    | none => match mq_at P q.1 pc with
      | none => none
      | some o => match mz_op (mz_GS G q) o.1 with
        | some fn => match fn nb o.2.1 o.2.2 k hs with
          | some (ss, hs) => mz_fold (fun s hs => mz_x Cs q nb dep hds sp old f 0 s.1 s.2 hs) ss hs
          | none => none
        | none => match o.1 with
          | 66 => match k.2.1 with
            | [] => mz_exit G q k none 3 0 hs
            | _ => none
          | 67 => mz_rv G q k o.2.1 hs
          | 68 => match o.2.1 with
            | e :: _ => bif Nat.ble k.2.1.length 4 then mz_exit G q k none 5 e hs else none
            | [] => none
          | _ => match mz_call G P Cs q nb dep pc o.1 o.2.1 k hs with
            | some (ss, hs) => mz_fold (fun s hs => mz_x Cs q nb dep hds sp old f 0 s.1 s.2 hs) ss hs
            | none => none
theorem mz_gv_G {G' : mz_G} (h1 : G'.1 = G.1) (h2 : G'.2.1 = G.2.1) {ρ : Nat → Int} {a : mz_V} {v : Value} : mz_gv G' ρ a v = mz_gv G ρ a v := by
  unfold mz_gv
  rw [h1, h2]
theorem mz_go_G {G' : mz_G} (h1 : G'.1 = G.1) (h2 : G'.2.1 = G.2.1) {ρ : Nat → Int} {a : mz_V} {o : Option Value} : mz_go G' ρ a o = mz_go G ρ a o := by
  unfold mz_go
  simp only [mz_gv_G G h1 h2]
theorem mz_gl_G {G' : mz_G} (h1 : G'.1 = G.1) (h2 : G'.2.1 = G.2.1) {ρ : Nat → Int} : ∀ (as : List mz_V) (L : mq_L), mz_gl G' ρ as L = mz_gl G ρ as L := by
  intro as
  induction as with
  | nil => intro L; cases L <;> rfl
  | cons a as ih => intro L; cases L with
    | nil => rfl
    | cons o os =>
      show (mz_go G' ρ a o ∧ mz_gl G' ρ as os) = (mz_go G ρ a o ∧ mz_gl G ρ as os)
      rw [mz_go_G G h1 h2, ih]
theorem mz_gs_G {G' : mz_G} (h1 : G'.1 = G.1) (h2 : G'.2.1 = G.2.1) {ρ : Nat → Int} : ∀ (as : List mz_V) (L : List Value), mz_gs G' ρ as L = mz_gs G ρ as L := by
  intro as
  induction as with
  | nil => intro L; cases L <;> rfl
  | cons a as ih => intro L; cases L with
    | nil => rfl
    | cons o os =>
      show (mz_gv G' ρ a o ∧ mz_gs G' ρ as os) = (mz_gv G ρ a o ∧ mz_gs G ρ as os)
      rw [mz_gv_G G h1 h2, ih]
theorem mz_gt_G {G' : mz_G} (h1 : G'.1 = G.1) {ρ : Nat → Int} {M : Nat → mq_C} : ∀ (ts : List (Nat × Nat)) (es : List mz_E), mz_gt G' ρ M ts es = mz_gt G ρ M ts es := by
  intro ts
  induction ts with
  | nil => intro es; cases es <;> rfl
  | cons t ts ih => intro es; cases es with
    | nil => rfl
    | cons e es =>
      show (mz_gt1 G' ρ M t e ∧ mz_gt G' ρ M ts es) = (mz_gt1 G ρ M t e ∧ mz_gt G ρ M ts es)
      rw [ih]
      unfold mz_gt1
      rw [h1]
theorem mz_g_G {G' : mz_G} (h1 : G'.1 = G.1) (h2 : G'.2.1 = G.2.1) (h3 : G'.2.2.1 = G.2.2.1) {ρ : Nat → Int} {k : mz_K} {L : mq_L} {st : List Value} {M : Nat → mq_C} : mz_g G' ρ k L st M = mz_g G ρ k L st M := by
  unfold mz_g
  rw [mz_gl_G G h1 h2, mz_gs_G G h1 h2, mz_gt_G G h1, h3]
theorem mz_sh_G {G' : mz_G} (h1 : G'.1 = G.1) (h2 : G'.2.1 = G.2.1) {M : Nat → mq_C} : mz_sh G' M = mz_sh G M := by
  unfold mz_sh mz_ok
  rw [h1, h2]
theorem mz_gs1 (q : mz_Q) {a : Nat} (ha : a < 272) (h : G.2.2.2.1 a = true) : (mz_GS G q).2.2.2.1 a = true := by
  show (bif Nat.blt a 272 then (bif q.2.2.2.2.2.elem a then G.2.2.2.1 a else true) else false) = true
  rw [show Nat.blt a 272 = true from Nat.ble_eq.mpr ha, h]
  cases q.2.2.2.2.2.elem a <;> rfl
theorem mz_gs2 (q : mz_Q) {a : Nat} (ha : a < 272) (h : q.2.2.2.2.2.elem a = false) : (mz_GS G q).2.2.2.1 a = true := by
  show (bif Nat.blt a 272 then (bif q.2.2.2.2.2.elem a then G.2.2.2.1 a else true) else false) = true
  rw [show Nat.blt a 272 = true from Nat.ble_eq.mpr ha, h]
  rfl
theorem mq_nh_hd {k pc kind : Nat} (h : mq_nh P k = true) : mq_hd P k pc kind = none := by
  unfold mq_nh at h
  unfold mq_hd
  split at h
  · next t ht =>
    show mq_hx pc kind t.2.1 = none
    cases hh : t.2.1 with
    | nil => rfl
    | cons a b => rw [hh] at h; cases h
  · rfl
theorem mz_x_ok {Cs : List (mz_Q × Nat)} {q : mz_Q} {nb dep d z u : Nat} {hds : List mz_Hd} {sp : List mz_Sl} {old : Option mz_E} {ρ0 ρs : Nat → Int} {M0 : Nat → mq_C} (hX : ∀ M M' : Nat → mq_C, mz_same G M M' → X M → X M') (htr : ∀ t ∈ G.2.2.1, t.1 < 272) (hex : ∀ a, G.2.2.2.1 a = true → a < 272) (hfz : ∀ t ∈ G.2.2.2.2, t.1 < 272) (h8 : ∀ a, a < 8 → G.2.2.2.1 a = true) (htb : ∀ a c, G.1 a = some c → a < 272) (hC : ∀ c ∈ Cs, c.2 < dep → mz_Ct G P X c.1 c.2) (hE : ∀ f ∈ mz_ef G q, 0 ≤ mz_ev ρ0 f) (hW : mz_wfl (mz_n0 G q) (mz_ef G q) = true) (hnb : mz_n0 G q ≤ nb) (hz : 272 ≤ z) (hd : dep ≤ d) (hnh : mq_nh P q.1 = true) (hold : ∀ e, old = some e → mz_wf nb e.2 = true)
    (hK : ∀ hd ∈ hds, ∀ ρ1 L M, mz_g G ρ1 (mz_hk G q hd) L [] M → mz_iv G X q ρ0 M0 ρ1 M → 0 ≤ mz_ev ρ1 hd.2.2.2 → (∀ e, old = some e → mz_ev ρ1 hd.2.2.2 ≤ mz_ev ρs e - 1) → mq_R P d q.1 hd.1 L [] (M, z, u) (mz_po G X q ρ0 M0 z u)) :
    ∀ (f md pc : Nat) (k : mz_K) (hs hs' : List mz_H), mz_x G P Cs q nb dep hds sp old f md pc k hs = some hs' → ∀ ρ L st M, mz_g G ρ k L st M → mz_iv G X q ρ0 M0 ρ M → (∀ i, i < nb → ρ i = ρs i) → mq_R P d q.1 pc L st (M, z, u) (mz_po G X q ρ0 M0 z u) := by
  intro f
  induction f with
  | zero => intro md pc k hs hs' h; cases h
  | succ f ih =>
    intro md pc k hs hs' h ρ L st M hg hi hρ
    unfold mz_x at h
    cases hc : (bif Nat.beq md 0 then hds.any (fun h => Nat.beq h.1 pc) else false) with
    | true =>
      rw [hc] at h
      obtain ⟨rfl, hd1, hm, hpc, ρ1, g1, a1, m1, m2⟩ := mz_cut_ok G (show mz_cut G q hds old pc k hs = some hs' from h) hg hi.2.1 hi.1 hE hW
      rw [← hpc]
      refine hK hd1 hm ρ1 L M g1 ⟨a1, hi.2⟩ m1 (fun e he => ?_)
      have h1 := m2 e he
      rw [mz_wf_e hρ (hold e he)] at h1
      exact h1
    | false =>
      rw [hc] at h
      simp only [cond_false] at h
      split at h
      · next s hs1 =>
        split at h
        · next ks hs2 hsp =>
          obtain ⟨k', hk', g'⟩ : ∃ k' ∈ ks, mz_g G ρ k' L st M := by
            split at hsp
            · exact mz_ast2_ok G hsp hg
            · exact mz_split_ok G hsp hg
          obtain ⟨x, y, hxy⟩ := mz_fold_ok _ _ _ h (pc, k') (List.mem_map.mpr ⟨k', hk', rfl⟩)
          exact ih 2 pc k' x y hxy ρ L st M g' hi hρ
        · cases h
      · split at h
        · cases h
        · next o ho =>
          rw [mq_R_eq]
          have hstp : mq_stp P q.1 pc L st (M, z, u) = mq_ex o L st (M, z, u) := by
            unfold mq_stp
            rw [ho]
          rw [hstp]
          split at h
          · next fn hfn =>
            split at h
            · next ss hs2 hss =>
              obtain ⟨g, hgo, hsd⟩ := mz_op_ok (mz_GS G q) hfn
              obtain ⟨pc', L', st', M', k', ρ', e1, e2, e3, e4, e5, e6⟩ := hsd nb o.2.1 o.2.2 k hs ss hs2 ρ L st M z u hss (Eq.mpr (mz_g_G G (G' := mz_GS G q) rfl rfl rfl) hg) (Eq.mpr (mz_sh_G G (G' := mz_GS G q) rfl rfl) hi.2.1)
              have e3 := Eq.mp (mz_g_G G (G' := mz_GS G q) rfl rfl rfl) e3
              have e5 := Eq.mp (mz_sh_G G (G' := mz_GS G q) rfl rfl) e5
              have hex' : mq_ex o L st (M, z, u) = some (.inl (pc', L', st', (M', z, u))) := by
                unfold mq_ex
                rw [hgo]
                exact e1
              rw [hex']
              obtain ⟨x, y, hxy⟩ := mz_fold_ok _ _ _ h (pc', k') e2
              exact ih 0 pc' k' x y hxy ρ' L' st' M' e3 ⟨fun i hi' => (e4 i (Nat.lt_of_lt_of_le hi' hnb)).trans (hi.1 i hi'), e5, hX M M' ⟨fun a ha => e6.1 a (mz_gs1 G q (hex a ha) ha), e6.2⟩ hi.2.2.1, fun a ha hw => (e6.1 a (mz_gs2 G q ha hw)).trans (hi.2.2.2.1 a ha hw), fun a ha => (e6.1 a (mz_gs1 G q (by omega) (h8 a ha))).trans (hi.2.2.2.2 a ha)⟩ (fun i hi' => (e4 i hi').trans (hρ i hi'))
            · cases h
          · split at h
            · next h66 =>
              split at h
              · next hk =>
                have hst : st = [] := by
                  have := hg.2.1
                  rw [hk] at this
                  cases st with
                  | nil => rfl
                  | cons a b => exact this.elim
                subst hst
                have hex' : mq_ex o L [] (M, z, u) = some (.inr (.inl (none, (M, z, u)))) := by
                  unfold mq_ex
                  rw [h66]
                  rfl
                rw [hex']
                exact mz_exit_ok G h hg hi hi.2.1 hi.2.2.1 (fun _ _ => rfl) htr ⟨rfl, rfl, rfl⟩
              · cases h
            · next h67 =>
              unfold mz_rv at h
              split at h
              · next g e ns hk hns =>
                have hst := hg.2.1
                rw [hk] at hst
                obtain ⟨v, r1, rfl, hv, hr1⟩ := mz_gs_c G hst
                obtain ⟨x, rfl, hx⟩ := mz_gv_i G hv
                cases r1 with
                | cons a b => exact hr1.elim
                | nil =>
                  have hex' : mq_ex o L [.int x] (M, z, u) = some (.inr (.inl (some (.int x), (M, z, u)))) := by
                    unfold mq_ex
                    rw [h67]
                    show mq_o_retv o.2.1 o.2.2 L [.int x] (M, z, u) = _
                    rw [hns]
                    rfl
                  rw [hex']
                  exact mz_exit_ok G h hg hi hi.2.1 hi.2.2.1 (fun _ _ => rfl) htr ⟨x, rfl, hx, rfl, rfl⟩
              · next g e ns hk hns =>
                split at h
                · next h1 h2 hs2 =>
                  obtain ⟨p1, h⟩ := mz_bif4 h
                  obtain ⟨p2, h⟩ := mz_bif4 h
                  have hst := hg.2.1
                  rw [hk] at hst
                  obtain ⟨v, r1, rfl, hv, hr1⟩ := mz_gs_c G hst
                  obtain ⟨x, rfl, hx⟩ := mz_gv_i G hv
                  cases r1 with
                  | cons a b => exact hr1.elim
                  | nil =>
                    have q1 := mz_pv_spec hg.2.2.2 p1
                    have q2 := mz_pv_hi hg.2.2.2 p2
                    have hb : x = 0 ∨ x = 1 := by
                      rw [mz_eq0, mz_eq0 (y := 1), mz_z0]
                      have e3 : (1 : Int32).toInt = 1 := rfl
                      rw [e3]
                      omega
                    have hex' : mq_ex o L [.int x] (M, z, u) = some (.inr (.inl (some (.int x), (M, z, u)))) := by
                      unfold mq_ex
                      rw [h67]
                      show mq_o_retv o.2.1 o.2.2 L [.int x] (M, z, u) = _
                      rw [hns]
                      show (if mq_fit 1 (.int x) = true then _ else (none : Option mq_O)) = _
                      rw [if_pos (show mq_fit 1 (.int x) = true from decide_eq_true hb)]
                    rw [hex']
                    exact mz_exit_ok G h hg hi hi.2.1 hi.2.2.1 (fun _ _ => rfl) htr ⟨x, rfl, hx, rfl, rfl⟩
                · cases h
              · next g e ns hk hns =>
                have hst := hg.2.1
                rw [hk] at hst
                obtain ⟨v, r1, rfl, hv, hr1⟩ := mz_gs_c G hst
                obtain ⟨b, rfl, hb, -⟩ := mz_gv_r G hv
                cases r1 with
                | cons a b => exact hr1.elim
                | nil =>
                  have hex' : mq_ex o L [.ref b] (M, z, u) = some (.inr (.inl (some (.ref b), (M, z, u)))) := by
                    unfold mq_ex
                    rw [h67]
                    show mq_o_retv o.2.1 o.2.2 L [.ref b] (M, z, u) = _
                    rw [hns]
                    rfl
                  rw [hex']
                  exact mz_exit_ok G h hg hi hi.2.1 hi.2.2.1 (fun _ _ => rfl) htr ⟨b, rfl, hb, rfl, rfl⟩
              · cases h
            · next h68 =>
              split at h
              · next e ns hns =>
                obtain ⟨p1, h⟩ := mz_bif4 h
                have hwt : mq_wt st ≤ 8 := by
                  have h1 := mz_wt_le G _ _ hg.2.1
                  have h2 := Nat.le_of_ble_eq_true p1
                  omega
                have hex' : mq_ex o L st (M, z, u) = some (.inr (.inr (.inl (z, (va_up M z (e, []), z + 1, u + 6))))) := by
                  unfold mq_ex
                  rw [h68]
                  show mq_o_throw o.2.1 o.2.2 L st (M, z, u) = _
                  rw [hns]
                  show (if mq_wt st ≤ 8 then _ else (none : Option mq_O)) = _
                  rw [if_pos hwt]
                rw [hex']
                have hlow : ∀ a, a < 272 → va_up M z (e, []) a = M a := fun a ha => va_up_ne _ _ (by omega)
                refine mz_exit_ok G h hg hi (S := (va_up M z (e, []), z + 1, u + 6)) ?_ ?_ hlow htr ⟨rfl, by show (va_up M z (e, []) z).1 = e; rw [va_up_self], rfl, rfl⟩
                · intro a c hc
                  show (va_up M z (e, []) a).1 = _ ∧ _
                  have h1 := hi.2.1 a c hc
                  rw [← hlow a (htb a c hc)] at h1
                  exact h1
                · exact hX M _ ⟨fun a ha => hlow a (hex a ha), fun t ht => by show ((va_up M z (e, [])) t.1).2[t.2]? = _; rw [hlow t.1 (hfz t ht)]⟩ hi.2.2.1
              · cases h
            · split at h
              · next ss hs2 hcall =>
                have hcov : ∀ (d' n : Nat) (rs : List Value), d = d' + 1 → ∀ (ρ3 : Nat → Int) (S : mq_S) (r : Option Value ⊕ Nat), mz_iv G X q ρ0 M0 ρ3 S.1 → (∀ i, i < nb → ρ3 i = ρ i) → mz_cov G P X q pc n ss ρ0 M0 z u ρ3 L rs r S → mq_after P (d' + 1) q.1 pc n L rs (mz_po G X q ρ0 M0 z u) r S := by
                  intro d' n rs hdd ρ3 S r hi3 h3 hcv
                  rcases r with v | a
                  · obtain ⟨hz1, hu1, k', hk', g'⟩ := hcv
                    obtain ⟨x, y, hxy⟩ := mz_fold_ok _ _ _ h (n, k') hk'
                    have := ih 0 n k' x y hxy ρ3 L (v.toList ++ rs) S.1 g' hi3 (fun i hi' => (h3 i hi').trans (hρ i hi'))
                    show mq_R P (d' + 1) q.1 n L (v.toList ++ rs) S _
                    rw [← hdd]
                    obtain ⟨S1, S2, S3⟩ := S
                    cases hz1
                    cases hu1
                    exact this
                  · rcases hcv with ⟨hh, k', a1, a2, a3, a4, a5⟩ | ⟨a1, a2, a3⟩
                    · rw [mq_nh_hd P hnh] at a1
                      cases a1
                    · show (match mq_hd P q.1 pc (S.1 a).1 with
                        | some h => mq_R P (d' + 1) q.1 h L [.ref a] S _
                        | none => mq_nh P q.1 = true ∧ _)
                      rw [a1]
                      exact ⟨a2, a3⟩
                unfold mz_call at hcall
                split at hcall
                · next n j c mx ns h60 hns =>
                  obtain ⟨p1, hcall⟩ := mz_bif4 hcall
                  obtain ⟨t1, t2⟩ := mz_gs_take G c _ _ hg.2.1
                  have t3 := mz_gs_rev G _ _ t1
                  cases d with
                  | zero =>
                    exfalso
                    unfold mz_call1 at hcall
                    split at hcall
                    · split at hcall
                      · obtain ⟨_, hcall⟩ := mz_bif4 hcall
                        obtain ⟨pd, _⟩ := mz_bif4 hcall
                        have := Nat.le_of_ble_eq_true pd
                        omega
                      · cases hcall
                    · cases hcall
                  | succ d' =>
                    obtain ⟨r1, r2, r3⟩ := mz_call1_ok G P X htr hC hcall hg.1 t3 t2 hg.2.2.1 hg.2.2.2 hi hz hd hnb (hcov d' n (st.drop c) rfl)
                    have hex' : mq_ex o L st (M, z, u) = some (.inr (.inr (.inr (j, (st.take c).reverse, n, L, st.drop c, (M, z, u))))) := by
                      unfold mq_ex
                      rw [h60]
                      show mq_o_static o.2.1 o.2.2 L st (M, z, u) = _
                      rw [hns]
                      show (if c ≤ st.length ∧ mq_wt (st.drop c) ≤ 8 ∧ (mq_sp (st.take c).reverse).length ≤ mx then _ else (none : Option mq_O)) = _
                      rw [if_pos ⟨by rw [mz_gs_len G _ _ hg.2.1]; exact Nat.le_of_ble_eq_true p1, r2, r3⟩]
                    rw [hex']
                    exact r1
                · next n j c ci mx ns h61 hns =>
                  split at hcall
                  · next g e r hdrop =>
                    obtain ⟨p1, hcall⟩ := mz_bif4 hcall
                    obtain ⟨t1, t2⟩ := mz_gs_take G c _ _ hg.2.1
                    have t3 := mz_gs_rev G _ _ t1
                    rw [hdrop] at t2
                    obtain ⟨v, rs, hdst, hv, hrs⟩ := mz_gs_c G t2
                    obtain ⟨b, rfl, hb, hb2⟩ := mz_gv_r G hv
                    obtain ⟨cc, hcc, hkk⟩ := mz_all_ok G p1 hb
                    obtain ⟨m1, m2, m3⟩ := hi.2.1 b cc hcc
                    cases d with
                    | zero =>
                      exfalso
                      unfold mz_call1 at hcall
                      split at hcall
                      · split at hcall
                        · obtain ⟨_, hcall⟩ := mz_bif4 hcall
                          obtain ⟨pd, _⟩ := mz_bif4 hcall
                          have := Nat.le_of_ble_eq_true pd
                          omega
                        · cases hcall
                      · cases hcall
                    | succ d' =>
                      obtain ⟨r1, r2, r3⟩ := mz_call1_ok G P X htr hC hcall hg.1 (vs := .ref b :: (st.take c).reverse) ⟨hv, t3⟩ hrs hg.2.2.1 hg.2.2.2 hi hz hd hnb (hcov d' n rs rfl)
                      have hex' : mq_ex o L st (M, z, u) = some (.inr (.inr (.inr (j, .ref b :: (st.take c).reverse, n, L, rs, (M, z, u))))) := by
                        unfold mq_ex
                        rw [h61]
                        show mq_o_virtual o.2.1 o.2.2 L st (M, z, u) = _
                        rw [hns]
                        unfold mq_o_virtual
                        simp only [hdst]
                        rw [if_pos ⟨m1.trans (Nat.eq_of_beq_eq_true hkk), r2, r3⟩]
                      rw [hex']
                      exact r1
                  · cases hcall
                · cases hcall
              · cases h
/-- what is checked of a method: fuel, its heads, where cases are made, the hints of the entry and of each head -/
abbrev mz_Ck : Type := Nat × List mz_Hd × List mz_Sl × List mz_H × List (List mz_H)
def mz_chh (Cs : List (mz_Q × Nat)) (q : mz_Q) (dep fuel : Nat) (hds : List mz_Hd) (sp : List mz_Sl) : List mz_Hd → List (List mz_H) → Bool
  | [], _ => true
  | h :: r, hs :: hss => bif mz_wf (mz_hk G q h).2.2.2.2 h.2.2.2.2 then (match mz_x G P Cs q (mz_hk G q h).2.2.2.2 dep hds sp (some h.2.2.2) fuel 1 h.1 (mz_hk G q h) hs with
      | some _ => mz_chh Cs q dep fuel hds sp r hss
      | none => false) else false
  | _, [] => false
def mz_chk (Cs : List (mz_Q × Nat)) (q : mz_Q) (dep : Nat) (c : mz_Ck) : Bool := bif mq_nh P q.1 then bif mz_wfl (mz_n0 G q) (mz_ef G q) then (match P[q.1]? with
  | some t => (match mz_x G P Cs q (mz_n0 G q) dep c.2.1 c.2.2.1 none c.1 0 0 (mz_en G q t.1) c.2.2.2.1 with
    | some _ => mz_chh G P Cs q dep c.1 c.2.1 c.2.2.1 c.2.1 c.2.2.2.2
    | none => false)
  | none => false) else false else false
theorem mz_chh_ok {Cs : List (mz_Q × Nat)} {q : mz_Q} {dep fuel : Nat} {hds : List mz_Hd} {sp : List mz_Sl} : ∀ (r : List mz_Hd) (hss : List (List mz_H)), mz_chh G P Cs q dep fuel hds sp r hss = true → ∀ h ∈ r, mz_wf (mz_hk G q h).2.2.2.2 h.2.2.2.2 = true ∧ ∃ hs hs', mz_x G P Cs q (mz_hk G q h).2.2.2.2 dep hds sp (some h.2.2.2) fuel 1 h.1 (mz_hk G q h) hs = some hs' := by
  intro r
  induction r with
  | nil => intro hss _ h hh; cases hh
  | cons a r ih =>
    intro hss hc h hh
    cases hss with
    | nil => cases hc
    | cons hs hss =>
      obtain ⟨h1, h2⟩ := mz_bif (show (bif mz_wf (mz_hk G q a).2.2.2.2 a.2.2.2.2 then (match mz_x G P Cs q (mz_hk G q a).2.2.2.2 dep hds sp (some a.2.2.2) fuel 1 a.1 (mz_hk G q a) hs with
        | some _ => mz_chh G P Cs q dep fuel hds sp r hss
        | none => false) else false) = true from hc)
      split at h2
      · next hs' hx =>
        rcases List.mem_cons.mp hh with rfl | hh
        · exact ⟨h1, hs, hs', hx⟩
        · exact ih hss h2 h hh
      · cases h2
theorem mz_chk_ok {Cs : List (mz_Q × Nat)} {q : mz_Q} {dep : Nat} {c : mz_Ck} (hX : ∀ M M' : Nat → mq_C, mz_same G M M' → X M → X M') (htr : ∀ t ∈ G.2.2.1, t.1 < 272) (hex : ∀ a, G.2.2.2.1 a = true → a < 272) (hfz : ∀ t ∈ G.2.2.2.2, t.1 < 272) (h8 : ∀ a, a < 8 → G.2.2.2.1 a = true) (htb : ∀ a c, G.1 a = some c → a < 272) (hC : ∀ c ∈ Cs, c.2 < dep → mz_Ct G P X c.1 c.2) (h : mz_chk G P Cs q dep c = true) : mz_Ct G P X q dep := by
  intro d hd ρ0 vs M0 z u h1 h2 h3 hm hx hz
  obtain ⟨hnh, h⟩ := mz_bif h
  obtain ⟨hW, h⟩ := mz_bif h
  split at h
  · next t ht =>
    split at h
    · next hs' hent =>
      have hg0 := mz_en_ok G (P := P) ht h1 h2 h3 hm
      have hE : ∀ f ∈ mz_ef G q, 0 ≤ mz_ev ρ0 f := hg0.2.2.2
      have hchh := mz_chh_ok G P _ _ h
      have key : ∀ (N : Nat) (hd1 : mz_Hd), hd1 ∈ c.2.1 → ∀ ρ1 L M, mz_g G ρ1 (mz_hk G q hd1) L [] M → mz_iv G X q ρ0 M0 ρ1 M → 0 ≤ mz_ev ρ1 hd1.2.2.2 → mz_ev ρ1 hd1.2.2.2 < N → mq_R P d q.1 hd1.1 L [] (M, z, u) (mz_po G X q ρ0 M0 z u) := by
        intro N
        induction N with
        | zero => intro hd1 _ ρ1 L M _ _ h0 h9; omega
        | succ N ih =>
          intro hd1 hmem ρ1 L M hg hi h0 h9
          obtain ⟨hwf, hs1, hs2, hx1⟩ := hchh hd1 hmem
          refine mz_x_ok G P X (ρs := ρ1) hX htr hex hfz h8 htb hC hE hW ?_ hz hd hnh ?_ ?_ _ _ _ _ _ _ hx1 ρ1 L [] M hg hi (fun _ _ => rfl)
          · show mz_n0 G q ≤ mz_n0 G q + hd1.2.1.length + q.2.2.2.1.length
            omega
          · intro e he
            cases he
            exact hwf
          · intro hd2 hmem2 ρ2 L2 M2 g2 i2 n2 m2
            have := m2 _ rfl
            exact ih hd2 hmem2 ρ2 L2 M2 g2 i2 n2 (by omega)
      refine mz_x_ok G P X (ρs := ρ0) hX htr hex hfz h8 htb hC hE hW (Nat.le_refl _) hz hd hnh ?_ ?_ _ _ _ _ _ _ hent ρ0 _ [] M0 hg0 ⟨fun _ _ => rfl, hm, hx, fun _ _ _ => rfl, fun _ _ => rfl⟩ (fun _ _ => rfl)
      · intro e he; cases he
      · intro hd2 hmem2 ρ2 L2 M2 g2 i2 n2 _
        exact key ((mz_ev ρ2 hd2.2.2.2).toNat + 1) hd2 hmem2 ρ2 L2 M2 g2 i2 n2 (by omega)
    · cases h
  · cases h
end VCV
