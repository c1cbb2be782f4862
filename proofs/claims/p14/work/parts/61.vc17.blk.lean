/-! BLOCKS: from a place of a method to other places of it (stops: place, shapes of the locals, shapes of the stack, facts) or out of it. -/
section VCB
variable (G : mz_G) (P : List mq_T) (X : (Nat → mq_C) → Prop)
abbrev mz_Sp2 : Type := Nat × List (Nat × Nat) × List (Nat × Nat) × List mz_E
def mz_cut2 (q : mz_Q) (sts : List mz_Sp2) (pc : Nat) (k : mz_K) (hs : List mz_H) : Option (List mz_H) := match hs with
  | (i, _) :: hs => match sts[i]? with
    | some s => bif Nat.beq s.1 pc then bif mz_mts G s.2.1 k.1 then bif mz_mts G s.2.2.1 k.2.1 then bif s.2.2.1.all (fun p => Nat.blt p.1 3) then bif mz_un1 q.2.2.2.1 (mz_np q) 0 k.2.2.1 then mz_pvs k.2.2.2.1 (mz_th (mz_n0 G q) (k.1.map (fun a => a.2.2) ++ (k.2.1.map (fun a => a.2.2) ++ mz_mo q.2.2.2.1 k.2.2.1))) s.2.2.2 hs else none else none else none else none else none
    | none => none
  | [] => none
/-- what is known at a stop -/
def mz_ks (q : mz_Q) (s : mz_Sp2) (ρ : Nat → Int) (L : mq_L) (st : List Value) (M : Nat → mq_C) : Prop := mz_gl G ρ (mz_hl G (mz_n0 G q) s.2.1) L ∧ mz_gp G ρ (mz_n0 G q + s.2.1.length) s.2.2.1 st ∧ mz_gt G ρ M G.2.2.1 (mz_nt q.2.2.2.1 (mz_np q) (mz_n0 G q + (s.2.1.length + s.2.2.1.length)) 0 G.2.2.1.length) ∧ ∀ f ∈ s.2.2.2, 0 ≤ mz_ev ρ f
theorem mz_cut2_ok {q : mz_Q} {sts : List mz_Sp2} {pc : Nat} {k : mz_K} {hs hs' : List mz_H} {ρ : Nat → Int} {M : Nat → mq_C} {L : mq_L} {st : List Value} (h : mz_cut2 G q sts pc k hs = some hs') (hg : mz_g G ρ k L st M) : ∃ s ∈ sts, s.1 = pc ∧ ∃ ρ1, mz_ks G q s ρ1 L st M ∧ ∀ i, i < mz_n0 G q → ρ1 i = ρ i := by
  unfold mz_cut2 at h
  split at h
  · next i w hs =>
    split at h
    · next s hsi =>
      obtain ⟨p1, h⟩ := mz_bif4 h
      obtain ⟨p2, h⟩ := mz_bif4 h
      obtain ⟨p3, h⟩ := mz_bif4 h
      obtain ⟨p4, h⟩ := mz_bif4 h
      obtain ⟨p5, h⟩ := mz_bif4 h
      have hl1 := mz_mts_len G _ _ p2
      have hl2 := mz_mts_len G _ _ p3
      have hfs := mz_pvs_ok hg.2.2.2 _ _ _ h
      have hlo1 : ∀ i, i < mz_n0 G q → mz_ev ρ (mz_th (mz_n0 G q) (k.1.map (fun a => a.2.2) ++ (k.2.1.map (fun a => a.2.2) ++ mz_mo q.2.2.2.1 k.2.2.1)) i) = ρ i := fun i hi => mz_th_lo hi
      have hmo : ∀ i j e, q.2.2.2.1[i]? = some j → k.2.2.1[j]? = some e → mz_ev ρ (mz_th (mz_n0 G q) (k.1.map (fun a => a.2.2) ++ (k.2.1.map (fun a => a.2.2) ++ mz_mo q.2.2.2.1 k.2.2.1)) (mz_n0 G q + (s.2.1.length + s.2.2.1.length) + i)) = mz_ev ρ e := by
        intro i j e h1 h2
        rw [Nat.add_assoc]
        refine mz_th_hi ?_
        rw [List.getElem?_append_right (by rw [List.length_map, hl1]; omega), List.length_map, hl1, List.getElem?_append_right (by rw [List.length_map, hl2]; omega), List.length_map, hl2, show s.2.1.length + s.2.2.1.length + i - s.2.1.length - s.2.2.1.length = i by omega]
        exact mz_mo_get h1 h2
      obtain ⟨l1, -⟩ := mz_mts_l G (ρ := ρ) (ρ' := fun v => mz_ev ρ (mz_th (mz_n0 G q) (k.1.map (fun a => a.2.2) ++ (k.2.1.map (fun a => a.2.2) ++ mz_mo q.2.2.2.1 k.2.2.1)) v)) s.2.1 k.1 L (mz_n0 G q) p2 (fun i a ha => by
        refine mz_th_hi ?_
        rw [List.getElem?_append_left (by rw [List.length_map]; exact (List.getElem?_eq_some_iff.mp ha).1), List.getElem?_map, ha]
        rfl) hg.1
      have l2 := mz_mts_v G (ρ := ρ) (ρ' := fun v => mz_ev ρ (mz_th (mz_n0 G q) (k.1.map (fun a => a.2.2) ++ (k.2.1.map (fun a => a.2.2) ++ mz_mo q.2.2.2.1 k.2.2.1)) v)) s.2.2.1 k.2.1 st (mz_n0 G q + s.2.1.length) p3 p4 (fun i a ha => by
        rw [Nat.add_assoc]
        refine mz_th_hi ?_
        rw [List.getElem?_append_right (by rw [List.length_map, hl1]; omega), List.length_map, hl1, Nat.add_sub_cancel_left, List.getElem?_append_left (by rw [List.length_map]; exact (List.getElem?_eq_some_iff.mp ha).1), List.getElem?_map, ha]
        rfl) hg.2.1
      have t1 := mz_nt_ok G (ρ := ρ) (ρ' := fun v => mz_ev ρ (mz_th (mz_n0 G q) (k.1.map (fun a => a.2.2) ++ (k.2.1.map (fun a => a.2.2) ++ mz_mo q.2.2.2.1 k.2.2.1)) v)) (M := M) (ms := q.2.2.2.1) (np := mz_np q) (n0 := mz_n0 G q) (b := mz_n0 G q + (s.2.1.length + s.2.2.1.length)) (es0 := k.2.2.1) hlo1 hmo G.2.2.1 k.2.2.1 0 (fun i => by rw [Nat.zero_add]) (fun i hi => by show q.2.1.length + (0 + i) < q.2.1.length + G.2.2.1.length; omega) p5 hg.2.2.1
      exact ⟨s, List.mem_of_getElem? hsi, Nat.eq_of_beq_eq_true p1, _, ⟨l1, l2, t1, hfs⟩, hlo1⟩
    · cases h
  · cases h
def mz_y (Cs : List (mz_Q × Nat)) (q : mz_Q) (nb dep : Nat) (sts : List mz_Sp2) (sp : List mz_Sl) : Nat → Nat → Nat → mz_K → List mz_H → Option (List mz_H)
  | 0, _, _, _, _ => none
  | f + 1, md, pc, k, hs => bif (bif Nat.beq md 0 then sts.any (fun h => Nat.beq h.1 pc) else false) then mz_cut2 G q sts pc k hs else
    match (bif Nat.beq md 2 then none else mz_fs pc sp) with
    | some s => match (match s.2.1 with
        | 2 => mz_ast2 k s.2.2.2.1 s.2.2.2.2.2 hs
        | w => mz_split k w s.2.2.1 s.2.2.2.1 s.2.2.2.2.1 hs) with
      | some (ks, hs) => mz_fold (fun s hs => mz_y Cs q nb dep sts sp f 2 s.1 s.2 hs) (ks.map (fun k => (pc, k))) hs
      | none => none
    | none => match mq_at P q.1 pc with
      | none => none
      | some o => match mz_op (mz_GS G q) o.1 with
        | some fn => match fn nb o.2.1 o.2.2 k hs with
          | some (ss, hs) => mz_fold (fun s hs => mz_y Cs q nb dep sts sp f 0 s.1 s.2 hs) ss hs
          | none => none
        | none => match o.1 with
          | 66 => match k.2.1 with
            | [] => mz_exit G q k none 3 0 hs
            | _ => none
          | 67 => mz_rv G q k o.2.1 hs
          | 68 => match o.2.1 with
            | e :: _ => bif Nat.ble k.2.1.length 4 then mz_exit G q k none 5 e hs else none
            | [] => none
          | _ => match mz_call G P Cs q nb dep pc o.1 o.2.1 k hs with
            | some (ss, hs) => mz_fold (fun s hs => mz_y Cs q nb dep sts sp f 0 s.1 s.2 hs) ss hs
            | none => none
theorem mz_y_ok {Cs : List (mz_Q × Nat)} {q : mz_Q} {nb dep d z u : Nat} {sts : List mz_Sp2} {sp : List mz_Sl} {ρ0 ρs : Nat → Int} {M0 : Nat → mq_C} {Q : (Option Value ⊕ Nat) → mq_S → Prop} (hX : ∀ M M' : Nat → mq_C, mz_same G M M' → X M → X M') (htr : ∀ t ∈ G.2.2.1, t.1 < 272) (hex : ∀ a, G.2.2.2.1 a = true → a < 272) (hfz : ∀ t ∈ G.2.2.2.2, t.1 < 272) (h8 : ∀ a, a < 8 → G.2.2.2.1 a = true) (htb : ∀ a c, G.1 a = some c → a < 272) (hC : ∀ c ∈ Cs, c.2 < dep → mz_Ct G P X c.1 c.2) (hnb : mz_n0 G q ≤ nb) (hz : 272 ≤ z) (hd : dep ≤ d) (hnh : mq_nh P q.1 = true)
    (hK : ∀ s ∈ sts, ∀ ρ1 L st M, mz_ks G q s ρ1 L st M → mz_iv G X q ρ0 M0 ρ1 M → mq_R P d q.1 s.1 L st (M, z, u) Q) (hQ : ∀ r S, mz_po G X q ρ0 M0 z u r S → Q r S) :
    ∀ (f md pc : Nat) (k : mz_K) (hs hs' : List mz_H), mz_y G P Cs q nb dep sts sp f md pc k hs = some hs' → ∀ ρ L st M, mz_g G ρ k L st M → mz_iv G X q ρ0 M0 ρ M → (∀ i, i < nb → ρ i = ρs i) → mq_R P d q.1 pc L st (M, z, u) Q := by
  intro f
  induction f with
  | zero => intro md pc k hs hs' h; cases h
  | succ f ih =>
    intro md pc k hs hs' h ρ L st M hg hi hρ
    unfold mz_y at h
    cases hc : (bif Nat.beq md 0 then sts.any (fun h => Nat.beq h.1 pc) else false) with
    | true =>
      rw [hc] at h
      obtain ⟨s, hm, hpc, ρ1, g1, a1⟩ := mz_cut2_ok G (show mz_cut2 G q sts pc k hs = some hs' from h) hg
      rw [← hpc]
      exact hK s hm ρ1 L st M g1 ⟨fun i hi' => (a1 i hi').trans (hi.1 i hi'), hi.2⟩
    | false =>
      rw [hc] at h
      simp only [cond_false] at h
      split at h
      · next s hs1 =>
        split at h
        · next ks hs2 hsp =>
          obtain ⟨k', hk', g'⟩ : ∃ k' ∈ ks, mz_g G ρ k' L st M := by
            split at hsp
            · exact mz_ast2_ok G hsp hg
            · exact mz_split_ok G hsp hg
          obtain ⟨x, y, hxy⟩ := mz_fold_ok _ _ _ h (pc, k') (List.mem_map.mpr ⟨k', hk', rfl⟩)
          exact ih 2 pc k' x y hxy ρ L st M g' hi hρ
        · cases h
      · split at h
        · cases h
        · next o ho =>
          rw [mq_R_eq]
          have hstp : mq_stp P q.1 pc L st (M, z, u) = mq_ex o L st (M, z, u) := by
            unfold mq_stp
            rw [ho]
          rw [hstp]
          split at h
          · next fn hfn =>
            split at h
            · next ss hs2 hss =>
              obtain ⟨g, hgo, hsd⟩ := mz_op_ok (mz_GS G q) hfn
              obtain ⟨pc', L', st', M', k', ρ', e1, e2, e3, e4, e5, e6⟩ := hsd nb o.2.1 o.2.2 k hs ss hs2 ρ L st M z u hss (Eq.mpr (mz_g_G G (G' := mz_GS G q) rfl rfl rfl) hg) (Eq.mpr (mz_sh_G G (G' := mz_GS G q) rfl rfl) hi.2.1)
              have e3 := Eq.mp (mz_g_G G (G' := mz_GS G q) rfl rfl rfl) e3
              have e5 := Eq.mp (mz_sh_G G (G' := mz_GS G q) rfl rfl) e5
              have hex' : mq_ex o L st (M, z, u) = some (.inl (pc', L', st', (M', z, u))) := by
                unfold mq_ex
                rw [hgo]
                exact e1
              rw [hex']
              obtain ⟨x, y, hxy⟩ := mz_fold_ok _ _ _ h (pc', k') e2
              exact ih 0 pc' k' x y hxy ρ' L' st' M' e3 ⟨fun i hi' => (e4 i (Nat.lt_of_lt_of_le hi' hnb)).trans (hi.1 i hi'), e5, hX M M' ⟨fun a ha => e6.1 a (mz_gs1 G q (hex a ha) ha), e6.2⟩ hi.2.2.1, fun a ha hw => (e6.1 a (mz_gs2 G q ha hw)).trans (hi.2.2.2.1 a ha hw), fun a ha => (e6.1 a (mz_gs1 G q (by omega) (h8 a ha))).trans (hi.2.2.2.2 a ha)⟩ (fun i hi' => (e4 i hi').trans (hρ i hi'))
            · cases h
          · split at h
            · next h66 =>
              split at h
              · next hk =>
                have hst : st = [] := by
                  have := hg.2.1
                  rw [hk] at this
                  cases st with
                  | nil => rfl
                  | cons a b => exact this.elim
                subst hst
                have hex' : mq_ex o L [] (M, z, u) = some (.inr (.inl (none, (M, z, u)))) := by
                  unfold mq_ex
                  rw [h66]
                  rfl
                rw [hex']
                exact hQ _ _ (mz_exit_ok G h hg hi hi.2.1 hi.2.2.1 (fun _ _ => rfl) htr ⟨rfl, rfl, rfl⟩)
              · cases h
            · next h67 =>
              unfold mz_rv at h
              split at h
              · next g e ns hk hns =>
                have hst := hg.2.1
                rw [hk] at hst
                obtain ⟨v, r1, rfl, hv, hr1⟩ := mz_gs_c G hst
                obtain ⟨x, rfl, hx⟩ := mz_gv_i G hv
                cases r1 with
                | cons a b => exact hr1.elim
                | nil =>
                  have hex' : mq_ex o L [.int x] (M, z, u) = some (.inr (.inl (some (.int x), (M, z, u)))) := by
                    unfold mq_ex
                    rw [h67]
                    show mq_o_retv o.2.1 o.2.2 L [.int x] (M, z, u) = _
                    rw [hns]
                    rfl
                  rw [hex']
                  exact hQ _ _ (mz_exit_ok G h hg hi hi.2.1 hi.2.2.1 (fun _ _ => rfl) htr ⟨x, rfl, hx, rfl, rfl⟩)
              · next g e ns hk hns =>
                split at h
                · next h1 h2 hs2 =>
                  obtain ⟨p1, h⟩ := mz_bif4 h
                  obtain ⟨p2, h⟩ := mz_bif4 h
                  have hst := hg.2.1
                  rw [hk] at hst
                  obtain ⟨v, r1, rfl, hv, hr1⟩ := mz_gs_c G hst
                  obtain ⟨x, rfl, hx⟩ := mz_gv_i G hv
                  cases r1 with
                  | cons a b => exact hr1.elim
                  | nil =>
                    have q1 := mz_pv_spec hg.2.2.2 p1
                    have q2 := mz_pv_hi hg.2.2.2 p2
                    have hb : x = 0 ∨ x = 1 := by
                      rw [mz_eq0, mz_eq0 (y := 1), mz_z0]
                      have e3 : (1 : Int32).toInt = 1 := rfl
                      rw [e3]
                      omega
                    have hex' : mq_ex o L [.int x] (M, z, u) = some (.inr (.inl (some (.int x), (M, z, u)))) := by
                      unfold mq_ex
                      rw [h67]
                      show mq_o_retv o.2.1 o.2.2 L [.int x] (M, z, u) = _
                      rw [hns]
                      show (if mq_fit 1 (.int x) = true then _ else (none : Option mq_O)) = _
                      rw [if_pos (show mq_fit 1 (.int x) = true from decide_eq_true hb)]
                    rw [hex']
                    exact hQ _ _ (mz_exit_ok G h hg hi hi.2.1 hi.2.2.1 (fun _ _ => rfl) htr ⟨x, rfl, hx, rfl, rfl⟩)
                · cases h
              · next g e ns hk hns =>
                have hst := hg.2.1
                rw [hk] at hst
                obtain ⟨v, r1, rfl, hv, hr1⟩ := mz_gs_c G hst
                obtain ⟨b, rfl, hb, -⟩ := mz_gv_r G hv
                cases r1 with
                | cons a b => exact hr1.elim
                | nil =>
                  have hex' : mq_ex o L [.ref b] (M, z, u) = some (.inr (.inl (some (.ref b), (M, z, u)))) := by
                    unfold mq_ex
                    rw [h67]
                    show mq_o_retv o.2.1 o.2.2 L [.ref b] (M, z, u) = _
                    rw [hns]
                    rfl
                  rw [hex']
                  exact hQ _ _ (mz_exit_ok G h hg hi hi.2.1 hi.2.2.1 (fun _ _ => rfl) htr ⟨b, rfl, hb, rfl, rfl⟩)
              · cases h
            · next h68 =>
              split at h
              · next e ns hns =>
                obtain ⟨p1, h⟩ := mz_bif4 h
                have hwt : mq_wt st ≤ 8 := by
                  have h1 := mz_wt_le G _ _ hg.2.1
                  have h2 := Nat.le_of_ble_eq_true p1
                  omega
                have hex' : mq_ex o L st (M, z, u) = some (.inr (.inr (.inl (z, (va_up M z (e, []), z + 1, u + 6))))) := by
                  unfold mq_ex
                  rw [h68]
                  show mq_o_throw o.2.1 o.2.2 L st (M, z, u) = _
                  rw [hns]
                  show (if mq_wt st ≤ 8 then _ else (none : Option mq_O)) = _
                  rw [if_pos hwt]
                rw [hex']
                have hlow : ∀ a, a < 272 → va_up M z (e, []) a = M a := fun a ha => va_up_ne _ _ (by omega)
                refine hQ _ _ (mz_exit_ok G h hg hi (S := (va_up M z (e, []), z + 1, u + 6)) ?_ ?_ hlow htr ⟨rfl, by show (va_up M z (e, []) z).1 = e; rw [va_up_self], rfl, rfl⟩)
                · intro a c hc
                  show (va_up M z (e, []) a).1 = _ ∧ _
                  have h1 := hi.2.1 a c hc
                  rw [← hlow a (htb a c hc)] at h1
                  exact h1
                · exact hX M _ ⟨fun a ha => hlow a (hex a ha), fun t ht => by show ((va_up M z (e, [])) t.1).2[t.2]? = _; rw [hlow t.1 (hfz t ht)]⟩ hi.2.2.1
              · cases h
            · split at h
              · next ss hs2 hcall =>
                have hcov : ∀ (d' n : Nat) (rs : List Value), d = d' + 1 → ∀ (ρ3 : Nat → Int) (S : mq_S) (r : Option Value ⊕ Nat), mz_iv G X q ρ0 M0 ρ3 S.1 → (∀ i, i < nb → ρ3 i = ρ i) → mz_cov G P X q pc n ss ρ0 M0 z u ρ3 L rs r S → mq_after P (d' + 1) q.1 pc n L rs Q r S := by
                  intro d' n rs hdd ρ3 S r hi3 h3 hcv
                  rcases r with v | a
                  · obtain ⟨hz1, hu1, k', hk', g'⟩ := hcv
                    obtain ⟨x, y, hxy⟩ := mz_fold_ok _ _ _ h (n, k') hk'
                    have := ih 0 n k' x y hxy ρ3 L (v.toList ++ rs) S.1 g' hi3 (fun i hi' => (h3 i hi').trans (hρ i hi'))
                    show mq_R P (d' + 1) q.1 n L (v.toList ++ rs) S _
                    rw [← hdd]
                    obtain ⟨S1, S2, S3⟩ := S
                    cases hz1
                    cases hu1
                    exact this
                  · rcases hcv with ⟨hh, k', a1, a2, a3, a4, a5⟩ | ⟨a1, a2, a3⟩
                    · rw [mq_nh_hd P hnh] at a1
                      cases a1
                    · show (match mq_hd P q.1 pc (S.1 a).1 with
                        | some h => mq_R P (d' + 1) q.1 h L [.ref a] S _
                        | none => mq_nh P q.1 = true ∧ _)
                      rw [a1]
                      exact ⟨a2, hQ _ _ a3⟩
                unfold mz_call at hcall
                split at hcall
                · next n j c mx ns h60 hns =>
                  obtain ⟨p1, hcall⟩ := mz_bif4 hcall
                  obtain ⟨t1, t2⟩ := mz_gs_take G c _ _ hg.2.1
                  have t3 := mz_gs_rev G _ _ t1
                  cases d with
                  | zero =>
                    exfalso
                    unfold mz_call1 at hcall
                    split at hcall
                    · split at hcall
                      · obtain ⟨_, hcall⟩ := mz_bif4 hcall
                        obtain ⟨pd, _⟩ := mz_bif4 hcall
                        have := Nat.le_of_ble_eq_true pd
                        omega
                      · cases hcall
                    · cases hcall
                  | succ d' =>
                    obtain ⟨r1, r2, r3⟩ := mz_call1_ok G P X htr hC hcall hg.1 t3 t2 hg.2.2.1 hg.2.2.2 hi hz hd hnb (hcov d' n (st.drop c) rfl)
                    have hex' : mq_ex o L st (M, z, u) = some (.inr (.inr (.inr (j, (st.take c).reverse, n, L, st.drop c, (M, z, u))))) := by
                      unfold mq_ex
                      rw [h60]
                      show mq_o_static o.2.1 o.2.2 L st (M, z, u) = _
                      rw [hns]
                      show (if c ≤ st.length ∧ mq_wt (st.drop c) ≤ 8 ∧ (mq_sp (st.take c).reverse).length ≤ mx then _ else (none : Option mq_O)) = _
                      rw [if_pos ⟨by rw [mz_gs_len G _ _ hg.2.1]; exact Nat.le_of_ble_eq_true p1, r2, r3⟩]
                    rw [hex']
                    exact r1
                · next n j c ci mx ns h61 hns =>
                  split at hcall
                  · next g e r hdrop =>
                    obtain ⟨p1, hcall⟩ := mz_bif4 hcall
                    obtain ⟨t1, t2⟩ := mz_gs_take G c _ _ hg.2.1
                    have t3 := mz_gs_rev G _ _ t1
                    rw [hdrop] at t2
                    obtain ⟨v, rs, hdst, hv, hrs⟩ := mz_gs_c G t2
                    obtain ⟨b, rfl, hb, hb2⟩ := mz_gv_r G hv
                    obtain ⟨cc, hcc, hkk⟩ := mz_all_ok G p1 hb
                    obtain ⟨m1, m2, m3⟩ := hi.2.1 b cc hcc
                    cases d with
                    | zero =>
                      exfalso
                      unfold mz_call1 at hcall
                      split at hcall
                      · split at hcall
                        · obtain ⟨_, hcall⟩ := mz_bif4 hcall
                          obtain ⟨pd, _⟩ := mz_bif4 hcall
                          have := Nat.le_of_ble_eq_true pd
                          omega
                        · cases hcall
                      · cases hcall
                    | succ d' =>
                      obtain ⟨r1, r2, r3⟩ := mz_call1_ok G P X htr hC hcall hg.1 (vs := .ref b :: (st.take c).reverse) ⟨hv, t3⟩ hrs hg.2.2.1 hg.2.2.2 hi hz hd hnb (hcov d' n rs rfl)
                      have hex' : mq_ex o L st (M, z, u) = some (.inr (.inr (.inr (j, .ref b :: (st.take c).reverse, n, L, rs, (M, z, u))))) := by
                        unfold mq_ex
                        rw [h61]
                        show mq_o_virtual o.2.1 o.2.2 L st (M, z, u) = _
                        rw [hns]
                        unfold mq_o_virtual
                        simp only [hdst]
                        rw [if_pos ⟨m1.trans (Nat.eq_of_beq_eq_true hkk), r2, r3⟩]
                      rw [hex']
                      exact r1
                  · cases hcall
                · cases hcall
              · cases h
end VCB
