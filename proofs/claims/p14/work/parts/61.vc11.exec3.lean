/-! THE CHECKER: the run of a method. -/
section VCZ
variable (G : mz_G)
/-- everything that stays the same in a run of the method q -/
def mz_iv (X : (Nat → mq_C) → Prop) (q : mz_Q) (ρ0 : Nat → Int) (M0 : Nat → mq_C) (ρ : Nat → Int) (M : Nat → mq_C) : Prop := (∀ i, i < mz_n0 G q → ρ i = ρ0 i) ∧ mz_sh G M ∧ X M ∧ mz_fr q M0 M ∧ ∀ a, a < 8 → M a = M0 a
/-! out of the method -/
def mz_exit (q : mz_Q) (k : mz_K) (v : Option mz_V) (tag g : Nat) (hs : List mz_H) : Option (List mz_H) := match hs with
  | (ci, _) :: hs => match q.2.2.2.2.1[ci]? with
    | some p => bif Nat.beq p.1 tag then bif (match tag, v with
        | 0, some a => Nat.beq a.1 0
        | 1, some a => bif Nat.beq a.1 1 then mz_subs (G.2.1 a.2.1) (G.2.1 p.2.1) else false
        | 3, none => true
        | 5, none => Nat.beq p.2.1 g
        | _, _ => false) then bif mz_un1 q.2.2.2.1 (mz_np q) 0 k.2.2.1 then bif Nat.beq k.2.2.1.length G.2.2.1.length then bif q.2.2.2.1.all (fun j => Nat.blt j k.2.2.1.length) then
          mz_pvs k.2.2.2.1 (mz_th (mz_n0 G q) (mz_mo q.2.2.2.1 k.2.2.1 ++ [match v with
            | some a => a.2.2
            | none => (0, [])])) p.2.2 hs else none else none else none else none else none
    | none => none
  | [] => none
theorem mz_mo_get {ms : List Nat} {es : List mz_E} {i j : Nat} {e : mz_E} (h1 : ms[i]? = some j) (h2 : es[j]? = some e) : (mz_mo ms es)[i]? = some e := by
  unfold mz_mo
  rw [List.getElem?_map, h1]
  show some (es.getD j (0, [])) = some e
  rw [List.getD_eq_getElem?_getD, h2]
  rfl
theorem mz_mo_len {ms : List Nat} {es : List mz_E} : (mz_mo ms es).length = ms.length := List.length_map ..
theorem mz_exit_ok {X : (Nat → mq_C) → Prop} {q : mz_Q} {k : mz_K} {v : Option mz_V} {tag g : Nat} {hs hs' : List mz_H} {ρ0 ρ : Nat → Int} {M0 M : Nat → mq_C} {L : mq_L} {st : List Value} {r : Option Value ⊕ Nat} {S : mq_S} {z u : Nat} (h : mz_exit G q k v tag g hs = some hs') (hg : mz_g G ρ k L st M) (hi : mz_iv G X q ρ0 M0 ρ M) (hS1 : mz_sh G S.1) (hX : X S.1) (hS : ∀ a, a < 272 → S.1 a = M a) (htr : ∀ t ∈ G.2.2.1, t.1 < 272)
    (hr : match tag, v with
      | 0, some a => ∃ x, r = .inl (some (.int x)) ∧ x.toInt = mz_ev ρ a.2.2 ∧ S.2.1 = z ∧ S.2.2 = u
      | 1, some a => ∃ b, r = .inl (some (.ref b)) ∧ b ∈ G.2.1 a.2.1 ∧ S.2.1 = z ∧ S.2.2 = u
      | 3, _ => r = .inl none ∧ S.2.1 = z ∧ S.2.2 = u
      | 5, _ => r = .inr z ∧ (S.1 z).1 = g ∧ S.2.1 = z + 1 ∧ S.2.2 = u + 6
      | _, _ => True) : mz_po G X q ρ0 M0 z u r S := by
  unfold mz_exit at h
  split at h
  · next ci w hs =>
    split at h
    · next p hp =>
      obtain ⟨p1, h⟩ := mz_bif4 h
      obtain ⟨p2, h⟩ := mz_bif4 h
      obtain ⟨p3, h⟩ := mz_bif4 h
      obtain ⟨p4, h⟩ := mz_bif4 h
      obtain ⟨p5, h⟩ := mz_bif4 h
      have hpv := mz_pvs_ok hg.2.2.2 _ _ _ h
      have hlen : k.2.2.1.length = G.2.2.1.length := Nat.eq_of_beq_eq_true p4
      have hlo : ∀ i, i < mz_n0 G q → mz_ev ρ (mz_th (mz_n0 G q) (mz_mo q.2.2.2.1 k.2.2.1 ++ [match v with
            | some a => a.2.2
            | none => (0, [])]) i) = ρ i := fun i hi => mz_th_lo hi
      have htag : p.1 = tag := Nat.eq_of_beq_eq_true p1
      refine ⟨_, fun i hi' => (hlo i hi').trans (hi.1 i hi'), hS1, hX, fun a ha hw => (hS a ha).trans (hi.2.2.2.1 a ha hw), fun a ha => (hS a (by omega)).trans (hi.2.2.2.2 a ha), ?_, p, List.mem_of_getElem? hp, hpv, ?_⟩
      · have h1 := mz_nt_ok G (ρ := ρ) (ρ' := fun i => mz_ev ρ (mz_th (mz_n0 G q) (mz_mo q.2.2.2.1 k.2.2.1 ++ [match v with
            | some a => a.2.2
            | none => (0, [])]) i)) (M := M) (ms := q.2.2.2.1) (np := mz_np q) (n0 := mz_n0 G q) (b := mz_n0 G q) (es0 := k.2.2.1) hlo (by
              intro i j e h1 h2
              show mz_ev ρ _ = _
              refine mz_th_hi ?_
              rw [List.getElem?_append_left]
              · exact mz_mo_get h1 h2
              · rw [mz_mo_len]; exact (List.getElem?_eq_some_iff.mp h1).1) G.2.2.1 k.2.2.1 0 (fun i => by rw [Nat.zero_add]) (fun i hi => by show q.2.1.length + (0 + i) < q.2.1.length + G.2.2.1.length; omega) p3 hg.2.2.1
        have key : ∀ (ts : List (Nat × Nat)) (es : List mz_E) (ρ1 : Nat → Int), (∀ t ∈ ts, t.1 < 272) → mz_gt G ρ1 M ts es → mz_gt G ρ1 S.1 ts es := by
          intro ts
          induction ts with
          | nil => intro es ρ1 _ h; cases es with
            | nil => exact h
            | cons x es => exact h
          | cons t ts ih =>
            intro es ρ1 hn h
            cases es with
            | nil => exact h
            | cons x es =>
              refine ⟨?_, ih es ρ1 (fun t ht => hn t (List.mem_cons_of_mem _ ht)) h.2⟩
              have h0 := h.1
              unfold mz_gt1 at h0 ⊢
              rw [hS _ (hn t (List.mem_cons_self ..))]
              exact h0
        exact key _ _ _ htr h1
      · have hres : ∀ a, v = some a → mz_ev ρ (mz_th (mz_n0 G q) (mz_mo q.2.2.2.1 k.2.2.1 ++ [match v with
            | some a => a.2.2
            | none => (0, [])]) (mz_n0 G q + q.2.2.2.1.length)) = mz_ev ρ a.2.2 := by
          intro a ha
          refine mz_th_hi ?_
          rw [List.getElem?_append_right (by rw [mz_mo_len]; exact Nat.le_refl _), mz_mo_len, Nat.sub_self, ha]
          rfl
        unfold mz_re
        rw [htag]
        split at p2
        · next a =>
          obtain ⟨x, rfl, hx, hz, hu⟩ := hr
          exact ⟨by rw [hx]; exact (hres _ rfl).symm, hz, hu⟩
        · next a =>
          obtain ⟨b, rfl, hb, hz, hu⟩ := hr
          obtain ⟨_, p2b⟩ := mz_bif p2
          exact ⟨mz_subs_ok p2b hb, hz, hu⟩
        · obtain ⟨rfl, hz, hu⟩ := hr
          exact ⟨hz, hu⟩
        · obtain ⟨rfl, hk, hz, hu⟩ := hr
          exact ⟨rfl, by rw [hk]; exact (Nat.eq_of_beq_eq_true p2).symm, hz, hu⟩
        · cases p2
    · cases h
  · cases h
/-! to the head of a loop -/
def mz_ef (q : mz_Q) : List mz_E := q.2.2.1 ++ (mz_prs G 0 q.2.1 ++ mz_trs G (mz_np q) G.2.2.1)
def mz_cut (q : mz_Q) (hds : List mz_Hd) (old : Option mz_E) (pc : Nat) (k : mz_K) (hs : List mz_H) : Option (List mz_H) := match hs, k.2.1 with
  | (i, _) :: hs, [] => match hds[i]? with
    | some hd => bif Nat.beq hd.1 pc then bif mz_mts G hd.2.1 k.1 then bif mz_un1 q.2.2.2.1 (mz_np q) 0 k.2.2.1 then (match mz_pvs k.2.2.2.1 (mz_th (mz_n0 G q) (k.1.map (fun a => a.2.2) ++ mz_mo q.2.2.2.1 k.2.2.1)) hd.2.2.1 hs with
        | some (h1 :: hs) => bif mz_pv k.2.2.2.1 h1 (mz_sbs (mz_th (mz_n0 G q) (k.1.map (fun a => a.2.2) ++ mz_mo q.2.2.2.1 k.2.2.1)) hd.2.2.2) then (match old with
            | none => some hs
            | some e => match hs with
              | h2 :: hs => bif mz_pv k.2.2.2.1 h2 (mz_add (mz_add (-1, []) e) (mz_mul (-1) (mz_sbs (mz_th (mz_n0 G q) (k.1.map (fun a => a.2.2) ++ mz_mo q.2.2.2.1 k.2.2.1)) hd.2.2.2))) then some hs else none
              | [] => none) else none
        | _ => none) else none else none else none
    | none => none
  | _, _ => none
theorem mz_mts_len : ∀ (ps : List (Nat × Nat)) (as : List mz_V), mz_mts G ps as = true → as.length = ps.length := by
  intro ps
  induction ps with
  | nil => intro as h; cases as with
    | nil => rfl
    | cons a as => cases h
  | cons p ps ih => intro as h; cases as with
    | nil => cases h
    | cons a as => show as.length + 1 = ps.length + 1; rw [ih as (mz_bif h).2]
theorem mz_cut_ok {q : mz_Q} {hds : List mz_Hd} {old : Option mz_E} {pc : Nat} {k : mz_K} {hs hs' : List mz_H} {ρ0 ρ : Nat → Int} {M : Nat → mq_C} {L : mq_L} {st : List Value} (h : mz_cut G q hds old pc k hs = some hs') (hg : mz_g G ρ k L st M) (hm : mz_sh G M) (hlo : ∀ i, i < mz_n0 G q → ρ i = ρ0 i) (hE : ∀ f ∈ mz_ef G q, 0 ≤ mz_ev ρ0 f) (hW : mz_wfl (mz_n0 G q) (mz_ef G q) = true) : st = [] ∧ ∃ hd ∈ hds, hd.1 = pc ∧ ∃ ρ1, mz_g G ρ1 (mz_hk G q hd) L [] M ∧ (∀ i, i < mz_n0 G q → ρ1 i = ρ0 i) ∧ 0 ≤ mz_ev ρ1 hd.2.2.2 ∧ ∀ e, old = some e → mz_ev ρ1 hd.2.2.2 ≤ mz_ev ρ e - 1 := by
  unfold mz_cut at h
  split at h
  · next i w hs hk =>
    have hst : st = [] := by
      have := hg.2.1
      rw [hk] at this
      cases st with
      | nil => rfl
      | cons a b => exact this.elim
    refine ⟨hst, ?_⟩
    split at h
    · next hd hhd =>
      obtain ⟨p1, h⟩ := mz_bif4 h
      obtain ⟨p2, h⟩ := mz_bif4 h
      obtain ⟨p3, h⟩ := mz_bif4 h
      split at h
      · next h1 hs1 hpv =>
        obtain ⟨p4, h⟩ := mz_bif4 h
        have hlen := mz_mts_len G _ _ p2
        have hfs := mz_pvs_ok hg.2.2.2 _ _ _ hpv
        have q4 := mz_pv_spec hg.2.2.2 p4
        rw [mz_sbs_ev] at q4
        have hlo1 : ∀ i, i < mz_n0 G q → mz_ev ρ (mz_th (mz_n0 G q) (k.1.map (fun a => a.2.2) ++ mz_mo q.2.2.2.1 k.2.2.1) i) = ρ i := fun i hi => mz_th_lo hi
        have hmo : ∀ i j e, q.2.2.2.1[i]? = some j → k.2.2.1[j]? = some e → mz_ev ρ (mz_th (mz_n0 G q) (k.1.map (fun a => a.2.2) ++ mz_mo q.2.2.2.1 k.2.2.1) (mz_n0 G q + hd.2.1.length + i)) = mz_ev ρ e := by
          intro i j e h1 h2
          rw [Nat.add_assoc]
          refine mz_th_hi ?_
          rw [List.getElem?_append_right (by rw [List.length_map, hlen]; omega), List.length_map, hlen, Nat.add_sub_cancel_left]
          exact mz_mo_get h1 h2
        obtain ⟨l1, l2⟩ := mz_mts_l G (ρ := ρ) (ρ' := fun v => mz_ev ρ (mz_th (mz_n0 G q) (k.1.map (fun a => a.2.2) ++ mz_mo q.2.2.2.1 k.2.2.1) v)) hd.2.1 k.1 L (mz_n0 G q) p2 (fun i a ha => by
          refine mz_th_hi ?_
          rw [List.getElem?_append_left (by rw [List.length_map]; exact (List.getElem?_eq_some_iff.mp ha).1), List.getElem?_map, ha]
          rfl) hg.1
        have t1 := mz_nt_ok G (ρ := ρ) (ρ' := fun v => mz_ev ρ (mz_th (mz_n0 G q) (k.1.map (fun a => a.2.2) ++ mz_mo q.2.2.2.1 k.2.2.1) v)) (M := M) (ms := q.2.2.2.1) (np := mz_np q) (n0 := mz_n0 G q) (b := mz_n0 G q + hd.2.1.length) (es0 := k.2.2.1) hlo1 hmo G.2.2.1 k.2.2.1 0 (fun i => by rw [Nat.zero_add]) (fun i hi => by show q.2.1.length + (0 + i) < q.2.1.length + G.2.2.1.length; omega) p3 hg.2.2.1
        have r1 := mz_mr_ok G (ρ := fun v => mz_ev ρ (mz_th (mz_n0 G q) (k.1.map (fun a => a.2.2) ++ mz_mo q.2.2.2.1 k.2.2.1) v)) hm q.2.2.2.1 (mz_n0 G q + hd.2.1.length) (fun i j t h1 h2 => by
          obtain ⟨e, he, hgt⟩ := mz_gt_get G _ _ j t hg.2.2.1 h2
          refine mz_gt1_x G ?_ hgt
          rw [mz_vr_ev]
          exact hmo i j e h1 he)
        have hef : ∀ f ∈ mz_ef G q, 0 ≤ mz_ev (fun v => mz_ev ρ (mz_th (mz_n0 G q) (k.1.map (fun a => a.2.2) ++ mz_mo q.2.2.2.1 k.2.2.1) v)) f := mz_fs_e (ρ := ρ0) (n := mz_n0 G q) (fun i hi => (hlo1 i hi).trans (hlo i hi)) _ hW hE
        refine ⟨hd, List.mem_of_getElem? hhd, Nat.eq_of_beq_eq_true p1, _, ⟨l1, trivial, t1, mz_app_l hfs (mz_app_l l2 (mz_app_l r1 hef))⟩, fun i hi => (hlo1 i hi).trans (hlo i hi), q4, ?_⟩
        intro e he
        subst he
        simp only at h
        split at h
        · next h2 hs2 =>
          obtain ⟨p5, h⟩ := mz_bif4 h
          have q5 := mz_pv_spec hg.2.2.2 p5
          rw [mz_add_ev, mz_m1, mz_ng, mz_sbs_ev] at q5
          omega
        · cases h
      · cases h
    · cases h
  · cases h
end VCZ
