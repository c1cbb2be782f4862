/-! BY HAND: calls; tracked slots that are the same. -/
section HG
variable {d k pc n z u : Nat} {L : mq_L} {st : List Value} {M : Nat → mq_C} {Q : (Option Value ⊕ Nat) → mq_S → Prop}
theorem he_v0 {j ci mx a : Nat} {ns : List Nat} (hat : mq_at mq_PP k pc = some (61, n :: j :: 0 :: ci :: mx :: ns, [])) (hk : (M a).1 = ci) (hw : mq_wt st ≤ 8) (hm : (mq_sp [.ref a]).length ≤ mx) (h : mq_R mq_PP d j 0 (mq_en mq_PP j [.ref a]) [] (M, z, u) (mq_after mq_PP (d + 1) k pc n L st Q)) : mq_R mq_PP (d + 1) k pc L (.ref a :: st) (M, z, u) Q := by
  rw [mq_R_at hat, mq_y_v0 hk hw hm]
  exact h
theorem he_v1 {j ci mx a : Nat} {ns : List Nat} {v0 : Value} (hat : mq_at mq_PP k pc = some (61, n :: j :: 1 :: ci :: mx :: ns, [])) (hk : (M a).1 = ci) (hw : mq_wt st ≤ 8) (hm : (mq_sp [.ref a, v0]).length ≤ mx) (h : mq_R mq_PP d j 0 (mq_en mq_PP j [.ref a, v0]) [] (M, z, u) (mq_after mq_PP (d + 1) k pc n L st Q)) : mq_R mq_PP (d + 1) k pc L (v0 :: .ref a :: st) (M, z, u) Q := by
  rw [mq_R_at hat, mq_y_v1 hk hw hm]
  exact h
theorem he_v2 {j ci mx a : Nat} {ns : List Nat} {v0 v1 : Value} (hat : mq_at mq_PP k pc = some (61, n :: j :: 2 :: ci :: mx :: ns, [])) (hk : (M a).1 = ci) (hw : mq_wt st ≤ 8) (hm : (mq_sp [.ref a, v0, v1]).length ≤ mx) (h : mq_R mq_PP d j 0 (mq_en mq_PP j [.ref a, v0, v1]) [] (M, z, u) (mq_after mq_PP (d + 1) k pc n L st Q)) : mq_R mq_PP (d + 1) k pc L (v1 :: v0 :: .ref a :: st) (M, z, u) Q := by
  rw [mq_R_at hat, mq_y_v2 hk hw hm]
  exact h
theorem he_v3 {j ci mx a : Nat} {ns : List Nat} {v0 v1 v2 : Value} (hat : mq_at mq_PP k pc = some (61, n :: j :: 3 :: ci :: mx :: ns, [])) (hk : (M a).1 = ci) (hw : mq_wt st ≤ 8) (hm : (mq_sp [.ref a, v0, v1, v2]).length ≤ mx) (h : mq_R mq_PP d j 0 (mq_en mq_PP j [.ref a, v0, v1, v2]) [] (M, z, u) (mq_after mq_PP (d + 1) k pc n L st Q)) : mq_R mq_PP (d + 1) k pc L (v2 :: v1 :: v0 :: .ref a :: st) (M, z, u) Q := by
  rw [mq_R_at hat, mq_y_v3 hk hw hm]
  exact h
theorem he_s1 {j mx : Nat} {ns : List Nat} {v0 : Value} (hat : mq_at mq_PP k pc = some (60, n :: j :: 1 :: mx :: ns, [])) (hw : mq_wt st ≤ 8) (hm : (mq_sp [v0]).length ≤ mx) (h : mq_R mq_PP d j 0 (mq_en mq_PP j [v0]) [] (M, z, u) (mq_after mq_PP (d + 1) k pc n L st Q)) : mq_R mq_PP (d + 1) k pc L (v0 :: st) (M, z, u) Q := by
  rw [mq_R_at hat, mq_y_s1 hw hm]
  exact h
theorem he_s2 {j mx : Nat} {ns : List Nat} {v0 v1 : Value} (hat : mq_at mq_PP k pc = some (60, n :: j :: 2 :: mx :: ns, [])) (hw : mq_wt st ≤ 8) (hm : (mq_sp [v0, v1]).length ≤ mx) (h : mq_R mq_PP d j 0 (mq_en mq_PP j [v0, v1]) [] (M, z, u) (mq_after mq_PP (d + 1) k pc n L st Q)) : mq_R mq_PP (d + 1) k pc L (v1 :: v0 :: st) (M, z, u) Q := by
  rw [mq_R_at hat, mq_y_s2 hw hm]
  exact h
end HG
theorem hb_kd {M : Nat → mq_C} {a : Nat} {c : mz_Ce} (hm : mz_sh mz_GG M) (hc : mz_GG.1 a = some c) : (M a).1 = c.1 := (hm a c hc).1
/-- tracked slots are the same, by a check of all of them -/
theorem hb_same_of {q : mz_Q} {M M' : Nat → mq_C} (chk : Nat × Nat → Bool) (h : ∀ t : Nat × Nat, chk t = true → hv M' t.1 t.2 = hv M t.1 t.2) (hc : ((List.range mz_GG.2.2.1.length).all fun j => match mz_GG.2.2.1[j]?, mz_pos j q.2.2.2.1 with
    | some t, none => chk t
    | _, _ => true) = true) : hb_same mz_GG q M M' := by
  intro j t ht hp
  have h1 := List.all_eq_true.mp hc j (List.mem_range.mpr (List.getElem?_eq_some_iff.mp ht).1)
  rw [ht, hp] at h1
  exact h t h1
theorem hb_low {W : List Nat} {M M' : Nat → mq_C} (h : hb_only W M M') (hW : ∀ a ∈ W, 8 ≤ a) : ∀ a, a < 8 → M' a = M a := by
  intro a ha
  refine h a ?_
  cases hx : W.elem a with
  | false => rfl
  | true =>
    have := hW a (List.elem_iff.mp hx)
    omega
theorem he_v5 {d k pc n z u : Nat} {L : mq_L} {st : List Value} {M : Nat → mq_C} {Q : (Option Value ⊕ Nat) → mq_S → Prop} {j ci mx a : Nat} {ns : List Nat} {v0 v1 v2 v3 v4 : Value} (hat : mq_at mq_PP k pc = some (61, n :: j :: 5 :: ci :: mx :: ns, [])) (hk : (M a).1 = ci) (hw : mq_wt st ≤ 8) (hm : (mq_sp [.ref a, v0, v1, v2, v3, v4]).length ≤ mx) (h : mq_R mq_PP d j 0 (mq_en mq_PP j [.ref a, v0, v1, v2, v3, v4]) [] (M, z, u) (mq_after mq_PP (d + 1) k pc n L st Q)) : mq_R mq_PP (d + 1) k pc L (v4 :: v3 :: v2 :: v1 :: v0 :: .ref a :: st) (M, z, u) Q := by
  rw [mq_R_at hat, mq_y_v5 hk hw hm]
  exact h
