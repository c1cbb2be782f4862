/-! sum of the class and of the model, exactly. -/
def xsh (c : Int32) : Int32 := (c.toUInt32 >>> ((1 : Int32).toUInt32 &&& Int32.toUInt32 31)).toInt32
def xk1 (c : Int32) : Int32 := if (c &&& 1).toInt = 1 then xsh c ^^^ Int32.ofInt (-306674912) else xsh c
def xk8 : Nat → Int32 → Int32
  | 0, c => c
  | k + 1, c => xk8 k (xk1 c)
def xks : List Int → Int32 → Int32
  | [], c => c
  | x :: l, c => xks l (xk8 8 (c ^^^ Int32.ofInt x))
def xsum (o : List Int) : Int32 := xks o (Int32.ofInt (-1)) ^^^ Int32.ofInt (-1)
theorem xe_oi {v : Int32} {c : Int} (h : v.toInt = c) : v = Int32.ofInt c := by
  rw [← h, Int32.ofInt_toInt]
theorem xj_sum_k {d z u : Nat} {M : Nat → mq_C} {Q : (Option Value ⊕ Nat) → mq_S → Prop} {i : Int32} {R : Int32} (hm : mz_sh mz_GG M) (K : ∀ k3 : Int32, mq_R mq_PP d 93 55 [some (.ref 9), some (.int R), some (.int i), some (.int k3)] [] (M, z, u) Q) : ∀ (m : Nat) (c kk : Int32), kk.toInt + (m : Int) = 8 → 0 ≤ kk.toInt → xk8 m c = R → mq_R mq_PP d 93 23 [some (.ref 9), some (.int c), some (.int i), some (.int kk)] [] (M, z, u) Q := by
  intro m
  induction m with
  | zero =>
    intro c kk e1 e2 hR
    obtain rfl : c = R := hR
    refine he_iload (n := 24) (i := 3) (by decide +kernel) rfl ?_
    refine he_iconst (n := 26) (c := 8) (by decide +kernel) (by decide) ?_
    intro c24 hc24
    refine he_cmpge_t (n := 29) (t := 55) (by decide +kernel) (by omega) ?_
    exact K kk
  | succ m ih =>
    intro c kk e1 e2 hR
    have hR : xk8 m (xk1 c) = R := hR
    refine he_iload (n := 24) (i := 3) (by decide +kernel) rfl ?_
    refine he_iconst (n := 26) (c := 8) (by decide +kernel) (by decide) ?_
    intro c24 hc24
    refine he_cmpge_f (n := 29) (t := 55) (by decide +kernel) (by omega) ?_
    refine he_iload (n := 30) (i := 1) (by decide +kernel) rfl ?_
    refine he_iconst (n := 31) (c := 1) (by decide +kernel) (by decide) ?_
    intro c30 hc30
    refine he_ex2 (o := 12) (n := 32) (by decide +kernel) rfl ?_
    intro v31 hv31
    have ev31 : v31 = c &&& c30 := hv31
    have bv31 := mz_i32 v31
    refine he_iconst (n := 33) (c := 1) (by decide +kernel) (by decide) ?_
    intro c32 hc32
    obtain rfl : c30 = 1 := by rw [he_eqi]; exact hc30
    by_cases h33 : v31.toInt = 1
    · skip
      refine he_cmpne_f (n := 36) (t := 45) (by decide +kernel) (by omega) ?_
      refine he_iload (n := 37) (i := 1) (by decide +kernel) rfl ?_
      refine he_iconst (n := 38) (c := 1) (by decide +kernel) (by decide) ?_
      intro c37 hc37
      refine he_ex2 (o := 17) (n := 39) (by decide +kernel) rfl ?_
      intro v38 hv38
      have ev38 : v38 = (c.toUInt32 >>> (c37.toUInt32 &&& Int32.toUInt32 31)).toInt32 := hv38
      have bv38 := mz_i32 v38
      refine he_iconst (n := 41) (c := -306674912) (by decide +kernel) (by decide) ?_
      intro c39 hc39
      refine he_ex2 (o := 14) (n := 42) (by decide +kernel) rfl ?_
      intro v41 hv41
      have ev41 : v41 = v38 ^^^ c39 := hv41
      have bv41 := mz_i32 v41
      refine he_goto (t := 48) (by decide +kernel) ?_
      refine he_istore (n := 49) (i := 1) (by decide +kernel) rfl ?_
      refine he_iinc (n := 52) (i := 3) (c := 1) (L' := fun v => [some (.ref (9)), some (.int v41), some (.int i), some (.int v)]) (by decide +kernel) (by decide) rfl (fun _ => rfl) (by omega) (by omega) ?_
      intro i49 hi49
      refine he_goto (t := 23) (by decide +kernel) ?_
      refine ih _ _ (by omega) (by omega) ?_
      rw [← hR]
      congr 1
      unfold xk1
      rw [ev31] at h33
      rw [if_pos h33, ev41, ev38, xe_oi hc39, show c37 = 1 by rw [he_eqi]; exact hc37]
      rfl
    · skip
      refine he_cmpne_t (n := 36) (t := 45) (by decide +kernel) (by omega) ?_
      refine he_iload (n := 46) (i := 1) (by decide +kernel) rfl ?_
      refine he_iconst (n := 47) (c := 1) (by decide +kernel) (by decide) ?_
      intro c46 hc46
      refine he_ex2 (o := 17) (n := 48) (by decide +kernel) rfl ?_
      intro v47 hv47
      have ev47 : v47 = (c.toUInt32 >>> (c46.toUInt32 &&& Int32.toUInt32 31)).toInt32 := hv47
      have bv47 := mz_i32 v47
      refine he_istore (n := 49) (i := 1) (by decide +kernel) rfl ?_
      refine he_iinc (n := 52) (i := 3) (c := 1) (L' := fun v => [some (.ref (9)), some (.int v47), some (.int i), some (.int v)]) (by decide +kernel) (by decide) rfl (fun _ => rfl) (by omega) (by omega) ?_
      intro i49 hi49
      refine he_goto (t := 23) (by decide +kernel) ?_
      refine ih _ _ (by omega) (by omega) ?_
      rw [← hR]
      congr 1
      unfold xk1
      rw [ev31] at h33
      rw [if_neg h33, ev47, show c46 = 1 by rw [he_eqi]; exact hc46]
      rfl
theorem xj_sum_l {d z u : Nat} {M : Nat → mq_C} {Q : (Option Value ⊕ Nat) → mq_S → Prop} {o : List Int} (hm : mz_sh mz_GG M) (hL : hv M 9 1 = (o.length : Int)) (hO : ∀ i, i < o.length → hv M 10 i = o.getD i 0) (ho : o.length ≤ 200) (K : Q (.inl (some (.int (xsum o)))) (M, z, u)) : ∀ (m j : Nat) (c i : Int32) (o3 : Option Value), j + m = o.length → i.toInt = (j : Int) → xks (o.drop j) c = xks o (Int32.ofInt (-1)) → mq_R mq_PP d 93 4 [some (.ref 9), some (.int c), some (.int i), o3] [] (M, z, u) Q := by
  intro m
  induction m with
  | zero =>
    intro j c i o3 e1 e2 hR
    rw [List.drop_eq_nil_of_le (by omega)] at hR
    have hR : c = xks o (Int32.ofInt (-1)) := hR
    refine he_iload (n := 5) (i := 2) (by decide +kernel) rfl ?_
    refine he_aload (n := 6) (i := 0) (by decide +kernel) rfl ?_
    refine hb_gfd (n := 9) (ci := 8) (j := 1) (ns := [1068, 15]) hm (by decide +kernel) rfl rfl (by decide) rfl ?_
    intro v6 hv6 lv6 uv6
    have q6 : v6.toInt = (o.length : Int) := by rw [← hv6]; exact hL
    refine he_cmpge_t (n := 12) (t := 61) (by decide +kernel) (by omega) ?_
    refine he_iload (n := 62) (i := 1) (by decide +kernel) rfl ?_
    refine he_iconst (n := 63) (c := -1) (by decide +kernel) (by decide) ?_
    intro c62 hc62
    refine he_ex2 (o := 14) (n := 64) (by decide +kernel) rfl ?_
    intro v63 hv63
    have ev63 : v63 = c ^^^ c62 := hv63
    have bv63 := mz_i32 v63
    refine he_reti (by decide +kernel) ?_
    have e63 : v63 = xsum o := by rw [ev63, hR, xe_oi hc62]; rfl
    rw [e63]
    exact K
  | succ m ih =>
    intro j c i o3 e1 e2 hR
    refine he_iload (n := 5) (i := 2) (by decide +kernel) rfl ?_
    refine he_aload (n := 6) (i := 0) (by decide +kernel) rfl ?_
    refine hb_gfd (n := 9) (ci := 8) (j := 1) (ns := [1068, 15]) hm (by decide +kernel) rfl rfl (by decide) rfl ?_
    intro v6 hv6 lv6 uv6
    have q6 : v6.toInt = (o.length : Int) := by rw [← hv6]; exact hL
    refine he_cmpge_f (n := 12) (t := 61) (by decide +kernel) (by omega) ?_
    refine he_iload (n := 13) (i := 1) (by decide +kernel) rfl ?_
    refine he_aload (n := 14) (i := 0) (by decide +kernel) rfl ?_
    refine he_getr (n := 17) (ci := 8) (j := 0) (ns := [1065, 11]) (b := 10) hm (by decide +kernel) rfl rfl (by decide +kernel) ?_
    refine he_iload (n := 18) (i := 2) (by decide +kernel) rfl ?_
    refine hb_ld (n := 19) (kind := 64) hm (by decide +kernel) rfl rfl (.inl rfl) (by omega) (show _ < (200 : Int) by omega) hb_at1 ?_
    intro v18 hv18 lv18 uv18
    refine he_ex2 (o := 14) (n := 20) (by decide +kernel) rfl ?_
    intro v19 hv19
    have ev19 : v19 = c ^^^ v18 := hv19
    have bv19 := mz_i32 v19
    refine he_istore (n := 21) (i := 1) (by decide +kernel) rfl ?_
    refine he_iconst (n := 22) (c := 0) (by decide +kernel) (by decide) ?_
    intro c21 hc21
    refine he_istore (n := 23) (i := 3) (by decide +kernel) rfl ?_
    have q18 : v18 = Int32.ofInt (o.getD j 0) := xe_oi (by rw [← hv18, show i.toInt.toNat = j by omega]; exact hO j (by omega))
    refine xj_sum_k (R := xk8 8 v19) hm ?_ 8 _ _ (by omega) (by omega) rfl
    intro k3
    refine he_iinc (n := 58) (i := 2) (c := 1) (L' := fun v => [some (.ref (9)), some (.int (xk8 8 v19)), some (.int v), some (.int k3)]) (by decide +kernel) (by decide) rfl (fun _ => rfl) (by omega) (by omega) ?_
    intro i55 hi55
    refine he_goto (t := 4) (by decide +kernel) ?_
    refine ih (j + 1) _ _ _ (by omega) (by omega) ?_
    rw [← hR, List.drop_eq_getElem_cons (show j < o.length by omega)]
    show _ = xks (o.drop (j + 1)) (xk8 8 (c ^^^ Int32.ofInt (o[j]'(by omega))))
    rw [ev19, q18, List.getD_eq_getElem?_getD, List.getElem?_eq_getElem (show j < o.length by omega)]
    rfl
theorem xj_sum {d z u : Nat} {M : Nat → mq_C} {Q : (Option Value ⊕ Nat) → mq_S → Prop} {o : List Int} (hm : mz_sh mz_GG M) (hL : hv M 9 1 = (o.length : Int)) (hO : ∀ i, i < o.length → hv M 10 i = o.getD i 0) (ho : o.length ≤ 200) (K : Q (.inl (some (.int (xsum o)))) (M, z, u)) : mq_R mq_PP d 93 0 [some (.ref 9), none, none, none] [] (M, z, u) Q := by
  refine he_iconst (n := 1) (c := -1) (by decide +kernel) (by decide) ?_
  intro c0 hc0
  refine he_istore (n := 2) (i := 1) (by decide +kernel) rfl ?_
  refine he_iconst (n := 3) (c := 0) (by decide +kernel) (by decide) ?_
  intro c2 hc2
  refine he_istore (n := 4) (i := 2) (by decide +kernel) rfl ?_
  exact xj_sum_l hm hL hO ho K o.length 0 _ _ none (by omega) (by omega) (by rw [List.drop_zero, xe_oi hc0])
theorem xm_sum_k {d z u : Nat} {M : Nat → mq_C} {Q : (Option Value ⊕ Nat) → mq_S → Prop} {i : Int32} {R : Int32} (hm : mz_sh mz_GG M) (K : ∀ k3 : Int32, mq_R mq_PP d 121 55 [some (.ref 234), some (.int R), some (.int i), some (.int k3)] [] (M, z, u) Q) : ∀ (m : Nat) (c kk : Int32), kk.toInt + (m : Int) = 8 → 0 ≤ kk.toInt → xk8 m c = R → mq_R mq_PP d 121 23 [some (.ref 234), some (.int c), some (.int i), some (.int kk)] [] (M, z, u) Q := by
  intro m
  induction m with
  | zero =>
    intro c kk e1 e2 hR
    obtain rfl : c = R := hR
    refine he_iload (n := 24) (i := 3) (by decide +kernel) rfl ?_
    refine he_iconst (n := 26) (c := 8) (by decide +kernel) (by decide) ?_
    intro c24 hc24
    refine he_cmpge_t (n := 29) (t := 55) (by decide +kernel) (by omega) ?_
    exact K kk
  | succ m ih =>
    intro c kk e1 e2 hR
    have hR : xk8 m (xk1 c) = R := hR
    refine he_iload (n := 24) (i := 3) (by decide +kernel) rfl ?_
    refine he_iconst (n := 26) (c := 8) (by decide +kernel) (by decide) ?_
    intro c24 hc24
    refine he_cmpge_f (n := 29) (t := 55) (by decide +kernel) (by omega) ?_
    refine he_iload (n := 30) (i := 1) (by decide +kernel) rfl ?_
    refine he_iconst (n := 31) (c := 1) (by decide +kernel) (by decide) ?_
    intro c30 hc30
    refine he_ex2 (o := 12) (n := 32) (by decide +kernel) rfl ?_
    intro v31 hv31
    have ev31 : v31 = c &&& c30 := hv31
    have bv31 := mz_i32 v31
    refine he_iconst (n := 33) (c := 1) (by decide +kernel) (by decide) ?_
    intro c32 hc32
    obtain rfl : c30 = 1 := by rw [he_eqi]; exact hc30
    by_cases h33 : v31.toInt = 1
    · skip
      refine he_cmpne_f (n := 36) (t := 45) (by decide +kernel) (by omega) ?_
      refine he_iload (n := 37) (i := 1) (by decide +kernel) rfl ?_
      refine he_iconst (n := 38) (c := 1) (by decide +kernel) (by decide) ?_
      intro c37 hc37
      refine he_ex2 (o := 17) (n := 39) (by decide +kernel) rfl ?_
      intro v38 hv38
      have ev38 : v38 = (c.toUInt32 >>> (c37.toUInt32 &&& Int32.toUInt32 31)).toInt32 := hv38
      have bv38 := mz_i32 v38
      refine he_iconst (n := 41) (c := -306674912) (by decide +kernel) (by decide) ?_
      intro c39 hc39
      refine he_ex2 (o := 14) (n := 42) (by decide +kernel) rfl ?_
      intro v41 hv41
      have ev41 : v41 = v38 ^^^ c39 := hv41
      have bv41 := mz_i32 v41
      refine he_goto (t := 48) (by decide +kernel) ?_
      refine he_istore (n := 49) (i := 1) (by decide +kernel) rfl ?_
      refine he_iinc (n := 52) (i := 3) (c := 1) (L' := fun v => [some (.ref (234)), some (.int v41), some (.int i), some (.int v)]) (by decide +kernel) (by decide) rfl (fun _ => rfl) (by omega) (by omega) ?_
      intro i49 hi49
      refine he_goto (t := 23) (by decide +kernel) ?_
      refine ih _ _ (by omega) (by omega) ?_
      rw [← hR]
      congr 1
      unfold xk1
      rw [ev31] at h33
      rw [if_pos h33, ev41, ev38, xe_oi hc39, show c37 = 1 by rw [he_eqi]; exact hc37]
      rfl
    · skip
      refine he_cmpne_t (n := 36) (t := 45) (by decide +kernel) (by omega) ?_
      refine he_iload (n := 46) (i := 1) (by decide +kernel) rfl ?_
      refine he_iconst (n := 47) (c := 1) (by decide +kernel) (by decide) ?_
      intro c46 hc46
      refine he_ex2 (o := 17) (n := 48) (by decide +kernel) rfl ?_
      intro v47 hv47
      have ev47 : v47 = (c.toUInt32 >>> (c46.toUInt32 &&& Int32.toUInt32 31)).toInt32 := hv47
      have bv47 := mz_i32 v47
      refine he_istore (n := 49) (i := 1) (by decide +kernel) rfl ?_
      refine he_iinc (n := 52) (i := 3) (c := 1) (L' := fun v => [some (.ref (234)), some (.int v47), some (.int i), some (.int v)]) (by decide +kernel) (by decide) rfl (fun _ => rfl) (by omega) (by omega) ?_
      intro i49 hi49
      refine he_goto (t := 23) (by decide +kernel) ?_
      refine ih _ _ (by omega) (by omega) ?_
      rw [← hR]
      congr 1
      unfold xk1
      rw [ev31] at h33
      rw [if_neg h33, ev47, show c46 = 1 by rw [he_eqi]; exact hc46]
      rfl
theorem xm_sum_l {d z u : Nat} {M : Nat → mq_C} {Q : (Option Value ⊕ Nat) → mq_S → Prop} {o : List Int} (hm : mz_sh mz_GG M) (hL : hv M 234 25 = (o.length : Int)) (hO : ∀ i, i < o.length → hv M 253 i = o.getD i 0) (ho : o.length ≤ 200) (K : Q (.inl (some (.int (xsum o)))) (M, z, u)) : ∀ (m j : Nat) (c i : Int32) (o3 : Option Value), j + m = o.length → i.toInt = (j : Int) → xks (o.drop j) c = xks o (Int32.ofInt (-1)) → mq_R mq_PP d 121 4 [some (.ref 234), some (.int c), some (.int i), o3] [] (M, z, u) Q := by
  intro m
  induction m with
  | zero =>
    intro j c i o3 e1 e2 hR
    rw [List.drop_eq_nil_of_le (by omega)] at hR
    have hR : c = xks o (Int32.ofInt (-1)) := hR
    refine he_iload (n := 5) (i := 2) (by decide +kernel) rfl ?_
    refine he_aload (n := 6) (i := 0) (by decide +kernel) rfl ?_
    refine hb_gfd (n := 9) (ci := 9) (j := 25) (ns := [4202, 143]) hm (by decide +kernel) rfl rfl (by decide) rfl ?_
    intro v6 hv6 lv6 uv6
    have q6 : v6.toInt = (o.length : Int) := by rw [← hv6]; exact hL
    refine he_cmpge_t (n := 12) (t := 61) (by decide +kernel) (by omega) ?_
    refine he_iload (n := 62) (i := 1) (by decide +kernel) rfl ?_
    refine he_iconst (n := 63) (c := -1) (by decide +kernel) (by decide) ?_
    intro c62 hc62
    refine he_ex2 (o := 14) (n := 64) (by decide +kernel) rfl ?_
    intro v63 hv63
    have ev63 : v63 = c ^^^ c62 := hv63
    have bv63 := mz_i32 v63
    refine he_reti (by decide +kernel) ?_
    have e63 : v63 = xsum o := by rw [ev63, hR, xe_oi hc62]; rfl
    rw [e63]
    exact K
  | succ m ih =>
    intro j c i o3 e1 e2 hR
    refine he_iload (n := 5) (i := 2) (by decide +kernel) rfl ?_
    refine he_aload (n := 6) (i := 0) (by decide +kernel) rfl ?_
    refine hb_gfd (n := 9) (ci := 9) (j := 25) (ns := [4202, 143]) hm (by decide +kernel) rfl rfl (by decide) rfl ?_
    intro v6 hv6 lv6 uv6
    have q6 : v6.toInt = (o.length : Int) := by rw [← hv6]; exact hL
    refine he_cmpge_f (n := 12) (t := 61) (by decide +kernel) (by omega) ?_
    refine he_iload (n := 13) (i := 1) (by decide +kernel) rfl ?_
    refine he_aload (n := 14) (i := 0) (by decide +kernel) rfl ?_
    refine he_getr (n := 17) (ci := 9) (j := 26) (ns := [4203, 65]) (b := 253) hm (by decide +kernel) rfl rfl (by decide +kernel) ?_
    refine he_iload (n := 18) (i := 2) (by decide +kernel) rfl ?_
    refine hb_ld (n := 19) (kind := 64) hm (by decide +kernel) rfl rfl (.inl rfl) (by omega) (show _ < (201 : Int) by omega) hb_at1 ?_
    intro v18 hv18 lv18 uv18
    refine he_ex2 (o := 14) (n := 20) (by decide +kernel) rfl ?_
    intro v19 hv19
    have ev19 : v19 = c ^^^ v18 := hv19
    have bv19 := mz_i32 v19
    refine he_istore (n := 21) (i := 1) (by decide +kernel) rfl ?_
    refine he_iconst (n := 22) (c := 0) (by decide +kernel) (by decide) ?_
    intro c21 hc21
    refine he_istore (n := 23) (i := 3) (by decide +kernel) rfl ?_
    have q18 : v18 = Int32.ofInt (o.getD j 0) := xe_oi (by rw [← hv18, show i.toInt.toNat = j by omega]; exact hO j (by omega))
    refine xm_sum_k (R := xk8 8 v19) hm ?_ 8 _ _ (by omega) (by omega) rfl
    intro k3
    refine he_iinc (n := 58) (i := 2) (c := 1) (L' := fun v => [some (.ref (234)), some (.int (xk8 8 v19)), some (.int v), some (.int k3)]) (by decide +kernel) (by decide) rfl (fun _ => rfl) (by omega) (by omega) ?_
    intro i55 hi55
    refine he_goto (t := 4) (by decide +kernel) ?_
    refine ih (j + 1) _ _ _ (by omega) (by omega) ?_
    rw [← hR, List.drop_eq_getElem_cons (show j < o.length by omega)]
    show _ = xks (o.drop (j + 1)) (xk8 8 (c ^^^ Int32.ofInt (o[j]'(by omega))))
    rw [ev19, q18, List.getD_eq_getElem?_getD, List.getElem?_eq_getElem (show j < o.length by omega)]
    rfl
theorem xm_sum {d z u : Nat} {M : Nat → mq_C} {Q : (Option Value ⊕ Nat) → mq_S → Prop} {o : List Int} (hm : mz_sh mz_GG M) (hL : hv M 234 25 = (o.length : Int)) (hO : ∀ i, i < o.length → hv M 253 i = o.getD i 0) (ho : o.length ≤ 200) (K : Q (.inl (some (.int (xsum o)))) (M, z, u)) : mq_R mq_PP d 121 0 [some (.ref 234), none, none, none] [] (M, z, u) Q := by
  refine he_iconst (n := 1) (c := -1) (by decide +kernel) (by decide) ?_
  intro c0 hc0
  refine he_istore (n := 2) (i := 1) (by decide +kernel) rfl ?_
  refine he_iconst (n := 3) (c := 0) (by decide +kernel) (by decide) ?_
  intro c2 hc2
  refine he_istore (n := 4) (i := 2) (by decide +kernel) rfl ?_
  exact xm_sum_l hm hL hO ho K o.length 0 _ _ none (by omega) (by omega) (by rw [List.drop_zero, xe_oi hc0])
