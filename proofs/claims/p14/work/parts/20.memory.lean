/-! The instructions that read or write the memory: what the mini-machine does there, the machine does. -/
def mq_tk (t : Nat) (ty : FieldType) : Bool := match t, ty with
  | 0, .int => true
  | 1, .boolean => true
  | 2, .long => true
  | 3, .object _ => true
  | 3, .array _ => true
  | _, _ => false
theorem mq_fit_ok {f : Nat → Nat} {t : Nat} {ty : FieldType} {v : Value} (ht : mq_tk t ty = true) (hv : mq_fit t v = true) : narrow ty (mq_v f v) = mq_v f v ∧ fits ty (mq_v f v) = true := by
  unfold mq_tk at ht
  unfold mq_fit at hv
  split at ht
  · split at hv <;> first | (exact ⟨rfl, rfl⟩) | (cases hv; done) | skip
    all_goals simp_all
  · split at hv <;> first | (cases hv; done) | skip
    all_goals first | (simp_all; done) | skip
    all_goals
      rename_i x
      have hx := of_decide_eq_true hv
      rcases hx with rfl | rfl
      · exact ⟨(by decide : narrow .boolean (.int 0) = .int 0), (by decide : fits .boolean (.int 0) = true)⟩
      · exact ⟨(by decide : narrow .boolean (.int 1) = .int 1), (by decide : fits .boolean (.int 1) = true)⟩
  · split at hv <;> first | (exact ⟨rfl, rfl⟩) | (cases hv; done) | skip
    all_goals simp_all
  · split at hv <;> first | (exact ⟨rfl, rfl⟩) | (cases hv; done) | skip
    all_goals simp_all
  · split at hv <;> first | (exact ⟨rfl, rfl⟩) | (cases hv; done) | skip
    all_goals simp_all
  · cases ht
section MQM
variable {p : Program} {l : Launch} {e : Env} {R : Room} {s : State} {m : MethodId} {args : Array Value} {below : List Frame} {meth : Method} {c : Code} {H : Heap} {locs : List Loc} {cells slots : Nat} {Q : State → Prop}
variable {cc : ByteArray} {pc : Nat} {ls : Array Slot} {rest : List Value} {cl : List vw_C} {G : mq_G} {M : Nat → mq_C} {z u : Nat} {tys : List (ClassId × FieldType)} {Ts : List Cond} {own : String}
theorem mq_at_obj {ci a : Nat} {fs : List Value} (hok : mq_ok cl G (M, z, u) s H) (h60 : ci < 60) (hM : M a = (ci, fs)) : 8 ≤ a ∧ a < z ∧ (mq_ws G (M, z, u))[a - 8]? = some (mq_f G a, .inr (ci, fs.map (mq_v (mq_f G)))) := by
  obtain ⟨h8, hz⟩ := hok.in (a := a) (by show (M a).1 ≠ 60; rw [hM]; show ci ≠ 60; omega) (by show (M a).1 ≠ 999; rw [hM]; show ci ≠ 999; omega)
  refine ⟨h8, hz, ?_⟩
  rw [mq_ws_at h8 hz]
  show some (_, mq_tr G (M a)) = _
  rw [hM]
  unfold mq_tr
  rw [if_pos (show ci < 60 from h60)]
theorem mq_w_get (hx : p.tables.exec = Jvm.exec) (hb : c.code = cc) (hts : ∀ w ∈ Ts, w.before args s = true) (hown : s.vm.findClass own = some m.cls) (hK : va_K G.1 cl tys s) (hok : mq_ok cl G (M, z, u) s H) {C : String} {T : u_T} {N ci k index a : Nat} {v : Value} {fs : List Value} (hin : ∀ w ∈ u_ws C T N, w ∈ Ts) (hc : cl[ci]? = some (C, T, N)) (h60 : ci < 60) (hM : M a = (ci, fs)) (hk : k < N) (hv : fs[k]? = some v)
    (hlink : (Cond.fieldLink own index (T k).1 (T k).2.1 (T k).2.2.1).before args s = true ∨ ∃ host, (Cond.fieldLinkNest own index (T k).1 (T k).2.1 (T k).2.2.1 host).before args s = true) (hd : decode cc pc = .ok (.getfield index, 3))
    (kk : W p l e R s m args below meth c H locs cells slots Q (F0 m (pc + 3) ls (mq_v (mq_f G) v :: rest))) : W p l e R s m args below meth c H locs cells slots Q (F0 m pc ls (.ref (mq_f G a) :: rest)) := by
  obtain ⟨h8, hz, he⟩ := mq_at_obj hok h60 hM
  have hv' : (fs.map (mq_v (mq_f G)))[k]? = some (mq_v (mq_f G) v) := by rw [List.getElem?_map, hv]; rfl
  rcases hlink with hl | ⟨host, hl⟩
  · exact va_get hx hb hts hin hown hK hok.1 (a - 8) he hc k hk hl (fun _ h => h) hv' hd kk
  · exact va_getN hx hb hts hin hown hK hok.1 (a - 8) he hc k hk hl (fun _ h => h) hv' hd kk
theorem mq_w_put (hx : p.tables.exec = Jvm.exec) (hb : c.code = cc) (hts : ∀ w ∈ Ts, w.before args s = true) (hown : s.vm.findClass own = some m.cls) (hK : va_K G.1 cl tys s) (hok : mq_ok cl G (M, z, u) s H) (hS : va_S (fun q => G.2.2.2 ≤ q) s.heap H locs) {C : String} {T : u_T} {N ci k index a t : Nat} {v : Value} {fs : List Value} {ty : FieldType} (hin : ∀ w ∈ u_ws C T N, w ∈ Ts) (ty0 : Nat → FieldType) (hty : ∀ k, k < N → parseFieldDescriptor (T k).2.2.1 = some (ty0 k)) (hnm : ∀ a, a < N → ∀ b, b < N → a ≠ b → (T a).2.1 ≠ (T b).2.1) (hc : cl[ci]? = some (C, T, N)) (h60 : ci < 60) (hM : M a = (ci, fs)) (hk : k < N) (hl : k < fs.length) (hd0 : parseFieldDescriptor (T k).2.2.1 = some ty) (ht : mq_tk t ty = true) (hf : mq_fit t v = true)
    (hlink : ((T k).2.2.2 = false ∧ ((Cond.fieldLink own index (T k).1 (T k).2.1 (T k).2.2.1).before args s = true ∨ ∃ host, (Cond.fieldLinkNest own index (T k).1 (T k).2.1 (T k).2.2.1 host).before args s = true)) ∨ ((T k).2.2.2 = true ∧ meth.name = "<init>" ∧ (T k).1 = own ∧ (Cond.fieldLink own index (T k).1 (T k).2.1 (T k).2.2.1).before args s = true)) (hd : decode cc pc = .ok (.putfield index, 3))
    (kk : ∀ (H1 : Heap) (locs1 : List Loc), mq_ok cl G (va_up M a (ci, fs.set k v), z, u) s H1 → va_S (fun q => G.2.2.2 ≤ q) s.heap H1 locs1 → W p l e R s m args below meth c H1 locs1 cells slots Q (F0 m (pc + 3) ls rest)) : W p l e R s m args below meth c H locs cells slots Q (F0 m pc ls (mq_v (mq_f G) v :: .ref (mq_f G a) :: rest)) := by
  obtain ⟨h8, hz, he⟩ := mq_at_obj hok h60 hM
  obtain ⟨hn, hfit⟩ := mq_fit_ok (f := mq_f G) ht hf
  have hap := va_apart (own := own) hts hin ty0 hty hnm hK hc
  obtain ⟨r, h1, cell, q1, q2, q3, q4⟩ := hok.1 (a - 8) _ he
  have hr : r = (C, T, N) := Option.some.inj (h1.symm.trans hc)
  subst hr
  obtain ⟨hSl, hfc, kC, hkC, hkind⟩ := hK.1 ci _ hc
  obtain ⟨cf, kf, fi, fd, hi, hsl⟩ := hSl k hk
  have hst := (u_facts hfc hkC (u_lays hts hin hk) hi).1
  have hA : G.2.2.2 ≤ mq_f G a := by rw [mq_f_new h8]; exact Nat.le_add_right _ _
  have fin : ∀ H' : Heap, H'[mq_f G a]? = some (cell.setSlot (G.1.2 ci k) (mq_v (mq_f G) v)) → H'.size = H.size → (∀ q, q ≠ mq_f G a → H'[q]? = H[q]?) → W p l e R s m args below meth c H' (locs ++ [⟨mq_f G a, G.1.2 ci k⟩]) cells slots Q (F0 m (pc + 3) ls rest) := by
    intro H' e1 e2 e3
    refine kk H' _ ?_ (hS.put e2 e3 hA)
    refine mq_ok.set hok h8 hz (by show ci ≠ 60; omega) ?_ e2 (fun q hq => e3 q (Nat.ne_of_lt (Nat.lt_of_lt_of_le hq hA)))
    have e9 : mq_tr G (ci, fs.set k v) = .inr (ci, (fs.map (mq_v (mq_f G))).set k (mq_v (mq_f G) v)) := by
      unfold mq_tr
      rw [if_pos (show ci < 60 from h60)]
      simp [List.map_set]
    rw [e9]
    exact hok.1.set mq_ws_D he ⟨_, hc, t_OB.to (V := updV (vp_V (fs.map (mq_v (mq_f G)))) k (mq_v (mq_f G) v)) ⟨_, e1, q2, q3, t_set q4 hap hk _⟩ (fun j _ => vp_updV_set (by rw [List.length_map]; exact hl) _ j)⟩ e3
  rcases hlink with ⟨hfl, hlink⟩ | ⟨hfl, hin2, hdecl, hlink⟩
  · have hlay := hts _ (hin _ (u_in_lay hk))
    unfold u_lay at hlay
    rw [if_neg (by rw [hfl]; decide)] at hlay
    have h6 := u_store hfc hkC hkind hlay hi hd0 hn hfit
    rcases hlink with hlk | ⟨host, hlk⟩
    · refine W.putK hx hb (f := fd) ⟨hown, hlk, ⟨_, _, _, hi⟩, hst⟩ (by rw [q2]; exact h6) q1 q3 (by rw [hsl]; exact k2_hasslot (q4 k hk)) rfl rfl hd fun H' e1 e2 e3 => ?_
      rw [hsl] at e1 ⊢
      exact fin H' e1 e2 e3
    · refine va_WputK hx hb (f := fd) hown hlk hi hst (by rw [q2]; exact h6) q1 q3 (by rw [hsl]; exact k2_hasslot (q4 k hk)) rfl rfl hd fun H' e1 e2 e3 => ?_
      rw [hsl] at e1 ⊢
      exact fin H' e1 e2 e3
  · have hlay := hts _ (hin _ (u_in_lay hk))
    unfold u_lay at hlay
    rw [if_pos hfl] at hlay
    have hcf : m.cls = cf := by
      obtain ⟨_, _, c', _, _, _, -, -, hf', -, -, -, hown2, -⟩ := Cond.laysFinal_spec hlay
      have e1 : c' = cf := by have := hi.symm.trans hf'; simp at this; exact this.1.symm
      rw [hdecl] at hown2
      rw [← e1]; exact Option.some.inj (hown.symm.trans hown2)
    have h6 := u_fits hfc hkC hkind (Or.inr hlay) hi hd0 hn hfit
    refine W.putFinK hx hb hown hlink hi hst hcf hin2 (by rw [q2]; exact h6) q1 q3 (by rw [hsl]; exact k2_hasslot (q4 k hk)) rfl rfl hd fun H' e1 e2 e3 => ?_
    rw [hsl] at e1 ⊢
    exact fin H' e1 e2 e3
/-- arrays -/
theorem mq_in_of {i : Int32} {n : Nat} (h0 : ¬ i < 0) (h : i.toNatClampNeg < n) : vp_in i n := fun q => by
  rcases q with q | q
  · exact h0 q
  · omega
theorem mq_at_ints {kind a : Nat} {vs : List Value} (hok : mq_ok cl G (M, z, u) s H) (hk : kind = 64 ∨ kind = 65) (hM : M a = (kind, vs)) : 8 ≤ a ∧ a < z ∧ (mq_ws G (M, z, u))[a - 8]? = some (mq_f G a, .inl (G.2.1 kind, vs.length, .inl (fun j => mq_ri (vs.getD j .null)))) := by
  obtain ⟨h8, hz⟩ := hok.in (a := a) (by show (M a).1 ≠ 60; rw [hM]; show kind ≠ 60; omega) (by show (M a).1 ≠ 999; rw [hM]; show kind ≠ 999; omega)
  refine ⟨h8, hz, ?_⟩
  rw [mq_ws_at h8 hz]
  show some (_, mq_tr G (M a)) = _
  rw [hM]
  unfold mq_tr
  rw [if_neg (show ¬ kind < 60 by omega), if_pos (show kind < 66 by omega)]
theorem mq_at_longs {a : Nat} {vs : List Value} (hok : mq_ok cl G (M, z, u) s H) (hM : M a = (66, vs)) : 8 ≤ a ∧ a < z ∧ (mq_ws G (M, z, u))[a - 8]? = some (mq_f G a, .inl (G.2.1 66, vs.length, .inr (.inl (fun j => mq_rl (vs.getD j .null))))) := by
  obtain ⟨h8, hz⟩ := hok.in (a := a) (by show (M a).1 ≠ 60; rw [hM]; show 66 ≠ 60; decide) (by show (M a).1 ≠ 999; rw [hM]; show 66 ≠ 999; decide)
  refine ⟨h8, hz, ?_⟩
  rw [mq_ws_at h8 hz]
  show some (_, mq_tr G (M a)) = _
  rw [hM]
  rfl
theorem mq_at_refs {kind a : Nat} {vs : List Value} (hok : mq_ok cl G (M, z, u) s H) (hk : 70 ≤ kind) (hk2 : kind ≠ 999) (hM : M a = (kind, vs)) : 8 ≤ a ∧ a < z ∧ (mq_ws G (M, z, u))[a - 8]? = some (mq_f G a, .inl (G.2.1 kind, vs.length, .inr (.inr (.inr (.inr (fun j => mq_rr (mq_f G) (vs.getD j .null))))))) := by
  obtain ⟨h8, hz⟩ := hok.in (a := a) (by show (M a).1 ≠ 60; rw [hM]; show kind ≠ 60; omega) (by show (M a).1 ≠ 999; rw [hM]; exact hk2)
  refine ⟨h8, hz, ?_⟩
  rw [mq_ws_at h8 hz]
  show some (_, mq_tr G (M a)) = _
  rw [hM]
  unfold mq_tr
  rw [if_neg (show ¬ kind < 60 by omega), if_neg (show ¬ kind < 66 by omega), if_neg (show ¬ kind = 66 by omega)]
theorem mq_getD {vs : List Value} {i : Nat} {v : Value} (h : vs[i]? = some v) : vs.getD i .null = v := by
  rw [List.getD_eq_getElem?_getD, h]
  rfl
theorem mq_lt_of {vs : List Value} {i : Nat} {v : Value} (h : vs[i]? = some v) : i < vs.length := (List.getElem?_eq_some_iff.mp h).1
theorem mq_w_iald (hx : p.tables.exec = Jvm.exec) (hb : c.code = cc) (hK : va_K G.1 cl tys s) (hok : mq_ok cl G (M, z, u) s H) {a t0 : Nat} {vs : List Value} {i x : Int32} (ht : tys[t0]? = some (G.2.1 64, .int)) (hM : M a = (64, vs)) (h0 : ¬ i < 0) (hv : vs[i.toNatClampNeg]? = some (.int x)) (hd : decode cc pc = .ok (.iaload, 1))
    (kk : W p l e R s m args below meth c H locs cells slots Q (F0 m (pc + 1) ls (.int x :: rest))) : W p l e R s m args below meth c H locs cells slots Q (F0 m pc ls (.int i :: .ref (mq_f G a) :: rest)) := by
  obtain ⟨h8, hz, he⟩ := mq_at_ints hok (Or.inl rfl) hM
  refine va_iald hx hb hK hok.1 (a - 8) t0 he ht (mq_in_of h0 (mq_lt_of hv)) hd ?_
  rw [mq_getD hv]
  exact kk
theorem mq_w_iald0 (hx : p.tables.exec = Jvm.exec) (hb : c.code = cc) (hok : mq_ok cl G (M, z, u) s H) {a : Nat} {vs : List Value} {i x : Int32} (hM : M a = (60, vs)) (h0 : ¬ i < 0) (hv : vs[i.toNatClampNeg]? = some (.int x)) (hd : decode cc pc = .ok (.iaload, 1))
    (kk : W p l e R s m args below meth c H locs cells slots Q (F0 m (pc + 1) ls (.int x :: rest))) : W p l e R s m args below meth c H locs cells slots Q (F0 m pc ls (.int i :: .ref (mq_f G a) :: rest)) := by
  have h8 : a < 8 := Nat.not_le.mp fun q => hok.2.2.2.2.2.1 a q (by show (M a).1 = 60; rw [hM])
  obtain ⟨g1, scr, k1, k2, k3, k4, k6, k5⟩ := hok.2.2.2.2.2.2 a h8 (by show (M a).1 = 60; rw [hM])
  have hf : mq_f G a = G.2.2.1 a := by unfold mq_f; rw [if_pos h8]
  have k4' : vs.length ≤ scr.slots.size := by have k9 : (M a).2.length ≤ scr.slots.size := k4; rw [hM] at k9; exact k9
  have k6' : scr.slots.size.toInt32 = Int32.ofNat vs.length := by have k9 : scr.slots.size.toInt32 = Int32.ofNat (M a).2.length := k6; rw [hM] at k9; exact k9
  have k5' : scr.slots[i.toNatClampNeg]? = some (.int x) := by
    have := k5 i.toNatClampNeg (by show _ < (M a).2.length; rw [hM]; exact mq_lt_of hv)
    rw [this]
    show some (Value.int (mq_ri ((M a).2.getD _ .null))) = _
    rw [hM]
    show some (Value.int (mq_ri (vs.getD _ .null))) = _
    rw [mq_getD hv]
    rfl
  rw [hf]
  exact W.iald (v := .int x) hx hb k1 k2 k3 (mq_in_of h0 (Nat.lt_of_lt_of_le (mq_lt_of hv) k4')) k5' rfl rfl hd kk
theorem mq_w_zald (hx : p.tables.exec = Jvm.exec) (hb : c.code = cc) (hK : va_K G.1 cl tys s) (hok : mq_ok cl G (M, z, u) s H) {a t0 : Nat} {vs : List Value} {i x : Int32} (ht : tys[t0]? = some (G.2.1 65, .boolean)) (hM : M a = (65, vs)) (h0 : ¬ i < 0) (hv : vs[i.toNatClampNeg]? = some (.int x)) (hd : decode cc pc = .ok (.baload, 1))
    (kk : W p l e R s m args below meth c H locs cells slots Q (F0 m (pc + 1) ls (.int x :: rest))) : W p l e R s m args below meth c H locs cells slots Q (F0 m pc ls (.int i :: .ref (mq_f G a) :: rest)) := by
  obtain ⟨h8, hz, he⟩ := mq_at_ints hok (Or.inr rfl) hM
  refine va_zald hx hb hK hok.1 (a - 8) t0 he ht (mq_in_of h0 (mq_lt_of hv)) hd ?_
  rw [mq_getD hv]
  exact kk
theorem mq_w_lald (hx : p.tables.exec = Jvm.exec) (hb : c.code = cc) (hK : va_K G.1 cl tys s) (hok : mq_ok cl G (M, z, u) s H) {a t0 : Nat} {vs : List Value} {i : Int32} {x : Int64} (ht : tys[t0]? = some (G.2.1 66, .long)) (hM : M a = (66, vs)) (h0 : ¬ i < 0) (hv : vs[i.toNatClampNeg]? = some (.long x)) (hd : decode cc pc = .ok (.laload, 1))
    (kk : W p l e R s m args below meth c H locs cells slots Q (F0 m (pc + 1) ls (.long x :: rest))) : W p l e R s m args below meth c H locs cells slots Q (F0 m pc ls (.int i :: .ref (mq_f G a) :: rest)) := by
  obtain ⟨h8, hz, he⟩ := mq_at_longs hok hM
  refine va_lald hx hb hK hok.1 (a - 8) t0 he ht (mq_in_of h0 (mq_lt_of hv)) hd ?_
  rw [mq_getD hv]
  exact kk
theorem mq_w_aald (hx : p.tables.exec = Jvm.exec) (hb : c.code = cc) (hK : va_K G.1 cl tys s) (hok : mq_ok cl G (M, z, u) s H) {a t0 kind x : Nat} {C : String} {vs : List Value} {i : Int32} (ht : tys[t0]? = some (G.2.1 kind, .object C)) (hk : 70 ≤ kind) (hk2 : kind ≠ 999) (hM : M a = (kind, vs)) (h0 : ¬ i < 0) (hv : vs[i.toNatClampNeg]? = some (.ref x)) (hd : decode cc pc = .ok (.aaload, 1))
    (kk : W p l e R s m args below meth c H locs cells slots Q (F0 m (pc + 1) ls (.ref (mq_f G x) :: rest))) : W p l e R s m args below meth c H locs cells slots Q (F0 m pc ls (.int i :: .ref (mq_f G a) :: rest)) := by
  obtain ⟨h8, hz, he⟩ := mq_at_refs hok hk hk2 hM
  refine va_aldq hx hb hK hok.1 (a - 8) t0 he ht (mq_in_of h0 (mq_lt_of hv)) hd ?_
  rw [mq_getD hv]
  exact kk
theorem mq_upd_i {vs : List Value} {i : Nat} {x : Int32} (hl : i < vs.length) : updV (fun j => .int (mq_ri (vs.getD j .null))) i (.int x) = fun j => .int (mq_ri ((vs.set i (.int x)).getD j .null)) := by
  funext j
  unfold updV
  by_cases e : j = i
  · subst e
    rw [if_pos rfl, List.getD_eq_getElem?_getD, List.getElem?_set_self hl]
    rfl
  · rw [if_neg e]
    simp only [List.getD_eq_getElem?_getD, List.getElem?_set_ne (Ne.symm e)]
theorem mq_upd_l {vs : List Value} {i : Nat} {x : Int64} (hl : i < vs.length) : updV (fun j => .long (mq_rl (vs.getD j .null))) i (.long x) = fun j => .long (mq_rl ((vs.set i (.long x)).getD j .null)) := by
  funext j
  unfold updV
  by_cases e : j = i
  · subst e
    rw [if_pos rfl, List.getD_eq_getElem?_getD, List.getElem?_set_self hl]
    rfl
  · rw [if_neg e]
    simp only [List.getD_eq_getElem?_getD, List.getElem?_set_ne (Ne.symm e)]
theorem mq_upd_r {f : Nat → Nat} {vs : List Value} {i x : Nat} (hl : i < vs.length) : updV (fun j => va_rf (mq_rr f (vs.getD j .null))) i (.ref (f x)) = fun j => va_rf (mq_rr f ((vs.set i (.ref x)).getD j .null)) := by
  funext j
  unfold updV
  by_cases e : j = i
  · subst e
    rw [if_pos rfl, List.getD_eq_getElem?_getD, List.getElem?_set_self hl]
    rfl
  · rw [if_neg e]
    simp only [List.getD_eq_getElem?_getD, List.getElem?_set_ne (Ne.symm e)]
theorem mq_w_iast (hx : p.tables.exec = Jvm.exec) (hb : c.code = cc) (hK : va_K G.1 cl tys s) (hok : mq_ok cl G (M, z, u) s H) (hS : va_S (fun q => G.2.2.2 ≤ q) s.heap H locs) {a t0 : Nat} {vs : List Value} {i x : Int32} (ht : tys[t0]? = some (G.2.1 64, .int)) (hM : M a = (64, vs)) (h0 : ¬ i < 0) (hl : i.toNatClampNeg < vs.length) (hd : decode cc pc = .ok (.iastore, 1))
    (kk : ∀ (H1 : Heap) (locs1 : List Loc), mq_ok cl G (va_up M a (64, vs.set i.toNatClampNeg (.int x)), z, u) s H1 → va_S (fun q => G.2.2.2 ≤ q) s.heap H1 locs1 → W p l e R s m args below meth c H1 locs1 cells slots Q (F0 m (pc + 1) ls rest)) : W p l e R s m args below meth c H locs cells slots Q (F0 m pc ls (.int x :: .int i :: .ref (mq_f G a) :: rest)) := by
  obtain ⟨h8, hz, he⟩ := mq_at_ints hok (Or.inl rfl) hM
  have hA : G.2.2.2 ≤ mq_f G a := by rw [mq_f_new h8]; exact Nat.le_add_right _ _
  refine W.iast hx hb (hok.1 (a - 8) _ he) ((hK.2 t0 _ ht).1 vs.length (fun j => .int (mq_ri (vs.getD j .null)))) (fun q => by cases q) (by show ¬ (i < 0 ∨ (arrV _ _ _).slots.size ≤ _); rw [arrV_size]; exact mq_in_of h0 hl) rfl rfl hd fun H1 e1 e2 e3 => ?_
  refine kk H1 _ (mq_ok.set hok h8 hz (fun q9 => by cases q9) (hok.1.set mq_ws_D he ?_ e3) e2 (fun q hq => e3 q (Nat.ne_of_lt (Nat.lt_of_lt_of_le hq hA)))) (hS.put e2 e3 hA)
  show H1[mq_f G a]? = some (arrV _ (vs.set i.toNatClampNeg (.int x)).length (fun j => .int (mq_ri ((vs.set i.toNatClampNeg (.int x)).getD j .null))))
  rw [e1, ← mq_upd_i hl, List.length_set, ← arrV_store]
  rfl
theorem mq_w_zast (hx : p.tables.exec = Jvm.exec) (hb : c.code = cc) (hK : va_K G.1 cl tys s) (hok : mq_ok cl G (M, z, u) s H) (hS : va_S (fun q => G.2.2.2 ≤ q) s.heap H locs) {a t0 : Nat} {vs : List Value} {i x : Int32} (ht : tys[t0]? = some (G.2.1 65, .boolean)) (hM : M a = (65, vs)) (h0 : ¬ i < 0) (hl : i.toNatClampNeg < vs.length) (hn : narrow .boolean (.int x) = .int x) (hd : decode cc pc = .ok (.bastore, 1))
    (kk : ∀ (H1 : Heap) (locs1 : List Loc), mq_ok cl G (va_up M a (65, vs.set i.toNatClampNeg (.int x)), z, u) s H1 → va_S (fun q => G.2.2.2 ≤ q) s.heap H1 locs1 → W p l e R s m args below meth c H1 locs1 cells slots Q (F0 m (pc + 1) ls rest)) : W p l e R s m args below meth c H locs cells slots Q (F0 m pc ls (.int x :: .int i :: .ref (mq_f G a) :: rest)) := by
  obtain ⟨h8, hz, he⟩ := mq_at_ints hok (Or.inr rfl) hM
  have hA : G.2.2.2 ≤ mq_f G a := by rw [mq_f_new h8]; exact Nat.le_add_right _ _
  refine W.zast hx hb (hok.1 (a - 8) _ he) ((hK.2 t0 _ ht).1 vs.length (fun j => .int (mq_ri (vs.getD j .null)))) (fun q => by cases q) (by show ¬ (i < 0 ∨ (arrV _ _ _).slots.size ≤ _); rw [arrV_size]; exact mq_in_of h0 hl) rfl rfl hd fun H1 e1 e2 e3 => ?_
  refine kk H1 _ (mq_ok.set hok h8 hz (fun q9 => by cases q9) (hok.1.set mq_ws_D he ?_ e3) e2 (fun q hq => e3 q (Nat.ne_of_lt (Nat.lt_of_lt_of_le hq hA)))) (hS.put e2 e3 hA)
  show H1[mq_f G a]? = some (arrV _ (vs.set i.toNatClampNeg (.int x)).length (fun j => .int (mq_ri ((vs.set i.toNatClampNeg (.int x)).getD j .null))))
  rw [e1, hn, ← mq_upd_i hl, List.length_set, ← arrV_store]
  rfl
theorem mq_w_last (hx : p.tables.exec = Jvm.exec) (hb : c.code = cc) (hK : va_K G.1 cl tys s) (hok : mq_ok cl G (M, z, u) s H) (hS : va_S (fun q => G.2.2.2 ≤ q) s.heap H locs) {a t0 : Nat} {vs : List Value} {i : Int32} {x : Int64} (ht : tys[t0]? = some (G.2.1 66, .long)) (hM : M a = (66, vs)) (h0 : ¬ i < 0) (hl : i.toNatClampNeg < vs.length) (hd : decode cc pc = .ok (.lastore, 1))
    (kk : ∀ (H1 : Heap) (locs1 : List Loc), mq_ok cl G (va_up M a (66, vs.set i.toNatClampNeg (.long x)), z, u) s H1 → va_S (fun q => G.2.2.2 ≤ q) s.heap H1 locs1 → W p l e R s m args below meth c H1 locs1 cells slots Q (F0 m (pc + 1) ls rest)) : W p l e R s m args below meth c H locs cells slots Q (F0 m pc ls (.long x :: .int i :: .ref (mq_f G a) :: rest)) := by
  obtain ⟨h8, hz, he⟩ := mq_at_longs hok hM
  have hA : G.2.2.2 ≤ mq_f G a := by rw [mq_f_new h8]; exact Nat.le_add_right _ _
  refine W.last hx hb (hok.1 (a - 8) _ he) ((hK.2 t0 _ ht).1 vs.length (fun j => .long (mq_rl (vs.getD j .null)))) (fun q => by cases q) (by show ¬ (i < 0 ∨ (arrV _ _ _).slots.size ≤ _); rw [arrV_size]; exact mq_in_of h0 hl) rfl rfl hd fun H1 e1 e2 e3 => ?_
  refine kk H1 _ (mq_ok.set hok h8 hz (fun q9 => by cases q9) (hok.1.set mq_ws_D he ?_ e3) e2 (fun q hq => e3 q (Nat.ne_of_lt (Nat.lt_of_lt_of_le hq hA)))) (hS.put e2 e3 hA)
  show H1[mq_f G a]? = some (arrV _ (vs.set i.toNatClampNeg (.long x)).length (fun j => .long (mq_rl ((vs.set i.toNatClampNeg (.long x)).getD j .null))))
  rw [e1, ← mq_upd_l hl, List.length_set, ← arrV_store]
  rfl
theorem mq_w_aast (hx : p.tables.exec = Jvm.exec) (hb : c.code = cc) (hK : va_K G.1 cl tys s) (hok : mq_ok cl G (M, z, u) s H) (hS : va_S (fun q => G.2.2.2 ≤ q) s.heap H locs) {a t0 ci x : Nat} {r : vw_C} {vs fs : List Value} {i : Int32} (hc : cl[ci]? = some r) (h60 : ci < 60) (ht : tys[t0]? = some (G.2.1 (70 + ci), .object r.1)) (hM : M a = (70 + ci, vs)) (hV : M x = (ci, fs)) (h0 : ¬ i < 0) (hl : i.toNatClampNeg < vs.length) (hd : decode cc pc = .ok (.aastore, 1))
    (kk : ∀ (H1 : Heap) (locs1 : List Loc), mq_ok cl G (va_up M a (70 + ci, vs.set i.toNatClampNeg (.ref x)), z, u) s H1 → va_S (fun q => G.2.2.2 ≤ q) s.heap H1 locs1 → W p l e R s m args below meth c H1 locs1 cells slots Q (F0 m (pc + 1) ls rest)) : W p l e R s m args below meth c H locs cells slots Q (F0 m pc ls (.ref (mq_f G x) :: .int i :: .ref (mq_f G a) :: rest)) := by
  obtain ⟨h8, hz, he⟩ := mq_at_refs hok (by omega) (by omega) hM
  obtain ⟨h8x, hzx, hex⟩ := mq_at_obj hok h60 hV
  have hA : G.2.2.2 ≤ mq_f G a := by rw [mq_f_new h8]; exact Nat.le_add_right _ _
  obtain ⟨r', hr', cellV, g1, g2, g3, -⟩ := hok.1 (x - 8) _ hex
  have hcls := (hK.1 ci r hc).2
  obtain ⟨kA, comp, k1, k2, k3, -⟩ := (hK.2 t0 _ ht).2
  have hcomp : comp = G.1.1 ci := Option.some.inj (k3.symm.trans hcls.1)
  subst hcomp
  obtain ⟨kC, hkC, -⟩ := hcls.2
  refine W.aast hx hb (hok.1 (a - 8) _ he) (fun q h => by cases h) (fun h => by cases h) k1 k2 rfl hkC ⟨h0, by show _ < (arrV _ _ _).slots.size; rw [arrV_size]; exact hl⟩ g1 (fun q h => by rw [g3] at h; cases h) (by rw [g2]; exact hkC) (by rw [g2]; exact va_assign hcls) rfl rfl hd fun H1 e1 e2 e3 => ?_
  refine kk H1 _ (mq_ok.set hok h8 hz (by show 70 + ci ≠ 60; omega) ?_ e2 (fun q hq => e3 q (Nat.ne_of_lt (Nat.lt_of_lt_of_le hq hA)))) (hS.put e2 e3 hA)
  have e9 : mq_tr G (70 + ci, vs.set i.toNatClampNeg (.ref x)) = .inl (G.2.1 (70 + ci), vs.length, .inr (.inr (.inr (.inr (fun j => mq_rr (mq_f G) ((vs.set i.toNatClampNeg (.ref x)).getD j .null)))))) := by
    unfold mq_tr
    rw [if_neg (show ¬ 70 + ci < 60 by omega), if_neg (show ¬ 70 + ci < 66 by omega), if_neg (show ¬ 70 + ci = 66 by omega)]
    show _ = Sum.inl (G.2.1 (70 + ci), vs.length, _)
    rw [List.length_set]
  rw [e9]
  refine hok.1.set mq_ws_D he ?_ e3
  show H1[mq_f G a]? = some (arrV _ vs.length (fun j => va_rf (mq_rr (mq_f G) ((vs.set i.toNatClampNeg (.ref x)).getD j .null))))
  rw [e1, ← mq_upd_r hl, ← arrV_store]
  rfl
theorem mq_w_alen (hx : p.tables.exec = Jvm.exec) (hb : c.code = cc) (hK : va_K G.1 cl tys s) (hok : mq_ok cl G (M, z, u) s H) {a t0 kind : Nat} {ty : FieldType} {vs : List Value} (ht : kind = 60 ∨ tys[t0]? = some (G.2.1 kind, ty)) (hk : mq_isarr kind = true) (hM : M a = (kind, vs)) (hd : decode cc pc = .ok (.arraylength, 1))
    (kk : W p l e R s m args below meth c H locs cells slots Q (F0 m (pc + 1) ls (.int (Int32.ofNat vs.length) :: rest))) : W p l e R s m args below meth c H locs cells slots Q (F0 m pc ls (.ref (mq_f G a) :: rest)) := by
  have hk' := of_decide_eq_true hk
  rcases ht with rfl | ht
  · have h8 : a < 8 := Nat.not_le.mp fun q => hok.2.2.2.2.2.1 a q (by show (M a).1 = 60; rw [hM])
    obtain ⟨g1, scr, k1, k2, k3, k4, k6, k5⟩ := hok.2.2.2.2.2.2 a h8 (by show (M a).1 = 60; rw [hM])
    have hf : mq_f G a = G.2.2.1 a := by unfold mq_f; rw [if_pos h8]
    have k4' : vs.length ≤ scr.slots.size := by have k9 : (M a).2.length ≤ scr.slots.size := k4; rw [hM] at k9; exact k9
    have k6' : scr.slots.size.toInt32 = Int32.ofNat vs.length := by have k9 : scr.slots.size.toInt32 = Int32.ofNat (M a).2.length := k6; rw [hM] at k9; exact k9
    rw [hf]
    exact W.alen (n := Int32.ofNat vs.length) hx hb k1 k2 k6' rfl rfl hd kk
  · by_cases h60 : kind = 60
    · subst h60
      have h8 : a < 8 := Nat.not_le.mp fun q => hok.2.2.2.2.2.1 a q (by show (M a).1 = 60; rw [hM])
      obtain ⟨g1, scr, k1, k2, k3, k4, k6, k5⟩ := hok.2.2.2.2.2.2 a h8 (by show (M a).1 = 60; rw [hM])
      have hf : mq_f G a = G.2.2.1 a := by unfold mq_f; rw [if_pos h8]
      have k4' : vs.length ≤ scr.slots.size := by have k9 : (M a).2.length ≤ scr.slots.size := k4; rw [hM] at k9; exact k9
      have k6' : scr.slots.size.toInt32 = Int32.ofNat vs.length := by have k9 : scr.slots.size.toInt32 = Int32.ofNat (M a).2.length := k6; rw [hM] at k9; exact k9
      rw [hf]
      exact W.alen (n := Int32.ofNat vs.length) hx hb k1 k2 k6' rfl rfl hd kk
    · obtain ⟨h8, hz⟩ := hok.in (a := a) (by show (M a).1 ≠ 60; rw [hM]; exact h60) (by show (M a).1 ≠ 999; rw [hM]; show kind ≠ 999; omega)
      have he := mq_ws_at (G := G) (S := (M, z, u)) h8 hz
      have e9 : ∃ x : vp_A, mq_tr G (M a) = .inl (G.2.1 kind, x) ∧ x.1 = vs.length := by
        rw [hM]
        unfold mq_tr
        rw [if_neg (show ¬ kind < 60 by omega)]
        by_cases h66 : kind < 66
        · rw [if_pos (show kind < 66 from h66)]
          exact ⟨_, rfl, rfl⟩
        · rw [if_neg (show ¬ kind < 66 from h66)]
          by_cases e : kind = 66
          · rw [if_pos (show kind = 66 from e), e]
            exact ⟨_, rfl, rfl⟩
          · rw [if_neg (show ¬ kind = 66 from e)]
            exact ⟨_, rfl, rfl⟩
      obtain ⟨x, ex, el⟩ := e9
      have he' : (mq_ws G (M, z, u))[a - 8]? = some (mq_f G a, .inl (G.2.1 kind, x)) := by rw [he]; show some (_, mq_tr G (M a)) = _; rw [ex]
      exact va_alen hx hb hK hok.1 (a - 8) t0 he' ht (by rw [el]) hd kk
end MQM
