/-! New objects and arrays. -/
theorem mq_arrV_congr {cA : ClassId} {n : Nat} {f g : Nat → Value} (h : ∀ j, j < n → f j = g j) : arrV cA n f = arrV cA n g := by
  unfold arrV
  congr 1
  apply Array.ext
  · simp
  · intro i h1 h2
    simp at h1 ⊢
    exact h i h1
theorem mq_rep_i {n j : Nat} : mq_ri ((List.replicate n (.int 0)).getD j .null) = 0 := by
  rw [List.getD_eq_getElem?_getD, List.getElem?_replicate]
  split <;> rfl
theorem mq_rep_l {n j : Nat} : mq_rl ((List.replicate n (.long 0)).getD j .null) = 0 := by
  rw [List.getD_eq_getElem?_getD, List.getElem?_replicate]
  split <;> rfl
theorem mq_rep_r {f : Nat → Nat} {n j : Nat} : mq_rr f ((List.replicate n .null).getD j .null) = none := by
  rw [List.getD_eq_getElem?_getD, List.getElem?_replicate]
  split <;> rfl
theorem mq_arr_i {cA : ClassId} {n : Nat} : arrV cA n (fun _ => .int 0) = arrV cA (List.replicate n (Value.int 0)).length (fun j => .int (mq_ri ((List.replicate n (Value.int 0)).getD j .null))) := by
  rw [List.length_replicate]
  exact mq_arrV_congr fun j _ => by rw [mq_rep_i]
theorem mq_arr_l {cA : ClassId} {n : Nat} : arrV cA n (fun _ => .long 0) = arrV cA (List.replicate n (Value.long 0)).length (fun j => .long (mq_rl ((List.replicate n (Value.long 0)).getD j .null))) := by
  rw [List.length_replicate]
  exact mq_arrV_congr fun j _ => by rw [mq_rep_l]
theorem mq_arr_r {cA : ClassId} {f : Nat → Nat} {n : Nat} : arrV cA n (fun _ => .null) = arrV cA (List.replicate n Value.null).length (fun j => va_rf (mq_rr f ((List.replicate n Value.null).getD j .null))) := by
  rw [List.length_replicate]
  exact mq_arrV_congr fun j _ => by rw [mq_rep_r]; rfl
def mq_kd (t : ArrayType) : Nat := match t with
  | .int => 64
  | .boolean => 65
  | .long => 66
  | _ => 61
section MQA
variable {p : Program} {l : Launch} {e : Env} {R : Room} {s : State} {m : MethodId} {args : Array Value} {below : List Frame} {meth : Method} {c : Code} {H : Heap} {locs : List Loc} {cells slots : Nat} {Q : State → Prop}
variable {cc : ByteArray} {pc : Nat} {ls : Array Slot} {rest : List Value} {cl : List vw_C} {G : mq_G} {M : Nat → mq_C} {z u : Nat} {tys : List (ClassId × FieldType)} {Ts : List Cond} {own : String}
theorem mq_grow {A : Nat → Prop} {H0 H1 : Heap} (hS : va_S A H0 H locs) (z1 : H1.size = H.size + 1) (o1 : ∀ q : Nat, q < H.size → H1[q]? = H[q]?) : va_S A H0 H1 locs :=
  ⟨Nat.le_trans hS.1 (by omega), fun x h1 h2 => (o1 x (Nat.lt_of_lt_of_le h1 hS.1)).trans (hS.2.1 x h1 h2), hS.2.2⟩
theorem mq_w_new (hx : p.tables.exec = Jvm.exec) (hb : c.code = cc) (hts : ∀ w ∈ Ts, w.before args s = true) (hown : s.vm.findClass own = some m.cls) (hK : va_K G.1 cl tys s) (hok : mq_ok cl G (M, z, u) s H) (hS : va_S (fun q => G.2.2.2 ≤ q) s.heap H locs) {C : String} {T : u_T} {N ci index : Nat} {ts : List Nat} (hin : ∀ w ∈ u_ws C T N, w ∈ Ts) (ty0 : Nat → FieldType) (hty : ∀ k, k < N → parseFieldDescriptor (T k).2.2.1 = some (ty0 k)) (hc : cl[ci]? = some (C, T, N)) (h60 : ci < 60)
    (hlen : ts.length = N) (hfs : ∀ j, j < N → defaultValue (ty0 j) = vp_V (ts.map mq_dv) j) (hcl : (Cond.classLink own index C).before args s = true) (hinst : (Cond.instantiable C N).before args s = true) (hini : (Cond.initialized C).before args s = true) (hcells : cells + 1 ≤ R.cells) (hslots : slots + ts.length ≤ R.slots) (hd : decode cc pc = .ok (.new index, 3))
    (kk : ∀ H1 : Heap, mq_ok cl G (va_up M z (ci, ts.map mq_dv), z + 1, u + ts.length) s H1 → va_S (fun q => G.2.2.2 ≤ q) s.heap H1 locs → W p l e R s m args below meth c H1 locs (cells + 1) (slots + ts.length) Q (F0 m (pc + 3) ls (.ref (mq_f G z) :: rest))) : W p l e R s m args below meth c H locs cells slots Q (F0 m pc ls rest) := by
  subst hlen
  have hKn := hK.1 ci _ hc
  refine W.newcK hx hb hown hcl hinst hini rfl hd hcells hslots hKn.2.1 rfl fun H1 kC hkC e1 z1 o1 => ?_
  have hv : (ts.map mq_dv).map (mq_v (mq_f G)) = ts.map mq_dv := by
    rw [List.map_map]
    apply List.map_congr_left
    intro t _
    show mq_v (mq_f G) (mq_dv t) = mq_dv t
    unfold mq_dv
    split <;> rfl
  have hat : va_at G.1 cl (H.size, mq_tr G (ci, ts.map mq_dv)) H1 := by
    unfold mq_tr
    rw [if_pos (show ci < 60 from h60)]
    show ∃ r : vw_C, cl[ci]? = some r ∧ t_OB H.size (G.1.1 ci) r.2.2 (G.1.2 ci) H1 (vp_V ((ts.map mq_dv).map (mq_v (mq_f G))))
    rw [hv]
    exact ⟨_, hc, (u_born ty0 hts hin hKn hkC e1 hty).to hfs⟩
  obtain ⟨ok1, ef⟩ := hok.push (u' := u + ts.length) (by show ci ≠ 60; omega) hat z1 o1
  have := kk H1 ok1 (mq_grow hS z1 o1)
  rw [ef] at this
  exact this
theorem mq_w_newarr (hx : p.tables.exec = Jvm.exec) (hb : c.code = cc) (hK : va_K G.1 cl tys s) (hok : mq_ok cl G (M, z, u) s H) (hS : va_S (fun q => G.2.2.2 ≤ q) s.heap H locs) {at_ : ArrayType} {t0 : Nat} {n : Int32} (hk : at_ = .int ∨ at_ = .boolean ∨ at_ = .long) (ht : tys[t0]? = some (G.2.1 (mq_kd at_), newarray.typeOf at_)) (harr : (Cond.arrayClass (newarray.typeOf at_)).before args s = true)
    (hn : ¬ (n < 0 ∨ 1000000 < n.toNatClampNeg)) (hcells : cells + 1 ≤ R.cells) (hslots : slots + n.toNatClampNeg ≤ R.slots) (hd : decode cc pc = .ok (.newarray at_, 2))
    (kk : ∀ H1 : Heap, mq_ok cl G (va_up M z (mq_kd at_, List.replicate n.toNatClampNeg (mq_av (mq_kd at_))), z + 1, u + n.toNatClampNeg) s H1 → va_S (fun q => G.2.2.2 ≤ q) s.heap H1 locs → W p l e R s m args below meth c H1 locs (cells + 1) (slots + n.toNatClampNeg) Q (F0 m (pc + 2) ls (.ref (mq_f G z) :: rest))) : W p l e R s m args below meth c H locs cells slots Q (F0 m pc ls (.int n :: rest)) := by
  have hn0 : ¬ n < 0 := fun q => hn (Or.inl q)
  have hn1 : n.toNatClampNeg ≤ 1000000 := Nat.not_lt.mp fun q => hn (Or.inr q)
  have hby : n.toNatClampNeg * componentBytes (newarray.typeOf at_) ≤ 536870912 := by
    rcases hk with rfl | rfl | rfl
    · show n.toNatClampNeg * 4 ≤ _; omega
    · show n.toNatClampNeg * 1 ≤ _; omega
    · show n.toNatClampNeg * 8 ≤ _; omega
  refine va_newaK hx hb harr rfl hd rfl hn0 rfl hby hcells hslots rfl fun H1 cA e1 z1 o1 hAr hNm => ?_
  have hcA : cA = G.2.1 (mq_kd at_) := by
    have h2 := (hK.2 t0 _ ht).2
    rcases hk with rfl | rfl | rfl
    · exact Option.some.inj (hNm.symm.trans h2)
    · exact Option.some.inj (hNm.symm.trans h2)
    · exact Option.some.inj (hNm.symm.trans h2)
  subst hcA
  have hat : va_at G.1 cl (H.size, mq_tr G (mq_kd at_, List.replicate n.toNatClampNeg (mq_av (mq_kd at_)))) H1 := by
    rcases hk with rfl | rfl | rfl
    · exact e1.trans (congrArg some mq_arr_i)
    · exact e1.trans (congrArg some mq_arr_i)
    · exact e1.trans (congrArg some mq_arr_l)
  obtain ⟨ok1, ef⟩ := hok.push (u' := u + n.toNatClampNeg) (by rcases hk with rfl | rfl | rfl <;> exact fun q9 => by cases q9) hat z1 o1
  have := kk H1 ok1 (mq_grow hS z1 o1)
  rw [ef] at this
  exact this
theorem mq_w_anew (hx : p.tables.exec = Jvm.exec) (hb : c.code = cc) (hown : s.vm.findClass own = some m.cls) (hK : va_K G.1 cl tys s) (hok : mq_ok cl G (M, z, u) s H) (hS : va_S (fun q => G.2.2.2 ≤ q) s.heap H locs) {t0 ci index : Nat} {n : Int32} {r : vw_C} (hc : cl[ci]? = some r) (h60 : ci < 60) (ht : tys[t0]? = some (G.2.1 (70 + ci), .object r.1)) (hcl : (Cond.classLink own index r.1).before args s = true) (hover : va_AO r.1 s)
    (hn : ¬ (n < 0 ∨ 1000000 < n.toNatClampNeg)) (hcells : cells + 1 ≤ R.cells) (hslots : slots + n.toNatClampNeg ≤ R.slots) (hd : decode cc pc = .ok (.anewarray index, 3))
    (kk : ∀ H1 : Heap, mq_ok cl G (va_up M z (70 + ci, List.replicate n.toNatClampNeg .null), z + 1, u + n.toNatClampNeg) s H1 → va_S (fun q => G.2.2.2 ≤ q) s.heap H1 locs → W p l e R s m args below meth c H1 locs (cells + 1) (slots + n.toNatClampNeg) Q (F0 m (pc + 3) ls (.ref (mq_f G z) :: rest))) : W p l e R s m args below meth c H locs cells slots Q (F0 m pc ls (.int n :: rest)) := by
  have hn0 : ¬ n < 0 := fun q => hn (Or.inl q)
  have hn1 : n.toNatClampNeg ≤ 1000000 := Nat.not_lt.mp fun q => hn (Or.inr q)
  refine W.anew hx hb hown hcl (va_AO.use hover) rfl hd rfl hn0 (by omega) hcells hslots fun cA kA comp f1 f2 f3 f4 => ?_
  generalize hH1 : H.push ({ cls := cA, slots := Array.replicate n.toNatClampNeg .null, vm := .none } : Cell) = H1
  have z1 : H1.size = H.size + 1 := by rw [← hH1, Array.size_push]
  have e1 : H1[H.size]? = some (arrV cA n.toNatClampNeg (fun _ => .null)) := by rw [← hH1, Array.getElem?_push_size, ← arrV_new]
  have o1 : ∀ q : Nat, q < H.size → H1[q]? = H[q]? := fun q hq => by rw [← hH1, Array.getElem?_push, if_neg (Nat.ne_of_lt hq)]
  have hcA : cA = G.2.1 (70 + ci) := by
    obtain ⟨_, _, _, _, _, h4⟩ := (hK.2 t0 _ ht).2
    exact Option.some.inj (f1.symm.trans h4)
  subst hcA
  have hat : va_at G.1 cl (H.size, mq_tr G (70 + ci, List.replicate n.toNatClampNeg .null)) H1 := by
    unfold mq_tr
    rw [if_neg (show ¬ 70 + ci < 60 by omega), if_neg (show ¬ 70 + ci < 66 by omega), if_neg (show ¬ 70 + ci = 66 by omega)]
    exact e1.trans (congrArg some mq_arr_r)
  obtain ⟨ok1, ef⟩ := hok.push (u' := u + n.toNatClampNeg) (by show 70 + ci ≠ 60; omega) hat z1 o1
  have := kk H1 ok1 (mq_grow hS z1 o1)
  rw [ef] at this
  exact this
end MQA
