/-! Switches; going into a method and coming out of it. -/
def mq_keys : Int → Nat → List Int
  | _, 0 => []
  | lo, n + 1 => lo :: mq_keys (lo + 1) n
theorem mq_sw_lookup {tg : Int → Nat} {dflt : Int} {t : Nat} : ∀ (ps : List (Int × Int)) (x : Int), mq_sw (ps.map (fun q => q.1)) (ps.map (fun q => tg q.2) ++ [tg dflt]) x = some t → tg (Op.lookupswitch.offset ps dflt x) = t
  | [], x, h => by
    cases h
    rfl
  | (a, o) :: ps, x, h => by
    rw [Op.lookupswitch.offset_cons]
    have h' : (if x = a then some (tg o) else mq_sw (ps.map (fun q => q.1)) (ps.map (fun q => tg q.2) ++ [tg dflt]) x) = some t := h
    by_cases e : x = a
    · rw [if_pos e] at h'
      rw [if_pos e.symm]
      exact Option.some.inj h'
    · rw [if_neg e] at h'
      rw [if_neg (fun q => e q.symm)]
      exact mq_sw_lookup ps x h'
theorem mq_sw_table {tg : Int → Nat} {d t : Nat} : ∀ (os : List Int) (lo x : Int), mq_sw (mq_keys lo os.length) (os.map tg ++ [d]) x = some t → (lo ≤ x ∧ x < lo + os.length ∧ ∃ o, os[(x - lo).toNat]? = some o ∧ t = tg o) ∨ ((x < lo ∨ lo + os.length ≤ x) ∧ t = d)
  | [], lo, x, h => by
    cases h
    refine Or.inr ⟨?_, rfl⟩
    have : ((([] : List Int).length : Nat) : Int) = 0 := rfl
    omega
  | o :: os, lo, x, h => by
    have h' : (if x = lo then some (tg o) else mq_sw (mq_keys (lo + 1) os.length) (os.map tg ++ [d]) x) = some t := h
    have hlen : (((o :: os).length : Nat) : Int) = (os.length : Int) + 1 := by simp
    rw [hlen]
    by_cases e : x = lo
    · rw [if_pos e] at h'
      subst e
      refine Or.inl ⟨by omega, by omega, o, ?_, (Option.some.inj h').symm⟩
      rw [show (x - x).toNat = 0 by omega]
      rfl
    · rw [if_neg e] at h'
      rcases mq_sw_table os (lo + 1) x h' with ⟨h1, h2, o', h3, h4⟩ | ⟨h1, h2⟩
      · refine Or.inl ⟨by omega, by omega, o', ?_, h4⟩
        rw [show (x - lo).toNat = (x - (lo + 1)).toNat + 1 by omega]
        exact h3
      · exact Or.inr ⟨by omega, h2⟩
def mq_tgt_ (pc : Nat) (o : Int) : Nat := ((pc : Int) + o).toNat
/-- the mini-machine's word for a switch -/
def mq_csw (pc : Nat) (i : Instr) : Option mq_P := match i with
  | .lookupswitch d ps => if 0 ≤ (pc : Int) + d ∧ (ps.toList.all fun q => decide (0 ≤ (pc : Int) + q.2)) = true ∧ (ps.toList.zip (ps.toList.drop 1)).all (fun (a, next) => a.1 < next.1) = true then some (51, ps.toList.map (fun q => mq_tgt_ pc q.2) ++ [mq_tgt_ pc d], ps.toList.map (fun q => q.1)) else none
  | .tableswitch d lo hi os => if 0 ≤ (pc : Int) + d ∧ (os.toList.all fun o => decide (0 ≤ (pc : Int) + o)) = true ∧ hi = lo + os.toList.length - 1 then some (51, os.toList.map (mq_tgt_ pc) ++ [mq_tgt_ pc d], mq_keys lo os.toList.length) else none
  | _ => none
section MQW
variable {p : Program} {l : Launch} {e : Env} {R : Room} {s : State} {m : MethodId} {args : Array Value} {below : List Frame} {meth : Method} {c : Code} {H : Heap} {locs : List Loc} {cells slots : Nat} {Q : State → Prop}
theorem mq_off_nn {pc : Nat} {d : Int} : ∀ (ps : List (Int × Int)) (x : Int), 0 ≤ (pc : Int) + d → (ps.all fun q => decide (0 ≤ (pc : Int) + q.2)) = true → 0 ≤ (pc : Int) + Op.lookupswitch.offset ps d x
  | [], x, h, _ => h
  | (a, o) :: ps, x, h, h2 => by
    rw [List.all_cons, Bool.and_eq_true] at h2
    rw [Op.lookupswitch.offset_cons]
    by_cases e : a = x
    · rw [if_pos e]
      exact of_decide_eq_true h2.1
    · rw [if_neg e]
      exact mq_off_nn ps x h h2.2
theorem mq_w_switch {cc : ByteArray} {pc len n : Nat} {i : Instr} {o : mq_P} {L L' : mq_L} {st st' : List Value} {S S' : mq_S} {f : Nat → Nat} {ls : Array Slot} (hx : p.tables.exec = Jvm.exec) (hb : c.code = cc) (hd : decode cc pc = .ok (i, len)) (hc : mq_csw pc i = some o) (he : mq_ex o L st S = some (.inl (n, L', st', S')))
    (kk : S' = S → L' = L → W p l e R s m args below meth c H locs cells slots Q (F0 m n ls (st'.map (mq_v f)))) : W p l e R s m args below meth c H locs cells slots Q (F0 m pc ls (st.map (mq_v f))) := by
  have inv : ∀ (ns : List Nat) (cs : List Int), mq_o_switch ns cs L st S = some (.inl (n, L', st', S')) → ∃ (x : Int32) (r : List Value), st = .int x :: r ∧ mq_sw cs ns x.toInt = some n ∧ L' = L ∧ st' = r ∧ S' = S := by
    intro ns cs h
    unfold mq_o_switch at h
    split at h
    next x r =>
      split at h
      next t ht => cases h; exact ⟨x, _, rfl, ht, rfl, rfl, rfl⟩
      · cases h
    · cases h
  unfold mq_csw at hc
  split at hc
  next d ps =>
    obtain ⟨⟨h1, h2, h3⟩, rfl⟩ := mq_if hc
    obtain ⟨x, r, rfl, hs, rfl, rfl, rfl⟩ := inv _ _ he
    have ht := mq_sw_lookup (tg := mq_tgt_ pc) ps.toList x.toInt hs
    refine lv_lookup hx hb hd h3 rfl ?_ (kk rfl rfl)
    rw [← ht]
    exact (Int.toNat_of_nonneg (mq_off_nn _ _ h1 h2)).symm
  next d lo hi os =>
    obtain ⟨⟨h1, h2, h3⟩, rfl⟩ := mq_if hc
    obtain ⟨x, r, rfl, hs, rfl, rfl, rfl⟩ := inv _ _ he
    rcases mq_sw_table os.toList lo x.toInt hs with ⟨g1, g2, off, g3, g4⟩ | ⟨g1, g2⟩
    · refine lv_tableIn hx hb hd (by omega) (by omega) (off := off) (by simpa using g3) ?_ (kk rfl rfl)
      rw [g4]
      have hm : off ∈ os.toList := List.mem_of_getElem? g3
      exact (Int.toNat_of_nonneg (of_decide_eq_true (List.all_eq_true.mp h2 off hm))).symm
    · refine lv_tableOut hx hb hd (by omega) ?_ (kk rfl rfl)
      rw [g2]
      exact (Int.toNat_of_nonneg h1).symm
  · cases hc
end MQW
/-- a method: its name, bytes, locals, answer, handlers -/
abbrev mq_Nm : Type := MethodName × ByteArray × Nat × Option FieldType × List (Nat × Nat × Nat × Nat)
def mq_is (N : mq_Nm) (s : State) (m : MethodId) (meth : Method) (c : Code) : Prop := s.methodNamed? N.1 = some m ∧ s.vm.method? m = some meth ∧ meth.code = some c ∧ c.code = N.2.1 ∧ c.maxLocals = N.2.2.1 ∧ meth.sig.returnType = N.2.2.2.1 ∧ meth.locks = false ∧ c.exceptionTable.toList.map (fun h => (h.startPc, h.endPc, h.handlerPc, h.catchType)) = N.2.2.2.2 ∧ parseMethodDescriptor N.1.desc = some meth.sig
/-- the word for a method's code -/
def mq_cw (N : mq_Nm) : Cond := if N.2.2.2.2 = [] then .code N.1 N.2.1 N.2.2.1 N.2.2.2.1 else .codeWith N.1 N.2.1 N.2.2.1 N.2.2.2.1 N.2.2.2.2
theorem mq_is_of {N : mq_Nm} {s : State} {args : Array Value} (h : (mq_cw N).before args s = true) : ∃ m meth c, mq_is N s m meth c := by
  unfold mq_cw at h
  by_cases hh : N.2.2.2.2 = []
  · rw [if_pos hh] at h
    obtain ⟨m, hn⟩ := Cond.code_named h
    obtain ⟨meth, c, h1, h2, h3, h4, h5, h6, h7, h8⟩ := Cond.code_spec hn h
    refine ⟨m, meth, c, hn, h1, h2, h3, h4, h5, h6, ?_, h8⟩
    rw [hh]
    have : c.exceptionTable = #[] := by simpa using h7
    rw [this]
    rfl
  · rw [if_neg hh] at h
    obtain ⟨m, meth, c, hn, h1, h2, h3, h4, h5, h6, h7, h8⟩ := Cond.codeWith_spec h
    exact ⟨m, meth, c, hn, h1, h2, h3, h4, h6, h7, h5, h8⟩
/-- how a method of the mini-machine ends, as the machine says it -/
def mq_oc (G : mq_G) (r : Option Value ⊕ Nat) : Outcome := match r with
  | .inl v => .returned (v.map (mq_v (mq_f G)))
  | .inr a => .threw (mq_f G a)
def mq_fin (cl : List vw_C) (G : mq_G) (below : List Frame) (s : State) (mc ms : Nat) (r : Option Value ⊕ Nat) (S : mq_S) (t : State) : Prop :=
  t.status = .running ∧ Ended t below (mq_oc G r) ∧ s.WarmedH t.vm ∧ (∃ L : List Loc, s.sameButNew ({ t with vm := s.vm } : State) L mc ms ∧ ∀ q ∈ L, G.2.2.2 ≤ q.base) ∧ mq_ok cl G S s t.heap ∧ va_F (fun q => G.2.2.2 ≤ q) s t
theorem mq_weaken {tb : Tables} {e : Env} {mid below : List Frame} {a b : State} (h : Steps tb e (mid ++ below) a b) : Steps tb e below a b := by
  obtain ⟨n, hn, w⟩ := h
  exact ⟨n, hn, fun k hk => (w k hk).weaken⟩
section MQC
variable {p : Program} {l : Launch} {e : Env} {R : Room} {s : State} {m : MethodId} {args : Array Value} {below : List Frame} {meth : Method} {c : Code} {T : State} {locs : List Loc} {cells slots : Nat}
/-- into a method and to its end -/
theorem mq_into (X : Stand p l e R s m args below meth c T locs cells slots) {g : JFrame} (hg : g.method = m) (hsize : g.locals.size = c.maxLocals) {ig : Instr} {len : Nat} (hdg : decode c.code g.pc = .ok (ig, len)) {N : mq_Nm} {mk : MethodId} {methk : Method} {ck : Code} (hk : mq_is N T mk methk ck) (hpl : plainName N.1.cls = true) (a : Array Value) {R' : Room}
    (hframes : R'.frames + 1 ≤ R.frames) (hlocals : 2 * g.monitorRoom + (g.stack.map fun v => v.category).sum + (N.2.2.1 + 11) + R'.locals ≤ R.locals) (hcells : cells + R'.cells ≤ R.cells) (hslots : slots + R'.slots ≤ R.slots) {Qk : State → Prop}
    (hw : W p l e R' (T.calling g mk a) mk a (.java g :: below) methk ck T.heap [] 0 0 Qk (entryFrame mk a N.2.2.1)) : ∃ t, Steps p.tables e below (doInvoke e (T.setTop g) [] mk a).1 t ∧ Qk t := by
  obtain ⟨k1, k2, k3, k4, k5, k6, k7, k8, k9⟩ := hk
  have hplm : T.plainMethod mk := by
    refine State.plainMethod.of_name ?_
    intro k hk
    obtain ⟨k', hk', hn⟩ := className_of_methodNamed k1
    cases hk.symm.trans hk'
    rw [hn]; exact hpl
  obtain ⟨Y, heq⟩ := X.into hg hsize hdg a (R' := R') k2 k3 k7 hplm hframes (by rw [k5]; exact hlocals) hcells hslots
  rw [k5] at Y heq
  obtain ⟨t, st, q⟩ := hw _ (by simp [State.pushFrame, State.setFrames, State.setTop, State.modifyTopJava]) Y
  refine ⟨t, ?_, q⟩
  rw [heq []]
  exact mq_weaken (mid := [.java g]) st
end MQC
