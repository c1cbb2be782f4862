/-! System.arraycopy between int arrays. -/
theorem mq_cpy_len {f g : List Value} {sp dp n : Nat} (h1 : sp + n ≤ f.length) (h2 : dp + n ≤ g.length) : (mq_cpy f g sp dp n).length = g.length := by
  unfold mq_cpy
  simp only [List.length_append, List.length_take, List.length_drop]
  omega
theorem mq_cpy_at {f g : List Value} {sp dp n j : Nat} (h1 : sp + n ≤ f.length) (h2 : dp + n ≤ g.length) : (mq_cpy f g sp dp n)[j]? = if dp ≤ j ∧ j < dp + n then f[sp + (j - dp)]? else g[j]? := by
  unfold mq_cpy
  by_cases hj : j < dp
  · rw [if_neg (by omega), List.append_assoc, List.getElem?_append_left (by simp only [List.length_take]; omega), List.getElem?_take, if_pos hj]
  · by_cases hj2 : j < dp + n
    · rw [if_pos ⟨by omega, hj2⟩, List.getElem?_append_left (by simp only [List.length_append, List.length_take, List.length_drop]; omega), List.getElem?_append_right (by simp only [List.length_take]; omega)]
      have e : j - (List.take dp g).length = j - dp := by simp only [List.length_take]; omega
      rw [e, List.getElem?_take, if_pos (by omega), List.getElem?_drop]
    · rw [if_neg (by omega), List.getElem?_append_right (by simp only [List.length_append, List.length_take, List.length_drop]; omega), List.getElem?_drop]
      congr 1
      simp only [List.length_append, List.length_take, List.length_drop]
      omega
section MQ23
variable {p : Program} {l : Launch} {e : Env} {R : Room} {s : State} {m : MethodId} {args : Array Value} {below : List Frame} {meth : Method} {c : Code} {H : Heap} {locs : List Loc} {cells slots : Nat} {Q : State → Prop}
variable {cc : ByteArray} {pc : Nat} {ls : Array Slot} {rest : List Value} {cl : List vw_C} {G : mq_G} {M : Nat → mq_C} {z u : Nat} {tys : List (ClassId × FieldType)} {own : String}
set_option maxHeartbeats 2000000 in
theorem mq_w_copy (hx : p.tables.exec = Jvm.exec) (hb : c.code = cc) (hml : c.maxLocals = ls.size) (hown : s.vm.findClass own = some m.cls) (hK : va_K G.1 cl tys s) (hok : mq_ok cl G (M, z, u) s H) (hS : va_S (fun q => G.2.2.2 ≤ q) s.heap H locs) {index t0 a b : Nat} {f g : List Value} {sp dp n : Int32} (hlink : (Cond.methodLink own index arraycopyName).before args s = true) (hnat : (Cond.native arraycopyName).before args s = true) (hstat : (Cond.static arraycopyName).before args s = true) (hini : (Cond.initialized "java/lang/System").before args s = true) (ht : tys[t0]? = some (G.2.1 64, .int))
    (hA : M a = (64, f)) (hB : M b = (64, g)) (h1 : ¬ sp < 0) (h2 : ¬ dp < 0) (h3 : ¬ n < 0) (h4 : sp.toNatClampNeg + n.toNatClampNeg ≤ f.length) (h5 : dp.toNatClampNeg + n.toNatClampNeg ≤ g.length) (hframes : 1 ≤ R.frames) (hlocals : (rest.map fun v => v.category).sum + (nativeFrameWords "java/lang/System" "arraycopy" 5 + 11) ≤ R.locals) (hd : decode cc pc = .ok (.invokestatic index, 3))
    (kk : ∀ (H1 : Heap) (locs1 : List Loc), mq_ok cl G (va_up M b (64, mq_cpy f g sp.toNatClampNeg dp.toNatClampNeg n.toNatClampNeg), z, u) s H1 → va_S (fun q => G.2.2.2 ≤ q) s.heap H1 locs1 → W p l e R s m args below meth c H1 locs1 cells slots Q (F0 m (pc + 3) ls rest)) : W p l e R s m args below meth c H locs cells slots Q (F0 m pc ls (.int n :: .int dp :: .ref (mq_f G b) :: .int sp :: .ref (mq_f G a) :: rest)) := by
  have nn : ∀ w : Int32, ¬ w < 0 → w.toInt = (w.toNatClampNeg : Int) := by
    intro w hw
    have hw0 : (0 : Int) ≤ w.toInt := by
      have := Int32.not_lt.mp hw
      simpa using Int32.le_iff_toInt_le.mp this
    show w.toInt = ((w.toInt.toNat : Nat) : Int)
    omega
  obtain ⟨h8a, hza, hea⟩ := mq_at_ints hok (Or.inl rfl) hA
  obtain ⟨h8b, hzb, heb⟩ := mq_at_ints hok (Or.inl rfl) hB
  have hfA : G.2.2.2 ≤ mq_f G b := by rw [mq_f_new h8b]; exact Nat.le_add_right _ _
  have hca : H[mq_f G a]? = some (vp_cell (G.2.1 64) (f.length, .inl (fun j => mq_ri (f.getD j .null)))) := hok.1 (a - 8) _ hea
  have hcb : H[mq_f G b]? = some (vp_cell (G.2.1 64) (g.length, .inl (fun j => mq_ri (g.getD j .null)))) := hok.1 (b - 8) _ heb
  intro T hT X
  obtain ⟨-, k0, hk0, cm0, hkk0⟩ := (hK.2 t0 _ ht).1 f.length (fun j => .int (mq_ri (f.getD j .null)))
  obtain ⟨-, k1, hk1, cm1, hkk1⟩ := (hK.2 t0 _ ht).1 g.length (fun j => .int (mq_ri (g.getD j .null)))
  obtain ⟨vm', X', step⟩ := X.arraycopy hx hown hlink hnat hstat hini (src := mq_f G a) (dst := mq_f G b) (cs := vp_cell (G.2.1 64) (f.length, .inl (fun j => mq_ri (f.getD j .null)))) (cd := vp_cell (G.2.1 64) (g.length, .inl (fun j => mq_ri (g.getD j .null)))) (srcPos := sp) (destPos := dp) (n := n) (by rw [hT]; exact hca) (by rw [hT]; exact hcb)
    (fun _ h => by cases h) (fun _ h => by cases h) (fun h => by cases h) (fun h => by cases h) hk0 hk1 hkk0 hkk1 (by simp [refKind]) h1 h2 h3
    (by rw [nn sp h1, nn n h3]; show ¬ _ > ((arrV _ f.length _).slots.size : Int); rw [arrV_size]; omega)
    (by rw [nn dp h2, nn n h3]; show ¬ _ > ((arrV _ g.length _).slots.size : Int); rw [arrV_size]; omega)
    (fun vm₁ _ i hi => by
      have e9 : (vp_cell (G.2.1 64) (f.length, .inl (fun j => mq_ri (f.getD j .null)))).slots.getD (sp.toNatClampNeg + i) .null = .int (mq_ri (f.getD (sp.toNatClampNeg + i) .null)) := by
        show (arrV _ f.length (fun j => .int (mq_ri (f.getD j .null)))).slots.getD _ _ = _
        rw [Array.getD_eq_getD_getElem?, arrV_read _ _ (by omega)]
        rfl
      refine ⟨?_, ?_⟩
      · rw [e9]; rfl
      · rw [e9]; exact trivial)
    (g := F0 m pc ls (.int n :: .int dp :: .ref (mq_f G b) :: .int sp :: .ref (mq_f G a) :: rest)) rfl (by rw [hml]) (rest := rest) rfl (by rw [hb]; exact hd) hframes (by show 2 * 0 + _ + _ ≤ _; omega)
  have e1 : copied (vp_cell (G.2.1 64) (f.length, .inl (fun j => mq_ri (f.getD j .null)))) (vp_cell (G.2.1 64) (g.length, .inl (fun j => mq_ri (g.getD j .null)))) sp dp n = vp_cell (G.2.1 64) (g.length, .inl (va_cpy (fun j => mq_ri (f.getD j .null)) (fun j => mq_ri (g.getD j .null)) sp.toNatClampNeg dp.toNatClampNeg n.toNatClampNeg)) := va_copied (fun w => .int w) (G.2.1 64) (G.2.1 64) (n1 := g.length) (dp := dp.toNatClampNeg) (fun j => mq_ri (f.getD j .null)) (fun j => mq_ri (g.getD j .null)) h4
  rw [e1] at X' step
  have e2 : va_cpy (fun j => mq_ri (f.getD j .null)) (fun j => mq_ri (g.getD j .null)) sp.toNatClampNeg dp.toNatClampNeg n.toNatClampNeg = fun j => mq_ri ((mq_cpy f g sp.toNatClampNeg dp.toNatClampNeg n.toNatClampNeg).getD j .null) := by
    funext j
    unfold va_cpy
    rw [List.getD_eq_getElem?_getD, mq_cpy_at h4 h5]
    by_cases hj : dp.toNatClampNeg ≤ j ∧ j < dp.toNatClampNeg + n.toNatClampNeg
    · rw [if_pos hj, if_pos hj]
      simp only [List.getD_eq_getElem?_getD]
    · rw [if_neg hj, if_neg hj]
      simp only [List.getD_eq_getElem?_getD]
  rw [e2] at X' step
  have hl : mq_f G b < H.size := (Array.getElem?_eq_some_iff.mp hcb).1
  generalize hcell : vp_cell (G.2.1 64) (g.length, .inl (fun j => mq_ri ((mq_cpy f g sp.toNatClampNeg dp.toNatClampNeg n.toNatClampNeg).getD j .null))) = cell at X' step
  have hheap : ((T.setVm vm').setCell (mq_f G b) cell).heap = H.setIfInBounds (mq_f G b) cell := by rw [← hT]; rfl
  have hself : (H.setIfInBounds (mq_f G b) cell)[mq_f G b]? = some cell := by simp [Array.getElem?_setIfInBounds, hl]
  have oq : ∀ q : Nat, q ≠ mq_f G b → (H.setIfInBounds (mq_f G b) cell)[q]? = H[q]? := fun q hq => by simp [Array.getElem?_setIfInBounds, Ne.symm hq]
  have hsz : (H.setIfInBounds (mq_f G b) cell).size = H.size := by simp
  have ok1 : mq_ok cl G (va_up M b (64, mq_cpy f g sp.toNatClampNeg dp.toNatClampNeg n.toNatClampNeg), z, u) s (H.setIfInBounds (mq_f G b) cell) := by
    refine mq_ok.set hok h8b hzb (fun q9 => by cases q9) (hok.1.set mq_ws_D heb ?_ oq) hsz (fun q hq => oq q (Nat.ne_of_lt (Nat.lt_of_lt_of_le hq hfA)))
    show (H.setIfInBounds (mq_f G b) cell)[mq_f G b]? = some (arrV (G.2.1 64) (mq_cpy f g sp.toNatClampNeg dp.toNatClampNeg n.toNatClampNeg).length (fun j => .int (mq_ri ((mq_cpy f g sp.toNatClampNeg dp.toNatClampNeg n.toNatClampNeg).getD j .null))))
    rw [hself, ← hcell, mq_cpy_len h4 h5]
    rfl
  obtain ⟨t, a1, b1⟩ := kk _ _ ok1 ⟨by rw [hsz]; exact hS.1, fun q g1 g2 => by
      rw [oq q (fun e9 => g2 (by rw [e9]; exact hfA))]
      exact hS.2.1 q g1 g2, fun q hq => by
      rcases List.mem_append.mp hq with h | h
      · exact hS.2.2 q h
      · obtain ⟨w, -, hw⟩ := List.mem_map.mp h
        rw [← hw]
        exact hfA⟩ _ hheap X'
  exact ⟨t, step t a1, b1⟩
end MQ23
