/-! BY HAND: what holds of the memory between calls. -/
def hx1 (c : Nat) (n : Int) (M : Nat → mq_C) : Prop := hb_sum (fun b => hv M (c + 1) (b + 1)) 15 ≤ n
def hx2 (a : Nat) (M : Nat → mq_C) : Prop := ∀ i : Nat, i < 6 → (i : Int) < hv M a 4 → hv M (a + 10) i + hv M (a + 9) i + 2 ≤ 240
/-- the first ones differ -/
def hxd (len : Int) (f : Nat → Int) : Prop := ∀ i j : Nat, i < j → j < 4 → (j : Int) < len → f i ≠ f j
def hx3 (a : Nat) (M : Nat → mq_C) : Prop := hxd (hv M (a + 2) 2) (fun i => hv M (a + 3) i)
def hx5 (M : Nat → mq_C) : Prop := hv M 8 7 = hb_cnt (fun i => !decide (hv M (93 + 5 * (i / 32)) (i % 32) = -1)) 128
def hx6 (w : Nat) (M : Nat → mq_C) : Prop := hb_sum (fun l => hv M 255 (16 * w + (l + 1))) 15 ≤ 320
def hx7 (s : Nat) (M : Nat → mq_C) : Prop := ∀ r : Nat, r < 6 → (r : Int) < hv M 238 s → hv M 244 (6 * s + r) + hv M 243 (6 * s + r) + 2 ≤ 240
def hx8 (s : Nat) (M : Nat → mq_C) : Prop := hxd (hv M 245 s) (fun i => hv M 246 (4 * s + i))
def hx9 (M : Nat → mq_C) : Prop := hv M 234 41 = hb_cnt (fun i => decide (0 ≤ hv M 261 i)) 128
/-- how many bytes a name has, 0 if it is none -/
def hb_nb : Nat → Int → Int
  | 0, _ => 0
  | f + 1, x => if x ≤ 0 then 0 else 1 + hb_nb f (x / 256)
def hb_ng : Nat → Int → Bool
  | 0, _ => true
  | f + 1, x => if x ≤ 0 then true else decide (32 < x % 256) && decide (x % 256 < 127) && hb_ng f (x / 256)
def hb_nm (x : Int) : Int := if 0 < x ∧ hb_ng 4 x = true then hb_nb 4 x else 0
def hx12 (M : Nat → mq_C) : Prop := hv M 234 17 + hb_sum (fun e => if (e : Int) < hv M 234 19 then 12 + hb_nm (hv M 251 (6 * e)) else 0) 6 + 4 ≤ 240
def hx13 (s : Nat) (M : Nat → mq_C) : Prop := hv M 237 s = 0 → hv M 236 s = 0
def hxk (k : Nat) (M : Nat → mq_C) : Prop := match k with
  | 0 => hx1 12 19 M | 1 => hx1 16 286 M | 2 => hx1 20 30 M | 3 => hx1 24 288 M | 4 => hx1 28 32 M
  | 5 => hx2 47 M | 6 => hx2 58 M | 7 => hx2 69 M | 8 => hx2 80 M
  | 9 => hx3 47 M | 10 => hx3 58 M | 11 => hx3 69 M | 12 => hx3 80 M
  | 13 => hx5 M | 14 => hx6 0 M | 15 => hx6 1 M
  | 16 => hx7 0 M | 17 => hx7 1 M | 18 => hx7 2 M | 19 => hx7 3 M
  | 20 => hx8 0 M | 21 => hx8 1 M | 22 => hx8 2 M | 23 => hx8 3 M
  | 24 => hx9 M | 25 => hx12 M
  | 26 => hx13 0 M | 27 => hx13 1 M | 28 => hx13 2 M | 29 => hx13 3 M
  | _ => True
def HX (M : Nat → mq_C) : Prop := ∀ k, hxk k M
/-- what each of them looks at -/
def hsp (k a i : Nat) : Bool := match k with
  | 0 => decide (a = 13) | 1 => decide (a = 17) | 2 => decide (a = 21) | 3 => decide (a = 25) | 4 => decide (a = 29)
  | 5 => decide (a = 47 ∧ i = 4 ∨ a = 56 ∨ a = 57) | 6 => decide (a = 58 ∧ i = 4 ∨ a = 67 ∨ a = 68) | 7 => decide (a = 69 ∧ i = 4 ∨ a = 78 ∨ a = 79) | 8 => decide (a = 80 ∧ i = 4 ∨ a = 89 ∨ a = 90)
  | 9 => decide (a = 49 ∧ i = 2 ∨ a = 50) | 10 => decide (a = 60 ∧ i = 2 ∨ a = 61) | 11 => decide (a = 71 ∧ i = 2 ∨ a = 72) | 12 => decide (a = 82 ∧ i = 2 ∨ a = 83)
  | 13 => decide (a = 8 ∧ i = 7 ∨ a = 93 ∨ a = 98 ∨ a = 103 ∨ a = 108)
  | 14 => decide (a = 255 ∧ 1 ≤ i ∧ i ≤ 15) | 15 => decide (a = 255 ∧ 17 ≤ i ∧ i ≤ 31)
  | 16 => decide (a = 238 ∧ i = 0 ∨ (a = 243 ∨ a = 244) ∧ i < 6) | 17 => decide (a = 238 ∧ i = 1 ∨ (a = 243 ∨ a = 244) ∧ 6 ≤ i ∧ i < 12) | 18 => decide (a = 238 ∧ i = 2 ∨ (a = 243 ∨ a = 244) ∧ 12 ≤ i ∧ i < 18) | 19 => decide (a = 238 ∧ i = 3 ∨ (a = 243 ∨ a = 244) ∧ 18 ≤ i ∧ i < 24)
  | 20 => decide (a = 245 ∧ i = 0 ∨ a = 246 ∧ i < 4) | 21 => decide (a = 245 ∧ i = 1 ∨ a = 246 ∧ 4 ≤ i ∧ i < 8) | 22 => decide (a = 245 ∧ i = 2 ∨ a = 246 ∧ 8 ≤ i ∧ i < 12) | 23 => decide (a = 245 ∧ i = 3 ∨ a = 246 ∧ 12 ≤ i ∧ i < 16)
  | 24 => decide (a = 234 ∧ i = 41 ∨ a = 261) | 25 => decide (a = 234 ∧ (i = 17 ∨ i = 19) ∨ a = 251)
  | 26 => decide ((a = 236 ∨ a = 237) ∧ i = 0) | 27 => decide ((a = 236 ∨ a = 237) ∧ i = 1) | 28 => decide ((a = 236 ∨ a = 237) ∧ i = 2) | 29 => decide ((a = 236 ∨ a = 237) ∧ i = 3)
  | _ => false
theorem hx1_c {c : Nat} {n : Int} {M M' : Nat → mq_C} (h : ∀ i, hv M' (c + 1) i = hv M (c + 1) i) (hx : hx1 c n M) : hx1 c n M' := by
  unfold hx1 at hx ⊢
  rw [hb_sum_c 15 (fun i _ => h (i + 1))]
  exact hx
theorem hx2_c {a : Nat} {M M' : Nat → mq_C} (h4 : hv M' a 4 = hv M a 4) (h9 : ∀ i, hv M' (a + 9) i = hv M (a + 9) i) (h10 : ∀ i, hv M' (a + 10) i = hv M (a + 10) i) (hx : hx2 a M) : hx2 a M' := by
  intro i hi h
  rw [h4] at h
  rw [h9, h10]
  exact hx i hi h
theorem hxd_c {l l' : Int} {f f' : Nat → Int} (hl : l' = l) (hf : ∀ i, i < 4 → f' i = f i) (hx : hxd l f) : hxd l' f' := by
  intro i j hij hj h
  rw [hl] at h
  rw [hf i (by omega), hf j hj]
  exact hx i j hij hj h
theorem hx5_c {M M' : Nat → mq_C} (h7 : hv M' 8 7 = hv M 8 7) (hd : ∀ a, a = 93 ∨ a = 98 ∨ a = 103 ∨ a = 108 → ∀ i, hv M' a i = hv M a i) (hx : hx5 M) : hx5 M' := by
  unfold hx5 at hx ⊢
  rw [h7, hx]
  refine hb_cnt_c (fun i hi => ?_)
  rw [hd (93 + 5 * (i / 32)) (by omega)]
theorem hx6_c {w : Nat} {M M' : Nat → mq_C} (h : ∀ i, 16 * w + 1 ≤ i → i ≤ 16 * w + 15 → hv M' 255 i = hv M 255 i) (hx : hx6 w M) : hx6 w M' := by
  unfold hx6 at hx ⊢
  rw [hb_sum_c 15 (fun i hi => h (16 * w + (i + 1)) (by omega) (by omega))]
  exact hx
theorem hx7_c {s : Nat} {M M' : Nat → mq_C} (h8 : hv M' 238 s = hv M 238 s) (h : ∀ a, a = 243 ∨ a = 244 → ∀ i, 6 * s ≤ i → i < 6 * s + 6 → hv M' a i = hv M a i) (hx : hx7 s M) : hx7 s M' := by
  intro r hr hl
  rw [h8] at hl
  rw [h 244 (.inr rfl) _ (by omega) (by omega), h 243 (.inl rfl) _ (by omega) (by omega)]
  exact hx r hr hl
theorem hx9_c {M M' : Nat → mq_C} (h4 : hv M' 234 41 = hv M 234 41) (h : ∀ i, hv M' 261 i = hv M 261 i) (hx : hx9 M) : hx9 M' := by
  unfold hx9 at hx ⊢
  rw [h4, hx]
  exact hb_cnt_c (fun i _ => by rw [h])
theorem hx12_c {M M' : Nat → mq_C} (h1 : hv M' 234 17 = hv M 234 17) (h2 : hv M' 234 19 = hv M 234 19) (h : ∀ i, hv M' 251 i = hv M 251 i) (hx : hx12 M) : hx12 M' := by
  unfold hx12 at hx ⊢
  rw [h1, h2, hb_sum_c 6 (fun i _ => by rw [h])]
  exact hx
theorem hx13_c {s : Nat} {M M' : Nat → mq_C} (h1 : hv M' 236 s = hv M 236 s) (h2 : hv M' 237 s = hv M 237 s) (hx : hx13 s M) : hx13 s M' := by
  intro h
  rw [h2] at h
  rw [h1]
  exact hx h
theorem hxk_c {k : Nat} {M M' : Nat → mq_C} (h : ∀ a i, hsp k a i = true → hv M' a i = hv M a i) (hx : hxk k M) : hxk k M' := by
  match k with
  | 0 | 1 | 2 | 3 | 4 => exact hx1_c (fun i => h _ i (by simp [hsp])) hx
  | 5 | 6 | 7 | 8 => exact hx2_c (h _ _ (by simp [hsp])) (fun i => h _ _ (by simp [hsp])) (fun i => h _ _ (by simp [hsp])) hx
  | 9 | 10 | 11 | 12 => exact hxd_c (h _ _ (by simp [hsp])) (fun i _ => h _ _ (by simp [hsp])) hx
  | 13 => exact hx5_c (h _ _ (by simp [hsp])) (fun a ha i => h _ _ (by rcases ha with rfl | rfl | rfl | rfl <;> simp [hsp])) hx
  | 14 => exact hx6_c (fun i h1 h2 => h _ _ (by simp [hsp]; omega)) hx
  | 15 => exact hx6_c (fun i h1 h2 => h _ _ (by simp [hsp]; omega)) hx
  | 16 | 17 | 18 | 19 => exact hx7_c (h _ _ (by simp [hsp])) (fun a ha i h1 h2 => h _ _ (by rcases ha with rfl | rfl <;> simp [hsp] <;> omega)) hx
  | 20 | 21 | 22 | 23 => exact hxd_c (h _ _ (by simp [hsp])) (fun i hi => h _ _ (by simp [hsp]; try omega)) hx
  | 24 => exact hx9_c (h _ _ (by simp [hsp])) (fun i => h _ _ (by simp [hsp])) hx
  | 25 => exact hx12_c (h _ _ (by simp [hsp])) (h _ _ (by simp [hsp])) (fun i => h _ _ (by simp [hsp])) hx
  | 26 | 27 | 28 | 29 => exact hx13_c (h _ _ (by simp [hsp])) (h _ _ (by simp [hsp])) hx
  | n + 30 => exact trivial
/-- a cell is changed that these don't look at -/
theorem hxk_s {k a i : Nat} {v : Int32} {M : Nat → mq_C} (h : hsp k a i = false) (hx : hxk k M) : hxk k (hb_set M a i v) := by
  refine hxk_c (fun b j hb => hb_set_n ?_) hx
  by_cases e : b = a
  · right
    rintro rfl
    subst e
    rw [hb] at h
    cases h
  · exact .inl e
def hb_xcell (a : Nat) : Bool := mz_exol.elem a
theorem hsp_x {k a i : Nat} (h : hsp k a i = true) : mz_exol.elem a = true ∨ mz_frzl.elem (a, i) = true := by
  match k with
  | 0 | 1 | 2 | 3 | 4 => have := of_decide_eq_true h; subst this; exact .inl (by decide +kernel)
  | 5 | 6 | 7 | 8 => rcases of_decide_eq_true h with ⟨rfl, rfl⟩ | rfl | rfl; exact .inr (by decide +kernel); all_goals exact .inl (by decide +kernel)
  | 9 | 10 | 11 | 12 => rcases of_decide_eq_true h with ⟨rfl, rfl⟩ | rfl; exact .inr (by decide +kernel); all_goals exact .inl (by decide +kernel)
  | 13 => rcases of_decide_eq_true h with ⟨rfl, rfl⟩ | rfl | rfl | rfl | rfl; exact .inr (by decide +kernel); all_goals exact .inl (by decide +kernel)
  | 14 | 15 => obtain ⟨rfl, _⟩ := of_decide_eq_true h; exact .inl (by decide +kernel)
  | 16 | 17 | 18 | 19 => rcases of_decide_eq_true h with ⟨rfl, _⟩ | ⟨rfl | rfl, _⟩; all_goals exact .inl (by decide +kernel)
  | 20 | 21 | 22 | 23 => rcases of_decide_eq_true h with ⟨rfl, _⟩ | ⟨rfl, _⟩; all_goals exact .inl (by decide +kernel)
  | 24 => rcases of_decide_eq_true h with ⟨rfl, rfl⟩ | rfl; exact .inr (by decide +kernel); exact .inl (by decide +kernel)
  | 25 => rcases of_decide_eq_true h with ⟨rfl, rfl | rfl⟩ | rfl; exact .inr (by decide +kernel); exact .inr (by decide +kernel); exact .inl (by decide +kernel)
  | 26 | 27 | 28 | 29 => obtain ⟨rfl | rfl, _⟩ := of_decide_eq_true h; all_goals exact .inl (by decide +kernel)
  | n + 30 => cases h
theorem hb_same_x {M M' : Nat → mq_C} (h : mz_same mz_GG M M') {k a i : Nat} (hs : hsp k a i = true) : hv M' a i = hv M a i := by
  rcases hsp_x hs with hx | hx
  · have h1 : M' a = M a := h.1 a (by
      show (bif Nat.blt a 8 then true else mz_exol.elem a) = true
      rw [hx]
      cases Nat.blt a 8 <;> rfl)
    show hb_w mz_GG ((M' a).2[i]?) = hb_w mz_GG ((M a).2[i]?)
    rw [h1]
  · have h1 := h.2 (a, i) (List.elem_iff.mp hx)
    show hb_w mz_GG ((M' a).2[i]?) = hb_w mz_GG ((M a).2[i]?)
    rw [h1]
theorem HX_same : ∀ M M' : Nat → mq_C, mz_same mz_GG M M' → HX M → HX M' := fun _ _ h hx k => hxk_c (fun _ _ hs => hb_same_x h hs) (hx k)
