/-! What holds between calls holds at the start. -/
set_option maxRecDepth 1000000 in
theorem la_x0 : HX la_M := by
  intro k
  match k with
  | 0 => exact (by decide +kernel : hb_sum (fun b => hv la_M 13 (b + 1)) 15 ≤ 19)
  | 1 => exact (by decide +kernel : hb_sum (fun b => hv la_M 17 (b + 1)) 15 ≤ 286)
  | 2 => exact (by decide +kernel : hb_sum (fun b => hv la_M 21 (b + 1)) 15 ≤ 30)
  | 3 => exact (by decide +kernel : hb_sum (fun b => hv la_M 25 (b + 1)) 15 ≤ 288)
  | 4 => exact (by decide +kernel : hb_sum (fun b => hv la_M 29 (b + 1)) 15 ≤ 32)
  | 5 => exact fun i hi h => absurd h (by rw [(by decide +kernel : hv la_M 47 4 = 0)]; omega)
  | 6 => exact fun i hi h => absurd h (by rw [(by decide +kernel : hv la_M 58 4 = 0)]; omega)
  | 7 => exact fun i hi h => absurd h (by rw [(by decide +kernel : hv la_M 69 4 = 0)]; omega)
  | 8 => exact fun i hi h => absurd h (by rw [(by decide +kernel : hv la_M 80 4 = 0)]; omega)
  | 9 => exact fun i j _ _ h => absurd h (by rw [(by decide +kernel : hv la_M (47 + 2) 2 = 0)]; omega)
  | 10 => exact fun i j _ _ h => absurd h (by rw [(by decide +kernel : hv la_M (58 + 2) 2 = 0)]; omega)
  | 11 => exact fun i j _ _ h => absurd h (by rw [(by decide +kernel : hv la_M (69 + 2) 2 = 0)]; omega)
  | 12 => exact fun i j _ _ h => absurd h (by rw [(by decide +kernel : hv la_M (80 + 2) 2 = 0)]; omega)
  | 13 => exact (by decide +kernel : hv la_M 8 7 = hb_cnt (fun i => !decide (hv la_M (93 + 5 * (i / 32)) (i % 32) = -1)) 128)
  | 14 => exact (by decide +kernel : hb_sum (fun l => hv la_M 255 (16 * 0 + (l + 1))) 15 ≤ 320)
  | 15 => exact (by decide +kernel : hb_sum (fun l => hv la_M 255 (16 * 1 + (l + 1))) 15 ≤ 320)
  | 16 => exact fun i hi h => absurd h (by rw [(by decide +kernel : hv la_M 238 0 = 0)]; omega)
  | 17 => exact fun i hi h => absurd h (by rw [(by decide +kernel : hv la_M 238 1 = 0)]; omega)
  | 18 => exact fun i hi h => absurd h (by rw [(by decide +kernel : hv la_M 238 2 = 0)]; omega)
  | 19 => exact fun i hi h => absurd h (by rw [(by decide +kernel : hv la_M 238 3 = 0)]; omega)
  | 20 => exact fun i j _ _ h => absurd h (by rw [(by decide +kernel : hv la_M 245 0 = 0)]; omega)
  | 21 => exact fun i j _ _ h => absurd h (by rw [(by decide +kernel : hv la_M 245 1 = 0)]; omega)
  | 22 => exact fun i j _ _ h => absurd h (by rw [(by decide +kernel : hv la_M 245 2 = 0)]; omega)
  | 23 => exact fun i j _ _ h => absurd h (by rw [(by decide +kernel : hv la_M 245 3 = 0)]; omega)
  | 24 => exact (by decide +kernel : hv la_M 234 41 = hb_cnt (fun i => decide (0 ≤ hv la_M 261 i)) 128)
  | 25 => exact (by decide +kernel : hv la_M 234 17 + hb_sum (fun e => if (e : Int) < hv la_M 234 19 then 12 + hb_nm (hv la_M 251 (6 * e)) else 0) 6 + 4 ≤ 240)
  | 26 => exact fun _ => (by decide +kernel : hv la_M 236 0 = 0)
  | 27 => exact fun _ => (by decide +kernel : hv la_M 236 1 = 0)
  | 28 => exact fun _ => (by decide +kernel : hv la_M 236 2 = 0)
  | 29 => exact fun _ => (by decide +kernel : hv la_M 236 3 = 0)
  | n + 30 => exact trivial
theorem la_x {M : Nat → mq_C} (h : ∀ a, a < 271 → (a = 1 ∨ 8 ≤ a) → M a = la_M a) : HX M := by
  intro k
  refine hxk_c (fun a i hs => hb_vc (h a ?_ ?_) i) (la_x0 k)
  · rcases hsp_x hs with h3 | h3
    · have h4 : ∀ a ∈ mz_exol, a < 271 := by decide +kernel
      exact h4 a (List.elem_iff.mp h3)
    · have h4 : ∀ t ∈ mz_frzl, t.1 < 271 := by decide +kernel
      exact h4 _ (List.elem_iff.mp h3)
  · right
    rcases hsp_x hs with h3 | h3
    · have h4 : ∀ a ∈ mz_exol, 8 ≤ a := by decide +kernel
      exact h4 a (List.elem_iff.mp h3)
    · have h4 : ∀ t ∈ mz_frzl, 8 ≤ t.1 := by decide +kernel
      exact h4 _ (List.elem_iff.mp h3)
