/-! finish and spoil of the class: how long each archive is then. -/
def lx_Ks : List Nat := [4, 17, 18, 22, 48, 49, 51, 52, 53, 54, 55, 56, 63, 64, 65, 82, 83, 84, 85, 86, 87, 88, 89, 91, 92, 93, 94, 95, 96, 97, 98, 99, 100, 101, 102, 103, 104, 105]
set_option maxRecDepth 100000 in
theorem lx_ms : gz_ms 47 1 1 lx_Ks = true ∧ gz_ms 58 1 1 lx_Ks = true ∧ gz_ms 69 1 1 lx_Ks = true ∧ gz_ms 80 1 1 lx_Ks = true := by decide +kernel
def lx_ls (M M' : Nat → mq_C) : Prop := hv M' 47 1 = hv M 47 1 ∧ hv M' 58 1 = hv M 58 1 ∧ hv M' 69 1 = hv M 69 1 ∧ hv M' 80 1 = hv M 80 1
/-- runs of these methods leave every archive's length alone -/
theorem lx_len {d k pc : Nat} {L : mq_L} {st : List Value} {M : Nat → mq_C} {z u : Nat} {Q : (Option Value ⊕ Nat) → mq_S → Prop} (hk : k ∈ lx_Ks) (hm : mz_sh mz_GG M) (h : mq_R mq_PP d k pc L st (M, z, u) (fun r S' => lx_ls M S'.1 → Q r S')) : mq_R mq_PP d k pc L st (M, z, u) Q := by
  refine gz_R lx_ms.1 hk ((hb_kd (a := 47) hm rfl).trans rfl) ?_
  refine gz_R lx_ms.2.1 hk ((hb_kd (a := 58) hm rfl).trans rfl) ?_
  refine gz_R lx_ms.2.2.1 hk ((hb_kd (a := 69) hm rfl).trans rfl) ?_
  refine gz_R lx_ms.2.2.2 hk ((hb_kd (a := 80) hm rfl).trans rfl) ?_
  exact mq_R_mono h (fun r S' hq h4 h3 h2 h1 => hq ⟨h1, h2, h3, h4⟩)
theorem lx_sp (k a : Nat) (h : a = 47 ∨ a = 58 ∨ a = 69 ∨ a = 80) : hsp k a 1 = false := by
  match k with
  | 0 | 1 | 2 | 3 | 4 | 5 | 6 | 7 | 8 | 9 | 10 | 11 | 12 | 13 | 14 | 15 | 16 | 17 | 18 | 19 | 20 | 21 | 22 | 23 | 24 | 25 | 26 | 27 | 28 | 29 => exact decide_eq_false (by omega)
  | n + 30 => rfl
def lr_fin (p bo re en l0 l1 l2 l3 bo2 re2 en2 k0 k1 k2 k3 r : Int) : Prop := (r = 0 ∧ (p < 0 ∨ 3 < p ∨ p = 0 ∧ 0 < l0 ∨ p = 1 ∧ 0 < l1 ∨ p = 2 ∧ 0 < l2 ∨ p = 3 ∧ 0 < l3) ∧ bo2 = bo ∧ re2 = re ∧ en2 = en ∧ k0 = l0 ∧ k1 = l1 ∧ k2 = l2 ∧ k3 = l3)
  ∨ (r = 1 ∧ p = 0 ∧ l0 = 0 ∧ bo2 = 0 ∧ re2 = 0 ∧ en2 = 0 ∧ k0 = bo + re + 4 ∧ k1 = l1 ∧ k2 = l2 ∧ k3 = l3)
  ∨ (r = 1 ∧ p = 1 ∧ l1 = 0 ∧ bo2 = 0 ∧ re2 = 0 ∧ en2 = 0 ∧ k1 = bo + re + 4 ∧ k0 = l0 ∧ k2 = l2 ∧ k3 = l3)
  ∨ (r = 1 ∧ p = 2 ∧ l2 = 0 ∧ bo2 = 0 ∧ re2 = 0 ∧ en2 = 0 ∧ k2 = bo + re + 4 ∧ k0 = l0 ∧ k1 = l1 ∧ k3 = l3)
  ∨ (r = 1 ∧ p = 3 ∧ l3 = 0 ∧ bo2 = 0 ∧ re2 = 0 ∧ en2 = 0 ∧ k3 = bo + re + 4 ∧ k0 = l0 ∧ k1 = l1 ∧ k2 = l2)
theorem lr_fin_d {p bo re en l0 l1 l2 l3 bo2 re2 en2 k0 k1 k2 k3 r bo3 re3 en3 m0 m1 m2 m3 r3 : Int} (g : 0 ≤ l0 ∧ 0 ≤ l1 ∧ 0 ≤ l2 ∧ 0 ≤ l3) (h : lr_fin p bo re en l0 l1 l2 l3 bo2 re2 en2 k0 k1 k2 k3 r) (h2 : lr_fin p bo re en l0 l1 l2 l3 bo3 re3 en3 m0 m1 m2 m3 r3) : bo2 = bo3 ∧ re2 = re3 ∧ en2 = en3 ∧ k0 = m0 ∧ k1 = m1 ∧ k2 = m2 ∧ k3 = m3 ∧ r = r3 := by
  unfold lr_fin at h h2
  rcases h with h | h | h | h | h
  · rcases h2 with h2 | h2 | h2 | h2 | h2
    · exact ⟨by omega, by omega, by omega, by omega, by omega, by omega, by omega, by omega⟩
    · exfalso; omega
    · exfalso; omega
    · exfalso; omega
    · exfalso; omega
  · rcases h2 with h2 | h2 | h2 | h2 | h2
    · exfalso; omega
    · exact ⟨by omega, by omega, by omega, by omega, by omega, by omega, by omega, by omega⟩
    · exfalso; omega
    · exfalso; omega
    · exfalso; omega
  · rcases h2 with h2 | h2 | h2 | h2 | h2
    · exfalso; omega
    · exfalso; omega
    · exact ⟨by omega, by omega, by omega, by omega, by omega, by omega, by omega, by omega⟩
    · exfalso; omega
    · exfalso; omega
  · rcases h2 with h2 | h2 | h2 | h2 | h2
    · exfalso; omega
    · exfalso; omega
    · exfalso; omega
    · exact ⟨by omega, by omega, by omega, by omega, by omega, by omega, by omega, by omega⟩
    · exfalso; omega
  · rcases h2 with h2 | h2 | h2 | h2 | h2
    · exfalso; omega
    · exfalso; omega
    · exfalso; omega
    · exfalso; omega
    · exact ⟨by omega, by omega, by omega, by omega, by omega, by omega, by omega, by omega⟩
def lx_wa0_q : mz_Q := (80, [(1, 33), (1, 47), (3, 0)], [(236, [(12, -1), (13, -1)])], [9, 10, 11], [], [48])
def lx_wa0_s : List mz_Sp2 := [(102, [(1, 33), (1, 47), (0, 0)], [(0, 0), (1, 47)], [(0, [(12, -1), (13, -1), (66, 1)]), (0, [(12, 1), (13, 1), (66, -1)]), (-4, [(12, -1), (13, -1), (67, 1)]), (4, [(12, 1), (13, 1), (67, -1)]), (0, [(12, -1), (69, 1)]), (0, [(12, 1), (69, -1)]), (0, [(13, -1), (70, 1)]), (0, [(13, 1), (70, -1)]), (0, [(14, -1), (71, 1)]), (0, [(14, 1), (71, -1)])])]
def lx_wa0_h : List mz_H := [(0, 0, []), (0, 0, [(19, 1), (21, 1)]), (0, 0, [(0, 1)]), (35, 0, []), (48, 0, []), (0, 0, [(19, 1)]), (0, 0, []), (0, 0, []), (0, 0, [(20, 1)]), (0, 0, [(20, 1)]), (36, 0, []), (48, 0, []), (0, 0, [(21, 1)]), (0, 0, [(19, 1)]), (0, 0, []), (0, 0, [(22, 1)]), (0, 0, [(0, 1)]), (48, 0, []), (0, 0, [(19, 1), (21, 1)]), (0, 0, [(0, 1)]), (0, 0, []), (0, 0, []), (48, 0, []), (0, 0, []), (0, 0, [(19, 1), (21, 1)]), (0, 0, [(0, 1)]), (0, 0, [(19, 1), (21, 1)]), (0, 0, [(0, 1)]), (0, 0, [(23, 1)]), (0, 0, [(24, 1)]), (48, 0, []), (0, 0, []), (0, 0, [(19, 1), (21, 1)]), (0, 0, [(0, 1)]), (0, 0, [(21, 1), (23, 1)]), (0, 0, [(2, 1)]), (0, 0, [(0, 1)]), (0, 0, [(1, 1)]), (48, 0, []), (0, 0, []), (0, 0, [(21, 1), (23, 1)]), (0, 0, [(2, 1)]), (1, 0, []), (0, 0, [(21, 1)]), (0, 0, [(25, 1), (27, 1)]), (0, 0, [(6, 1)]), (0, 255, [(0, 1), (25, 1)]), (0, 255, [(1, 1), (6, 1), (27, 1)]), (0, 0, []), (0, 0, [(25, 1), (27, 1)]), (0, 0, [(6, 1)]), (0, 0, []), (0, 0, []), (0, 0, []), (0, 0, []), (0, 0, []), (0, 0, []), (0, 0, []), (0, 0, []), (0, 0, []), (0, 0, []), (0, 0, [])]
set_option maxRecDepth 100000 in
theorem lx_wa0_c : mz_blk mz_GG mq_PP mz_Cs lx_wa0_q 3 1 0 lx_wa0_s [] 68 lx_wa0_h = true := by decide +kernel
theorem lx_wa0 {X : (Nat → mq_C) → Prop} (hX : ∀ M M' : Nat → mq_C, mz_same mz_GG M M' → X M → X M') (hC : ∀ c ∈ mz_Cs, c.2 < 1 → mz_Ct mz_GG mq_PP X c.1 c.2) {d z u : Nat} {M : Nat → mq_C} {Q : (Option Value ⊕ Nat) → mq_S → Prop} {o2 : Option Value} (hd : 1 ≤ d) (hz : 272 ≤ z) (hm : mz_sh mz_GG M) (hx : X M) (h0 : mq_nl o2 = true) (p0 : 0 ≤ 236 - hv M 33 3 - hv M 33 5)
    (k0 : ∀ (M' : Nat → mq_C) (y2 : Int32) (y3 : Int32), mz_sh mz_GG M' → X M' → mz_fr lx_wa0_q M M' → (∀ a, a < 8 → M' a = M a) → hb_same mz_GG lx_wa0_q M M' → y2.toInt = hv M 33 3 + hv M 33 5 → y3.toInt = 4 + hv M 33 3 + hv M 33 5 → hv M' 33 3 = hv M 33 3 → hv M' 33 5 = hv M 33 5 → hv M' 33 6 = hv M 33 6 → mq_R mq_PP d 80 102 [some (.ref 33), some (.ref 47), some (.int y2)] [.int y3, .ref 47] (M', z, u) Q) : mq_R mq_PP d 80 0 [some (.ref 33), some (.ref 47), o2] [] (M, z, u) Q := by
  refine hb_blk mz_GG mq_PP X (q := lx_wa0_q) (nl := 3) (M := M) hb_okG hX hC lx_wa0_c hz hd (L := [some (.ref 33), some (.ref 47), o2]) (st := []) (show hb_lk mz_GG ([(1, 33), (1, 47), (3, 0)]) _ from ⟨⟨List.mem_singleton.mpr rfl, rfl⟩, ⟨List.mem_singleton.mpr rfl, rfl⟩, h0, trivial⟩) (show hb_pk mz_GG ([]) _ from trivial) hm hx ?_ ?_ ?_
  · exact hb_cons (show 0 ≤ mz_ev _ _ from (show 0 ≤ 236 + ((-1) * hv M 33 3 + ((-1) * hv M 33 5 + 0)) by omega)) (hb_nil)
  · intro s hs
    rcases List.mem_cons.mp hs with rfl | hs
    · intro ρ1 L' st' M' g1 g2 gm gr gf gs gx gw g8 ge
      obtain ⟨e0, L1, rfl, n0, gg0⟩ := hb_l1 mz_GG g1
      obtain rfl : e0 = 33 := List.mem_singleton.mp n0
      obtain ⟨e1, L1, rfl, n1, gg1⟩ := hb_l1 mz_GG gg0
      obtain rfl : e1 = 47 := List.mem_singleton.mp n1
      obtain ⟨y2, L1, rfl, qr66, gg2⟩ := hb_l0 mz_GG gg1
      have r66 : ρ1 66 = y2.toInt := qr66
      obtain ⟨y3, s1, rfl, qr67, gg3⟩ := hb_p0 mz_GG g2
      have r67 : ρ1 67 = y3.toInt := qr67
      obtain ⟨e4, s1, rfl, n4, gg4⟩ := hb_p1 mz_GG gg3
      obtain rfl : e4 = 47 := List.mem_singleton.mp n4
      obtain rfl := hb_ln mz_GG gg2
      obtain rfl := hb_pn mz_GG gg4
      have r12 : ρ1 12 = hv M 33 3 := gr 12 (by decide +kernel)
      have r13 : ρ1 13 = hv M 33 5 := gr 13 (by decide +kernel)
      have r14 : ρ1 14 = hv M 33 6 := gr 14 (by decide +kernel)
      have r69 : ρ1 69 = hv M' 33 3 := gm 0 9 (33, 3) rfl rfl
      have r70 : ρ1 70 = hv M' 33 5 := gm 1 10 (33, 5) rfl rfl
      have r71 : ρ1 71 = hv M' 33 6 := gm 2 11 (33, 6) rfl rfl
      obtain ⟨f0, gf⟩ := hb_unc gf
      have f0 : 0 ≤ 0 + ((-1) * ρ1 12 + ((-1) * ρ1 13 + (1 * ρ1 66 + 0))) := f0
      rw [r12, r13, r66] at f0
      obtain ⟨f1, gf⟩ := hb_unc gf
      have f1 : 0 ≤ 0 + (1 * ρ1 12 + (1 * ρ1 13 + ((-1) * ρ1 66 + 0))) := f1
      rw [r12, r13, r66] at f1
      obtain ⟨f2, gf⟩ := hb_unc gf
      have f2 : 0 ≤ -4 + ((-1) * ρ1 12 + ((-1) * ρ1 13 + (1 * ρ1 67 + 0))) := f2
      rw [r12, r13, r67] at f2
      obtain ⟨f3, gf⟩ := hb_unc gf
      have f3 : 0 ≤ 4 + (1 * ρ1 12 + (1 * ρ1 13 + ((-1) * ρ1 67 + 0))) := f3
      rw [r12, r13, r67] at f3
      obtain ⟨f4, gf⟩ := hb_unc gf
      have f4 : 0 ≤ 0 + ((-1) * ρ1 12 + (1 * ρ1 69 + 0)) := f4
      rw [r12, r69] at f4
      obtain ⟨f5, gf⟩ := hb_unc gf
      have f5 : 0 ≤ 0 + (1 * ρ1 12 + ((-1) * ρ1 69 + 0)) := f5
      rw [r12, r69] at f5
      obtain ⟨f6, gf⟩ := hb_unc gf
      have f6 : 0 ≤ 0 + ((-1) * ρ1 13 + (1 * ρ1 70 + 0)) := f6
      rw [r13, r70] at f6
      obtain ⟨f7, gf⟩ := hb_unc gf
      have f7 : 0 ≤ 0 + (1 * ρ1 13 + ((-1) * ρ1 70 + 0)) := f7
      rw [r13, r70] at f7
      obtain ⟨f8, gf⟩ := hb_unc gf
      have f8 : 0 ≤ 0 + ((-1) * ρ1 14 + (1 * ρ1 71 + 0)) := f8
      rw [r14, r71] at f8
      obtain ⟨f9, gf⟩ := hb_unc gf
      have f9 : 0 ≤ 0 + (1 * ρ1 14 + ((-1) * ρ1 71 + 0)) := f9
      rw [r14, r71] at f9
      exact k0 M' y2 y3 gs gx gw g8 ge  (by have h1 := f0; have h2 := f1; omega) (by have h1 := f2; have h2 := f3; omega) (by have h1 := f4; have h2 := f5; omega) (by have h1 := f6; have h2 := f7; omega) (by have h1 := f8; have h2 := f9; omega)
    cases hs
  · intro r S hpo
    obtain ⟨b1, b2, b3, b4, b5, p, hp, res, hf, hre⟩ := hpo
    cases hp

def lx_wb0_q : mz_Q := (80, [(1, 33), (1, 47), (0, 0)], [], [9, 10, 11], [(3, 0, [(0, [(64, 1)]), (0, [(64, -1)]), (0, [(65, 1)]), (0, [(65, -1)]), (0, [(66, 1)]), (0, [(66, -1)])])], [33])
def lx_wb0_s : List mz_Sp2 := []
def lx_wb0_h : List mz_H := [(0, 0, []), (0, 0, []), (0, 0, []), (0, 0, []), (0, 0, []), (0, 0, []), (0, 0, []), (0, 0, []), (0, 0, []), (0, 0, []), (0, 0, []), (0, 0, []), (0, 0, [])]
set_option maxRecDepth 100000 in
theorem lx_wb0_c : mz_blk mz_GG mq_PP mz_Cs lx_wb0_q 3 1 105 lx_wb0_s [] 15 lx_wb0_h = true := by decide +kernel
theorem lx_wb0 {X : (Nat → mq_C) → Prop} (hX : ∀ M M' : Nat → mq_C, mz_same mz_GG M M' → X M → X M') (hC : ∀ c ∈ mz_Cs, c.2 < 1 → mz_Ct mz_GG mq_PP X c.1 c.2) {d z u : Nat} {M : Nat → mq_C} {Q : (Option Value ⊕ Nat) → mq_S → Prop} {x2 : Int32} (hd : 1 ≤ d) (hz : 272 ≤ z) (hm : mz_sh mz_GG M) (hx : X M)
    (w0 : ∀ (M' : Nat → mq_C), mz_sh mz_GG M' → X M' → mz_fr lx_wb0_q M M' → (∀ a, a < 8 → M' a = M a) → hb_same mz_GG lx_wb0_q M M' → 0 ≤ hv M' 33 3 → 0 ≤ 0 - hv M' 33 3 → 0 ≤ hv M' 33 5 → 0 ≤ 0 - hv M' 33 5 → 0 ≤ hv M' 33 6 → 0 ≤ 0 - hv M' 33 6 → Q (.inl none) (M', z, u)) : mq_R mq_PP d 80 105 [some (.ref 33), some (.ref 47), some (.int x2)] [] (M, z, u) Q := by
  refine hb_blk mz_GG mq_PP X (q := lx_wb0_q) (nl := 3) (M := M) hb_okG hX hC lx_wb0_c hz hd (L := [some (.ref 33), some (.ref 47), some (.int x2)]) (st := []) (show hb_lk mz_GG ([(1, 33), (1, 47), (0, 0)]) _ from ⟨⟨List.mem_singleton.mpr rfl, rfl⟩, ⟨List.mem_singleton.mpr rfl, rfl⟩, trivial, trivial⟩) (show hb_pk mz_GG ([]) _ from trivial) hm hx ?_ ?_ ?_
  · exact hb_nil
  · intro s hs
    cases hs
  · intro r S hpo
    obtain ⟨b1, b2, b3, b4, b5, p, hp, res, hf, hre⟩ := hpo
    rcases List.mem_cons.mp hp with rfl | hp
    · obtain ⟨rfl, hz1, hu1⟩ := mz_re_3 mz_GG hre rfl
      obtain ⟨M', z', u'⟩ := S
      cases hz1
      cases hu1
      have r64 : hb_r1 mz_GG lx_wb0_q (hb_rb mz_GG lx_wb0_q 3 [some (.ref 33), some (.ref 47), some (.int x2)] [] M) M' res 64 = hv M' 33 3 := rfl
      have r65 : hb_r1 mz_GG lx_wb0_q (hb_rb mz_GG lx_wb0_q 3 [some (.ref 33), some (.ref 47), some (.int x2)] [] M) M' res 65 = hv M' 33 5 := rfl
      have r66 : hb_r1 mz_GG lx_wb0_q (hb_rb mz_GG lx_wb0_q 3 [some (.ref 33), some (.ref 47), some (.int x2)] [] M) M' res 66 = hv M' 33 6 := rfl
      obtain ⟨f0, hf⟩ := hb_unc hf
      have f0 : 0 ≤ 0 + (1 * hv M' 33 3 + 0) := f0
      obtain ⟨f1, hf⟩ := hb_unc hf
      have f1 : 0 ≤ 0 + ((-1) * hv M' 33 3 + 0) := f1
      obtain ⟨f2, hf⟩ := hb_unc hf
      have f2 : 0 ≤ 0 + (1 * hv M' 33 5 + 0) := f2
      obtain ⟨f3, hf⟩ := hb_unc hf
      have f3 : 0 ≤ 0 + ((-1) * hv M' 33 5 + 0) := f3
      obtain ⟨f4, hf⟩ := hb_unc hf
      have f4 : 0 ≤ 0 + (1 * hv M' 33 6 + 0) := f4
      obtain ⟨f5, hf⟩ := hb_unc hf
      have f5 : 0 ≤ 0 + ((-1) * hv M' 33 6 + 0) := f5
      exact w0 M' b1 b2 b3 b4 b5 (by have h1 := f0; omega) (by have h1 := f1; omega) (by have h1 := f2; omega) (by have h1 := f3; omega) (by have h1 := f4; omega) (by have h1 := f5; omega)
    cases hp

def lx_wa1_q : mz_Q := (80, [(1, 33), (1, 58), (3, 0)], [(236, [(12, -1), (13, -1)])], [9, 10, 11], [], [59])
def lx_wa1_s : List mz_Sp2 := [(102, [(1, 33), (1, 58), (0, 0)], [(0, 0), (1, 58)], [(0, [(12, -1), (13, -1), (66, 1)]), (0, [(12, 1), (13, 1), (66, -1)]), (-4, [(12, -1), (13, -1), (67, 1)]), (4, [(12, 1), (13, 1), (67, -1)]), (0, [(12, -1), (69, 1)]), (0, [(12, 1), (69, -1)]), (0, [(13, -1), (70, 1)]), (0, [(13, 1), (70, -1)]), (0, [(14, -1), (71, 1)]), (0, [(14, 1), (71, -1)])])]
def lx_wa1_h : List mz_H := [(0, 0, []), (0, 0, [(19, 1), (21, 1)]), (0, 0, [(0, 1)]), (35, 0, []), (59, 0, []), (0, 0, [(19, 1)]), (0, 0, []), (0, 0, []), (0, 0, [(20, 1)]), (0, 0, [(20, 1)]), (36, 0, []), (59, 0, []), (0, 0, [(21, 1)]), (0, 0, [(19, 1)]), (0, 0, []), (0, 0, [(22, 1)]), (0, 0, [(0, 1)]), (59, 0, []), (0, 0, [(19, 1), (21, 1)]), (0, 0, [(0, 1)]), (0, 0, []), (0, 0, []), (59, 0, []), (0, 0, []), (0, 0, [(19, 1), (21, 1)]), (0, 0, [(0, 1)]), (0, 0, [(19, 1), (21, 1)]), (0, 0, [(0, 1)]), (0, 0, [(23, 1)]), (0, 0, [(24, 1)]), (59, 0, []), (0, 0, []), (0, 0, [(19, 1), (21, 1)]), (0, 0, [(0, 1)]), (0, 0, [(21, 1), (23, 1)]), (0, 0, [(2, 1)]), (0, 0, [(0, 1)]), (0, 0, [(1, 1)]), (59, 0, []), (0, 0, []), (0, 0, [(21, 1), (23, 1)]), (0, 0, [(2, 1)]), (1, 0, []), (0, 0, [(21, 1)]), (0, 0, [(25, 1), (27, 1)]), (0, 0, [(6, 1)]), (0, 255, [(0, 1), (25, 1)]), (0, 255, [(1, 1), (6, 1), (27, 1)]), (0, 0, []), (0, 0, [(25, 1), (27, 1)]), (0, 0, [(6, 1)]), (0, 0, []), (0, 0, []), (0, 0, []), (0, 0, []), (0, 0, []), (0, 0, []), (0, 0, []), (0, 0, []), (0, 0, []), (0, 0, []), (0, 0, [])]
set_option maxRecDepth 100000 in
theorem lx_wa1_c : mz_blk mz_GG mq_PP mz_Cs lx_wa1_q 3 1 0 lx_wa1_s [] 68 lx_wa1_h = true := by decide +kernel
theorem lx_wa1 {X : (Nat → mq_C) → Prop} (hX : ∀ M M' : Nat → mq_C, mz_same mz_GG M M' → X M → X M') (hC : ∀ c ∈ mz_Cs, c.2 < 1 → mz_Ct mz_GG mq_PP X c.1 c.2) {d z u : Nat} {M : Nat → mq_C} {Q : (Option Value ⊕ Nat) → mq_S → Prop} {o2 : Option Value} (hd : 1 ≤ d) (hz : 272 ≤ z) (hm : mz_sh mz_GG M) (hx : X M) (h0 : mq_nl o2 = true) (p0 : 0 ≤ 236 - hv M 33 3 - hv M 33 5)
    (k0 : ∀ (M' : Nat → mq_C) (y2 : Int32) (y3 : Int32), mz_sh mz_GG M' → X M' → mz_fr lx_wa1_q M M' → (∀ a, a < 8 → M' a = M a) → hb_same mz_GG lx_wa1_q M M' → y2.toInt = hv M 33 3 + hv M 33 5 → y3.toInt = 4 + hv M 33 3 + hv M 33 5 → hv M' 33 3 = hv M 33 3 → hv M' 33 5 = hv M 33 5 → hv M' 33 6 = hv M 33 6 → mq_R mq_PP d 80 102 [some (.ref 33), some (.ref 58), some (.int y2)] [.int y3, .ref 58] (M', z, u) Q) : mq_R mq_PP d 80 0 [some (.ref 33), some (.ref 58), o2] [] (M, z, u) Q := by
  refine hb_blk mz_GG mq_PP X (q := lx_wa1_q) (nl := 3) (M := M) hb_okG hX hC lx_wa1_c hz hd (L := [some (.ref 33), some (.ref 58), o2]) (st := []) (show hb_lk mz_GG ([(1, 33), (1, 58), (3, 0)]) _ from ⟨⟨List.mem_singleton.mpr rfl, rfl⟩, ⟨List.mem_singleton.mpr rfl, rfl⟩, h0, trivial⟩) (show hb_pk mz_GG ([]) _ from trivial) hm hx ?_ ?_ ?_
  · exact hb_cons (show 0 ≤ mz_ev _ _ from (show 0 ≤ 236 + ((-1) * hv M 33 3 + ((-1) * hv M 33 5 + 0)) by omega)) (hb_nil)
  · intro s hs
    rcases List.mem_cons.mp hs with rfl | hs
    · intro ρ1 L' st' M' g1 g2 gm gr gf gs gx gw g8 ge
      obtain ⟨e0, L1, rfl, n0, gg0⟩ := hb_l1 mz_GG g1
      obtain rfl : e0 = 33 := List.mem_singleton.mp n0
      obtain ⟨e1, L1, rfl, n1, gg1⟩ := hb_l1 mz_GG gg0
      obtain rfl : e1 = 58 := List.mem_singleton.mp n1
      obtain ⟨y2, L1, rfl, qr66, gg2⟩ := hb_l0 mz_GG gg1
      have r66 : ρ1 66 = y2.toInt := qr66
      obtain ⟨y3, s1, rfl, qr67, gg3⟩ := hb_p0 mz_GG g2
      have r67 : ρ1 67 = y3.toInt := qr67
      obtain ⟨e4, s1, rfl, n4, gg4⟩ := hb_p1 mz_GG gg3
      obtain rfl : e4 = 58 := List.mem_singleton.mp n4
      obtain rfl := hb_ln mz_GG gg2
      obtain rfl := hb_pn mz_GG gg4
      have r12 : ρ1 12 = hv M 33 3 := gr 12 (by decide +kernel)
      have r13 : ρ1 13 = hv M 33 5 := gr 13 (by decide +kernel)
      have r14 : ρ1 14 = hv M 33 6 := gr 14 (by decide +kernel)
      have r69 : ρ1 69 = hv M' 33 3 := gm 0 9 (33, 3) rfl rfl
      have r70 : ρ1 70 = hv M' 33 5 := gm 1 10 (33, 5) rfl rfl
      have r71 : ρ1 71 = hv M' 33 6 := gm 2 11 (33, 6) rfl rfl
      obtain ⟨f0, gf⟩ := hb_unc gf
      have f0 : 0 ≤ 0 + ((-1) * ρ1 12 + ((-1) * ρ1 13 + (1 * ρ1 66 + 0))) := f0
      rw [r12, r13, r66] at f0
      obtain ⟨f1, gf⟩ := hb_unc gf
      have f1 : 0 ≤ 0 + (1 * ρ1 12 + (1 * ρ1 13 + ((-1) * ρ1 66 + 0))) := f1
      rw [r12, r13, r66] at f1
      obtain ⟨f2, gf⟩ := hb_unc gf
      have f2 : 0 ≤ -4 + ((-1) * ρ1 12 + ((-1) * ρ1 13 + (1 * ρ1 67 + 0))) := f2
      rw [r12, r13, r67] at f2
      obtain ⟨f3, gf⟩ := hb_unc gf
      have f3 : 0 ≤ 4 + (1 * ρ1 12 + (1 * ρ1 13 + ((-1) * ρ1 67 + 0))) := f3
      rw [r12, r13, r67] at f3
      obtain ⟨f4, gf⟩ := hb_unc gf
      have f4 : 0 ≤ 0 + ((-1) * ρ1 12 + (1 * ρ1 69 + 0)) := f4
      rw [r12, r69] at f4
      obtain ⟨f5, gf⟩ := hb_unc gf
      have f5 : 0 ≤ 0 + (1 * ρ1 12 + ((-1) * ρ1 69 + 0)) := f5
      rw [r12, r69] at f5
      obtain ⟨f6, gf⟩ := hb_unc gf
      have f6 : 0 ≤ 0 + ((-1) * ρ1 13 + (1 * ρ1 70 + 0)) := f6
      rw [r13, r70] at f6
      obtain ⟨f7, gf⟩ := hb_unc gf
      have f7 : 0 ≤ 0 + (1 * ρ1 13 + ((-1) * ρ1 70 + 0)) := f7
      rw [r13, r70] at f7
      obtain ⟨f8, gf⟩ := hb_unc gf
      have f8 : 0 ≤ 0 + ((-1) * ρ1 14 + (1 * ρ1 71 + 0)) := f8
      rw [r14, r71] at f8
      obtain ⟨f9, gf⟩ := hb_unc gf
      have f9 : 0 ≤ 0 + (1 * ρ1 14 + ((-1) * ρ1 71 + 0)) := f9
      rw [r14, r71] at f9
      exact k0 M' y2 y3 gs gx gw g8 ge  (by have h1 := f0; have h2 := f1; omega) (by have h1 := f2; have h2 := f3; omega) (by have h1 := f4; have h2 := f5; omega) (by have h1 := f6; have h2 := f7; omega) (by have h1 := f8; have h2 := f9; omega)
    cases hs
  · intro r S hpo
    obtain ⟨b1, b2, b3, b4, b5, p, hp, res, hf, hre⟩ := hpo
    cases hp

def lx_wb1_q : mz_Q := (80, [(1, 33), (1, 58), (0, 0)], [], [9, 10, 11], [(3, 0, [(0, [(64, 1)]), (0, [(64, -1)]), (0, [(65, 1)]), (0, [(65, -1)]), (0, [(66, 1)]), (0, [(66, -1)])])], [33])
def lx_wb1_s : List mz_Sp2 := []
def lx_wb1_h : List mz_H := [(0, 0, []), (0, 0, []), (0, 0, []), (0, 0, []), (0, 0, []), (0, 0, []), (0, 0, []), (0, 0, []), (0, 0, []), (0, 0, []), (0, 0, []), (0, 0, []), (0, 0, [])]
set_option maxRecDepth 100000 in
theorem lx_wb1_c : mz_blk mz_GG mq_PP mz_Cs lx_wb1_q 3 1 105 lx_wb1_s [] 15 lx_wb1_h = true := by decide +kernel
theorem lx_wb1 {X : (Nat → mq_C) → Prop} (hX : ∀ M M' : Nat → mq_C, mz_same mz_GG M M' → X M → X M') (hC : ∀ c ∈ mz_Cs, c.2 < 1 → mz_Ct mz_GG mq_PP X c.1 c.2) {d z u : Nat} {M : Nat → mq_C} {Q : (Option Value ⊕ Nat) → mq_S → Prop} {x2 : Int32} (hd : 1 ≤ d) (hz : 272 ≤ z) (hm : mz_sh mz_GG M) (hx : X M)
    (w0 : ∀ (M' : Nat → mq_C), mz_sh mz_GG M' → X M' → mz_fr lx_wb1_q M M' → (∀ a, a < 8 → M' a = M a) → hb_same mz_GG lx_wb1_q M M' → 0 ≤ hv M' 33 3 → 0 ≤ 0 - hv M' 33 3 → 0 ≤ hv M' 33 5 → 0 ≤ 0 - hv M' 33 5 → 0 ≤ hv M' 33 6 → 0 ≤ 0 - hv M' 33 6 → Q (.inl none) (M', z, u)) : mq_R mq_PP d 80 105 [some (.ref 33), some (.ref 58), some (.int x2)] [] (M, z, u) Q := by
  refine hb_blk mz_GG mq_PP X (q := lx_wb1_q) (nl := 3) (M := M) hb_okG hX hC lx_wb1_c hz hd (L := [some (.ref 33), some (.ref 58), some (.int x2)]) (st := []) (show hb_lk mz_GG ([(1, 33), (1, 58), (0, 0)]) _ from ⟨⟨List.mem_singleton.mpr rfl, rfl⟩, ⟨List.mem_singleton.mpr rfl, rfl⟩, trivial, trivial⟩) (show hb_pk mz_GG ([]) _ from trivial) hm hx ?_ ?_ ?_
  · exact hb_nil
  · intro s hs
    cases hs
  · intro r S hpo
    obtain ⟨b1, b2, b3, b4, b5, p, hp, res, hf, hre⟩ := hpo
    rcases List.mem_cons.mp hp with rfl | hp
    · obtain ⟨rfl, hz1, hu1⟩ := mz_re_3 mz_GG hre rfl
      obtain ⟨M', z', u'⟩ := S
      cases hz1
      cases hu1
      have r64 : hb_r1 mz_GG lx_wb1_q (hb_rb mz_GG lx_wb1_q 3 [some (.ref 33), some (.ref 58), some (.int x2)] [] M) M' res 64 = hv M' 33 3 := rfl
      have r65 : hb_r1 mz_GG lx_wb1_q (hb_rb mz_GG lx_wb1_q 3 [some (.ref 33), some (.ref 58), some (.int x2)] [] M) M' res 65 = hv M' 33 5 := rfl
      have r66 : hb_r1 mz_GG lx_wb1_q (hb_rb mz_GG lx_wb1_q 3 [some (.ref 33), some (.ref 58), some (.int x2)] [] M) M' res 66 = hv M' 33 6 := rfl
      obtain ⟨f0, hf⟩ := hb_unc hf
      have f0 : 0 ≤ 0 + (1 * hv M' 33 3 + 0) := f0
      obtain ⟨f1, hf⟩ := hb_unc hf
      have f1 : 0 ≤ 0 + ((-1) * hv M' 33 3 + 0) := f1
      obtain ⟨f2, hf⟩ := hb_unc hf
      have f2 : 0 ≤ 0 + (1 * hv M' 33 5 + 0) := f2
      obtain ⟨f3, hf⟩ := hb_unc hf
      have f3 : 0 ≤ 0 + ((-1) * hv M' 33 5 + 0) := f3
      obtain ⟨f4, hf⟩ := hb_unc hf
      have f4 : 0 ≤ 0 + (1 * hv M' 33 6 + 0) := f4
      obtain ⟨f5, hf⟩ := hb_unc hf
      have f5 : 0 ≤ 0 + ((-1) * hv M' 33 6 + 0) := f5
      exact w0 M' b1 b2 b3 b4 b5 (by have h1 := f0; omega) (by have h1 := f1; omega) (by have h1 := f2; omega) (by have h1 := f3; omega) (by have h1 := f4; omega) (by have h1 := f5; omega)
    cases hp

def lx_wa2_q : mz_Q := (80, [(1, 33), (1, 69), (3, 0)], [(236, [(12, -1), (13, -1)])], [9, 10, 11], [], [70])
def lx_wa2_s : List mz_Sp2 := [(102, [(1, 33), (1, 69), (0, 0)], [(0, 0), (1, 69)], [(0, [(12, -1), (13, -1), (66, 1)]), (0, [(12, 1), (13, 1), (66, -1)]), (-4, [(12, -1), (13, -1), (67, 1)]), (4, [(12, 1), (13, 1), (67, -1)]), (0, [(12, -1), (69, 1)]), (0, [(12, 1), (69, -1)]), (0, [(13, -1), (70, 1)]), (0, [(13, 1), (70, -1)]), (0, [(14, -1), (71, 1)]), (0, [(14, 1), (71, -1)])])]
def lx_wa2_h : List mz_H := [(0, 0, []), (0, 0, [(19, 1), (21, 1)]), (0, 0, [(0, 1)]), (35, 0, []), (70, 0, []), (0, 0, [(19, 1)]), (0, 0, []), (0, 0, []), (0, 0, [(20, 1)]), (0, 0, [(20, 1)]), (36, 0, []), (70, 0, []), (0, 0, [(21, 1)]), (0, 0, [(19, 1)]), (0, 0, []), (0, 0, [(22, 1)]), (0, 0, [(0, 1)]), (70, 0, []), (0, 0, [(19, 1), (21, 1)]), (0, 0, [(0, 1)]), (0, 0, []), (0, 0, []), (70, 0, []), (0, 0, []), (0, 0, [(19, 1), (21, 1)]), (0, 0, [(0, 1)]), (0, 0, [(19, 1), (21, 1)]), (0, 0, [(0, 1)]), (0, 0, [(23, 1)]), (0, 0, [(24, 1)]), (70, 0, []), (0, 0, []), (0, 0, [(19, 1), (21, 1)]), (0, 0, [(0, 1)]), (0, 0, [(21, 1), (23, 1)]), (0, 0, [(2, 1)]), (0, 0, [(0, 1)]), (0, 0, [(1, 1)]), (70, 0, []), (0, 0, []), (0, 0, [(21, 1), (23, 1)]), (0, 0, [(2, 1)]), (1, 0, []), (0, 0, [(21, 1)]), (0, 0, [(25, 1), (27, 1)]), (0, 0, [(6, 1)]), (0, 255, [(0, 1), (25, 1)]), (0, 255, [(1, 1), (6, 1), (27, 1)]), (0, 0, []), (0, 0, [(25, 1), (27, 1)]), (0, 0, [(6, 1)]), (0, 0, []), (0, 0, []), (0, 0, []), (0, 0, []), (0, 0, []), (0, 0, []), (0, 0, []), (0, 0, []), (0, 0, []), (0, 0, []), (0, 0, [])]
set_option maxRecDepth 100000 in
theorem lx_wa2_c : mz_blk mz_GG mq_PP mz_Cs lx_wa2_q 3 1 0 lx_wa2_s [] 68 lx_wa2_h = true := by decide +kernel
theorem lx_wa2 {X : (Nat → mq_C) → Prop} (hX : ∀ M M' : Nat → mq_C, mz_same mz_GG M M' → X M → X M') (hC : ∀ c ∈ mz_Cs, c.2 < 1 → mz_Ct mz_GG mq_PP X c.1 c.2) {d z u : Nat} {M : Nat → mq_C} {Q : (Option Value ⊕ Nat) → mq_S → Prop} {o2 : Option Value} (hd : 1 ≤ d) (hz : 272 ≤ z) (hm : mz_sh mz_GG M) (hx : X M) (h0 : mq_nl o2 = true) (p0 : 0 ≤ 236 - hv M 33 3 - hv M 33 5)
    (k0 : ∀ (M' : Nat → mq_C) (y2 : Int32) (y3 : Int32), mz_sh mz_GG M' → X M' → mz_fr lx_wa2_q M M' → (∀ a, a < 8 → M' a = M a) → hb_same mz_GG lx_wa2_q M M' → y2.toInt = hv M 33 3 + hv M 33 5 → y3.toInt = 4 + hv M 33 3 + hv M 33 5 → hv M' 33 3 = hv M 33 3 → hv M' 33 5 = hv M 33 5 → hv M' 33 6 = hv M 33 6 → mq_R mq_PP d 80 102 [some (.ref 33), some (.ref 69), some (.int y2)] [.int y3, .ref 69] (M', z, u) Q) : mq_R mq_PP d 80 0 [some (.ref 33), some (.ref 69), o2] [] (M, z, u) Q := by
  refine hb_blk mz_GG mq_PP X (q := lx_wa2_q) (nl := 3) (M := M) hb_okG hX hC lx_wa2_c hz hd (L := [some (.ref 33), some (.ref 69), o2]) (st := []) (show hb_lk mz_GG ([(1, 33), (1, 69), (3, 0)]) _ from ⟨⟨List.mem_singleton.mpr rfl, rfl⟩, ⟨List.mem_singleton.mpr rfl, rfl⟩, h0, trivial⟩) (show hb_pk mz_GG ([]) _ from trivial) hm hx ?_ ?_ ?_
  · exact hb_cons (show 0 ≤ mz_ev _ _ from (show 0 ≤ 236 + ((-1) * hv M 33 3 + ((-1) * hv M 33 5 + 0)) by omega)) (hb_nil)
  · intro s hs
    rcases List.mem_cons.mp hs with rfl | hs
    · intro ρ1 L' st' M' g1 g2 gm gr gf gs gx gw g8 ge
      obtain ⟨e0, L1, rfl, n0, gg0⟩ := hb_l1 mz_GG g1
      obtain rfl : e0 = 33 := List.mem_singleton.mp n0
      obtain ⟨e1, L1, rfl, n1, gg1⟩ := hb_l1 mz_GG gg0
      obtain rfl : e1 = 69 := List.mem_singleton.mp n1
      obtain ⟨y2, L1, rfl, qr66, gg2⟩ := hb_l0 mz_GG gg1
      have r66 : ρ1 66 = y2.toInt := qr66
      obtain ⟨y3, s1, rfl, qr67, gg3⟩ := hb_p0 mz_GG g2
      have r67 : ρ1 67 = y3.toInt := qr67
      obtain ⟨e4, s1, rfl, n4, gg4⟩ := hb_p1 mz_GG gg3
      obtain rfl : e4 = 69 := List.mem_singleton.mp n4
      obtain rfl := hb_ln mz_GG gg2
      obtain rfl := hb_pn mz_GG gg4
      have r12 : ρ1 12 = hv M 33 3 := gr 12 (by decide +kernel)
      have r13 : ρ1 13 = hv M 33 5 := gr 13 (by decide +kernel)
      have r14 : ρ1 14 = hv M 33 6 := gr 14 (by decide +kernel)
      have r69 : ρ1 69 = hv M' 33 3 := gm 0 9 (33, 3) rfl rfl
      have r70 : ρ1 70 = hv M' 33 5 := gm 1 10 (33, 5) rfl rfl
      have r71 : ρ1 71 = hv M' 33 6 := gm 2 11 (33, 6) rfl rfl
      obtain ⟨f0, gf⟩ := hb_unc gf
      have f0 : 0 ≤ 0 + ((-1) * ρ1 12 + ((-1) * ρ1 13 + (1 * ρ1 66 + 0))) := f0
      rw [r12, r13, r66] at f0
      obtain ⟨f1, gf⟩ := hb_unc gf
      have f1 : 0 ≤ 0 + (1 * ρ1 12 + (1 * ρ1 13 + ((-1) * ρ1 66 + 0))) := f1
      rw [r12, r13, r66] at f1
      obtain ⟨f2, gf⟩ := hb_unc gf
      have f2 : 0 ≤ -4 + ((-1) * ρ1 12 + ((-1) * ρ1 13 + (1 * ρ1 67 + 0))) := f2
      rw [r12, r13, r67] at f2
      obtain ⟨f3, gf⟩ := hb_unc gf
      have f3 : 0 ≤ 4 + (1 * ρ1 12 + (1 * ρ1 13 + ((-1) * ρ1 67 + 0))) := f3
      rw [r12, r13, r67] at f3
      obtain ⟨f4, gf⟩ := hb_unc gf
      have f4 : 0 ≤ 0 + ((-1) * ρ1 12 + (1 * ρ1 69 + 0)) := f4
      rw [r12, r69] at f4
      obtain ⟨f5, gf⟩ := hb_unc gf
      have f5 : 0 ≤ 0 + (1 * ρ1 12 + ((-1) * ρ1 69 + 0)) := f5
      rw [r12, r69] at f5
      obtain ⟨f6, gf⟩ := hb_unc gf
      have f6 : 0 ≤ 0 + ((-1) * ρ1 13 + (1 * ρ1 70 + 0)) := f6
      rw [r13, r70] at f6
      obtain ⟨f7, gf⟩ := hb_unc gf
      have f7 : 0 ≤ 0 + (1 * ρ1 13 + ((-1) * ρ1 70 + 0)) := f7
      rw [r13, r70] at f7
      obtain ⟨f8, gf⟩ := hb_unc gf
      have f8 : 0 ≤ 0 + ((-1) * ρ1 14 + (1 * ρ1 71 + 0)) := f8
      rw [r14, r71] at f8
      obtain ⟨f9, gf⟩ := hb_unc gf
      have f9 : 0 ≤ 0 + (1 * ρ1 14 + ((-1) * ρ1 71 + 0)) := f9
      rw [r14, r71] at f9
      exact k0 M' y2 y3 gs gx gw g8 ge  (by have h1 := f0; have h2 := f1; omega) (by have h1 := f2; have h2 := f3; omega) (by have h1 := f4; have h2 := f5; omega) (by have h1 := f6; have h2 := f7; omega) (by have h1 := f8; have h2 := f9; omega)
    cases hs
  · intro r S hpo
    obtain ⟨b1, b2, b3, b4, b5, p, hp, res, hf, hre⟩ := hpo
    cases hp

def lx_wb2_q : mz_Q := (80, [(1, 33), (1, 69), (0, 0)], [], [9, 10, 11], [(3, 0, [(0, [(64, 1)]), (0, [(64, -1)]), (0, [(65, 1)]), (0, [(65, -1)]), (0, [(66, 1)]), (0, [(66, -1)])])], [33])
def lx_wb2_s : List mz_Sp2 := []
def lx_wb2_h : List mz_H := [(0, 0, []), (0, 0, []), (0, 0, []), (0, 0, []), (0, 0, []), (0, 0, []), (0, 0, []), (0, 0, []), (0, 0, []), (0, 0, []), (0, 0, []), (0, 0, []), (0, 0, [])]
set_option maxRecDepth 100000 in
theorem lx_wb2_c : mz_blk mz_GG mq_PP mz_Cs lx_wb2_q 3 1 105 lx_wb2_s [] 15 lx_wb2_h = true := by decide +kernel
theorem lx_wb2 {X : (Nat → mq_C) → Prop} (hX : ∀ M M' : Nat → mq_C, mz_same mz_GG M M' → X M → X M') (hC : ∀ c ∈ mz_Cs, c.2 < 1 → mz_Ct mz_GG mq_PP X c.1 c.2) {d z u : Nat} {M : Nat → mq_C} {Q : (Option Value ⊕ Nat) → mq_S → Prop} {x2 : Int32} (hd : 1 ≤ d) (hz : 272 ≤ z) (hm : mz_sh mz_GG M) (hx : X M)
    (w0 : ∀ (M' : Nat → mq_C), mz_sh mz_GG M' → X M' → mz_fr lx_wb2_q M M' → (∀ a, a < 8 → M' a = M a) → hb_same mz_GG lx_wb2_q M M' → 0 ≤ hv M' 33 3 → 0 ≤ 0 - hv M' 33 3 → 0 ≤ hv M' 33 5 → 0 ≤ 0 - hv M' 33 5 → 0 ≤ hv M' 33 6 → 0 ≤ 0 - hv M' 33 6 → Q (.inl none) (M', z, u)) : mq_R mq_PP d 80 105 [some (.ref 33), some (.ref 69), some (.int x2)] [] (M, z, u) Q := by
  refine hb_blk mz_GG mq_PP X (q := lx_wb2_q) (nl := 3) (M := M) hb_okG hX hC lx_wb2_c hz hd (L := [some (.ref 33), some (.ref 69), some (.int x2)]) (st := []) (show hb_lk mz_GG ([(1, 33), (1, 69), (0, 0)]) _ from ⟨⟨List.mem_singleton.mpr rfl, rfl⟩, ⟨List.mem_singleton.mpr rfl, rfl⟩, trivial, trivial⟩) (show hb_pk mz_GG ([]) _ from trivial) hm hx ?_ ?_ ?_
  · exact hb_nil
  · intro s hs
    cases hs
  · intro r S hpo
    obtain ⟨b1, b2, b3, b4, b5, p, hp, res, hf, hre⟩ := hpo
    rcases List.mem_cons.mp hp with rfl | hp
    · obtain ⟨rfl, hz1, hu1⟩ := mz_re_3 mz_GG hre rfl
      obtain ⟨M', z', u'⟩ := S
      cases hz1
      cases hu1
      have r64 : hb_r1 mz_GG lx_wb2_q (hb_rb mz_GG lx_wb2_q 3 [some (.ref 33), some (.ref 69), some (.int x2)] [] M) M' res 64 = hv M' 33 3 := rfl
      have r65 : hb_r1 mz_GG lx_wb2_q (hb_rb mz_GG lx_wb2_q 3 [some (.ref 33), some (.ref 69), some (.int x2)] [] M) M' res 65 = hv M' 33 5 := rfl
      have r66 : hb_r1 mz_GG lx_wb2_q (hb_rb mz_GG lx_wb2_q 3 [some (.ref 33), some (.ref 69), some (.int x2)] [] M) M' res 66 = hv M' 33 6 := rfl
      obtain ⟨f0, hf⟩ := hb_unc hf
      have f0 : 0 ≤ 0 + (1 * hv M' 33 3 + 0) := f0
      obtain ⟨f1, hf⟩ := hb_unc hf
      have f1 : 0 ≤ 0 + ((-1) * hv M' 33 3 + 0) := f1
      obtain ⟨f2, hf⟩ := hb_unc hf
      have f2 : 0 ≤ 0 + (1 * hv M' 33 5 + 0) := f2
      obtain ⟨f3, hf⟩ := hb_unc hf
      have f3 : 0 ≤ 0 + ((-1) * hv M' 33 5 + 0) := f3
      obtain ⟨f4, hf⟩ := hb_unc hf
      have f4 : 0 ≤ 0 + (1 * hv M' 33 6 + 0) := f4
      obtain ⟨f5, hf⟩ := hb_unc hf
      have f5 : 0 ≤ 0 + ((-1) * hv M' 33 6 + 0) := f5
      exact w0 M' b1 b2 b3 b4 b5 (by have h1 := f0; omega) (by have h1 := f1; omega) (by have h1 := f2; omega) (by have h1 := f3; omega) (by have h1 := f4; omega) (by have h1 := f5; omega)
    cases hp

def lx_wa3_q : mz_Q := (80, [(1, 33), (1, 80), (3, 0)], [(236, [(12, -1), (13, -1)])], [9, 10, 11], [], [81])
def lx_wa3_s : List mz_Sp2 := [(102, [(1, 33), (1, 80), (0, 0)], [(0, 0), (1, 80)], [(0, [(12, -1), (13, -1), (66, 1)]), (0, [(12, 1), (13, 1), (66, -1)]), (-4, [(12, -1), (13, -1), (67, 1)]), (4, [(12, 1), (13, 1), (67, -1)]), (0, [(12, -1), (69, 1)]), (0, [(12, 1), (69, -1)]), (0, [(13, -1), (70, 1)]), (0, [(13, 1), (70, -1)]), (0, [(14, -1), (71, 1)]), (0, [(14, 1), (71, -1)])])]
def lx_wa3_h : List mz_H := [(0, 0, []), (0, 0, [(19, 1), (21, 1)]), (0, 0, [(0, 1)]), (35, 0, []), (81, 0, []), (0, 0, [(19, 1)]), (0, 0, []), (0, 0, []), (0, 0, [(20, 1)]), (0, 0, [(20, 1)]), (36, 0, []), (81, 0, []), (0, 0, [(21, 1)]), (0, 0, [(19, 1)]), (0, 0, []), (0, 0, [(22, 1)]), (0, 0, [(0, 1)]), (81, 0, []), (0, 0, [(19, 1), (21, 1)]), (0, 0, [(0, 1)]), (0, 0, []), (0, 0, []), (81, 0, []), (0, 0, []), (0, 0, [(19, 1), (21, 1)]), (0, 0, [(0, 1)]), (0, 0, [(19, 1), (21, 1)]), (0, 0, [(0, 1)]), (0, 0, [(23, 1)]), (0, 0, [(24, 1)]), (81, 0, []), (0, 0, []), (0, 0, [(19, 1), (21, 1)]), (0, 0, [(0, 1)]), (0, 0, [(21, 1), (23, 1)]), (0, 0, [(2, 1)]), (0, 0, [(0, 1)]), (0, 0, [(1, 1)]), (81, 0, []), (0, 0, []), (0, 0, [(21, 1), (23, 1)]), (0, 0, [(2, 1)]), (1, 0, []), (0, 0, [(21, 1)]), (0, 0, [(25, 1), (27, 1)]), (0, 0, [(6, 1)]), (0, 255, [(0, 1), (25, 1)]), (0, 255, [(1, 1), (6, 1), (27, 1)]), (0, 0, []), (0, 0, [(25, 1), (27, 1)]), (0, 0, [(6, 1)]), (0, 0, []), (0, 0, []), (0, 0, []), (0, 0, []), (0, 0, []), (0, 0, []), (0, 0, []), (0, 0, []), (0, 0, []), (0, 0, []), (0, 0, [])]
set_option maxRecDepth 100000 in
theorem lx_wa3_c : mz_blk mz_GG mq_PP mz_Cs lx_wa3_q 3 1 0 lx_wa3_s [] 68 lx_wa3_h = true := by decide +kernel
theorem lx_wa3 {X : (Nat → mq_C) → Prop} (hX : ∀ M M' : Nat → mq_C, mz_same mz_GG M M' → X M → X M') (hC : ∀ c ∈ mz_Cs, c.2 < 1 → mz_Ct mz_GG mq_PP X c.1 c.2) {d z u : Nat} {M : Nat → mq_C} {Q : (Option Value ⊕ Nat) → mq_S → Prop} {o2 : Option Value} (hd : 1 ≤ d) (hz : 272 ≤ z) (hm : mz_sh mz_GG M) (hx : X M) (h0 : mq_nl o2 = true) (p0 : 0 ≤ 236 - hv M 33 3 - hv M 33 5)
    (k0 : ∀ (M' : Nat → mq_C) (y2 : Int32) (y3 : Int32), mz_sh mz_GG M' → X M' → mz_fr lx_wa3_q M M' → (∀ a, a < 8 → M' a = M a) → hb_same mz_GG lx_wa3_q M M' → y2.toInt = hv M 33 3 + hv M 33 5 → y3.toInt = 4 + hv M 33 3 + hv M 33 5 → hv M' 33 3 = hv M 33 3 → hv M' 33 5 = hv M 33 5 → hv M' 33 6 = hv M 33 6 → mq_R mq_PP d 80 102 [some (.ref 33), some (.ref 80), some (.int y2)] [.int y3, .ref 80] (M', z, u) Q) : mq_R mq_PP d 80 0 [some (.ref 33), some (.ref 80), o2] [] (M, z, u) Q := by
  refine hb_blk mz_GG mq_PP X (q := lx_wa3_q) (nl := 3) (M := M) hb_okG hX hC lx_wa3_c hz hd (L := [some (.ref 33), some (.ref 80), o2]) (st := []) (show hb_lk mz_GG ([(1, 33), (1, 80), (3, 0)]) _ from ⟨⟨List.mem_singleton.mpr rfl, rfl⟩, ⟨List.mem_singleton.mpr rfl, rfl⟩, h0, trivial⟩) (show hb_pk mz_GG ([]) _ from trivial) hm hx ?_ ?_ ?_
  · exact hb_cons (show 0 ≤ mz_ev _ _ from (show 0 ≤ 236 + ((-1) * hv M 33 3 + ((-1) * hv M 33 5 + 0)) by omega)) (hb_nil)
  · intro s hs
    rcases List.mem_cons.mp hs with rfl | hs
    · intro ρ1 L' st' M' g1 g2 gm gr gf gs gx gw g8 ge
      obtain ⟨e0, L1, rfl, n0, gg0⟩ := hb_l1 mz_GG g1
      obtain rfl : e0 = 33 := List.mem_singleton.mp n0
      obtain ⟨e1, L1, rfl, n1, gg1⟩ := hb_l1 mz_GG gg0
      obtain rfl : e1 = 80 := List.mem_singleton.mp n1
      obtain ⟨y2, L1, rfl, qr66, gg2⟩ := hb_l0 mz_GG gg1
      have r66 : ρ1 66 = y2.toInt := qr66
      obtain ⟨y3, s1, rfl, qr67, gg3⟩ := hb_p0 mz_GG g2
      have r67 : ρ1 67 = y3.toInt := qr67
      obtain ⟨e4, s1, rfl, n4, gg4⟩ := hb_p1 mz_GG gg3
      obtain rfl : e4 = 80 := List.mem_singleton.mp n4
      obtain rfl := hb_ln mz_GG gg2
      obtain rfl := hb_pn mz_GG gg4
      have r12 : ρ1 12 = hv M 33 3 := gr 12 (by decide +kernel)
      have r13 : ρ1 13 = hv M 33 5 := gr 13 (by decide +kernel)
      have r14 : ρ1 14 = hv M 33 6 := gr 14 (by decide +kernel)
      have r69 : ρ1 69 = hv M' 33 3 := gm 0 9 (33, 3) rfl rfl
      have r70 : ρ1 70 = hv M' 33 5 := gm 1 10 (33, 5) rfl rfl
      have r71 : ρ1 71 = hv M' 33 6 := gm 2 11 (33, 6) rfl rfl
      obtain ⟨f0, gf⟩ := hb_unc gf
      have f0 : 0 ≤ 0 + ((-1) * ρ1 12 + ((-1) * ρ1 13 + (1 * ρ1 66 + 0))) := f0
      rw [r12, r13, r66] at f0
      obtain ⟨f1, gf⟩ := hb_unc gf
      have f1 : 0 ≤ 0 + (1 * ρ1 12 + (1 * ρ1 13 + ((-1) * ρ1 66 + 0))) := f1
      rw [r12, r13, r66] at f1
      obtain ⟨f2, gf⟩ := hb_unc gf
      have f2 : 0 ≤ -4 + ((-1) * ρ1 12 + ((-1) * ρ1 13 + (1 * ρ1 67 + 0))) := f2
      rw [r12, r13, r67] at f2
      obtain ⟨f3, gf⟩ := hb_unc gf
      have f3 : 0 ≤ 4 + (1 * ρ1 12 + (1 * ρ1 13 + ((-1) * ρ1 67 + 0))) := f3
      rw [r12, r13, r67] at f3
      obtain ⟨f4, gf⟩ := hb_unc gf
      have f4 : 0 ≤ 0 + ((-1) * ρ1 12 + (1 * ρ1 69 + 0)) := f4
      rw [r12, r69] at f4
      obtain ⟨f5, gf⟩ := hb_unc gf
      have f5 : 0 ≤ 0 + (1 * ρ1 12 + ((-1) * ρ1 69 + 0)) := f5
      rw [r12, r69] at f5
      obtain ⟨f6, gf⟩ := hb_unc gf
      have f6 : 0 ≤ 0 + ((-1) * ρ1 13 + (1 * ρ1 70 + 0)) := f6
      rw [r13, r70] at f6
      obtain ⟨f7, gf⟩ := hb_unc gf
      have f7 : 0 ≤ 0 + (1 * ρ1 13 + ((-1) * ρ1 70 + 0)) := f7
      rw [r13, r70] at f7
      obtain ⟨f8, gf⟩ := hb_unc gf
      have f8 : 0 ≤ 0 + ((-1) * ρ1 14 + (1 * ρ1 71 + 0)) := f8
      rw [r14, r71] at f8
      obtain ⟨f9, gf⟩ := hb_unc gf
      have f9 : 0 ≤ 0 + (1 * ρ1 14 + ((-1) * ρ1 71 + 0)) := f9
      rw [r14, r71] at f9
      exact k0 M' y2 y3 gs gx gw g8 ge  (by have h1 := f0; have h2 := f1; omega) (by have h1 := f2; have h2 := f3; omega) (by have h1 := f4; have h2 := f5; omega) (by have h1 := f6; have h2 := f7; omega) (by have h1 := f8; have h2 := f9; omega)
    cases hs
  · intro r S hpo
    obtain ⟨b1, b2, b3, b4, b5, p, hp, res, hf, hre⟩ := hpo
    cases hp

def lx_wb3_q : mz_Q := (80, [(1, 33), (1, 80), (0, 0)], [], [9, 10, 11], [(3, 0, [(0, [(64, 1)]), (0, [(64, -1)]), (0, [(65, 1)]), (0, [(65, -1)]), (0, [(66, 1)]), (0, [(66, -1)])])], [33])
def lx_wb3_s : List mz_Sp2 := []
def lx_wb3_h : List mz_H := [(0, 0, []), (0, 0, []), (0, 0, []), (0, 0, []), (0, 0, []), (0, 0, []), (0, 0, []), (0, 0, []), (0, 0, []), (0, 0, []), (0, 0, []), (0, 0, []), (0, 0, [])]
set_option maxRecDepth 100000 in
theorem lx_wb3_c : mz_blk mz_GG mq_PP mz_Cs lx_wb3_q 3 1 105 lx_wb3_s [] 15 lx_wb3_h = true := by decide +kernel
theorem lx_wb3 {X : (Nat → mq_C) → Prop} (hX : ∀ M M' : Nat → mq_C, mz_same mz_GG M M' → X M → X M') (hC : ∀ c ∈ mz_Cs, c.2 < 1 → mz_Ct mz_GG mq_PP X c.1 c.2) {d z u : Nat} {M : Nat → mq_C} {Q : (Option Value ⊕ Nat) → mq_S → Prop} {x2 : Int32} (hd : 1 ≤ d) (hz : 272 ≤ z) (hm : mz_sh mz_GG M) (hx : X M)
    (w0 : ∀ (M' : Nat → mq_C), mz_sh mz_GG M' → X M' → mz_fr lx_wb3_q M M' → (∀ a, a < 8 → M' a = M a) → hb_same mz_GG lx_wb3_q M M' → 0 ≤ hv M' 33 3 → 0 ≤ 0 - hv M' 33 3 → 0 ≤ hv M' 33 5 → 0 ≤ 0 - hv M' 33 5 → 0 ≤ hv M' 33 6 → 0 ≤ 0 - hv M' 33 6 → Q (.inl none) (M', z, u)) : mq_R mq_PP d 80 105 [some (.ref 33), some (.ref 80), some (.int x2)] [] (M, z, u) Q := by
  refine hb_blk mz_GG mq_PP X (q := lx_wb3_q) (nl := 3) (M := M) hb_okG hX hC lx_wb3_c hz hd (L := [some (.ref 33), some (.ref 80), some (.int x2)]) (st := []) (show hb_lk mz_GG ([(1, 33), (1, 80), (0, 0)]) _ from ⟨⟨List.mem_singleton.mpr rfl, rfl⟩, ⟨List.mem_singleton.mpr rfl, rfl⟩, trivial, trivial⟩) (show hb_pk mz_GG ([]) _ from trivial) hm hx ?_ ?_ ?_
  · exact hb_nil
  · intro s hs
    cases hs
  · intro r S hpo
    obtain ⟨b1, b2, b3, b4, b5, p, hp, res, hf, hre⟩ := hpo
    rcases List.mem_cons.mp hp with rfl | hp
    · obtain ⟨rfl, hz1, hu1⟩ := mz_re_3 mz_GG hre rfl
      obtain ⟨M', z', u'⟩ := S
      cases hz1
      cases hu1
      have r64 : hb_r1 mz_GG lx_wb3_q (hb_rb mz_GG lx_wb3_q 3 [some (.ref 33), some (.ref 80), some (.int x2)] [] M) M' res 64 = hv M' 33 3 := rfl
      have r65 : hb_r1 mz_GG lx_wb3_q (hb_rb mz_GG lx_wb3_q 3 [some (.ref 33), some (.ref 80), some (.int x2)] [] M) M' res 65 = hv M' 33 5 := rfl
      have r66 : hb_r1 mz_GG lx_wb3_q (hb_rb mz_GG lx_wb3_q 3 [some (.ref 33), some (.ref 80), some (.int x2)] [] M) M' res 66 = hv M' 33 6 := rfl
      obtain ⟨f0, hf⟩ := hb_unc hf
      have f0 : 0 ≤ 0 + (1 * hv M' 33 3 + 0) := f0
      obtain ⟨f1, hf⟩ := hb_unc hf
      have f1 : 0 ≤ 0 + ((-1) * hv M' 33 3 + 0) := f1
      obtain ⟨f2, hf⟩ := hb_unc hf
      have f2 : 0 ≤ 0 + (1 * hv M' 33 5 + 0) := f2
      obtain ⟨f3, hf⟩ := hb_unc hf
      have f3 : 0 ≤ 0 + ((-1) * hv M' 33 5 + 0) := f3
      obtain ⟨f4, hf⟩ := hb_unc hf
      have f4 : 0 ≤ 0 + (1 * hv M' 33 6 + 0) := f4
      obtain ⟨f5, hf⟩ := hb_unc hf
      have f5 : 0 ≤ 0 + ((-1) * hv M' 33 6 + 0) := f5
      exact w0 M' b1 b2 b3 b4 b5 (by have h1 := f0; omega) (by have h1 := f1; omega) (by have h1 := f2; omega) (by have h1 := f3; omega) (by have h1 := f4; omega) (by have h1 := f5; omega)
    cases hp

theorem lx_el {l : List Nat} {a : Nat} (h : ¬ a ∈ l) : l.elem a = false := by
  cases h' : l.elem a with
  | false => rfl
  | true => exact absurd (List.elem_iff.mp h') h
theorem lx_wt0 {d z u : Nat} {M : Nat → mq_C} {Q : (Option Value ⊕ Nat) → mq_S → Prop} (hd : 1 ≤ d) (hz : 272 ≤ z) (hm : mz_sh mz_GG M) (hx : HX M) (hp : 0 ≤ 236 - hv M 33 3 - hv M 33 5) (p0 : 0 ≤ hv M 33 3) (p1 : 0 ≤ hv M 33 5)
    (K : ∀ M' : Nat → mq_C, mz_sh mz_GG M' → HX M' → (∀ a, a < 272 → ¬ a = 33 → ¬ a = 47 → ¬ a = 48 → M' a = M a) → hv M' 47 1 = hv M 33 3 + hv M 33 5 + 4 → hv M' 33 3 = 0 → hv M' 33 5 = 0 → hv M' 33 6 = 0 → Q (.inl none) (M', z, u)) : mq_R mq_PP d 80 0 [some (.ref 33), some (.ref 47), none] [] (M, z, u) Q := by
  refine lx_wa0 HX_same (fun c hc _ => ha_all c hc) (by omega) hz hm hx rfl (by omega) ?_
  intro M0 y2 y3 hm0 gx0 gw0 g80 ge0 e2 e3 e4 e5 e6
  refine hb_pfd (n := 105) (ci := 1) (j := 1) (t := 0) (ns := [1219, 49]) hm0 (by decide +kernel) rfl rfl (by decide) (.inl rfl) ?_
  generalize hM1 : hb_set M0 47 1 y3 = M1
  have hm1 : mz_sh mz_GG M1 := by rw [← hM1]; exact hb_set_sh hm0 rfl rfl (by omega) (by omega)
  have eM1 : ∀ b j, b ≠ 47 ∨ j ≠ 1 → hv M1 b j = hv M0 b j := by intro b j h; rw [← hM1]; exact hb_set_n h
  have sM1 : hv M1 47 1 = y3.toInt := by rw [← hM1]; exact hb_set_v hm0 rfl (by decide)
  have wM1 : ∀ b, b ≠ 47 → M1 b = M0 b := by intro b h; rw [← hM1]; exact hb_set_c h
  have hx1 : HX M1 := fun t => by rw [← hM1]; exact hxk_s (lx_sp t 47 (by omega)) (gx0 t)
  refine lx_wb0 HX_same (fun c hc _ => ha_all c hc) (by omega) hz hm1 hx1 ?_
  intro M3 hm3 gx3 gw3 g83 ge3
  intros
  refine K M3 hm3 gx3 (fun a ha n1 n2 n3 => ?_) ?_ (by omega) (by omega) (by omega)
  · exact (gw3 a ha (lx_el (by show ¬ a ∈ [33]; rw [List.mem_singleton]; exact n1))).trans ((wM1 a n2).trans (gw0 a ha (lx_el (by show ¬ a ∈ [48]; rw [List.mem_singleton]; exact n3))))
  · rw [hb_vc (gw3 47 (by decide) (by decide)), sM1]
    omega
theorem lx_wt1 {d z u : Nat} {M : Nat → mq_C} {Q : (Option Value ⊕ Nat) → mq_S → Prop} (hd : 1 ≤ d) (hz : 272 ≤ z) (hm : mz_sh mz_GG M) (hx : HX M) (hp : 0 ≤ 236 - hv M 33 3 - hv M 33 5) (p0 : 0 ≤ hv M 33 3) (p1 : 0 ≤ hv M 33 5)
    (K : ∀ M' : Nat → mq_C, mz_sh mz_GG M' → HX M' → (∀ a, a < 272 → ¬ a = 33 → ¬ a = 58 → ¬ a = 59 → M' a = M a) → hv M' 58 1 = hv M 33 3 + hv M 33 5 + 4 → hv M' 33 3 = 0 → hv M' 33 5 = 0 → hv M' 33 6 = 0 → Q (.inl none) (M', z, u)) : mq_R mq_PP d 80 0 [some (.ref 33), some (.ref 58), none] [] (M, z, u) Q := by
  refine lx_wa1 HX_same (fun c hc _ => ha_all c hc) (by omega) hz hm hx rfl (by omega) ?_
  intro M0 y2 y3 hm0 gx0 gw0 g80 ge0 e2 e3 e4 e5 e6
  refine hb_pfd (n := 105) (ci := 1) (j := 1) (t := 0) (ns := [1219, 49]) hm0 (by decide +kernel) rfl rfl (by decide) (.inl rfl) ?_
  generalize hM1 : hb_set M0 58 1 y3 = M1
  have hm1 : mz_sh mz_GG M1 := by rw [← hM1]; exact hb_set_sh hm0 rfl rfl (by omega) (by omega)
  have eM1 : ∀ b j, b ≠ 58 ∨ j ≠ 1 → hv M1 b j = hv M0 b j := by intro b j h; rw [← hM1]; exact hb_set_n h
  have sM1 : hv M1 58 1 = y3.toInt := by rw [← hM1]; exact hb_set_v hm0 rfl (by decide)
  have wM1 : ∀ b, b ≠ 58 → M1 b = M0 b := by intro b h; rw [← hM1]; exact hb_set_c h
  have hx1 : HX M1 := fun t => by rw [← hM1]; exact hxk_s (lx_sp t 58 (by omega)) (gx0 t)
  refine lx_wb1 HX_same (fun c hc _ => ha_all c hc) (by omega) hz hm1 hx1 ?_
  intro M3 hm3 gx3 gw3 g83 ge3
  intros
  refine K M3 hm3 gx3 (fun a ha n1 n2 n3 => ?_) ?_ (by omega) (by omega) (by omega)
  · exact (gw3 a ha (lx_el (by show ¬ a ∈ [33]; rw [List.mem_singleton]; exact n1))).trans ((wM1 a n2).trans (gw0 a ha (lx_el (by show ¬ a ∈ [59]; rw [List.mem_singleton]; exact n3))))
  · rw [hb_vc (gw3 58 (by decide) (by decide)), sM1]
    omega
theorem lx_wt2 {d z u : Nat} {M : Nat → mq_C} {Q : (Option Value ⊕ Nat) → mq_S → Prop} (hd : 1 ≤ d) (hz : 272 ≤ z) (hm : mz_sh mz_GG M) (hx : HX M) (hp : 0 ≤ 236 - hv M 33 3 - hv M 33 5) (p0 : 0 ≤ hv M 33 3) (p1 : 0 ≤ hv M 33 5)
    (K : ∀ M' : Nat → mq_C, mz_sh mz_GG M' → HX M' → (∀ a, a < 272 → ¬ a = 33 → ¬ a = 69 → ¬ a = 70 → M' a = M a) → hv M' 69 1 = hv M 33 3 + hv M 33 5 + 4 → hv M' 33 3 = 0 → hv M' 33 5 = 0 → hv M' 33 6 = 0 → Q (.inl none) (M', z, u)) : mq_R mq_PP d 80 0 [some (.ref 33), some (.ref 69), none] [] (M, z, u) Q := by
  refine lx_wa2 HX_same (fun c hc _ => ha_all c hc) (by omega) hz hm hx rfl (by omega) ?_
  intro M0 y2 y3 hm0 gx0 gw0 g80 ge0 e2 e3 e4 e5 e6
  refine hb_pfd (n := 105) (ci := 1) (j := 1) (t := 0) (ns := [1219, 49]) hm0 (by decide +kernel) rfl rfl (by decide) (.inl rfl) ?_
  generalize hM1 : hb_set M0 69 1 y3 = M1
  have hm1 : mz_sh mz_GG M1 := by rw [← hM1]; exact hb_set_sh hm0 rfl rfl (by omega) (by omega)
  have eM1 : ∀ b j, b ≠ 69 ∨ j ≠ 1 → hv M1 b j = hv M0 b j := by intro b j h; rw [← hM1]; exact hb_set_n h
  have sM1 : hv M1 69 1 = y3.toInt := by rw [← hM1]; exact hb_set_v hm0 rfl (by decide)
  have wM1 : ∀ b, b ≠ 69 → M1 b = M0 b := by intro b h; rw [← hM1]; exact hb_set_c h
  have hx1 : HX M1 := fun t => by rw [← hM1]; exact hxk_s (lx_sp t 69 (by omega)) (gx0 t)
  refine lx_wb2 HX_same (fun c hc _ => ha_all c hc) (by omega) hz hm1 hx1 ?_
  intro M3 hm3 gx3 gw3 g83 ge3
  intros
  refine K M3 hm3 gx3 (fun a ha n1 n2 n3 => ?_) ?_ (by omega) (by omega) (by omega)
  · exact (gw3 a ha (lx_el (by show ¬ a ∈ [33]; rw [List.mem_singleton]; exact n1))).trans ((wM1 a n2).trans (gw0 a ha (lx_el (by show ¬ a ∈ [70]; rw [List.mem_singleton]; exact n3))))
  · rw [hb_vc (gw3 69 (by decide) (by decide)), sM1]
    omega
theorem lx_wt3 {d z u : Nat} {M : Nat → mq_C} {Q : (Option Value ⊕ Nat) → mq_S → Prop} (hd : 1 ≤ d) (hz : 272 ≤ z) (hm : mz_sh mz_GG M) (hx : HX M) (hp : 0 ≤ 236 - hv M 33 3 - hv M 33 5) (p0 : 0 ≤ hv M 33 3) (p1 : 0 ≤ hv M 33 5)
    (K : ∀ M' : Nat → mq_C, mz_sh mz_GG M' → HX M' → (∀ a, a < 272 → ¬ a = 33 → ¬ a = 80 → ¬ a = 81 → M' a = M a) → hv M' 80 1 = hv M 33 3 + hv M 33 5 + 4 → hv M' 33 3 = 0 → hv M' 33 5 = 0 → hv M' 33 6 = 0 → Q (.inl none) (M', z, u)) : mq_R mq_PP d 80 0 [some (.ref 33), some (.ref 80), none] [] (M, z, u) Q := by
  refine lx_wa3 HX_same (fun c hc _ => ha_all c hc) (by omega) hz hm hx rfl (by omega) ?_
  intro M0 y2 y3 hm0 gx0 gw0 g80 ge0 e2 e3 e4 e5 e6
  refine hb_pfd (n := 105) (ci := 1) (j := 1) (t := 0) (ns := [1219, 49]) hm0 (by decide +kernel) rfl rfl (by decide) (.inl rfl) ?_
  generalize hM1 : hb_set M0 80 1 y3 = M1
  have hm1 : mz_sh mz_GG M1 := by rw [← hM1]; exact hb_set_sh hm0 rfl rfl (by omega) (by omega)
  have eM1 : ∀ b j, b ≠ 80 ∨ j ≠ 1 → hv M1 b j = hv M0 b j := by intro b j h; rw [← hM1]; exact hb_set_n h
  have sM1 : hv M1 80 1 = y3.toInt := by rw [← hM1]; exact hb_set_v hm0 rfl (by decide)
  have wM1 : ∀ b, b ≠ 80 → M1 b = M0 b := by intro b h; rw [← hM1]; exact hb_set_c h
  have hx1 : HX M1 := fun t => by rw [← hM1]; exact hxk_s (lx_sp t 80 (by omega)) (gx0 t)
  refine lx_wb3 HX_same (fun c hc _ => ha_all c hc) (by omega) hz hm1 hx1 ?_
  intro M3 hm3 gx3 gw3 g83 ge3
  intros
  refine K M3 hm3 gx3 (fun a ha n1 n2 n3 => ?_) ?_ (by omega) (by omega) (by omega)
  · exact (gw3 a ha (lx_el (by show ¬ a ∈ [33]; rw [List.mem_singleton]; exact n1))).trans ((wM1 a n2).trans (gw0 a ha (lx_el (by show ¬ a ∈ [81]; rw [List.mem_singleton]; exact n3))))
  · rw [hb_vc (gw3 80 (by decide) (by decide)), sM1]
    omega
theorem lx_isSlot {X : (Nat → mq_C) → Prop} (hq : mz_Ct mz_GG mq_PP X mz_q0 1) {d z u : Nat} {M : Nat → mq_C} {Q : (Option Value ⊕ Nat) → mq_S → Prop} {x0 : Int32} (hd : 1 ≤ d) (hz : 272 ≤ z) (hm : mz_sh mz_GG M) (hx : X M)
    (w0 : ∀ (M' : Nat → mq_C) (r : Int32), mz_sh mz_GG M' → X M' → mz_fr mz_q0 M M' → (∀ a, a < 8 → M' a = M a) → hb_same mz_GG mz_q0 M M' → r.toInt = 1 → 0 ≤ x0.toInt → 0 ≤ 3 - x0.toInt → Q (.inl (some (.int r))) (M', z, u))
    (w1 : ∀ (M' : Nat → mq_C) (r : Int32), mz_sh mz_GG M' → X M' → mz_fr mz_q0 M M' → (∀ a, a < 8 → M' a = M a) → hb_same mz_GG mz_q0 M M' → r.toInt = 0 → 0 ≤ (-1) - x0.toInt → Q (.inl (some (.int r))) (M', z, u))
    (w2 : ∀ (M' : Nat → mq_C) (r : Int32), mz_sh mz_GG M' → X M' → mz_fr mz_q0 M M' → (∀ a, a < 8 → M' a = M a) → hb_same mz_GG mz_q0 M M' → r.toInt = 0 → 0 ≤ (-4) + x0.toInt → Q (.inl (some (.int r))) (M', z, u)) : mq_R mq_PP d 17 0 [some (.int x0)] [] (M, z, u) Q := by
  refine hb_use mz_GG mq_PP X (q := mz_q0) (vs := [.int x0]) hq (by decide +kernel) hd (show hb_pk mz_GG [(0, 0)] _ from ⟨trivial, trivial⟩) hm hx hz ?_ ?_
  · exact hb_nil
  · intro r S hpo
    obtain ⟨b1, b2, b3, b4, b5, p, hp, res, hf, hre⟩ := hpo
    rcases List.mem_cons.mp hp with rfl | hp
    · obtain ⟨x, rfl, hr, hz1, hu1⟩ := mz_re_0 mz_GG hre rfl
      obtain ⟨M', z', u'⟩ := S
      cases hz1
      cases hu1
      obtain ⟨f0, hf⟩ := hb_unc hf
      have f0 : 0 ≤ -1 + (1 * res + 0) := f0
      rw [← hr] at f0
      obtain ⟨f1, hf⟩ := hb_unc hf
      have f1 : 0 ≤ 1 + ((-1) * res + 0) := f1
      rw [← hr] at f1
      obtain ⟨f2, hf⟩ := hb_unc hf
      have f2 : 0 ≤ 0 + (1 * x0.toInt + 0) := f2
      obtain ⟨f3, hf⟩ := hb_unc hf
      have f3 : 0 ≤ 3 + ((-1) * x0.toInt + 0) := f3
      exact w0 M' x b1 b2 b3 b4 b5 (by have h1 := f0; have h2 := f1; omega) (by have h1 := f2; omega) (by have h1 := f3; omega)
    rcases List.mem_cons.mp hp with rfl | hp
    · obtain ⟨x, rfl, hr, hz1, hu1⟩ := mz_re_0 mz_GG hre rfl
      obtain ⟨M', z', u'⟩ := S
      cases hz1
      cases hu1
      obtain ⟨f0, hf⟩ := hb_unc hf
      have f0 : 0 ≤ 0 + (1 * res + 0) := f0
      rw [← hr] at f0
      obtain ⟨f1, hf⟩ := hb_unc hf
      have f1 : 0 ≤ 0 + ((-1) * res + 0) := f1
      rw [← hr] at f1
      obtain ⟨f2, hf⟩ := hb_unc hf
      have f2 : 0 ≤ -1 + ((-1) * x0.toInt + 0) := f2
      exact w1 M' x b1 b2 b3 b4 b5 (by have h1 := f0; have h2 := f1; omega) (by have h1 := f2; omega)
    rcases List.mem_cons.mp hp with rfl | hp
    · obtain ⟨x, rfl, hr, hz1, hu1⟩ := mz_re_0 mz_GG hre rfl
      obtain ⟨M', z', u'⟩ := S
      cases hz1
      cases hu1
      obtain ⟨f0, hf⟩ := hb_unc hf
      have f0 : 0 ≤ 0 + (1 * res + 0) := f0
      rw [← hr] at f0
      obtain ⟨f1, hf⟩ := hb_unc hf
      have f1 : 0 ≤ 0 + ((-1) * res + 0) := f1
      rw [← hr] at f1
      obtain ⟨f2, hf⟩ := hb_unc hf
      have f2 : 0 ≤ -4 + (1 * x0.toInt + 0) := f2
      exact w2 M' x b1 b2 b3 b4 b5 (by have h1 := f0; have h2 := f1; omega) (by have h1 := f2; omega)
    cases hp
theorem lx_examine {X : (Nat → mq_C) → Prop} (hq : mz_Ct mz_GG mq_PP X mz_q95 7) {d z u : Nat} {M : Nat → mq_C} {Q : (Option Value ⊕ Nat) → mq_S → Prop} {b0 : Nat} (hd : 7 ≤ d) (hz : 272 ≤ z) (hm : mz_sh mz_GG M) (hx : X M) (hb0 : b0 ∈ [47, 58, 69, 80])
    (w0 : ∀ (M' : Nat → mq_C), mz_sh mz_GG M' → X M' → mz_fr mz_q95 M M' → (∀ a, a < 8 → M' a = M a) → hb_same mz_GG mz_q95 M M' → Q (.inl none) (M', z, u)) : mq_R mq_PP d 48 0 [some (.ref b0), some (.ref 9), none] [] (M, z, u) Q := by
  refine hb_use mz_GG mq_PP X (q := mz_q95) (vs := [.ref b0, .ref 9]) hq (by decide +kernel) hd (show hb_pk mz_GG [(1, 1000), (1, 9)] _ from ⟨⟨hb0, hb_is1000 hb0⟩, ⟨List.mem_singleton.mpr rfl, rfl⟩, trivial⟩) hm hx hz ?_ ?_
  · exact hb_nil
  · intro r S hpo
    obtain ⟨b1, b2, b3, b4, b5, p, hp, res, hf, hre⟩ := hpo
    rcases List.mem_cons.mp hp with rfl | hp
    · obtain ⟨rfl, hz1, hu1⟩ := mz_re_3 mz_GG hre rfl
      obtain ⟨M', z', u'⟩ := S
      cases hz1
      cases hu1
      exact w0 M' b1 b2 b3 b4 b5 
    cases hp
theorem lx_fin0 {d z u : Nat} {M N : Nat → mq_C} {Q : (Option Value ⊕ Nat) → mq_S → Prop} {x1 : Int32} (hd : 8 ≤ d + 1) (hz : 272 ≤ z) (hm : mz_sh mz_GG N) (hx : HX N) (hN : ∀ a, a < 272 → N a = M a) (hp : 0 ≤ 236 - hv M 33 3 - hv M 33 5) (p0 : 0 ≤ hv M 33 3) (p1 : 0 ≤ hv M 33 5) (hs : x1.toInt = 0)
    (K : ∀ (M' : Nat → mq_C) (r : Int32), lr_fin x1.toInt (hv M 33 3) (hv M 33 5) (hv M 33 6) (hv M 47 1) (hv M 58 1) (hv M 69 1) (hv M 80 1) (hv M' 33 3) (hv M' 33 5) (hv M' 33 6) (hv M' 47 1) (hv M' 58 1) (hv M' 69 1) (hv M' 80 1) r.toInt → Q (.inl (some (.int r))) (M', z, u)) : mq_R mq_PP (d + 1) 3 7 [some (.ref 8), some (.int x1)] [] (N, z, u) Q := by
  have n33_3 := hb_vc (hN 33 (by decide)) 3
  have n33_5 := hb_vc (hN 33 (by decide)) 5
  have n33_6 := hb_vc (hN 33 (by decide)) 6
  have n47_1 := hb_vc (hN 47 (by decide)) 1
  have n58_1 := hb_vc (hN 58 (by decide)) 1
  have n69_1 := hb_vc (hN 69 (by decide)) 1
  have n80_1 := hb_vc (hN 80 (by decide)) 1
  refine he_aload (n := 8) (i := 0) (by decide +kernel) rfl ?_
  refine he_getr (n := 11) (ci := 0) (j := 2) (ns := [2079, 25]) (b := 37) hm (by decide +kernel) rfl rfl (by decide +kernel) ?_
  refine he_iload (n := 12) (i := 1) (by decide +kernel) rfl ?_
  refine he_aald (n := 13) (kind := 71) (b := 47) hm (by decide +kernel) rfl rfl (by decide) (by omega) (by rw [show x1.toInt.toNat = 0 by omega]; decide +kernel) ?_
  refine hb_gfd (n := 16) (ci := 1) (j := 1) (ns := [1218, 124]) hm (by decide +kernel) rfl rfl (by decide) rfl ?_
  intro v13 hv13 lv13 uv13
  by_cases h16 : v13.toInt ≤ 0
  · skip
    refine he_ifle_t (n := 19) (t := 21) (by decide +kernel) (by omega) ?_
    refine he_aload (n := 22) (i := 0) (by decide +kernel) rfl ?_
    refine he_getr (n := 25) (ci := 0) (j := 1) (ns := [2078, 19]) (b := 33) hm (by decide +kernel) rfl rfl (by decide +kernel) ?_
    refine he_aload (n := 26) (i := 0) (by decide +kernel) rfl ?_
    refine he_getr (n := 29) (ci := 0) (j := 2) (ns := [2079, 25]) (b := 37) hm (by decide +kernel) rfl rfl (by decide +kernel) ?_
    refine he_iload (n := 30) (i := 1) (by decide +kernel) rfl ?_
    refine he_aald (n := 31) (kind := 71) (b := 47) hm (by decide +kernel) rfl rfl (by decide) (by omega) (by rw [show x1.toInt.toNat = 0 by omega]; decide +kernel) ?_
    refine he_v1 (n := 34) (j := 80) (ci := 6) (mx := 3) (ns := [2237, 2238, 2239, 125]) (by decide +kernel) ((hb_kd (a := 33) hm rfl).trans rfl) (by decide) (by show 2 ≤ 3; omega) ?_
    rw [mq_e80]
    refine lx_wt0 (by omega) hz hm hx (by omega) (by omega) (by omega) ?_
    intro M3 hm3 hx3 hw3 l3 b3 r3 e3
    show mq_R mq_PP (d + 1) 3 34 _ [] (M3, z, u) Q
    refine he_aload (n := 35) (i := 0) (by decide +kernel) rfl ?_
    refine he_getr (n := 38) (ci := 0) (j := 2) (ns := [2079, 25]) (b := 37) hm3 (by decide +kernel) rfl rfl (by decide +kernel) ?_
    refine he_iload (n := 39) (i := 1) (by decide +kernel) rfl ?_
    refine he_aald (n := 40) (kind := 71) (b := 47) hm3 (by decide +kernel) rfl rfl (by decide) (by omega) (by rw [show x1.toInt.toNat = 0 by omega]; decide +kernel) ?_
    refine he_aload (n := 41) (i := 0) (by decide +kernel) rfl ?_
    refine he_getr (n := 44) (ci := 0) (j := 0) (ns := [2077, 12]) (b := 9) hm3 (by decide +kernel) rfl rfl (by decide +kernel) ?_
    refine he_v1 (n := 47) (j := 48) (ci := 1) (mx := 3) (ns := [3001, 3002, 3003, 129]) (by decide +kernel) ((hb_kd (a := 47) hm3 rfl).trans rfl) (by decide) (by show 2 ≤ 3; omega) ?_
    rw [mq_e48]
    refine lx_len (by decide) hm3 ?_
    refine lx_examine (ha_all (mz_q95, 7) (List.mem_of_getElem? (show mz_Cs[95]? = _ from rfl))) (by omega) hz hm3 hx3 (by decide) ?_
    intro M4 hm4 hx4 gw4 g84 ge4 hls
    show mq_R mq_PP (d + 1) 3 47 _ [] (M4, z, u) Q
    refine he_iconst (n := 48) (c := 1) (by decide +kernel) (by decide) ?_
    intro c47 hc47
    refine he_retz (by decide +kernel) (by omega) ?_
    refine K M4 _ ?_
    obtain ⟨l47, l58, l69, l80⟩ : lx_ls M3 M4 := hls
    have e33 : M4 33 = M3 33 := gw4 33 (by decide) (by decide +kernel)
    have q3 := hb_vc e33 3
    have q5 := hb_vc e33 5
    have q6 := hb_vc e33 6
    have o58 := hb_vc (hw3 58 (by decide) (by decide) (by decide) (by decide)) 1
    have o69 := hb_vc (hw3 69 (by decide) (by decide) (by decide) (by decide)) 1
    have o80 := hb_vc (hw3 80 (by decide) (by decide) (by decide) (by decide)) 1
    exact (show lr_fin _ _ _ _ _ _ _ _ _ _ _ _ _ _ _ _ from (.inr (.inl ⟨by omega, by omega, by omega, by omega, by omega, by omega, by omega, by omega, by omega, by omega⟩)))
  · skip
    refine he_ifle_f (n := 19) (t := 21) (by decide +kernel) (by omega) ?_
    refine he_iconst (n := 20) (c := 0) (by decide +kernel) (by decide) ?_
    intro c19 hc19
    refine he_retz (by decide +kernel) (by omega) ?_
    exact K N _ (show lr_fin _ _ _ _ _ _ _ _ _ _ _ _ _ _ _ _ from .inl ⟨by omega, (.inr (.inr (.inl ⟨by omega, by omega⟩))), by omega, by omega, by omega, by omega, by omega, by omega, by omega⟩)
theorem lx_fin1 {d z u : Nat} {M N : Nat → mq_C} {Q : (Option Value ⊕ Nat) → mq_S → Prop} {x1 : Int32} (hd : 8 ≤ d + 1) (hz : 272 ≤ z) (hm : mz_sh mz_GG N) (hx : HX N) (hN : ∀ a, a < 272 → N a = M a) (hp : 0 ≤ 236 - hv M 33 3 - hv M 33 5) (p0 : 0 ≤ hv M 33 3) (p1 : 0 ≤ hv M 33 5) (hs : x1.toInt = 1)
    (K : ∀ (M' : Nat → mq_C) (r : Int32), lr_fin x1.toInt (hv M 33 3) (hv M 33 5) (hv M 33 6) (hv M 47 1) (hv M 58 1) (hv M 69 1) (hv M 80 1) (hv M' 33 3) (hv M' 33 5) (hv M' 33 6) (hv M' 47 1) (hv M' 58 1) (hv M' 69 1) (hv M' 80 1) r.toInt → Q (.inl (some (.int r))) (M', z, u)) : mq_R mq_PP (d + 1) 3 7 [some (.ref 8), some (.int x1)] [] (N, z, u) Q := by
  have n33_3 := hb_vc (hN 33 (by decide)) 3
  have n33_5 := hb_vc (hN 33 (by decide)) 5
  have n33_6 := hb_vc (hN 33 (by decide)) 6
  have n47_1 := hb_vc (hN 47 (by decide)) 1
  have n58_1 := hb_vc (hN 58 (by decide)) 1
  have n69_1 := hb_vc (hN 69 (by decide)) 1
  have n80_1 := hb_vc (hN 80 (by decide)) 1
  refine he_aload (n := 8) (i := 0) (by decide +kernel) rfl ?_
  refine he_getr (n := 11) (ci := 0) (j := 2) (ns := [2079, 25]) (b := 37) hm (by decide +kernel) rfl rfl (by decide +kernel) ?_
  refine he_iload (n := 12) (i := 1) (by decide +kernel) rfl ?_
  refine he_aald (n := 13) (kind := 71) (b := 58) hm (by decide +kernel) rfl rfl (by decide) (by omega) (by rw [show x1.toInt.toNat = 1 by omega]; decide +kernel) ?_
  refine hb_gfd (n := 16) (ci := 1) (j := 1) (ns := [1218, 124]) hm (by decide +kernel) rfl rfl (by decide) rfl ?_
  intro v13 hv13 lv13 uv13
  by_cases h16 : v13.toInt ≤ 0
  · skip
    refine he_ifle_t (n := 19) (t := 21) (by decide +kernel) (by omega) ?_
    refine he_aload (n := 22) (i := 0) (by decide +kernel) rfl ?_
    refine he_getr (n := 25) (ci := 0) (j := 1) (ns := [2078, 19]) (b := 33) hm (by decide +kernel) rfl rfl (by decide +kernel) ?_
    refine he_aload (n := 26) (i := 0) (by decide +kernel) rfl ?_
    refine he_getr (n := 29) (ci := 0) (j := 2) (ns := [2079, 25]) (b := 37) hm (by decide +kernel) rfl rfl (by decide +kernel) ?_
    refine he_iload (n := 30) (i := 1) (by decide +kernel) rfl ?_
    refine he_aald (n := 31) (kind := 71) (b := 58) hm (by decide +kernel) rfl rfl (by decide) (by omega) (by rw [show x1.toInt.toNat = 1 by omega]; decide +kernel) ?_
    refine he_v1 (n := 34) (j := 80) (ci := 6) (mx := 3) (ns := [2237, 2238, 2239, 125]) (by decide +kernel) ((hb_kd (a := 33) hm rfl).trans rfl) (by decide) (by show 2 ≤ 3; omega) ?_
    rw [mq_e80]
    refine lx_wt1 (by omega) hz hm hx (by omega) (by omega) (by omega) ?_
    intro M3 hm3 hx3 hw3 l3 b3 r3 e3
    show mq_R mq_PP (d + 1) 3 34 _ [] (M3, z, u) Q
    refine he_aload (n := 35) (i := 0) (by decide +kernel) rfl ?_
    refine he_getr (n := 38) (ci := 0) (j := 2) (ns := [2079, 25]) (b := 37) hm3 (by decide +kernel) rfl rfl (by decide +kernel) ?_
    refine he_iload (n := 39) (i := 1) (by decide +kernel) rfl ?_
    refine he_aald (n := 40) (kind := 71) (b := 58) hm3 (by decide +kernel) rfl rfl (by decide) (by omega) (by rw [show x1.toInt.toNat = 1 by omega]; decide +kernel) ?_
    refine he_aload (n := 41) (i := 0) (by decide +kernel) rfl ?_
    refine he_getr (n := 44) (ci := 0) (j := 0) (ns := [2077, 12]) (b := 9) hm3 (by decide +kernel) rfl rfl (by decide +kernel) ?_
    refine he_v1 (n := 47) (j := 48) (ci := 1) (mx := 3) (ns := [3001, 3002, 3003, 129]) (by decide +kernel) ((hb_kd (a := 58) hm3 rfl).trans rfl) (by decide) (by show 2 ≤ 3; omega) ?_
    rw [mq_e48]
    refine lx_len (by decide) hm3 ?_
    refine lx_examine (ha_all (mz_q95, 7) (List.mem_of_getElem? (show mz_Cs[95]? = _ from rfl))) (by omega) hz hm3 hx3 (by decide) ?_
    intro M4 hm4 hx4 gw4 g84 ge4 hls
    show mq_R mq_PP (d + 1) 3 47 _ [] (M4, z, u) Q
    refine he_iconst (n := 48) (c := 1) (by decide +kernel) (by decide) ?_
    intro c47 hc47
    refine he_retz (by decide +kernel) (by omega) ?_
    refine K M4 _ ?_
    obtain ⟨l47, l58, l69, l80⟩ : lx_ls M3 M4 := hls
    have e33 : M4 33 = M3 33 := gw4 33 (by decide) (by decide +kernel)
    have q3 := hb_vc e33 3
    have q5 := hb_vc e33 5
    have q6 := hb_vc e33 6
    have o47 := hb_vc (hw3 47 (by decide) (by decide) (by decide) (by decide)) 1
    have o69 := hb_vc (hw3 69 (by decide) (by decide) (by decide) (by decide)) 1
    have o80 := hb_vc (hw3 80 (by decide) (by decide) (by decide) (by decide)) 1
    exact (show lr_fin _ _ _ _ _ _ _ _ _ _ _ _ _ _ _ _ from (.inr (.inr (.inl ⟨by omega, by omega, by omega, by omega, by omega, by omega, by omega, by omega, by omega, by omega⟩))))
  · skip
    refine he_ifle_f (n := 19) (t := 21) (by decide +kernel) (by omega) ?_
    refine he_iconst (n := 20) (c := 0) (by decide +kernel) (by decide) ?_
    intro c19 hc19
    refine he_retz (by decide +kernel) (by omega) ?_
    exact K N _ (show lr_fin _ _ _ _ _ _ _ _ _ _ _ _ _ _ _ _ from .inl ⟨by omega, (.inr (.inr (.inr (.inl ⟨by omega, by omega⟩)))), by omega, by omega, by omega, by omega, by omega, by omega, by omega⟩)
theorem lx_fin2 {d z u : Nat} {M N : Nat → mq_C} {Q : (Option Value ⊕ Nat) → mq_S → Prop} {x1 : Int32} (hd : 8 ≤ d + 1) (hz : 272 ≤ z) (hm : mz_sh mz_GG N) (hx : HX N) (hN : ∀ a, a < 272 → N a = M a) (hp : 0 ≤ 236 - hv M 33 3 - hv M 33 5) (p0 : 0 ≤ hv M 33 3) (p1 : 0 ≤ hv M 33 5) (hs : x1.toInt = 2)
    (K : ∀ (M' : Nat → mq_C) (r : Int32), lr_fin x1.toInt (hv M 33 3) (hv M 33 5) (hv M 33 6) (hv M 47 1) (hv M 58 1) (hv M 69 1) (hv M 80 1) (hv M' 33 3) (hv M' 33 5) (hv M' 33 6) (hv M' 47 1) (hv M' 58 1) (hv M' 69 1) (hv M' 80 1) r.toInt → Q (.inl (some (.int r))) (M', z, u)) : mq_R mq_PP (d + 1) 3 7 [some (.ref 8), some (.int x1)] [] (N, z, u) Q := by
  have n33_3 := hb_vc (hN 33 (by decide)) 3
  have n33_5 := hb_vc (hN 33 (by decide)) 5
  have n33_6 := hb_vc (hN 33 (by decide)) 6
  have n47_1 := hb_vc (hN 47 (by decide)) 1
  have n58_1 := hb_vc (hN 58 (by decide)) 1
  have n69_1 := hb_vc (hN 69 (by decide)) 1
  have n80_1 := hb_vc (hN 80 (by decide)) 1
  refine he_aload (n := 8) (i := 0) (by decide +kernel) rfl ?_
  refine he_getr (n := 11) (ci := 0) (j := 2) (ns := [2079, 25]) (b := 37) hm (by decide +kernel) rfl rfl (by decide +kernel) ?_
  refine he_iload (n := 12) (i := 1) (by decide +kernel) rfl ?_
  refine he_aald (n := 13) (kind := 71) (b := 69) hm (by decide +kernel) rfl rfl (by decide) (by omega) (by rw [show x1.toInt.toNat = 2 by omega]; decide +kernel) ?_
  refine hb_gfd (n := 16) (ci := 1) (j := 1) (ns := [1218, 124]) hm (by decide +kernel) rfl rfl (by decide) rfl ?_
  intro v13 hv13 lv13 uv13
  by_cases h16 : v13.toInt ≤ 0
  · skip
    refine he_ifle_t (n := 19) (t := 21) (by decide +kernel) (by omega) ?_
    refine he_aload (n := 22) (i := 0) (by decide +kernel) rfl ?_
    refine he_getr (n := 25) (ci := 0) (j := 1) (ns := [2078, 19]) (b := 33) hm (by decide +kernel) rfl rfl (by decide +kernel) ?_
    refine he_aload (n := 26) (i := 0) (by decide +kernel) rfl ?_
    refine he_getr (n := 29) (ci := 0) (j := 2) (ns := [2079, 25]) (b := 37) hm (by decide +kernel) rfl rfl (by decide +kernel) ?_
    refine he_iload (n := 30) (i := 1) (by decide +kernel) rfl ?_
    refine he_aald (n := 31) (kind := 71) (b := 69) hm (by decide +kernel) rfl rfl (by decide) (by omega) (by rw [show x1.toInt.toNat = 2 by omega]; decide +kernel) ?_
    refine he_v1 (n := 34) (j := 80) (ci := 6) (mx := 3) (ns := [2237, 2238, 2239, 125]) (by decide +kernel) ((hb_kd (a := 33) hm rfl).trans rfl) (by decide) (by show 2 ≤ 3; omega) ?_
    rw [mq_e80]
    refine lx_wt2 (by omega) hz hm hx (by omega) (by omega) (by omega) ?_
    intro M3 hm3 hx3 hw3 l3 b3 r3 e3
    show mq_R mq_PP (d + 1) 3 34 _ [] (M3, z, u) Q
    refine he_aload (n := 35) (i := 0) (by decide +kernel) rfl ?_
    refine he_getr (n := 38) (ci := 0) (j := 2) (ns := [2079, 25]) (b := 37) hm3 (by decide +kernel) rfl rfl (by decide +kernel) ?_
    refine he_iload (n := 39) (i := 1) (by decide +kernel) rfl ?_
    refine he_aald (n := 40) (kind := 71) (b := 69) hm3 (by decide +kernel) rfl rfl (by decide) (by omega) (by rw [show x1.toInt.toNat = 2 by omega]; decide +kernel) ?_
    refine he_aload (n := 41) (i := 0) (by decide +kernel) rfl ?_
    refine he_getr (n := 44) (ci := 0) (j := 0) (ns := [2077, 12]) (b := 9) hm3 (by decide +kernel) rfl rfl (by decide +kernel) ?_
    refine he_v1 (n := 47) (j := 48) (ci := 1) (mx := 3) (ns := [3001, 3002, 3003, 129]) (by decide +kernel) ((hb_kd (a := 69) hm3 rfl).trans rfl) (by decide) (by show 2 ≤ 3; omega) ?_
    rw [mq_e48]
    refine lx_len (by decide) hm3 ?_
    refine lx_examine (ha_all (mz_q95, 7) (List.mem_of_getElem? (show mz_Cs[95]? = _ from rfl))) (by omega) hz hm3 hx3 (by decide) ?_
    intro M4 hm4 hx4 gw4 g84 ge4 hls
    show mq_R mq_PP (d + 1) 3 47 _ [] (M4, z, u) Q
    refine he_iconst (n := 48) (c := 1) (by decide +kernel) (by decide) ?_
    intro c47 hc47
    refine he_retz (by decide +kernel) (by omega) ?_
    refine K M4 _ ?_
    obtain ⟨l47, l58, l69, l80⟩ : lx_ls M3 M4 := hls
    have e33 : M4 33 = M3 33 := gw4 33 (by decide) (by decide +kernel)
    have q3 := hb_vc e33 3
    have q5 := hb_vc e33 5
    have q6 := hb_vc e33 6
    have o47 := hb_vc (hw3 47 (by decide) (by decide) (by decide) (by decide)) 1
    have o58 := hb_vc (hw3 58 (by decide) (by decide) (by decide) (by decide)) 1
    have o80 := hb_vc (hw3 80 (by decide) (by decide) (by decide) (by decide)) 1
    exact (show lr_fin _ _ _ _ _ _ _ _ _ _ _ _ _ _ _ _ from (.inr (.inr (.inr (.inl ⟨by omega, by omega, by omega, by omega, by omega, by omega, by omega, by omega, by omega, by omega⟩)))))
  · skip
    refine he_ifle_f (n := 19) (t := 21) (by decide +kernel) (by omega) ?_
    refine he_iconst (n := 20) (c := 0) (by decide +kernel) (by decide) ?_
    intro c19 hc19
    refine he_retz (by decide +kernel) (by omega) ?_
    exact K N _ (show lr_fin _ _ _ _ _ _ _ _ _ _ _ _ _ _ _ _ from .inl ⟨by omega, (.inr (.inr (.inr (.inr (.inl ⟨by omega, by omega⟩))))), by omega, by omega, by omega, by omega, by omega, by omega, by omega⟩)
theorem lx_fin3 {d z u : Nat} {M N : Nat → mq_C} {Q : (Option Value ⊕ Nat) → mq_S → Prop} {x1 : Int32} (hd : 8 ≤ d + 1) (hz : 272 ≤ z) (hm : mz_sh mz_GG N) (hx : HX N) (hN : ∀ a, a < 272 → N a = M a) (hp : 0 ≤ 236 - hv M 33 3 - hv M 33 5) (p0 : 0 ≤ hv M 33 3) (p1 : 0 ≤ hv M 33 5) (hs : x1.toInt = 3)
    (K : ∀ (M' : Nat → mq_C) (r : Int32), lr_fin x1.toInt (hv M 33 3) (hv M 33 5) (hv M 33 6) (hv M 47 1) (hv M 58 1) (hv M 69 1) (hv M 80 1) (hv M' 33 3) (hv M' 33 5) (hv M' 33 6) (hv M' 47 1) (hv M' 58 1) (hv M' 69 1) (hv M' 80 1) r.toInt → Q (.inl (some (.int r))) (M', z, u)) : mq_R mq_PP (d + 1) 3 7 [some (.ref 8), some (.int x1)] [] (N, z, u) Q := by
  have n33_3 := hb_vc (hN 33 (by decide)) 3
  have n33_5 := hb_vc (hN 33 (by decide)) 5
  have n33_6 := hb_vc (hN 33 (by decide)) 6
  have n47_1 := hb_vc (hN 47 (by decide)) 1
  have n58_1 := hb_vc (hN 58 (by decide)) 1
  have n69_1 := hb_vc (hN 69 (by decide)) 1
  have n80_1 := hb_vc (hN 80 (by decide)) 1
  refine he_aload (n := 8) (i := 0) (by decide +kernel) rfl ?_
  refine he_getr (n := 11) (ci := 0) (j := 2) (ns := [2079, 25]) (b := 37) hm (by decide +kernel) rfl rfl (by decide +kernel) ?_
  refine he_iload (n := 12) (i := 1) (by decide +kernel) rfl ?_
  refine he_aald (n := 13) (kind := 71) (b := 80) hm (by decide +kernel) rfl rfl (by decide) (by omega) (by rw [show x1.toInt.toNat = 3 by omega]; decide +kernel) ?_
  refine hb_gfd (n := 16) (ci := 1) (j := 1) (ns := [1218, 124]) hm (by decide +kernel) rfl rfl (by decide) rfl ?_
  intro v13 hv13 lv13 uv13
  by_cases h16 : v13.toInt ≤ 0
  · skip
    refine he_ifle_t (n := 19) (t := 21) (by decide +kernel) (by omega) ?_
    refine he_aload (n := 22) (i := 0) (by decide +kernel) rfl ?_
    refine he_getr (n := 25) (ci := 0) (j := 1) (ns := [2078, 19]) (b := 33) hm (by decide +kernel) rfl rfl (by decide +kernel) ?_
    refine he_aload (n := 26) (i := 0) (by decide +kernel) rfl ?_
    refine he_getr (n := 29) (ci := 0) (j := 2) (ns := [2079, 25]) (b := 37) hm (by decide +kernel) rfl rfl (by decide +kernel) ?_
    refine he_iload (n := 30) (i := 1) (by decide +kernel) rfl ?_
    refine he_aald (n := 31) (kind := 71) (b := 80) hm (by decide +kernel) rfl rfl (by decide) (by omega) (by rw [show x1.toInt.toNat = 3 by omega]; decide +kernel) ?_
    refine he_v1 (n := 34) (j := 80) (ci := 6) (mx := 3) (ns := [2237, 2238, 2239, 125]) (by decide +kernel) ((hb_kd (a := 33) hm rfl).trans rfl) (by decide) (by show 2 ≤ 3; omega) ?_
    rw [mq_e80]
    refine lx_wt3 (by omega) hz hm hx (by omega) (by omega) (by omega) ?_
    intro M3 hm3 hx3 hw3 l3 b3 r3 e3
    show mq_R mq_PP (d + 1) 3 34 _ [] (M3, z, u) Q
    refine he_aload (n := 35) (i := 0) (by decide +kernel) rfl ?_
    refine he_getr (n := 38) (ci := 0) (j := 2) (ns := [2079, 25]) (b := 37) hm3 (by decide +kernel) rfl rfl (by decide +kernel) ?_
    refine he_iload (n := 39) (i := 1) (by decide +kernel) rfl ?_
    refine he_aald (n := 40) (kind := 71) (b := 80) hm3 (by decide +kernel) rfl rfl (by decide) (by omega) (by rw [show x1.toInt.toNat = 3 by omega]; decide +kernel) ?_
    refine he_aload (n := 41) (i := 0) (by decide +kernel) rfl ?_
    refine he_getr (n := 44) (ci := 0) (j := 0) (ns := [2077, 12]) (b := 9) hm3 (by decide +kernel) rfl rfl (by decide +kernel) ?_
    refine he_v1 (n := 47) (j := 48) (ci := 1) (mx := 3) (ns := [3001, 3002, 3003, 129]) (by decide +kernel) ((hb_kd (a := 80) hm3 rfl).trans rfl) (by decide) (by show 2 ≤ 3; omega) ?_
    rw [mq_e48]
    refine lx_len (by decide) hm3 ?_
    refine lx_examine (ha_all (mz_q95, 7) (List.mem_of_getElem? (show mz_Cs[95]? = _ from rfl))) (by omega) hz hm3 hx3 (by decide) ?_
    intro M4 hm4 hx4 gw4 g84 ge4 hls
    show mq_R mq_PP (d + 1) 3 47 _ [] (M4, z, u) Q
    refine he_iconst (n := 48) (c := 1) (by decide +kernel) (by decide) ?_
    intro c47 hc47
    refine he_retz (by decide +kernel) (by omega) ?_
    refine K M4 _ ?_
    obtain ⟨l47, l58, l69, l80⟩ : lx_ls M3 M4 := hls
    have e33 : M4 33 = M3 33 := gw4 33 (by decide) (by decide +kernel)
    have q3 := hb_vc e33 3
    have q5 := hb_vc e33 5
    have q6 := hb_vc e33 6
    have o47 := hb_vc (hw3 47 (by decide) (by decide) (by decide) (by decide)) 1
    have o58 := hb_vc (hw3 58 (by decide) (by decide) (by decide) (by decide)) 1
    have o69 := hb_vc (hw3 69 (by decide) (by decide) (by decide) (by decide)) 1
    exact (show lr_fin _ _ _ _ _ _ _ _ _ _ _ _ _ _ _ _ from (.inr (.inr (.inr (.inr ⟨by omega, by omega, by omega, by omega, by omega, by omega, by omega, by omega, by omega, by omega⟩)))))
  · skip
    refine he_ifle_f (n := 19) (t := 21) (by decide +kernel) (by omega) ?_
    refine he_iconst (n := 20) (c := 0) (by decide +kernel) (by decide) ?_
    intro c19 hc19
    refine he_retz (by decide +kernel) (by omega) ?_
    exact K N _ (show lr_fin _ _ _ _ _ _ _ _ _ _ _ _ _ _ _ _ from .inl ⟨by omega, (.inr (.inr (.inr (.inr (.inr ⟨by omega, by omega⟩))))), by omega, by omega, by omega, by omega, by omega, by omega, by omega⟩)
theorem lx_finish {d z u : Nat} {M : Nat → mq_C} {Q : (Option Value ⊕ Nat) → mq_S → Prop} {x1 : Int32} (hd : 8 ≤ d) (hz : 272 ≤ z) (hm : mz_sh mz_GG M) (hx : HX M) (hp : 0 ≤ 236 - hv M 33 3 - hv M 33 5) (p0 : 0 ≤ hv M 33 3) (p1 : 0 ≤ hv M 33 5)
    (K : ∀ (M' : Nat → mq_C) (r : Int32), lr_fin x1.toInt (hv M 33 3) (hv M 33 5) (hv M 33 6) (hv M 47 1) (hv M 58 1) (hv M 69 1) (hv M 80 1) (hv M' 33 3) (hv M' 33 5) (hv M' 33 6) (hv M' 47 1) (hv M' 58 1) (hv M' 69 1) (hv M' 80 1) r.toInt → Q (.inl (some (.int r))) (M', z, u)) : mq_R mq_PP d 3 0 [some (.ref 8), some (.int x1)] [] (M, z, u) Q := by
  obtain ⟨d, rfl⟩ : ∃ d', d = d' + 1 := ⟨d - 1, by omega⟩
  refine he_iload (n := 1) (i := 1) (by decide +kernel) rfl ?_
  refine he_s1 (n := 4) (j := 17) (mx := 1) (ns := [2234, 2235, 1001, 121]) (by decide +kernel) (by decide) (by show 1 ≤ 1; omega) ?_
  rw [mq_e17]
  refine lx_isSlot (ha_all (mz_q0, 1) (List.mem_of_getElem? (show mz_Cs[0]? = _ from rfl))) (by omega) hz hm hx ?_ ?_ ?_
  · intro N r g1 g2 g3 g4 g5 f0 f1 f2
    have hN : ∀ a, a < 272 → N a = M a := fun a ha => g3 a ha rfl
    show mq_R mq_PP (d + 1) 3 4 _ [.int r] (N, z, u) Q
    refine he_ifeq_f (n := 7) (t := 19) (by decide +kernel) (by omega) ?_
    have hs : x1.toInt = 0 ∨ x1.toInt = 1 ∨ x1.toInt = 2 ∨ x1.toInt = 3 := by omega
    rcases hs with hs | hs | hs | hs
    · exact lx_fin0 hd hz g1 g2 hN hp p0 p1 hs K
    · exact lx_fin1 hd hz g1 g2 hN hp p0 p1 hs K
    · exact lx_fin2 hd hz g1 g2 hN hp p0 p1 hs K
    · exact lx_fin3 hd hz g1 g2 hN hp p0 p1 hs K
  · intro N r g1 g2 g3 g4 g5 f0 f1
    have hN : ∀ a, a < 272 → N a = M a := fun a ha => g3 a ha rfl
    show mq_R mq_PP (d + 1) 3 4 _ [.int r] (N, z, u) Q
    refine he_ifeq_t (n := 7) (t := 19) (by decide +kernel) (by omega) ?_
    refine he_iconst (n := 20) (c := 0) (by decide +kernel) (by decide) ?_
    intro c19 hc19
    refine he_retz (by decide +kernel) (by omega) ?_
    have n33_3 := hb_vc (hN 33 (by decide)) 3
    have n33_5 := hb_vc (hN 33 (by decide)) 5
    have n33_6 := hb_vc (hN 33 (by decide)) 6
    have n47_1 := hb_vc (hN 47 (by decide)) 1
    have n58_1 := hb_vc (hN 58 (by decide)) 1
    have n69_1 := hb_vc (hN 69 (by decide)) 1
    have n80_1 := hb_vc (hN 80 (by decide)) 1
    exact K N _ (show lr_fin _ _ _ _ _ _ _ _ _ _ _ _ _ _ _ _ from .inl ⟨by omega, (.inl (by omega)), by omega, by omega, by omega, by omega, by omega, by omega, by omega⟩)
  · intro N r g1 g2 g3 g4 g5 f0 f1
    have hN : ∀ a, a < 272 → N a = M a := fun a ha => g3 a ha rfl
    show mq_R mq_PP (d + 1) 3 4 _ [.int r] (N, z, u) Q
    refine he_ifeq_t (n := 7) (t := 19) (by decide +kernel) (by omega) ?_
    refine he_iconst (n := 20) (c := 0) (by decide +kernel) (by decide) ?_
    intro c19 hc19
    refine he_retz (by decide +kernel) (by omega) ?_
    have n33_3 := hb_vc (hN 33 (by decide)) 3
    have n33_5 := hb_vc (hN 33 (by decide)) 5
    have n33_6 := hb_vc (hN 33 (by decide)) 6
    have n47_1 := hb_vc (hN 47 (by decide)) 1
    have n58_1 := hb_vc (hN 58 (by decide)) 1
    have n69_1 := hb_vc (hN 69 (by decide)) 1
    have n80_1 := hb_vc (hN 80 (by decide)) 1
    exact K N _ (show lr_fin _ _ _ _ _ _ _ _ _ _ _ _ _ _ _ _ from .inl ⟨by omega, (.inr (.inl (by omega))), by omega, by omega, by omega, by omega, by omega, by omega, by omega⟩)
