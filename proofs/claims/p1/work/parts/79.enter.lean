/-! The law's case 1. -/
theorem mq_case1 {M : Nat → mq_C} {x0 x1 x2 x3 : Int32} {Q : (Option Value ⊕ Nat) → mq_S → Prop} (F : mq_F M) (h0 : M 0 = (60, [.int x0, .int x1, .int x2, .int x3])) (h271 : M 271 = (66, [.long 0])) (hQ : ∀ M' z' u', z' ≤ 300 → u' ≤ 20000 → Q (.inl (some (.int 1))) (M', z', u')) : mq_R mq_PP 1000 174 185 [some (.ref 0), some (.ref 8), some (.ref 234), some (.ref 271), some (.int 0), none, none] [] (M, 272, 11638) Q := by
  by_cases z : mq_nm x1 = 0
  · exact mq_case1_0 F h0 h271 hQ z
  · by_cases m0 : x2 = 0
    · rcases mq_nm_cases x1 with e | e | e | e | e
      · exact absurd e z
      · exact mq_case1_2 F h0 h271 hQ e m0
      · exact mq_case1_4 F h0 h271 hQ e m0
      · exact mq_case1_6 F h0 h271 hQ e m0
      · exact mq_case1_8 F h0 h271 hQ e m0
    · by_cases m8 : x2 = 8
      · rcases mq_nm_cases x1 with e | e | e | e | e
        · exact absurd e z
        · exact mq_case1_3 F h0 h271 hQ e m8
        · exact mq_case1_5 F h0 h271 hQ e m8
        · exact mq_case1_7 F h0 h271 hQ e m8
        · exact mq_case1_9 F h0 h271 hQ e m8
      · exact mq_case1_1 F h0 h271 hQ z m0 m8
