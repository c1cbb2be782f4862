/-! The memory behind the constructors, by the kernel's own reckoning (printed by gen_init.py). -/
def mq_rn (l : List (Nat × Int)) : List Value := l.flatMap fun q => List.replicate q.1 (.int (Int32.ofInt q.2))
def mq_ht0 : List mq_C := [(0, [.null, .null, .null, .null, .int 0, .null, .null, .int 0, .null, .null, .int 0, .null, .null, .int 0, .int 0])]
def mq_hf0 : List mq_Fr := [(0, 0, [some (.ref 8), none], [])]
def mq_ht1 : List mq_C := [(0, [.null, .null, .null, .null, .int 0, .null, .null, .int 0, .null, .null, .int 0, .null, .null, .int 0, .int 0]),
  (8, [.ref 10, .int 0, .ref 10, .int 0, .int 0, .int 0, .ref 11, .ref 12, .ref 16, .ref 20, .ref 24, .ref 28]),
  (64, mq_rn [(200, 0)]),
  (64, mq_rn [(316, 0)]),
  (3, [.ref 13, .ref 15, .ref 14, .int 0]),
  (64, mq_rn [(16, 0)]),
  (64, mq_rn [(17, 0)]),
  (64, mq_rn [(19, 0)]),
  (3, [.ref 17, .ref 19, .ref 18, .int 0]),
  (64, mq_rn [(16, 0)]),
  (64, mq_rn [(17, 0)]),
  (64, mq_rn [(286, 0)]),
  (3, [.ref 21, .ref 23, .ref 22, .int 0]),
  (64, mq_rn [(16, 0)]),
  (64, mq_rn [(17, 0)]),
  (64, mq_rn [(30, 0)]),
  (3, [.ref 25, .ref 27, .ref 26, .int 0]),
  (64, mq_rn [(16, 0)]),
  (64, mq_rn [(17, 0)]),
  (64, mq_rn [(288, 0)]),
  (3, [.ref 29, .ref 31, .ref 30, .int 32768]),
  (64, mq_rn [(5, 0), (1, 32), (10, 0)]),
  (64, mq_rn [(6, 0), (5, 32), (6, 0)]),
  (64, mq_rn [(32, 0)]),
  (64, mq_rn [(32, 5), (256, 0)])]
def mq_hf1 : List mq_Fr := [(63, 104, [some (.ref 28), some (.ref 32), some (.int 0), some (.int 32), some (.int 10), none], [.int 10, .ref 30]), (90, 142, [some (.ref 9), some (.ref 32)], []), (0, 12, [some (.ref 8), none], [.ref 9, .ref 8])]
set_option maxRecDepth 1000000 in
set_option maxHeartbeats 0 in
theorem mq_hs1 : mq_sg mq_PP 1500 8 15 mq_ht0 mq_hf0 mq_hf1 1671 mq_ht1 = true := by decide +kernel
def mq_ht2 : List mq_C := [(0, [.null, .null, .null, .null, .int 0, .null, .null, .int 0, .null, .null, .int 0, .null, .null, .int 0, .int 0]),
  (8, [.ref 10, .int 0, .ref 10, .int 0, .int 0, .int 0, .ref 11, .ref 12, .ref 16, .ref 20, .ref 24, .ref 28]),
  (64, mq_rn [(200, 0)]),
  (64, mq_rn [(316, 0)]),
  (3, [.ref 13, .ref 15, .ref 14, .int 0]),
  (64, mq_rn [(16, 0)]),
  (64, mq_rn [(17, 0)]),
  (64, mq_rn [(19, 0)]),
  (3, [.ref 17, .ref 19, .ref 18, .int 0]),
  (64, mq_rn [(16, 0)]),
  (64, mq_rn [(17, 0)]),
  (64, mq_rn [(286, 0)]),
  (3, [.ref 21, .ref 23, .ref 22, .int 0]),
  (64, mq_rn [(16, 0)]),
  (64, mq_rn [(17, 0)]),
  (64, mq_rn [(30, 0)]),
  (3, [.ref 25, .ref 27, .ref 26, .int 0]),
  (64, mq_rn [(16, 0)]),
  (64, mq_rn [(17, 0)]),
  (64, mq_rn [(288, 0)]),
  (3, [.ref 29, .ref 31, .ref 30, .int 32768]),
  (64, mq_rn [(5, 0), (1, 32), (10, 0)]),
  (64, mq_rn [(5, 0), (12, 32)]),
  (64, mq_rn [(1, 0), (1, 1), (1, 2), (1, 3), (1, 4), (1, 5), (1, 6), (1, 7), (1, 8), (1, 9), (1, 10), (1, 11), (1, 12), (1, 13), (1, 14), (1, 15), (1, 16), (1, 17), (1, 18), (1, 19), (1, 20), (1, 21), (1, 22), (1, 23), (1, 24), (1, 25), (1, 26), (1, 27), (1, 28), (1, 29), (1, 30), (1, 31)]),
  (64, mq_rn [(42, 8), (246, 0)])]
def mq_hf2 : List mq_Fr := [(91, 17, [some (.ref 32), some (.int 0), some (.int 144), some (.int 8), some (.int 42)], []), (90, 152, [some (.ref 9), some (.ref 32)], []), (0, 12, [some (.ref 8), none], [.ref 9, .ref 8])]
set_option maxRecDepth 1000000 in
set_option maxHeartbeats 0 in
theorem mq_hs2 : mq_sg mq_PP 1500 8 1671 mq_ht1 mq_hf1 mq_hf2 1671 mq_ht2 = true := by decide +kernel
def mq_ht3 : List mq_C := [(0, [.null, .null, .null, .null, .int 0, .null, .null, .int 0, .null, .null, .int 0, .null, .null, .int 0, .int 0]),
  (8, [.ref 10, .int 0, .ref 10, .int 0, .int 0, .int 0, .ref 11, .ref 12, .ref 16, .ref 20, .ref 24, .ref 28]),
  (64, mq_rn [(200, 0)]),
  (64, mq_rn [(316, 0)]),
  (3, [.ref 13, .ref 15, .ref 14, .int 0]),
  (64, mq_rn [(16, 0)]),
  (64, mq_rn [(17, 0)]),
  (64, mq_rn [(19, 0)]),
  (3, [.ref 17, .ref 19, .ref 18, .int 0]),
  (64, mq_rn [(16, 0)]),
  (64, mq_rn [(17, 0)]),
  (64, mq_rn [(286, 0)]),
  (3, [.ref 21, .ref 23, .ref 22, .int 0]),
  (64, mq_rn [(16, 0)]),
  (64, mq_rn [(17, 0)]),
  (64, mq_rn [(30, 0)]),
  (3, [.ref 25, .ref 27, .ref 26, .int 0]),
  (64, mq_rn [(16, 0)]),
  (64, mq_rn [(17, 0)]),
  (64, mq_rn [(288, 0)]),
  (3, [.ref 29, .ref 31, .ref 30, .int 32768]),
  (64, mq_rn [(5, 0), (1, 32), (10, 0)]),
  (64, mq_rn [(5, 0), (12, 32)]),
  (64, mq_rn [(1, 0), (1, 1), (1, 2), (1, 3), (1, 4), (1, 5), (1, 6), (1, 7), (1, 8), (1, 9), (1, 10), (1, 11), (1, 12), (1, 13), (1, 14), (1, 15), (1, 16), (1, 17), (1, 18), (1, 19), (1, 20), (1, 21), (1, 22), (1, 23), (1, 24), (1, 25), (1, 26), (1, 27), (1, 28), (1, 29), (1, 30), (1, 31)]),
  (64, mq_rn [(144, 8), (63, 9), (81, 0)])]
def mq_hf3 : List mq_Fr := [(91, 9, [some (.ref 32), some (.int 144), some (.int 256), some (.int 9), some (.int 207)], []), (90, 164, [some (.ref 9), some (.ref 32)], []), (0, 12, [some (.ref 8), none], [.ref 9, .ref 8])]
set_option maxRecDepth 1000000 in
set_option maxHeartbeats 0 in
theorem mq_hs3 : mq_sg mq_PP 1500 8 1671 mq_ht2 mq_hf2 mq_hf3 1671 mq_ht3 = true := by decide +kernel
