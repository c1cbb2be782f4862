/-! The check of the methods 88 to 131. -/
set_option maxRecDepth 100000 in
theorem mq_m88 : mq_mk mq_k88 mq_n88 = true := by decide +kernel
set_option maxRecDepth 100000 in
theorem mq_m89 : mq_mk mq_k89 mq_n89 = true := by decide +kernel
set_option maxRecDepth 100000 in
theorem mq_m90 : mq_mk mq_k90 mq_n90 = true := by decide +kernel
set_option maxRecDepth 100000 in
theorem mq_m91 : mq_mk mq_k91 mq_n91 = true := by decide +kernel
set_option maxRecDepth 100000 in
theorem mq_m92 : mq_mk mq_k92 mq_n92 = true := by decide +kernel
set_option maxRecDepth 100000 in
theorem mq_m93 : mq_mk mq_k93 mq_n93 = true := by decide +kernel
set_option maxRecDepth 100000 in
theorem mq_m94 : mq_mk mq_k94 mq_n94 = true := by decide +kernel
set_option maxRecDepth 100000 in
theorem mq_m95 : mq_mk mq_k95 mq_n95 = true := by decide +kernel
set_option maxRecDepth 100000 in
theorem mq_m96 : mq_mk mq_k96 mq_n96 = true := by decide +kernel
set_option maxRecDepth 100000 in
theorem mq_m97 : mq_mk mq_k97 mq_n97 = true := by decide +kernel
set_option maxRecDepth 100000 in
theorem mq_m98 : mq_mk mq_k98 mq_n98 = true := by decide +kernel
set_option maxRecDepth 100000 in
theorem mq_m99 : mq_mk mq_k99 mq_n99 = true := by decide +kernel
set_option maxRecDepth 100000 in
theorem mq_m100 : mq_mk mq_k100 mq_n100 = true := by decide +kernel
set_option maxRecDepth 100000 in
theorem mq_m101 : mq_mk mq_k101 mq_n101 = true := by decide +kernel
set_option maxRecDepth 100000 in
theorem mq_m102 : mq_mk mq_k102 mq_n102 = true := by decide +kernel
set_option maxRecDepth 100000 in
theorem mq_m103 : mq_mk mq_k103 mq_n103 = true := by decide +kernel
set_option maxRecDepth 100000 in
theorem mq_m104 : mq_mk mq_k104 mq_n104 = true := by decide +kernel
set_option maxRecDepth 100000 in
theorem mq_m105 : mq_mk mq_k105 mq_n105 = true := by decide +kernel
set_option maxRecDepth 100000 in
theorem mq_m106 : mq_mk mq_k106 mq_n106 = true := by decide +kernel
set_option maxRecDepth 100000 in
theorem mq_m107 : mq_mk mq_k107 mq_n107 = true := by decide +kernel
set_option maxRecDepth 100000 in
theorem mq_m108 : mq_mk mq_k108 mq_n108 = true := by decide +kernel
set_option maxRecDepth 100000 in
theorem mq_m109 : mq_mk mq_k109 mq_n109 = true := by decide +kernel
set_option maxRecDepth 100000 in
theorem mq_m110 : mq_mk mq_k110 mq_n110 = true := by decide +kernel
set_option maxRecDepth 100000 in
theorem mq_m111 : mq_mk mq_k111 mq_n111 = true := by decide +kernel
set_option maxRecDepth 100000 in
theorem mq_m112 : mq_mk mq_k112 mq_n112 = true := by decide +kernel
set_option maxRecDepth 100000 in
theorem mq_m113 : mq_mk mq_k113 mq_n113 = true := by decide +kernel
set_option maxRecDepth 100000 in
theorem mq_m114 : mq_mk mq_k114 mq_n114 = true := by decide +kernel
set_option maxRecDepth 100000 in
theorem mq_m115 : mq_mk mq_k115 mq_n115 = true := by decide +kernel
set_option maxRecDepth 100000 in
theorem mq_m116 : mq_mk mq_k116 mq_n116 = true := by decide +kernel
set_option maxRecDepth 100000 in
theorem mq_m117 : mq_mk mq_k117 mq_n117 = true := by decide +kernel
set_option maxRecDepth 100000 in
theorem mq_m118 : mq_mk mq_k118 mq_n118 = true := by decide +kernel
set_option maxRecDepth 100000 in
theorem mq_m119 : mq_mk mq_k119 mq_n119 = true := by decide +kernel
set_option maxRecDepth 100000 in
theorem mq_m120 : mq_mk mq_k120 mq_n120 = true := by decide +kernel
set_option maxRecDepth 100000 in
theorem mq_m121 : mq_mk mq_k121 mq_n121 = true := by decide +kernel
set_option maxRecDepth 100000 in
theorem mq_m122 : mq_mk mq_k122 mq_n122 = true := by decide +kernel
set_option maxRecDepth 100000 in
theorem mq_m123 : mq_mk mq_k123 mq_n123 = true := by decide +kernel
set_option maxRecDepth 100000 in
theorem mq_m124 : mq_mk mq_k124 mq_n124 = true := by decide +kernel
set_option maxRecDepth 100000 in
theorem mq_m125 : mq_mk mq_k125 mq_n125 = true := by decide +kernel
set_option maxRecDepth 100000 in
theorem mq_m126 : mq_mk mq_k126 mq_n126 = true := by decide +kernel
set_option maxRecDepth 100000 in
theorem mq_m127 : mq_mk mq_k127 mq_n127 = true := by decide +kernel
set_option maxRecDepth 100000 in
theorem mq_m128 : mq_mk mq_k128 mq_n128 = true := by decide +kernel
set_option maxRecDepth 100000 in
theorem mq_m129 : mq_mk mq_k129 mq_n129 = true := by decide +kernel
set_option maxRecDepth 100000 in
theorem mq_m130 : mq_mk mq_k130 mq_n130 = true := by decide +kernel
set_option maxRecDepth 100000 in
theorem mq_m131 : mq_mk mq_k131 mq_n131 = true := by decide +kernel
