/-! The check of the methods 132 to 174. -/
set_option maxRecDepth 100000 in
theorem mq_m132 : mq_mk mq_k132 mq_n132 = true := by decide +kernel
set_option maxRecDepth 100000 in
theorem mq_m133 : mq_mk mq_k133 mq_n133 = true := by decide +kernel
set_option maxRecDepth 100000 in
theorem mq_m134 : mq_mk mq_k134 mq_n134 = true := by decide +kernel
set_option maxRecDepth 100000 in
theorem mq_m135 : mq_mk mq_k135 mq_n135 = true := by decide +kernel
set_option maxRecDepth 100000 in
theorem mq_m136 : mq_mk mq_k136 mq_n136 = true := by decide +kernel
set_option maxRecDepth 100000 in
theorem mq_m137 : mq_mk mq_k137 mq_n137 = true := by decide +kernel
set_option maxRecDepth 100000 in
theorem mq_m138 : mq_mk mq_k138 mq_n138 = true := by decide +kernel
set_option maxRecDepth 100000 in
theorem mq_m139 : mq_mk mq_k139 mq_n139 = true := by decide +kernel
set_option maxRecDepth 100000 in
theorem mq_m140 : mq_mk mq_k140 mq_n140 = true := by decide +kernel
set_option maxRecDepth 100000 in
theorem mq_m141 : mq_mk mq_k141 mq_n141 = true := by decide +kernel
set_option maxRecDepth 100000 in
theorem mq_m142 : mq_mk mq_k142 mq_n142 = true := by decide +kernel
set_option maxRecDepth 100000 in
theorem mq_m143 : mq_mk mq_k143 mq_n143 = true := by decide +kernel
set_option maxRecDepth 100000 in
theorem mq_m144 : mq_mk mq_k144 mq_n144 = true := by decide +kernel
set_option maxRecDepth 100000 in
theorem mq_m145 : mq_mk mq_k145 mq_n145 = true := by decide +kernel
set_option maxRecDepth 100000 in
theorem mq_m146 : mq_mk mq_k146 mq_n146 = true := by decide +kernel
set_option maxRecDepth 100000 in
theorem mq_m147 : mq_mk mq_k147 mq_n147 = true := by decide +kernel
set_option maxRecDepth 100000 in
theorem mq_m148 : mq_mk mq_k148 mq_n148 = true := by decide +kernel
set_option maxRecDepth 100000 in
theorem mq_m149 : mq_mk mq_k149 mq_n149 = true := by decide +kernel
set_option maxRecDepth 100000 in
theorem mq_m150 : mq_mk mq_k150 mq_n150 = true := by decide +kernel
set_option maxRecDepth 100000 in
theorem mq_m151 : mq_mk mq_k151 mq_n151 = true := by decide +kernel
set_option maxRecDepth 100000 in
theorem mq_m152 : mq_mk mq_k152 mq_n152 = true := by decide +kernel
set_option maxRecDepth 100000 in
theorem mq_m153 : mq_mk mq_k153 mq_n153 = true := by decide +kernel
set_option maxRecDepth 100000 in
theorem mq_m154 : mq_mk mq_k154 mq_n154 = true := by decide +kernel
set_option maxRecDepth 100000 in
theorem mq_m155 : mq_mk mq_k155 mq_n155 = true := by decide +kernel
set_option maxRecDepth 100000 in
theorem mq_m156 : mq_mk mq_k156 mq_n156 = true := by decide +kernel
set_option maxRecDepth 100000 in
theorem mq_m157 : mq_mk mq_k157 mq_n157 = true := by decide +kernel
set_option maxRecDepth 100000 in
theorem mq_m158 : mq_mk mq_k158 mq_n158 = true := by decide +kernel
set_option maxRecDepth 100000 in
theorem mq_m159 : mq_mk mq_k159 mq_n159 = true := by decide +kernel
set_option maxRecDepth 100000 in
theorem mq_m160 : mq_mk mq_k160 mq_n160 = true := by decide +kernel
set_option maxRecDepth 100000 in
theorem mq_m161 : mq_mk mq_k161 mq_n161 = true := by decide +kernel
set_option maxRecDepth 100000 in
theorem mq_m162 : mq_mk mq_k162 mq_n162 = true := by decide +kernel
set_option maxRecDepth 100000 in
theorem mq_m163 : mq_mk mq_k163 mq_n163 = true := by decide +kernel
set_option maxRecDepth 100000 in
theorem mq_m164 : mq_mk mq_k164 mq_n164 = true := by decide +kernel
set_option maxRecDepth 100000 in
theorem mq_m165 : mq_mk mq_k165 mq_n165 = true := by decide +kernel
set_option maxRecDepth 100000 in
theorem mq_m166 : mq_mk mq_k166 mq_n166 = true := by decide +kernel
set_option maxRecDepth 100000 in
theorem mq_m167 : mq_mk mq_k167 mq_n167 = true := by decide +kernel
set_option maxRecDepth 100000 in
theorem mq_m168 : mq_mk mq_k168 mq_n168 = true := by decide +kernel
set_option maxRecDepth 100000 in
theorem mq_m169 : mq_mk mq_k169 mq_n169 = true := by decide +kernel
set_option maxRecDepth 100000 in
theorem mq_m170 : mq_mk mq_k170 mq_n170 = true := by decide +kernel
set_option maxRecDepth 100000 in
theorem mq_m171 : mq_mk mq_k171 mq_n171 = true := by decide +kernel
set_option maxRecDepth 100000 in
theorem mq_m172 : mq_mk mq_k172 mq_n172 = true := by decide +kernel
set_option maxRecDepth 100000 in
theorem mq_m174 : mq_mk mq_k174 mq_n174 = true := by decide +kernel
