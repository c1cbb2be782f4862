/-! The check of the methods 44 to 87. -/
set_option maxRecDepth 100000 in
theorem mq_m44 : mq_mk mq_k44 mq_n44 = true := by decide +kernel
set_option maxRecDepth 100000 in
theorem mq_m45 : mq_mk mq_k45 mq_n45 = true := by decide +kernel
set_option maxRecDepth 100000 in
theorem mq_m46 : mq_mk mq_k46 mq_n46 = true := by decide +kernel
set_option maxRecDepth 100000 in
theorem mq_m47 : mq_mk mq_k47 mq_n47 = true := by decide +kernel
set_option maxRecDepth 100000 in
theorem mq_m48 : mq_mk mq_k48 mq_n48 = true := by decide +kernel
set_option maxRecDepth 100000 in
theorem mq_m49 : mq_mk mq_k49 mq_n49 = true := by decide +kernel
set_option maxRecDepth 100000 in
theorem mq_m50 : mq_mk mq_k50 mq_n50 = true := by decide +kernel
set_option maxRecDepth 100000 in
theorem mq_m51 : mq_mk mq_k51 mq_n51 = true := by decide +kernel
set_option maxRecDepth 100000 in
theorem mq_m52 : mq_mk mq_k52 mq_n52 = true := by decide +kernel
set_option maxRecDepth 100000 in
theorem mq_m53 : mq_mk mq_k53 mq_n53 = true := by decide +kernel
set_option maxRecDepth 100000 in
theorem mq_m54 : mq_mk mq_k54 mq_n54 = true := by decide +kernel
set_option maxRecDepth 100000 in
theorem mq_m55 : mq_mk mq_k55 mq_n55 = true := by decide +kernel
set_option maxRecDepth 100000 in
theorem mq_m56 : mq_mk mq_k56 mq_n56 = true := by decide +kernel
set_option maxRecDepth 100000 in
theorem mq_m57 : mq_mk mq_k57 mq_n57 = true := by decide +kernel
set_option maxRecDepth 100000 in
theorem mq_m58 : mq_mk mq_k58 mq_n58 = true := by decide +kernel
set_option maxRecDepth 100000 in
theorem mq_m59 : mq_mk mq_k59 mq_n59 = true := by decide +kernel
set_option maxRecDepth 100000 in
theorem mq_m60 : mq_mk mq_k60 mq_n60 = true := by decide +kernel
set_option maxRecDepth 100000 in
theorem mq_m61 : mq_mk mq_k61 mq_n61 = true := by decide +kernel
set_option maxRecDepth 100000 in
theorem mq_m62 : mq_mk mq_k62 mq_n62 = true := by decide +kernel
set_option maxRecDepth 100000 in
theorem mq_m63 : mq_mk mq_k63 mq_n63 = true := by decide +kernel
set_option maxRecDepth 100000 in
theorem mq_m64 : mq_mk mq_k64 mq_n64 = true := by decide +kernel
set_option maxRecDepth 100000 in
theorem mq_m65 : mq_mk mq_k65 mq_n65 = true := by decide +kernel
set_option maxRecDepth 100000 in
theorem mq_m66 : mq_mk mq_k66 mq_n66 = true := by decide +kernel
set_option maxRecDepth 100000 in
theorem mq_m67 : mq_mk mq_k67 mq_n67 = true := by decide +kernel
set_option maxRecDepth 100000 in
theorem mq_m68 : mq_mk mq_k68 mq_n68 = true := by decide +kernel
set_option maxRecDepth 100000 in
theorem mq_m69 : mq_mk mq_k69 mq_n69 = true := by decide +kernel
set_option maxRecDepth 100000 in
theorem mq_m70 : mq_mk mq_k70 mq_n70 = true := by decide +kernel
set_option maxRecDepth 100000 in
theorem mq_m71 : mq_mk mq_k71 mq_n71 = true := by decide +kernel
set_option maxRecDepth 100000 in
theorem mq_m72 : mq_mk mq_k72 mq_n72 = true := by decide +kernel
set_option maxRecDepth 100000 in
theorem mq_m73 : mq_mk mq_k73 mq_n73 = true := by decide +kernel
set_option maxRecDepth 100000 in
theorem mq_m74 : mq_mk mq_k74 mq_n74 = true := by decide +kernel
set_option maxRecDepth 100000 in
theorem mq_m75 : mq_mk mq_k75 mq_n75 = true := by decide +kernel
set_option maxRecDepth 100000 in
theorem mq_m76 : mq_mk mq_k76 mq_n76 = true := by decide +kernel
set_option maxRecDepth 100000 in
theorem mq_m77 : mq_mk mq_k77 mq_n77 = true := by decide +kernel
set_option maxRecDepth 100000 in
theorem mq_m78 : mq_mk mq_k78 mq_n78 = true := by decide +kernel
set_option maxRecDepth 100000 in
theorem mq_m79 : mq_mk mq_k79 mq_n79 = true := by decide +kernel
set_option maxRecDepth 100000 in
theorem mq_m80 : mq_mk mq_k80 mq_n80 = true := by decide +kernel
set_option maxRecDepth 100000 in
theorem mq_m81 : mq_mk mq_k81 mq_n81 = true := by decide +kernel
set_option maxRecDepth 100000 in
theorem mq_m82 : mq_mk mq_k82 mq_n82 = true := by decide +kernel
set_option maxRecDepth 100000 in
theorem mq_m83 : mq_mk mq_k83 mq_n83 = true := by decide +kernel
set_option maxRecDepth 100000 in
theorem mq_m84 : mq_mk mq_k84 mq_n84 = true := by decide +kernel
set_option maxRecDepth 100000 in
theorem mq_m85 : mq_mk mq_k85 mq_n85 = true := by decide +kernel
set_option maxRecDepth 100000 in
theorem mq_m86 : mq_mk mq_k86 mq_n86 = true := by decide +kernel
set_option maxRecDepth 100000 in
theorem mq_m87 : mq_mk mq_k87 mq_n87 = true := by decide +kernel
