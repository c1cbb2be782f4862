/-! The check of the methods 0 to 43. -/
set_option maxRecDepth 100000 in
theorem mq_m0 : mq_mk mq_k0 mq_n0 = true := by decide +kernel
set_option maxRecDepth 100000 in
theorem mq_m1 : mq_mk mq_k1 mq_n1 = true := by decide +kernel
set_option maxRecDepth 100000 in
theorem mq_m2 : mq_mk mq_k2 mq_n2 = true := by decide +kernel
set_option maxRecDepth 100000 in
theorem mq_m3 : mq_mk mq_k3 mq_n3 = true := by decide +kernel
set_option maxRecDepth 100000 in
theorem mq_m4 : mq_mk mq_k4 mq_n4 = true := by decide +kernel
set_option maxRecDepth 100000 in
theorem mq_m5 : mq_mk mq_k5 mq_n5 = true := by decide +kernel
set_option maxRecDepth 100000 in
theorem mq_m6 : mq_mk mq_k6 mq_n6 = true := by decide +kernel
set_option maxRecDepth 100000 in
theorem mq_m7 : mq_mk mq_k7 mq_n7 = true := by decide +kernel
set_option maxRecDepth 100000 in
theorem mq_m8 : mq_mk mq_k8 mq_n8 = true := by decide +kernel
set_option maxRecDepth 100000 in
theorem mq_m9 : mq_mk mq_k9 mq_n9 = true := by decide +kernel
set_option maxRecDepth 100000 in
theorem mq_m10 : mq_mk mq_k10 mq_n10 = true := by decide +kernel
set_option maxRecDepth 100000 in
theorem mq_m11 : mq_mk mq_k11 mq_n11 = true := by decide +kernel
set_option maxRecDepth 100000 in
theorem mq_m12 : mq_mk mq_k12 mq_n12 = true := by decide +kernel
set_option maxRecDepth 100000 in
theorem mq_m13 : mq_mk mq_k13 mq_n13 = true := by decide +kernel
set_option maxRecDepth 100000 in
theorem mq_m14 : mq_mk mq_k14 mq_n14 = true := by decide +kernel
set_option maxRecDepth 100000 in
theorem mq_m15 : mq_mk mq_k15 mq_n15 = true := by decide +kernel
set_option maxRecDepth 100000 in
theorem mq_m16 : mq_mk mq_k16 mq_n16 = true := by decide +kernel
set_option maxRecDepth 100000 in
theorem mq_m17 : mq_mk mq_k17 mq_n17 = true := by decide +kernel
set_option maxRecDepth 100000 in
theorem mq_m18 : mq_mk mq_k18 mq_n18 = true := by decide +kernel
set_option maxRecDepth 100000 in
theorem mq_m19 : mq_mk mq_k19 mq_n19 = true := by decide +kernel
set_option maxRecDepth 100000 in
theorem mq_m20 : mq_mk mq_k20 mq_n20 = true := by decide +kernel
set_option maxRecDepth 100000 in
theorem mq_m21 : mq_mk mq_k21 mq_n21 = true := by decide +kernel
set_option maxRecDepth 100000 in
theorem mq_m22 : mq_mk mq_k22 mq_n22 = true := by decide +kernel
set_option maxRecDepth 100000 in
theorem mq_m23 : mq_mk mq_k23 mq_n23 = true := by decide +kernel
set_option maxRecDepth 100000 in
theorem mq_m24 : mq_mk mq_k24 mq_n24 = true := by decide +kernel
set_option maxRecDepth 100000 in
theorem mq_m25 : mq_mk mq_k25 mq_n25 = true := by decide +kernel
set_option maxRecDepth 100000 in
theorem mq_m26 : mq_mk mq_k26 mq_n26 = true := by decide +kernel
set_option maxRecDepth 100000 in
theorem mq_m27 : mq_mk mq_k27 mq_n27 = true := by decide +kernel
set_option maxRecDepth 100000 in
theorem mq_m28 : mq_mk mq_k28 mq_n28 = true := by decide +kernel
set_option maxRecDepth 100000 in
theorem mq_m29 : mq_mk mq_k29 mq_n29 = true := by decide +kernel
set_option maxRecDepth 100000 in
theorem mq_m30 : mq_mk mq_k30 mq_n30 = true := by decide +kernel
set_option maxRecDepth 100000 in
theorem mq_m31 : mq_mk mq_k31 mq_n31 = true := by decide +kernel
set_option maxRecDepth 100000 in
theorem mq_m32 : mq_mk mq_k32 mq_n32 = true := by decide +kernel
set_option maxRecDepth 100000 in
theorem mq_m33 : mq_mk mq_k33 mq_n33 = true := by decide +kernel
set_option maxRecDepth 100000 in
theorem mq_m34 : mq_mk mq_k34 mq_n34 = true := by decide +kernel
set_option maxRecDepth 100000 in
theorem mq_m35 : mq_mk mq_k35 mq_n35 = true := by decide +kernel
set_option maxRecDepth 100000 in
theorem mq_m36 : mq_mk mq_k36 mq_n36 = true := by decide +kernel
set_option maxRecDepth 100000 in
theorem mq_m37 : mq_mk mq_k37 mq_n37 = true := by decide +kernel
set_option maxRecDepth 100000 in
theorem mq_m38 : mq_mk mq_k38 mq_n38 = true := by decide +kernel
set_option maxRecDepth 100000 in
theorem mq_m39 : mq_mk mq_k39 mq_n39 = true := by decide +kernel
set_option maxRecDepth 100000 in
theorem mq_m40 : mq_mk mq_k40 mq_n40 = true := by decide +kernel
set_option maxRecDepth 100000 in
theorem mq_m41 : mq_mk mq_k41 mq_n41 = true := by decide +kernel
set_option maxRecDepth 100000 in
theorem mq_m42 : mq_mk mq_k42 mq_n42 = true := by decide +kernel
set_option maxRecDepth 100000 in
theorem mq_m43 : mq_mk mq_k43 mq_n43 = true := by decide +kernel
