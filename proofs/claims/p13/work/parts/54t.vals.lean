set_option maxRecDepth 100000 in
theorem vq8_0 : rf_xs (Int32.toNatClampNeg (nI (5 * ((((((((0 + 1) + 1) + 1) + 1) + 1) + 1) + 1) + 1)))) = (11 : Int32) := by decide +kernel
set_option maxRecDepth 100000 in
theorem vq8_1 : rf_xs (Int32.toNatClampNeg (nI (5 * ((((((((0 + 1) + 1) + 1) + 1) + 1) + 1) + 1) + 1)) + (1 : Int32))) = (2 : Int32) := by decide +kernel
set_option maxRecDepth 100000 in
theorem vq8_2 : rf_xs (Int32.toNatClampNeg (nI (5 * ((((((((0 + 1) + 1) + 1) + 1) + 1) + 1) + 1) + 1)) + (2 : Int32))) = (5 : Int32) := by decide +kernel
set_option maxRecDepth 100000 in
theorem vq8_3 : rf_xs (Int32.toNatClampNeg (nI (5 * ((((((((0 + 1) + 1) + 1) + 1) + 1) + 1) + 1) + 1)) + (3 : Int32))) = (0 : Int32) := by decide +kernel
set_option maxRecDepth 100000 in
theorem vq8_4 : rf_xs (Int32.toNatClampNeg (nI (5 * ((((((((0 + 1) + 1) + 1) + 1) + 1) + 1) + 1) + 1)) + (4 : Int32))) = (0 : Int32) := by decide +kernel
set_option maxRecDepth 100000 in
theorem vxNE : ¬ s_T_module d8_uT27 d8_F28 (2 : Int32) (5 : Int32) = (s_M_module d8_uMn49 d8_a10n26 d8_a11n27 d8_a12n28 d8_a13n29 d8_a16n31 d8_a17n32 (2 : Int32) (5 : Int32)).1 := by decide +kernel
set_option maxRecDepth 100000 in
theorem vq7_0 : rf_xs (Int32.toNatClampNeg (nI (5 * (((((((0 + 1) + 1) + 1) + 1) + 1) + 1) + 1)))) = (2 : Int32) := by decide +kernel
set_option maxRecDepth 100000 in
theorem vq7_1 : rf_xs (Int32.toNatClampNeg (nI (5 * (((((((0 + 1) + 1) + 1) + 1) + 1) + 1) + 1)) + (1 : Int32))) = (1 : Int32) := by decide +kernel
set_option maxRecDepth 100000 in
theorem vq7_2 : rf_xs (Int32.toNatClampNeg (nI (5 * (((((((0 + 1) + 1) + 1) + 1) + 1) + 1) + 1)) + (2 : Int32))) = (0 : Int32) := by decide +kernel
set_option maxRecDepth 100000 in
theorem vq7_3 : rf_xs (Int32.toNatClampNeg (nI (5 * (((((((0 + 1) + 1) + 1) + 1) + 1) + 1) + 1)) + (3 : Int32))) = (0 : Int32) := by decide +kernel
set_option maxRecDepth 100000 in
theorem vq7_4 : rf_xs (Int32.toNatClampNeg (nI (5 * (((((((0 + 1) + 1) + 1) + 1) + 1) + 1) + 1)) + (4 : Int32))) = (0 : Int32) := by decide +kernel
set_option maxRecDepth 100000 in
theorem vx7 : ¬ d2_uT25 5 = 0 := by decide +kernel
set_option maxRecDepth 100000 in
theorem vq6_0 : rf_xs (Int32.toNatClampNeg (nI (5 * ((((((0 + 1) + 1) + 1) + 1) + 1) + 1)))) = (6 : Int32) := by decide +kernel
set_option maxRecDepth 100000 in
theorem vq6_1 : rf_xs (Int32.toNatClampNeg (nI (5 * ((((((0 + 1) + 1) + 1) + 1) + 1) + 1)) + (1 : Int32))) = (1 : Int32) := by decide +kernel
set_option maxRecDepth 100000 in
theorem vq6_2 : rf_xs (Int32.toNatClampNeg (nI (5 * ((((((0 + 1) + 1) + 1) + 1) + 1) + 1)) + (2 : Int32))) = (1 : Int32) := by decide +kernel
set_option maxRecDepth 100000 in
theorem vq6_3 : rf_xs (Int32.toNatClampNeg (nI (5 * ((((((0 + 1) + 1) + 1) + 1) + 1) + 1)) + (3 : Int32))) = (1 : Int32) := by decide +kernel
set_option maxRecDepth 100000 in
theorem vq6_4 : rf_xs (Int32.toNatClampNeg (nI (5 * ((((((0 + 1) + 1) + 1) + 1) + 1) + 1)) + (4 : Int32))) = (1 : Int32) := by decide +kernel
set_option maxRecDepth 100000 in
theorem vx6 : (hmB d2_uT25 1 && hbB 1 1 1) = true := by decide +kernel
set_option maxRecDepth 100000 in
theorem vq5_0 : rf_xs (Int32.toNatClampNeg (nI (5 * (((((0 + 1) + 1) + 1) + 1) + 1)))) = (6 : Int32) := by decide +kernel
set_option maxRecDepth 100000 in
theorem vq5_1 : rf_xs (Int32.toNatClampNeg (nI (5 * (((((0 + 1) + 1) + 1) + 1) + 1)) + (1 : Int32))) = (1 : Int32) := by decide +kernel
set_option maxRecDepth 100000 in
theorem vq5_2 : rf_xs (Int32.toNatClampNeg (nI (5 * (((((0 + 1) + 1) + 1) + 1) + 1)) + (2 : Int32))) = (1 : Int32) := by decide +kernel
set_option maxRecDepth 100000 in
theorem vq5_3 : rf_xs (Int32.toNatClampNeg (nI (5 * (((((0 + 1) + 1) + 1) + 1) + 1)) + (3 : Int32))) = (1 : Int32) := by decide +kernel
set_option maxRecDepth 100000 in
theorem vq5_4 : rf_xs (Int32.toNatClampNeg (nI (5 * (((((0 + 1) + 1) + 1) + 1) + 1)) + (4 : Int32))) = (0 : Int32) := by decide +kernel
set_option maxRecDepth 100000 in
theorem vx5 : (hmB d2_uT25 1 && hbB 1 1 0) = true := by decide +kernel
set_option maxRecDepth 100000 in
theorem vq4_0 : rf_xs (Int32.toNatClampNeg (nI (5 * ((((0 + 1) + 1) + 1) + 1)))) = (6 : Int32) := by decide +kernel
set_option maxRecDepth 100000 in
theorem vq4_1 : rf_xs (Int32.toNatClampNeg (nI (5 * ((((0 + 1) + 1) + 1) + 1)) + (1 : Int32))) = (0 : Int32) := by decide +kernel
set_option maxRecDepth 100000 in
theorem vq4_2 : rf_xs (Int32.toNatClampNeg (nI (5 * ((((0 + 1) + 1) + 1) + 1)) + (2 : Int32))) = (1 : Int32) := by decide +kernel
set_option maxRecDepth 100000 in
theorem vq4_3 : rf_xs (Int32.toNatClampNeg (nI (5 * ((((0 + 1) + 1) + 1) + 1)) + (3 : Int32))) = (1 : Int32) := by decide +kernel
set_option maxRecDepth 100000 in
theorem vq4_4 : rf_xs (Int32.toNatClampNeg (nI (5 * ((((0 + 1) + 1) + 1) + 1)) + (4 : Int32))) = (1 : Int32) := by decide +kernel
set_option maxRecDepth 100000 in
theorem vx4 : (hmB d2_uT25 0 && hbB 1 1 1) = true := by decide +kernel
set_option maxRecDepth 100000 in
theorem vq3_0 : rf_xs (Int32.toNatClampNeg (nI (5 * (((0 + 1) + 1) + 1)))) = (6 : Int32) := by decide +kernel
set_option maxRecDepth 100000 in
theorem vq3_1 : rf_xs (Int32.toNatClampNeg (nI (5 * (((0 + 1) + 1) + 1)) + (1 : Int32))) = (0 : Int32) := by decide +kernel
set_option maxRecDepth 100000 in
theorem vq3_2 : rf_xs (Int32.toNatClampNeg (nI (5 * (((0 + 1) + 1) + 1)) + (2 : Int32))) = (1 : Int32) := by decide +kernel
set_option maxRecDepth 100000 in
theorem vq3_3 : rf_xs (Int32.toNatClampNeg (nI (5 * (((0 + 1) + 1) + 1)) + (3 : Int32))) = (1 : Int32) := by decide +kernel
set_option maxRecDepth 100000 in
theorem vq3_4 : rf_xs (Int32.toNatClampNeg (nI (5 * (((0 + 1) + 1) + 1)) + (4 : Int32))) = (0 : Int32) := by decide +kernel
set_option maxRecDepth 100000 in
theorem vx3 : (hmB d2_uT25 0 && hbB 1 1 0) = true := by decide +kernel
set_option maxRecDepth 100000 in
theorem vq2_0 : rf_xs (Int32.toNatClampNeg (nI (5 * ((0 + 1) + 1)))) = (6 : Int32) := by decide +kernel
set_option maxRecDepth 100000 in
theorem vq2_1 : rf_xs (Int32.toNatClampNeg (nI (5 * ((0 + 1) + 1)) + (1 : Int32))) = (2 : Int32) := by decide +kernel
set_option maxRecDepth 100000 in
theorem vq2_2 : rf_xs (Int32.toNatClampNeg (nI (5 * ((0 + 1) + 1)) + (2 : Int32))) = (0 : Int32) := by decide +kernel
set_option maxRecDepth 100000 in
theorem vq2_3 : rf_xs (Int32.toNatClampNeg (nI (5 * ((0 + 1) + 1)) + (3 : Int32))) = (0 : Int32) := by decide +kernel
set_option maxRecDepth 100000 in
theorem vq2_4 : rf_xs (Int32.toNatClampNeg (nI (5 * ((0 + 1) + 1)) + (4 : Int32))) = (0 : Int32) := by decide +kernel
set_option maxRecDepth 100000 in
theorem vx2 : (hmB d2_uT25 2 && hbB 0 0 0) = true := by decide +kernel
set_option maxRecDepth 100000 in
theorem vq1_0 : rf_xs (Int32.toNatClampNeg (nI (5 * (0 + 1)))) = (1 : Int32) := by decide +kernel
set_option maxRecDepth 100000 in
theorem vq1_1 : rf_xs (Int32.toNatClampNeg (nI (5 * (0 + 1)) + (1 : Int32))) = (0 : Int32) := by decide +kernel
set_option maxRecDepth 100000 in
theorem vq1_2 : rf_xs (Int32.toNatClampNeg (nI (5 * (0 + 1)) + (2 : Int32))) = (0 : Int32) := by decide +kernel
set_option maxRecDepth 100000 in
theorem vq1_3 : rf_xs (Int32.toNatClampNeg (nI (5 * (0 + 1)) + (3 : Int32))) = (0 : Int32) := by decide +kernel
set_option maxRecDepth 100000 in
theorem vq1_4 : rf_xs (Int32.toNatClampNeg (nI (5 * (0 + 1)) + (4 : Int32))) = (0 : Int32) := by decide +kernel
set_option maxRecDepth 100000 in
theorem vx1 : crB d1_cn29 d1_f210 = true := by decide +kernel
set_option maxRecDepth 100000 in
theorem vq0_0 : rf_xs (Int32.toNatClampNeg (nI (5 * 0))) = (0 : Int32) := by decide +kernel
set_option maxRecDepth 100000 in
theorem vq0_1 : rf_xs (Int32.toNatClampNeg (nI (5 * 0) + (1 : Int32))) = (0 : Int32) := by decide +kernel
set_option maxRecDepth 100000 in
theorem vq0_2 : rf_xs (Int32.toNatClampNeg (nI (5 * 0) + (2 : Int32))) = (167772160 : Int32) := by decide +kernel
set_option maxRecDepth 100000 in
theorem vq0_3 : rf_xs (Int32.toNatClampNeg (nI (5 * 0) + (3 : Int32))) = (0 : Int32) := by decide +kernel
set_option maxRecDepth 100000 in
theorem vq0_4 : rf_xs (Int32.toNatClampNeg (nI (5 * 0) + (4 : Int32))) = (0 : Int32) := by decide +kernel
