theorem zcl_0 : ((zt_216.drop 0).take 40).all (z_ckE 216) = true := by decide +kernel
theorem zcl_1 : ((zt_216.drop 40).take 40).all (z_ckE 216) = true := by decide +kernel
theorem zcl_2 : ((zt_216.drop 80).take 40).all (z_ckE 216) = true := by decide +kernel
theorem zcl_3 : ((zt_216.drop 120).take 40).all (z_ckE 216) = true := by decide +kernel
