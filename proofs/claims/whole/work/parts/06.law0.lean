theorem zcl_0 : ((zt_215.drop 0).take 40).all (z_ckE 215) = true := by decide +kernel
theorem zcl_1 : ((zt_215.drop 40).take 40).all (z_ckE 215) = true := by decide +kernel
theorem zcl_2 : ((zt_215.drop 80).take 40).all (z_ckE 215) = true := by decide +kernel
theorem zcl_3 : ((zt_215.drop 120).take 40).all (z_ckE 215) = true := by decide +kernel
