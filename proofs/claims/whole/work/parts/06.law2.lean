theorem zcl_8 : ((zt_215.drop 320).take 40).all (z_ckE 215) = true := by decide +kernel
theorem zcl_9 : ((zt_215.drop 360).take 40).all (z_ckE 215) = true := by decide +kernel
theorem zcl_10 : ((zt_215.drop 400).take 40).all (z_ckE 215) = true := by decide +kernel
theorem zcl_11 : ((zt_215.drop 440).take 40).all (z_ckE 215) = true := by decide +kernel
