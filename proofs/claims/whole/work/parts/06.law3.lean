theorem zcl_12 : ((zt_215.drop 480).take 40).all (z_ckE 215) = true := by decide +kernel
theorem zcl_13 : ((zt_215.drop 520).take 40).all (z_ckE 215) = true := by decide +kernel
theorem zcl_14 : ((zt_215.drop 560).take 40).all (z_ckE 215) = true := by decide +kernel
theorem zcl_15 : ((zt_215.drop 600).take 40).all (z_ckE 215) = true := by decide +kernel
