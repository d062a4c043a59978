theorem zcl_4 : ((zt_215.drop 160).take 40).all (z_ckE 215) = true := by decide +kernel
theorem zcl_5 : ((zt_215.drop 200).take 40).all (z_ckE 215) = true := by decide +kernel
theorem zcl_6 : ((zt_215.drop 240).take 40).all (z_ckE 215) = true := by decide +kernel
theorem zcl_7 : ((zt_215.drop 280).take 40).all (z_ckE 215) = true := by decide +kernel
