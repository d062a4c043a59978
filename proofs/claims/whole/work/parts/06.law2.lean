theorem zcl_8 : ((zt_216.drop 320).take 40).all (z_ckE 216) = true := by decide +kernel
theorem zcl_9 : ((zt_216.drop 360).take 40).all (z_ckE 216) = true := by decide +kernel
theorem zcl_10 : ((zt_216.drop 400).take 40).all (z_ckE 216) = true := by decide +kernel
theorem zcl_11 : ((zt_216.drop 440).take 40).all (z_ckE 216) = true := by decide +kernel
