theorem zcl_12 : ((zt_216.drop 480).take 40).all (z_ckE 216) = true := by decide +kernel
theorem zcl_13 : ((zt_216.drop 520).take 40).all (z_ckE 216) = true := by decide +kernel
theorem zcl_14 : ((zt_216.drop 560).take 40).all (z_ckE 216) = true := by decide +kernel
theorem zcl_15 : ((zt_216.drop 600).take 40).all (z_ckE 216) = true := by decide +kernel
