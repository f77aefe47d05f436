theorem fs_ckL_56 : ((fs_t_283.drop 56).take 14).all (fs_ckB 283) = true := by decide +kernel
theorem fs_ckL_70 : ((fs_t_283.drop 70).take 14).all (fs_ckB 283) = true := by decide +kernel
theorem fs_ckL_84 : ((fs_t_283.drop 84).take 14).all (fs_ckB 283) = true := by decide +kernel
theorem fs_ckL_98 : ((fs_t_283.drop 98).take 14).all (fs_ckB 283) = true := by decide +kernel
