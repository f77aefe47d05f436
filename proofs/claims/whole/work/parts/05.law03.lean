theorem fs_ckL_168 : ((fs_t_283.drop 168).take 14).all (fs_ckB 283) = true := by decide +kernel
theorem fs_ckL_182 : ((fs_t_283.drop 182).take 14).all (fs_ckB 283) = true := by decide +kernel
theorem fs_ckL_196 : ((fs_t_283.drop 196).take 14).all (fs_ckB 283) = true := by decide +kernel
theorem fs_ckL_210 : ((fs_t_283.drop 210).take 14).all (fs_ckB 283) = true := by decide +kernel
