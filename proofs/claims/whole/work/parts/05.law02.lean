theorem fs_ckL_112 : ((fs_t_283.drop 112).take 14).all (fs_ckB 283) = true := by decide +kernel
theorem fs_ckL_126 : ((fs_t_283.drop 126).take 14).all (fs_ckB 283) = true := by decide +kernel
theorem fs_ckL_140 : ((fs_t_283.drop 140).take 14).all (fs_ckB 283) = true := by decide +kernel
theorem fs_ckL_154 : ((fs_t_283.drop 154).take 14).all (fs_ckB 283) = true := by decide +kernel
