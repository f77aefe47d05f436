theorem fs_ckL_224 : ((fs_t_283.drop 224).take 7).all (fs_ckB 283) = true := by decide +kernel
