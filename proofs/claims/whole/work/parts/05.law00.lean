def fs_ckB (mid : Nat) (b : fs_B) : Bool := fs_cks (fs_me mid).1.cls (fs_me mid).2.1 b.1 b.2.1 b.2.2.1 && fs_ckt (fs_me mid).1.cls (fs_me mid).2.1 (fs_me mid).2.2.2.1 b.2.2.1 b.2.2.2
theorem fs_ckL_0 : ((fs_t_283.drop 0).take 14).all (fs_ckB 283) = true := by decide +kernel
theorem fs_ckL_14 : ((fs_t_283.drop 14).take 14).all (fs_ckB 283) = true := by decide +kernel
theorem fs_ckL_28 : ((fs_t_283.drop 28).take 14).all (fs_ckB 283) = true := by decide +kernel
theorem fs_ckL_42 : ((fs_t_283.drop 42).take 14).all (fs_ckB 283) = true := by decide +kernel
