theorem fs_cut {α : Type} {f : α → Bool} {l : List α} {n : Nat} (h1 : (l.take n).all f = true) (h2 : (l.drop n).all f = true) : l.all f = true := by
  rw [← List.take_append_drop n l, List.all_append, h1, h2]
  rfl
theorem fs_ckL : fs_ckb 283 = true := by
  show (fs_t_283).all (fs_ckB 283) = true
  refine fs_cut (n := 14) fs_ckL_0 ?_
  refine fs_cut (n := 14) fs_ckL_14 ?_
  rw [List.drop_drop]
  refine fs_cut (n := 14) fs_ckL_28 ?_
  rw [List.drop_drop]
  refine fs_cut (n := 14) fs_ckL_42 ?_
  rw [List.drop_drop]
  refine fs_cut (n := 14) fs_ckL_56 ?_
  rw [List.drop_drop]
  refine fs_cut (n := 14) fs_ckL_70 ?_
  rw [List.drop_drop]
  refine fs_cut (n := 14) fs_ckL_84 ?_
  rw [List.drop_drop]
  refine fs_cut (n := 14) fs_ckL_98 ?_
  rw [List.drop_drop]
  refine fs_cut (n := 14) fs_ckL_112 ?_
  rw [List.drop_drop]
  refine fs_cut (n := 14) fs_ckL_126 ?_
  rw [List.drop_drop]
  refine fs_cut (n := 14) fs_ckL_140 ?_
  rw [List.drop_drop]
  refine fs_cut (n := 14) fs_ckL_154 ?_
  rw [List.drop_drop]
  refine fs_cut (n := 14) fs_ckL_168 ?_
  rw [List.drop_drop]
  refine fs_cut (n := 14) fs_ckL_182 ?_
  rw [List.drop_drop]
  refine fs_cut (n := 14) fs_ckL_196 ?_
  rw [List.drop_drop]
  refine fs_cut (n := 14) fs_ckL_210 ?_
  rw [List.drop_drop]
  have h := fs_ckL_224
  rw [List.take_of_length_le (by decide +kernel)] at h
  exact h
set_option maxRecDepth 10000 in
theorem fs_ck {mid : Nat} (h : mid < fs_K) : fs_ckm mid = true := by
  have hh : mid < 283 := h
  have key : ∀ q ∈ List.range 283, fs_ckm q = true := by
    have e : List.range 283 = [0, 1, 2, 3, 4, 5, 6, 7, 8, 9, 10, 11, 12, 13, 14, 15, 16, 17, 18, 19, 20, 21, 22, 23, 24, 25, 26, 27, 28, 29, 30, 31, 32, 33, 34, 35, 36, 37, 38, 39, 40, 41, 42, 43, 44, 45, 46, 47, 48, 49, 50, 51, 52, 53, 54, 55, 56, 57, 58, 59, 60, 61, 62, 63, 64, 65, 66, 67, 68, 69, 70, 71, 72, 73, 74, 75, 76, 77, 78, 79, 80, 81, 82, 83, 84, 85, 86, 87, 88, 89, 90, 91, 92, 93, 94, 95, 96, 97, 98, 99, 100, 101, 102, 103, 104, 105, 106, 107, 108, 109, 110, 111, 112, 113, 114, 115, 116, 117, 118, 119, 120, 121, 122, 123, 124, 125, 126, 127, 128, 129, 130, 131, 132, 133, 134, 135, 136, 137, 138, 139, 140, 141, 142, 143, 144, 145, 146, 147, 148, 149, 150, 151, 152, 153, 154, 155, 156, 157, 158, 159, 160, 161, 162, 163, 164, 165, 166, 167, 168, 169, 170, 171, 172, 173, 174, 175, 176, 177, 178, 179, 180, 181, 182, 183, 184, 185, 186, 187, 188, 189, 190, 191, 192, 193, 194, 195, 196, 197, 198, 199, 200, 201, 202, 203, 204, 205, 206, 207, 208, 209, 210, 211, 212, 213, 214, 215, 216, 217, 218, 219, 220, 221, 222, 223, 224, 225, 226, 227, 228, 229, 230, 231, 232, 233, 234, 235, 236, 237, 238, 239, 240, 241, 242, 243, 244, 245, 246, 247, 248, 249, 250, 251, 252, 253, 254, 255, 256, 257, 258, 259, 260, 261, 262, 263, 264, 265, 266, 267, 268, 269, 270, 271, 272, 273, 274, 275, 276, 277, 278, 279, 280, 281, 282] := by decide +kernel
    rw [e]
    refine List.forall_mem_cons.mpr ⟨fs_ck_0, ?_⟩
    refine List.forall_mem_cons.mpr ⟨fs_ck_1, ?_⟩
    refine List.forall_mem_cons.mpr ⟨fs_ck_2, ?_⟩
    refine List.forall_mem_cons.mpr ⟨fs_ck_3, ?_⟩
    refine List.forall_mem_cons.mpr ⟨fs_ck_4, ?_⟩
    refine List.forall_mem_cons.mpr ⟨fs_ck_5, ?_⟩
    refine List.forall_mem_cons.mpr ⟨fs_ck_6, ?_⟩
    refine List.forall_mem_cons.mpr ⟨fs_ck_7, ?_⟩
    refine List.forall_mem_cons.mpr ⟨fs_ck_8, ?_⟩
    refine List.forall_mem_cons.mpr ⟨fs_ck_9, ?_⟩
    refine List.forall_mem_cons.mpr ⟨fs_ck_10, ?_⟩
    refine List.forall_mem_cons.mpr ⟨fs_ck_11, ?_⟩
    refine List.forall_mem_cons.mpr ⟨fs_ck_12, ?_⟩
    refine List.forall_mem_cons.mpr ⟨fs_ck_13, ?_⟩
    refine List.forall_mem_cons.mpr ⟨fs_ck_14, ?_⟩
    refine List.forall_mem_cons.mpr ⟨fs_ck_15, ?_⟩
    refine List.forall_mem_cons.mpr ⟨fs_ck_16, ?_⟩
    refine List.forall_mem_cons.mpr ⟨fs_ck_17, ?_⟩
    refine List.forall_mem_cons.mpr ⟨fs_ck_18, ?_⟩
    refine List.forall_mem_cons.mpr ⟨fs_ck_19, ?_⟩
    refine List.forall_mem_cons.mpr ⟨fs_ck_20, ?_⟩
    refine List.forall_mem_cons.mpr ⟨fs_ck_21, ?_⟩
    refine List.forall_mem_cons.mpr ⟨fs_ck_22, ?_⟩
    refine List.forall_mem_cons.mpr ⟨fs_ck_23, ?_⟩
    refine List.forall_mem_cons.mpr ⟨fs_ck_24, ?_⟩
    refine List.forall_mem_cons.mpr ⟨fs_ck_25, ?_⟩
    refine List.forall_mem_cons.mpr ⟨fs_ck_26, ?_⟩
    refine List.forall_mem_cons.mpr ⟨fs_ck_27, ?_⟩
    refine List.forall_mem_cons.mpr ⟨fs_ck_28, ?_⟩
    refine List.forall_mem_cons.mpr ⟨fs_ck_29, ?_⟩
    refine List.forall_mem_cons.mpr ⟨fs_ck_30, ?_⟩
    refine List.forall_mem_cons.mpr ⟨fs_ck_31, ?_⟩
    refine List.forall_mem_cons.mpr ⟨fs_ck_32, ?_⟩
    refine List.forall_mem_cons.mpr ⟨fs_ck_33, ?_⟩
    refine List.forall_mem_cons.mpr ⟨fs_ck_34, ?_⟩
    refine List.forall_mem_cons.mpr ⟨fs_ck_35, ?_⟩
    refine List.forall_mem_cons.mpr ⟨fs_ck_36, ?_⟩
    refine List.forall_mem_cons.mpr ⟨fs_ck_37, ?_⟩
    refine List.forall_mem_cons.mpr ⟨fs_ck_38, ?_⟩
    refine List.forall_mem_cons.mpr ⟨fs_ck_39, ?_⟩
    refine List.forall_mem_cons.mpr ⟨fs_ck_40, ?_⟩
    refine List.forall_mem_cons.mpr ⟨fs_ck_41, ?_⟩
    refine List.forall_mem_cons.mpr ⟨fs_ck_42, ?_⟩
    refine List.forall_mem_cons.mpr ⟨fs_ck_43, ?_⟩
    refine List.forall_mem_cons.mpr ⟨fs_ck_44, ?_⟩
    refine List.forall_mem_cons.mpr ⟨fs_ck_45, ?_⟩
    refine List.forall_mem_cons.mpr ⟨fs_ck_46, ?_⟩
    refine List.forall_mem_cons.mpr ⟨fs_ck_47, ?_⟩
    refine List.forall_mem_cons.mpr ⟨fs_ck_48, ?_⟩
    refine List.forall_mem_cons.mpr ⟨fs_ck_49, ?_⟩
    refine List.forall_mem_cons.mpr ⟨fs_ck_50, ?_⟩
    refine List.forall_mem_cons.mpr ⟨fs_ck_51, ?_⟩
    refine List.forall_mem_cons.mpr ⟨fs_ck_52, ?_⟩
    refine List.forall_mem_cons.mpr ⟨fs_ck_53, ?_⟩
    refine List.forall_mem_cons.mpr ⟨fs_ck_54, ?_⟩
    refine List.forall_mem_cons.mpr ⟨fs_ck_55, ?_⟩
    refine List.forall_mem_cons.mpr ⟨fs_ck_56, ?_⟩
    refine List.forall_mem_cons.mpr ⟨fs_ck_57, ?_⟩
    refine List.forall_mem_cons.mpr ⟨fs_ck_58, ?_⟩
    refine List.forall_mem_cons.mpr ⟨fs_ck_59, ?_⟩
    refine List.forall_mem_cons.mpr ⟨fs_ck_60, ?_⟩
    refine List.forall_mem_cons.mpr ⟨fs_ck_61, ?_⟩
    refine List.forall_mem_cons.mpr ⟨fs_ck_62, ?_⟩
    refine List.forall_mem_cons.mpr ⟨fs_ck_63, ?_⟩
    refine List.forall_mem_cons.mpr ⟨fs_ck_64, ?_⟩
    refine List.forall_mem_cons.mpr ⟨fs_ck_65, ?_⟩
    refine List.forall_mem_cons.mpr ⟨fs_ck_66, ?_⟩
    refine List.forall_mem_cons.mpr ⟨fs_ck_67, ?_⟩
    refine List.forall_mem_cons.mpr ⟨fs_ck_68, ?_⟩
    refine List.forall_mem_cons.mpr ⟨fs_ck_69, ?_⟩
    refine List.forall_mem_cons.mpr ⟨fs_ck_70, ?_⟩
    refine List.forall_mem_cons.mpr ⟨fs_ck_71, ?_⟩
    refine List.forall_mem_cons.mpr ⟨fs_ck_72, ?_⟩
    refine List.forall_mem_cons.mpr ⟨fs_ck_73, ?_⟩
    refine List.forall_mem_cons.mpr ⟨fs_ck_74, ?_⟩
    refine List.forall_mem_cons.mpr ⟨fs_ck_75, ?_⟩
    refine List.forall_mem_cons.mpr ⟨fs_ck_76, ?_⟩
    refine List.forall_mem_cons.mpr ⟨fs_ck_77, ?_⟩
    refine List.forall_mem_cons.mpr ⟨fs_ck_78, ?_⟩
    refine List.forall_mem_cons.mpr ⟨fs_ck_79, ?_⟩
    refine List.forall_mem_cons.mpr ⟨fs_ck_80, ?_⟩
    refine List.forall_mem_cons.mpr ⟨fs_ck_81, ?_⟩
    refine List.forall_mem_cons.mpr ⟨fs_ck_82, ?_⟩
    refine List.forall_mem_cons.mpr ⟨fs_ck_83, ?_⟩
    refine List.forall_mem_cons.mpr ⟨fs_ck_84, ?_⟩
    refine List.forall_mem_cons.mpr ⟨fs_ck_85, ?_⟩
    refine List.forall_mem_cons.mpr ⟨fs_ck_86, ?_⟩
    refine List.forall_mem_cons.mpr ⟨fs_ck_87, ?_⟩
    refine List.forall_mem_cons.mpr ⟨fs_ck_88, ?_⟩
    refine List.forall_mem_cons.mpr ⟨fs_ck_89, ?_⟩
    refine List.forall_mem_cons.mpr ⟨fs_ck_90, ?_⟩
    refine List.forall_mem_cons.mpr ⟨fs_ck_91, ?_⟩
    refine List.forall_mem_cons.mpr ⟨fs_ck_92, ?_⟩
    refine List.forall_mem_cons.mpr ⟨fs_ck_93, ?_⟩
    refine List.forall_mem_cons.mpr ⟨fs_ck_94, ?_⟩
    refine List.forall_mem_cons.mpr ⟨fs_ck_95, ?_⟩
    refine List.forall_mem_cons.mpr ⟨fs_ck_96, ?_⟩
    refine List.forall_mem_cons.mpr ⟨fs_ck_97, ?_⟩
    refine List.forall_mem_cons.mpr ⟨fs_ck_98, ?_⟩
    refine List.forall_mem_cons.mpr ⟨fs_ck_99, ?_⟩
    refine List.forall_mem_cons.mpr ⟨fs_ck_100, ?_⟩
    refine List.forall_mem_cons.mpr ⟨fs_ck_101, ?_⟩
    refine List.forall_mem_cons.mpr ⟨fs_ck_102, ?_⟩
    refine List.forall_mem_cons.mpr ⟨fs_ck_103, ?_⟩
    refine List.forall_mem_cons.mpr ⟨fs_ck_104, ?_⟩
    refine List.forall_mem_cons.mpr ⟨fs_ck_105, ?_⟩
    refine List.forall_mem_cons.mpr ⟨fs_ck_106, ?_⟩
    refine List.forall_mem_cons.mpr ⟨fs_ck_107, ?_⟩
    refine List.forall_mem_cons.mpr ⟨fs_ck_108, ?_⟩
    refine List.forall_mem_cons.mpr ⟨fs_ck_109, ?_⟩
    refine List.forall_mem_cons.mpr ⟨fs_ck_110, ?_⟩
    refine List.forall_mem_cons.mpr ⟨fs_ck_111, ?_⟩
    refine List.forall_mem_cons.mpr ⟨fs_ck_112, ?_⟩
    refine List.forall_mem_cons.mpr ⟨fs_ck_113, ?_⟩
    refine List.forall_mem_cons.mpr ⟨fs_ck_114, ?_⟩
    refine List.forall_mem_cons.mpr ⟨fs_ck_115, ?_⟩
    refine List.forall_mem_cons.mpr ⟨fs_ck_116, ?_⟩
    refine List.forall_mem_cons.mpr ⟨fs_ck_117, ?_⟩
    refine List.forall_mem_cons.mpr ⟨fs_ck_118, ?_⟩
    refine List.forall_mem_cons.mpr ⟨fs_ck_119, ?_⟩
    refine List.forall_mem_cons.mpr ⟨fs_ck_120, ?_⟩
    refine List.forall_mem_cons.mpr ⟨fs_ck_121, ?_⟩
    refine List.forall_mem_cons.mpr ⟨fs_ck_122, ?_⟩
    refine List.forall_mem_cons.mpr ⟨fs_ck_123, ?_⟩
    refine List.forall_mem_cons.mpr ⟨fs_ck_124, ?_⟩
    refine List.forall_mem_cons.mpr ⟨fs_ck_125, ?_⟩
    refine List.forall_mem_cons.mpr ⟨fs_ck_126, ?_⟩
    refine List.forall_mem_cons.mpr ⟨fs_ck_127, ?_⟩
    refine List.forall_mem_cons.mpr ⟨fs_ck_128, ?_⟩
    refine List.forall_mem_cons.mpr ⟨fs_ck_129, ?_⟩
    refine List.forall_mem_cons.mpr ⟨fs_ck_130, ?_⟩
    refine List.forall_mem_cons.mpr ⟨fs_ck_131, ?_⟩
    refine List.forall_mem_cons.mpr ⟨fs_ck_132, ?_⟩
    refine List.forall_mem_cons.mpr ⟨fs_ck_133, ?_⟩
    refine List.forall_mem_cons.mpr ⟨fs_ck_134, ?_⟩
    refine List.forall_mem_cons.mpr ⟨fs_ck_135, ?_⟩
    refine List.forall_mem_cons.mpr ⟨fs_ck_136, ?_⟩
    refine List.forall_mem_cons.mpr ⟨fs_ck_137, ?_⟩
    refine List.forall_mem_cons.mpr ⟨fs_ck_138, ?_⟩
    refine List.forall_mem_cons.mpr ⟨fs_ck_139, ?_⟩
    refine List.forall_mem_cons.mpr ⟨fs_ck_140, ?_⟩
    refine List.forall_mem_cons.mpr ⟨fs_ck_141, ?_⟩
    refine List.forall_mem_cons.mpr ⟨fs_ck_142, ?_⟩
    refine List.forall_mem_cons.mpr ⟨fs_ck_143, ?_⟩
    refine List.forall_mem_cons.mpr ⟨fs_ck_144, ?_⟩
    refine List.forall_mem_cons.mpr ⟨fs_ck_145, ?_⟩
    refine List.forall_mem_cons.mpr ⟨fs_ck_146, ?_⟩
    refine List.forall_mem_cons.mpr ⟨fs_ck_147, ?_⟩
    refine List.forall_mem_cons.mpr ⟨fs_ck_148, ?_⟩
    refine List.forall_mem_cons.mpr ⟨fs_ck_149, ?_⟩
    refine List.forall_mem_cons.mpr ⟨fs_ck_150, ?_⟩
    refine List.forall_mem_cons.mpr ⟨fs_ck_151, ?_⟩
    refine List.forall_mem_cons.mpr ⟨fs_ck_152, ?_⟩
    refine List.forall_mem_cons.mpr ⟨fs_ck_153, ?_⟩
    refine List.forall_mem_cons.mpr ⟨fs_ck_154, ?_⟩
    refine List.forall_mem_cons.mpr ⟨fs_ck_155, ?_⟩
    refine List.forall_mem_cons.mpr ⟨fs_ck_156, ?_⟩
    refine List.forall_mem_cons.mpr ⟨fs_ck_157, ?_⟩
    refine List.forall_mem_cons.mpr ⟨fs_ck_158, ?_⟩
    refine List.forall_mem_cons.mpr ⟨fs_ck_159, ?_⟩
    refine List.forall_mem_cons.mpr ⟨fs_ck_160, ?_⟩
    refine List.forall_mem_cons.mpr ⟨fs_ck_161, ?_⟩
    refine List.forall_mem_cons.mpr ⟨fs_ck_162, ?_⟩
    refine List.forall_mem_cons.mpr ⟨fs_ck_163, ?_⟩
    refine List.forall_mem_cons.mpr ⟨fs_ck_164, ?_⟩
    refine List.forall_mem_cons.mpr ⟨fs_ck_165, ?_⟩
    refine List.forall_mem_cons.mpr ⟨fs_ck_166, ?_⟩
    refine List.forall_mem_cons.mpr ⟨fs_ck_167, ?_⟩
    refine List.forall_mem_cons.mpr ⟨fs_ck_168, ?_⟩
    refine List.forall_mem_cons.mpr ⟨fs_ck_169, ?_⟩
    refine List.forall_mem_cons.mpr ⟨fs_ck_170, ?_⟩
    refine List.forall_mem_cons.mpr ⟨fs_ck_171, ?_⟩
    refine List.forall_mem_cons.mpr ⟨fs_ck_172, ?_⟩
    refine List.forall_mem_cons.mpr ⟨fs_ck_173, ?_⟩
    refine List.forall_mem_cons.mpr ⟨fs_ck_174, ?_⟩
    refine List.forall_mem_cons.mpr ⟨fs_ck_175, ?_⟩
    refine List.forall_mem_cons.mpr ⟨fs_ck_176, ?_⟩
    refine List.forall_mem_cons.mpr ⟨fs_ck_177, ?_⟩
    refine List.forall_mem_cons.mpr ⟨fs_ck_178, ?_⟩
    refine List.forall_mem_cons.mpr ⟨fs_ck_179, ?_⟩
    refine List.forall_mem_cons.mpr ⟨fs_ck_180, ?_⟩
    refine List.forall_mem_cons.mpr ⟨fs_ck_181, ?_⟩
    refine List.forall_mem_cons.mpr ⟨fs_ck_182, ?_⟩
    refine List.forall_mem_cons.mpr ⟨fs_ck_183, ?_⟩
    refine List.forall_mem_cons.mpr ⟨fs_ck_184, ?_⟩
    refine List.forall_mem_cons.mpr ⟨fs_ck_185, ?_⟩
    refine List.forall_mem_cons.mpr ⟨fs_ck_186, ?_⟩
    refine List.forall_mem_cons.mpr ⟨fs_ck_187, ?_⟩
    refine List.forall_mem_cons.mpr ⟨fs_ck_188, ?_⟩
    refine List.forall_mem_cons.mpr ⟨fs_ck_189, ?_⟩
    refine List.forall_mem_cons.mpr ⟨fs_ck_190, ?_⟩
    refine List.forall_mem_cons.mpr ⟨fs_ck_191, ?_⟩
    refine List.forall_mem_cons.mpr ⟨fs_ck_192, ?_⟩
    refine List.forall_mem_cons.mpr ⟨fs_ck_193, ?_⟩
    refine List.forall_mem_cons.mpr ⟨fs_ck_194, ?_⟩
    refine List.forall_mem_cons.mpr ⟨fs_ck_195, ?_⟩
    refine List.forall_mem_cons.mpr ⟨fs_ck_196, ?_⟩
    refine List.forall_mem_cons.mpr ⟨fs_ck_197, ?_⟩
    refine List.forall_mem_cons.mpr ⟨fs_ck_198, ?_⟩
    refine List.forall_mem_cons.mpr ⟨fs_ck_199, ?_⟩
    refine List.forall_mem_cons.mpr ⟨fs_ck_200, ?_⟩
    refine List.forall_mem_cons.mpr ⟨fs_ck_201, ?_⟩
    refine List.forall_mem_cons.mpr ⟨fs_ck_202, ?_⟩
    refine List.forall_mem_cons.mpr ⟨fs_ck_203, ?_⟩
    refine List.forall_mem_cons.mpr ⟨fs_ck_204, ?_⟩
    refine List.forall_mem_cons.mpr ⟨fs_ck_205, ?_⟩
    refine List.forall_mem_cons.mpr ⟨fs_ck_206, ?_⟩
    refine List.forall_mem_cons.mpr ⟨fs_ck_207, ?_⟩
    refine List.forall_mem_cons.mpr ⟨fs_ck_208, ?_⟩
    refine List.forall_mem_cons.mpr ⟨fs_ck_209, ?_⟩
    refine List.forall_mem_cons.mpr ⟨fs_ck_210, ?_⟩
    refine List.forall_mem_cons.mpr ⟨fs_ck_211, ?_⟩
    refine List.forall_mem_cons.mpr ⟨fs_ck_212, ?_⟩
    refine List.forall_mem_cons.mpr ⟨fs_ck_213, ?_⟩
    refine List.forall_mem_cons.mpr ⟨fs_ck_214, ?_⟩
    refine List.forall_mem_cons.mpr ⟨fs_ck_215, ?_⟩
    refine List.forall_mem_cons.mpr ⟨fs_ck_216, ?_⟩
    refine List.forall_mem_cons.mpr ⟨fs_ck_217, ?_⟩
    refine List.forall_mem_cons.mpr ⟨fs_ck_218, ?_⟩
    refine List.forall_mem_cons.mpr ⟨fs_ck_219, ?_⟩
    refine List.forall_mem_cons.mpr ⟨fs_ck_220, ?_⟩
    refine List.forall_mem_cons.mpr ⟨fs_ck_221, ?_⟩
    refine List.forall_mem_cons.mpr ⟨fs_ck_222, ?_⟩
    refine List.forall_mem_cons.mpr ⟨fs_ck_223, ?_⟩
    refine List.forall_mem_cons.mpr ⟨fs_ck_224, ?_⟩
    refine List.forall_mem_cons.mpr ⟨fs_ck_225, ?_⟩
    refine List.forall_mem_cons.mpr ⟨fs_ck_226, ?_⟩
    refine List.forall_mem_cons.mpr ⟨fs_ck_227, ?_⟩
    refine List.forall_mem_cons.mpr ⟨fs_ck_228, ?_⟩
    refine List.forall_mem_cons.mpr ⟨fs_ck_229, ?_⟩
    refine List.forall_mem_cons.mpr ⟨fs_ck_230, ?_⟩
    refine List.forall_mem_cons.mpr ⟨fs_ck_231, ?_⟩
    refine List.forall_mem_cons.mpr ⟨fs_ck_232, ?_⟩
    refine List.forall_mem_cons.mpr ⟨fs_ck_233, ?_⟩
    refine List.forall_mem_cons.mpr ⟨fs_ck_234, ?_⟩
    refine List.forall_mem_cons.mpr ⟨fs_ck_235, ?_⟩
    refine List.forall_mem_cons.mpr ⟨fs_ck_236, ?_⟩
    refine List.forall_mem_cons.mpr ⟨fs_ck_237, ?_⟩
    refine List.forall_mem_cons.mpr ⟨fs_ck_238, ?_⟩
    refine List.forall_mem_cons.mpr ⟨fs_ck_239, ?_⟩
    refine List.forall_mem_cons.mpr ⟨fs_ck_240, ?_⟩
    refine List.forall_mem_cons.mpr ⟨fs_ck_241, ?_⟩
    refine List.forall_mem_cons.mpr ⟨fs_ck_242, ?_⟩
    refine List.forall_mem_cons.mpr ⟨fs_ck_243, ?_⟩
    refine List.forall_mem_cons.mpr ⟨fs_ck_244, ?_⟩
    refine List.forall_mem_cons.mpr ⟨fs_ck_245, ?_⟩
    refine List.forall_mem_cons.mpr ⟨fs_ck_246, ?_⟩
    refine List.forall_mem_cons.mpr ⟨fs_ck_247, ?_⟩
    refine List.forall_mem_cons.mpr ⟨fs_ck_248, ?_⟩
    refine List.forall_mem_cons.mpr ⟨fs_ck_249, ?_⟩
    refine List.forall_mem_cons.mpr ⟨fs_ck_250, ?_⟩
    refine List.forall_mem_cons.mpr ⟨fs_ck_251, ?_⟩
    refine List.forall_mem_cons.mpr ⟨fs_ck_252, ?_⟩
    refine List.forall_mem_cons.mpr ⟨fs_ck_253, ?_⟩
    refine List.forall_mem_cons.mpr ⟨fs_ck_254, ?_⟩
    refine List.forall_mem_cons.mpr ⟨fs_ck_255, ?_⟩
    refine List.forall_mem_cons.mpr ⟨fs_ck_256, ?_⟩
    refine List.forall_mem_cons.mpr ⟨fs_ck_257, ?_⟩
    refine List.forall_mem_cons.mpr ⟨fs_ck_258, ?_⟩
    refine List.forall_mem_cons.mpr ⟨fs_ck_259, ?_⟩
    refine List.forall_mem_cons.mpr ⟨fs_ck_260, ?_⟩
    refine List.forall_mem_cons.mpr ⟨fs_ck_261, ?_⟩
    refine List.forall_mem_cons.mpr ⟨fs_ck_262, ?_⟩
    refine List.forall_mem_cons.mpr ⟨fs_ck_263, ?_⟩
    refine List.forall_mem_cons.mpr ⟨fs_ck_264, ?_⟩
    refine List.forall_mem_cons.mpr ⟨fs_ck_265, ?_⟩
    refine List.forall_mem_cons.mpr ⟨fs_ck_266, ?_⟩
    refine List.forall_mem_cons.mpr ⟨fs_ck_267, ?_⟩
    refine List.forall_mem_cons.mpr ⟨fs_ck_268, ?_⟩
    refine List.forall_mem_cons.mpr ⟨fs_ck_269, ?_⟩
    refine List.forall_mem_cons.mpr ⟨fs_ck_270, ?_⟩
    refine List.forall_mem_cons.mpr ⟨fs_ck_271, ?_⟩
    refine List.forall_mem_cons.mpr ⟨fs_ck_272, ?_⟩
    refine List.forall_mem_cons.mpr ⟨fs_ck_273, ?_⟩
    refine List.forall_mem_cons.mpr ⟨fs_ck_274, ?_⟩
    refine List.forall_mem_cons.mpr ⟨fs_ck_275, ?_⟩
    refine List.forall_mem_cons.mpr ⟨fs_ck_276, ?_⟩
    refine List.forall_mem_cons.mpr ⟨fs_ck_277, ?_⟩
    refine List.forall_mem_cons.mpr ⟨fs_ck_278, ?_⟩
    refine List.forall_mem_cons.mpr ⟨fs_ck_279, ?_⟩
    refine List.forall_mem_cons.mpr ⟨fs_ck_280, ?_⟩
    refine List.forall_mem_cons.mpr ⟨fs_ck_281, ?_⟩
    refine List.forall_mem_cons.mpr ⟨fs_ck_282, ?_⟩
    exact fun q h => absurd h List.not_mem_nil
  exact key mid (List.mem_range.mpr hh)
