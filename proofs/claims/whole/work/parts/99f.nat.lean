abbrev ny_len : MethodName := ⟨"java/lang/String", "length", "()I"⟩
theorem nw_c_len : (.code ny_len prog_13_method_54_code 1 (some .int) : Jvm.Cond) ∈ fs_good := fs_ok_mem (p := 388) (by decide +kernel)
theorem nd_len_0 : decode prog_13_method_54_code 0 = .ok (.aload_n 0, 1) := by decide +kernel
theorem nd_len_1 : decode prog_13_method_54_code 1 = .ok (.getfield 9, 3) := by decide +kernel
theorem nd_len_4 : decode prog_13_method_54_code 4 = .ok (.arraylength, 1) := by decide +kernel
theorem nd_len_5 : decode prog_13_method_54_code 5 = .ok (.aload_n 0, 1) := by decide +kernel
theorem nd_len_6 : decode prog_13_method_54_code 6 = .ok (.invokevirtual 335, 3) := by decide +kernel
theorem nd_len_9 : decode prog_13_method_54_code 9 = .ok (.ishr, 1) := by decide +kernel
theorem nd_len_10 : decode prog_13_method_54_code 10 = .ok (.ireturn, 1) := by decide +kernel
abbrev ny_cod : MethodName := ⟨"java/lang/String", "coder", "()B"⟩
theorem nw_c_cod : (.code ny_cod prog_13_method_152_code 1 (some .byte) : Jvm.Cond) ∈ fs_good := fs_ok_mem (p := 392) (by decide +kernel)
theorem nd_cod_0 : decode prog_13_method_152_code 0 = .ok (.getstatic 38, 3) := by decide +kernel
theorem nd_cod_3 : decode prog_13_method_152_code 3 = .ok (.ifCond .eq 10, 3) := by decide +kernel
theorem nd_cod_6 : decode prog_13_method_152_code 6 = .ok (.aload_n 0, 1) := by decide +kernel
theorem nd_cod_7 : decode prog_13_method_152_code 7 = .ok (.getfield 15, 3) := by decide +kernel
theorem nd_cod_10 : decode prog_13_method_152_code 10 = .ok (.goto 4, 3) := by decide +kernel
theorem nd_cod_13 : decode prog_13_method_152_code 13 = .ok (.iconst 1, 1) := by decide +kernel
theorem nd_cod_14 : decode prog_13_method_152_code 14 = .ok (.ireturn, 1) := by decide +kernel
abbrev ny_cha : MethodName := ⟨"java/lang/String", "charAt", "(I)C"⟩
theorem nw_c_cha : (.code ny_cha prog_13_method_56_code 2 (some .char) : Jvm.Cond) ∈ fs_good := fs_ok_mem (p := 398) (by decide +kernel)
theorem nd_cha_0 : decode prog_13_method_56_code 0 = .ok (.aload_n 0, 1) := by decide +kernel
theorem nd_cha_1 : decode prog_13_method_56_code 1 = .ok (.invokevirtual 492, 3) := by decide +kernel
theorem nd_cha_4 : decode prog_13_method_56_code 4 = .ok (.ifCond .eq 12, 3) := by decide +kernel
theorem nd_cha_7 : decode prog_13_method_56_code 7 = .ok (.aload_n 0, 1) := by decide +kernel
theorem nd_cha_8 : decode prog_13_method_56_code 8 = .ok (.getfield 9, 3) := by decide +kernel
theorem nd_cha_11 : decode prog_13_method_56_code 11 = .ok (.iload_n 1, 1) := by decide +kernel
theorem nd_cha_12 : decode prog_13_method_56_code 12 = .ok (.invokestatic 495, 3) := by decide +kernel
theorem nd_cha_15 : decode prog_13_method_56_code 15 = .ok (.ireturn, 1) := by decide +kernel
abbrev ny_lat : MethodName := ⟨"java/lang/String", "isLatin1", "()Z"⟩
theorem nw_c_lat : (.code ny_lat prog_13_method_154_code 1 (some .boolean) : Jvm.Cond) ∈ fs_good := fs_ok_mem (p := 402) (by decide +kernel)
theorem nd_lat_0 : decode prog_13_method_154_code 0 = .ok (.getstatic 38, 3) := by decide +kernel
theorem nd_lat_3 : decode prog_13_method_154_code 3 = .ok (.ifCond .eq 14, 3) := by decide +kernel
theorem nd_lat_6 : decode prog_13_method_154_code 6 = .ok (.aload_n 0, 1) := by decide +kernel
theorem nd_lat_7 : decode prog_13_method_154_code 7 = .ok (.getfield 15, 3) := by decide +kernel
theorem nd_lat_10 : decode prog_13_method_154_code 10 = .ok (.ifCond .ne 7, 3) := by decide +kernel
theorem nd_lat_13 : decode prog_13_method_154_code 13 = .ok (.iconst 1, 1) := by decide +kernel
theorem nd_lat_14 : decode prog_13_method_154_code 14 = .ok (.goto 4, 3) := by decide +kernel
theorem nd_lat_17 : decode prog_13_method_154_code 17 = .ok (.iconst 0, 1) := by decide +kernel
theorem nd_lat_18 : decode prog_13_method_154_code 18 = .ok (.ireturn, 1) := by decide +kernel
abbrev ny_ch1 : MethodName := ⟨"java/lang/StringLatin1", "charAt", "([BI)C"⟩
theorem nw_c_ch1 : (.code ny_ch1 prog_14_method_2_code 2 (some .char) : Jvm.Cond) ∈ fs_good := fs_ok_mem (p := 405) (by decide +kernel)
theorem nd_ch1_0 : decode prog_14_method_2_code 0 = .ok (.iload_n 1, 1) := by decide +kernel
theorem nd_ch1_1 : decode prog_14_method_2_code 1 = .ok (.aload_n 0, 1) := by decide +kernel
theorem nd_ch1_2 : decode prog_14_method_2_code 2 = .ok (.arraylength, 1) := by decide +kernel
theorem nd_ch1_3 : decode prog_14_method_2_code 3 = .ok (.invokestatic 9, 3) := by decide +kernel
theorem nd_ch1_6 : decode prog_14_method_2_code 6 = .ok (.aload_n 0, 1) := by decide +kernel
theorem nd_ch1_7 : decode prog_14_method_2_code 7 = .ok (.iload_n 1, 1) := by decide +kernel
theorem nd_ch1_8 : decode prog_14_method_2_code 8 = .ok (.baload, 1) := by decide +kernel
theorem nd_ch1_9 : decode prog_14_method_2_code 9 = .ok (.sipush 255, 3) := by decide +kernel
theorem nd_ch1_12 : decode prog_14_method_2_code 12 = .ok (.iand, 1) := by decide +kernel
theorem nd_ch1_13 : decode prog_14_method_2_code 13 = .ok (.i2c, 1) := by decide +kernel
theorem nd_ch1_14 : decode prog_14_method_2_code 14 = .ok (.ireturn, 1) := by decide +kernel
abbrev ny_chk : MethodName := ⟨"java/lang/String", "checkIndex", "(II)V"⟩
theorem nw_c_chk : (.code ny_chk prog_13_method_155_code 2 (none) : Jvm.Cond) ∈ fs_good := fs_ok_mem (p := 408) (by decide +kernel)
theorem nd_chk_0 : decode prog_13_method_155_code 0 = .ok (.iload_n 0, 1) := by decide +kernel
theorem nd_chk_1 : decode prog_13_method_155_code 1 = .ok (.iload_n 1, 1) := by decide +kernel
theorem nd_chk_2 : decode prog_13_method_155_code 2 = .ok (.getstatic 1053, 3) := by decide +kernel
theorem nd_chk_5 : decode prog_13_method_155_code 5 = .ok (.invokestatic 1059, 3) := by decide +kernel
theorem nd_chk_8 : decode prog_13_method_155_code 8 = .ok (.pop, 1) := by decide +kernel
theorem nd_chk_9 : decode prog_13_method_155_code 9 = .ok (.return_, 1) := by decide +kernel
abbrev ny_pre : MethodName := ⟨"jdk/internal/util/Preconditions", "checkIndex", "(IILjava/util/function/BiFunction;)I"⟩
theorem nw_c_pre : (.code ny_pre prog_16_method_11_code 3 (some .int) : Jvm.Cond) ∈ fs_good := fs_ok_mem (p := 413) (by decide +kernel)
theorem nd_pre_0 : decode prog_16_method_11_code 0 = .ok (.iload_n 0, 1) := by decide +kernel
theorem nd_pre_1 : decode prog_16_method_11_code 1 = .ok (.ifCond .lt 8, 3) := by decide +kernel
theorem nd_pre_4 : decode prog_16_method_11_code 4 = .ok (.iload_n 0, 1) := by decide +kernel
theorem nd_pre_5 : decode prog_16_method_11_code 5 = .ok (.iload_n 1, 1) := by decide +kernel
theorem nd_pre_6 : decode prog_16_method_11_code 6 = .ok (.if_icmp .lt 10, 3) := by decide +kernel
theorem nd_pre_16 : decode prog_16_method_11_code 16 = .ok (.iload_n 0, 1) := by decide +kernel
theorem nd_pre_17 : decode prog_16_method_11_code 17 = .ok (.ireturn, 1) := by decide +kernel
abbrev ny_fbi : MethodName := ⟨"java/lang/Float", "floatToIntBits", "(F)I"⟩
theorem nw_c_fbi : (.code ny_fbi prog_10_method_24_code 1 (some .int) : Jvm.Cond) ∈ fs_good := fs_ok_mem (p := 1564) (by decide +kernel)
theorem nd_fbi_0 : decode prog_10_method_24_code 0 = .ok (.fload_n 0, 1) := by decide +kernel
theorem nd_fbi_1 : decode prog_10_method_24_code 1 = .ok (.invokestatic 59, 3) := by decide +kernel
theorem nd_fbi_4 : decode prog_10_method_24_code 4 = .ok (.ifCond .ne 8, 3) := by decide +kernel
theorem nd_fbi_7 : decode prog_10_method_24_code 7 = .ok (.fload_n 0, 1) := by decide +kernel
theorem nd_fbi_8 : decode prog_10_method_24_code 8 = .ok (.invokestatic 74, 3) := by decide +kernel
theorem nd_fbi_11 : decode prog_10_method_24_code 11 = .ok (.ireturn, 1) := by decide +kernel
abbrev ny_fna : MethodName := ⟨"java/lang/Float", "isNaN", "(F)Z"⟩
theorem nw_c_fna : (.code ny_fna prog_10_method_6_code 1 (some .boolean) : Jvm.Cond) ∈ fs_good := fs_ok_mem (p := 1567) (by decide +kernel)
theorem nd_fna_0 : decode prog_10_method_6_code 0 = .ok (.fload_n 0, 1) := by decide +kernel
theorem nd_fna_1 : decode prog_10_method_6_code 1 = .ok (.fload_n 0, 1) := by decide +kernel
theorem nd_fna_2 : decode prog_10_method_6_code 2 = .ok (.fcmp .l, 1) := by decide +kernel
theorem nd_fna_3 : decode prog_10_method_6_code 3 = .ok (.ifCond .eq 7, 3) := by decide +kernel
theorem nd_fna_6 : decode prog_10_method_6_code 6 = .ok (.iconst 1, 1) := by decide +kernel
theorem nd_fna_7 : decode prog_10_method_6_code 7 = .ok (.goto 4, 3) := by decide +kernel
theorem nd_fna_10 : decode prog_10_method_6_code 10 = .ok (.iconst 0, 1) := by decide +kernel
theorem nd_fna_11 : decode prog_10_method_6_code 11 = .ok (.ireturn, 1) := by decide +kernel
abbrev ny_dbi : MethodName := ⟨"java/lang/Double", "doubleToLongBits", "(D)J"⟩
theorem nw_c_dbi : (.code ny_dbi prog_9_method_23_code 2 (some .long) : Jvm.Cond) ∈ fs_good := fs_ok_mem (p := 1592) (by decide +kernel)
theorem nd_dbi_0 : decode prog_9_method_23_code 0 = .ok (.dload_n 0, 1) := by decide +kernel
theorem nd_dbi_1 : decode prog_9_method_23_code 1 = .ok (.invokestatic 122, 3) := by decide +kernel
theorem nd_dbi_4 : decode prog_9_method_23_code 4 = .ok (.ifCond .ne 8, 3) := by decide +kernel
theorem nd_dbi_7 : decode prog_9_method_23_code 7 = .ok (.dload_n 0, 1) := by decide +kernel
theorem nd_dbi_8 : decode prog_9_method_23_code 8 = .ok (.invokestatic 134, 3) := by decide +kernel
theorem nd_dbi_11 : decode prog_9_method_23_code 11 = .ok (.lreturn, 1) := by decide +kernel
abbrev ny_dna : MethodName := ⟨"java/lang/Double", "isNaN", "(D)Z"⟩
theorem nw_c_dna : (.code ny_dna prog_9_method_6_code 2 (some .boolean) : Jvm.Cond) ∈ fs_good := fs_ok_mem (p := 1595) (by decide +kernel)
theorem nd_dna_0 : decode prog_9_method_6_code 0 = .ok (.dload_n 0, 1) := by decide +kernel
theorem nd_dna_1 : decode prog_9_method_6_code 1 = .ok (.dload_n 0, 1) := by decide +kernel
theorem nd_dna_2 : decode prog_9_method_6_code 2 = .ok (.dcmp .l, 1) := by decide +kernel
theorem nd_dna_3 : decode prog_9_method_6_code 3 = .ok (.ifCond .eq 7, 3) := by decide +kernel
theorem nd_dna_6 : decode prog_9_method_6_code 6 = .ok (.iconst 1, 1) := by decide +kernel
theorem nd_dna_7 : decode prog_9_method_6_code 7 = .ok (.goto 4, 3) := by decide +kernel
theorem nd_dna_10 : decode prog_9_method_6_code 10 = .ok (.iconst 0, 1) := by decide +kernel
theorem nd_dna_11 : decode prog_9_method_6_code 11 = .ok (.ireturn, 1) := by decide +kernel
theorem nw_i_cod : (.instanceMethod ny_cod : Jvm.Cond) ∈ fs_good := fs_ok_mem (p := 390) (by decide +kernel)
theorem nw_s_cod : (.selects "java/lang/String" ny_cod ny_cod : Jvm.Cond) ∈ fs_good := fs_ok_mem (p := 391) (by decide +kernel)
theorem nw_i_lat : (.instanceMethod ny_lat : Jvm.Cond) ∈ fs_good := fs_ok_mem (p := 400) (by decide +kernel)
theorem nw_s_lat : (.selects "java/lang/String" ny_lat ny_lat : Jvm.Cond) ∈ fs_good := fs_ok_mem (p := 401) (by decide +kernel)
theorem nw_i_len : (.instanceMethod ny_len : Jvm.Cond) ∈ fs_good := fs_ok_mem (p := 386) (by decide +kernel)
theorem nw_s_len : (.selects "java/lang/String" ny_len ny_len : Jvm.Cond) ∈ fs_good := fs_ok_mem (p := 387) (by decide +kernel)
theorem nw_i_cha : (.instanceMethod ny_cha : Jvm.Cond) ∈ fs_good := fs_ok_mem (p := 396) (by decide +kernel)
theorem nw_s_cha : (.selects "java/lang/String" ny_cha ny_cha : Jvm.Cond) ∈ fs_good := fs_ok_mem (p := 397) (by decide +kernel)
theorem nw_t_ch1 : (.static ny_ch1 : Jvm.Cond) ∈ fs_good := fs_ok_mem (p := 404) (by decide +kernel)
theorem nw_t_chk : (.static ny_chk : Jvm.Cond) ∈ fs_good := fs_ok_mem (p := 407) (by decide +kernel)
theorem nw_t_pre : (.static ny_pre : Jvm.Cond) ∈ fs_good := fs_ok_mem (p := 412) (by decide +kernel)
theorem nw_t_fbi : (.static ny_fbi : Jvm.Cond) ∈ fs_good := fs_ok_mem (p := 1563) (by decide +kernel)
theorem nw_t_fna : (.static ny_fna : Jvm.Cond) ∈ fs_good := fs_ok_mem (p := 1566) (by decide +kernel)
theorem nw_t_dbi : (.static ny_dbi : Jvm.Cond) ∈ fs_good := fs_ok_mem (p := 1591) (by decide +kernel)
theorem nw_t_dna : (.static ny_dna : Jvm.Cond) ∈ fs_good := fs_ok_mem (p := 1594) (by decide +kernel)
theorem nw_n_S : (.initialized "java/lang/String" : Jvm.Cond) ∈ fs_good := fs_ok_mem (p := 111) (by decide +kernel)
theorem nw_n_L : (.initialized "java/lang/StringLatin1" : Jvm.Cond) ∈ fs_good := fs_ok_mem (p := 112) (by decide +kernel)
theorem nw_n_P : (.initialized "jdk/internal/util/Preconditions" : Jvm.Cond) ∈ fs_good := fs_ok_mem (p := 113) (by decide +kernel)
theorem nw_n_F : (.initialized "java/lang/Float" : Jvm.Cond) ∈ fs_good := fs_ok_mem (p := 117) (by decide +kernel)
theorem nw_n_D : (.initialized "java/lang/Double" : Jvm.Cond) ∈ fs_good := fs_ok_mem (p := 118) (by decide +kernel)
theorem nw_n_M : (.initialized "java/lang/Math" : Jvm.Cond) ∈ fs_good := fs_ok_mem (p := 115) (by decide +kernel)
theorem nw_l_cod : (.methodLink "java/lang/String" 335 ny_cod : Jvm.Cond) ∈ fs_good := fs_ok_mem (p := 389) (by decide +kernel)
theorem nw_l_lat : (.methodLink "java/lang/String" 492 ny_lat : Jvm.Cond) ∈ fs_good := fs_ok_mem (p := 399) (by decide +kernel)
theorem nw_l_ch1 : (.methodLink "java/lang/String" 495 ny_ch1 : Jvm.Cond) ∈ fs_good := fs_ok_mem (p := 403) (by decide +kernel)
theorem nw_l_chk : (.methodLink "java/lang/StringLatin1" 9 ny_chk : Jvm.Cond) ∈ fs_good := fs_ok_mem (p := 406) (by decide +kernel)
theorem nw_l_pre : (.methodLink "java/lang/String" 1059 ny_pre : Jvm.Cond) ∈ fs_good := fs_ok_mem (p := 411) (by decide +kernel)
theorem nw_l_fna : (.methodLink "java/lang/Float" 59 ny_fna : Jvm.Cond) ∈ fs_good := fs_ok_mem (p := 1565) (by decide +kernel)
theorem nw_l_dna : (.methodLink "java/lang/Double" 122 ny_dna : Jvm.Cond) ∈ fs_good := fs_ok_mem (p := 1593) (by decide +kernel)
theorem nw_f_compact : (.fieldLink "java/lang/String" 38 "java/lang/String" "COMPACT_STRINGS" "Z" : Jvm.Cond) ∈ fs_good := fs_ok_mem (p := 393) (by decide +kernel)
theorem nw_f_value : (.fieldLink "java/lang/String" 9 "java/lang/String" "value" "[B" : Jvm.Cond) ∈ fs_good := fs_ok_mem (p := 1725) (by decide +kernel)
theorem nw_f_coder : (.fieldLink "java/lang/String" 15 "java/lang/String" "coder" "B" : Jvm.Cond) ∈ fs_good := fs_ok_mem (p := 1726) (by decide +kernel)
theorem nw_f_fmt : (.fieldLink "java/lang/String" 1053 "jdk/internal/util/Preconditions" "SIOOBE_FORMATTER" "Ljava/util/function/BiFunction;" : Jvm.Cond) ∈ fs_good := fs_ok_mem (p := 409) (by decide +kernel)
theorem nw_rf_l : (.methodLink "java/lang/Float" 74 ⟨"java/lang/Float", "floatToRawIntBits", "(F)I"⟩ : Jvm.Cond) ∈ fs_good := fs_ok_mem (p := 1568) (by decide +kernel)
theorem nw_rf_n : (.native ⟨"java/lang/Float", "floatToRawIntBits", "(F)I"⟩ : Jvm.Cond) ∈ fs_good := fs_ok_mem (p := 1570) (by decide +kernel)
theorem nw_rf_s : (.static ⟨"java/lang/Float", "floatToRawIntBits", "(F)I"⟩ : Jvm.Cond) ∈ fs_good := fs_ok_mem (p := 1569) (by decide +kernel)
theorem nw_rd_l : (.methodLink "java/lang/Double" 134 ⟨"java/lang/Double", "doubleToRawLongBits", "(D)J"⟩ : Jvm.Cond) ∈ fs_good := fs_ok_mem (p := 1596) (by decide +kernel)
theorem nw_rd_n : (.native ⟨"java/lang/Double", "doubleToRawLongBits", "(D)J"⟩ : Jvm.Cond) ∈ fs_good := fs_ok_mem (p := 1598) (by decide +kernel)
theorem nw_rd_s : (.static ⟨"java/lang/Double", "doubleToRawLongBits", "(D)J"⟩ : Jvm.Cond) ∈ fs_good := fs_ok_mem (p := 1597) (by decide +kernel)
theorem nw_mx_s : (.static ⟨"java/lang/Math", "max", "(II)I"⟩ : Jvm.Cond) ∈ fs_good := fs_ok_mem (p := 699) (by decide +kernel)
theorem nw_mx_c : (.code ⟨"java/lang/Math", "max", "(II)I"⟩ prog_12_method_65_code 2 (some .int) : Jvm.Cond) ∈ fs_good := fs_ok_mem (p := 700) (by decide +kernel)
theorem mx_code : prog_12_method_65_code = Lib.Math.max.code := by decide +kernel
theorem nw_mn_s : (.static ⟨"java/lang/Math", "min", "(II)I"⟩ : Jvm.Cond) ∈ fs_good := fs_ok_mem (p := 508) (by decide +kernel)
theorem nw_mn_c : (.code ⟨"java/lang/Math", "min", "(II)I"⟩ prog_12_method_69_code 2 (some .int) : Jvm.Cond) ∈ fs_good := fs_ok_mem (p := 509) (by decide +kernel)
theorem mn_code : prog_12_method_69_code = Lib.Math.min.code := by decide +kernel
/-- the strings' own classes: what their statics hold -/
def fs_Y (o : Nat) (U : State) (H : Heap) : Prop := va_Z "java/lang/String" "COMPACT_STRINGS" "Z" (.int 1) (fun q => o ≤ q) U H ∧ va_Zq "jdk/internal/util/Preconditions" "SIOOBE_FORMATTER" "Ljava/util/function/BiFunction;" (fun q => o ≤ q) U H
def fs_nr (d : Nat) : Room := { frames := d, cells := 0, slots := 0, locals := 39 * d }
section FsNat
variable {dC : Nat → ClassId} {dI : Nat → Nat → Nat} {o : Nat} {sa sv : Nat → Nat} {cA cB : ClassId}
def nPc (M1 : fs_M) (as : List Value) : Array Value → State → Prop := va_Pc as (fun U => va_P (dC, dI) vwCl (fs_ws o cA cB M1) U.heap ∧ fs_X dC dI o sa sv cA cB U ∧ fs_Y o U U.heap)
def nQc (M1 : fs_M) (v : Option Value) : Array Value → State → Outcome → State → Prop := fun _ st0 oc t => oc = .returned v ∧ va_P (dC, dI) vwCl (fs_ws o cA cB M1) t.heap ∧ va_F (fun q => o ≤ q) st0 t
theorem fs_Y.kept {U U' : State} {H H' : Heap} (hvm : U.vm.Alike U'.vm) (h : fs_Y o U H) (hq : ∀ a : Nat, a < H.size → ¬ o ≤ a → H'[a]? = H[a]?) : fs_Y o U' H' := ⟨va_Z.moved hvm (h.1.kept hq), va_Zq.moved hvm (h.2.kept hq)⟩
theorem nPc.bl {M1 : fs_M} {as : List Value} : FrameBlind (nPc (dC := dC) (dI := dI) (o := o) (sa := sa) (sv := sv) (cA := cA) (cB := cB) M1 as) := fun a U g mk h => ⟨h.1, h.2.1, fs_X.blind h.2.2.1 g mk a, h.2.2.2.kept (Vm.Alike.refl _) (fun _ _ _ => rfl)⟩
theorem nm_cod (l : Launch) (M1 : fs_M) {i : Nat} (hi : i < 5) : Met l ny_cod (Cond.code ny_cod prog_13_method_152_code 1 (some .byte) :: fs_good) (fs_nr 0) (nPc (dC := dC) (dI := dI) (o := o) (sa := sa) (sv := sv) (cA := cA) (cB := cB) M1 [.ref (sa i)]) (nQc (dC := dC) (dI := dI) (o := o) (cA := cA) (cB := cB) M1 (some (.int 0))) 0 0 (fun q => o ≤ q) := by
  refine va_MetF (cc := prog_13_method_152_code) (maxL := 1) (ret := (some .byte)) (by decide +kernel) rfl ?_
  intro p e s m args below meth c s₁ B hml hv
  obtain ⟨rfl, hP, hX, hY⟩ := hv
  have hx := B.exec
  have hb := B.bytes
  have hr := B.returns
  have hts0 := atoms_spec (ws := Cond.code ny_cod prog_13_method_152_code 1 (some .byte) :: fs_good) B.pre
  have hts : ∀ w ∈ fs_good, w.before ([.ref (sa i)] : List Value).toArray s = true := fun w hw => hts0 w (List.mem_cons_of_mem _ hw)
  have hown : s.vm.findClass "java/lang/String" = some m.cls := findClass_of_methodNamed B.named
  have hlocks := B.notSynchronized
  have hS : va_S (fun q => o ≤ q) s.heap s.heap [] := va_S.rf
  have hl := lv_entry ([.ref (sa i)]) (n := 1) (Nat.le_of_ble_eq_true rfl)
  rw [lg_entry_eq]
  generalize (lg_sl ([.ref (sa i)]) ++ List.replicate (1 - (lg_sl ([.ref (sa i)])).length) Slot.unset).toArray = ls at hl ⊢
  have hl : lv_has ls 1 [(0, .ref (sa i))] := hl
  refine va_gets hx hb hY.1 hS hown (hts _ nw_f_compact) (fun _ h9 => h9) nd_cod_0 ?_
  refine lv_if_eq hx hb nd_cod_3 (tgt := 13) rfl (fun h => absurd h (by decide)) (fun _ => ?_)
  refine lv_aload_n hx hb nd_cod_6 rfl (lv_at hl 0 rfl) ?_
  refine vk_getf hx hb (hX.2.2.2.1 i hi).2.1 hS hown (hts _ nw_f_coder) (fun _ h9 => h9) nd_cod_7 ?_
  refine lv_goto hx hb nd_cod_10 (tgt := 14) rfl ?_
  exact W.zret hx hb hr rfl (fun t ht hW => ⟨rfl, by rw [ht]; exact hP, hS.F ht⟩) hS.2.2 nd_cod_14

theorem nm_lat (l : Launch) (M1 : fs_M) {i : Nat} (hi : i < 5) : Met l ny_lat (Cond.code ny_lat prog_13_method_154_code 1 (some .boolean) :: fs_good) (fs_nr 0) (nPc (dC := dC) (dI := dI) (o := o) (sa := sa) (sv := sv) (cA := cA) (cB := cB) M1 [.ref (sa i)]) (nQc (dC := dC) (dI := dI) (o := o) (cA := cA) (cB := cB) M1 (some (.int 1))) 0 0 (fun q => o ≤ q) := by
  refine va_MetF (cc := prog_13_method_154_code) (maxL := 1) (ret := (some .boolean)) (by decide +kernel) rfl ?_
  intro p e s m args below meth c s₁ B hml hv
  obtain ⟨rfl, hP, hX, hY⟩ := hv
  have hx := B.exec
  have hb := B.bytes
  have hr := B.returns
  have hts0 := atoms_spec (ws := Cond.code ny_lat prog_13_method_154_code 1 (some .boolean) :: fs_good) B.pre
  have hts : ∀ w ∈ fs_good, w.before ([.ref (sa i)] : List Value).toArray s = true := fun w hw => hts0 w (List.mem_cons_of_mem _ hw)
  have hown : s.vm.findClass "java/lang/String" = some m.cls := findClass_of_methodNamed B.named
  have hlocks := B.notSynchronized
  have hS : va_S (fun q => o ≤ q) s.heap s.heap [] := va_S.rf
  have hl := lv_entry ([.ref (sa i)]) (n := 1) (Nat.le_of_ble_eq_true rfl)
  rw [lg_entry_eq]
  generalize (lg_sl ([.ref (sa i)]) ++ List.replicate (1 - (lg_sl ([.ref (sa i)])).length) Slot.unset).toArray = ls at hl ⊢
  have hl : lv_has ls 1 [(0, .ref (sa i))] := hl
  refine va_gets hx hb hY.1 hS hown (hts _ nw_f_compact) (fun _ h9 => h9) nd_lat_0 ?_
  refine lv_if_eq hx hb nd_lat_3 (tgt := 17) rfl (fun h => absurd h (by decide)) (fun _ => ?_)
  refine lv_aload_n hx hb nd_lat_6 rfl (lv_at hl 0 rfl) ?_
  refine vk_getf hx hb (hX.2.2.2.1 i hi).2.1 hS hown (hts _ nw_f_coder) (fun _ h9 => h9) nd_lat_7 ?_
  refine lv_if_ne hx hb nd_lat_10 (tgt := 17) rfl (fun h => absurd rfl h) (fun _ => ?_)
  refine lv_iconst hx hb nd_lat_13 (v := 1) rfl ?_
  refine lv_goto hx hb nd_lat_14 (tgt := 18) rfl ?_
  exact W.zret hx hb hr rfl (fun t ht hW => ⟨rfl, by rw [ht]; exact hP, hS.F ht⟩) hS.2.2 nd_lat_18

theorem nm_len (l : Launch) (M1 : fs_M) {i : Nat} (hi : i < 5) : Met l ny_len (Cond.code ny_len prog_13_method_54_code 1 (some .int) :: fs_good) (fs_nr 1) (nPc (dC := dC) (dI := dI) (o := o) (sa := sa) (sv := sv) (cA := cA) (cB := cB) M1 [.ref (sa i)]) (nQc (dC := dC) (dI := dI) (o := o) (cA := cA) (cB := cB) M1 (some (.int (Int32.ofNat (fs_slen.getD i 0))))) 0 0 (fun q => o ≤ q) := by
  refine va_MetF (cc := prog_13_method_54_code) (maxL := 1) (ret := (some .int)) (by decide +kernel) rfl ?_
  intro p e s m args below meth c s₁ B hml hv
  obtain ⟨rfl, hP, hX, hY⟩ := hv
  have hx := B.exec
  have hb := B.bytes
  have hr := B.returns
  have hts0 := atoms_spec (ws := Cond.code ny_len prog_13_method_54_code 1 (some .int) :: fs_good) B.pre
  have hts : ∀ w ∈ fs_good, w.before ([.ref (sa i)] : List Value).toArray s = true := fun w hw => hts0 w (List.mem_cons_of_mem _ hw)
  have hown : s.vm.findClass "java/lang/String" = some m.cls := findClass_of_methodNamed B.named
  have hlocks := B.notSynchronized
  have hS : va_S (fun q => o ≤ q) s.heap s.heap [] := va_S.rf
  have hl := lv_entry ([.ref (sa i)]) (n := 1) (Nat.le_of_ble_eq_true rfl)
  rw [lg_entry_eq]
  generalize (lg_sl ([.ref (sa i)]) ++ List.replicate (1 - (lg_sl ([.ref (sa i)])).length) Slot.unset).toArray = ls at hl ⊢
  have hl : lv_has ls 1 [(0, .ref (sa i))] := hl
  refine lv_aload_n hx hb nd_len_0 rfl (lv_at hl 0 rfl) ?_
  refine vk_getf hx hb (hX.2.2.2.1 i hi).2.2.1 hS hown (hts _ nw_f_value) (fun _ h9 => h9) nd_len_1 ?_
  refine va_tlen hx hb (hX.2.2.2.1 i hi).2.2.2 hS rfl nd_len_4 ?_
  refine lv_aload_n hx hb nd_len_5 rfl (lv_at hl 0 rfl) ?_
  refine fs_go (v := (some (.int 0))) (rest := [.int (Int32.ofNat (fs_slen.getD i 0))]) (Pw := fun Hx => va_P (dC, dI) vwCl (fs_ws o cA cB M1) Hx) (a := ([.ref (sa i)] : List Value).toArray) (A := fun q => o ≤ q) (va_runV (As := []) (rest := [.int (Int32.ofNat (fs_slen.getD i 0))]) ⟨hx, hb, hml, hown, hts⟩ (nm_cod l M1 hi) ⟨callB_of 0 hts (fs_goodIn nw_c_cod) rfl rfl rfl (hts _ nw_n_S) (hts _ nw_l_cod) ⟨by decide, by decide, by decide +kernel⟩ ⟨by show _ ≤ _; decide, by show _ ≤ _; decide⟩, hts _ nw_i_cod, hts _ nw_s_cod⟩ ⟨nPc.bl, vk_recv hX.2.2.2 hi hS, fun U hU hW => ⟨rfl, by rw [hU]; exact hP, hX.warm hW hS hU, by rw [hU]; exact hY.kept hW.alike hS.2.1⟩⟩ rfl rfl hl.1 rfl (by decide) nd_len_6 ⟨Nat.le_refl _, Nat.le_refl _⟩) hS (fun H locs hP hS => ?_)
  refine lv_ishr hx hb nd_len_9 ?_
  rw [show (Int32.ofNat (fs_slen.getD i 0) >>> ((0 : Int32) &&& 31)) = Int32.ofNat (fs_slen.getD i 0) by
    rcases (show i = 0 ∨ i = 1 ∨ i = 2 ∨ i = 3 ∨ i = 4 by omega) with rfl | rfl | rfl | rfl | rfl <;> decide]
  exact W.iret hx hb hr (fun t ht hW => ⟨rfl, by rw [ht]; exact hP, hS.F ht⟩) hS.2.2 nd_len_10

theorem nm_pre (l : Launch) (M1 : fs_M) {a b : Int32} {z : Value} (hz : z = .null ∨ ∃ t, z = .ref t) (ha : ¬ a < 0) (hab : a < b) : Met l ny_pre (Cond.code ny_pre prog_16_method_11_code 3 (some .int) :: fs_good) (fs_nr 0) (nPc (dC := dC) (dI := dI) (o := o) (sa := sa) (sv := sv) (cA := cA) (cB := cB) M1 [.int a, .int b, z]) (nQc (dC := dC) (dI := dI) (o := o) (cA := cA) (cB := cB) M1 (some (.int a))) 0 0 (fun q => o ≤ q) := by
  refine va_MetF (cc := prog_16_method_11_code) (maxL := 3) (ret := (some .int)) (by decide +kernel) rfl ?_
  intro p e s m args below meth c s₁ B hml hv
  obtain ⟨rfl, hP, hX, hY⟩ := hv
  have hx := B.exec
  have hb := B.bytes
  have hr := B.returns
  have hts0 := atoms_spec (ws := Cond.code ny_pre prog_16_method_11_code 3 (some .int) :: fs_good) B.pre
  have hts : ∀ w ∈ fs_good, w.before ([.int a, .int b, z] : List Value).toArray s = true := fun w hw => hts0 w (List.mem_cons_of_mem _ hw)
  have hown : s.vm.findClass "jdk/internal/util/Preconditions" = some m.cls := findClass_of_methodNamed B.named
  have hlocks := B.notSynchronized
  have hS : va_S (fun q => o ≤ q) s.heap s.heap [] := va_S.rf
  have hl := lv_entry ([.int a, .int b, z]) (n := 3) (by rcases hz with rfl | ⟨t, rfl⟩ <;> exact Nat.le_of_ble_eq_true rfl)
  rw [lg_entry_eq]
  generalize (lg_sl ([.int a, .int b, z]) ++ List.replicate (3 - (lg_sl ([.int a, .int b, z])).length) Slot.unset).toArray = ls at hl ⊢
  have hl : lv_has ls 3 [(0, .int a), (1, .int b), (2, z)] := by rcases hz with rfl | ⟨t, rfl⟩ <;> exact hl
  refine lv_iload_n hx hb nd_pre_0 rfl (lv_at hl 0 rfl) ?_
  refine lv_if_lt hx hb nd_pre_1 (tgt := 9) rfl (fun h => absurd h ha) (fun _ => ?_)
  refine lv_iload_n hx hb nd_pre_4 rfl (lv_at hl 0 rfl) ?_
  refine lv_iload_n hx hb nd_pre_5 rfl (lv_at hl 1 rfl) ?_
  refine lv_icmp_lt hx hb nd_pre_6 (tgt := 16) rfl (fun _ => ?_) (fun h => absurd hab h)
  refine lv_iload_n hx hb nd_pre_16 rfl (lv_at hl 0 rfl) ?_
  exact W.iret hx hb hr (fun t ht hW => ⟨rfl, by rw [ht]; exact hP, hS.F ht⟩) hS.2.2 nd_pre_17

end FsNat
