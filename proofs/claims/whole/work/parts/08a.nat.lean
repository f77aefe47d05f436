/-! the JDK's own methods that are called: length, charAt, floatToIntBits, doubleToLongBits, max, min -/
/-- the strings' own classes: what their statics hold -/
def fs_Y (o : Nat) (U : State) (H : Heap) : Prop := va_Z "java/lang/String" "COMPACT_STRINGS" "Z" (.int 1) (fun q => o ≤ q) U H ∧ va_Zq "jdk/internal/util/Preconditions" "SIOOBE_FORMATTER" "Ljava/util/function/BiFunction;" (fun q => o ≤ q) U H
theorem fs_Y.kept {o : Nat} {U U' : State} {H H' : Heap} (hvm : U.vm.Alike U'.vm) (h : fs_Y o U H) (hq : ∀ a : Nat, a < H.size → ¬ o ≤ a → H'[a]? = H[a]?) : fs_Y o U' H' := ⟨va_Z.moved hvm (h.1.kept hq), va_Zq.moved hvm (h.2.kept hq)⟩
def fs_X (dC : Nat → ClassId) (dI : Nat → Nat → Nat) (o : Nat) (sa sv : Nat → Nat) (cA cB : ClassId) (U : State) : Prop :=
  va_K (dC, dI) vwCl [(cA, .int), (cB, .object "FireSale$Book")] U ∧ (∀ q ∈ fs_nw, va_Nw (.methodLinkNest q.1 q.2.1 q.2.2 "FireSale") U) ∧ (∀ q ∈ fs_strs, vk_R q.1 q.2.1 (fs_txt.getD q.2.2 "") (sa q.2.2) U) ∧ vk_S 5 fs_slen fs_bytes sa sv (fun q => o ≤ q) U U.heap ∧ fs_Y o U U.heap
theorem fs_X.warm {dC : Nat → ClassId} {dI : Nat → Nat → Nat} {o : Nat} {sa sv : Nat → Nat} {cA cB : ClassId} {s U : State} {H : Heap} {locs : List Loc} (h : fs_X dC dI o sa sv cA cB s) (hW : s.WarmedH U.vm) (hS : va_S (fun q => o ≤ q) s.heap H locs) (hU : U.heap = H) : fs_X dC dI o sa sv cA cB U := by
  refine ⟨va_K.moved hW.alike h.1, fun q hq => va_Nw.warmM hW (h.2.1 q hq), fun q hq => vk_R.warm hW (h.2.2.1 q hq), ?_, ?_⟩
  · rw [hU]
    exact (vk_S.moved hW.alike h.2.2.2.1).kept (fun a h1 h2 => hS.2.1 a h1 h2)
  · rw [hU]
    exact h.2.2.2.2.kept hW.alike (fun a h1 h2 => hS.2.1 a h1 h2)
theorem fs_X.blind {dC : Nat → ClassId} {dI : Nat → Nat → Nat} {o : Nat} {sa sv : Nat → Nat} {cA cB : ClassId} {U : State} (h : fs_X dC dI o sa sv cA cB U) (g : JFrame) (mk : MethodId) (a : Array Value) : fs_X dC dI o sa sv cA cB (U.calling g mk a) :=
  ⟨va_K.moved (u := U) (U := U.calling g mk a) (Vm.Alike.refl U.vm) h.1, fun q hq => va_Nw.same rfl (u := U) (U := U.calling g mk a) rfl (h.2.1 q hq), fun q hq => vk_R.same (u := U) (U := U.calling g mk a) rfl (h.2.2.1 q hq), vk_S.moved (u := U) (U := U.calling g mk a) (Vm.Alike.refl U.vm) h.2.2.2.1, h.2.2.2.2.kept (U := U) (U' := U.calling g mk a) (Vm.Alike.refl U.vm) (fun _ _ _ => rfl)⟩
theorem fs_goodIn {w : Jvm.Cond} (h : w ∈ fs_good) : GoodIn fs_good (w :: fs_good) := by
  intro x hx
  have hm : x ∈ fs_good := by
    rcases List.mem_cons.mp hx with rfl | q
    · exact h
    · exact q
  exact ⟨hm, good_of_word (List.mem_filter.mp hm).2⟩
section FsCall
variable {p : Program} {l : Launch} {e : Env} {R : Room} {s : State} {m : MethodId} {args : Array Value} {below : List Frame} {meth : Method} {c : Code} {H : Heap} {locs : List Loc} {cells slots : Nat} {Q : State → Prop}
/-- behind a call that was told -/
theorem fs_go {pc : Nat} {ls : Array Slot} {st0 rest : List Value} {a : Array Value} {A : Nat → Prop} {v : Option Value} {Pw : Heap → Prop}
    (hr : va_Run p l e R s m args below meth c H locs cells slots 0 0 (F0 m pc ls st0) rest ((fun (_ : Array Value) st0 oc t => oc = .returned v ∧ Pw t.heap ∧ va_F A st0 t) a) A) (hS : va_S A s.heap H locs)
    (kk : ∀ (H1 : Heap) (locs1 : List Loc), Pw H1 → va_S A s.heap H1 locs1 → W p l e R s m args below meth c H1 locs1 cells slots Q (F0 m (pc + 3) ls (v.toList ++ rest))) : W p l e R s m args below meth c H locs cells slots Q (F0 m pc ls st0) := by
  intro T hT X
  obtain ⟨v', st₀, t, T', L, h0, X', hL, e1, e2, ⟨hv, hp, hz, hk⟩, st⟩ := hr T hT X
  cases hv
  rw [h0] at hz hk
  obtain ⟨t2, a1, b1⟩ := kk T'.heap (locs ++ L) (by rw [e1]; exact hp)
    ⟨Nat.le_trans hS.1 (by rw [e1]; exact hz), fun q h1 h2 => by rw [e1, hk q (Nat.lt_of_lt_of_le h1 hS.1) h2]; exact hS.2.1 q h1 h2, fun q hq => by
      rcases List.mem_append.mp hq with h | h
      · exact hS.2.2 q h
      · exact hL q h⟩ T' rfl X'
  exact ⟨t2, st t2 a1, b1⟩
end FsCall
abbrev ny_len : MethodName := ⟨"java/lang/String", "length", "()I"⟩
theorem nw_c_len : (.code ny_len prog_13_method_54_code 1 (some .int) : Jvm.Cond) ∈ fs_good := fs_ok_mem (p := 388) (by decide +kernel)
theorem nd_len_0 : decode prog_13_method_54_code 0 = .ok (.aload_n 0, 1) := by decide +kernel
theorem nd_len_1 : decode prog_13_method_54_code 1 = .ok (.getfield 9, 3) := by decide +kernel
theorem nd_len_4 : decode prog_13_method_54_code 4 = .ok (.arraylength, 1) := by decide +kernel
theorem nd_len_5 : decode prog_13_method_54_code 5 = .ok (.aload_n 0, 1) := by decide +kernel
theorem nd_len_6 : decode prog_13_method_54_code 6 = .ok (.invokevirtual 335, 3) := by decide +kernel
theorem nd_len_9 : decode prog_13_method_54_code 9 = .ok (.ishr, 1) := by decide +kernel
theorem nd_len_10 : decode prog_13_method_54_code 10 = .ok (.ireturn, 1) := by decide +kernel
abbrev ny_cod : MethodName := ⟨"java/lang/String", "coder", "()B"⟩
theorem nw_c_cod : (.code ny_cod prog_13_method_152_code 1 (some .byte) : Jvm.Cond) ∈ fs_good := fs_ok_mem (p := 392) (by decide +kernel)
theorem nd_cod_0 : decode prog_13_method_152_code 0 = .ok (.getstatic 38, 3) := by decide +kernel
theorem nd_cod_3 : decode prog_13_method_152_code 3 = .ok (.ifCond .eq 10, 3) := by decide +kernel
theorem nd_cod_6 : decode prog_13_method_152_code 6 = .ok (.aload_n 0, 1) := by decide +kernel
theorem nd_cod_7 : decode prog_13_method_152_code 7 = .ok (.getfield 15, 3) := by decide +kernel
theorem nd_cod_10 : decode prog_13_method_152_code 10 = .ok (.goto 4, 3) := by decide +kernel
theorem nd_cod_13 : decode prog_13_method_152_code 13 = .ok (.iconst 1, 1) := by decide +kernel
theorem nd_cod_14 : decode prog_13_method_152_code 14 = .ok (.ireturn, 1) := by decide +kernel
abbrev ny_cha : MethodName := ⟨"java/lang/String", "charAt", "(I)C"⟩
theorem nw_c_cha : (.code ny_cha prog_13_method_56_code 2 (some .char) : Jvm.Cond) ∈ fs_good := fs_ok_mem (p := 398) (by decide +kernel)
theorem nd_cha_0 : decode prog_13_method_56_code 0 = .ok (.aload_n 0, 1) := by decide +kernel
theorem nd_cha_1 : decode prog_13_method_56_code 1 = .ok (.invokevirtual 492, 3) := by decide +kernel
theorem nd_cha_4 : decode prog_13_method_56_code 4 = .ok (.ifCond .eq 12, 3) := by decide +kernel
theorem nd_cha_7 : decode prog_13_method_56_code 7 = .ok (.aload_n 0, 1) := by decide +kernel
theorem nd_cha_8 : decode prog_13_method_56_code 8 = .ok (.getfield 9, 3) := by decide +kernel
theorem nd_cha_11 : decode prog_13_method_56_code 11 = .ok (.iload_n 1, 1) := by decide +kernel
theorem nd_cha_12 : decode prog_13_method_56_code 12 = .ok (.invokestatic 495, 3) := by decide +kernel
theorem nd_cha_15 : decode prog_13_method_56_code 15 = .ok (.ireturn, 1) := by decide +kernel
abbrev ny_lat : MethodName := ⟨"java/lang/String", "isLatin1", "()Z"⟩
theorem nw_c_lat : (.code ny_lat prog_13_method_154_code 1 (some .boolean) : Jvm.Cond) ∈ fs_good := fs_ok_mem (p := 402) (by decide +kernel)
theorem nd_lat_0 : decode prog_13_method_154_code 0 = .ok (.getstatic 38, 3) := by decide +kernel
theorem nd_lat_3 : decode prog_13_method_154_code 3 = .ok (.ifCond .eq 14, 3) := by decide +kernel
theorem nd_lat_6 : decode prog_13_method_154_code 6 = .ok (.aload_n 0, 1) := by decide +kernel
theorem nd_lat_7 : decode prog_13_method_154_code 7 = .ok (.getfield 15, 3) := by decide +kernel
theorem nd_lat_10 : decode prog_13_method_154_code 10 = .ok (.ifCond .ne 7, 3) := by decide +kernel
theorem nd_lat_13 : decode prog_13_method_154_code 13 = .ok (.iconst 1, 1) := by decide +kernel
theorem nd_lat_14 : decode prog_13_method_154_code 14 = .ok (.goto 4, 3) := by decide +kernel
theorem nd_lat_17 : decode prog_13_method_154_code 17 = .ok (.iconst 0, 1) := by decide +kernel
theorem nd_lat_18 : decode prog_13_method_154_code 18 = .ok (.ireturn, 1) := by decide +kernel
abbrev ny_ch1 : MethodName := ⟨"java/lang/StringLatin1", "charAt", "([BI)C"⟩
theorem nw_c_ch1 : (.code ny_ch1 prog_14_method_2_code 2 (some .char) : Jvm.Cond) ∈ fs_good := fs_ok_mem (p := 405) (by decide +kernel)
theorem nd_ch1_0 : decode prog_14_method_2_code 0 = .ok (.iload_n 1, 1) := by decide +kernel
theorem nd_ch1_1 : decode prog_14_method_2_code 1 = .ok (.aload_n 0, 1) := by decide +kernel
theorem nd_ch1_2 : decode prog_14_method_2_code 2 = .ok (.arraylength, 1) := by decide +kernel
theorem nd_ch1_3 : decode prog_14_method_2_code 3 = .ok (.invokestatic 9, 3) := by decide +kernel
theorem nd_ch1_6 : decode prog_14_method_2_code 6 = .ok (.aload_n 0, 1) := by decide +kernel
theorem nd_ch1_7 : decode prog_14_method_2_code 7 = .ok (.iload_n 1, 1) := by decide +kernel
theorem nd_ch1_8 : decode prog_14_method_2_code 8 = .ok (.baload, 1) := by decide +kernel
theorem nd_ch1_9 : decode prog_14_method_2_code 9 = .ok (.sipush 255, 3) := by decide +kernel
theorem nd_ch1_12 : decode prog_14_method_2_code 12 = .ok (.iand, 1) := by decide +kernel
theorem nd_ch1_13 : decode prog_14_method_2_code 13 = .ok (.i2c, 1) := by decide +kernel
theorem nd_ch1_14 : decode prog_14_method_2_code 14 = .ok (.ireturn, 1) := by decide +kernel
abbrev ny_chk : MethodName := ⟨"java/lang/String", "checkIndex", "(II)V"⟩
theorem nw_c_chk : (.code ny_chk prog_13_method_155_code 2 (none) : Jvm.Cond) ∈ fs_good := fs_ok_mem (p := 408) (by decide +kernel)
theorem nd_chk_0 : decode prog_13_method_155_code 0 = .ok (.iload_n 0, 1) := by decide +kernel
theorem nd_chk_1 : decode prog_13_method_155_code 1 = .ok (.iload_n 1, 1) := by decide +kernel
theorem nd_chk_2 : decode prog_13_method_155_code 2 = .ok (.getstatic 1053, 3) := by decide +kernel
theorem nd_chk_5 : decode prog_13_method_155_code 5 = .ok (.invokestatic 1059, 3) := by decide +kernel
theorem nd_chk_8 : decode prog_13_method_155_code 8 = .ok (.pop, 1) := by decide +kernel
theorem nd_chk_9 : decode prog_13_method_155_code 9 = .ok (.return_, 1) := by decide +kernel
abbrev ny_pre : MethodName := ⟨"jdk/internal/util/Preconditions", "checkIndex", "(IILjava/util/function/BiFunction;)I"⟩
theorem nw_c_pre : (.code ny_pre prog_16_method_11_code 3 (some .int) : Jvm.Cond) ∈ fs_good := fs_ok_mem (p := 413) (by decide +kernel)
theorem nd_pre_0 : decode prog_16_method_11_code 0 = .ok (.iload_n 0, 1) := by decide +kernel
theorem nd_pre_1 : decode prog_16_method_11_code 1 = .ok (.ifCond .lt 8, 3) := by decide +kernel
theorem nd_pre_4 : decode prog_16_method_11_code 4 = .ok (.iload_n 0, 1) := by decide +kernel
theorem nd_pre_5 : decode prog_16_method_11_code 5 = .ok (.iload_n 1, 1) := by decide +kernel
theorem nd_pre_6 : decode prog_16_method_11_code 6 = .ok (.if_icmp .lt 10, 3) := by decide +kernel
theorem nd_pre_16 : decode prog_16_method_11_code 16 = .ok (.iload_n 0, 1) := by decide +kernel
theorem nd_pre_17 : decode prog_16_method_11_code 17 = .ok (.ireturn, 1) := by decide +kernel
abbrev ny_fbi : MethodName := ⟨"java/lang/Float", "floatToIntBits", "(F)I"⟩
theorem nw_c_fbi : (.code ny_fbi prog_10_method_24_code 1 (some .int) : Jvm.Cond) ∈ fs_good := fs_ok_mem (p := 1564) (by decide +kernel)
theorem nd_fbi_0 : decode prog_10_method_24_code 0 = .ok (.fload_n 0, 1) := by decide +kernel
theorem nd_fbi_1 : decode prog_10_method_24_code 1 = .ok (.invokestatic 59, 3) := by decide +kernel
theorem nd_fbi_4 : decode prog_10_method_24_code 4 = .ok (.ifCond .ne 8, 3) := by decide +kernel
theorem nd_fbi_7 : decode prog_10_method_24_code 7 = .ok (.fload_n 0, 1) := by decide +kernel
theorem nd_fbi_8 : decode prog_10_method_24_code 8 = .ok (.invokestatic 74, 3) := by decide +kernel
theorem nd_fbi_11 : decode prog_10_method_24_code 11 = .ok (.ireturn, 1) := by decide +kernel
abbrev ny_fna : MethodName := ⟨"java/lang/Float", "isNaN", "(F)Z"⟩
theorem nw_c_fna : (.code ny_fna prog_10_method_6_code 1 (some .boolean) : Jvm.Cond) ∈ fs_good := fs_ok_mem (p := 1567) (by decide +kernel)
theorem nd_fna_0 : decode prog_10_method_6_code 0 = .ok (.fload_n 0, 1) := by decide +kernel
theorem nd_fna_1 : decode prog_10_method_6_code 1 = .ok (.fload_n 0, 1) := by decide +kernel
theorem nd_fna_2 : decode prog_10_method_6_code 2 = .ok (.fcmp .l, 1) := by decide +kernel
theorem nd_fna_3 : decode prog_10_method_6_code 3 = .ok (.ifCond .eq 7, 3) := by decide +kernel
theorem nd_fna_6 : decode prog_10_method_6_code 6 = .ok (.iconst 1, 1) := by decide +kernel
theorem nd_fna_7 : decode prog_10_method_6_code 7 = .ok (.goto 4, 3) := by decide +kernel
theorem nd_fna_10 : decode prog_10_method_6_code 10 = .ok (.iconst 0, 1) := by decide +kernel
theorem nd_fna_11 : decode prog_10_method_6_code 11 = .ok (.ireturn, 1) := by decide +kernel
abbrev ny_dbi : MethodName := ⟨"java/lang/Double", "doubleToLongBits", "(D)J"⟩
theorem nw_c_dbi : (.code ny_dbi prog_9_method_23_code 2 (some .long) : Jvm.Cond) ∈ fs_good := fs_ok_mem (p := 1592) (by decide +kernel)
theorem nd_dbi_0 : decode prog_9_method_23_code 0 = .ok (.dload_n 0, 1) := by decide +kernel
theorem nd_dbi_1 : decode prog_9_method_23_code 1 = .ok (.invokestatic 122, 3) := by decide +kernel
theorem nd_dbi_4 : decode prog_9_method_23_code 4 = .ok (.ifCond .ne 8, 3) := by decide +kernel
theorem nd_dbi_7 : decode prog_9_method_23_code 7 = .ok (.dload_n 0, 1) := by decide +kernel
theorem nd_dbi_8 : decode prog_9_method_23_code 8 = .ok (.invokestatic 134, 3) := by decide +kernel
theorem nd_dbi_11 : decode prog_9_method_23_code 11 = .ok (.lreturn, 1) := by decide +kernel
abbrev ny_dna : MethodName := ⟨"java/lang/Double", "isNaN", "(D)Z"⟩
theorem nw_c_dna : (.code ny_dna prog_9_method_6_code 2 (some .boolean) : Jvm.Cond) ∈ fs_good := fs_ok_mem (p := 1595) (by decide +kernel)
theorem nd_dna_0 : decode prog_9_method_6_code 0 = .ok (.dload_n 0, 1) := by decide +kernel
theorem nd_dna_1 : decode prog_9_method_6_code 1 = .ok (.dload_n 0, 1) := by decide +kernel
theorem nd_dna_2 : decode prog_9_method_6_code 2 = .ok (.dcmp .l, 1) := by decide +kernel
theorem nd_dna_3 : decode prog_9_method_6_code 3 = .ok (.ifCond .eq 7, 3) := by decide +kernel
theorem nd_dna_6 : decode prog_9_method_6_code 6 = .ok (.iconst 1, 1) := by decide +kernel
theorem nd_dna_7 : decode prog_9_method_6_code 7 = .ok (.goto 4, 3) := by decide +kernel
theorem nd_dna_10 : decode prog_9_method_6_code 10 = .ok (.iconst 0, 1) := by decide +kernel
theorem nd_dna_11 : decode prog_9_method_6_code 11 = .ok (.ireturn, 1) := by decide +kernel
theorem nw_i_cod : (.instanceMethod ny_cod : Jvm.Cond) ∈ fs_good := fs_ok_mem (p := 390) (by decide +kernel)
theorem nw_s_cod : (.selects "java/lang/String" ny_cod ny_cod : Jvm.Cond) ∈ fs_good := fs_ok_mem (p := 391) (by decide +kernel)
theorem nw_i_lat : (.instanceMethod ny_lat : Jvm.Cond) ∈ fs_good := fs_ok_mem (p := 400) (by decide +kernel)
theorem nw_s_lat : (.selects "java/lang/String" ny_lat ny_lat : Jvm.Cond) ∈ fs_good := fs_ok_mem (p := 401) (by decide +kernel)
theorem nw_i_len : (.instanceMethod ny_len : Jvm.Cond) ∈ fs_good := fs_ok_mem (p := 386) (by decide +kernel)
theorem nw_s_len : (.selects "java/lang/String" ny_len ny_len : Jvm.Cond) ∈ fs_good := fs_ok_mem (p := 387) (by decide +kernel)
theorem nw_i_cha : (.instanceMethod ny_cha : Jvm.Cond) ∈ fs_good := fs_ok_mem (p := 396) (by decide +kernel)
theorem nw_s_cha : (.selects "java/lang/String" ny_cha ny_cha : Jvm.Cond) ∈ fs_good := fs_ok_mem (p := 397) (by decide +kernel)
theorem nw_t_ch1 : (.static ny_ch1 : Jvm.Cond) ∈ fs_good := fs_ok_mem (p := 404) (by decide +kernel)
theorem nw_t_chk : (.static ny_chk : Jvm.Cond) ∈ fs_good := fs_ok_mem (p := 407) (by decide +kernel)
theorem nw_t_pre : (.static ny_pre : Jvm.Cond) ∈ fs_good := fs_ok_mem (p := 412) (by decide +kernel)
theorem nw_t_fbi : (.static ny_fbi : Jvm.Cond) ∈ fs_good := fs_ok_mem (p := 1563) (by decide +kernel)
theorem nw_t_fna : (.static ny_fna : Jvm.Cond) ∈ fs_good := fs_ok_mem (p := 1566) (by decide +kernel)
theorem nw_t_dbi : (.static ny_dbi : Jvm.Cond) ∈ fs_good := fs_ok_mem (p := 1591) (by decide +kernel)
theorem nw_t_dna : (.static ny_dna : Jvm.Cond) ∈ fs_good := fs_ok_mem (p := 1594) (by decide +kernel)
theorem nw_n_S : (.initialized "java/lang/String" : Jvm.Cond) ∈ fs_good := fs_ok_mem (p := 111) (by decide +kernel)
theorem nw_n_L : (.initialized "java/lang/StringLatin1" : Jvm.Cond) ∈ fs_good := fs_ok_mem (p := 112) (by decide +kernel)
theorem nw_n_P : (.initialized "jdk/internal/util/Preconditions" : Jvm.Cond) ∈ fs_good := fs_ok_mem (p := 113) (by decide +kernel)
theorem nw_n_F : (.initialized "java/lang/Float" : Jvm.Cond) ∈ fs_good := fs_ok_mem (p := 117) (by decide +kernel)
theorem nw_n_D : (.initialized "java/lang/Double" : Jvm.Cond) ∈ fs_good := fs_ok_mem (p := 118) (by decide +kernel)
theorem nw_n_M : (.initialized "java/lang/Math" : Jvm.Cond) ∈ fs_good := fs_ok_mem (p := 115) (by decide +kernel)
theorem nw_l_cod : (.methodLink "java/lang/String" 335 ny_cod : Jvm.Cond) ∈ fs_good := fs_ok_mem (p := 389) (by decide +kernel)
theorem nw_l_lat : (.methodLink "java/lang/String" 492 ny_lat : Jvm.Cond) ∈ fs_good := fs_ok_mem (p := 399) (by decide +kernel)
theorem nw_l_ch1 : (.methodLink "java/lang/String" 495 ny_ch1 : Jvm.Cond) ∈ fs_good := fs_ok_mem (p := 403) (by decide +kernel)
theorem nw_l_chk : (.methodLink "java/lang/StringLatin1" 9 ny_chk : Jvm.Cond) ∈ fs_good := fs_ok_mem (p := 406) (by decide +kernel)
theorem nw_l_pre : (.methodLink "java/lang/String" 1059 ny_pre : Jvm.Cond) ∈ fs_good := fs_ok_mem (p := 411) (by decide +kernel)
theorem nw_l_fna : (.methodLink "java/lang/Float" 59 ny_fna : Jvm.Cond) ∈ fs_good := fs_ok_mem (p := 1565) (by decide +kernel)
theorem nw_l_dna : (.methodLink "java/lang/Double" 122 ny_dna : Jvm.Cond) ∈ fs_good := fs_ok_mem (p := 1593) (by decide +kernel)
theorem nw_f_compact : (.fieldLink "java/lang/String" 38 "java/lang/String" "COMPACT_STRINGS" "Z" : Jvm.Cond) ∈ fs_good := fs_ok_mem (p := 393) (by decide +kernel)
theorem nw_f_value : (.fieldLink "java/lang/String" 9 "java/lang/String" "value" "[B" : Jvm.Cond) ∈ fs_good := fs_ok_mem (p := 1725) (by decide +kernel)
theorem nw_f_coder : (.fieldLink "java/lang/String" 15 "java/lang/String" "coder" "B" : Jvm.Cond) ∈ fs_good := fs_ok_mem (p := 1726) (by decide +kernel)
theorem nw_f_fmt : (.fieldLink "java/lang/String" 1053 "jdk/internal/util/Preconditions" "SIOOBE_FORMATTER" "Ljava/util/function/BiFunction;" : Jvm.Cond) ∈ fs_good := fs_ok_mem (p := 409) (by decide +kernel)
theorem nw_rf_l : (.methodLink "java/lang/Float" 74 ⟨"java/lang/Float", "floatToRawIntBits", "(F)I"⟩ : Jvm.Cond) ∈ fs_good := fs_ok_mem (p := 1568) (by decide +kernel)
theorem nw_rf_n : (.native ⟨"java/lang/Float", "floatToRawIntBits", "(F)I"⟩ : Jvm.Cond) ∈ fs_good := fs_ok_mem (p := 1570) (by decide +kernel)
theorem nw_rf_s : (.static ⟨"java/lang/Float", "floatToRawIntBits", "(F)I"⟩ : Jvm.Cond) ∈ fs_good := fs_ok_mem (p := 1569) (by decide +kernel)
theorem nw_rd_l : (.methodLink "java/lang/Double" 134 ⟨"java/lang/Double", "doubleToRawLongBits", "(D)J"⟩ : Jvm.Cond) ∈ fs_good := fs_ok_mem (p := 1596) (by decide +kernel)
theorem nw_rd_n : (.native ⟨"java/lang/Double", "doubleToRawLongBits", "(D)J"⟩ : Jvm.Cond) ∈ fs_good := fs_ok_mem (p := 1598) (by decide +kernel)
theorem nw_rd_s : (.static ⟨"java/lang/Double", "doubleToRawLongBits", "(D)J"⟩ : Jvm.Cond) ∈ fs_good := fs_ok_mem (p := 1597) (by decide +kernel)
theorem nw_mx_s : (.static ⟨"java/lang/Math", "max", "(II)I"⟩ : Jvm.Cond) ∈ fs_good := fs_ok_mem (p := 699) (by decide +kernel)
theorem nw_mx_c : (.code ⟨"java/lang/Math", "max", "(II)I"⟩ prog_12_method_65_code 2 (some .int) : Jvm.Cond) ∈ fs_good := fs_ok_mem (p := 700) (by decide +kernel)
theorem mx_code : prog_12_method_65_code = Lib.Math.max.code := by decide +kernel
theorem nw_mn_s : (.static ⟨"java/lang/Math", "min", "(II)I"⟩ : Jvm.Cond) ∈ fs_good := fs_ok_mem (p := 508) (by decide +kernel)
theorem nw_mn_c : (.code ⟨"java/lang/Math", "min", "(II)I"⟩ prog_12_method_69_code 2 (some .int) : Jvm.Cond) ∈ fs_good := fs_ok_mem (p := 509) (by decide +kernel)
theorem mn_code : prog_12_method_69_code = Lib.Math.min.code := by decide +kernel
def fs_nr (d : Nat) : Room := { frames := d, cells := 0, slots := 0, locals := 39 * d }
section FsNat
variable {dC : Nat → ClassId} {dI : Nat → Nat → Nat} {o : Nat} {sa sv : Nat → Nat} {cA cB : ClassId}
def nPc (M1 : fs_M) (as : List Value) : Array Value → State → Prop := va_Pc as (fun U => va_P (dC, dI) vwCl (fs_ws o cA cB M1) U.heap ∧ fs_X dC dI o sa sv cA cB U)
def nQc (M1 : fs_M) (v : Option Value) : Array Value → State → Outcome → State → Prop := fun _ st0 oc t => oc = .returned v ∧ va_P (dC, dI) vwCl (fs_ws o cA cB M1) t.heap ∧ va_F (fun q => o ≤ q) st0 t
theorem nPc.bl {M1 : fs_M} {as : List Value} : FrameBlind (nPc (dC := dC) (dI := dI) (o := o) (sa := sa) (sv := sv) (cA := cA) (cB := cB) M1 as) := fun a U g mk h => ⟨h.1, h.2.1, fs_X.blind h.2.2 g mk a⟩
theorem nm_cod (l : Launch) (M1 : fs_M) {i : Nat} (hi : i < 5) : Met l ny_cod (Cond.code ny_cod prog_13_method_152_code 1 (some .byte) :: fs_good) (fs_nr 0) (nPc (dC := dC) (dI := dI) (o := o) (sa := sa) (sv := sv) (cA := cA) (cB := cB) M1 [.ref (sa i)]) (nQc (dC := dC) (dI := dI) (o := o) (cA := cA) (cB := cB) M1 (some (.int 0))) 0 0 (fun q => o ≤ q) := by
  refine va_MetF (cc := prog_13_method_152_code) (maxL := 1) (ret := (some .byte)) (by decide +kernel) rfl ?_
  intro p e s m args below meth c s₁ B hml hv
  obtain ⟨rfl, hP, hX⟩ := hv
  have hY := hX.2.2.2.2
  have hx := B.exec
  have hb := B.bytes
  have hr := B.returns
  have hts0 := atoms_spec (ws := Cond.code ny_cod prog_13_method_152_code 1 (some .byte) :: fs_good) B.pre
  have hts : ∀ w ∈ fs_good, w.before ([.ref (sa i)] : List Value).toArray s = true := fun w hw => hts0 w (List.mem_cons_of_mem _ hw)
  have hown : s.vm.findClass "java/lang/String" = some m.cls := findClass_of_methodNamed B.named
  have hlocks := B.notSynchronized
  have hS : va_S (fun q => o ≤ q) s.heap s.heap [] := va_S.rf
  have hl := lv_entry ([.ref (sa i)]) (n := 1) (Nat.le_of_ble_eq_true rfl)
  rw [lg_entry_eq]
  generalize (lg_sl ([.ref (sa i)]) ++ List.replicate (1 - (lg_sl ([.ref (sa i)])).length) Slot.unset).toArray = ls at hl ⊢
  have hl : lv_has ls 1 [(0, .ref (sa i))] := hl
  refine va_gets hx hb hY.1 hS hown (hts _ nw_f_compact) (fun _ h9 => h9) nd_cod_0 ?_
  refine lv_if_eq hx hb nd_cod_3 (tgt := 13) rfl (fun h => absurd h (by decide)) (fun _ => ?_)
  refine lv_aload_n hx hb nd_cod_6 rfl (lv_at hl 0 rfl) ?_
  refine vk_getf hx hb (hX.2.2.2.1.1 i hi).2.1 hS hown (hts _ nw_f_coder) (fun _ h9 => h9) nd_cod_7 ?_
  refine lv_goto hx hb nd_cod_10 (tgt := 14) rfl ?_
  exact W.zret hx hb hr rfl (fun t ht hW => ⟨rfl, by rw [ht]; exact hP, hS.F ht⟩) hS.2.2 nd_cod_14

theorem nm_lat (l : Launch) (M1 : fs_M) {i : Nat} (hi : i < 5) : Met l ny_lat (Cond.code ny_lat prog_13_method_154_code 1 (some .boolean) :: fs_good) (fs_nr 0) (nPc (dC := dC) (dI := dI) (o := o) (sa := sa) (sv := sv) (cA := cA) (cB := cB) M1 [.ref (sa i)]) (nQc (dC := dC) (dI := dI) (o := o) (cA := cA) (cB := cB) M1 (some (.int 1))) 0 0 (fun q => o ≤ q) := by
  refine va_MetF (cc := prog_13_method_154_code) (maxL := 1) (ret := (some .boolean)) (by decide +kernel) rfl ?_
  intro p e s m args below meth c s₁ B hml hv
  obtain ⟨rfl, hP, hX⟩ := hv
  have hY := hX.2.2.2.2
  have hx := B.exec
  have hb := B.bytes
  have hr := B.returns
  have hts0 := atoms_spec (ws := Cond.code ny_lat prog_13_method_154_code 1 (some .boolean) :: fs_good) B.pre
  have hts : ∀ w ∈ fs_good, w.before ([.ref (sa i)] : List Value).toArray s = true := fun w hw => hts0 w (List.mem_cons_of_mem _ hw)
  have hown : s.vm.findClass "java/lang/String" = some m.cls := findClass_of_methodNamed B.named
  have hlocks := B.notSynchronized
  have hS : va_S (fun q => o ≤ q) s.heap s.heap [] := va_S.rf
  have hl := lv_entry ([.ref (sa i)]) (n := 1) (Nat.le_of_ble_eq_true rfl)
  rw [lg_entry_eq]
  generalize (lg_sl ([.ref (sa i)]) ++ List.replicate (1 - (lg_sl ([.ref (sa i)])).length) Slot.unset).toArray = ls at hl ⊢
  have hl : lv_has ls 1 [(0, .ref (sa i))] := hl
  refine va_gets hx hb hY.1 hS hown (hts _ nw_f_compact) (fun _ h9 => h9) nd_lat_0 ?_
  refine lv_if_eq hx hb nd_lat_3 (tgt := 17) rfl (fun h => absurd h (by decide)) (fun _ => ?_)
  refine lv_aload_n hx hb nd_lat_6 rfl (lv_at hl 0 rfl) ?_
  refine vk_getf hx hb (hX.2.2.2.1.1 i hi).2.1 hS hown (hts _ nw_f_coder) (fun _ h9 => h9) nd_lat_7 ?_
  refine lv_if_ne hx hb nd_lat_10 (tgt := 17) rfl (fun h => absurd rfl h) (fun _ => ?_)
  refine lv_iconst hx hb nd_lat_13 (v := 1) rfl ?_
  refine lv_goto hx hb nd_lat_14 (tgt := 18) rfl ?_
  exact W.zret hx hb hr rfl (fun t ht hW => ⟨rfl, by rw [ht]; exact hP, hS.F ht⟩) hS.2.2 nd_lat_18

theorem nm_len (l : Launch) (M1 : fs_M) {i : Nat} (hi : i < 5) : Met l ny_len (Cond.code ny_len prog_13_method_54_code 1 (some .int) :: fs_good) (fs_nr 1) (nPc (dC := dC) (dI := dI) (o := o) (sa := sa) (sv := sv) (cA := cA) (cB := cB) M1 [.ref (sa i)]) (nQc (dC := dC) (dI := dI) (o := o) (cA := cA) (cB := cB) M1 (some (.int (Int32.ofNat (fs_slen.getD i 0))))) 0 0 (fun q => o ≤ q) := by
  refine va_MetF (cc := prog_13_method_54_code) (maxL := 1) (ret := (some .int)) (by decide +kernel) rfl ?_
  intro p e s m args below meth c s₁ B hml hv
  obtain ⟨rfl, hP, hX⟩ := hv
  have hY := hX.2.2.2.2
  have hx := B.exec
  have hb := B.bytes
  have hr := B.returns
  have hts0 := atoms_spec (ws := Cond.code ny_len prog_13_method_54_code 1 (some .int) :: fs_good) B.pre
  have hts : ∀ w ∈ fs_good, w.before ([.ref (sa i)] : List Value).toArray s = true := fun w hw => hts0 w (List.mem_cons_of_mem _ hw)
  have hown : s.vm.findClass "java/lang/String" = some m.cls := findClass_of_methodNamed B.named
  have hlocks := B.notSynchronized
  have hS : va_S (fun q => o ≤ q) s.heap s.heap [] := va_S.rf
  have hl := lv_entry ([.ref (sa i)]) (n := 1) (Nat.le_of_ble_eq_true rfl)
  rw [lg_entry_eq]
  generalize (lg_sl ([.ref (sa i)]) ++ List.replicate (1 - (lg_sl ([.ref (sa i)])).length) Slot.unset).toArray = ls at hl ⊢
  have hl : lv_has ls 1 [(0, .ref (sa i))] := hl
  refine lv_aload_n hx hb nd_len_0 rfl (lv_at hl 0 rfl) ?_
  refine vk_getf hx hb (hX.2.2.2.1.1 i hi).2.2.1 hS hown (hts _ nw_f_value) (fun _ h9 => h9) nd_len_1 ?_
  refine va_tlen hx hb (hX.2.2.2.1.1 i hi).2.2.2 hS rfl nd_len_4 ?_
  refine lv_aload_n hx hb nd_len_5 rfl (lv_at hl 0 rfl) ?_
  refine fs_go (v := (some (.int 0))) (rest := [.int (Int32.ofNat (fs_slen.getD i 0))]) (Pw := fun Hx => va_P (dC, dI) vwCl (fs_ws o cA cB M1) Hx) (a := ([.ref (sa i)] : List Value).toArray) (A := fun q => o ≤ q) (va_runV (As := []) (rest := [.int (Int32.ofNat (fs_slen.getD i 0))]) ⟨hx, hb, hml, hown, hts⟩ (nm_cod l M1 hi) ⟨callB_of 0 hts (fs_goodIn nw_c_cod) rfl rfl rfl (hts _ nw_n_S) (hts _ nw_l_cod) ⟨by decide, by decide, by decide +kernel⟩ ⟨by show _ ≤ _; decide, by show _ ≤ _; decide⟩, hts _ nw_i_cod, hts _ nw_s_cod⟩ ⟨nPc.bl, vk_recv hX.2.2.2.1 hi hS, fun U hU hW => ⟨rfl, by rw [hU]; exact hP, hX.warm hW hS hU⟩⟩ rfl rfl hl.1 rfl (Nat.le_of_ble_eq_true rfl) nd_len_6 ⟨Nat.le_refl _, Nat.le_refl _⟩) hS (fun H locs hP hS => ?_)
  refine lv_ishr hx hb nd_len_9 ?_
  rw [show (Int32.ofNat (fs_slen.getD i 0) >>> ((0 : Int32) &&& 31)) = Int32.ofNat (fs_slen.getD i 0) by
    rcases (show i = 0 ∨ i = 1 ∨ i = 2 ∨ i = 3 ∨ i = 4 by omega) with rfl | rfl | rfl | rfl | rfl <;> decide]
  exact W.iret hx hb hr (fun t ht hW => ⟨rfl, by rw [ht]; exact hP, hS.F ht⟩) hS.2.2 nd_len_10

theorem nm_pre (l : Launch) (M1 : fs_M) {a b : Int32} {z : Value} (hz : z = .null ∨ ∃ t, z = .ref t) (ha : ¬ a < 0) (hab : a < b) : Met l ny_pre (Cond.code ny_pre prog_16_method_11_code 3 (some .int) :: fs_good) (fs_nr 0) (nPc (dC := dC) (dI := dI) (o := o) (sa := sa) (sv := sv) (cA := cA) (cB := cB) M1 [.int a, .int b, z]) (nQc (dC := dC) (dI := dI) (o := o) (cA := cA) (cB := cB) M1 (some (.int a))) 0 0 (fun q => o ≤ q) := by
  refine va_MetF (cc := prog_16_method_11_code) (maxL := 3) (ret := (some .int)) (by decide +kernel) rfl ?_
  intro p e s m args below meth c s₁ B hml hv
  obtain ⟨rfl, hP, hX⟩ := hv
  have hY := hX.2.2.2.2
  have hx := B.exec
  have hb := B.bytes
  have hr := B.returns
  have hts0 := atoms_spec (ws := Cond.code ny_pre prog_16_method_11_code 3 (some .int) :: fs_good) B.pre
  have hts : ∀ w ∈ fs_good, w.before ([.int a, .int b, z] : List Value).toArray s = true := fun w hw => hts0 w (List.mem_cons_of_mem _ hw)
  have hown : s.vm.findClass "jdk/internal/util/Preconditions" = some m.cls := findClass_of_methodNamed B.named
  have hlocks := B.notSynchronized
  have hS : va_S (fun q => o ≤ q) s.heap s.heap [] := va_S.rf
  have hl := lv_entry ([.int a, .int b, z]) (n := 3) (by rcases hz with rfl | ⟨t, rfl⟩ <;> exact Nat.le_of_ble_eq_true rfl)
  rw [lg_entry_eq]
  generalize (lg_sl ([.int a, .int b, z]) ++ List.replicate (3 - (lg_sl ([.int a, .int b, z])).length) Slot.unset).toArray = ls at hl ⊢
  have hl : lv_has ls 3 [(0, .int a), (1, .int b), (2, z)] := by rcases hz with rfl | ⟨t, rfl⟩ <;> exact hl
  refine lv_iload_n hx hb nd_pre_0 rfl (lv_at hl 0 rfl) ?_
  refine lv_if_lt hx hb nd_pre_1 (tgt := 9) rfl (fun h => absurd h ha) (fun _ => ?_)
  refine lv_iload_n hx hb nd_pre_4 rfl (lv_at hl 0 rfl) ?_
  refine lv_iload_n hx hb nd_pre_5 rfl (lv_at hl 1 rfl) ?_
  refine lv_icmp_lt hx hb nd_pre_6 (tgt := 16) rfl (fun _ => ?_) (fun h => absurd hab h)
  refine lv_iload_n hx hb nd_pre_16 rfl (lv_at hl 0 rfl) ?_
  exact W.iret hx hb hr (fun t ht hW => ⟨rfl, by rw [ht]; exact hP, hS.F ht⟩) hS.2.2 nd_pre_17

theorem nm_chk (l : Launch) (M1 : fs_M) {a b : Int32} (ha : ¬ a < 0) (hab : a < b) : Met l ny_chk (Cond.code ny_chk prog_13_method_155_code 2 (none) :: fs_good) (fs_nr 1) (nPc (dC := dC) (dI := dI) (o := o) (sa := sa) (sv := sv) (cA := cA) (cB := cB) M1 [.int a, .int b]) (nQc (dC := dC) (dI := dI) (o := o) (cA := cA) (cB := cB) M1 none) 0 0 (fun q => o ≤ q) := by
  refine va_MetF (cc := prog_13_method_155_code) (maxL := 2) (ret := (none)) (by decide +kernel) rfl ?_
  intro p e s m args below meth c s₁ B hml hv
  obtain ⟨rfl, hP, hX⟩ := hv
  have hY := hX.2.2.2.2
  have hx := B.exec
  have hb := B.bytes
  have hr := B.returns
  have hts0 := atoms_spec (ws := Cond.code ny_chk prog_13_method_155_code 2 (none) :: fs_good) B.pre
  have hts : ∀ w ∈ fs_good, w.before ([.int a, .int b] : List Value).toArray s = true := fun w hw => hts0 w (List.mem_cons_of_mem _ hw)
  have hown : s.vm.findClass "java/lang/String" = some m.cls := findClass_of_methodNamed B.named
  have hlocks := B.notSynchronized
  have hS : va_S (fun q => o ≤ q) s.heap s.heap [] := va_S.rf
  have hl := lv_entry ([.int a, .int b]) (n := 2) (Nat.le_of_ble_eq_true rfl)
  rw [lg_entry_eq]
  generalize (lg_sl ([.int a, .int b]) ++ List.replicate (2 - (lg_sl ([.int a, .int b])).length) Slot.unset).toArray = ls at hl ⊢
  have hl : lv_has ls 2 [(0, .int a), (1, .int b)] := hl
  have key : ∀ z : Value, (z = .null ∨ ∃ t, z = .ref t) → va_Z "jdk/internal/util/Preconditions" "SIOOBE_FORMATTER" "Ljava/util/function/BiFunction;" z (fun q => o ≤ q) s s.heap → W p l e (headSpec (Cond.code ny_chk prog_13_method_155_code 2 none :: fs_good) (fs_nr 1)).room s m (([.int a, .int b] : List Value).toArray) below meth c s.heap [] 0 0 (MQ below (nQc (dC := dC) (dI := dI) (o := o) (cA := cA) (cB := cB) M1 none) (([.int a, .int b] : List Value).toArray) s 0 0 (fun q => o ≤ q)) (F0 m 0 ls []) := by
    intro z hz hZ
    refine lv_iload_n hx hb nd_chk_0 rfl (lv_at hl 0 rfl) ?_
    refine lv_iload_n hx hb nd_chk_1 rfl (lv_at hl 1 rfl) ?_
    refine va_gets hx hb hZ hS hown (hts _ nw_f_fmt) (fun _ h9 => h9) nd_chk_2 ?_
    refine fs_go (v := (some (.int a))) (rest := []) (Pw := fun Hx => va_P (dC, dI) vwCl (fs_ws o cA cB M1) Hx) (a := ([.int a, .int b, z] : List Value).toArray) (A := fun q => o ≤ q) (va_runS (As := [.int a, .int b, z]) (rest := []) ⟨hx, hb, hml, hown, hts⟩ (nm_pre l M1 hz ha hab) ⟨callB_of 3 hts (fs_goodIn nw_c_pre) rfl rfl rfl (hts _ nw_n_P) (hts _ nw_l_pre) ⟨by decide, by decide, by decide +kernel⟩ ⟨by show _ ≤ _; decide, by show _ ≤ _; decide⟩, hts _ nw_t_pre⟩ ⟨nPc.bl, fun U hU hW => ⟨rfl, by rw [hU]; exact hP, hX.warm hW hS hU⟩⟩ rfl rfl hl.1 rfl (Nat.le_of_ble_eq_true rfl) nd_chk_5 ⟨Nat.le_refl _, Nat.le_refl _⟩) hS (fun H locs hP hS => ?_)
    refine lv_pop hx hb nd_chk_8 rfl ?_
    exact W.vret hx hb hr (fun t ht hW => ⟨rfl, by rw [ht]; exact hP, hS.F ht⟩) hS.2.2 nd_chk_9
  rcases hY.2 with h | ⟨t, h⟩
  · exact key _ (Or.inl rfl) h
  · exact key _ (Or.inr ⟨t, rfl⟩) h

theorem nb_ok : ∀ i : Fin 5, ∀ j : Fin 5, j.val < fs_slen.getD i.val 0 → ((fs_bytes.getD i.val []).getD j.val 0 &&& 255 = (fs_bytes.getD i.val []).getD j.val 0 ∧ ((fs_bytes.getD i.val []).getD j.val 0).toUInt32 % 65536 = ((fs_bytes.getD i.val []).getD j.val 0).toUInt32 ∧ 0 ≤ ((fs_bytes.getD i.val []).getD j.val 0).toInt ∧ ((fs_bytes.getD i.val []).getD j.val 0).toInt < 128) ∧ narrow .char (.int ((fs_bytes.getD i.val []).getD j.val 0)) = .int ((fs_bytes.getD i.val []).getD j.val 0) := by decide +kernel
theorem ns_le : ∀ i : Fin 5, fs_slen.getD i.val 0 ≤ 5 := by decide
theorem nm_ch1 (l : Launch) (M1 : fs_M) {i : Nat} {k : Int32} (hi : i < 5) (hk : ¬ k < 0) (hkl : k.toNatClampNeg < fs_slen.getD i 0) : Met l ny_ch1 (Cond.code ny_ch1 prog_14_method_2_code 2 (some .char) :: fs_good) (fs_nr 2) (nPc (dC := dC) (dI := dI) (o := o) (sa := sa) (sv := sv) (cA := cA) (cB := cB) M1 [.ref (sv i), .int k]) (nQc (dC := dC) (dI := dI) (o := o) (cA := cA) (cB := cB) M1 (some (.int ((fs_bytes.getD i []).getD k.toNatClampNeg 0)))) 0 0 (fun q => o ≤ q) := by
  refine va_MetF (cc := prog_14_method_2_code) (maxL := 2) (ret := (some .char)) (by decide +kernel) rfl ?_
  intro p e s m args below meth c s₁ B hml hv
  obtain ⟨rfl, hP, hX⟩ := hv
  have hY := hX.2.2.2.2
  have hx := B.exec
  have hb := B.bytes
  have hr := B.returns
  have hts0 := atoms_spec (ws := Cond.code ny_ch1 prog_14_method_2_code 2 (some .char) :: fs_good) B.pre
  have hts : ∀ w ∈ fs_good, w.before ([.ref (sv i), .int k] : List Value).toArray s = true := fun w hw => hts0 w (List.mem_cons_of_mem _ hw)
  have hown : s.vm.findClass "java/lang/StringLatin1" = some m.cls := findClass_of_methodNamed B.named
  have hlocks := B.notSynchronized
  have hS : va_S (fun q => o ≤ q) s.heap s.heap [] := va_S.rf
  have hl := lv_entry ([.ref (sv i), .int k]) (n := 2) (Nat.le_of_ble_eq_true rfl)
  rw [lg_entry_eq]
  generalize (lg_sl ([.ref (sv i), .int k]) ++ List.replicate (2 - (lg_sl ([.ref (sv i), .int k])).length) Slot.unset).toArray = ls at hl ⊢
  have hl : lv_has ls 2 [(0, .ref (sv i)), (1, .int k)] := hl
  have n5 := ns_le ⟨i, hi⟩
  simp only at n5
  have nb := nb_ok ⟨i, hi⟩ ⟨k.toNatClampNeg, by omega⟩ hkl
  simp only at nb
  have hkb : k < Int32.ofNat (fs_slen.getD i 0) := by
    have h1 : k.toInt = (k.toNatClampNeg : Int) := by
      rw [Int32.toNatClampNeg]
      have h0 : ¬ k.toInt < 0 := fun h => hk (Int32.lt_iff_toInt_lt.mpr h)
      omega
    rw [Int32.lt_iff_toInt_lt, h1, Int32.toInt_ofNat_of_lt (by omega)]
    omega
  refine lv_iload_n hx hb nd_ch1_0 rfl (lv_at hl 1 rfl) ?_
  refine lv_aload_n hx hb nd_ch1_1 rfl (lv_at hl 0 rfl) ?_
  refine va_tlen hx hb (hX.2.2.2.1.1 i hi).2.2.2 hS rfl nd_ch1_2 ?_
  refine fs_go (v := none) (rest := []) (Pw := fun Hx => va_P (dC, dI) vwCl (fs_ws o cA cB M1) Hx) (a := ([.int k, .int (Int32.ofNat (fs_slen.getD i 0))] : List Value).toArray) (A := fun q => o ≤ q) (va_runS (As := [.int k, .int (Int32.ofNat (fs_slen.getD i 0))]) (rest := []) ⟨hx, hb, hml, hown, hts⟩ (nm_chk l M1 hk hkb) ⟨callB_of 2 hts (fs_goodIn nw_c_chk) rfl rfl rfl (hts _ nw_n_S) (hts _ nw_l_chk) ⟨by decide, by decide, by decide +kernel⟩ ⟨by show _ ≤ _; decide, by show _ ≤ _; decide⟩, hts _ nw_t_chk⟩ ⟨nPc.bl, fun U hU hW => ⟨rfl, by rw [hU]; exact hP, hX.warm hW hS hU⟩⟩ rfl rfl hl.1 rfl (Nat.le_of_ble_eq_true rfl) nd_ch1_3 ⟨Nat.le_refl _, Nat.le_refl _⟩) hS (fun H locs hP hS => ?_)
  refine lv_aload_n hx hb nd_ch1_6 rfl (lv_at hl 0 rfl) ?_
  refine lv_iload_n hx hb nd_ch1_7 rfl (lv_at hl 1 rfl) ?_
  refine va_tb hx hb (hX.2.2.2.1.1 i hi).2.2.2 hS (i := k) (fun q => q.elim hk (fun h => by omega)) rfl nd_ch1_8 ?_
  refine lv_sipush hx hb nd_ch1_9 (v := 255) (by decide) ?_
  refine lv_iand hx hb nd_ch1_12 ?_
  rw [nb.1.1]
  refine lv_i2c hx hb nd_ch1_13 (v := (fs_bytes.getD i []).getD k.toNatClampNeg 0) (by rw [nb.1.2.1]; exact Int32.toInt32_toUInt32 _) ?_
  exact W.zret hx hb hr nb.2 (fun t ht hW => ⟨rfl, by rw [ht]; exact hP, hS.F ht⟩) hS.2.2 nd_ch1_14

theorem nm_cha (l : Launch) (M1 : fs_M) {i : Nat} {k : Int32} (hi : i < 5) (hk : ¬ k < 0) (hkl : k.toNatClampNeg < fs_slen.getD i 0) : Met l ny_cha (Cond.code ny_cha prog_13_method_56_code 2 (some .char) :: fs_good) (fs_nr 3) (nPc (dC := dC) (dI := dI) (o := o) (sa := sa) (sv := sv) (cA := cA) (cB := cB) M1 [.ref (sa i), .int k]) (nQc (dC := dC) (dI := dI) (o := o) (cA := cA) (cB := cB) M1 (some (.int ((fs_bytes.getD i []).getD k.toNatClampNeg 0)))) 0 0 (fun q => o ≤ q) := by
  refine va_MetF (cc := prog_13_method_56_code) (maxL := 2) (ret := (some .char)) (by decide +kernel) rfl ?_
  intro p e s m args below meth c s₁ B hml hv
  obtain ⟨rfl, hP, hX⟩ := hv
  have hY := hX.2.2.2.2
  have hx := B.exec
  have hb := B.bytes
  have hr := B.returns
  have hts0 := atoms_spec (ws := Cond.code ny_cha prog_13_method_56_code 2 (some .char) :: fs_good) B.pre
  have hts : ∀ w ∈ fs_good, w.before ([.ref (sa i), .int k] : List Value).toArray s = true := fun w hw => hts0 w (List.mem_cons_of_mem _ hw)
  have hown : s.vm.findClass "java/lang/String" = some m.cls := findClass_of_methodNamed B.named
  have hlocks := B.notSynchronized
  have hS : va_S (fun q => o ≤ q) s.heap s.heap [] := va_S.rf
  have hl := lv_entry ([.ref (sa i), .int k]) (n := 2) (Nat.le_of_ble_eq_true rfl)
  rw [lg_entry_eq]
  generalize (lg_sl ([.ref (sa i), .int k]) ++ List.replicate (2 - (lg_sl ([.ref (sa i), .int k])).length) Slot.unset).toArray = ls at hl ⊢
  have hl : lv_has ls 2 [(0, .ref (sa i)), (1, .int k)] := hl
  have n5 := ns_le ⟨i, hi⟩
  simp only at n5
  have nb := nb_ok ⟨i, hi⟩ ⟨k.toNatClampNeg, by omega⟩ hkl
  simp only at nb
  have hkb : k < Int32.ofNat (fs_slen.getD i 0) := by
    have h1 : k.toInt = (k.toNatClampNeg : Int) := by
      rw [Int32.toNatClampNeg]
      have h0 : ¬ k.toInt < 0 := fun h => hk (Int32.lt_iff_toInt_lt.mpr h)
      omega
    rw [Int32.lt_iff_toInt_lt, h1, Int32.toInt_ofNat_of_lt (by omega)]
    omega
  refine lv_aload_n hx hb nd_cha_0 rfl (lv_at hl 0 rfl) ?_
  refine fs_go (v := (some (.int 1))) (rest := []) (Pw := fun Hx => va_P (dC, dI) vwCl (fs_ws o cA cB M1) Hx) (a := ([.ref (sa i)] : List Value).toArray) (A := fun q => o ≤ q) (va_runV (As := []) (rest := []) ⟨hx, hb, hml, hown, hts⟩ (nm_lat l M1 hi) ⟨callB_of 0 hts (fs_goodIn nw_c_lat) rfl rfl rfl (hts _ nw_n_S) (hts _ nw_l_lat) ⟨by decide, by decide, by decide +kernel⟩ ⟨by show _ ≤ _; decide, by show _ ≤ _; decide⟩, hts _ nw_i_lat, hts _ nw_s_lat⟩ ⟨nPc.bl, vk_recv hX.2.2.2.1 hi hS, fun U hU hW => ⟨rfl, by rw [hU]; exact hP, hX.warm hW hS hU⟩⟩ rfl rfl hl.1 rfl (Nat.le_of_ble_eq_true rfl) nd_cha_1 ⟨Nat.le_refl _, Nat.le_refl _⟩) hS (fun H locs hP hS => ?_)
  refine lv_if_eq hx hb nd_cha_4 (tgt := 16) rfl (fun h => absurd h (by decide)) (fun _ => ?_)
  refine lv_aload_n hx hb nd_cha_7 rfl (lv_at hl 0 rfl) ?_
  refine vk_getf hx hb (hX.2.2.2.1.1 i hi).2.2.1 hS hown (hts _ nw_f_value) (fun _ h9 => h9) nd_cha_8 ?_
  refine lv_iload_n hx hb nd_cha_11 rfl (lv_at hl 1 rfl) ?_
  refine fs_go (v := (some (.int ((fs_bytes.getD i []).getD k.toNatClampNeg 0)))) (rest := []) (Pw := fun Hx => va_P (dC, dI) vwCl (fs_ws o cA cB M1) Hx) (a := ([.ref (sv i), .int k] : List Value).toArray) (A := fun q => o ≤ q) (va_runS (As := [.ref (sv i), .int k]) (rest := []) ⟨hx, hb, hml, hown, hts⟩ (nm_ch1 l M1 hi hk hkl) ⟨callB_of 2 hts (fs_goodIn nw_c_ch1) rfl rfl rfl (hts _ nw_n_L) (hts _ nw_l_ch1) ⟨by decide, by decide, by decide +kernel⟩ ⟨by show _ ≤ _; decide, by show _ ≤ _; decide⟩, hts _ nw_t_ch1⟩ ⟨nPc.bl, fun U hU hW => ⟨rfl, by rw [hU]; exact hP, hX.warm hW hS hU⟩⟩ rfl rfl hl.1 rfl (Nat.le_of_ble_eq_true rfl) nd_cha_12 ⟨Nat.le_refl _, Nat.le_refl _⟩) hS (fun H locs hP hS => ?_)
  exact W.zret hx hb hr nb.2 (fun t ht hW => ⟨rfl, by rw [ht]; exact hP, hS.F ht⟩) hS.2.2 nd_cha_15

theorem nn_32 {x : UInt32} (h : x &&& 0x7fffffff ≤ 0x7f800000) : Op.cmpValue (FP.fcmp x x) .l = 0 := by
  have hm : (x &&& 0x7fffffff).toNat = x.toNat % 2 ^ 31 := by
    rw [UInt32.toNat_and]
    exact Nat.and_two_pow_sub_one_eq_mod x.toNat 31
  have h2 : x.toNat % 2 ^ 31 ≤ 2139095040 := by rw [← hm]; exact UInt32.le_iff_toNat_le.mp h
  have nn : FP.Core.decode FP.Core.b32 x.toNat ≠ .nan := by
    unfold FP.Core.decode
    have e1 : FP.Core.fieldE FP.Core.b32 x.toNat = x.toNat / 2 ^ 23 % 2 ^ 8 := rfl
    have e2 : FP.Core.fieldT FP.Core.b32 x.toNat = x.toNat % 2 ^ 23 := rfl
    have e3 : FP.Core.b32.exps - 1 = 255 := rfl
    rw [e1, e2, e3]
    by_cases z : x.toNat / 2 ^ 23 % 2 ^ 8 = 255
    · rw [if_pos z, if_pos (by omega)]
      exact fun y => by cases y
    · rw [if_neg z]
      split <;> exact fun y => by cases y
  have key : FP.fcmp x x = some .eq := by
    show FP.Core.order (FP.Core.decode FP.Core.b32 x.toNat) (FP.Core.decode FP.Core.b32 x.toNat) = _
    have cs : ∀ a : Int, compare a a = .eq := fun a => by
      show (if a < a then Ordering.lt else if a = a then .eq else .gt) = _
      rw [if_neg (by omega), if_pos rfl]
    cases hd : FP.Core.decode FP.Core.b32 x.toNat with
    | nan => exact absurd hd nn
    | inf s => exact congrArg some (cs _)
    | fin s c q => exact congrArg some (cs _)
  rw [key]
  decide
theorem nn_64 {x : UInt64} (h : x &&& 0x7fffffffffffffff ≤ 0x7ff0000000000000) : Op.cmpValue (FP.dcmp x x) .l = 0 := by
  have hm : (x &&& 0x7fffffffffffffff).toNat = x.toNat % 2 ^ 63 := by
    rw [UInt64.toNat_and]
    exact Nat.and_two_pow_sub_one_eq_mod x.toNat 63
  have h2 : x.toNat % 2 ^ 63 ≤ 9218868437227405312 := by rw [← hm]; exact UInt64.le_iff_toNat_le.mp h
  have nn : FP.Core.decode FP.Core.b64 x.toNat ≠ .nan := by
    unfold FP.Core.decode
    have e1 : FP.Core.fieldE FP.Core.b64 x.toNat = x.toNat / 2 ^ 52 % 2 ^ 11 := rfl
    have e2 : FP.Core.fieldT FP.Core.b64 x.toNat = x.toNat % 2 ^ 52 := rfl
    have e3 : FP.Core.b64.exps - 1 = 2047 := rfl
    rw [e1, e2, e3]
    by_cases z : x.toNat / 2 ^ 52 % 2 ^ 11 = 2047
    · rw [if_pos z, if_pos (by omega)]
      exact fun y => by cases y
    · rw [if_neg z]
      split <;> exact fun y => by cases y
  have key : FP.dcmp x x = some .eq := by
    show FP.Core.order (FP.Core.decode FP.Core.b64 x.toNat) (FP.Core.decode FP.Core.b64 x.toNat) = _
    have cs : ∀ a : Int, compare a a = .eq := fun a => by
      show (if a < a then Ordering.lt else if a = a then .eq else .gt) = _
      rw [if_neg (by omega), if_pos rfl]
    cases hd : FP.Core.decode FP.Core.b64 x.toNat with
    | nan => exact absurd hd nn
    | inf s => exact congrArg some (cs _)
    | fin s c q => exact congrArg some (cs _)
  rw [key]
  decide
theorem nm_fna (l : Launch) (M1 : fs_M) {x : UInt32} (hnn : x &&& 0x7fffffff ≤ 0x7f800000) : Met l ny_fna (Cond.code ny_fna prog_10_method_6_code 1 (some .boolean) :: fs_good) (fs_nr 0) (nPc (dC := dC) (dI := dI) (o := o) (sa := sa) (sv := sv) (cA := cA) (cB := cB) M1 [.float x]) (nQc (dC := dC) (dI := dI) (o := o) (cA := cA) (cB := cB) M1 (some (.int 0))) 0 0 (fun q => o ≤ q) := by
  refine va_MetF (cc := prog_10_method_6_code) (maxL := 1) (ret := (some .boolean)) (by decide +kernel) rfl ?_
  intro p e s m args below meth c s₁ B hml hv
  obtain ⟨rfl, hP, hX⟩ := hv
  have hY := hX.2.2.2.2
  have hx := B.exec
  have hb := B.bytes
  have hr := B.returns
  have hts0 := atoms_spec (ws := Cond.code ny_fna prog_10_method_6_code 1 (some .boolean) :: fs_good) B.pre
  have hts : ∀ w ∈ fs_good, w.before ([.float x] : List Value).toArray s = true := fun w hw => hts0 w (List.mem_cons_of_mem _ hw)
  have hown : s.vm.findClass "java/lang/Float" = some m.cls := findClass_of_methodNamed B.named
  have hlocks := B.notSynchronized
  have hS : va_S (fun q => o ≤ q) s.heap s.heap [] := va_S.rf
  have hl := lv_entry ([.float x]) (n := 1) (Nat.le_of_ble_eq_true rfl)
  rw [lg_entry_eq]
  generalize (lg_sl ([.float x]) ++ List.replicate (1 - (lg_sl ([.float x])).length) Slot.unset).toArray = ls at hl ⊢
  have hl : lv_has ls 1 [(0, .float x)] := hl
  refine lv_fload_n hx hb nd_fna_0 rfl (lv_at hl 0 rfl) ?_
  refine lv_fload_n hx hb nd_fna_1 rfl (lv_at hl 0 rfl) ?_
  refine lv_fcmp hx hb nd_fna_2 ?_
  rw [nn_32 hnn]
  refine lv_if_eq hx hb nd_fna_3 (tgt := 10) rfl (fun _ => ?_) (fun h => absurd rfl h)
  refine lv_iconst hx hb nd_fna_10 (v := 0) rfl ?_
  exact W.zret hx hb hr rfl (fun t ht hW => ⟨rfl, by rw [ht]; exact hP, hS.F ht⟩) hS.2.2 nd_fna_11

theorem nm_fbi (l : Launch) (M1 : fs_M) {x : UInt32} (hnn : x &&& 0x7fffffff ≤ 0x7f800000) : Met l ny_fbi (Cond.code ny_fbi prog_10_method_24_code 1 (some .int) :: fs_good) (fs_nr 1) (nPc (dC := dC) (dI := dI) (o := o) (sa := sa) (sv := sv) (cA := cA) (cB := cB) M1 [.float x]) (nQc (dC := dC) (dI := dI) (o := o) (cA := cA) (cB := cB) M1 (some (.int x.toInt32))) 0 0 (fun q => o ≤ q) := by
  refine va_MetF (cc := prog_10_method_24_code) (maxL := 1) (ret := (some .int)) (by decide +kernel) rfl ?_
  intro p e s m args below meth c s₁ B hml hv
  obtain ⟨rfl, hP, hX⟩ := hv
  have hY := hX.2.2.2.2
  have hx := B.exec
  have hb := B.bytes
  have hr := B.returns
  have hts0 := atoms_spec (ws := Cond.code ny_fbi prog_10_method_24_code 1 (some .int) :: fs_good) B.pre
  have hts : ∀ w ∈ fs_good, w.before ([.float x] : List Value).toArray s = true := fun w hw => hts0 w (List.mem_cons_of_mem _ hw)
  have hown : s.vm.findClass "java/lang/Float" = some m.cls := findClass_of_methodNamed B.named
  have hlocks := B.notSynchronized
  have hS : va_S (fun q => o ≤ q) s.heap s.heap [] := va_S.rf
  have hl := lv_entry ([.float x]) (n := 1) (Nat.le_of_ble_eq_true rfl)
  rw [lg_entry_eq]
  generalize (lg_sl ([.float x]) ++ List.replicate (1 - (lg_sl ([.float x])).length) Slot.unset).toArray = ls at hl ⊢
  have hl : lv_has ls 1 [(0, .float x)] := hl
  refine lv_fload_n hx hb nd_fbi_0 rfl (lv_at hl 0 rfl) ?_
  refine fs_go (v := (some (.int 0))) (rest := []) (Pw := fun Hx => va_P (dC, dI) vwCl (fs_ws o cA cB M1) Hx) (a := ([.float x] : List Value).toArray) (A := fun q => o ≤ q) (va_runS (As := [.float x]) (rest := []) ⟨hx, hb, hml, hown, hts⟩ (nm_fna l M1 hnn) ⟨callB_of 1 hts (fs_goodIn nw_c_fna) rfl rfl rfl (hts _ nw_n_F) (hts _ nw_l_fna) ⟨by decide, by decide, by decide +kernel⟩ ⟨by show _ ≤ _; decide, by show _ ≤ _; decide⟩, hts _ nw_t_fna⟩ ⟨nPc.bl, fun U hU hW => ⟨rfl, by rw [hU]; exact hP, hX.warm hW hS hU⟩⟩ rfl rfl hl.1 rfl (Nat.le_of_ble_eq_true rfl) nd_fbi_1 ⟨Nat.le_refl _, Nat.le_refl _⟩) hS (fun H locs hP hS => ?_)
  refine lv_if_ne hx hb nd_fbi_4 (tgt := 12) rfl (fun h => absurd rfl h) (fun _ => ?_)
  refine lv_fload_n hx hb nd_fbi_7 rfl (lv_at hl 0 rfl) ?_
  refine vn_f2i hx hb (hml.trans hl.1.symm) hown (hts _ nw_rf_l) (hts _ nw_rf_n) (hts _ nw_rf_s) (hts _ nw_n_F) (Nat.le_of_ble_eq_true rfl) (Nat.le_of_ble_eq_true rfl) nd_fbi_8 ?_
  exact W.iret hx hb hr (fun t ht hW => ⟨rfl, by rw [ht]; exact hP, hS.F ht⟩) hS.2.2 nd_fbi_11

theorem nm_dna (l : Launch) (M1 : fs_M) {x : UInt64} (hnn : x &&& 0x7fffffffffffffff ≤ 0x7ff0000000000000) : Met l ny_dna (Cond.code ny_dna prog_9_method_6_code 2 (some .boolean) :: fs_good) (fs_nr 0) (nPc (dC := dC) (dI := dI) (o := o) (sa := sa) (sv := sv) (cA := cA) (cB := cB) M1 [.double x]) (nQc (dC := dC) (dI := dI) (o := o) (cA := cA) (cB := cB) M1 (some (.int 0))) 0 0 (fun q => o ≤ q) := by
  refine va_MetF (cc := prog_9_method_6_code) (maxL := 2) (ret := (some .boolean)) (by decide +kernel) rfl ?_
  intro p e s m args below meth c s₁ B hml hv
  obtain ⟨rfl, hP, hX⟩ := hv
  have hY := hX.2.2.2.2
  have hx := B.exec
  have hb := B.bytes
  have hr := B.returns
  have hts0 := atoms_spec (ws := Cond.code ny_dna prog_9_method_6_code 2 (some .boolean) :: fs_good) B.pre
  have hts : ∀ w ∈ fs_good, w.before ([.double x] : List Value).toArray s = true := fun w hw => hts0 w (List.mem_cons_of_mem _ hw)
  have hown : s.vm.findClass "java/lang/Double" = some m.cls := findClass_of_methodNamed B.named
  have hlocks := B.notSynchronized
  have hS : va_S (fun q => o ≤ q) s.heap s.heap [] := va_S.rf
  have hl := lv_entry ([.double x]) (n := 2) (Nat.le_of_ble_eq_true rfl)
  rw [lg_entry_eq]
  generalize (lg_sl ([.double x]) ++ List.replicate (2 - (lg_sl ([.double x])).length) Slot.unset).toArray = ls at hl ⊢
  have hl : lv_has ls 2 [(0, .double x)] := hl
  refine lv_dload_n hx hb nd_dna_0 rfl (lv_at hl 0 rfl) ?_
  refine lv_dload_n hx hb nd_dna_1 rfl (lv_at hl 0 rfl) ?_
  refine lv_dcmp hx hb nd_dna_2 ?_
  rw [nn_64 hnn]
  refine lv_if_eq hx hb nd_dna_3 (tgt := 10) rfl (fun _ => ?_) (fun h => absurd rfl h)
  refine lv_iconst hx hb nd_dna_10 (v := 0) rfl ?_
  exact W.zret hx hb hr rfl (fun t ht hW => ⟨rfl, by rw [ht]; exact hP, hS.F ht⟩) hS.2.2 nd_dna_11

theorem nm_dbi (l : Launch) (M1 : fs_M) {x : UInt64} (hnn : x &&& 0x7fffffffffffffff ≤ 0x7ff0000000000000) : Met l ny_dbi (Cond.code ny_dbi prog_9_method_23_code 2 (some .long) :: fs_good) (fs_nr 1) (nPc (dC := dC) (dI := dI) (o := o) (sa := sa) (sv := sv) (cA := cA) (cB := cB) M1 [.double x]) (nQc (dC := dC) (dI := dI) (o := o) (cA := cA) (cB := cB) M1 (some (.long x.toInt64))) 0 0 (fun q => o ≤ q) := by
  refine va_MetF (cc := prog_9_method_23_code) (maxL := 2) (ret := (some .long)) (by decide +kernel) rfl ?_
  intro p e s m args below meth c s₁ B hml hv
  obtain ⟨rfl, hP, hX⟩ := hv
  have hY := hX.2.2.2.2
  have hx := B.exec
  have hb := B.bytes
  have hr := B.returns
  have hts0 := atoms_spec (ws := Cond.code ny_dbi prog_9_method_23_code 2 (some .long) :: fs_good) B.pre
  have hts : ∀ w ∈ fs_good, w.before ([.double x] : List Value).toArray s = true := fun w hw => hts0 w (List.mem_cons_of_mem _ hw)
  have hown : s.vm.findClass "java/lang/Double" = some m.cls := findClass_of_methodNamed B.named
  have hlocks := B.notSynchronized
  have hS : va_S (fun q => o ≤ q) s.heap s.heap [] := va_S.rf
  have hl := lv_entry ([.double x]) (n := 2) (Nat.le_of_ble_eq_true rfl)
  rw [lg_entry_eq]
  generalize (lg_sl ([.double x]) ++ List.replicate (2 - (lg_sl ([.double x])).length) Slot.unset).toArray = ls at hl ⊢
  have hl : lv_has ls 2 [(0, .double x)] := hl
  refine lv_dload_n hx hb nd_dbi_0 rfl (lv_at hl 0 rfl) ?_
  refine fs_go (v := (some (.int 0))) (rest := []) (Pw := fun Hx => va_P (dC, dI) vwCl (fs_ws o cA cB M1) Hx) (a := ([.double x] : List Value).toArray) (A := fun q => o ≤ q) (va_runS (As := [.double x]) (rest := []) ⟨hx, hb, hml, hown, hts⟩ (nm_dna l M1 hnn) ⟨callB_of 1 hts (fs_goodIn nw_c_dna) rfl rfl rfl (hts _ nw_n_D) (hts _ nw_l_dna) ⟨by decide, by decide, by decide +kernel⟩ ⟨by show _ ≤ _; decide, by show _ ≤ _; decide⟩, hts _ nw_t_dna⟩ ⟨nPc.bl, fun U hU hW => ⟨rfl, by rw [hU]; exact hP, hX.warm hW hS hU⟩⟩ rfl rfl hl.1 rfl (Nat.le_of_ble_eq_true rfl) nd_dbi_1 ⟨Nat.le_refl _, Nat.le_refl _⟩) hS (fun H locs hP hS => ?_)
  refine lv_if_ne hx hb nd_dbi_4 (tgt := 12) rfl (fun h => absurd rfl h) (fun _ => ?_)
  refine lv_dload_n hx hb nd_dbi_7 rfl (lv_at hl 0 rfl) ?_
  refine vn_d2l hx hb (hml.trans hl.1.symm) hown (hts _ nw_rd_l) (hts _ nw_rd_n) (hts _ nw_rd_s) (hts _ nw_n_D) (Nat.le_of_ble_eq_true rfl) (Nat.le_of_ble_eq_true rfl) nd_dbi_8 ?_
  exact W.lret hx hb hr (fun t ht hW => ⟨rfl, by rw [ht]; exact hP, hS.F ht⟩) hS.2.2 nd_dbi_11

theorem ni_900 {as : List fs_V} {v : fs_V} (h : fs_nat 900 as = some v) : ∃ r : Nat, as = [.inr (.ref r)] ∧ (1000 ≤ r ∧ r < 1005) ∧ v = .inl ((fs_slen.getD (r - 1000) 0 : Nat) : Int) := by
  replace h : (match (generalizing := false) as with | [.inr (.ref r)] => if 1000 ≤ r ∧ r < 1005 then some (.inl ((fs_slen.getD (r - 1000) 0 : Nat) : Int) : fs_V) else none | _ => none) = some v := h
  split at h
  · rename_i r
    split at h
    · rename_i hr
      cases h
      exact ⟨r, rfl, hr, rfl⟩
    · cases h
  · cases h
theorem ni_901 {as : List fs_V} {v : fs_V} (h : fs_nat 901 as = some v) : ∃ (r : Nat) (i : Int), as = [.inr (.ref r), .inl i] ∧ ((1000 ≤ r ∧ r < 1005) ∧ 0 ≤ i ∧ i < ((fs_slen.getD (r - 1000) 0 : Nat) : Int)) ∧ v = .inl ((fs_bytes.getD (r - 1000) []).getD i.toNat 0).toInt := by
  replace h : (match (generalizing := false) as with | [.inr (.ref r), .inl i] => if (1000 ≤ r ∧ r < 1005) ∧ 0 ≤ i ∧ i < ((fs_slen.getD (r - 1000) 0 : Nat) : Int) then some (.inl ((fs_bytes.getD (r - 1000) []).getD i.toNat 0).toInt : fs_V) else none | _ => none) = some v := h
  split at h
  · rename_i r i
    split at h
    · rename_i hr
      cases h
      exact ⟨r, i, rfl, hr, rfl⟩
    · cases h
  · cases h
theorem ni_902 {as : List fs_V} {v : fs_V} (h : fs_nat 902 as = some v) : ∃ x, as = [.inr (.float x)] ∧ x &&& 0x7fffffff ≤ 0x7f800000 ∧ v = .inl x.toInt32.toInt := by
  replace h : (match (generalizing := false) as with | [.inr (.float x)] => if x &&& 0x7fffffff ≤ 0x7f800000 then some (.inl x.toInt32.toInt : fs_V) else none | _ => none) = some v := h
  split at h
  · rename_i x
    split at h
    · rename_i hr
      cases h
      exact ⟨x, rfl, hr, rfl⟩
    · cases h
  · cases h
theorem ni_903 {as : List fs_V} {v : fs_V} (h : fs_nat 903 as = some v) : ∃ x, as = [.inr (.double x)] ∧ x &&& 0x7fffffffffffffff ≤ 0x7ff0000000000000 ∧ v = .inr (.long x.toInt64) := by
  replace h : (match (generalizing := false) as with | [.inr (.double x)] => if x &&& 0x7fffffffffffffff ≤ 0x7ff0000000000000 then some (.inr (.long x.toInt64) : fs_V) else none | _ => none) = some v := h
  split at h
  · rename_i x
    split at h
    · rename_i hr
      cases h
      exact ⟨x, rfl, hr, rfl⟩
    · cases h
  · cases h
theorem ni_904 {as : List fs_V} {v : fs_V} (h : fs_nat 904 as = some v) : ∃ x y, as = [.inl x, .inl y] ∧ v = .inl (max x y) := by
  replace h : (match (generalizing := false) as with | [.inl x, .inl y] => some (.inl (max x y) : fs_V) | _ => none) = some v := h
  split at h
  · rename_i x y
    cases h
    exact ⟨x, y, rfl, rfl⟩
  · cases h
theorem ni_905 {as : List fs_V} {v : fs_V} (h : fs_nat 905 as = some v) : ∃ x y, as = [.inl x, .inl y] ∧ v = .inl (min x y) := by
  replace h : (match (generalizing := false) as with | [.inl x, .inl y] => some (.inl (min x y) : fs_V) | _ => none) = some v := h
  split at h
  · rename_i x y
    cases h
    exact ⟨x, y, rfl, rfl⟩
  · cases h
/-- a JDK method that has a law of its own -/
theorem fs_natW {p : Program} {l : Launch} {e : Env} {R : Room} {s : State} {m : MethodId} {args : Array Value} {below : List Frame} {meth : Method} {c : Code} {H : Heap} {locs : List Loc} {cells slots : Nat} {Q : State → Prop} {own : String} {cc : ByteArray} {sta : Bool} {idx k : Nat} {pl b : Nat} {as rest : List fs_V} {v : fs_V} {pc : Nat} {ls : Array Slot} {M1 : fs_M}
    (hx : p.tables.exec = Jvm.exec) (hb : c.code = cc) (hml : c.maxLocals = ls.size) (hown : s.vm.findClass own = some m.cls) (hts : ∀ w ∈ fs_good, w.before args s = true) (hX : fs_X dC dI o sa sv cA cB s)
    (hk : 900 ≤ k) (hck : (fs_ok (.methodLink own idx (fs_natn k)) pl && decide (k < 906) && (decide (k < 902) == !sta)) = true) (hv : fs_nat k as = some v) (hra : ∀ w ∈ as, fs_vr w)
    (hd : decode cc pc = .ok (if sta then .invokestatic idx else .invokevirtual idx, 3)) (hf : fs_nd k + 1 ≤ R.frames) (hl : 39 * (fs_nd k + 1) ≤ R.locals) (hc : cells ≤ R.cells) (hs : slots ≤ R.slots) (hcat : fs_cats rest ≤ 8) (hP : va_P (dC, dI) vwCl (fs_ws o cA cB M1) H) (hS : va_S (fun q => o ≤ q) s.heap H locs)
    (kk : ∀ (H1 : Heap) (locs1 : List Loc), va_P (dC, dI) vwCl (fs_ws o cA cB M1) H1 → va_S (fun q => o ≤ q) s.heap H1 locs1 → fs_vr v → W p l e R s m args below meth c H1 locs1 cells slots Q (F0 m (pc + 3) ls (fs_tv (fs_ad o b sa) v :: rest.map (fs_tv (fs_ad o b sa))))) :
    W p l e R s m args below meth c H locs cells slots Q (F0 m pc ls ((as.reverse ++ rest).map (fs_tv (fs_ad o b sa)))) := by
  have hcatl : ((rest.map (fs_tv (fs_ad o b sa))).map fun v => v.category).sum ≤ 8 := by
    rw [List.map_map, show ((fun v => Value.category v) ∘ fs_tv (fs_ad o b sa)) = fs_cat from funext (fs_tv_cat _)]
    exact hcat
  have hroom := lv_room (m := m) (pc := pc) (ls := ls) (rest := (as.reverse ++ rest).map (fs_tv (fs_ad o b sa))) hcatl
  simp only [Bool.and_eq_true, decide_eq_true_eq, beq_iff_eq] at hck
  obtain ⟨⟨h1, h2⟩, h3⟩ := hck
  have hlk := hts _ (fs_ok_mem h1)
  have six : k = 900 ∨ k = 901 ∨ k = 902 ∨ k = 903 ∨ k = 904 ∨ k = 905 := by omega
  have ad : ∀ r, 1000 ≤ r → fs_ad o b sa r = sa (r - 1000) := fun r hr => by
    unfold fs_ad
    rw [if_neg (by unfold fs_N; omega), if_neg (by omega)]
  rcases six with e | e | e | e | e | e <;> subst e
  · replace h3 : true = !sta := h3
    cases sta
    · obtain ⟨r, rfl, hr, rfl⟩ := ni_900 hv
      replace hf : 2 ≤ R.frames := hf
      replace hl : 78 ≤ R.locals := hl
      have n5 := ns_le ⟨r - 1000, by omega⟩
      simp only at n5
      refine fs_go (v := (some (.int (Int32.ofNat (fs_slen.getD (r - 1000) 0))))) (rest := rest.map (fs_tv (fs_ad o b sa))) (Pw := fun Hx => va_P (dC, dI) vwCl (fs_ws o cA cB M1) Hx) (a := ([.ref (sa (r - 1000))] : List Value).toArray) (A := fun q => o ≤ q) (va_runV (As := []) (rest := rest.map (fs_tv (fs_ad o b sa))) ⟨hx, hb, hml, hown, hts⟩ (nm_len l M1 (i := r - 1000) (by omega)) ⟨callB_of 0 hts (fs_goodIn nw_c_len) rfl rfl rfl (hts _ nw_n_S) hlk ⟨by decide, by decide, by decide +kernel⟩ ⟨by show 1 + 1 ≤ _; omega, by show 8 + (1 + 11) + 39 * 1 ≤ _; omega⟩, hts _ nw_i_len, hts _ nw_s_len⟩ ⟨nPc.bl, vk_recv hX.2.2.2.1 (show r - 1000 < 5 by omega) hS, fun U hU hW => ⟨rfl, by rw [hU]; exact hP, hX.warm hW hS hU⟩⟩ rfl rfl rfl (by show _ = _; simp [F0, fs_tv, ad r hr.1]) hroom hd ⟨by omega, by omega⟩) hS (fun H1 locs1 hP1 hS1 => ?_)
      have w := kk H1 locs1 hP1 hS1 (by show fs_rg _; unfold fs_rg; omega)
      exact w
    · cases h3
  · replace h3 : true = !sta := h3
    cases sta
    · obtain ⟨r, i, rfl, hr, rfl⟩ := ni_901 hv
      replace hf : 4 ≤ R.frames := hf
      replace hl : 156 ≤ R.locals := hl
      have n5 := ns_le ⟨r - 1000, by omega⟩
      simp only at n5
      have ti : (Int32.ofInt i).toInt = i := Int32.toInt_ofInt_of_le (by omega) (by omega)
      have k0 : ¬ Int32.ofInt i < 0 := fun h => by
        have w := Int32.lt_iff_toInt_lt.mp h
        rw [ti] at w
        have z : (0 : Int32).toInt = 0 := by decide
        omega
      have k1 : (Int32.ofInt i).toNatClampNeg = i.toNat := by rw [Int32.toNatClampNeg, ti]
      have nb := nb_ok ⟨r - 1000, by omega⟩ ⟨i.toNat, by omega⟩ (by show i.toNat < fs_slen.getD (r - 1000) 0; omega)
      simp only at nb
      refine fs_go (v := (some (.int ((fs_bytes.getD (r - 1000) []).getD (Int32.ofInt i).toNatClampNeg 0)))) (rest := rest.map (fs_tv (fs_ad o b sa))) (Pw := fun Hx => va_P (dC, dI) vwCl (fs_ws o cA cB M1) Hx) (a := ([.ref (sa (r - 1000)), .int (Int32.ofInt i)] : List Value).toArray) (A := fun q => o ≤ q) (va_runV (As := [.int (Int32.ofInt i)]) (rest := rest.map (fs_tv (fs_ad o b sa))) ⟨hx, hb, hml, hown, hts⟩ (nm_cha l M1 (i := r - 1000) (k := Int32.ofInt i) (by omega) k0 (by omega)) ⟨callB_of 1 hts (fs_goodIn nw_c_cha) rfl rfl rfl (hts _ nw_n_S) hlk ⟨by decide, by decide, by decide +kernel⟩ ⟨by show 3 + 1 ≤ _; omega, by show 8 + (2 + 11) + 39 * 3 ≤ _; omega⟩, hts _ nw_i_cha, hts _ nw_s_cha⟩ ⟨nPc.bl, vk_recv hX.2.2.2.1 (show r - 1000 < 5 by omega) hS, fun U hU hW => ⟨rfl, by rw [hU]; exact hP, hX.warm hW hS hU⟩⟩ rfl rfl rfl (by show _ = _; simp [F0, fs_tv, ad r hr.1.1]) hroom hd ⟨by omega, by omega⟩) hS (fun H1 locs1 hP1 hS1 => ?_)
      have w := kk H1 locs1 hP1 hS1 (by show fs_rg _; unfold fs_rg; omega)
      rw [k1]
      have e9 : fs_tv (fs_ad o b sa) (.inl ((fs_bytes.getD (r - 1000) []).getD i.toNat 0).toInt) = .int ((fs_bytes.getD (r - 1000) []).getD i.toNat 0) := by
        show Value.int (Int32.ofInt _) = _
        rw [Int32.ofInt_toInt]
      rw [e9] at w
      exact w
    · cases h3
  · replace h3 : false = !sta := h3
    cases sta
    · cases h3
    · obtain ⟨x, rfl, hr, rfl⟩ := ni_902 hv
      replace hf : 2 ≤ R.frames := hf
      replace hl : 78 ≤ R.locals := hl
      refine fs_go (v := (some (.int x.toInt32))) (rest := rest.map (fs_tv (fs_ad o b sa))) (Pw := fun Hx => va_P (dC, dI) vwCl (fs_ws o cA cB M1) Hx) (a := ([.float x] : List Value).toArray) (A := fun q => o ≤ q) (va_runS (As := [.float x]) (rest := rest.map (fs_tv (fs_ad o b sa))) ⟨hx, hb, hml, hown, hts⟩ (nm_fbi l M1 hr) ⟨callB_of 1 hts (fs_goodIn nw_c_fbi) rfl rfl rfl (hts _ nw_n_F) hlk ⟨by decide, by decide, by decide +kernel⟩ ⟨by show 1 + 1 ≤ _; omega, by show 8 + (1 + 11) + 39 * 1 ≤ _; omega⟩, hts _ nw_t_fbi⟩ ⟨nPc.bl, fun U hU hW => ⟨rfl, by rw [hU]; exact hP, hX.warm hW hS hU⟩⟩ rfl rfl rfl rfl hroom hd ⟨by omega, by omega⟩) hS (fun H1 locs1 hP1 hS1 => ?_)
      have w := kk H1 locs1 hP1 hS1 (by show fs_rg _; have a := Int32.le_toInt x.toInt32; have b := Int32.toInt_le x.toInt32; have z1 : Int32.maxValue.toInt = 2147483647 := (by decide); have z2 : Int32.minValue.toInt = -2147483648 := (by decide); unfold fs_rg; omega)
      have e9 : fs_tv (fs_ad o b sa) (.inl x.toInt32.toInt) = .int x.toInt32 := by
        show Value.int (Int32.ofInt _) = _
        rw [Int32.ofInt_toInt]
      rw [e9] at w
      exact w
  · replace h3 : false = !sta := h3
    cases sta
    · cases h3
    · obtain ⟨x, rfl, hr, rfl⟩ := ni_903 hv
      replace hf : 2 ≤ R.frames := hf
      replace hl : 78 ≤ R.locals := hl
      refine fs_go (v := (some (.long x.toInt64))) (rest := rest.map (fs_tv (fs_ad o b sa))) (Pw := fun Hx => va_P (dC, dI) vwCl (fs_ws o cA cB M1) Hx) (a := ([.double x] : List Value).toArray) (A := fun q => o ≤ q) (va_runS (As := [.double x]) (rest := rest.map (fs_tv (fs_ad o b sa))) ⟨hx, hb, hml, hown, hts⟩ (nm_dbi l M1 hr) ⟨callB_of 1 hts (fs_goodIn nw_c_dbi) rfl rfl rfl (hts _ nw_n_D) hlk ⟨by decide, by decide, by decide +kernel⟩ ⟨by show 1 + 1 ≤ _; omega, by show 8 + (2 + 11) + 39 * 1 ≤ _; omega⟩, hts _ nw_t_dbi⟩ ⟨nPc.bl, fun U hU hW => ⟨rfl, by rw [hU]; exact hP, hX.warm hW hS hU⟩⟩ rfl rfl rfl rfl hroom hd ⟨by omega, by omega⟩) hS (fun H1 locs1 hP1 hS1 => ?_)
      exact kk H1 locs1 hP1 hS1 trivial
  · replace h3 : false = !sta := h3
    cases sta
    · cases h3
    · obtain ⟨x, y, rfl, rfl⟩ := ni_904 hv
      replace hf : 1 ≤ R.frames := hf
      replace hl : 39 ≤ R.locals := hl
      have rx : fs_rg x := hra (.inl x) List.mem_cons_self
      have ry : fs_rg y := hra (.inl y) (List.mem_cons_of_mem _ List.mem_cons_self)
      unfold fs_rg at rx ry
      refine va_mmax hx hb hml hown hlk (hts _ nw_mx_s) (hts _ nw_n_M) (by rw [← mx_code]; exact hts _ nw_mx_c) hf (by show ((rest.map (fs_tv (fs_ad o b sa))).map fun v => v.category).sum + 13 ≤ _; omega) hc hs hd ?_
      have w := kk H locs hP hS (by show fs_rg _; unfold fs_rg; omega)
      have e9 : fs_tv (fs_ad o b sa) (.inl (max x y)) = .int (if Int32.ofInt x < Int32.ofInt y then Int32.ofInt y else Int32.ofInt x) := by
        show Value.int (Int32.ofInt (max x y)) = _
        have t : Int32.ofInt x < Int32.ofInt y ↔ x < y := by
          rw [Int32.lt_iff_toInt_lt, Int32.toInt_ofInt_of_le (by omega) (by omega), Int32.toInt_ofInt_of_le (by omega) (by omega)]
        by_cases z : x < y
        · rw [if_pos (t.mpr z), show max x y = y by omega]
        · rw [if_neg (fun h => z (t.mp h)), show max x y = x by omega]
      rw [e9] at w
      exact w
  · replace h3 : false = !sta := h3
    cases sta
    · cases h3
    · obtain ⟨x, y, rfl, rfl⟩ := ni_905 hv
      replace hf : 1 ≤ R.frames := hf
      replace hl : 39 ≤ R.locals := hl
      have rx : fs_rg x := hra (.inl x) List.mem_cons_self
      have ry : fs_rg y := hra (.inl y) (List.mem_cons_of_mem _ List.mem_cons_self)
      unfold fs_rg at rx ry
      refine va_mmin hx hb hml hown hlk (hts _ nw_mn_s) (hts _ nw_n_M) (by rw [← mn_code]; exact hts _ nw_mn_c) hf (by show ((rest.map (fs_tv (fs_ad o b sa))).map fun v => v.category).sum + 13 ≤ _; omega) hc hs hd ?_
      have w := kk H locs hP hS (by show fs_rg _; unfold fs_rg; omega)
      have e9 : fs_tv (fs_ad o b sa) (.inl (min x y)) = .int (if Int32.ofInt y < Int32.ofInt x then Int32.ofInt y else Int32.ofInt x) := by
        show Value.int (Int32.ofInt (min x y)) = _
        have t : Int32.ofInt y < Int32.ofInt x ↔ y < x := by
          rw [Int32.lt_iff_toInt_lt, Int32.toInt_ofInt_of_le (by omega) (by omega), Int32.toInt_ofInt_of_le (by omega) (by omega)]
        by_cases z : y < x
        · rw [if_pos (t.mpr z), show min x y = y by omega]
        · rw [if_neg (fun h => z (t.mp h)), show min x y = x by omega]
      rw [e9] at w
      exact w
end FsNat
