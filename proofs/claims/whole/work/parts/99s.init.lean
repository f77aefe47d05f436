theorem fs_dI3_0 : decode prog_5_method_1_code 0 = .ok (.aload_n 0, 1) := by decide +kernel
theorem fs_dI3_1 : decode prog_5_method_1_code 1 = .ok (.invokespecial 3, 3) := by decide +kernel
theorem fs_dI3_4 : decode prog_5_method_1_code 4 = .ok (.aload_n 0, 1) := by decide +kernel
theorem fs_dI3_5 : decode prog_5_method_1_code 5 = .ok (.iconst 4, 1) := by decide +kernel
theorem fs_dI3_6 : decode prog_5_method_1_code 6 = .ok (.newarray .int, 2) := by decide +kernel
theorem fs_dI3_8 : decode prog_5_method_1_code 8 = .ok (.putfield 9, 3) := by decide +kernel
theorem fs_dI3_11 : decode prog_5_method_1_code 11 = .ok (.aload_n 0, 1) := by decide +kernel
theorem fs_dI3_12 : decode prog_5_method_1_code 12 = .ok (.iconst 0, 1) := by decide +kernel
theorem fs_dI3_13 : decode prog_5_method_1_code 13 = .ok (.putfield 15, 3) := by decide +kernel
theorem fs_dI3_16 : decode prog_5_method_1_code 16 = .ok (.return_, 1) := by decide +kernel
set_option maxHeartbeats 4000000 in
set_option maxRecDepth 100000 in
theorem fs_init_3 (l : Launch) {dC : Nat → ClassId} {dI : Nat → Nat → Nat} {o n r0 : Nat} {cA cB : ClassId} {E E' : Nat → va_E} (hr : r0 < n) (h0 : E r0 = .inr (3, fs_df 3)) (hE : ∀ q, q < n → q ≠ r0 → E' q = E q) (h1 : E' r0 = .inr (3, [.ref (o + (n + 0)), .int 0])) (ha : ∀ j, j < 1 → E' (n + j) = .inl (cA, ([4] : List Nat).getD j 0, .inl (fun _ => 0))) :
    Met l (⟨"FireSale$State", "<init>", "()V"⟩ : MethodName) (Cond.code (⟨"FireSale$State", "<init>", "()V"⟩ : MethodName) prog_5_method_1_code 1 none :: fs_good) ({ frames := 1, cells := 1, slots := 4, locals := 12 }) (va_Pc [.ref (o + r0)] (fun U => (U.heap.size = o + n ∧ va_P (dC, dI) vwCl (fs_wz o n E) U.heap) ∧ va_K (dC, dI) vwCl (fs_tys cA cB) U)) (va_Qv (fun _ : Unit => True) (fun _ t => t.heap.size = o + (n + 1) ∧ va_P (dC, dI) vwCl (fs_wz o (n + 1) E') t.heap) (fun q => o ≤ q)) 1 4 (fun q => o ≤ q) := by
  refine Met.ofW (cc := prog_5_method_1_code) (maxL := 1) (ret := none) (by decide) rfl ?_
  intro p e s m args below meth c s₁ B hml hv
  obtain ⟨rfl, ⟨hz, hP⟩, hK⟩ := hv
  have hx := B.exec
  have hb := B.bytes
  have hret := B.returns
  have hts0 := atoms_spec (ws := Cond.code (⟨"FireSale$State", "<init>", "()V"⟩ : MethodName) prog_5_method_1_code 1 none :: fs_good) B.pre
  have hts : ∀ w ∈ fs_good, w.before ([.ref (o + r0)] : List Value).toArray s = true := fun w hw => hts0 w (List.mem_cons_of_mem _ hw)
  have hown : s.vm.findClass "FireSale$State" = some m.cls := findClass_of_methodNamed B.named
  have hlocks := B.notSynchronized
  have hin : meth.name = "<init>" := (name_of_methodNamed B.named B.method).1
  have ho : o ≤ s.heap.size := by omega
  have hS : va_S (fun q => o ≤ q) s.heap s.heap [] := va_S.rf
  have hc : s.heap.size = s.heap.size + 0 := rfl
  have hl := lv_entry ([.ref (o + r0)]) (n := 1) (Nat.le_of_ble_eq_true rfl)
  rw [lg_entry_eq]
  generalize (lg_sl ([.ref (o + r0)]) ++ List.replicate (1 - (lg_sl ([.ref (o + r0)])).length) Slot.unset).toArray = ls at hl ⊢
  have hl : lv_has ls 1 [(0, .ref (o + r0))] := hl
  have hz : s.heap.size = o + (n + 0) := hz
  have edf : fs_df 3 = [.null, .int 0] := by rfl
  have hP : va_P (dC, dI) vwCl (fs_wz o (n + 0) (fs_ov E' r0 (.inr (3, [.null, .int 0])))) s.heap := by
    have e1 : fs_wz o n E = fs_wz o n (fs_ov E' r0 (.inr (3, [.null, .int 0]))) := fs_wz_congr (fun r hr => by
      by_cases q : r = r0
      · rw [q, fs_ov_at, h0, edf]
      · rw [fs_ov_ne q, hE r hr q])
    rw [e1] at hP
    exact hP
  refine lv_aload_n hx hb fs_dI3_0 rfl (lv_at hl 0 rfl) ?_
  refine W.objInit hx hb hown (hts _ (fs_ok_mem (p := 282) (by decide +kernel))) (hts _ (fs_ok_mem (p := 125) (by decide +kernel))) (hts _ (fs_ok_mem (p := 126) (by decide +kernel))) rfl (by rw [hml]; exact hl.1) rfl fs_dI3_1 (Nat.le_of_ble_eq_true rfl) (Nat.le_of_ble_eq_true rfl) ?_
  refine W.eq (g2 := F0 m 4 ls []) rfl ?_
  refine lv_aload_n hx hb fs_dI3_4 rfl (lv_at hl 0 rfl) ?_
  refine lv_iconst (v := 4) hx hb fs_dI3_5 (by decide +kernel) ?_
  refine fs_newaZ (E := fs_ov E' r0 (.inr (3, [.null, .int 0]))) (n' := n + 1) (N := 4) hx hb hts hK ho rfl hz hc hP hS ((fs_ov_ne (Nat.ne_of_gt (Nat.lt_of_lt_of_le hr (Nat.le_add_right n 0)))).trans (ha 0 (by decide))) (by decide +kernel) (by decide +kernel) (by decide +kernel) (Nat.le_of_ble_eq_true rfl) (Nat.le_of_ble_eq_true rfl) fs_dI3_6 (fun H hz hc hP hS => ?_)
  have hc : H.size = s.heap.size + 1 := hc
  refine W.widen (k := 1) (n := 4) (Nat.le_refl _) (Nat.le_refl _) ?_
  refine fs_putZ (E := E') (r0 := r0) (ci := 3) (k := 0) (ty := .array .int) hx hb hts hown hK hz hc hP hS (Nat.lt_of_lt_of_le hr (Nat.le_add_right n 1)) (by decide) (by decide) rfl (fs_ok_mem (p := 283) (by decide +kernel)) hin (by decide +kernel) (by decide +kernel) rfl rfl fs_dI3_8 (fun H locs hz hc hP hS => ?_)
  have hP : va_P (dC, dI) vwCl (fs_wz o (n + 1) (fs_ov E' r0 (.inr (3, [.ref (o + (n + 0)), .int 0])))) H := hP
  refine lv_aload_n hx hb fs_dI3_11 rfl (lv_at hl 0 rfl) ?_
  refine lv_iconst (v := 0) hx hb fs_dI3_12 (by decide +kernel) ?_
  refine fs_putZ (E := E') (r0 := r0) (ci := 3) (k := 1) (ty := .int) hx hb hts hown hK hz hc hP hS (Nat.lt_of_lt_of_le hr (Nat.le_add_right n 1)) (by decide) (by decide) rfl (fs_ok_mem (p := 286) (by decide +kernel)) hin (by decide +kernel) (by decide +kernel) rfl rfl fs_dI3_13 (fun H locs hz hc hP hS => ?_)
  have hP : va_P (dC, dI) vwCl (fs_wz o (n + 1) (fs_ov E' r0 (.inr (3, [.ref (o + (n + 0)), .int 0])))) H := hP
  have hPf : va_P (dC, dI) vwCl (fs_wz o (n + 1) E') H := by
    have e1 : fs_wz o (n + 1) (fs_ov E' r0 (.inr (3, [.ref (o + (n + 0)), .int 0]))) = fs_wz o (n + 1) E' := fs_wz_congr (fun r hr => by
      by_cases q : r = r0
      · rw [q, fs_ov_at, h1]
      · rw [fs_ov_ne q])
    rw [← e1]
    exact hP
  exact W.vret hx hb hret (fun t ht hW => ⟨⟨(), rfl, trivial, by rw [ht]; exact hz, by rw [ht]; exact hPf⟩, hS.F ht⟩) hS.2.2 fs_dI3_16 hlocks
theorem fs_dI2_0 : decode prog_4_method_1_code 0 = .ok (.aload_n 0, 1) := by decide +kernel
theorem fs_dI2_1 : decode prog_4_method_1_code 1 = .ok (.invokespecial 3, 3) := by decide +kernel
theorem fs_dI2_4 : decode prog_4_method_1_code 4 = .ok (.aload_n 0, 1) := by decide +kernel
theorem fs_dI2_5 : decode prog_4_method_1_code 5 = .ok (.sipush 800, 3) := by decide +kernel
theorem fs_dI2_8 : decode prog_4_method_1_code 8 = .ok (.newarray .int, 2) := by decide +kernel
theorem fs_dI2_10 : decode prog_4_method_1_code 10 = .ok (.putfield 9, 3) := by decide +kernel
theorem fs_dI2_13 : decode prog_4_method_1_code 13 = .ok (.aload_n 0, 1) := by decide +kernel
theorem fs_dI2_14 : decode prog_4_method_1_code 14 = .ok (.iconst 0, 1) := by decide +kernel
theorem fs_dI2_15 : decode prog_4_method_1_code 15 = .ok (.putfield 15, 3) := by decide +kernel
theorem fs_dI2_18 : decode prog_4_method_1_code 18 = .ok (.return_, 1) := by decide +kernel
set_option maxHeartbeats 4000000 in
set_option maxRecDepth 100000 in
theorem fs_init_2 (l : Launch) {dC : Nat → ClassId} {dI : Nat → Nat → Nat} {o n r0 : Nat} {cA cB : ClassId} {E E' : Nat → va_E} (hr : r0 < n) (h0 : E r0 = .inr (2, fs_df 2)) (hE : ∀ q, q < n → q ≠ r0 → E' q = E q) (h1 : E' r0 = .inr (2, [.ref (o + (n + 0)), .int 0])) (ha : ∀ j, j < 1 → E' (n + j) = .inl (cA, ([800] : List Nat).getD j 0, .inl (fun _ => 0))) :
    Met l (⟨"FireSale$Speller", "<init>", "()V"⟩ : MethodName) (Cond.code (⟨"FireSale$Speller", "<init>", "()V"⟩ : MethodName) prog_4_method_1_code 1 none :: fs_good) ({ frames := 1, cells := 1, slots := 800, locals := 12 }) (va_Pc [.ref (o + r0)] (fun U => (U.heap.size = o + n ∧ va_P (dC, dI) vwCl (fs_wz o n E) U.heap) ∧ va_K (dC, dI) vwCl (fs_tys cA cB) U)) (va_Qv (fun _ : Unit => True) (fun _ t => t.heap.size = o + (n + 1) ∧ va_P (dC, dI) vwCl (fs_wz o (n + 1) E') t.heap) (fun q => o ≤ q)) 1 800 (fun q => o ≤ q) := by
  refine Met.ofW (cc := prog_4_method_1_code) (maxL := 1) (ret := none) (by decide) rfl ?_
  intro p e s m args below meth c s₁ B hml hv
  obtain ⟨rfl, ⟨hz, hP⟩, hK⟩ := hv
  have hx := B.exec
  have hb := B.bytes
  have hret := B.returns
  have hts0 := atoms_spec (ws := Cond.code (⟨"FireSale$Speller", "<init>", "()V"⟩ : MethodName) prog_4_method_1_code 1 none :: fs_good) B.pre
  have hts : ∀ w ∈ fs_good, w.before ([.ref (o + r0)] : List Value).toArray s = true := fun w hw => hts0 w (List.mem_cons_of_mem _ hw)
  have hown : s.vm.findClass "FireSale$Speller" = some m.cls := findClass_of_methodNamed B.named
  have hlocks := B.notSynchronized
  have hin : meth.name = "<init>" := (name_of_methodNamed B.named B.method).1
  have ho : o ≤ s.heap.size := by omega
  have hS : va_S (fun q => o ≤ q) s.heap s.heap [] := va_S.rf
  have hc : s.heap.size = s.heap.size + 0 := rfl
  have hl := lv_entry ([.ref (o + r0)]) (n := 1) (Nat.le_of_ble_eq_true rfl)
  rw [lg_entry_eq]
  generalize (lg_sl ([.ref (o + r0)]) ++ List.replicate (1 - (lg_sl ([.ref (o + r0)])).length) Slot.unset).toArray = ls at hl ⊢
  have hl : lv_has ls 1 [(0, .ref (o + r0))] := hl
  have hz : s.heap.size = o + (n + 0) := hz
  have edf : fs_df 2 = [.null, .int 0] := by rfl
  have hP : va_P (dC, dI) vwCl (fs_wz o (n + 0) (fs_ov E' r0 (.inr (2, [.null, .int 0])))) s.heap := by
    have e1 : fs_wz o n E = fs_wz o n (fs_ov E' r0 (.inr (2, [.null, .int 0]))) := fs_wz_congr (fun r hr => by
      by_cases q : r = r0
      · rw [q, fs_ov_at, h0, edf]
      · rw [fs_ov_ne q, hE r hr q])
    rw [e1] at hP
    exact hP
  refine lv_aload_n hx hb fs_dI2_0 rfl (lv_at hl 0 rfl) ?_
  refine W.objInit hx hb hown (hts _ (fs_ok_mem (p := 162) (by decide +kernel))) (hts _ (fs_ok_mem (p := 125) (by decide +kernel))) (hts _ (fs_ok_mem (p := 126) (by decide +kernel))) rfl (by rw [hml]; exact hl.1) rfl fs_dI2_1 (Nat.le_of_ble_eq_true rfl) (Nat.le_of_ble_eq_true rfl) ?_
  refine W.eq (g2 := F0 m 4 ls []) rfl ?_
  refine lv_aload_n hx hb fs_dI2_4 rfl (lv_at hl 0 rfl) ?_
  refine lv_sipush (v := 800) hx hb fs_dI2_5 (by decide +kernel) ?_
  refine fs_newaZ (E := fs_ov E' r0 (.inr (2, [.null, .int 0]))) (n' := n + 1) (N := 800) hx hb hts hK ho rfl hz hc hP hS ((fs_ov_ne (Nat.ne_of_gt (Nat.lt_of_lt_of_le hr (Nat.le_add_right n 0)))).trans (ha 0 (by decide))) (by decide +kernel) (by decide +kernel) (by decide +kernel) (Nat.le_of_ble_eq_true rfl) (Nat.le_of_ble_eq_true rfl) fs_dI2_8 (fun H hz hc hP hS => ?_)
  have hc : H.size = s.heap.size + 1 := hc
  refine W.widen (k := 1) (n := 800) (Nat.le_refl _) (Nat.le_refl _) ?_
  refine fs_putZ (E := E') (r0 := r0) (ci := 2) (k := 0) (ty := .array .int) hx hb hts hown hK hz hc hP hS (Nat.lt_of_lt_of_le hr (Nat.le_add_right n 1)) (by decide) (by decide) rfl (fs_ok_mem (p := 163) (by decide +kernel)) hin (by decide +kernel) (by decide +kernel) rfl rfl fs_dI2_10 (fun H locs hz hc hP hS => ?_)
  have hP : va_P (dC, dI) vwCl (fs_wz o (n + 1) (fs_ov E' r0 (.inr (2, [.ref (o + (n + 0)), .int 0])))) H := hP
  refine lv_aload_n hx hb fs_dI2_13 rfl (lv_at hl 0 rfl) ?_
  refine lv_iconst (v := 0) hx hb fs_dI2_14 (by decide +kernel) ?_
  refine fs_putZ (E := E') (r0 := r0) (ci := 2) (k := 1) (ty := .int) hx hb hts hown hK hz hc hP hS (Nat.lt_of_lt_of_le hr (Nat.le_add_right n 1)) (by decide) (by decide) rfl (fs_ok_mem (p := 165) (by decide +kernel)) hin (by decide +kernel) (by decide +kernel) rfl rfl fs_dI2_15 (fun H locs hz hc hP hS => ?_)
  have hP : va_P (dC, dI) vwCl (fs_wz o (n + 1) (fs_ov E' r0 (.inr (2, [.ref (o + (n + 0)), .int 0])))) H := hP
  have hPf : va_P (dC, dI) vwCl (fs_wz o (n + 1) E') H := by
    have e1 : fs_wz o (n + 1) (fs_ov E' r0 (.inr (2, [.ref (o + (n + 0)), .int 0]))) = fs_wz o (n + 1) E' := fs_wz_congr (fun r hr => by
      by_cases q : r = r0
      · rw [q, fs_ov_at, h1]
      · rw [fs_ov_ne q])
    rw [← e1]
    exact hP
  exact W.vret hx hb hret (fun t ht hW => ⟨⟨(), rfl, trivial, by rw [ht]; exact hz, by rw [ht]; exact hPf⟩, hS.F ht⟩) hS.2.2 fs_dI2_18 hlocks
theorem fs_dI4_0 : decode prog_6_method_1_code 0 = .ok (.aload_n 0, 1) := by decide +kernel
theorem fs_dI4_1 : decode prog_6_method_1_code 1 = .ok (.invokespecial 3, 3) := by decide +kernel
theorem fs_dI4_4 : decode prog_6_method_1_code 4 = .ok (.aload_n 0, 1) := by decide +kernel
theorem fs_dI4_5 : decode prog_6_method_1_code 5 = .ok (.sipush 800, 3) := by decide +kernel
theorem fs_dI4_8 : decode prog_6_method_1_code 8 = .ok (.newarray .int, 2) := by decide +kernel
theorem fs_dI4_10 : decode prog_6_method_1_code 10 = .ok (.putfield 9, 3) := by decide +kernel
theorem fs_dI4_13 : decode prog_6_method_1_code 13 = .ok (.aload_n 0, 1) := by decide +kernel
theorem fs_dI4_14 : decode prog_6_method_1_code 14 = .ok (.iconst 0, 1) := by decide +kernel
theorem fs_dI4_15 : decode prog_6_method_1_code 15 = .ok (.putfield 15, 3) := by decide +kernel
theorem fs_dI4_18 : decode prog_6_method_1_code 18 = .ok (.aload_n 0, 1) := by decide +kernel
theorem fs_dI4_19 : decode prog_6_method_1_code 19 = .ok (.iconst 0, 1) := by decide +kernel
theorem fs_dI4_20 : decode prog_6_method_1_code 20 = .ok (.putfield 19, 3) := by decide +kernel
theorem fs_dI4_23 : decode prog_6_method_1_code 23 = .ok (.aload_n 0, 1) := by decide +kernel
theorem fs_dI4_24 : decode prog_6_method_1_code 24 = .ok (.iconst (-1), 1) := by decide +kernel
theorem fs_dI4_25 : decode prog_6_method_1_code 25 = .ok (.putfield 22, 3) := by decide +kernel
theorem fs_dI4_28 : decode prog_6_method_1_code 28 = .ok (.aload_n 0, 1) := by decide +kernel
theorem fs_dI4_29 : decode prog_6_method_1_code 29 = .ok (.iconst 0, 1) := by decide +kernel
theorem fs_dI4_30 : decode prog_6_method_1_code 30 = .ok (.putfield 25, 3) := by decide +kernel
theorem fs_dI4_33 : decode prog_6_method_1_code 33 = .ok (.aload_n 0, 1) := by decide +kernel
theorem fs_dI4_34 : decode prog_6_method_1_code 34 = .ok (.iconst 0, 1) := by decide +kernel
theorem fs_dI4_35 : decode prog_6_method_1_code 35 = .ok (.putfield 28, 3) := by decide +kernel
theorem fs_dI4_38 : decode prog_6_method_1_code 38 = .ok (.aload_n 0, 1) := by decide +kernel
theorem fs_dI4_39 : decode prog_6_method_1_code 39 = .ok (.iconst 0, 1) := by decide +kernel
theorem fs_dI4_40 : decode prog_6_method_1_code 40 = .ok (.putfield 31, 3) := by decide +kernel
theorem fs_dI4_43 : decode prog_6_method_1_code 43 = .ok (.return_, 1) := by decide +kernel
set_option maxHeartbeats 4000000 in
set_option maxRecDepth 100000 in
theorem fs_init_4 (l : Launch) {dC : Nat → ClassId} {dI : Nat → Nat → Nat} {o n r0 : Nat} {cA cB : ClassId} {E E' : Nat → va_E} (hr : r0 < n) (h0 : E r0 = .inr (4, fs_df 4)) (hE : ∀ q, q < n → q ≠ r0 → E' q = E q) (h1 : E' r0 = .inr (4, [.ref (o + (n + 0)), .int 0, .int 0, .int (-1), .int 0, .int 0, .int 0])) (ha : ∀ j, j < 1 → E' (n + j) = .inl (cA, ([800] : List Nat).getD j 0, .inl (fun _ => 0))) :
    Met l (⟨"FireSale$Tape", "<init>", "()V"⟩ : MethodName) (Cond.code (⟨"FireSale$Tape", "<init>", "()V"⟩ : MethodName) prog_6_method_1_code 1 none :: fs_good) ({ frames := 1, cells := 1, slots := 800, locals := 12 }) (va_Pc [.ref (o + r0)] (fun U => (U.heap.size = o + n ∧ va_P (dC, dI) vwCl (fs_wz o n E) U.heap) ∧ va_K (dC, dI) vwCl (fs_tys cA cB) U)) (va_Qv (fun _ : Unit => True) (fun _ t => t.heap.size = o + (n + 1) ∧ va_P (dC, dI) vwCl (fs_wz o (n + 1) E') t.heap) (fun q => o ≤ q)) 1 800 (fun q => o ≤ q) := by
  refine Met.ofW (cc := prog_6_method_1_code) (maxL := 1) (ret := none) (by decide) rfl ?_
  intro p e s m args below meth c s₁ B hml hv
  obtain ⟨rfl, ⟨hz, hP⟩, hK⟩ := hv
  have hx := B.exec
  have hb := B.bytes
  have hret := B.returns
  have hts0 := atoms_spec (ws := Cond.code (⟨"FireSale$Tape", "<init>", "()V"⟩ : MethodName) prog_6_method_1_code 1 none :: fs_good) B.pre
  have hts : ∀ w ∈ fs_good, w.before ([.ref (o + r0)] : List Value).toArray s = true := fun w hw => hts0 w (List.mem_cons_of_mem _ hw)
  have hown : s.vm.findClass "FireSale$Tape" = some m.cls := findClass_of_methodNamed B.named
  have hlocks := B.notSynchronized
  have hin : meth.name = "<init>" := (name_of_methodNamed B.named B.method).1
  have ho : o ≤ s.heap.size := by omega
  have hS : va_S (fun q => o ≤ q) s.heap s.heap [] := va_S.rf
  have hc : s.heap.size = s.heap.size + 0 := rfl
  have hl := lv_entry ([.ref (o + r0)]) (n := 1) (Nat.le_of_ble_eq_true rfl)
  rw [lg_entry_eq]
  generalize (lg_sl ([.ref (o + r0)]) ++ List.replicate (1 - (lg_sl ([.ref (o + r0)])).length) Slot.unset).toArray = ls at hl ⊢
  have hl : lv_has ls 1 [(0, .ref (o + r0))] := hl
  have hz : s.heap.size = o + (n + 0) := hz
  have edf : fs_df 4 = [.null, .int 0, .int 0, .int 0, .int 0, .int 0, .int 0] := by rfl
  have hP : va_P (dC, dI) vwCl (fs_wz o (n + 0) (fs_ov E' r0 (.inr (4, [.null, .int 0, .int 0, .int 0, .int 0, .int 0, .int 0])))) s.heap := by
    have e1 : fs_wz o n E = fs_wz o n (fs_ov E' r0 (.inr (4, [.null, .int 0, .int 0, .int 0, .int 0, .int 0, .int 0]))) := fs_wz_congr (fun r hr => by
      by_cases q : r = r0
      · rw [q, fs_ov_at, h0, edf]
      · rw [fs_ov_ne q, hE r hr q])
    rw [e1] at hP
    exact hP
  refine lv_aload_n hx hb fs_dI4_0 rfl (lv_at hl 0 rfl) ?_
  refine W.objInit hx hb hown (hts _ (fs_ok_mem (p := 132) (by decide +kernel))) (hts _ (fs_ok_mem (p := 125) (by decide +kernel))) (hts _ (fs_ok_mem (p := 126) (by decide +kernel))) rfl (by rw [hml]; exact hl.1) rfl fs_dI4_1 (Nat.le_of_ble_eq_true rfl) (Nat.le_of_ble_eq_true rfl) ?_
  refine W.eq (g2 := F0 m 4 ls []) rfl ?_
  refine lv_aload_n hx hb fs_dI4_4 rfl (lv_at hl 0 rfl) ?_
  refine lv_sipush (v := 800) hx hb fs_dI4_5 (by decide +kernel) ?_
  refine fs_newaZ (E := fs_ov E' r0 (.inr (4, [.null, .int 0, .int 0, .int 0, .int 0, .int 0, .int 0]))) (n' := n + 1) (N := 800) hx hb hts hK ho rfl hz hc hP hS ((fs_ov_ne (Nat.ne_of_gt (Nat.lt_of_lt_of_le hr (Nat.le_add_right n 0)))).trans (ha 0 (by decide))) (by decide +kernel) (by decide +kernel) (by decide +kernel) (Nat.le_of_ble_eq_true rfl) (Nat.le_of_ble_eq_true rfl) fs_dI4_8 (fun H hz hc hP hS => ?_)
  have hc : H.size = s.heap.size + 1 := hc
  refine W.widen (k := 1) (n := 800) (Nat.le_refl _) (Nat.le_refl _) ?_
  refine fs_putZ (E := E') (r0 := r0) (ci := 4) (k := 0) (ty := .array .int) hx hb hts hown hK hz hc hP hS (Nat.lt_of_lt_of_le hr (Nat.le_add_right n 1)) (by decide) (by decide) rfl (fs_ok_mem (p := 133) (by decide +kernel)) hin (by decide +kernel) (by decide +kernel) rfl rfl fs_dI4_10 (fun H locs hz hc hP hS => ?_)
  have hP : va_P (dC, dI) vwCl (fs_wz o (n + 1) (fs_ov E' r0 (.inr (4, [.ref (o + (n + 0)), .int 0, .int 0, .int 0, .int 0, .int 0, .int 0])))) H := hP
  refine lv_aload_n hx hb fs_dI4_13 rfl (lv_at hl 0 rfl) ?_
  refine lv_iconst (v := 0) hx hb fs_dI4_14 (by decide +kernel) ?_
  refine fs_putZ (E := E') (r0 := r0) (ci := 4) (k := 1) (ty := .int) hx hb hts hown hK hz hc hP hS (Nat.lt_of_lt_of_le hr (Nat.le_add_right n 1)) (by decide) (by decide) rfl (fs_ok_mem (p := 134) (by decide +kernel)) hin (by decide +kernel) (by decide +kernel) rfl rfl fs_dI4_15 (fun H locs hz hc hP hS => ?_)
  have hP : va_P (dC, dI) vwCl (fs_wz o (n + 1) (fs_ov E' r0 (.inr (4, [.ref (o + (n + 0)), .int 0, .int 0, .int 0, .int 0, .int 0, .int 0])))) H := hP
  refine lv_aload_n hx hb fs_dI4_18 rfl (lv_at hl 0 rfl) ?_
  refine lv_iconst (v := 0) hx hb fs_dI4_19 (by decide +kernel) ?_
  refine fs_putZ (E := E') (r0 := r0) (ci := 4) (k := 2) (ty := .int) hx hb hts hown hK hz hc hP hS (Nat.lt_of_lt_of_le hr (Nat.le_add_right n 1)) (by decide) (by decide) rfl (fs_ok_mem (p := 136) (by decide +kernel)) hin (by decide +kernel) (by decide +kernel) rfl rfl fs_dI4_20 (fun H locs hz hc hP hS => ?_)
  have hP : va_P (dC, dI) vwCl (fs_wz o (n + 1) (fs_ov E' r0 (.inr (4, [.ref (o + (n + 0)), .int 0, .int 0, .int 0, .int 0, .int 0, .int 0])))) H := hP
  refine lv_aload_n hx hb fs_dI4_23 rfl (lv_at hl 0 rfl) ?_
  refine lv_iconst (v := (-1)) hx hb fs_dI4_24 (by decide +kernel) ?_
  refine fs_putZ (E := E') (r0 := r0) (ci := 4) (k := 3) (ty := .int) hx hb hts hown hK hz hc hP hS (Nat.lt_of_lt_of_le hr (Nat.le_add_right n 1)) (by decide) (by decide) rfl (fs_ok_mem (p := 137) (by decide +kernel)) hin (by decide +kernel) (by decide +kernel) rfl rfl fs_dI4_25 (fun H locs hz hc hP hS => ?_)
  have hP : va_P (dC, dI) vwCl (fs_wz o (n + 1) (fs_ov E' r0 (.inr (4, [.ref (o + (n + 0)), .int 0, .int 0, .int (-1), .int 0, .int 0, .int 0])))) H := hP
  refine lv_aload_n hx hb fs_dI4_28 rfl (lv_at hl 0 rfl) ?_
  refine lv_iconst (v := 0) hx hb fs_dI4_29 (by decide +kernel) ?_
  refine fs_putZ (E := E') (r0 := r0) (ci := 4) (k := 4) (ty := .int) hx hb hts hown hK hz hc hP hS (Nat.lt_of_lt_of_le hr (Nat.le_add_right n 1)) (by decide) (by decide) rfl (fs_ok_mem (p := 138) (by decide +kernel)) hin (by decide +kernel) (by decide +kernel) rfl rfl fs_dI4_30 (fun H locs hz hc hP hS => ?_)
  have hP : va_P (dC, dI) vwCl (fs_wz o (n + 1) (fs_ov E' r0 (.inr (4, [.ref (o + (n + 0)), .int 0, .int 0, .int (-1), .int 0, .int 0, .int 0])))) H := hP
  refine lv_aload_n hx hb fs_dI4_33 rfl (lv_at hl 0 rfl) ?_
  refine lv_iconst (v := 0) hx hb fs_dI4_34 (by decide +kernel) ?_
  refine fs_putZ (E := E') (r0 := r0) (ci := 4) (k := 5) (ty := .int) hx hb hts hown hK hz hc hP hS (Nat.lt_of_lt_of_le hr (Nat.le_add_right n 1)) (by decide) (by decide) rfl (fs_ok_mem (p := 139) (by decide +kernel)) hin (by decide +kernel) (by decide +kernel) rfl rfl fs_dI4_35 (fun H locs hz hc hP hS => ?_)
  have hP : va_P (dC, dI) vwCl (fs_wz o (n + 1) (fs_ov E' r0 (.inr (4, [.ref (o + (n + 0)), .int 0, .int 0, .int (-1), .int 0, .int 0, .int 0])))) H := hP
  refine lv_aload_n hx hb fs_dI4_38 rfl (lv_at hl 0 rfl) ?_
  refine lv_iconst (v := 0) hx hb fs_dI4_39 (by decide +kernel) ?_
  refine fs_putZ (E := E') (r0 := r0) (ci := 4) (k := 6) (ty := .int) hx hb hts hown hK hz hc hP hS (Nat.lt_of_lt_of_le hr (Nat.le_add_right n 1)) (by decide) (by decide) rfl (fs_ok_mem (p := 140) (by decide +kernel)) hin (by decide +kernel) (by decide +kernel) rfl rfl fs_dI4_40 (fun H locs hz hc hP hS => ?_)
  have hP : va_P (dC, dI) vwCl (fs_wz o (n + 1) (fs_ov E' r0 (.inr (4, [.ref (o + (n + 0)), .int 0, .int 0, .int (-1), .int 0, .int 0, .int 0])))) H := hP
  have hPf : va_P (dC, dI) vwCl (fs_wz o (n + 1) E') H := by
    have e1 : fs_wz o (n + 1) (fs_ov E' r0 (.inr (4, [.ref (o + (n + 0)), .int 0, .int 0, .int (-1), .int 0, .int 0, .int 0]))) = fs_wz o (n + 1) E' := fs_wz_congr (fun r hr => by
      by_cases q : r = r0
      · rw [q, fs_ov_at, h1]
      · rw [fs_ov_ne q])
    rw [← e1]
    exact hP
  exact W.vret hx hb hret (fun t ht hW => ⟨⟨(), rfl, trivial, by rw [ht]; exact hz, by rw [ht]; exact hPf⟩, hS.F ht⟩) hS.2.2 fs_dI4_43 hlocks
theorem fs_dI0_0 : decode prog_2_method_1_code 0 = .ok (.aload_n 0, 1) := by decide +kernel
theorem fs_dI0_1 : decode prog_2_method_1_code 1 = .ok (.invokespecial 3, 3) := by decide +kernel
theorem fs_dI0_4 : decode prog_2_method_1_code 4 = .ok (.aload_n 0, 1) := by decide +kernel
theorem fs_dI0_5 : decode prog_2_method_1_code 5 = .ok (.iconst 0, 1) := by decide +kernel
theorem fs_dI0_6 : decode prog_2_method_1_code 6 = .ok (.putfield 9, 3) := by decide +kernel
theorem fs_dI0_9 : decode prog_2_method_1_code 9 = .ok (.aload_n 0, 1) := by decide +kernel
theorem fs_dI0_10 : decode prog_2_method_1_code 10 = .ok (.iconst 0, 1) := by decide +kernel
theorem fs_dI0_11 : decode prog_2_method_1_code 11 = .ok (.putfield 15, 3) := by decide +kernel
theorem fs_dI0_14 : decode prog_2_method_1_code 14 = .ok (.aload_n 0, 1) := by decide +kernel
theorem fs_dI0_15 : decode prog_2_method_1_code 15 = .ok (.bipush 8, 2) := by decide +kernel
theorem fs_dI0_17 : decode prog_2_method_1_code 17 = .ok (.newarray .int, 2) := by decide +kernel
theorem fs_dI0_19 : decode prog_2_method_1_code 19 = .ok (.putfield 18, 3) := by decide +kernel
theorem fs_dI0_22 : decode prog_2_method_1_code 22 = .ok (.aload_n 0, 1) := by decide +kernel
theorem fs_dI0_23 : decode prog_2_method_1_code 23 = .ok (.bipush 30, 2) := by decide +kernel
theorem fs_dI0_25 : decode prog_2_method_1_code 25 = .ok (.newarray .int, 2) := by decide +kernel
theorem fs_dI0_27 : decode prog_2_method_1_code 27 = .ok (.putfield 22, 3) := by decide +kernel
theorem fs_dI0_30 : decode prog_2_method_1_code 30 = .ok (.aload_n 0, 1) := by decide +kernel
theorem fs_dI0_31 : decode prog_2_method_1_code 31 = .ok (.bipush 24, 2) := by decide +kernel
theorem fs_dI0_33 : decode prog_2_method_1_code 33 = .ok (.newarray .int, 2) := by decide +kernel
theorem fs_dI0_35 : decode prog_2_method_1_code 35 = .ok (.putfield 25, 3) := by decide +kernel
theorem fs_dI0_38 : decode prog_2_method_1_code 38 = .ok (.aload_n 0, 1) := by decide +kernel
theorem fs_dI0_39 : decode prog_2_method_1_code 39 = .ok (.bipush 36, 2) := by decide +kernel
theorem fs_dI0_41 : decode prog_2_method_1_code 41 = .ok (.newarray .int, 2) := by decide +kernel
theorem fs_dI0_43 : decode prog_2_method_1_code 43 = .ok (.putfield 28, 3) := by decide +kernel
theorem fs_dI0_46 : decode prog_2_method_1_code 46 = .ok (.aload_n 0, 1) := by decide +kernel
theorem fs_dI0_47 : decode prog_2_method_1_code 47 = .ok (.iconst 3, 1) := by decide +kernel
theorem fs_dI0_48 : decode prog_2_method_1_code 48 = .ok (.newarray .int, 2) := by decide +kernel
theorem fs_dI0_50 : decode prog_2_method_1_code 50 = .ok (.putfield 31, 3) := by decide +kernel
theorem fs_dI0_53 : decode prog_2_method_1_code 53 = .ok (.aload_n 0, 1) := by decide +kernel
theorem fs_dI0_54 : decode prog_2_method_1_code 54 = .ok (.bipush 36, 2) := by decide +kernel
theorem fs_dI0_56 : decode prog_2_method_1_code 56 = .ok (.newarray .int, 2) := by decide +kernel
theorem fs_dI0_58 : decode prog_2_method_1_code 58 = .ok (.putfield 34, 3) := by decide +kernel
theorem fs_dI0_61 : decode prog_2_method_1_code 61 = .ok (.return_, 1) := by decide +kernel
set_option maxHeartbeats 4000000 in
set_option maxRecDepth 100000 in
theorem fs_init_0 (l : Launch) {dC : Nat → ClassId} {dI : Nat → Nat → Nat} {o n r0 : Nat} {cA cB : ClassId} {E E' : Nat → va_E} (hr : r0 < n) (h0 : E r0 = .inr (0, fs_df 0)) (hE : ∀ q, q < n → q ≠ r0 → E' q = E q) (h1 : E' r0 = .inr (0, [.int 0, .int 0, .ref (o + (n + 0)), .ref (o + (n + 1)), .ref (o + (n + 2)), .ref (o + (n + 3)), .ref (o + (n + 4)), .ref (o + (n + 5))])) (ha : ∀ j, j < 6 → E' (n + j) = .inl (cA, ([8, 30, 24, 36, 3, 36] : List Nat).getD j 0, .inl (fun _ => 0))) :
    Met l (⟨"FireSale$Book", "<init>", "()V"⟩ : MethodName) (Cond.code (⟨"FireSale$Book", "<init>", "()V"⟩ : MethodName) prog_2_method_1_code 1 none :: fs_good) ({ frames := 1, cells := 6, slots := 137, locals := 12 }) (va_Pc [.ref (o + r0)] (fun U => (U.heap.size = o + n ∧ va_P (dC, dI) vwCl (fs_wz o n E) U.heap) ∧ va_K (dC, dI) vwCl (fs_tys cA cB) U)) (va_Qv (fun _ : Unit => True) (fun _ t => t.heap.size = o + (n + 6) ∧ va_P (dC, dI) vwCl (fs_wz o (n + 6) E') t.heap) (fun q => o ≤ q)) 6 137 (fun q => o ≤ q) := by
  refine Met.ofW (cc := prog_2_method_1_code) (maxL := 1) (ret := none) (by decide) rfl ?_
  intro p e s m args below meth c s₁ B hml hv
  obtain ⟨rfl, ⟨hz, hP⟩, hK⟩ := hv
  have hx := B.exec
  have hb := B.bytes
  have hret := B.returns
  have hts0 := atoms_spec (ws := Cond.code (⟨"FireSale$Book", "<init>", "()V"⟩ : MethodName) prog_2_method_1_code 1 none :: fs_good) B.pre
  have hts : ∀ w ∈ fs_good, w.before ([.ref (o + r0)] : List Value).toArray s = true := fun w hw => hts0 w (List.mem_cons_of_mem _ hw)
  have hown : s.vm.findClass "FireSale$Book" = some m.cls := findClass_of_methodNamed B.named
  have hlocks := B.notSynchronized
  have hin : meth.name = "<init>" := (name_of_methodNamed B.named B.method).1
  have ho : o ≤ s.heap.size := by omega
  have hS : va_S (fun q => o ≤ q) s.heap s.heap [] := va_S.rf
  have hc : s.heap.size = s.heap.size + 0 := rfl
  have hl := lv_entry ([.ref (o + r0)]) (n := 1) (Nat.le_of_ble_eq_true rfl)
  rw [lg_entry_eq]
  generalize (lg_sl ([.ref (o + r0)]) ++ List.replicate (1 - (lg_sl ([.ref (o + r0)])).length) Slot.unset).toArray = ls at hl ⊢
  have hl : lv_has ls 1 [(0, .ref (o + r0))] := hl
  have hz : s.heap.size = o + (n + 0) := hz
  have edf : fs_df 0 = [.int 0, .int 0, .null, .null, .null, .null, .null, .null] := by rfl
  have hP : va_P (dC, dI) vwCl (fs_wz o (n + 0) (fs_ov E' r0 (.inr (0, [.int 0, .int 0, .null, .null, .null, .null, .null, .null])))) s.heap := by
    have e1 : fs_wz o n E = fs_wz o n (fs_ov E' r0 (.inr (0, [.int 0, .int 0, .null, .null, .null, .null, .null, .null]))) := fs_wz_congr (fun r hr => by
      by_cases q : r = r0
      · rw [q, fs_ov_at, h0, edf]
      · rw [fs_ov_ne q, hE r hr q])
    rw [e1] at hP
    exact hP
  refine lv_aload_n hx hb fs_dI0_0 rfl (lv_at hl 0 rfl) ?_
  refine W.objInit hx hb hown (hts _ (fs_ok_mem (p := 177) (by decide +kernel))) (hts _ (fs_ok_mem (p := 125) (by decide +kernel))) (hts _ (fs_ok_mem (p := 126) (by decide +kernel))) rfl (by rw [hml]; exact hl.1) rfl fs_dI0_1 (Nat.le_of_ble_eq_true rfl) (Nat.le_of_ble_eq_true rfl) ?_
  refine W.eq (g2 := F0 m 4 ls []) rfl ?_
  refine lv_aload_n hx hb fs_dI0_4 rfl (lv_at hl 0 rfl) ?_
  refine lv_iconst (v := 0) hx hb fs_dI0_5 (by decide +kernel) ?_
  refine fs_putZ (E := E') (r0 := r0) (ci := 0) (k := 0) (ty := .int) hx hb hts hown hK hz hc hP hS (Nat.lt_of_lt_of_le hr (Nat.le_add_right n 0)) (by decide) (by decide) rfl (fs_ok_mem (p := 178) (by decide +kernel)) hin (by decide +kernel) (by decide +kernel) rfl rfl fs_dI0_6 (fun H locs hz hc hP hS => ?_)
  have hP : va_P (dC, dI) vwCl (fs_wz o (n + 0) (fs_ov E' r0 (.inr (0, [.int 0, .int 0, .null, .null, .null, .null, .null, .null])))) H := hP
  refine lv_aload_n hx hb fs_dI0_9 rfl (lv_at hl 0 rfl) ?_
  refine lv_iconst (v := 0) hx hb fs_dI0_10 (by decide +kernel) ?_
  refine fs_putZ (E := E') (r0 := r0) (ci := 0) (k := 1) (ty := .int) hx hb hts hown hK hz hc hP hS (Nat.lt_of_lt_of_le hr (Nat.le_add_right n 0)) (by decide) (by decide) rfl (fs_ok_mem (p := 183) (by decide +kernel)) hin (by decide +kernel) (by decide +kernel) rfl rfl fs_dI0_11 (fun H locs hz hc hP hS => ?_)
  have hP : va_P (dC, dI) vwCl (fs_wz o (n + 0) (fs_ov E' r0 (.inr (0, [.int 0, .int 0, .null, .null, .null, .null, .null, .null])))) H := hP
  refine lv_aload_n hx hb fs_dI0_14 rfl (lv_at hl 0 rfl) ?_
  refine lv_bipush (v := 8) hx hb fs_dI0_15 (by decide +kernel) ?_
  refine fs_newaZ (E := fs_ov E' r0 (.inr (0, [.int 0, .int 0, .null, .null, .null, .null, .null, .null]))) (n' := n + 1) (N := 8) hx hb hts hK ho rfl hz hc hP hS ((fs_ov_ne (Nat.ne_of_gt (Nat.lt_of_lt_of_le hr (Nat.le_add_right n 0)))).trans (ha 0 (by decide))) (by decide +kernel) (by decide +kernel) (by decide +kernel) (Nat.le_of_ble_eq_true rfl) (Nat.le_of_ble_eq_true rfl) fs_dI0_17 (fun H hz hc hP hS => ?_)
  have hc : H.size = s.heap.size + 1 := hc
  refine W.widen (k := 1) (n := 8) (Nat.le_refl _) (Nat.le_refl _) ?_
  refine fs_putZ (E := E') (r0 := r0) (ci := 0) (k := 2) (ty := .array .int) hx hb hts hown hK hz hc hP hS (Nat.lt_of_lt_of_le hr (Nat.le_add_right n 1)) (by decide) (by decide) rfl (fs_ok_mem (p := 188) (by decide +kernel)) hin (by decide +kernel) (by decide +kernel) rfl rfl fs_dI0_19 (fun H locs hz hc hP hS => ?_)
  have hP : va_P (dC, dI) vwCl (fs_wz o (n + 1) (fs_ov E' r0 (.inr (0, [.int 0, .int 0, .ref (o + (n + 0)), .null, .null, .null, .null, .null])))) H := hP
  refine lv_aload_n hx hb fs_dI0_22 rfl (lv_at hl 0 rfl) ?_
  refine lv_bipush (v := 30) hx hb fs_dI0_23 (by decide +kernel) ?_
  refine fs_newaZ (E := fs_ov E' r0 (.inr (0, [.int 0, .int 0, .ref (o + (n + 0)), .null, .null, .null, .null, .null]))) (n' := n + 2) (N := 30) hx hb hts hK ho rfl hz hc hP hS ((fs_ov_ne (Nat.ne_of_gt (Nat.lt_of_lt_of_le hr (Nat.le_add_right n 1)))).trans (ha 1 (by decide))) (by decide +kernel) (by decide +kernel) (by decide +kernel) (Nat.le_of_ble_eq_true rfl) (Nat.le_of_ble_eq_true rfl) fs_dI0_25 (fun H hz hc hP hS => ?_)
  have hc : H.size = s.heap.size + 2 := hc
  refine W.widen (k := 2) (n := 38) (Nat.le_refl _) (Nat.le_refl _) ?_
  refine fs_putZ (E := E') (r0 := r0) (ci := 0) (k := 3) (ty := .array .int) hx hb hts hown hK hz hc hP hS (Nat.lt_of_lt_of_le hr (Nat.le_add_right n 2)) (by decide) (by decide) rfl (fs_ok_mem (p := 190) (by decide +kernel)) hin (by decide +kernel) (by decide +kernel) rfl rfl fs_dI0_27 (fun H locs hz hc hP hS => ?_)
  have hP : va_P (dC, dI) vwCl (fs_wz o (n + 2) (fs_ov E' r0 (.inr (0, [.int 0, .int 0, .ref (o + (n + 0)), .ref (o + (n + 1)), .null, .null, .null, .null])))) H := hP
  refine lv_aload_n hx hb fs_dI0_30 rfl (lv_at hl 0 rfl) ?_
  refine lv_bipush (v := 24) hx hb fs_dI0_31 (by decide +kernel) ?_
  refine fs_newaZ (E := fs_ov E' r0 (.inr (0, [.int 0, .int 0, .ref (o + (n + 0)), .ref (o + (n + 1)), .null, .null, .null, .null]))) (n' := n + 3) (N := 24) hx hb hts hK ho rfl hz hc hP hS ((fs_ov_ne (Nat.ne_of_gt (Nat.lt_of_lt_of_le hr (Nat.le_add_right n 2)))).trans (ha 2 (by decide))) (by decide +kernel) (by decide +kernel) (by decide +kernel) (Nat.le_of_ble_eq_true rfl) (Nat.le_of_ble_eq_true rfl) fs_dI0_33 (fun H hz hc hP hS => ?_)
  have hc : H.size = s.heap.size + 3 := hc
  refine W.widen (k := 3) (n := 62) (Nat.le_refl _) (Nat.le_refl _) ?_
  refine fs_putZ (E := E') (r0 := r0) (ci := 0) (k := 4) (ty := .array .int) hx hb hts hown hK hz hc hP hS (Nat.lt_of_lt_of_le hr (Nat.le_add_right n 3)) (by decide) (by decide) rfl (fs_ok_mem (p := 193) (by decide +kernel)) hin (by decide +kernel) (by decide +kernel) rfl rfl fs_dI0_35 (fun H locs hz hc hP hS => ?_)
  have hP : va_P (dC, dI) vwCl (fs_wz o (n + 3) (fs_ov E' r0 (.inr (0, [.int 0, .int 0, .ref (o + (n + 0)), .ref (o + (n + 1)), .ref (o + (n + 2)), .null, .null, .null])))) H := hP
  refine lv_aload_n hx hb fs_dI0_38 rfl (lv_at hl 0 rfl) ?_
  refine lv_bipush (v := 36) hx hb fs_dI0_39 (by decide +kernel) ?_
  refine fs_newaZ (E := fs_ov E' r0 (.inr (0, [.int 0, .int 0, .ref (o + (n + 0)), .ref (o + (n + 1)), .ref (o + (n + 2)), .null, .null, .null]))) (n' := n + 4) (N := 36) hx hb hts hK ho rfl hz hc hP hS ((fs_ov_ne (Nat.ne_of_gt (Nat.lt_of_lt_of_le hr (Nat.le_add_right n 3)))).trans (ha 3 (by decide))) (by decide +kernel) (by decide +kernel) (by decide +kernel) (Nat.le_of_ble_eq_true rfl) (Nat.le_of_ble_eq_true rfl) fs_dI0_41 (fun H hz hc hP hS => ?_)
  have hc : H.size = s.heap.size + 4 := hc
  refine W.widen (k := 4) (n := 98) (Nat.le_refl _) (Nat.le_refl _) ?_
  refine fs_putZ (E := E') (r0 := r0) (ci := 0) (k := 5) (ty := .array .int) hx hb hts hown hK hz hc hP hS (Nat.lt_of_lt_of_le hr (Nat.le_add_right n 4)) (by decide) (by decide) rfl (fs_ok_mem (p := 196) (by decide +kernel)) hin (by decide +kernel) (by decide +kernel) rfl rfl fs_dI0_43 (fun H locs hz hc hP hS => ?_)
  have hP : va_P (dC, dI) vwCl (fs_wz o (n + 4) (fs_ov E' r0 (.inr (0, [.int 0, .int 0, .ref (o + (n + 0)), .ref (o + (n + 1)), .ref (o + (n + 2)), .ref (o + (n + 3)), .null, .null])))) H := hP
  refine lv_aload_n hx hb fs_dI0_46 rfl (lv_at hl 0 rfl) ?_
  refine lv_iconst (v := 3) hx hb fs_dI0_47 (by decide +kernel) ?_
  refine fs_newaZ (E := fs_ov E' r0 (.inr (0, [.int 0, .int 0, .ref (o + (n + 0)), .ref (o + (n + 1)), .ref (o + (n + 2)), .ref (o + (n + 3)), .null, .null]))) (n' := n + 5) (N := 3) hx hb hts hK ho rfl hz hc hP hS ((fs_ov_ne (Nat.ne_of_gt (Nat.lt_of_lt_of_le hr (Nat.le_add_right n 4)))).trans (ha 4 (by decide))) (by decide +kernel) (by decide +kernel) (by decide +kernel) (Nat.le_of_ble_eq_true rfl) (Nat.le_of_ble_eq_true rfl) fs_dI0_48 (fun H hz hc hP hS => ?_)
  have hc : H.size = s.heap.size + 5 := hc
  refine W.widen (k := 5) (n := 101) (Nat.le_refl _) (Nat.le_refl _) ?_
  refine fs_putZ (E := E') (r0 := r0) (ci := 0) (k := 6) (ty := .array .int) hx hb hts hown hK hz hc hP hS (Nat.lt_of_lt_of_le hr (Nat.le_add_right n 5)) (by decide) (by decide) rfl (fs_ok_mem (p := 199) (by decide +kernel)) hin (by decide +kernel) (by decide +kernel) rfl rfl fs_dI0_50 (fun H locs hz hc hP hS => ?_)
  have hP : va_P (dC, dI) vwCl (fs_wz o (n + 5) (fs_ov E' r0 (.inr (0, [.int 0, .int 0, .ref (o + (n + 0)), .ref (o + (n + 1)), .ref (o + (n + 2)), .ref (o + (n + 3)), .ref (o + (n + 4)), .null])))) H := hP
  refine lv_aload_n hx hb fs_dI0_53 rfl (lv_at hl 0 rfl) ?_
  refine lv_bipush (v := 36) hx hb fs_dI0_54 (by decide +kernel) ?_
  refine fs_newaZ (E := fs_ov E' r0 (.inr (0, [.int 0, .int 0, .ref (o + (n + 0)), .ref (o + (n + 1)), .ref (o + (n + 2)), .ref (o + (n + 3)), .ref (o + (n + 4)), .null]))) (n' := n + 6) (N := 36) hx hb hts hK ho rfl hz hc hP hS ((fs_ov_ne (Nat.ne_of_gt (Nat.lt_of_lt_of_le hr (Nat.le_add_right n 5)))).trans (ha 5 (by decide))) (by decide +kernel) (by decide +kernel) (by decide +kernel) (Nat.le_of_ble_eq_true rfl) (Nat.le_of_ble_eq_true rfl) fs_dI0_56 (fun H hz hc hP hS => ?_)
  have hc : H.size = s.heap.size + 6 := hc
  refine W.widen (k := 6) (n := 137) (Nat.le_refl _) (Nat.le_refl _) ?_
  refine fs_putZ (E := E') (r0 := r0) (ci := 0) (k := 7) (ty := .array .int) hx hb hts hown hK hz hc hP hS (Nat.lt_of_lt_of_le hr (Nat.le_add_right n 6)) (by decide) (by decide) rfl (fs_ok_mem (p := 203) (by decide +kernel)) hin (by decide +kernel) (by decide +kernel) rfl rfl fs_dI0_58 (fun H locs hz hc hP hS => ?_)
  have hP : va_P (dC, dI) vwCl (fs_wz o (n + 6) (fs_ov E' r0 (.inr (0, [.int 0, .int 0, .ref (o + (n + 0)), .ref (o + (n + 1)), .ref (o + (n + 2)), .ref (o + (n + 3)), .ref (o + (n + 4)), .ref (o + (n + 5))])))) H := hP
  have hPf : va_P (dC, dI) vwCl (fs_wz o (n + 6) E') H := by
    have e1 : fs_wz o (n + 6) (fs_ov E' r0 (.inr (0, [.int 0, .int 0, .ref (o + (n + 0)), .ref (o + (n + 1)), .ref (o + (n + 2)), .ref (o + (n + 3)), .ref (o + (n + 4)), .ref (o + (n + 5))]))) = fs_wz o (n + 6) E' := fs_wz_congr (fun r hr => by
      by_cases q : r = r0
      · rw [q, fs_ov_at, h1]
      · rw [fs_ov_ne q])
    rw [← e1]
    exact hP
  exact W.vret hx hb hret (fun t ht hW => ⟨⟨(), rfl, trivial, by rw [ht]; exact hz, by rw [ht]; exact hPf⟩, hS.F ht⟩) hS.2.2 fs_dI0_61 hlocks
theorem fs_dI1_0 : decode prog_3_method_1_code 0 = .ok (.aload_n 0, 1) := by decide +kernel
theorem fs_dI1_1 : decode prog_3_method_1_code 1 = .ok (.invokespecial 3, 3) := by decide +kernel
theorem fs_dI1_4 : decode prog_3_method_1_code 4 = .ok (.aload_n 0, 1) := by decide +kernel
theorem fs_dI1_5 : decode prog_3_method_1_code 5 = .ok (.iconst 0, 1) := by decide +kernel
theorem fs_dI1_6 : decode prog_3_method_1_code 6 = .ok (.putfield 9, 3) := by decide +kernel
theorem fs_dI1_9 : decode prog_3_method_1_code 9 = .ok (.aload_n 0, 1) := by decide +kernel
theorem fs_dI1_10 : decode prog_3_method_1_code 10 = .ok (.iconst 0, 1) := by decide +kernel
theorem fs_dI1_11 : decode prog_3_method_1_code 11 = .ok (.putfield 15, 3) := by decide +kernel
theorem fs_dI1_14 : decode prog_3_method_1_code 14 = .ok (.aload_n 0, 1) := by decide +kernel
theorem fs_dI1_15 : decode prog_3_method_1_code 15 = .ok (.iconst 0, 1) := by decide +kernel
theorem fs_dI1_16 : decode prog_3_method_1_code 16 = .ok (.putfield 18, 3) := by decide +kernel
theorem fs_dI1_19 : decode prog_3_method_1_code 19 = .ok (.aload_n 0, 1) := by decide +kernel
theorem fs_dI1_20 : decode prog_3_method_1_code 20 = .ok (.iconst 4, 1) := by decide +kernel
theorem fs_dI1_21 : decode prog_3_method_1_code 21 = .ok (.newarray .int, 2) := by decide +kernel
theorem fs_dI1_23 : decode prog_3_method_1_code 23 = .ok (.putfield 21, 3) := by decide +kernel
theorem fs_dI1_26 : decode prog_3_method_1_code 26 = .ok (.aload_n 0, 1) := by decide +kernel
theorem fs_dI1_27 : decode prog_3_method_1_code 27 = .ok (.iconst 4, 1) := by decide +kernel
theorem fs_dI1_28 : decode prog_3_method_1_code 28 = .ok (.newarray .int, 2) := by decide +kernel
theorem fs_dI1_30 : decode prog_3_method_1_code 30 = .ok (.putfield 25, 3) := by decide +kernel
theorem fs_dI1_33 : decode prog_3_method_1_code 33 = .ok (.aload_n 0, 1) := by decide +kernel
theorem fs_dI1_34 : decode prog_3_method_1_code 34 = .ok (.iconst 4, 1) := by decide +kernel
theorem fs_dI1_35 : decode prog_3_method_1_code 35 = .ok (.newarray .int, 2) := by decide +kernel
theorem fs_dI1_37 : decode prog_3_method_1_code 37 = .ok (.putfield 28, 3) := by decide +kernel
theorem fs_dI1_40 : decode prog_3_method_1_code 40 = .ok (.aload_n 0, 1) := by decide +kernel
theorem fs_dI1_41 : decode prog_3_method_1_code 41 = .ok (.iconst 4, 1) := by decide +kernel
theorem fs_dI1_42 : decode prog_3_method_1_code 42 = .ok (.newarray .int, 2) := by decide +kernel
theorem fs_dI1_44 : decode prog_3_method_1_code 44 = .ok (.putfield 31, 3) := by decide +kernel
theorem fs_dI1_47 : decode prog_3_method_1_code 47 = .ok (.aload_n 0, 1) := by decide +kernel
theorem fs_dI1_48 : decode prog_3_method_1_code 48 = .ok (.iconst 4, 1) := by decide +kernel
theorem fs_dI1_49 : decode prog_3_method_1_code 49 = .ok (.newarray .int, 2) := by decide +kernel
theorem fs_dI1_51 : decode prog_3_method_1_code 51 = .ok (.putfield 34, 3) := by decide +kernel
theorem fs_dI1_54 : decode prog_3_method_1_code 54 = .ok (.aload_n 0, 1) := by decide +kernel
theorem fs_dI1_55 : decode prog_3_method_1_code 55 = .ok (.iconst 4, 1) := by decide +kernel
theorem fs_dI1_56 : decode prog_3_method_1_code 56 = .ok (.newarray .int, 2) := by decide +kernel
theorem fs_dI1_58 : decode prog_3_method_1_code 58 = .ok (.putfield 37, 3) := by decide +kernel
theorem fs_dI1_61 : decode prog_3_method_1_code 61 = .ok (.aload_n 0, 1) := by decide +kernel
theorem fs_dI1_62 : decode prog_3_method_1_code 62 = .ok (.bipush 6, 2) := by decide +kernel
theorem fs_dI1_64 : decode prog_3_method_1_code 64 = .ok (.newarray .int, 2) := by decide +kernel
theorem fs_dI1_66 : decode prog_3_method_1_code 66 = .ok (.putfield 40, 3) := by decide +kernel
theorem fs_dI1_69 : decode prog_3_method_1_code 69 = .ok (.aload_n 0, 1) := by decide +kernel
theorem fs_dI1_70 : decode prog_3_method_1_code 70 = .ok (.bipush 6, 2) := by decide +kernel
theorem fs_dI1_72 : decode prog_3_method_1_code 72 = .ok (.newarray .int, 2) := by decide +kernel
theorem fs_dI1_74 : decode prog_3_method_1_code 74 = .ok (.putfield 43, 3) := by decide +kernel
theorem fs_dI1_77 : decode prog_3_method_1_code 77 = .ok (.aload_n 0, 1) := by decide +kernel
theorem fs_dI1_78 : decode prog_3_method_1_code 78 = .ok (.bipush 30, 2) := by decide +kernel
theorem fs_dI1_80 : decode prog_3_method_1_code 80 = .ok (.newarray .int, 2) := by decide +kernel
theorem fs_dI1_82 : decode prog_3_method_1_code 82 = .ok (.putfield 46, 3) := by decide +kernel
theorem fs_dI1_85 : decode prog_3_method_1_code 85 = .ok (.aload_n 0, 1) := by decide +kernel
theorem fs_dI1_86 : decode prog_3_method_1_code 86 = .ok (.bipush 24, 2) := by decide +kernel
theorem fs_dI1_88 : decode prog_3_method_1_code 88 = .ok (.newarray .int, 2) := by decide +kernel
theorem fs_dI1_90 : decode prog_3_method_1_code 90 = .ok (.putfield 49, 3) := by decide +kernel
theorem fs_dI1_93 : decode prog_3_method_1_code 93 = .ok (.aload_n 0, 1) := by decide +kernel
theorem fs_dI1_94 : decode prog_3_method_1_code 94 = .ok (.bipush 36, 2) := by decide +kernel
theorem fs_dI1_96 : decode prog_3_method_1_code 96 = .ok (.newarray .int, 2) := by decide +kernel
theorem fs_dI1_98 : decode prog_3_method_1_code 98 = .ok (.putfield 52, 3) := by decide +kernel
theorem fs_dI1_101 : decode prog_3_method_1_code 101 = .ok (.return_, 1) := by decide +kernel
set_option maxHeartbeats 4000000 in
set_option maxRecDepth 100000 in
theorem fs_init_1 (l : Launch) {dC : Nat → ClassId} {dI : Nat → Nat → Nat} {o n r0 : Nat} {cA cB : ClassId} {E E' : Nat → va_E} (hr : r0 < n) (h0 : E r0 = .inr (1, fs_df 1)) (hE : ∀ q, q < n → q ≠ r0 → E' q = E q) (h1 : E' r0 = .inr (1, [.int 0, .int 0, .int 0, .ref (o + (n + 0)), .ref (o + (n + 1)), .ref (o + (n + 2)), .ref (o + (n + 3)), .ref (o + (n + 4)), .ref (o + (n + 5)), .ref (o + (n + 6)), .ref (o + (n + 7)), .ref (o + (n + 8)), .ref (o + (n + 9)), .ref (o + (n + 10))])) (ha : ∀ j, j < 11 → E' (n + j) = .inl (cA, ([4, 4, 4, 4, 4, 4, 6, 6, 30, 24, 36] : List Nat).getD j 0, .inl (fun _ => 0))) :
    Met l (⟨"FireSale$Market", "<init>", "()V"⟩ : MethodName) (Cond.code (⟨"FireSale$Market", "<init>", "()V"⟩ : MethodName) prog_3_method_1_code 1 none :: fs_good) ({ frames := 1, cells := 11, slots := 126, locals := 12 }) (va_Pc [.ref (o + r0)] (fun U => (U.heap.size = o + n ∧ va_P (dC, dI) vwCl (fs_wz o n E) U.heap) ∧ va_K (dC, dI) vwCl (fs_tys cA cB) U)) (va_Qv (fun _ : Unit => True) (fun _ t => t.heap.size = o + (n + 11) ∧ va_P (dC, dI) vwCl (fs_wz o (n + 11) E') t.heap) (fun q => o ≤ q)) 11 126 (fun q => o ≤ q) := by
  refine Met.ofW (cc := prog_3_method_1_code) (maxL := 1) (ret := none) (by decide) rfl ?_
  intro p e s m args below meth c s₁ B hml hv
  obtain ⟨rfl, ⟨hz, hP⟩, hK⟩ := hv
  have hx := B.exec
  have hb := B.bytes
  have hret := B.returns
  have hts0 := atoms_spec (ws := Cond.code (⟨"FireSale$Market", "<init>", "()V"⟩ : MethodName) prog_3_method_1_code 1 none :: fs_good) B.pre
  have hts : ∀ w ∈ fs_good, w.before ([.ref (o + r0)] : List Value).toArray s = true := fun w hw => hts0 w (List.mem_cons_of_mem _ hw)
  have hown : s.vm.findClass "FireSale$Market" = some m.cls := findClass_of_methodNamed B.named
  have hlocks := B.notSynchronized
  have hin : meth.name = "<init>" := (name_of_methodNamed B.named B.method).1
  have ho : o ≤ s.heap.size := by omega
  have hS : va_S (fun q => o ≤ q) s.heap s.heap [] := va_S.rf
  have hc : s.heap.size = s.heap.size + 0 := rfl
  have hl := lv_entry ([.ref (o + r0)]) (n := 1) (Nat.le_of_ble_eq_true rfl)
  rw [lg_entry_eq]
  generalize (lg_sl ([.ref (o + r0)]) ++ List.replicate (1 - (lg_sl ([.ref (o + r0)])).length) Slot.unset).toArray = ls at hl ⊢
  have hl : lv_has ls 1 [(0, .ref (o + r0))] := hl
  have hz : s.heap.size = o + (n + 0) := hz
  have edf : fs_df 1 = [.int 0, .int 0, .int 0, .null, .null, .null, .null, .null, .null, .null, .null, .null, .null, .null] := by rfl
  have hP : va_P (dC, dI) vwCl (fs_wz o (n + 0) (fs_ov E' r0 (.inr (1, [.int 0, .int 0, .int 0, .null, .null, .null, .null, .null, .null, .null, .null, .null, .null, .null])))) s.heap := by
    have e1 : fs_wz o n E = fs_wz o n (fs_ov E' r0 (.inr (1, [.int 0, .int 0, .int 0, .null, .null, .null, .null, .null, .null, .null, .null, .null, .null, .null]))) := fs_wz_congr (fun r hr => by
      by_cases q : r = r0
      · rw [q, fs_ov_at, h0, edf]
      · rw [fs_ov_ne q, hE r hr q])
    rw [e1] at hP
    exact hP
  refine lv_aload_n hx hb fs_dI1_0 rfl (lv_at hl 0 rfl) ?_
  refine W.objInit hx hb hown (hts _ (fs_ok_mem (p := 227) (by decide +kernel))) (hts _ (fs_ok_mem (p := 125) (by decide +kernel))) (hts _ (fs_ok_mem (p := 126) (by decide +kernel))) rfl (by rw [hml]; exact hl.1) rfl fs_dI1_1 (Nat.le_of_ble_eq_true rfl) (Nat.le_of_ble_eq_true rfl) ?_
  refine W.eq (g2 := F0 m 4 ls []) rfl ?_
  refine lv_aload_n hx hb fs_dI1_4 rfl (lv_at hl 0 rfl) ?_
  refine lv_iconst (v := 0) hx hb fs_dI1_5 (by decide +kernel) ?_
  refine fs_putZ (E := E') (r0 := r0) (ci := 1) (k := 0) (ty := .int) hx hb hts hown hK hz hc hP hS (Nat.lt_of_lt_of_le hr (Nat.le_add_right n 0)) (by decide) (by decide) rfl (fs_ok_mem (p := 228) (by decide +kernel)) hin (by decide +kernel) (by decide +kernel) rfl rfl fs_dI1_6 (fun H locs hz hc hP hS => ?_)
  have hP : va_P (dC, dI) vwCl (fs_wz o (n + 0) (fs_ov E' r0 (.inr (1, [.int 0, .int 0, .int 0, .null, .null, .null, .null, .null, .null, .null, .null, .null, .null, .null])))) H := hP
  refine lv_aload_n hx hb fs_dI1_9 rfl (lv_at hl 0 rfl) ?_
  refine lv_iconst (v := 0) hx hb fs_dI1_10 (by decide +kernel) ?_
  refine fs_putZ (E := E') (r0 := r0) (ci := 1) (k := 1) (ty := .int) hx hb hts hown hK hz hc hP hS (Nat.lt_of_lt_of_le hr (Nat.le_add_right n 0)) (by decide) (by decide) rfl (fs_ok_mem (p := 229) (by decide +kernel)) hin (by decide +kernel) (by decide +kernel) rfl rfl fs_dI1_11 (fun H locs hz hc hP hS => ?_)
  have hP : va_P (dC, dI) vwCl (fs_wz o (n + 0) (fs_ov E' r0 (.inr (1, [.int 0, .int 0, .int 0, .null, .null, .null, .null, .null, .null, .null, .null, .null, .null, .null])))) H := hP
  refine lv_aload_n hx hb fs_dI1_14 rfl (lv_at hl 0 rfl) ?_
  refine lv_iconst (v := 0) hx hb fs_dI1_15 (by decide +kernel) ?_
  refine fs_putZ (E := E') (r0 := r0) (ci := 1) (k := 2) (ty := .int) hx hb hts hown hK hz hc hP hS (Nat.lt_of_lt_of_le hr (Nat.le_add_right n 0)) (by decide) (by decide) rfl (fs_ok_mem (p := 230) (by decide +kernel)) hin (by decide +kernel) (by decide +kernel) rfl rfl fs_dI1_16 (fun H locs hz hc hP hS => ?_)
  have hP : va_P (dC, dI) vwCl (fs_wz o (n + 0) (fs_ov E' r0 (.inr (1, [.int 0, .int 0, .int 0, .null, .null, .null, .null, .null, .null, .null, .null, .null, .null, .null])))) H := hP
  refine lv_aload_n hx hb fs_dI1_19 rfl (lv_at hl 0 rfl) ?_
  refine lv_iconst (v := 4) hx hb fs_dI1_20 (by decide +kernel) ?_
  refine fs_newaZ (E := fs_ov E' r0 (.inr (1, [.int 0, .int 0, .int 0, .null, .null, .null, .null, .null, .null, .null, .null, .null, .null, .null]))) (n' := n + 1) (N := 4) hx hb hts hK ho rfl hz hc hP hS ((fs_ov_ne (Nat.ne_of_gt (Nat.lt_of_lt_of_le hr (Nat.le_add_right n 0)))).trans (ha 0 (by decide))) (by decide +kernel) (by decide +kernel) (by decide +kernel) (Nat.le_of_ble_eq_true rfl) (Nat.le_of_ble_eq_true rfl) fs_dI1_21 (fun H hz hc hP hS => ?_)
  have hc : H.size = s.heap.size + 1 := hc
  refine W.widen (k := 1) (n := 4) (Nat.le_refl _) (Nat.le_refl _) ?_
  refine fs_putZ (E := E') (r0 := r0) (ci := 1) (k := 3) (ty := .array .int) hx hb hts hown hK hz hc hP hS (Nat.lt_of_lt_of_le hr (Nat.le_add_right n 1)) (by decide) (by decide) rfl (fs_ok_mem (p := 232) (by decide +kernel)) hin (by decide +kernel) (by decide +kernel) rfl rfl fs_dI1_23 (fun H locs hz hc hP hS => ?_)
  have hP : va_P (dC, dI) vwCl (fs_wz o (n + 1) (fs_ov E' r0 (.inr (1, [.int 0, .int 0, .int 0, .ref (o + (n + 0)), .null, .null, .null, .null, .null, .null, .null, .null, .null, .null])))) H := hP
  refine lv_aload_n hx hb fs_dI1_26 rfl (lv_at hl 0 rfl) ?_
  refine lv_iconst (v := 4) hx hb fs_dI1_27 (by decide +kernel) ?_
  refine fs_newaZ (E := fs_ov E' r0 (.inr (1, [.int 0, .int 0, .int 0, .ref (o + (n + 0)), .null, .null, .null, .null, .null, .null, .null, .null, .null, .null]))) (n' := n + 2) (N := 4) hx hb hts hK ho rfl hz hc hP hS ((fs_ov_ne (Nat.ne_of_gt (Nat.lt_of_lt_of_le hr (Nat.le_add_right n 1)))).trans (ha 1 (by decide))) (by decide +kernel) (by decide +kernel) (by decide +kernel) (Nat.le_of_ble_eq_true rfl) (Nat.le_of_ble_eq_true rfl) fs_dI1_28 (fun H hz hc hP hS => ?_)
  have hc : H.size = s.heap.size + 2 := hc
  refine W.widen (k := 2) (n := 8) (Nat.le_refl _) (Nat.le_refl _) ?_
  refine fs_putZ (E := E') (r0 := r0) (ci := 1) (k := 4) (ty := .array .int) hx hb hts hown hK hz hc hP hS (Nat.lt_of_lt_of_le hr (Nat.le_add_right n 2)) (by decide) (by decide) rfl (fs_ok_mem (p := 234) (by decide +kernel)) hin (by decide +kernel) (by decide +kernel) rfl rfl fs_dI1_30 (fun H locs hz hc hP hS => ?_)
  have hP : va_P (dC, dI) vwCl (fs_wz o (n + 2) (fs_ov E' r0 (.inr (1, [.int 0, .int 0, .int 0, .ref (o + (n + 0)), .ref (o + (n + 1)), .null, .null, .null, .null, .null, .null, .null, .null, .null])))) H := hP
  refine lv_aload_n hx hb fs_dI1_33 rfl (lv_at hl 0 rfl) ?_
  refine lv_iconst (v := 4) hx hb fs_dI1_34 (by decide +kernel) ?_
  refine fs_newaZ (E := fs_ov E' r0 (.inr (1, [.int 0, .int 0, .int 0, .ref (o + (n + 0)), .ref (o + (n + 1)), .null, .null, .null, .null, .null, .null, .null, .null, .null]))) (n' := n + 3) (N := 4) hx hb hts hK ho rfl hz hc hP hS ((fs_ov_ne (Nat.ne_of_gt (Nat.lt_of_lt_of_le hr (Nat.le_add_right n 2)))).trans (ha 2 (by decide))) (by decide +kernel) (by decide +kernel) (by decide +kernel) (Nat.le_of_ble_eq_true rfl) (Nat.le_of_ble_eq_true rfl) fs_dI1_35 (fun H hz hc hP hS => ?_)
  have hc : H.size = s.heap.size + 3 := hc
  refine W.widen (k := 3) (n := 12) (Nat.le_refl _) (Nat.le_refl _) ?_
  refine fs_putZ (E := E') (r0 := r0) (ci := 1) (k := 5) (ty := .array .int) hx hb hts hown hK hz hc hP hS (Nat.lt_of_lt_of_le hr (Nat.le_add_right n 3)) (by decide) (by decide) rfl (fs_ok_mem (p := 235) (by decide +kernel)) hin (by decide +kernel) (by decide +kernel) rfl rfl fs_dI1_37 (fun H locs hz hc hP hS => ?_)
  have hP : va_P (dC, dI) vwCl (fs_wz o (n + 3) (fs_ov E' r0 (.inr (1, [.int 0, .int 0, .int 0, .ref (o + (n + 0)), .ref (o + (n + 1)), .ref (o + (n + 2)), .null, .null, .null, .null, .null, .null, .null, .null])))) H := hP
  refine lv_aload_n hx hb fs_dI1_40 rfl (lv_at hl 0 rfl) ?_
  refine lv_iconst (v := 4) hx hb fs_dI1_41 (by decide +kernel) ?_
  refine fs_newaZ (E := fs_ov E' r0 (.inr (1, [.int 0, .int 0, .int 0, .ref (o + (n + 0)), .ref (o + (n + 1)), .ref (o + (n + 2)), .null, .null, .null, .null, .null, .null, .null, .null]))) (n' := n + 4) (N := 4) hx hb hts hK ho rfl hz hc hP hS ((fs_ov_ne (Nat.ne_of_gt (Nat.lt_of_lt_of_le hr (Nat.le_add_right n 3)))).trans (ha 3 (by decide))) (by decide +kernel) (by decide +kernel) (by decide +kernel) (Nat.le_of_ble_eq_true rfl) (Nat.le_of_ble_eq_true rfl) fs_dI1_42 (fun H hz hc hP hS => ?_)
  have hc : H.size = s.heap.size + 4 := hc
  refine W.widen (k := 4) (n := 16) (Nat.le_refl _) (Nat.le_refl _) ?_
  refine fs_putZ (E := E') (r0 := r0) (ci := 1) (k := 6) (ty := .array .int) hx hb hts hown hK hz hc hP hS (Nat.lt_of_lt_of_le hr (Nat.le_add_right n 4)) (by decide) (by decide) rfl (fs_ok_mem (p := 237) (by decide +kernel)) hin (by decide +kernel) (by decide +kernel) rfl rfl fs_dI1_44 (fun H locs hz hc hP hS => ?_)
  have hP : va_P (dC, dI) vwCl (fs_wz o (n + 4) (fs_ov E' r0 (.inr (1, [.int 0, .int 0, .int 0, .ref (o + (n + 0)), .ref (o + (n + 1)), .ref (o + (n + 2)), .ref (o + (n + 3)), .null, .null, .null, .null, .null, .null, .null])))) H := hP
  refine lv_aload_n hx hb fs_dI1_47 rfl (lv_at hl 0 rfl) ?_
  refine lv_iconst (v := 4) hx hb fs_dI1_48 (by decide +kernel) ?_
  refine fs_newaZ (E := fs_ov E' r0 (.inr (1, [.int 0, .int 0, .int 0, .ref (o + (n + 0)), .ref (o + (n + 1)), .ref (o + (n + 2)), .ref (o + (n + 3)), .null, .null, .null, .null, .null, .null, .null]))) (n' := n + 5) (N := 4) hx hb hts hK ho rfl hz hc hP hS ((fs_ov_ne (Nat.ne_of_gt (Nat.lt_of_lt_of_le hr (Nat.le_add_right n 4)))).trans (ha 4 (by decide))) (by decide +kernel) (by decide +kernel) (by decide +kernel) (Nat.le_of_ble_eq_true rfl) (Nat.le_of_ble_eq_true rfl) fs_dI1_49 (fun H hz hc hP hS => ?_)
  have hc : H.size = s.heap.size + 5 := hc
  refine W.widen (k := 5) (n := 20) (Nat.le_refl _) (Nat.le_refl _) ?_
  refine fs_putZ (E := E') (r0 := r0) (ci := 1) (k := 7) (ty := .array .int) hx hb hts hown hK hz hc hP hS (Nat.lt_of_lt_of_le hr (Nat.le_add_right n 5)) (by decide) (by decide) rfl (fs_ok_mem (p := 239) (by decide +kernel)) hin (by decide +kernel) (by decide +kernel) rfl rfl fs_dI1_51 (fun H locs hz hc hP hS => ?_)
  have hP : va_P (dC, dI) vwCl (fs_wz o (n + 5) (fs_ov E' r0 (.inr (1, [.int 0, .int 0, .int 0, .ref (o + (n + 0)), .ref (o + (n + 1)), .ref (o + (n + 2)), .ref (o + (n + 3)), .ref (o + (n + 4)), .null, .null, .null, .null, .null, .null])))) H := hP
  refine lv_aload_n hx hb fs_dI1_54 rfl (lv_at hl 0 rfl) ?_
  refine lv_iconst (v := 4) hx hb fs_dI1_55 (by decide +kernel) ?_
  refine fs_newaZ (E := fs_ov E' r0 (.inr (1, [.int 0, .int 0, .int 0, .ref (o + (n + 0)), .ref (o + (n + 1)), .ref (o + (n + 2)), .ref (o + (n + 3)), .ref (o + (n + 4)), .null, .null, .null, .null, .null, .null]))) (n' := n + 6) (N := 4) hx hb hts hK ho rfl hz hc hP hS ((fs_ov_ne (Nat.ne_of_gt (Nat.lt_of_lt_of_le hr (Nat.le_add_right n 5)))).trans (ha 5 (by decide))) (by decide +kernel) (by decide +kernel) (by decide +kernel) (Nat.le_of_ble_eq_true rfl) (Nat.le_of_ble_eq_true rfl) fs_dI1_56 (fun H hz hc hP hS => ?_)
  have hc : H.size = s.heap.size + 6 := hc
  refine W.widen (k := 6) (n := 24) (Nat.le_refl _) (Nat.le_refl _) ?_
  refine fs_putZ (E := E') (r0 := r0) (ci := 1) (k := 8) (ty := .array .int) hx hb hts hown hK hz hc hP hS (Nat.lt_of_lt_of_le hr (Nat.le_add_right n 6)) (by decide) (by decide) rfl (fs_ok_mem (p := 241) (by decide +kernel)) hin (by decide +kernel) (by decide +kernel) rfl rfl fs_dI1_58 (fun H locs hz hc hP hS => ?_)
  have hP : va_P (dC, dI) vwCl (fs_wz o (n + 6) (fs_ov E' r0 (.inr (1, [.int 0, .int 0, .int 0, .ref (o + (n + 0)), .ref (o + (n + 1)), .ref (o + (n + 2)), .ref (o + (n + 3)), .ref (o + (n + 4)), .ref (o + (n + 5)), .null, .null, .null, .null, .null])))) H := hP
  refine lv_aload_n hx hb fs_dI1_61 rfl (lv_at hl 0 rfl) ?_
  refine lv_bipush (v := 6) hx hb fs_dI1_62 (by decide +kernel) ?_
  refine fs_newaZ (E := fs_ov E' r0 (.inr (1, [.int 0, .int 0, .int 0, .ref (o + (n + 0)), .ref (o + (n + 1)), .ref (o + (n + 2)), .ref (o + (n + 3)), .ref (o + (n + 4)), .ref (o + (n + 5)), .null, .null, .null, .null, .null]))) (n' := n + 7) (N := 6) hx hb hts hK ho rfl hz hc hP hS ((fs_ov_ne (Nat.ne_of_gt (Nat.lt_of_lt_of_le hr (Nat.le_add_right n 6)))).trans (ha 6 (by decide))) (by decide +kernel) (by decide +kernel) (by decide +kernel) (Nat.le_of_ble_eq_true rfl) (Nat.le_of_ble_eq_true rfl) fs_dI1_64 (fun H hz hc hP hS => ?_)
  have hc : H.size = s.heap.size + 7 := hc
  refine W.widen (k := 7) (n := 30) (Nat.le_refl _) (Nat.le_refl _) ?_
  refine fs_putZ (E := E') (r0 := r0) (ci := 1) (k := 9) (ty := .array .int) hx hb hts hown hK hz hc hP hS (Nat.lt_of_lt_of_le hr (Nat.le_add_right n 7)) (by decide) (by decide) rfl (fs_ok_mem (p := 243) (by decide +kernel)) hin (by decide +kernel) (by decide +kernel) rfl rfl fs_dI1_66 (fun H locs hz hc hP hS => ?_)
  have hP : va_P (dC, dI) vwCl (fs_wz o (n + 7) (fs_ov E' r0 (.inr (1, [.int 0, .int 0, .int 0, .ref (o + (n + 0)), .ref (o + (n + 1)), .ref (o + (n + 2)), .ref (o + (n + 3)), .ref (o + (n + 4)), .ref (o + (n + 5)), .ref (o + (n + 6)), .null, .null, .null, .null])))) H := hP
  refine lv_aload_n hx hb fs_dI1_69 rfl (lv_at hl 0 rfl) ?_
  refine lv_bipush (v := 6) hx hb fs_dI1_70 (by decide +kernel) ?_
  refine fs_newaZ (E := fs_ov E' r0 (.inr (1, [.int 0, .int 0, .int 0, .ref (o + (n + 0)), .ref (o + (n + 1)), .ref (o + (n + 2)), .ref (o + (n + 3)), .ref (o + (n + 4)), .ref (o + (n + 5)), .ref (o + (n + 6)), .null, .null, .null, .null]))) (n' := n + 8) (N := 6) hx hb hts hK ho rfl hz hc hP hS ((fs_ov_ne (Nat.ne_of_gt (Nat.lt_of_lt_of_le hr (Nat.le_add_right n 7)))).trans (ha 7 (by decide))) (by decide +kernel) (by decide +kernel) (by decide +kernel) (Nat.le_of_ble_eq_true rfl) (Nat.le_of_ble_eq_true rfl) fs_dI1_72 (fun H hz hc hP hS => ?_)
  have hc : H.size = s.heap.size + 8 := hc
  refine W.widen (k := 8) (n := 36) (Nat.le_refl _) (Nat.le_refl _) ?_
  refine fs_putZ (E := E') (r0 := r0) (ci := 1) (k := 10) (ty := .array .int) hx hb hts hown hK hz hc hP hS (Nat.lt_of_lt_of_le hr (Nat.le_add_right n 8)) (by decide) (by decide) rfl (fs_ok_mem (p := 244) (by decide +kernel)) hin (by decide +kernel) (by decide +kernel) rfl rfl fs_dI1_74 (fun H locs hz hc hP hS => ?_)
  have hP : va_P (dC, dI) vwCl (fs_wz o (n + 8) (fs_ov E' r0 (.inr (1, [.int 0, .int 0, .int 0, .ref (o + (n + 0)), .ref (o + (n + 1)), .ref (o + (n + 2)), .ref (o + (n + 3)), .ref (o + (n + 4)), .ref (o + (n + 5)), .ref (o + (n + 6)), .ref (o + (n + 7)), .null, .null, .null])))) H := hP
  refine lv_aload_n hx hb fs_dI1_77 rfl (lv_at hl 0 rfl) ?_
  refine lv_bipush (v := 30) hx hb fs_dI1_78 (by decide +kernel) ?_
  refine fs_newaZ (E := fs_ov E' r0 (.inr (1, [.int 0, .int 0, .int 0, .ref (o + (n + 0)), .ref (o + (n + 1)), .ref (o + (n + 2)), .ref (o + (n + 3)), .ref (o + (n + 4)), .ref (o + (n + 5)), .ref (o + (n + 6)), .ref (o + (n + 7)), .null, .null, .null]))) (n' := n + 9) (N := 30) hx hb hts hK ho rfl hz hc hP hS ((fs_ov_ne (Nat.ne_of_gt (Nat.lt_of_lt_of_le hr (Nat.le_add_right n 8)))).trans (ha 8 (by decide))) (by decide +kernel) (by decide +kernel) (by decide +kernel) (Nat.le_of_ble_eq_true rfl) (Nat.le_of_ble_eq_true rfl) fs_dI1_80 (fun H hz hc hP hS => ?_)
  have hc : H.size = s.heap.size + 9 := hc
  refine W.widen (k := 9) (n := 66) (Nat.le_refl _) (Nat.le_refl _) ?_
  refine fs_putZ (E := E') (r0 := r0) (ci := 1) (k := 11) (ty := .array .int) hx hb hts hown hK hz hc hP hS (Nat.lt_of_lt_of_le hr (Nat.le_add_right n 9)) (by decide) (by decide) rfl (fs_ok_mem (p := 245) (by decide +kernel)) hin (by decide +kernel) (by decide +kernel) rfl rfl fs_dI1_82 (fun H locs hz hc hP hS => ?_)
  have hP : va_P (dC, dI) vwCl (fs_wz o (n + 9) (fs_ov E' r0 (.inr (1, [.int 0, .int 0, .int 0, .ref (o + (n + 0)), .ref (o + (n + 1)), .ref (o + (n + 2)), .ref (o + (n + 3)), .ref (o + (n + 4)), .ref (o + (n + 5)), .ref (o + (n + 6)), .ref (o + (n + 7)), .ref (o + (n + 8)), .null, .null])))) H := hP
  refine lv_aload_n hx hb fs_dI1_85 rfl (lv_at hl 0 rfl) ?_
  refine lv_bipush (v := 24) hx hb fs_dI1_86 (by decide +kernel) ?_
  refine fs_newaZ (E := fs_ov E' r0 (.inr (1, [.int 0, .int 0, .int 0, .ref (o + (n + 0)), .ref (o + (n + 1)), .ref (o + (n + 2)), .ref (o + (n + 3)), .ref (o + (n + 4)), .ref (o + (n + 5)), .ref (o + (n + 6)), .ref (o + (n + 7)), .ref (o + (n + 8)), .null, .null]))) (n' := n + 10) (N := 24) hx hb hts hK ho rfl hz hc hP hS ((fs_ov_ne (Nat.ne_of_gt (Nat.lt_of_lt_of_le hr (Nat.le_add_right n 9)))).trans (ha 9 (by decide))) (by decide +kernel) (by decide +kernel) (by decide +kernel) (Nat.le_of_ble_eq_true rfl) (Nat.le_of_ble_eq_true rfl) fs_dI1_88 (fun H hz hc hP hS => ?_)
  have hc : H.size = s.heap.size + 10 := hc
  refine W.widen (k := 10) (n := 90) (Nat.le_refl _) (Nat.le_refl _) ?_
  refine fs_putZ (E := E') (r0 := r0) (ci := 1) (k := 12) (ty := .array .int) hx hb hts hown hK hz hc hP hS (Nat.lt_of_lt_of_le hr (Nat.le_add_right n 10)) (by decide) (by decide) rfl (fs_ok_mem (p := 246) (by decide +kernel)) hin (by decide +kernel) (by decide +kernel) rfl rfl fs_dI1_90 (fun H locs hz hc hP hS => ?_)
  have hP : va_P (dC, dI) vwCl (fs_wz o (n + 10) (fs_ov E' r0 (.inr (1, [.int 0, .int 0, .int 0, .ref (o + (n + 0)), .ref (o + (n + 1)), .ref (o + (n + 2)), .ref (o + (n + 3)), .ref (o + (n + 4)), .ref (o + (n + 5)), .ref (o + (n + 6)), .ref (o + (n + 7)), .ref (o + (n + 8)), .ref (o + (n + 9)), .null])))) H := hP
  refine lv_aload_n hx hb fs_dI1_93 rfl (lv_at hl 0 rfl) ?_
  refine lv_bipush (v := 36) hx hb fs_dI1_94 (by decide +kernel) ?_
  refine fs_newaZ (E := fs_ov E' r0 (.inr (1, [.int 0, .int 0, .int 0, .ref (o + (n + 0)), .ref (o + (n + 1)), .ref (o + (n + 2)), .ref (o + (n + 3)), .ref (o + (n + 4)), .ref (o + (n + 5)), .ref (o + (n + 6)), .ref (o + (n + 7)), .ref (o + (n + 8)), .ref (o + (n + 9)), .null]))) (n' := n + 11) (N := 36) hx hb hts hK ho rfl hz hc hP hS ((fs_ov_ne (Nat.ne_of_gt (Nat.lt_of_lt_of_le hr (Nat.le_add_right n 10)))).trans (ha 10 (by decide))) (by decide +kernel) (by decide +kernel) (by decide +kernel) (Nat.le_of_ble_eq_true rfl) (Nat.le_of_ble_eq_true rfl) fs_dI1_96 (fun H hz hc hP hS => ?_)
  have hc : H.size = s.heap.size + 11 := hc
  refine W.widen (k := 11) (n := 126) (Nat.le_refl _) (Nat.le_refl _) ?_
  refine fs_putZ (E := E') (r0 := r0) (ci := 1) (k := 13) (ty := .array .int) hx hb hts hown hK hz hc hP hS (Nat.lt_of_lt_of_le hr (Nat.le_add_right n 11)) (by decide) (by decide) rfl (fs_ok_mem (p := 247) (by decide +kernel)) hin (by decide +kernel) (by decide +kernel) rfl rfl fs_dI1_98 (fun H locs hz hc hP hS => ?_)
  have hP : va_P (dC, dI) vwCl (fs_wz o (n + 11) (fs_ov E' r0 (.inr (1, [.int 0, .int 0, .int 0, .ref (o + (n + 0)), .ref (o + (n + 1)), .ref (o + (n + 2)), .ref (o + (n + 3)), .ref (o + (n + 4)), .ref (o + (n + 5)), .ref (o + (n + 6)), .ref (o + (n + 7)), .ref (o + (n + 8)), .ref (o + (n + 9)), .ref (o + (n + 10))])))) H := hP
  have hPf : va_P (dC, dI) vwCl (fs_wz o (n + 11) E') H := by
    have e1 : fs_wz o (n + 11) (fs_ov E' r0 (.inr (1, [.int 0, .int 0, .int 0, .ref (o + (n + 0)), .ref (o + (n + 1)), .ref (o + (n + 2)), .ref (o + (n + 3)), .ref (o + (n + 4)), .ref (o + (n + 5)), .ref (o + (n + 6)), .ref (o + (n + 7)), .ref (o + (n + 8)), .ref (o + (n + 9)), .ref (o + (n + 10))]))) = fs_wz o (n + 11) E' := fs_wz_congr (fun r hr => by
      by_cases q : r = r0
      · rw [q, fs_ov_at, h1]
      · rw [fs_ov_ne q])
    rw [← e1]
    exact hP
  exact W.vret hx hb hret (fun t ht hW => ⟨⟨(), rfl, trivial, by rw [ht]; exact hz, by rw [ht]; exact hPf⟩, hS.F ht⟩) hS.2.2 fs_dI1_101 hlocks
theorem fs_dI6_0 : decode prog_8_method_1_code 0 = .ok (.aload_n 0, 1) := by decide +kernel
theorem fs_dI6_1 : decode prog_8_method_1_code 1 = .ok (.invokespecial 1, 3) := by decide +kernel
theorem fs_dI6_4 : decode prog_8_method_1_code 4 = .ok (.aload_n 0, 1) := by decide +kernel
theorem fs_dI6_5 : decode prog_8_method_1_code 5 = .ok (.sipush 139, 3) := by decide +kernel
theorem fs_dI6_8 : decode prog_8_method_1_code 8 = .ok (.newarray .int, 2) := by decide +kernel
theorem fs_dI6_10 : decode prog_8_method_1_code 10 = .ok (.putfield 7, 3) := by decide +kernel
theorem fs_dI6_13 : decode prog_8_method_1_code 13 = .ok (.aload_n 0, 1) := by decide +kernel
theorem fs_dI6_14 : decode prog_8_method_1_code 14 = .ok (.sipush 139, 3) := by decide +kernel
theorem fs_dI6_17 : decode prog_8_method_1_code 17 = .ok (.newarray .int, 2) := by decide +kernel
theorem fs_dI6_19 : decode prog_8_method_1_code 19 = .ok (.putfield 13, 3) := by decide +kernel
theorem fs_dI6_22 : decode prog_8_method_1_code 22 = .ok (.aload_n 0, 1) := by decide +kernel
theorem fs_dI6_23 : decode prog_8_method_1_code 23 = .ok (.sipush 1668, 3) := by decide +kernel
theorem fs_dI6_26 : decode prog_8_method_1_code 26 = .ok (.newarray .int, 2) := by decide +kernel
theorem fs_dI6_28 : decode prog_8_method_1_code 28 = .ok (.putfield 16, 3) := by decide +kernel
theorem fs_dI6_31 : decode prog_8_method_1_code 31 = .ok (.aload_n 0, 1) := by decide +kernel
theorem fs_dI6_32 : decode prog_8_method_1_code 32 = .ok (.sipush 800, 3) := by decide +kernel
theorem fs_dI6_35 : decode prog_8_method_1_code 35 = .ok (.newarray .int, 2) := by decide +kernel
theorem fs_dI6_37 : decode prog_8_method_1_code 37 = .ok (.putfield 19, 3) := by decide +kernel
theorem fs_dI6_40 : decode prog_8_method_1_code 40 = .ok (.aload_n 0, 1) := by decide +kernel
theorem fs_dI6_41 : decode prog_8_method_1_code 41 = .ok (.iconst 4, 1) := by decide +kernel
theorem fs_dI6_42 : decode prog_8_method_1_code 42 = .ok (.newarray .int, 2) := by decide +kernel
theorem fs_dI6_44 : decode prog_8_method_1_code 44 = .ok (.putfield 22, 3) := by decide +kernel
theorem fs_dI6_47 : decode prog_8_method_1_code 47 = .ok (.aload_n 0, 1) := by decide +kernel
theorem fs_dI6_48 : decode prog_8_method_1_code 48 = .ok (.iconst 4, 1) := by decide +kernel
theorem fs_dI6_49 : decode prog_8_method_1_code 49 = .ok (.newarray .int, 2) := by decide +kernel
theorem fs_dI6_51 : decode prog_8_method_1_code 51 = .ok (.putfield 25, 3) := by decide +kernel
theorem fs_dI6_54 : decode prog_8_method_1_code 54 = .ok (.aload_n 0, 1) := by decide +kernel
theorem fs_dI6_55 : decode prog_8_method_1_code 55 = .ok (.bipush 6, 2) := by decide +kernel
theorem fs_dI6_57 : decode prog_8_method_1_code 57 = .ok (.newarray .int, 2) := by decide +kernel
theorem fs_dI6_59 : decode prog_8_method_1_code 59 = .ok (.putfield 28, 3) := by decide +kernel
theorem fs_dI6_62 : decode prog_8_method_1_code 62 = .ok (.aload_n 0, 1) := by decide +kernel
theorem fs_dI6_63 : decode prog_8_method_1_code 63 = .ok (.iconst (-1), 1) := by decide +kernel
theorem fs_dI6_64 : decode prog_8_method_1_code 64 = .ok (.putfield 31, 3) := by decide +kernel
theorem fs_dI6_67 : decode prog_8_method_1_code 67 = .ok (.aload_n 0, 1) := by decide +kernel
theorem fs_dI6_68 : decode prog_8_method_1_code 68 = .ok (.sipush 360, 3) := by decide +kernel
theorem fs_dI6_71 : decode prog_8_method_1_code 71 = .ok (.putfield 35, 3) := by decide +kernel
theorem fs_dI6_74 : decode prog_8_method_1_code 74 = .ok (.aload_n 0, 1) := by decide +kernel
theorem fs_dI6_75 : decode prog_8_method_1_code 75 = .ok (.iconst (-1), 1) := by decide +kernel
theorem fs_dI6_76 : decode prog_8_method_1_code 76 = .ok (.putfield 38, 3) := by decide +kernel
theorem fs_dI6_79 : decode prog_8_method_1_code 79 = .ok (.aload_n 0, 1) := by decide +kernel
theorem fs_dI6_80 : decode prog_8_method_1_code 80 = .ok (.bipush 100, 2) := by decide +kernel
theorem fs_dI6_82 : decode prog_8_method_1_code 82 = .ok (.putfield 41, 3) := by decide +kernel
theorem fs_dI6_85 : decode prog_8_method_1_code 85 = .ok (.aload_n 0, 1) := by decide +kernel
theorem fs_dI6_86 : decode prog_8_method_1_code 86 = .ok (.iconst 4, 1) := by decide +kernel
theorem fs_dI6_87 : decode prog_8_method_1_code 87 = .ok (.newarray .int, 2) := by decide +kernel
theorem fs_dI6_89 : decode prog_8_method_1_code 89 = .ok (.putfield 44, 3) := by decide +kernel
theorem fs_dI6_92 : decode prog_8_method_1_code 92 = .ok (.aload_n 0, 1) := by decide +kernel
theorem fs_dI6_93 : decode prog_8_method_1_code 93 = .ok (.iconst 4, 1) := by decide +kernel
theorem fs_dI6_94 : decode prog_8_method_1_code 94 = .ok (.newarray .int, 2) := by decide +kernel
theorem fs_dI6_96 : decode prog_8_method_1_code 96 = .ok (.putfield 47, 3) := by decide +kernel
theorem fs_dI6_99 : decode prog_8_method_1_code 99 = .ok (.aload_n 0, 1) := by decide +kernel
theorem fs_dI6_100 : decode prog_8_method_1_code 100 = .ok (.bipush 24, 2) := by decide +kernel
theorem fs_dI6_102 : decode prog_8_method_1_code 102 = .ok (.newarray .int, 2) := by decide +kernel
theorem fs_dI6_104 : decode prog_8_method_1_code 104 = .ok (.putfield 50, 3) := by decide +kernel
theorem fs_dI6_107 : decode prog_8_method_1_code 107 = .ok (.aload_n 0, 1) := by decide +kernel
theorem fs_dI6_108 : decode prog_8_method_1_code 108 = .ok (.bipush 6, 2) := by decide +kernel
theorem fs_dI6_110 : decode prog_8_method_1_code 110 = .ok (.newarray .int, 2) := by decide +kernel
theorem fs_dI6_112 : decode prog_8_method_1_code 112 = .ok (.putfield 53, 3) := by decide +kernel
theorem fs_dI6_115 : decode prog_8_method_1_code 115 = .ok (.aload_n 0, 1) := by decide +kernel
theorem fs_dI6_116 : decode prog_8_method_1_code 116 = .ok (.bipush 6, 2) := by decide +kernel
theorem fs_dI6_118 : decode prog_8_method_1_code 118 = .ok (.newarray .int, 2) := by decide +kernel
theorem fs_dI6_120 : decode prog_8_method_1_code 120 = .ok (.putfield 56, 3) := by decide +kernel
theorem fs_dI6_123 : decode prog_8_method_1_code 123 = .ok (.aload_n 0, 1) := by decide +kernel
theorem fs_dI6_124 : decode prog_8_method_1_code 124 = .ok (.bipush 6, 2) := by decide +kernel
theorem fs_dI6_126 : decode prog_8_method_1_code 126 = .ok (.newarray .int, 2) := by decide +kernel
theorem fs_dI6_128 : decode prog_8_method_1_code 128 = .ok (.putfield 59, 3) := by decide +kernel
theorem fs_dI6_131 : decode prog_8_method_1_code 131 = .ok (.aload_n 0, 1) := by decide +kernel
theorem fs_dI6_132 : decode prog_8_method_1_code 132 = .ok (.sipush 1200, 3) := by decide +kernel
theorem fs_dI6_135 : decode prog_8_method_1_code 135 = .ok (.newarray .int, 2) := by decide +kernel
theorem fs_dI6_137 : decode prog_8_method_1_code 137 = .ok (.putfield 62, 3) := by decide +kernel
theorem fs_dI6_140 : decode prog_8_method_1_code 140 = .ok (.return_, 1) := by decide +kernel
set_option maxHeartbeats 4000000 in
set_option maxRecDepth 100000 in
theorem fs_init_6 (l : Launch) {dC : Nat → ClassId} {dI : Nat → Nat → Nat} {o n r0 : Nat} {cA cB : ClassId} {E E' : Nat → va_E} (hr : r0 < n) (h0 : E r0 = .inr (6, fs_df 6)) (hE : ∀ q, q < n → q ≠ r0 → E' q = E q) (h1 : E' r0 = .inr (6, [.int 0, .ref (o + (n + 0)), .ref (o + (n + 1)), .ref (o + (n + 2)), .int 0, .ref (o + (n + 3)), .int 0, .int 0, .int 0, .int 0, .int 0, .int 0, .int 0, .ref (o + (n + 4)), .ref (o + (n + 5)), .int 0, .int 0, .int 0, .ref (o + (n + 6)), .int (-1), .int 360, .int 0, .int (-1), .int 0, .int 100, .int 0, .ref (o + (n + 7)), .ref (o + (n + 8)), .ref (o + (n + 9)), .ref (o + (n + 10)), .int 0, .ref (o + (n + 11)), .ref (o + (n + 12)), .ref (o + (n + 13)), .int 0])) (ha : ∀ j, j < 14 → E' (n + j) = .inl (cA, ([139, 139, 1668, 800, 4, 4, 6, 4, 4, 24, 6, 6, 6, 1200] : List Nat).getD j 0, .inl (fun _ => 0))) :
    Met l (⟨"FireSaleModel", "<init>", "()V"⟩ : MethodName) (Cond.code (⟨"FireSaleModel", "<init>", "()V"⟩ : MethodName) prog_8_method_1_code 1 none :: fs_good) ({ frames := 1, cells := 14, slots := 4010, locals := 12 }) (va_Pc [.ref (o + r0)] (fun U => (U.heap.size = o + n ∧ va_P (dC, dI) vwCl (fs_wz o n E) U.heap) ∧ va_K (dC, dI) vwCl (fs_tys cA cB) U)) (va_Qv (fun _ : Unit => True) (fun _ t => t.heap.size = o + (n + 14) ∧ va_P (dC, dI) vwCl (fs_wz o (n + 14) E') t.heap) (fun q => o ≤ q)) 14 4010 (fun q => o ≤ q) := by
  refine Met.ofW (cc := prog_8_method_1_code) (maxL := 1) (ret := none) (by decide) rfl ?_
  intro p e s m args below meth c s₁ B hml hv
  obtain ⟨rfl, ⟨hz, hP⟩, hK⟩ := hv
  have hx := B.exec
  have hb := B.bytes
  have hret := B.returns
  have hts0 := atoms_spec (ws := Cond.code (⟨"FireSaleModel", "<init>", "()V"⟩ : MethodName) prog_8_method_1_code 1 none :: fs_good) B.pre
  have hts : ∀ w ∈ fs_good, w.before ([.ref (o + r0)] : List Value).toArray s = true := fun w hw => hts0 w (List.mem_cons_of_mem _ hw)
  have hown : s.vm.findClass "FireSaleModel" = some m.cls := findClass_of_methodNamed B.named
  have hlocks := B.notSynchronized
  have hin : meth.name = "<init>" := (name_of_methodNamed B.named B.method).1
  have ho : o ≤ s.heap.size := by omega
  have hS : va_S (fun q => o ≤ q) s.heap s.heap [] := va_S.rf
  have hc : s.heap.size = s.heap.size + 0 := rfl
  have hl := lv_entry ([.ref (o + r0)]) (n := 1) (Nat.le_of_ble_eq_true rfl)
  rw [lg_entry_eq]
  generalize (lg_sl ([.ref (o + r0)]) ++ List.replicate (1 - (lg_sl ([.ref (o + r0)])).length) Slot.unset).toArray = ls at hl ⊢
  have hl : lv_has ls 1 [(0, .ref (o + r0))] := hl
  have hz : s.heap.size = o + (n + 0) := hz
  have edf : fs_df 6 = [.int 0, .null, .null, .null, .int 0, .null, .int 0, .int 0, .int 0, .int 0, .int 0, .int 0, .int 0, .null, .null, .int 0, .int 0, .int 0, .null, .int 0, .int 0, .int 0, .int 0, .int 0, .int 0, .int 0, .null, .null, .null, .null, .int 0, .null, .null, .null, .int 0] := by rfl
  have hP : va_P (dC, dI) vwCl (fs_wz o (n + 0) (fs_ov E' r0 (.inr (6, [.int 0, .null, .null, .null, .int 0, .null, .int 0, .int 0, .int 0, .int 0, .int 0, .int 0, .int 0, .null, .null, .int 0, .int 0, .int 0, .null, .int 0, .int 0, .int 0, .int 0, .int 0, .int 0, .int 0, .null, .null, .null, .null, .int 0, .null, .null, .null, .int 0])))) s.heap := by
    have e1 : fs_wz o n E = fs_wz o n (fs_ov E' r0 (.inr (6, [.int 0, .null, .null, .null, .int 0, .null, .int 0, .int 0, .int 0, .int 0, .int 0, .int 0, .int 0, .null, .null, .int 0, .int 0, .int 0, .null, .int 0, .int 0, .int 0, .int 0, .int 0, .int 0, .int 0, .null, .null, .null, .null, .int 0, .null, .null, .null, .int 0]))) := fs_wz_congr (fun r hr => by
      by_cases q : r = r0
      · rw [q, fs_ov_at, h0, edf]
      · rw [fs_ov_ne q, hE r hr q])
    rw [e1] at hP
    exact hP
  refine lv_aload_n hx hb fs_dI6_0 rfl (lv_at hl 0 rfl) ?_
  refine W.objInit hx hb hown (hts _ (fs_ok_mem (p := 1110) (by decide +kernel))) (hts _ (fs_ok_mem (p := 125) (by decide +kernel))) (hts _ (fs_ok_mem (p := 126) (by decide +kernel))) rfl (by rw [hml]; exact hl.1) rfl fs_dI6_1 (Nat.le_of_ble_eq_true rfl) (Nat.le_of_ble_eq_true rfl) ?_
  refine W.eq (g2 := F0 m 4 ls []) rfl ?_
  refine lv_aload_n hx hb fs_dI6_4 rfl (lv_at hl 0 rfl) ?_
  refine lv_sipush (v := 139) hx hb fs_dI6_5 (by decide +kernel) ?_
  refine fs_newaZ (E := fs_ov E' r0 (.inr (6, [.int 0, .null, .null, .null, .int 0, .null, .int 0, .int 0, .int 0, .int 0, .int 0, .int 0, .int 0, .null, .null, .int 0, .int 0, .int 0, .null, .int 0, .int 0, .int 0, .int 0, .int 0, .int 0, .int 0, .null, .null, .null, .null, .int 0, .null, .null, .null, .int 0]))) (n' := n + 1) (N := 139) hx hb hts hK ho rfl hz hc hP hS ((fs_ov_ne (Nat.ne_of_gt (Nat.lt_of_lt_of_le hr (Nat.le_add_right n 0)))).trans (ha 0 (by decide))) (by decide +kernel) (by decide +kernel) (by decide +kernel) (Nat.le_of_ble_eq_true rfl) (Nat.le_of_ble_eq_true rfl) fs_dI6_8 (fun H hz hc hP hS => ?_)
  have hc : H.size = s.heap.size + 1 := hc
  refine W.widen (k := 1) (n := 139) (Nat.le_refl _) (Nat.le_refl _) ?_
  refine fs_putZ (E := E') (r0 := r0) (ci := 6) (k := 1) (ty := .array .int) hx hb hts hown hK hz hc hP hS (Nat.lt_of_lt_of_le hr (Nat.le_add_right n 1)) (by decide) (by decide) rfl (fs_ok_mem (p := 1111) (by decide +kernel)) hin (by decide +kernel) (by decide +kernel) rfl rfl fs_dI6_10 (fun H locs hz hc hP hS => ?_)
  have hP : va_P (dC, dI) vwCl (fs_wz o (n + 1) (fs_ov E' r0 (.inr (6, [.int 0, .ref (o + (n + 0)), .null, .null, .int 0, .null, .int 0, .int 0, .int 0, .int 0, .int 0, .int 0, .int 0, .null, .null, .int 0, .int 0, .int 0, .null, .int 0, .int 0, .int 0, .int 0, .int 0, .int 0, .int 0, .null, .null, .null, .null, .int 0, .null, .null, .null, .int 0])))) H := hP
  refine lv_aload_n hx hb fs_dI6_13 rfl (lv_at hl 0 rfl) ?_
  refine lv_sipush (v := 139) hx hb fs_dI6_14 (by decide +kernel) ?_
  refine fs_newaZ (E := fs_ov E' r0 (.inr (6, [.int 0, .ref (o + (n + 0)), .null, .null, .int 0, .null, .int 0, .int 0, .int 0, .int 0, .int 0, .int 0, .int 0, .null, .null, .int 0, .int 0, .int 0, .null, .int 0, .int 0, .int 0, .int 0, .int 0, .int 0, .int 0, .null, .null, .null, .null, .int 0, .null, .null, .null, .int 0]))) (n' := n + 2) (N := 139) hx hb hts hK ho rfl hz hc hP hS ((fs_ov_ne (Nat.ne_of_gt (Nat.lt_of_lt_of_le hr (Nat.le_add_right n 1)))).trans (ha 1 (by decide))) (by decide +kernel) (by decide +kernel) (by decide +kernel) (Nat.le_of_ble_eq_true rfl) (Nat.le_of_ble_eq_true rfl) fs_dI6_17 (fun H hz hc hP hS => ?_)
  have hc : H.size = s.heap.size + 2 := hc
  refine W.widen (k := 2) (n := 278) (Nat.le_refl _) (Nat.le_refl _) ?_
  refine fs_putZ (E := E') (r0 := r0) (ci := 6) (k := 2) (ty := .array .int) hx hb hts hown hK hz hc hP hS (Nat.lt_of_lt_of_le hr (Nat.le_add_right n 2)) (by decide) (by decide) rfl (fs_ok_mem (p := 1112) (by decide +kernel)) hin (by decide +kernel) (by decide +kernel) rfl rfl fs_dI6_19 (fun H locs hz hc hP hS => ?_)
  have hP : va_P (dC, dI) vwCl (fs_wz o (n + 2) (fs_ov E' r0 (.inr (6, [.int 0, .ref (o + (n + 0)), .ref (o + (n + 1)), .null, .int 0, .null, .int 0, .int 0, .int 0, .int 0, .int 0, .int 0, .int 0, .null, .null, .int 0, .int 0, .int 0, .null, .int 0, .int 0, .int 0, .int 0, .int 0, .int 0, .int 0, .null, .null, .null, .null, .int 0, .null, .null, .null, .int 0])))) H := hP
  refine lv_aload_n hx hb fs_dI6_22 rfl (lv_at hl 0 rfl) ?_
  refine lv_sipush (v := 1668) hx hb fs_dI6_23 (by decide +kernel) ?_
  refine fs_newaZ (E := fs_ov E' r0 (.inr (6, [.int 0, .ref (o + (n + 0)), .ref (o + (n + 1)), .null, .int 0, .null, .int 0, .int 0, .int 0, .int 0, .int 0, .int 0, .int 0, .null, .null, .int 0, .int 0, .int 0, .null, .int 0, .int 0, .int 0, .int 0, .int 0, .int 0, .int 0, .null, .null, .null, .null, .int 0, .null, .null, .null, .int 0]))) (n' := n + 3) (N := 1668) hx hb hts hK ho rfl hz hc hP hS ((fs_ov_ne (Nat.ne_of_gt (Nat.lt_of_lt_of_le hr (Nat.le_add_right n 2)))).trans (ha 2 (by decide))) (by decide +kernel) (by decide +kernel) (by decide +kernel) (Nat.le_of_ble_eq_true rfl) (Nat.le_of_ble_eq_true rfl) fs_dI6_26 (fun H hz hc hP hS => ?_)
  have hc : H.size = s.heap.size + 3 := hc
  refine W.widen (k := 3) (n := 1946) (Nat.le_refl _) (Nat.le_refl _) ?_
  refine fs_putZ (E := E') (r0 := r0) (ci := 6) (k := 3) (ty := .array .int) hx hb hts hown hK hz hc hP hS (Nat.lt_of_lt_of_le hr (Nat.le_add_right n 3)) (by decide) (by decide) rfl (fs_ok_mem (p := 1113) (by decide +kernel)) hin (by decide +kernel) (by decide +kernel) rfl rfl fs_dI6_28 (fun H locs hz hc hP hS => ?_)
  have hP : va_P (dC, dI) vwCl (fs_wz o (n + 3) (fs_ov E' r0 (.inr (6, [.int 0, .ref (o + (n + 0)), .ref (o + (n + 1)), .ref (o + (n + 2)), .int 0, .null, .int 0, .int 0, .int 0, .int 0, .int 0, .int 0, .int 0, .null, .null, .int 0, .int 0, .int 0, .null, .int 0, .int 0, .int 0, .int 0, .int 0, .int 0, .int 0, .null, .null, .null, .null, .int 0, .null, .null, .null, .int 0])))) H := hP
  refine lv_aload_n hx hb fs_dI6_31 rfl (lv_at hl 0 rfl) ?_
  refine lv_sipush (v := 800) hx hb fs_dI6_32 (by decide +kernel) ?_
  refine fs_newaZ (E := fs_ov E' r0 (.inr (6, [.int 0, .ref (o + (n + 0)), .ref (o + (n + 1)), .ref (o + (n + 2)), .int 0, .null, .int 0, .int 0, .int 0, .int 0, .int 0, .int 0, .int 0, .null, .null, .int 0, .int 0, .int 0, .null, .int 0, .int 0, .int 0, .int 0, .int 0, .int 0, .int 0, .null, .null, .null, .null, .int 0, .null, .null, .null, .int 0]))) (n' := n + 4) (N := 800) hx hb hts hK ho rfl hz hc hP hS ((fs_ov_ne (Nat.ne_of_gt (Nat.lt_of_lt_of_le hr (Nat.le_add_right n 3)))).trans (ha 3 (by decide))) (by decide +kernel) (by decide +kernel) (by decide +kernel) (Nat.le_of_ble_eq_true rfl) (Nat.le_of_ble_eq_true rfl) fs_dI6_35 (fun H hz hc hP hS => ?_)
  have hc : H.size = s.heap.size + 4 := hc
  refine W.widen (k := 4) (n := 2746) (Nat.le_refl _) (Nat.le_refl _) ?_
  refine fs_putZ (E := E') (r0 := r0) (ci := 6) (k := 5) (ty := .array .int) hx hb hts hown hK hz hc hP hS (Nat.lt_of_lt_of_le hr (Nat.le_add_right n 4)) (by decide) (by decide) rfl (fs_ok_mem (p := 1115) (by decide +kernel)) hin (by decide +kernel) (by decide +kernel) rfl rfl fs_dI6_37 (fun H locs hz hc hP hS => ?_)
  have hP : va_P (dC, dI) vwCl (fs_wz o (n + 4) (fs_ov E' r0 (.inr (6, [.int 0, .ref (o + (n + 0)), .ref (o + (n + 1)), .ref (o + (n + 2)), .int 0, .ref (o + (n + 3)), .int 0, .int 0, .int 0, .int 0, .int 0, .int 0, .int 0, .null, .null, .int 0, .int 0, .int 0, .null, .int 0, .int 0, .int 0, .int 0, .int 0, .int 0, .int 0, .null, .null, .null, .null, .int 0, .null, .null, .null, .int 0])))) H := hP
  refine lv_aload_n hx hb fs_dI6_40 rfl (lv_at hl 0 rfl) ?_
  refine lv_iconst (v := 4) hx hb fs_dI6_41 (by decide +kernel) ?_
  refine fs_newaZ (E := fs_ov E' r0 (.inr (6, [.int 0, .ref (o + (n + 0)), .ref (o + (n + 1)), .ref (o + (n + 2)), .int 0, .ref (o + (n + 3)), .int 0, .int 0, .int 0, .int 0, .int 0, .int 0, .int 0, .null, .null, .int 0, .int 0, .int 0, .null, .int 0, .int 0, .int 0, .int 0, .int 0, .int 0, .int 0, .null, .null, .null, .null, .int 0, .null, .null, .null, .int 0]))) (n' := n + 5) (N := 4) hx hb hts hK ho rfl hz hc hP hS ((fs_ov_ne (Nat.ne_of_gt (Nat.lt_of_lt_of_le hr (Nat.le_add_right n 4)))).trans (ha 4 (by decide))) (by decide +kernel) (by decide +kernel) (by decide +kernel) (Nat.le_of_ble_eq_true rfl) (Nat.le_of_ble_eq_true rfl) fs_dI6_42 (fun H hz hc hP hS => ?_)
  have hc : H.size = s.heap.size + 5 := hc
  refine W.widen (k := 5) (n := 2750) (Nat.le_refl _) (Nat.le_refl _) ?_
  refine fs_putZ (E := E') (r0 := r0) (ci := 6) (k := 13) (ty := .array .int) hx hb hts hown hK hz hc hP hS (Nat.lt_of_lt_of_le hr (Nat.le_add_right n 5)) (by decide) (by decide) rfl (fs_ok_mem (p := 1123) (by decide +kernel)) hin (by decide +kernel) (by decide +kernel) rfl rfl fs_dI6_44 (fun H locs hz hc hP hS => ?_)
  have hP : va_P (dC, dI) vwCl (fs_wz o (n + 5) (fs_ov E' r0 (.inr (6, [.int 0, .ref (o + (n + 0)), .ref (o + (n + 1)), .ref (o + (n + 2)), .int 0, .ref (o + (n + 3)), .int 0, .int 0, .int 0, .int 0, .int 0, .int 0, .int 0, .ref (o + (n + 4)), .null, .int 0, .int 0, .int 0, .null, .int 0, .int 0, .int 0, .int 0, .int 0, .int 0, .int 0, .null, .null, .null, .null, .int 0, .null, .null, .null, .int 0])))) H := hP
  refine lv_aload_n hx hb fs_dI6_47 rfl (lv_at hl 0 rfl) ?_
  refine lv_iconst (v := 4) hx hb fs_dI6_48 (by decide +kernel) ?_
  refine fs_newaZ (E := fs_ov E' r0 (.inr (6, [.int 0, .ref (o + (n + 0)), .ref (o + (n + 1)), .ref (o + (n + 2)), .int 0, .ref (o + (n + 3)), .int 0, .int 0, .int 0, .int 0, .int 0, .int 0, .int 0, .ref (o + (n + 4)), .null, .int 0, .int 0, .int 0, .null, .int 0, .int 0, .int 0, .int 0, .int 0, .int 0, .int 0, .null, .null, .null, .null, .int 0, .null, .null, .null, .int 0]))) (n' := n + 6) (N := 4) hx hb hts hK ho rfl hz hc hP hS ((fs_ov_ne (Nat.ne_of_gt (Nat.lt_of_lt_of_le hr (Nat.le_add_right n 5)))).trans (ha 5 (by decide))) (by decide +kernel) (by decide +kernel) (by decide +kernel) (Nat.le_of_ble_eq_true rfl) (Nat.le_of_ble_eq_true rfl) fs_dI6_49 (fun H hz hc hP hS => ?_)
  have hc : H.size = s.heap.size + 6 := hc
  refine W.widen (k := 6) (n := 2754) (Nat.le_refl _) (Nat.le_refl _) ?_
  refine fs_putZ (E := E') (r0 := r0) (ci := 6) (k := 14) (ty := .array .int) hx hb hts hown hK hz hc hP hS (Nat.lt_of_lt_of_le hr (Nat.le_add_right n 6)) (by decide) (by decide) rfl (fs_ok_mem (p := 1124) (by decide +kernel)) hin (by decide +kernel) (by decide +kernel) rfl rfl fs_dI6_51 (fun H locs hz hc hP hS => ?_)
  have hP : va_P (dC, dI) vwCl (fs_wz o (n + 6) (fs_ov E' r0 (.inr (6, [.int 0, .ref (o + (n + 0)), .ref (o + (n + 1)), .ref (o + (n + 2)), .int 0, .ref (o + (n + 3)), .int 0, .int 0, .int 0, .int 0, .int 0, .int 0, .int 0, .ref (o + (n + 4)), .ref (o + (n + 5)), .int 0, .int 0, .int 0, .null, .int 0, .int 0, .int 0, .int 0, .int 0, .int 0, .int 0, .null, .null, .null, .null, .int 0, .null, .null, .null, .int 0])))) H := hP
  refine lv_aload_n hx hb fs_dI6_54 rfl (lv_at hl 0 rfl) ?_
  refine lv_bipush (v := 6) hx hb fs_dI6_55 (by decide +kernel) ?_
  refine fs_newaZ (E := fs_ov E' r0 (.inr (6, [.int 0, .ref (o + (n + 0)), .ref (o + (n + 1)), .ref (o + (n + 2)), .int 0, .ref (o + (n + 3)), .int 0, .int 0, .int 0, .int 0, .int 0, .int 0, .int 0, .ref (o + (n + 4)), .ref (o + (n + 5)), .int 0, .int 0, .int 0, .null, .int 0, .int 0, .int 0, .int 0, .int 0, .int 0, .int 0, .null, .null, .null, .null, .int 0, .null, .null, .null, .int 0]))) (n' := n + 7) (N := 6) hx hb hts hK ho rfl hz hc hP hS ((fs_ov_ne (Nat.ne_of_gt (Nat.lt_of_lt_of_le hr (Nat.le_add_right n 6)))).trans (ha 6 (by decide))) (by decide +kernel) (by decide +kernel) (by decide +kernel) (Nat.le_of_ble_eq_true rfl) (Nat.le_of_ble_eq_true rfl) fs_dI6_57 (fun H hz hc hP hS => ?_)
  have hc : H.size = s.heap.size + 7 := hc
  refine W.widen (k := 7) (n := 2760) (Nat.le_refl _) (Nat.le_refl _) ?_
  refine fs_putZ (E := E') (r0 := r0) (ci := 6) (k := 18) (ty := .array .int) hx hb hts hown hK hz hc hP hS (Nat.lt_of_lt_of_le hr (Nat.le_add_right n 7)) (by decide) (by decide) rfl (fs_ok_mem (p := 1128) (by decide +kernel)) hin (by decide +kernel) (by decide +kernel) rfl rfl fs_dI6_59 (fun H locs hz hc hP hS => ?_)
  have hP : va_P (dC, dI) vwCl (fs_wz o (n + 7) (fs_ov E' r0 (.inr (6, [.int 0, .ref (o + (n + 0)), .ref (o + (n + 1)), .ref (o + (n + 2)), .int 0, .ref (o + (n + 3)), .int 0, .int 0, .int 0, .int 0, .int 0, .int 0, .int 0, .ref (o + (n + 4)), .ref (o + (n + 5)), .int 0, .int 0, .int 0, .ref (o + (n + 6)), .int 0, .int 0, .int 0, .int 0, .int 0, .int 0, .int 0, .null, .null, .null, .null, .int 0, .null, .null, .null, .int 0])))) H := hP
  refine lv_aload_n hx hb fs_dI6_62 rfl (lv_at hl 0 rfl) ?_
  refine lv_iconst (v := (-1)) hx hb fs_dI6_63 (by decide +kernel) ?_
  refine fs_putZ (E := E') (r0 := r0) (ci := 6) (k := 19) (ty := .int) hx hb hts hown hK hz hc hP hS (Nat.lt_of_lt_of_le hr (Nat.le_add_right n 7)) (by decide) (by decide) rfl (fs_ok_mem (p := 1129) (by decide +kernel)) hin (by decide +kernel) (by decide +kernel) rfl rfl fs_dI6_64 (fun H locs hz hc hP hS => ?_)
  have hP : va_P (dC, dI) vwCl (fs_wz o (n + 7) (fs_ov E' r0 (.inr (6, [.int 0, .ref (o + (n + 0)), .ref (o + (n + 1)), .ref (o + (n + 2)), .int 0, .ref (o + (n + 3)), .int 0, .int 0, .int 0, .int 0, .int 0, .int 0, .int 0, .ref (o + (n + 4)), .ref (o + (n + 5)), .int 0, .int 0, .int 0, .ref (o + (n + 6)), .int (-1), .int 0, .int 0, .int 0, .int 0, .int 0, .int 0, .null, .null, .null, .null, .int 0, .null, .null, .null, .int 0])))) H := hP
  refine lv_aload_n hx hb fs_dI6_67 rfl (lv_at hl 0 rfl) ?_
  refine lv_sipush (v := 360) hx hb fs_dI6_68 (by decide +kernel) ?_
  refine fs_putZ (E := E') (r0 := r0) (ci := 6) (k := 20) (ty := .int) hx hb hts hown hK hz hc hP hS (Nat.lt_of_lt_of_le hr (Nat.le_add_right n 7)) (by decide) (by decide) rfl (fs_ok_mem (p := 1130) (by decide +kernel)) hin (by decide +kernel) (by decide +kernel) rfl rfl fs_dI6_71 (fun H locs hz hc hP hS => ?_)
  have hP : va_P (dC, dI) vwCl (fs_wz o (n + 7) (fs_ov E' r0 (.inr (6, [.int 0, .ref (o + (n + 0)), .ref (o + (n + 1)), .ref (o + (n + 2)), .int 0, .ref (o + (n + 3)), .int 0, .int 0, .int 0, .int 0, .int 0, .int 0, .int 0, .ref (o + (n + 4)), .ref (o + (n + 5)), .int 0, .int 0, .int 0, .ref (o + (n + 6)), .int (-1), .int 360, .int 0, .int 0, .int 0, .int 0, .int 0, .null, .null, .null, .null, .int 0, .null, .null, .null, .int 0])))) H := hP
  refine lv_aload_n hx hb fs_dI6_74 rfl (lv_at hl 0 rfl) ?_
  refine lv_iconst (v := (-1)) hx hb fs_dI6_75 (by decide +kernel) ?_
  refine fs_putZ (E := E') (r0 := r0) (ci := 6) (k := 22) (ty := .int) hx hb hts hown hK hz hc hP hS (Nat.lt_of_lt_of_le hr (Nat.le_add_right n 7)) (by decide) (by decide) rfl (fs_ok_mem (p := 1132) (by decide +kernel)) hin (by decide +kernel) (by decide +kernel) rfl rfl fs_dI6_76 (fun H locs hz hc hP hS => ?_)
  have hP : va_P (dC, dI) vwCl (fs_wz o (n + 7) (fs_ov E' r0 (.inr (6, [.int 0, .ref (o + (n + 0)), .ref (o + (n + 1)), .ref (o + (n + 2)), .int 0, .ref (o + (n + 3)), .int 0, .int 0, .int 0, .int 0, .int 0, .int 0, .int 0, .ref (o + (n + 4)), .ref (o + (n + 5)), .int 0, .int 0, .int 0, .ref (o + (n + 6)), .int (-1), .int 360, .int 0, .int (-1), .int 0, .int 0, .int 0, .null, .null, .null, .null, .int 0, .null, .null, .null, .int 0])))) H := hP
  refine lv_aload_n hx hb fs_dI6_79 rfl (lv_at hl 0 rfl) ?_
  refine lv_bipush (v := 100) hx hb fs_dI6_80 (by decide +kernel) ?_
  refine fs_putZ (E := E') (r0 := r0) (ci := 6) (k := 24) (ty := .int) hx hb hts hown hK hz hc hP hS (Nat.lt_of_lt_of_le hr (Nat.le_add_right n 7)) (by decide) (by decide) rfl (fs_ok_mem (p := 1134) (by decide +kernel)) hin (by decide +kernel) (by decide +kernel) rfl rfl fs_dI6_82 (fun H locs hz hc hP hS => ?_)
  have hP : va_P (dC, dI) vwCl (fs_wz o (n + 7) (fs_ov E' r0 (.inr (6, [.int 0, .ref (o + (n + 0)), .ref (o + (n + 1)), .ref (o + (n + 2)), .int 0, .ref (o + (n + 3)), .int 0, .int 0, .int 0, .int 0, .int 0, .int 0, .int 0, .ref (o + (n + 4)), .ref (o + (n + 5)), .int 0, .int 0, .int 0, .ref (o + (n + 6)), .int (-1), .int 360, .int 0, .int (-1), .int 0, .int 100, .int 0, .null, .null, .null, .null, .int 0, .null, .null, .null, .int 0])))) H := hP
  refine lv_aload_n hx hb fs_dI6_85 rfl (lv_at hl 0 rfl) ?_
  refine lv_iconst (v := 4) hx hb fs_dI6_86 (by decide +kernel) ?_
  refine fs_newaZ (E := fs_ov E' r0 (.inr (6, [.int 0, .ref (o + (n + 0)), .ref (o + (n + 1)), .ref (o + (n + 2)), .int 0, .ref (o + (n + 3)), .int 0, .int 0, .int 0, .int 0, .int 0, .int 0, .int 0, .ref (o + (n + 4)), .ref (o + (n + 5)), .int 0, .int 0, .int 0, .ref (o + (n + 6)), .int (-1), .int 360, .int 0, .int (-1), .int 0, .int 100, .int 0, .null, .null, .null, .null, .int 0, .null, .null, .null, .int 0]))) (n' := n + 8) (N := 4) hx hb hts hK ho rfl hz hc hP hS ((fs_ov_ne (Nat.ne_of_gt (Nat.lt_of_lt_of_le hr (Nat.le_add_right n 7)))).trans (ha 7 (by decide))) (by decide +kernel) (by decide +kernel) (by decide +kernel) (Nat.le_of_ble_eq_true rfl) (Nat.le_of_ble_eq_true rfl) fs_dI6_87 (fun H hz hc hP hS => ?_)
  have hc : H.size = s.heap.size + 8 := hc
  refine W.widen (k := 8) (n := 2764) (Nat.le_refl _) (Nat.le_refl _) ?_
  refine fs_putZ (E := E') (r0 := r0) (ci := 6) (k := 26) (ty := .array .int) hx hb hts hown hK hz hc hP hS (Nat.lt_of_lt_of_le hr (Nat.le_add_right n 8)) (by decide) (by decide) rfl (fs_ok_mem (p := 1136) (by decide +kernel)) hin (by decide +kernel) (by decide +kernel) rfl rfl fs_dI6_89 (fun H locs hz hc hP hS => ?_)
  have hP : va_P (dC, dI) vwCl (fs_wz o (n + 8) (fs_ov E' r0 (.inr (6, [.int 0, .ref (o + (n + 0)), .ref (o + (n + 1)), .ref (o + (n + 2)), .int 0, .ref (o + (n + 3)), .int 0, .int 0, .int 0, .int 0, .int 0, .int 0, .int 0, .ref (o + (n + 4)), .ref (o + (n + 5)), .int 0, .int 0, .int 0, .ref (o + (n + 6)), .int (-1), .int 360, .int 0, .int (-1), .int 0, .int 100, .int 0, .ref (o + (n + 7)), .null, .null, .null, .int 0, .null, .null, .null, .int 0])))) H := hP
  refine lv_aload_n hx hb fs_dI6_92 rfl (lv_at hl 0 rfl) ?_
  refine lv_iconst (v := 4) hx hb fs_dI6_93 (by decide +kernel) ?_
  refine fs_newaZ (E := fs_ov E' r0 (.inr (6, [.int 0, .ref (o + (n + 0)), .ref (o + (n + 1)), .ref (o + (n + 2)), .int 0, .ref (o + (n + 3)), .int 0, .int 0, .int 0, .int 0, .int 0, .int 0, .int 0, .ref (o + (n + 4)), .ref (o + (n + 5)), .int 0, .int 0, .int 0, .ref (o + (n + 6)), .int (-1), .int 360, .int 0, .int (-1), .int 0, .int 100, .int 0, .ref (o + (n + 7)), .null, .null, .null, .int 0, .null, .null, .null, .int 0]))) (n' := n + 9) (N := 4) hx hb hts hK ho rfl hz hc hP hS ((fs_ov_ne (Nat.ne_of_gt (Nat.lt_of_lt_of_le hr (Nat.le_add_right n 8)))).trans (ha 8 (by decide))) (by decide +kernel) (by decide +kernel) (by decide +kernel) (Nat.le_of_ble_eq_true rfl) (Nat.le_of_ble_eq_true rfl) fs_dI6_94 (fun H hz hc hP hS => ?_)
  have hc : H.size = s.heap.size + 9 := hc
  refine W.widen (k := 9) (n := 2768) (Nat.le_refl _) (Nat.le_refl _) ?_
  refine fs_putZ (E := E') (r0 := r0) (ci := 6) (k := 27) (ty := .array .int) hx hb hts hown hK hz hc hP hS (Nat.lt_of_lt_of_le hr (Nat.le_add_right n 9)) (by decide) (by decide) rfl (fs_ok_mem (p := 1137) (by decide +kernel)) hin (by decide +kernel) (by decide +kernel) rfl rfl fs_dI6_96 (fun H locs hz hc hP hS => ?_)
  have hP : va_P (dC, dI) vwCl (fs_wz o (n + 9) (fs_ov E' r0 (.inr (6, [.int 0, .ref (o + (n + 0)), .ref (o + (n + 1)), .ref (o + (n + 2)), .int 0, .ref (o + (n + 3)), .int 0, .int 0, .int 0, .int 0, .int 0, .int 0, .int 0, .ref (o + (n + 4)), .ref (o + (n + 5)), .int 0, .int 0, .int 0, .ref (o + (n + 6)), .int (-1), .int 360, .int 0, .int (-1), .int 0, .int 100, .int 0, .ref (o + (n + 7)), .ref (o + (n + 8)), .null, .null, .int 0, .null, .null, .null, .int 0])))) H := hP
  refine lv_aload_n hx hb fs_dI6_99 rfl (lv_at hl 0 rfl) ?_
  refine lv_bipush (v := 24) hx hb fs_dI6_100 (by decide +kernel) ?_
  refine fs_newaZ (E := fs_ov E' r0 (.inr (6, [.int 0, .ref (o + (n + 0)), .ref (o + (n + 1)), .ref (o + (n + 2)), .int 0, .ref (o + (n + 3)), .int 0, .int 0, .int 0, .int 0, .int 0, .int 0, .int 0, .ref (o + (n + 4)), .ref (o + (n + 5)), .int 0, .int 0, .int 0, .ref (o + (n + 6)), .int (-1), .int 360, .int 0, .int (-1), .int 0, .int 100, .int 0, .ref (o + (n + 7)), .ref (o + (n + 8)), .null, .null, .int 0, .null, .null, .null, .int 0]))) (n' := n + 10) (N := 24) hx hb hts hK ho rfl hz hc hP hS ((fs_ov_ne (Nat.ne_of_gt (Nat.lt_of_lt_of_le hr (Nat.le_add_right n 9)))).trans (ha 9 (by decide))) (by decide +kernel) (by decide +kernel) (by decide +kernel) (Nat.le_of_ble_eq_true rfl) (Nat.le_of_ble_eq_true rfl) fs_dI6_102 (fun H hz hc hP hS => ?_)
  have hc : H.size = s.heap.size + 10 := hc
  refine W.widen (k := 10) (n := 2792) (Nat.le_refl _) (Nat.le_refl _) ?_
  refine fs_putZ (E := E') (r0 := r0) (ci := 6) (k := 28) (ty := .array .int) hx hb hts hown hK hz hc hP hS (Nat.lt_of_lt_of_le hr (Nat.le_add_right n 10)) (by decide) (by decide) rfl (fs_ok_mem (p := 1138) (by decide +kernel)) hin (by decide +kernel) (by decide +kernel) rfl rfl fs_dI6_104 (fun H locs hz hc hP hS => ?_)
  have hP : va_P (dC, dI) vwCl (fs_wz o (n + 10) (fs_ov E' r0 (.inr (6, [.int 0, .ref (o + (n + 0)), .ref (o + (n + 1)), .ref (o + (n + 2)), .int 0, .ref (o + (n + 3)), .int 0, .int 0, .int 0, .int 0, .int 0, .int 0, .int 0, .ref (o + (n + 4)), .ref (o + (n + 5)), .int 0, .int 0, .int 0, .ref (o + (n + 6)), .int (-1), .int 360, .int 0, .int (-1), .int 0, .int 100, .int 0, .ref (o + (n + 7)), .ref (o + (n + 8)), .ref (o + (n + 9)), .null, .int 0, .null, .null, .null, .int 0])))) H := hP
  refine lv_aload_n hx hb fs_dI6_107 rfl (lv_at hl 0 rfl) ?_
  refine lv_bipush (v := 6) hx hb fs_dI6_108 (by decide +kernel) ?_
  refine fs_newaZ (E := fs_ov E' r0 (.inr (6, [.int 0, .ref (o + (n + 0)), .ref (o + (n + 1)), .ref (o + (n + 2)), .int 0, .ref (o + (n + 3)), .int 0, .int 0, .int 0, .int 0, .int 0, .int 0, .int 0, .ref (o + (n + 4)), .ref (o + (n + 5)), .int 0, .int 0, .int 0, .ref (o + (n + 6)), .int (-1), .int 360, .int 0, .int (-1), .int 0, .int 100, .int 0, .ref (o + (n + 7)), .ref (o + (n + 8)), .ref (o + (n + 9)), .null, .int 0, .null, .null, .null, .int 0]))) (n' := n + 11) (N := 6) hx hb hts hK ho rfl hz hc hP hS ((fs_ov_ne (Nat.ne_of_gt (Nat.lt_of_lt_of_le hr (Nat.le_add_right n 10)))).trans (ha 10 (by decide))) (by decide +kernel) (by decide +kernel) (by decide +kernel) (Nat.le_of_ble_eq_true rfl) (Nat.le_of_ble_eq_true rfl) fs_dI6_110 (fun H hz hc hP hS => ?_)
  have hc : H.size = s.heap.size + 11 := hc
  refine W.widen (k := 11) (n := 2798) (Nat.le_refl _) (Nat.le_refl _) ?_
  refine fs_putZ (E := E') (r0 := r0) (ci := 6) (k := 29) (ty := .array .int) hx hb hts hown hK hz hc hP hS (Nat.lt_of_lt_of_le hr (Nat.le_add_right n 11)) (by decide) (by decide) rfl (fs_ok_mem (p := 1139) (by decide +kernel)) hin (by decide +kernel) (by decide +kernel) rfl rfl fs_dI6_112 (fun H locs hz hc hP hS => ?_)
  have hP : va_P (dC, dI) vwCl (fs_wz o (n + 11) (fs_ov E' r0 (.inr (6, [.int 0, .ref (o + (n + 0)), .ref (o + (n + 1)), .ref (o + (n + 2)), .int 0, .ref (o + (n + 3)), .int 0, .int 0, .int 0, .int 0, .int 0, .int 0, .int 0, .ref (o + (n + 4)), .ref (o + (n + 5)), .int 0, .int 0, .int 0, .ref (o + (n + 6)), .int (-1), .int 360, .int 0, .int (-1), .int 0, .int 100, .int 0, .ref (o + (n + 7)), .ref (o + (n + 8)), .ref (o + (n + 9)), .ref (o + (n + 10)), .int 0, .null, .null, .null, .int 0])))) H := hP
  refine lv_aload_n hx hb fs_dI6_115 rfl (lv_at hl 0 rfl) ?_
  refine lv_bipush (v := 6) hx hb fs_dI6_116 (by decide +kernel) ?_
  refine fs_newaZ (E := fs_ov E' r0 (.inr (6, [.int 0, .ref (o + (n + 0)), .ref (o + (n + 1)), .ref (o + (n + 2)), .int 0, .ref (o + (n + 3)), .int 0, .int 0, .int 0, .int 0, .int 0, .int 0, .int 0, .ref (o + (n + 4)), .ref (o + (n + 5)), .int 0, .int 0, .int 0, .ref (o + (n + 6)), .int (-1), .int 360, .int 0, .int (-1), .int 0, .int 100, .int 0, .ref (o + (n + 7)), .ref (o + (n + 8)), .ref (o + (n + 9)), .ref (o + (n + 10)), .int 0, .null, .null, .null, .int 0]))) (n' := n + 12) (N := 6) hx hb hts hK ho rfl hz hc hP hS ((fs_ov_ne (Nat.ne_of_gt (Nat.lt_of_lt_of_le hr (Nat.le_add_right n 11)))).trans (ha 11 (by decide))) (by decide +kernel) (by decide +kernel) (by decide +kernel) (Nat.le_of_ble_eq_true rfl) (Nat.le_of_ble_eq_true rfl) fs_dI6_118 (fun H hz hc hP hS => ?_)
  have hc : H.size = s.heap.size + 12 := hc
  refine W.widen (k := 12) (n := 2804) (Nat.le_refl _) (Nat.le_refl _) ?_
  refine fs_putZ (E := E') (r0 := r0) (ci := 6) (k := 31) (ty := .array .int) hx hb hts hown hK hz hc hP hS (Nat.lt_of_lt_of_le hr (Nat.le_add_right n 12)) (by decide) (by decide) rfl (fs_ok_mem (p := 1141) (by decide +kernel)) hin (by decide +kernel) (by decide +kernel) rfl rfl fs_dI6_120 (fun H locs hz hc hP hS => ?_)
  have hP : va_P (dC, dI) vwCl (fs_wz o (n + 12) (fs_ov E' r0 (.inr (6, [.int 0, .ref (o + (n + 0)), .ref (o + (n + 1)), .ref (o + (n + 2)), .int 0, .ref (o + (n + 3)), .int 0, .int 0, .int 0, .int 0, .int 0, .int 0, .int 0, .ref (o + (n + 4)), .ref (o + (n + 5)), .int 0, .int 0, .int 0, .ref (o + (n + 6)), .int (-1), .int 360, .int 0, .int (-1), .int 0, .int 100, .int 0, .ref (o + (n + 7)), .ref (o + (n + 8)), .ref (o + (n + 9)), .ref (o + (n + 10)), .int 0, .ref (o + (n + 11)), .null, .null, .int 0])))) H := hP
  refine lv_aload_n hx hb fs_dI6_123 rfl (lv_at hl 0 rfl) ?_
  refine lv_bipush (v := 6) hx hb fs_dI6_124 (by decide +kernel) ?_
  refine fs_newaZ (E := fs_ov E' r0 (.inr (6, [.int 0, .ref (o + (n + 0)), .ref (o + (n + 1)), .ref (o + (n + 2)), .int 0, .ref (o + (n + 3)), .int 0, .int 0, .int 0, .int 0, .int 0, .int 0, .int 0, .ref (o + (n + 4)), .ref (o + (n + 5)), .int 0, .int 0, .int 0, .ref (o + (n + 6)), .int (-1), .int 360, .int 0, .int (-1), .int 0, .int 100, .int 0, .ref (o + (n + 7)), .ref (o + (n + 8)), .ref (o + (n + 9)), .ref (o + (n + 10)), .int 0, .ref (o + (n + 11)), .null, .null, .int 0]))) (n' := n + 13) (N := 6) hx hb hts hK ho rfl hz hc hP hS ((fs_ov_ne (Nat.ne_of_gt (Nat.lt_of_lt_of_le hr (Nat.le_add_right n 12)))).trans (ha 12 (by decide))) (by decide +kernel) (by decide +kernel) (by decide +kernel) (Nat.le_of_ble_eq_true rfl) (Nat.le_of_ble_eq_true rfl) fs_dI6_126 (fun H hz hc hP hS => ?_)
  have hc : H.size = s.heap.size + 13 := hc
  refine W.widen (k := 13) (n := 2810) (Nat.le_refl _) (Nat.le_refl _) ?_
  refine fs_putZ (E := E') (r0 := r0) (ci := 6) (k := 32) (ty := .array .int) hx hb hts hown hK hz hc hP hS (Nat.lt_of_lt_of_le hr (Nat.le_add_right n 13)) (by decide) (by decide) rfl (fs_ok_mem (p := 1142) (by decide +kernel)) hin (by decide +kernel) (by decide +kernel) rfl rfl fs_dI6_128 (fun H locs hz hc hP hS => ?_)
  have hP : va_P (dC, dI) vwCl (fs_wz o (n + 13) (fs_ov E' r0 (.inr (6, [.int 0, .ref (o + (n + 0)), .ref (o + (n + 1)), .ref (o + (n + 2)), .int 0, .ref (o + (n + 3)), .int 0, .int 0, .int 0, .int 0, .int 0, .int 0, .int 0, .ref (o + (n + 4)), .ref (o + (n + 5)), .int 0, .int 0, .int 0, .ref (o + (n + 6)), .int (-1), .int 360, .int 0, .int (-1), .int 0, .int 100, .int 0, .ref (o + (n + 7)), .ref (o + (n + 8)), .ref (o + (n + 9)), .ref (o + (n + 10)), .int 0, .ref (o + (n + 11)), .ref (o + (n + 12)), .null, .int 0])))) H := hP
  refine lv_aload_n hx hb fs_dI6_131 rfl (lv_at hl 0 rfl) ?_
  refine lv_sipush (v := 1200) hx hb fs_dI6_132 (by decide +kernel) ?_
  refine fs_newaZ (E := fs_ov E' r0 (.inr (6, [.int 0, .ref (o + (n + 0)), .ref (o + (n + 1)), .ref (o + (n + 2)), .int 0, .ref (o + (n + 3)), .int 0, .int 0, .int 0, .int 0, .int 0, .int 0, .int 0, .ref (o + (n + 4)), .ref (o + (n + 5)), .int 0, .int 0, .int 0, .ref (o + (n + 6)), .int (-1), .int 360, .int 0, .int (-1), .int 0, .int 100, .int 0, .ref (o + (n + 7)), .ref (o + (n + 8)), .ref (o + (n + 9)), .ref (o + (n + 10)), .int 0, .ref (o + (n + 11)), .ref (o + (n + 12)), .null, .int 0]))) (n' := n + 14) (N := 1200) hx hb hts hK ho rfl hz hc hP hS ((fs_ov_ne (Nat.ne_of_gt (Nat.lt_of_lt_of_le hr (Nat.le_add_right n 13)))).trans (ha 13 (by decide))) (by decide +kernel) (by decide +kernel) (by decide +kernel) (Nat.le_of_ble_eq_true rfl) (Nat.le_of_ble_eq_true rfl) fs_dI6_135 (fun H hz hc hP hS => ?_)
  have hc : H.size = s.heap.size + 14 := hc
  refine W.widen (k := 14) (n := 4010) (Nat.le_refl _) (Nat.le_refl _) ?_
  refine fs_putZ (E := E') (r0 := r0) (ci := 6) (k := 33) (ty := .array .int) hx hb hts hown hK hz hc hP hS (Nat.lt_of_lt_of_le hr (Nat.le_add_right n 14)) (by decide) (by decide) rfl (fs_ok_mem (p := 1143) (by decide +kernel)) hin (by decide +kernel) (by decide +kernel) rfl rfl fs_dI6_137 (fun H locs hz hc hP hS => ?_)
  have hP : va_P (dC, dI) vwCl (fs_wz o (n + 14) (fs_ov E' r0 (.inr (6, [.int 0, .ref (o + (n + 0)), .ref (o + (n + 1)), .ref (o + (n + 2)), .int 0, .ref (o + (n + 3)), .int 0, .int 0, .int 0, .int 0, .int 0, .int 0, .int 0, .ref (o + (n + 4)), .ref (o + (n + 5)), .int 0, .int 0, .int 0, .ref (o + (n + 6)), .int (-1), .int 360, .int 0, .int (-1), .int 0, .int 100, .int 0, .ref (o + (n + 7)), .ref (o + (n + 8)), .ref (o + (n + 9)), .ref (o + (n + 10)), .int 0, .ref (o + (n + 11)), .ref (o + (n + 12)), .ref (o + (n + 13)), .int 0])))) H := hP
  have hPf : va_P (dC, dI) vwCl (fs_wz o (n + 14) E') H := by
    have e1 : fs_wz o (n + 14) (fs_ov E' r0 (.inr (6, [.int 0, .ref (o + (n + 0)), .ref (o + (n + 1)), .ref (o + (n + 2)), .int 0, .ref (o + (n + 3)), .int 0, .int 0, .int 0, .int 0, .int 0, .int 0, .int 0, .ref (o + (n + 4)), .ref (o + (n + 5)), .int 0, .int 0, .int 0, .ref (o + (n + 6)), .int (-1), .int 360, .int 0, .int (-1), .int 0, .int 100, .int 0, .ref (o + (n + 7)), .ref (o + (n + 8)), .ref (o + (n + 9)), .ref (o + (n + 10)), .int 0, .ref (o + (n + 11)), .ref (o + (n + 12)), .ref (o + (n + 13)), .int 0]))) = fs_wz o (n + 14) E' := fs_wz_congr (fun r hr => by
      by_cases q : r = r0
      · rw [q, fs_ov_at, h1]
      · rw [fs_ov_ne q])
    rw [← e1]
    exact hP
  exact W.vret hx hb hret (fun t ht hW => ⟨⟨(), rfl, trivial, by rw [ht]; exact hz, by rw [ht]; exact hPf⟩, hS.F ht⟩) hS.2.2 fs_dI6_140 hlocks
