/-! THE CLAIM OUT OF ONE WALK OF THE LAW'S BODY. Your part is whole_start (and what it stands on); all else here is the same for every law, but numbers. -/
def R_law : String := "FireSaleLaw"
def lw_P (b : Addr) (xs : List Int32) (args : Array Value) (s : State) : Prop := args = #[.ref b] ∧ s.IntsAt b xs ∧ xs.length ≤ 3072 ∧ (Jvm.Cond.and given_1 narrow_1).before args s = true
/-- what a walk over the start with the record d0 says of its end, said of the start itself -/
theorem lw_closed {s t : State} {o : Outcome} {d0 : Drawn} {L : List Loc} {k n : Nat} (hd0 : s.drawn.sameBut d0 lw_cs) (hv : ∃ v, o = .returned v) (hW : (s.setDrawn d0).WarmedH t.vm) (hs : (s.setDrawn d0).sameButNew ({ t with vm := s.vm } : State) L k n) : State.butDraws s t lw_cs (fun t1 => Framed s o t1 L k n) := by
  have h2 : t.drawn = d0 := congrArg State.drawn hs.1
  refine ⟨⟨hv, hW, State.sameButNew.setDrawn hs s.drawn⟩, ?_, by decide⟩
  rw [h2]
  exact hd0
def lw_Q (_ : Array Value) (s : State) (o : Outcome) (t : State) : Prop := o = .returned (some (.int 1)) ∧ State.butDraws s t lw_cs (fun t1 => Framed s o t1 [] 600000 7302250)
def lw_Z (below : List Frame) (a : Array Value) (s : State) : State → Prop := fun t => ∃ o, t.status = .running ∧ Ended t below o ∧ lw_Q a s o t
/-- the law's own end, with 1 on the stack, nothing written that was there before, its room as the claim has it; d0: the record of draws at this point (at the entry s.drawn: begin with 'refine W.base ?_' and 'have hd0 := Drawn.sameBut.refl s.drawn lw_cs') -/
theorem lw_ret {p : Program} {l : Launch} {e : Env} {s : State} {m : MethodId} {below : List Frame} {meth : Method} {c : Code} {b : Nat} {d0 : Drawn} (hd0 : s.drawn.sameBut d0 lw_cs) (hx : p.tables.exec = Jvm.exec) (hb : c.code = code) (hr : meth.sig.returnType = ret) (hlocks : meth.locks = false) {pc : Nat} {H : Heap} {ls : Array Slot} (hdg : decode code pc = .ok (.ireturn, 1)) : W p l e room_1 (s.setDrawn d0) m #[Value.ref b] below meth c H [] 600000 7302250 (lw_Z below #[Value.ref b] s) (F0 m pc ls [.int 1]) := by
  intro T hT X
  obtain ⟨fs, hret, hrun, hended, hW, hframe⟩ := X.leave (v := some (.int 1)) (hlocks := hlocks) (fun h => by rw [hr] at h; cases h)
  have hmeth' : T.vm.method? m = some meth := X.method'
  refine ⟨T.setFrames fs, ?_, .returned (some (.int 1)), hrun, hended, rfl, lw_closed hd0 ⟨_, rfl⟩ hW hframe⟩
  jvm_step X.here [X.here.top, hx, hb, hdg, hmeth', hr, ret, narrow_b1]
  (try refine ⟨rfl, ?_⟩); (try refine ⟨rfl, ?_⟩)
  first | (intro acts; rw [hret _ acts rfl rfl rfl]) | rw [hret _ _ rfl rfl rfl]
  exact Steps.refl _
/-- what holds at the law's entry: the machine, the code, the tables' words (any of lw_tbl by 'hts w (by decide +kernel)'), the script of L ints xs at the cell b, what the Statement gives of the start (any of its parts by flat_of_before) -/
def lw_At (p : Program) (s : State) (m : MethodId) (meth : Method) (c : Code) (b L : Nat) (xs : Nat → Int32) : Prop :=
  p.tables.exec = Jvm.exec ∧ c.code = code ∧ meth.sig.returnType = ret ∧ c.maxLocals = 4 ∧ s.vm.findClass R_law = some m.cls ∧ (∀ w ∈ lw_tbl, w.before #[Value.ref b] s = true) ∧ va_X b L xs s s.heap ∧ b < s.heap.size ∧ meth.locks = false ∧ (Jvm.Cond.and given_1 narrow_1).before #[Value.ref b] s = true
theorem fs_FO_124 {o : Nat} {cA cB : ClassId} {Ln : Nat} {xs : Nat → Int32} : fs_F o cA cB Ln xs 124 = .inr (6, [.int 0, .ref (o + (125 + 0)), .ref (o + (125 + 1)), .ref (o + (125 + 2)), .int 0, .ref (o + (125 + 3)), .int 0, .int 0, .int 0, .int 0, .int 0, .int 0, .int 0, .ref (o + (125 + 4)), .ref (o + (125 + 5)), .int 0, .int 0, .int 0, .ref (o + (125 + 6)), .int (-1), .int 360, .int 0, .int (-1), .int 0, .int 100, .int 0, .ref (o + (125 + 7)), .ref (o + (125 + 8)), .ref (o + (125 + 9)), .ref (o + (125 + 10)), .int 0, .ref (o + (125 + 11)), .ref (o + (125 + 12)), .ref (o + (125 + 13)), .int 0]) := by rfl
theorem fs_FA_124 {o : Nat} {cA cB : ClassId} {Ln : Nat} {xs : Nat → Int32} : ∀ j, j < 14 → fs_F o cA cB Ln xs (125 + j) = .inl (cA, ([139, 139, 1668, 800, 4, 4, 6, 4, 4, 24, 6, 6, 6, 1200] : List Nat).getD j 0, .inl (fun _ => 0)) := fun j hj => by
  rcases (show j = 0 ∨ j = 1 ∨ j = 2 ∨ j = 3 ∨ j = 4 ∨ j = 5 ∨ j = 6 ∨ j = 7 ∨ j = 8 ∨ j = 9 ∨ j = 10 ∨ j = 11 ∨ j = 12 ∨ j = 13 by omega) with rfl | rfl | rfl | rfl | rfl | rfl | rfl | rfl | rfl | rfl | rfl | rfl | rfl | rfl <;> exact fs_en0 (by decide) (by decide) (fs_m0z (by decide) (by decide) (by decide))
theorem fs_dL_0 : decode code 0 = .ok (.new 7, 3) := by decide +kernel
theorem fs_dL_3 : decode code 3 = .ok (.dup, 1) := by decide +kernel
theorem fs_dL_4 : decode code 4 = .ok (.invokespecial 9, 3) := by decide +kernel
theorem fs_dL_7 : decode code 7 = .ok (.astore_n 1, 1) := by decide +kernel
theorem fs_dL_8 : decode code 8 = .ok (.new 10, 3) := by decide +kernel
theorem fs_dL_11 : decode code 11 = .ok (.dup, 1) := by decide +kernel
theorem fs_dL_12 : decode code 12 = .ok (.invokespecial 12, 3) := by decide +kernel
theorem fs_dL_15 : decode code 15 = .ok (.astore_n 2, 1) := by decide +kernel
set_option maxHeartbeats 8000000 in
set_option maxRecDepth 100000 in
theorem whole_start {p : Program} {e : Env} {s : State} {m : MethodId} {below : List Frame} {meth : Method} {c : Code} (l : Launch) (hflags : l.flags = flags0) {b L : Nat} {xs : Nat → Int32} (hL : L ≤ 3072) (C0 : lw_At p s m meth c b L xs) : W p l e room_1 s m #[Value.ref b] below meth c s.heap [] 0 0 (lw_Z below #[Value.ref b] s) (entryFrame m ([Value.ref b] : List Value).toArray 4) := by
  obtain ⟨hx, hb, hr, hml, hown, hts0, hX, hbl, hlocks, hgv⟩ := id C0
  have hts : ∀ w ∈ fs_good, w.before #[Value.ref b] s = true := fun w hw => hts0 w (List.mem_filter.mp hw).1
  have hao : (Cond.arrayOver (.object "FireSale$Book")).before #[Value.ref b] s = true := hts0 _ (List.mem_of_getElem? (i := 221) (by decide +kernel))
  have hAO : va_AO "FireSale$Book" s := va_AO.of hao
  obtain ⟨dC, dI, cA, cB, hK⟩ := fs_kn hts hao
  obtain ⟨sa, sv, hR1, hR2⟩ := fs_strs_ok hts0 hgv
  have hNw : ∀ q ∈ fs_nw, va_Nw (.methodLinkNest q.1 q.2.1 q.2.2 "FireSale") s := fun q hq => va_Nw.of rfl (hts0 _ (fs_nw_in q hq))
  have hNwi : ∀ q ∈ fs_nwi, va_Nw (.methodLinkNest q.1 q.2.1 q.2.2 "FireSale") s := fun q hq => va_Nw.of rfl (hts0 _ (fs_nwi_in q hq))
  have hXs : fs_X dC dI s.heap.size sa sv cA cB s := ⟨hK, hNw, hR1, hR2, fs_Y_ok hts0 hgv⟩
  have hS : va_S (fun q => s.heap.size ≤ q) s.heap s.heap [] := va_S.rf
  have hz : s.heap.size = s.heap.size + 0 := rfl
  have hc : s.heap.size = s.heap.size + 0 := rfl
  have hP : va_P (dC, dI) vwCl (fs_wz s.heap.size 0 (fs_F s.heap.size cA cB L xs)) s.heap := fun k q h => by simp [fs_wz] at h
  have hl := lv_entry ([.ref b]) (n := 4) (Nat.le_of_ble_eq_true rfl)
  rw [lg_entry_eq]
  generalize (lg_sl ([.ref b]) ++ List.replicate (4 - (lg_sl ([.ref b])).length) Slot.unset).toArray = ls at hl ⊢
  have hl : lv_has ls 4 [(0, .ref b)] := hl
  refine fs_newZ (own := "FireSaleLaw") (E := fs_F s.heap.size cA cB L xs) (E' := fs_ov (fs_F s.heap.size cA cB L xs) 0 (.inr (5, fs_df 5))) (n := 0) (n' := 1) (ci := 5) hx hb hts hown hK (Nat.le_refl _) rfl hz hc hP hS (by decide) (fun r hr => fs_ov_ne (Nat.ne_of_lt hr)) fs_ov_at (fs_ok_mem (p := 119) (by decide +kernel)) (fs_ok_mem (p := 120) (by decide +kernel)) (fs_ok_mem (p := 104) (by decide +kernel)) (Nat.le_of_ble_eq_true rfl) (Nat.le_of_ble_eq_true rfl) fs_dL_0 (fun H hz hc hP hS => ?_)
  refine lv_dup hx hb fs_dL_3 rfl ?_
  refine va_callv (va_runI (As := []) (rest := [.ref (s.heap.size + 0)]) ⟨hx, hb, hml, hown, hts⟩ (fs_init_5 l (dC := dC) (dI := dI) (o := s.heap.size) (cA := cA) (cB := cB) (Ln := L) (xs := xs) (E := fs_ov (fs_F s.heap.size cA cB L xs) 0 (.inr (5, fs_df 5))) fs_ov_at) (cwI 0 hts (fs_goodIn (fs_ok_mem (p := 123) (by decide +kernel))) rfl rfl rfl (hts _ (fs_ok_mem (p := 104) (by decide +kernel))) (hts _ (fs_ok_mem (p := 121) (by decide +kernel))) (hts _ (fs_ok_mem (p := 122) (by decide +kernel))) rfl (by decide +kernel) ⟨Nat.le_of_ble_eq_true rfl, Nat.le_of_ble_eq_true rfl⟩) ⟨fun a U g mk q => ⟨q.1, q.2.1, va_K.moved (u := U) (U := U.calling g mk a) (Vm.Alike.refl U.vm) q.2.2.1, va_AO.moved (u := U) (U := U.calling g mk a) (Vm.Alike.refl U.vm) q.2.2.2.1, fun w hw => va_Nw.same rfl (u := U) (U := U.calling g mk a) rfl (q.2.2.2.2 w hw)⟩, fun U hU hW => ⟨rfl, ⟨by rw [hU]; exact hz, by rw [hU]; exact hP⟩, va_K.moved hW.alike hK, va_AO.moved hW.alike hAO, fun w hw => va_Nw.warmM hW (hNwi w hw)⟩⟩ rfl rfl hl.1 rfl (lv_room (Nat.le_of_ble_eq_true rfl)) fs_dL_4 ⟨Nat.le_of_ble_eq_true rfl, Nat.le_of_ble_eq_true rfl⟩) hS (fun q _ h => h) (fun q h => h) (fun u t H locs ht hvm hw hBt hz1 hk1 hS => ?_)
  rw [ht] at hBt
  obtain ⟨hz, hP⟩ := hBt
  have hc : H.size = s.heap.size + 124 := hz
  refine W.widen (k := 124) (n := 3839) (Nat.le_refl _) (Nat.le_refl _) ?_
  refine lv_astore_n (lv' := [(1, .ref (s.heap.size + 0)), (0, .ref b)]) hx hb fs_dL_7 rfl hl (by decide) rfl (fun ls hl => ?_)
  refine fs_newZ (own := "FireSaleLaw") (E := fs_F s.heap.size cA cB L xs) (E' := fs_ov (fs_F s.heap.size cA cB L xs) 124 (.inr (6, fs_df 6))) (n := 124) (n' := 125) (ci := 6) hx hb hts hown hK (Nat.le_refl _) rfl hz hc hP hS (by decide) (fun r hr => fs_ov_ne (Nat.ne_of_lt hr)) fs_ov_at (fs_ok_mem (p := 1105) (by decide +kernel)) (fs_ok_mem (p := 1106) (by decide +kernel)) (fs_ok_mem (p := 110) (by decide +kernel)) (Nat.le_of_ble_eq_true rfl) (Nat.le_of_ble_eq_true rfl) fs_dL_8 (fun H hz hc hP hS => ?_)
  refine lv_dup hx hb fs_dL_11 rfl ?_
  refine va_callv (va_runI (As := []) (rest := [.ref (s.heap.size + 124)]) ⟨hx, hb, hml, hown, hts⟩ (fs_init_6 l (dC := dC) (dI := dI) (o := s.heap.size) (n := 125) (r0 := 124) (cA := cA) (cB := cB) (E := fs_ov (fs_F s.heap.size cA cB L xs) 124 (.inr (6, fs_df 6))) (E' := fs_F s.heap.size cA cB L xs) (Nat.lt_succ_self _) fs_ov_at (fun q _ h => (fs_ov_ne h).symm) fs_FO_124 fs_FA_124) (cwI 0 hts (fs_goodIn (fs_ok_mem (p := 1109) (by decide +kernel))) rfl rfl rfl (hts _ (fs_ok_mem (p := 110) (by decide +kernel))) (hts _ (fs_ok_mem (p := 1107) (by decide +kernel))) (hts _ (fs_ok_mem (p := 1108) (by decide +kernel))) rfl (by decide +kernel) ⟨Nat.le_of_ble_eq_true rfl, Nat.le_of_ble_eq_true rfl⟩) ⟨fun a U g mk q => ⟨q.1, q.2.1, va_K.moved (u := U) (U := U.calling g mk a) (Vm.Alike.refl U.vm) q.2.2⟩, fun U hU hW => ⟨rfl, ⟨by rw [hU]; exact hz, by rw [hU]; exact hP⟩, va_K.moved hW.alike hK⟩⟩ rfl rfl hl.1 rfl (lv_room (Nat.le_of_ble_eq_true rfl)) fs_dL_12 ⟨Nat.le_of_ble_eq_true rfl, Nat.le_of_ble_eq_true rfl⟩) hS (fun q _ h => h) (fun q h => h) (fun u t H locs ht hvm hw hBt hz1 hk1 hS => ?_)
  rw [ht] at hBt
  obtain ⟨hz, hP⟩ := hBt
  have hz : H.size = s.heap.size + 139 := hz
  refine W.widen (k := 139) (n := 7884) (Nat.le_refl _) (Nat.le_refl _) ?_
  refine lv_astore_n (lv' := [(2, .ref (s.heap.size + 124)), (1, .ref (s.heap.size + 0)), (0, .ref b)]) hx hb fs_dL_15 rfl hl (by decide) rfl (fun ls hl => ?_)
  have hP : va_P (dC, dI) vwCl (fs_ws s.heap.size cA cB (fs_m0 L xs)) H := hP
  obtain ⟨n, v, M', hrun, hv⟩ := fs_law (d := 0) (M := fs_m0 L xs) (Q := fun v _ => v = some (.inl 1)) fs_m0R ⟨⟨by rw [fs_m0L]; omega, by rw [fs_m0L]; omega⟩, fun j _ _ => fs_m0_rg hL 999 j⟩ (fun _ => rfl)
  subst hv
  have e283 : fs_me 283 = fs_m_283 := by rfl
  refine fs_sound (dC := dC) (dI := dI) (o := s.heap.size) (b := b) (Ln := L) (xs := xs) (sa := sa) (sv := sv) (cA := cA) (cB := cB) l n 12 283 16 _ [] (fs_m0 L xs) (some (.inl 1)) M' hrun (by decide) (R := room_1) hx (by rw [e283]; exact hb) (by rw [e283]; exact hml) (by rw [e283]; exact hown) hts hXs (fun _ => ⟨hX, hbl, hbl, by omega⟩) (by decide) (by decide) (by decide) (by decide) (fun _ => ⟨fs_m0L, fun j hj => fs_m0x hj⟩) hP hS ?_ ?_ (fun H' locs' pcr lsr hrt hP' hS' hM' hv' h9 => ?_)
  · rw [e283]
    refine ⟨by decide, _, hl, fun j v hj => ?_⟩
    match j, hj with
    | 0, hj => cases hj; exact List.mem_of_getElem? (i := 2) rfl
    | 1, hj => cases hj; exact List.mem_of_getElem? (i := 1) rfl
    | 2, hj => cases hj; exact List.mem_of_getElem? (i := 0) rfl
    | 3, hj => cases hj
    | j + 4, hj => simp at hj
  · refine ⟨fs_m0_rg hL, fun j v hj => ?_, fun v hv => absurd hv List.not_mem_nil⟩
    match j, hj with
    | 0, hj => cases hj; trivial
    | 1, hj => cases hj; trivial
    | 2, hj => cases hj; trivial
    | 3, hj => cases hj
    | j + 4, hj => simp at hj
  · rw [e283] at hrt
    refine va_forget hS'.2.2 (W.widen (k := 600000) (n := 7302250) (by decide) (by decide) ?_)
    have e1 : Int32.ofInt 1 = 1 := by decide
    show W p l e room_1 s m #[Value.ref b] below meth c H' [] 600000 7302250 (lw_Z below #[Value.ref b] s) (F0 m pcr lsr [.int (Int32.ofInt 1)])
    rw [e1]
    exact lw_ret (d0 := s.drawn) (Drawn.sameBut.refl s.drawn lw_cs) hx hb hr hlocks hrt.1
set_option maxHeartbeats 4000000 in
theorem lw_walk (l : Launch) (hflags : l.flags = flags0) (b : Addr) (xs : List Int32) : MetFree l x (headSpec (Jvm.Cond.code x code maxLocals ret :: tables_1) room_1) (lw_P b xs) (fun _ _ _ _ _ => True) lw_Q := by
  refine MetFree.of_bodyS (code := code) (maxLocals := maxLocals) (ret := ret) (by decide) ?_ ?_
  · intro args s m h hn
    obtain ⟨meth, c, h1, h2, h3, h4, h5, h6, -, -⟩ := Cond.code_spec hn (atoms_spec (ws := Jvm.Cond.code x code maxLocals ret :: tables_1) h _ List.mem_cons_self)
    exact ⟨meth, c, h1, h2, h3, h4, h5, h6⟩
  · intro p e s m args below meth c s₁ B hml0 hP _
    obtain ⟨rfl, hx, hbd, hgv⟩ := hP
    obtain ⟨scr, harrAt, hlist, hof, hsmall⟩ := hx
    obtain ⟨hcb, hkn, -, -⟩ := State.arrayAt?_spec harrAt
    have hown : s.vm.findClass R_law = some m.cls := findClass_of_methodNamed B.named
    have hts0 : ∀ c ∈ (Jvm.Cond.code x code maxLocals ret :: tables_1), c.before #[Value.ref b] s = true := atoms_spec (ws := Jvm.Cond.code x code maxLocals ret :: tables_1) B.pre
    have hts : ∀ w ∈ lw_tbl, w.before #[Value.ref b] s = true := k2_hts_sels lw_privs (fun w hw => hts0 w (List.mem_cons_of_mem _ hw)) lw_privs_ok
    have hml : c.maxLocals = 4 := B.maxLocals_eq (hts0 _ List.mem_cons_self)
    have X₀ : Stand p l e room_1 s m #[Value.ref b] below meth c s₁ [] 0 0 := Stand.of_body B
    have hh0 : s₁.heap = s.heap := by rw [B.state]; rfl
    have hsz : scr.slots.size = xs.length := by rw [← Array.length_toList, hlist, List.length_map]
    have hval : ∀ j : Nat, j < xs.length → scr.slots[j]? = some (.int (xs.getD j 0)) := fun j hj => by
      rw [← Array.getElem?_toList, hlist]
      simp [hj]
    have hbl : b < s.heap.size := (Array.getElem?_eq_some_iff.mp hcb).1
    have hX : va_X b xs.length (fun j => xs.getD j 0) s s.heap := ⟨scr, hcb, hof, hkn, hsz, hval⟩
    have K : W p l e room_1 s m #[Value.ref b] below meth c s₁.heap [] 0 0 (lw_Z below #[Value.ref b] s) (entryFrame m ([Value.ref b] : List Value).toArray 4) := by
      rw [hh0]
      exact whole_start l hflags hbd ⟨B.exec, B.bytes, B.returns, hml, hown, hts, hX, hbl, B.notSynchronized, hgv⟩
    obtain ⟨t, a1, o, b1, b2, b3⟩ := K s₁ rfl X₀
    exact ⟨t, o, a1, b1, b2, b3⟩
theorem lw_pre_spec {args : Array Value} {s : State} (h : (Jvm.Cond.and given_1 narrow_1).before args s = true) (hr : rest_1_c.before args s = true) : ∃ (b : Addr) (xs : List Int32), lw_P b xs args s := by
  have hs := flat_of_before _ h
  have hq := flat_of_before _ hr
  have hc : (Cond.count 1).before args s = true := hs _ (by decide +kernel)
  have harr : (Cond.arrayOf (.arg 0) .int).before args s = true := hs _ (by decide +kernel)
  have hle : (Cond.le (.length (.arg 0)) (.int 3072)).before args s = true := hs _ (by decide +kernel)
  have hlen : (Cond.isInt (.length (.arg 0))).before args s = true := hq _ (by decide +kernel)
  have hall : (Cond.all (.arg 0) (.isInt (.elem (.arg 0) (.index 0)))).before args s = true := hq _ (by decide +kernel)
  obtain ⟨b, xs, hb, hx⟩ := State.ints_of_pre rfl harr hlen hall
  have hsm : xs.length < 2 ^ 31 := hx.choose_spec.2.2.2
  have hev : (Term.length (.arg 0)).eval args s none [] s = some (.int xs.length.toInt32) := hx.length_eval hb
  have hv := Cond.le_ints hev (show (Term.int 3072).eval args s none [] s = some (.int 3072) from rfl)
  have hd : xs.length.toInt32 ≤ 3072 := by
    simpa [Cond.before, Cond.holds, hv] using hle
  have hN : xs.length ≤ 3072 := (Int32.ofNat_le_ofNat hsm (by decide)).mp (show Int32.ofNat xs.length ≤ Int32.ofNat 3072 from hd)
  exact ⟨b, xs, Cond.one_arg hc (show args[0]? = some (.ref b) from hb), hx, hN, h⟩
theorem lw_comes (l : Launch) (hflags : l.flags = flags0) : Comes l x (Jvm.Cond.code x code maxLocals ret :: tables_1) room_1 (fun tb e args s => Calls_1 tb e args s ∧ rest_1 tb e args s ∧ Pre_1 tb e args s)
    (fun _ _ args s o t => lw_Q args s o t) := by
  intro p e ha hc hk s m args below hf hfit hheap happ hpre
  obtain ⟨b, xs, hP⟩ := lw_pre_spec hpre.2.2 hpre.2.1
  obtain ⟨k, o, h1, h2, h3, hQ⟩ := lw_walk l hflags b xs p e ha hc hk s m args below hf ((Spec.applies_iff_loose hf).mp happ).1 hP trivial
  exact ⟨k, o, h1, h2, h3, hQ⟩
theorem lw_frame {s t : State} {o : Outcome} {args : Array Value} (h : State.butDraws s t lw_cs (fun t1 => Framed s o t1 [] 600000 7302250)) :
    State.butDraws s t [Jvm.Choice.named "NaN.bits"] (fun t1 => Framed s o t1 (fieldLocs frame_1_writes args s ++ arrayLocs frame_1_arrays args s ++ staticLocs frame_1_statics s) 600000 7302250) := h
theorem lw_limb (L : Cond) (hL : ∀ (args : Array Value) (s t : State), L.after args s (.returned (some (.int 1))) t = true) :
    ArmFor flags0 classFile x code maxLocals ret World_1 tables_1 room_1 Calls_1 rest_1 Pre_1
      (fun tb e a s o t => postC L tb e a s o t ∧ State.butDraws s t [Jvm.Choice.named "NaN.bits"] (fun t1 => Framed s o t1 (fieldLocs frame_1_writes a s ++ arrayLocs frame_1_arrays a s ++ staticLocs frame_1_statics s) 600000 7302250)) := by
  intro l hflags _ _ p e ha hc hk s m args below hf hfit hheap happ hpre
  obtain ⟨k, o, h1, h2, h3, rfl, hF⟩ := lw_comes l hflags p e ha hc hk s m args below hf hfit hheap happ hpre
  exact ⟨k, _, h1, h2, h3, hL args s _, lw_frame hF⟩
theorem i_vc : Claimed_1_1 ∧ Claimed_1_2 := ⟨lw_limb limb_1_1 (fun args s t => by simp [limb_1_1, Cond.after, Cond.holds, Cond.value]), lw_limb limb_1_2 (fun args s t => Cond.after_iff.mpr (by
  first | (rw [show limb_1_2 = Cond.eq .result (.int 1) from rfl, Cond.eq_ints (x := 1) (y := 1) rfl rfl]; simp; done) | (simp [limb_1_2, Cond.value, Term.eval]; done)))⟩
