def fs_Rt (cc : ByteArray) (rt : Option FieldType) (v : Option fs_V) (pc : Nat) : Prop := match v with
  | none => decode cc pc = .ok (.return_, 1) ∧ rt = none
  | some (.inl a) => decode cc pc = .ok (.ireturn, 1) ∧ (rt = some .int ∨ (rt = some .boolean ∧ (a = 0 ∨ a = 1)))
  | some (.inr (.long _)) => decode cc pc = .ok (.lreturn, 1) ∧ rt = some .long
  | some (.inr (.float _)) => decode cc pc = .ok (.freturn, 1) ∧ rt = some .float
  | some (.inr (.double _)) => decode cc pc = .ok (.dreturn, 1) ∧ rt = some .double
  | _ => False
theorem fs_lookup_mem : ∀ (l : List fs_B) (pc : Nat) (x : List fs_I × Nat × fs_I), l.lookup pc = some x → (pc, x) ∈ l
  | [], pc, x, h => by cases h
  | (k, y) :: r, pc, x, h => by
    rw [List.lookup_cons] at h
    split at h
    · next hk =>
      have e : pc = k := by simpa using hk
      subst e
      rw [Option.some.inj h]
      exact List.mem_cons_self
    · exact List.mem_cons_of_mem _ (fs_lookup_mem r pc x h)
theorem fs_ckb_all {mid : Nat} (h : mid ≤ fs_K) : fs_ckb mid = true := by
  rcases Nat.lt_or_ge mid fs_K with q | q
  · have h1 := fs_ck q
    simp only [fs_ckm, Bool.and_eq_true] at h1
    exact h1.2.2.2.2.2.2.2.2
  · have e : mid = fs_K := by omega
    subst e
    exact fs_ckL
theorem fs_block {mid pc tpc : Nat} {is : List fs_I} {t : fs_I} (h : mid ≤ fs_K) (hb : fs_bl mid pc = some (is, tpc, t)) :
    fs_cks (fs_me mid).1.cls (fs_me mid).2.1 pc is tpc = true ∧ fs_ckt (fs_me mid).1.cls (fs_me mid).2.1 (fs_me mid).2.2.2.1 tpc t = true := by
  have h1 := fs_ckb_all h
  have h2 := List.all_eq_true.mp h1 _ (fs_lookup_mem _ _ _ hb)
  simp only [Bool.and_eq_true] at h2
  exact h2
theorem fs_mcok : (List.range fs_K).all (fun k => (fs_me k).2.2.2.2.1 || decide (fs_mc k < 7 ∧ fs_rn (fs_mc k) = (fs_me k).1.cls)) = true := by decide +kernel
def fs_room (d : Nat) : Room := { frames := d, cells := 0, slots := 0, locals := 39 * d }
section FsSound
variable {dC : Nat → ClassId} {dI : Nat → Nat → Nat} {o b Ln : Nat} {xs : Nat → Int32} {sa sv : Nat → Nat} {cA cB : ClassId}
section FsMany
variable {p : Program} {l : Launch} {e : Env} {R : Room} {s : State} {m : MethodId} {args : Array Value} {below : List Frame} {meth : Method} {c : Code} {cells slots : Nat} {Q : State → Prop} {cc : ByteArray} {own : String}
theorem fs_many (hx : p.tables.exec = Jvm.exec) (hb : c.code = cc) (hown : s.vm.findClass own = some m.cls) (hts : ∀ w ∈ fs_good, w.before args s = true) (hX : fs_X dC dI o sa sv cA cB s)
    (hsc : own = "FireSaleLaw" → va_X b Ln xs s s.heap ∧ b < s.heap.size ∧ b < o ∧ Ln < 2 ^ 31) {e0 nL : Nat} {L' : fs_L} {st' : List fs_V} {M' : fs_M} :
    ∀ (is : List fs_I) {pc : Nat} {L : fs_L} {st : List fs_V} {M : fs_M} {ob : List Prop} {ls : Array Slot} {H : Heap} {locs : List Loc}, fs_cks own cc pc is e0 = true → fs_ex is L st M = (ob, L', st', M') → fs_all ob →
    (own = "FireSaleLaw" → M 999 (-1) = Ln ∧ ∀ j : Nat, j < Ln → M 999 j = (xs j).toInt) → va_P (dC, dI) vwCl (fs_ws o cA cB M) H → va_S (fun q => o ≤ q) s.heap H locs → fs_LR (fs_ad o b sa) ls nL L → fs_Rg M L st →
    (∀ (H' : Heap) (locs' : List Loc) (ls' : Array Slot), va_P (dC, dI) vwCl (fs_ws o cA cB M') H' → va_S (fun q => o ≤ q) s.heap H' locs' → fs_LR (fs_ad o b sa) ls' nL L' → fs_Rg M' L' st' → M' 999 = M 999 → W p l e R s m args below meth c H' locs' cells slots Q (F0 m e0 ls' (st'.map (fs_tv (fs_ad o b sa))))) →
    W p l e R s m args below meth c H locs cells slots Q (F0 m pc ls (st.map (fs_tv (fs_ad o b sa))))
  | [], pc, L, st, M, ob, ls, H, locs, hck, he, ho, hM9, hP, hS, hl, hR, kk => by
    simp only [fs_ex, Prod.mk.injEq] at he
    obtain ⟨rfl, rfl, rfl, rfl⟩ := he
    simp only [fs_cks, decide_eq_true_eq] at hck
    subst hck
    exact kk H locs ls hP hS hl hR rfl
  | q :: r, pc, L, st, M, ob, ls, H, locs, hck, he, ho, hM9, hP, hS, hl, hR, kk => by
    simp only [fs_cks, Bool.and_eq_true] at hck
    simp only [fs_ex] at he
    generalize h1 : fs_st q L st M = R1 at he
    obtain ⟨o1, L1, st1, M1⟩ := R1
    simp only at he
    generalize h2 : fs_ex r L1 st1 M1 = R2 at he
    obtain ⟨o2, L2, st2, M2⟩ := R2
    simp only [Prod.mk.injEq] at he
    obtain ⟨rfl, rfl, rfl, rfl⟩ := he
    refine fs_one hx hb hown hts hX.1 hX.2.2.1 hsc hck.1 h1 (fs_all_app ho).1 hM9 hP hS hl hR (fun H1 locs1 ls1 hP1 hS1 hl1 hR1 h9 => ?_)
    exact fs_many hx hb hown hts hX hsc r hck.2 h2 (fs_all_app ho).2 (fun q => by rw [h9]; exact hM9 q) hP1 hS1 hl1 hR1 (fun H2 locs2 ls2 hP2 hS2 hl2 hR2 h92 => kk H2 locs2 ls2 hP2 hS2 hl2 hR2 (h92.trans h9))
end FsMany
theorem fs_sl_len {ad : Nat → Nat} : ∀ (as : List fs_V), (lg_sl (as.map (fs_tv ad))).length = (fs_spr as).length
  | [] => rfl
  | v :: r => by
    have := fs_sl_len (ad := ad) r
    have hc := fs_tv_cat ad v
    simp only [List.map_cons, lg_sl, List.flatMap_cons, List.length_append] at *
    rw [this]
    rcases v with n | v
    · simp [fs_tv, Value.category, fs_spr]; omega
    · cases v <;> simp [fs_tv, Value.category, fs_spr] <;> omega
theorem fs_spr_args {ad : Nat → Nat} : ∀ (as : List fs_V) (i j : Nat) (v : fs_V), (fs_spr as)[j]? = some (some v) → (i + j, fs_tv ad v) ∈ lv_args i (as.map (fs_tv ad))
  | [], i, j, v, h => by simp [fs_spr] at h
  | w :: r, i, j, v, h => by
    have hc := fs_tv_cat ad w
    have one : fs_cat w = 1 → fs_spr (w :: r) = some w :: fs_spr r := by
      intro q
      rcases w with n | w
      · rfl
      · cases w <;> first | rfl | (simp [fs_cat] at q)
    have two : ¬ fs_cat w = 1 → fs_spr (w :: r) = some w :: none :: fs_spr r ∧ fs_cat w = 2 := by
      intro q
      rcases w with n | w
      · exact absurd rfl q
      · cases w <;> first | exact ⟨rfl, rfl⟩ | exact absurd rfl q
    by_cases q : fs_cat w = 1
    · rw [one q] at h
      simp only [List.map_cons, lv_args, hc, q]
      cases j with
      | zero => simp only [List.getElem?_cons_zero, Option.some.injEq] at h; subst h; exact List.mem_cons_self
      | succ j =>
        simp only [List.getElem?_cons_succ] at h
        refine List.mem_cons_of_mem _ ?_
        have := fs_spr_args (ad := ad) r (i + 1) j v h
        rw [show i + (j + 1) = i + 1 + j by omega]
        simpa using this
    · obtain ⟨e1, e2⟩ := two q
      rw [e1] at h
      simp only [List.map_cons, lv_args, hc, e2, if_true]
      match j with
      | 0 => simp only [List.getElem?_cons_zero, Option.some.injEq] at h; subst h; exact List.mem_cons_self
      | 1 => simp at h
      | j + 2 =>
        simp only [List.getElem?_cons_succ] at h
        refine List.mem_cons_of_mem _ ?_
        have := fs_spr_args (ad := ad) r (i + 2) j v h
        rw [show i + (j + 2) = i + 2 + j by omega]
        exact this
theorem fs_ent_at {ml : Nat} {as : List fs_V} {j : Nat} {v : fs_V} (h : (fs_ent ml as)[j]? = some (some v)) : (fs_spr as)[j]? = some (some v) := by
  unfold fs_ent at h
  rcases Nat.lt_or_ge j (fs_spr as).length with q | q
  · rwa [List.getElem?_append_left q] at h
  · rw [List.getElem?_append_right q] at h
    have := List.mem_of_getElem? h
    simp at this
theorem fs_LR_ent {ad : Nat → Nat} {ml : Nat} {as : List fs_V} {ls : Array Slot} (hsp : (fs_spr as).length ≤ ml) (hl : lv_has ls ml (lv_args 0 (as.map (fs_tv ad)))) : fs_LR ad ls ml (fs_ent ml as) := by
  refine ⟨by simp [fs_ent]; omega, _, hl, fun j v h => ?_⟩
  have := fs_spr_args (ad := ad) as 0 j v (fs_ent_at h)
  simpa using this
theorem fs_spr_mem : ∀ (as : List fs_V) (v : fs_V), some v ∈ fs_spr as → v ∈ as
  | [], v, h => by simp [fs_spr] at h
  | w :: r, v, h => by
    have ih := fs_spr_mem r v
    rcases w with n | w
    · simp only [fs_spr, List.mem_cons, Option.some.injEq] at h
      rcases h with rfl | h
      · exact List.mem_cons_self
      · exact List.mem_cons_of_mem _ (ih h)
    · cases w <;> simp only [fs_spr, List.mem_cons, Option.some.injEq, reduceCtorEq, false_or] at h <;> (rcases h with rfl | h; exact List.mem_cons_self; exact List.mem_cons_of_mem _ (ih h))
theorem fs_vr_ent {ml : Nat} {as : List fs_V} (h : ∀ w ∈ as, fs_vr w) : ∀ (j : Nat) (v : fs_V), (fs_ent ml as)[j]? = some (some v) → fs_vr v := fun j v hj => h v (fs_spr_mem as v (List.mem_of_getElem? (fs_ent_at hj)))
/-- a callee's contract, out of its run -/
theorem fs_met (l : Launch) (n d' k : Nat) (as : List fs_V) (M1 : fs_M) (v : Option fs_V) (M2 : fs_M) (ih : ∀ (d mid pc : Nat) (L : fs_L) (st : List fs_V) (M : fs_M) (v : Option fs_V) (M' : fs_M), fs_run n d mid pc L st M = some (v, M') → mid ≤ fs_K →
    ∀ {p : Program} {e : Env} {R : Room} {s : State} {m : MethodId} {args : Array Value} {below : List Frame} {meth : Method} {c : Code} {H : Heap} {locs : List Loc} {cells slots : Nat} {Q : State → Prop} {ls : Array Slot},
    p.tables.exec = Jvm.exec → c.code = (fs_me mid).2.1 → c.maxLocals = (fs_me mid).2.2.1 → s.vm.findClass (fs_me mid).1.cls = some m.cls → (∀ w ∈ fs_good, w.before args s = true) → fs_X dC dI o sa sv cA cB s →
    ((fs_me mid).1.cls = "FireSaleLaw" → va_X b Ln xs s s.heap ∧ b < s.heap.size ∧ b < o ∧ Ln < 2 ^ 31) → d ≤ R.frames → 39 * d ≤ R.locals → cells ≤ R.cells → slots ≤ R.slots →
    ((fs_me mid).1.cls = "FireSaleLaw" → M 999 (-1) = Ln ∧ ∀ j : Nat, j < Ln → M 999 j = (xs j).toInt) → va_P (dC, dI) vwCl (fs_ws o cA cB M) H → va_S (fun q => o ≤ q) s.heap H locs → fs_LR (fs_ad o b sa) ls (fs_me mid).2.2.1 L → fs_Rg M L st →
    (∀ (H' : Heap) (locs' : List Loc) (pcr : Nat) (lsr : Array Slot), fs_Rt (fs_me mid).2.1 (fs_me mid).2.2.2.1 v pcr → va_P (dC, dI) vwCl (fs_ws o cA cB M') H' → va_S (fun q => o ≤ q) s.heap H' locs' → (∀ r i, fs_rg (M' r i)) → (∀ w, v = some w → fs_vr w) → M' 999 = M 999 →
      W p l e R s m args below meth c H' locs' cells slots Q (F0 m pcr lsr ((v.map (fs_tv (fs_ad o b sa))).toList))) →
    W p l e R s m args below meth c H locs cells slots Q (F0 m pc ls (st.map (fs_tv (fs_ad o b sa)))))
    (hrun : fs_run n d' k 0 (fs_ent (fs_me k).2.2.1 as) [] M1 = some (v, M2)) (hk : k < fs_K) (hsp : (fs_spr as).length ≤ (fs_me k).2.2.1) (hM : ∀ r i, fs_rg (M1 r i)) (hRa : ∀ w ∈ as, fs_vr w) :
    Met l (fs_me k).1 (Cond.code (fs_me k).1 (fs_me k).2.1 (fs_me k).2.2.1 (fs_me k).2.2.2.1 :: fs_good) (fs_room d') (va_Pc (as.map (fs_tv (fs_ad o b sa))) (fun U => va_P (dC, dI) vwCl (fs_ws o cA cB M1) U.heap ∧ fs_X dC dI o sa sv cA cB U))
      (fun _ st0 oc t => oc = .returned (v.map (fs_tv (fs_ad o b sa))) ∧ (va_P (dC, dI) vwCl (fs_ws o cA cB M2) t.heap ∧ (∀ r i, fs_rg (M2 r i)) ∧ (∀ w, v = some w → fs_vr w) ∧ M2 999 = M1 999) ∧ va_F (fun q => o ≤ q) st0 t) 0 0 (fun q => o ≤ q) := by
  have hck := fs_ck hk
  simp only [fs_ckm, Bool.and_eq_true, decide_eq_true_eq] at hck
  obtain ⟨hk1, hk2, hk3, hk4, hk5, hk6, hk7, hk8, hk9⟩ := hck
  refine Met.ofW (cc := (fs_me k).2.1) (maxL := (fs_me k).2.2.1) (ret := (fs_me k).2.2.2.1) hk5 rfl ?_
  intro p e s m args below meth c s₁ B hml hv
  obtain ⟨rfl, hP, hX⟩ := hv
  have hx := B.exec
  have hb := B.bytes
  have hr := B.returns
  have hts0 := atoms_spec (ws := Cond.code (fs_me k).1 (fs_me k).2.1 (fs_me k).2.2.1 (fs_me k).2.2.2.1 :: fs_good) B.pre
  have hts : ∀ w ∈ fs_good, w.before (as.map (fs_tv (fs_ad o b sa))).toArray s = true := fun w hw => hts0 w (List.mem_cons_of_mem _ hw)
  have hown : s.vm.findClass (fs_me k).1.cls = some m.cls := findClass_of_methodNamed B.named
  have hlocks := B.notSynchronized
  have hnl : ¬ (fs_me k).1.cls = "FireSaleLaw" := hk8.2
  rw [lg_entry_eq]
  have hle : (lg_sl (as.map (fs_tv (fs_ad o b sa)))).length ≤ (fs_me k).2.2.1 := by rw [fs_sl_len]; exact hsp
  have hl := lv_entry (as.map (fs_tv (fs_ad o b sa))) hle
  generalize (lg_sl (as.map (fs_tv (fs_ad o b sa))) ++ List.replicate ((fs_me k).2.2.1 - (lg_sl (as.map (fs_tv (fs_ad o b sa)))).length) Slot.unset).toArray = ls at hl ⊢
  have hLR : fs_LR (fs_ad o b sa) ls (fs_me k).2.2.1 (fs_ent (fs_me k).2.2.1 as) := fs_LR_ent hsp hl
  have hRg : fs_Rg M1 (fs_ent (fs_me k).2.2.1 as) [] := ⟨hM, fs_vr_ent hRa, fun w hw => absurd hw List.not_mem_nil⟩
  refine ih d' k 0 (fs_ent (fs_me k).2.2.1 as) [] M1 v M2 hrun (Nat.le_of_lt hk) (R := (headSpec (Cond.code (fs_me k).1 (fs_me k).2.1 (fs_me k).2.2.1 (fs_me k).2.2.2.1 :: fs_good) (fs_room d')).room) hx hb hml hown hts hX (fun q => absurd q hnl) (Nat.le_refl _) (Nat.le_refl _) (Nat.le_refl _) (Nat.le_refl _) (fun q => absurd q hnl) hP va_S.rf hLR hRg ?_
  intro H' locs' pcr lsr hrt hP' hS' hM' hv' h9
  have hq : ∀ t : State, t.heap = H' → s.WarmedH t.vm → (va_P (dC, dI) vwCl (fs_ws o cA cB M2) t.heap ∧ (∀ r i, fs_rg (M2 r i)) ∧ (∀ w, v = some w → fs_vr w) ∧ M2 999 = M1 999) ∧ va_F (fun q => o ≤ q) s t := fun t ht _ => ⟨⟨by rw [ht]; exact hP', hM', hv', h9⟩, hS'.F ht⟩
  have hf : ∀ q ∈ locs', o ≤ q.base := hS'.2.2
  rcases v with _ | v
  · obtain ⟨h1, h2⟩ := hrt
    exact W.vret hx hb (hr.trans h2) (fun t ht hW => ⟨rfl, hq t ht hW⟩) hf h1 hlocks
  · rcases v with a | v
    · obtain ⟨h1, h2⟩ := hrt
      rcases h2 with h2 | ⟨h2, h3⟩
      · exact W.iret hx hb (hr.trans h2) (fun t ht hW => ⟨rfl, hq t ht hW⟩) hf h1 hlocks
      · exact W.zret hx hb (hr.trans h2) (by rcases h3 with rfl | rfl <;> rfl) (fun t ht hW => ⟨rfl, hq t ht hW⟩) hf h1 hlocks
    · cases v with
      | long x => exact W.lret hx hb (hr.trans hrt.2) (fun t ht hW => ⟨rfl, hq t ht hW⟩) hf hrt.1 hlocks
      | float x => exact W.fret hx hb (hr.trans hrt.2) (fun t ht hW => ⟨rfl, hq t ht hW⟩) hf hrt.1 hlocks
      | double x => exact W.dret hx hb (hr.trans hrt.2) (fun t ht hW => ⟨rfl, hq t ht hW⟩) hf hrt.1 hlocks
      | int x => exact hrt.elim
      | null => exact hrt.elim
      | ref x => exact hrt.elim
      | retAddr x => exact hrt.elim
theorem fs_callWV (l : Launch) (n d' mid x1 : Nat) (x2 : Int) (x3 idx tl tpc : Nat) (L1 : fs_L) (as rest : List fs_V) (M1 : fs_M) (v : Option fs_V) (M' : fs_M) (ih : ∀ (d mid pc : Nat) (L : fs_L) (st : List fs_V) (M : fs_M) (v : Option fs_V) (M' : fs_M), fs_run n d mid pc L st M = some (v, M') → mid ≤ fs_K →
    ∀ {p : Program} {e : Env} {R : Room} {s : State} {m : MethodId} {args : Array Value} {below : List Frame} {meth : Method} {c : Code} {H : Heap} {locs : List Loc} {cells slots : Nat} {Q : State → Prop} {ls : Array Slot},
    p.tables.exec = Jvm.exec → c.code = (fs_me mid).2.1 → c.maxLocals = (fs_me mid).2.2.1 → s.vm.findClass (fs_me mid).1.cls = some m.cls → (∀ w ∈ fs_good, w.before args s = true) → fs_X dC dI o sa sv cA cB s →
    ((fs_me mid).1.cls = "FireSaleLaw" → va_X b Ln xs s s.heap ∧ b < s.heap.size ∧ b < o ∧ Ln < 2 ^ 31) → d ≤ R.frames → 39 * d ≤ R.locals → cells ≤ R.cells → slots ≤ R.slots →
    ((fs_me mid).1.cls = "FireSaleLaw" → M 999 (-1) = Ln ∧ ∀ j : Nat, j < Ln → M 999 j = (xs j).toInt) → va_P (dC, dI) vwCl (fs_ws o cA cB M) H → va_S (fun q => o ≤ q) s.heap H locs → fs_LR (fs_ad o b sa) ls (fs_me mid).2.2.1 L → fs_Rg M L st →
    (∀ (H' : Heap) (locs' : List Loc) (pcr : Nat) (lsr : Array Slot), fs_Rt (fs_me mid).2.1 (fs_me mid).2.2.2.1 v pcr → va_P (dC, dI) vwCl (fs_ws o cA cB M') H' → va_S (fun q => o ≤ q) s.heap H' locs' → (∀ r i, fs_rg (M' r i)) → (∀ w, v = some w → fs_vr w) → M' 999 = M 999 →
      W p l e R s m args below meth c H' locs' cells slots Q (F0 m pcr lsr ((v.map (fs_tv (fs_ad o b sa))).toList))) →
    W p l e R s m args below meth c H locs cells slots Q (F0 m pc ls (st.map (fs_tv (fs_ad o b sa)))))
    (hrun : (match (if 900 ≤ x1 then (fs_natd d' x1 as).map (fun v => (some v, M1)) else fs_run n d' x1 0 (fs_ent (fs_me x1).2.2.1 as) [] M1) with | some (v, M2) => fs_run n (d' + 1) mid (tpc + 3) L1 (v.toList ++ rest) M2 | none => none) = some (v, M'))
    (hmid : mid ≤ fs_K) {p : Program} {e : Env} {R : Room} {s : State} {m : MethodId} {args : Array Value} {below : List Frame} {meth : Method} {c : Code} {H1 : Heap} {locs1 : List Loc} {cells slots : Nat} {Q : State → Prop} {ls1 : Array Slot}
    (hx : p.tables.exec = Jvm.exec) (hb : c.code = (fs_me mid).2.1) (hml : c.maxLocals = (fs_me mid).2.2.1) (hown : s.vm.findClass (fs_me mid).1.cls = some m.cls) (hts : ∀ w ∈ fs_good, w.before args s = true) (hX : fs_X dC dI o sa sv cA cB s)
    (hsc : (fs_me mid).1.cls = "FireSaleLaw" → va_X b Ln xs s s.heap ∧ b < s.heap.size ∧ b < o ∧ Ln < 2 ^ 31) (hRf : d' + 1 ≤ R.frames) (hRl : 39 * (d' + 1) ≤ R.locals) (hRc : cells ≤ R.cells) (hRs : slots ≤ R.slots)
    (hM91 : (fs_me mid).1.cls = "FireSaleLaw" → M1 999 (-1) = Ln ∧ ∀ j : Nat, j < Ln → M1 999 j = (xs j).toInt) (hP1 : va_P (dC, dI) vwCl (fs_ws o cA cB M1) H1) (hS1 : va_S (fun q => o ≤ q) s.heap H1 locs1) (hl1 : fs_LR (fs_ad o b sa) ls1 (fs_me mid).2.2.1 L1)
    (hR1 : ∀ r i, fs_rg (M1 r i)) (hR2 : ∀ (j : Nat) (v : fs_V), L1[j]? = some (some v) → fs_vr v) (hRa : ∀ w ∈ as, fs_vr w) (hRr : ∀ w ∈ rest, fs_vr w) (hlen : as.length = x2.toNat) (q2 : fs_cats rest ≤ 8) (q3 : fs_rcv false x1 as)
    (hd : decode (fs_me mid).2.1 tpc = .ok (.invokevirtual idx, 3)) (hcc : fs_ckc (fs_me mid).1.cls idx (.invokevirtual idx, tl, x1, x2, x3) false = true)
    (hret1 : ∀ (H' : Heap) (locs' : List Loc) (pcr : Nat) (lsr : Array Slot), fs_Rt (fs_me mid).2.1 (fs_me mid).2.2.2.1 v pcr → va_P (dC, dI) vwCl (fs_ws o cA cB M') H' → va_S (fun q => o ≤ q) s.heap H' locs' → (∀ r i, fs_rg (M' r i)) → (∀ w, v = some w → fs_vr w) → M' 999 = M1 999 →
      W p l e R s m args below meth c H' locs' cells slots Q (F0 m pcr lsr ((v.map (fs_tv (fs_ad o b sa))).toList))) :
    W p l e R s m args below meth c H1 locs1 cells slots Q (F0 m tpc ls1 ((as.reverse ++ rest).map (fs_tv (fs_ad o b sa)))) := by
  have hsz : ls1.size = (fs_me mid).2.2.1 := hl1.2.choose_spec.1.1
  have hcatl : ((rest.map (fs_tv (fs_ad o b sa))).map fun v => v.category).sum ≤ 8 := by
    rw [List.map_map, show ((fun v => Value.category v) ∘ fs_tv (fs_ad o b sa)) = fs_cat from funext (fs_tv_cat _)]
    exact q2
  by_cases hn : 900 ≤ x1
  · rw [if_pos hn] at hrun
    have hcc2 : (fs_ok (.methodLink (fs_me mid).1.cls idx (fs_natn x1)) x3 && decide (x1 < 906) && (decide (x1 < 902) == !false)) = true := by
      unfold fs_ckc at hcc
      rw [if_pos hn] at hcc
      exact hcc
    cases hv : fs_natd d' x1 as with
    | none => rw [hv] at hrun; cases hrun
    | some w =>
      rw [hv] at hrun
      replace hrun : fs_run n (d' + 1) mid (tpc + 3) L1 (w :: rest) M1 = some (v, M') := hrun
      obtain ⟨hnd, hv⟩ := fs_natd_s hv
      refine fs_natW (sta := false) hx hb (hml.trans hsz.symm) hown hts hX hn hcc2 hv hRa hd (by omega) (by omega) hRc hRs q2 hP1 hS1 (fun H2 locs2 hP2 hS2 hvr => ?_)
      exact ih (d' + 1) mid (tpc + 3) L1 (w :: rest) M1 v M' hrun hmid hx hb hml hown hts hX hsc hRf hRl hRc hRs hM91 hP2 hS2 hl1 ⟨hR1, hR2, fun z hz => by rcases List.mem_cons.mp hz with rfl | hz; exact hvr; exact hRr z hz⟩ hret1
  · rw [if_neg hn] at hrun
    cases hr2 : fs_run n d' x1 0 (fs_ent (fs_me x1).2.2.1 as) [] M1 with
    | none => rw [hr2] at hrun; cases hrun
    | some w =>
      obtain ⟨w, M2⟩ := w
      rw [hr2] at hrun
      replace hrun : fs_run n (d' + 1) mid (tpc + 3) L1 (w.toList ++ rest) M2 = some (v, M') := hrun
      unfold fs_ckc at hcc
      rw [if_neg hn] at hcc
      simp only [Bool.and_eq_true, Bool.or_eq_true, decide_eq_true_eq, Bool.true_and, Bool.false_and, Bool.false_eq_true, or_false, if_true, if_false] at hcc
      obtain ⟨hk, hst, hna, hlk⟩ := hcc
      have hck := fs_ck hk
      simp only [fs_ckm, Bool.and_eq_true, decide_eq_true_eq] at hck
      obtain ⟨hk1, hk2, hk3, hk4, hk5, hk6, hk7, hk8, hk9⟩ := hck
      have hmet := fs_met l n d' x1 as M1 w M2 ih hr2 hk (q3.1.resolve_left hn) hR1 hRa
      have hgw := fs_goodIn (fs_ok_mem hk1)
      have hblind : FrameBlind (va_Pc (as.map (fs_tv (fs_ad o b sa))) (fun U => va_P (dC, dI) vwCl (fs_ws o cA cB M1) U.heap ∧ fs_X dC dI o sa sv cA cB U)) := fun a U g mk h => ⟨h.1, h.2.1, fs_X.blind h.2.2 g mk a⟩
      have hRm : (fs_room d').frames + 1 ≤ R.frames ∧ 8 + ((fs_me x1).2.2.1 + 11) + (fs_room d').locals ≤ R.locals := by
        refine ⟨hRf, ?_⟩
        show 8 + ((fs_me x1).2.2.1 + 11) + 39 * d' ≤ R.locals
        have := hk8.1
        omega
      have hroom := lv_room (m := m) (pc := tpc) (ls := ls1) (rest := (as.reverse ++ rest).map (fs_tv (fs_ad o b sa))) hcatl
      refine fs_go (v := w.map (fs_tv (fs_ad o b sa))) (rest := rest.map (fs_tv (fs_ad o b sa))) (Pw := fun Hx => va_P (dC, dI) vwCl (fs_ws o cA cB M2) Hx ∧ (∀ r i, fs_rg (M2 r i)) ∧ (∀ z, w = some z → fs_vr z) ∧ M2 999 = M1 999) (a := (as.map (fs_tv (fs_ad o b sa))).toArray) (A := fun q => o ≤ q) ?_ hS1 ?_
      · replace q3 := q3.2
        cases as with
        | nil => exact q3.elim
        | cons r0 as1 =>
          rcases r0 with y | y
          · exact q3.elim
          · cases y with
            | ref r =>
              replace q3 : 900 ≤ x1 ∨ (r < fs_N ∧ fs_kd r = fs_mc x1) := q3
              obtain ⟨hr, hkd⟩ := q3.resolve_left hn
              have hmc := List.all_eq_true.mp fs_mcok x1 (List.mem_range.mpr hk)
              simp only [hst, Bool.false_or, decide_eq_true_eq] at hmc
              have e2 : fs_en o cA cB M1 r = .inr (fs_kd r, fs_fs o M1 r) := by unfold fs_en; rw [if_neg (by omega), if_neg (by omega)]
              have e1 : fs_ad o b sa r = o + r := by unfold fs_ad; rw [if_pos hr]
              have hrec := va_recv hX.1 hP1 (fs_clget _ (by rw [hkd]; exact hmc.1)) (show (fs_ws o cA cB M1)[r]? = some (o + r, .inr (fs_kd r, fs_fs o M1 r)) by rw [fs_ws_get hr, e2])
              rw [hkd] at hrec
              rw [hst] at hk2 hk3
              have hrec2 : ∃ cell : Cell, H1[fs_ad o b sa r]? = some cell ∧ cell.vm.isStatics = false ∧ s.vm.findClass (fs_me x1).1.cls = some cell.cls := by
                rw [e1, ← hmc.2]
                exact hrec
              have hnlen : as1.length = (fs_me x1).2.2.2.2.2.2.2.2.2 := by
                simp only [List.length_cons] at hlen
                have h5 : x2.toNat = (fs_me x1).2.2.2.2.2.2.2.2.2 + 1 := by rw [hna]; rfl
                omega
              simp only [Bool.false_or] at hk3
              exact va_runV (C := (fs_me x1).1.cls) (b := fs_ad o b sa r) (As := as1.map (fs_tv (fs_ad o b sa))) (rest := rest.map (fs_tv (fs_ad o b sa))) ⟨hx, hb, hml, hown, hts⟩ hmet
                ⟨callB_of _ hts hgw rfl rfl rfl (hts _ (fs_ok_mem hk4)) (hts _ (fs_ok_mem hlk)) ⟨hk6.1, hk6.2, hk7⟩ hRm, hts _ (fs_ok_mem hk2), hts _ (fs_ok_mem hk3)⟩
                ⟨hblind, hrec2, fun U hU hW => ⟨rfl, by rw [hU]; exact hP1, hX.warm hW hS1 hU⟩⟩ rfl (by rw [List.length_map]; exact hnlen) (hsz.trans hml.symm ▸ hsz) (by simp [F0, fs_tv]) hroom hd ⟨by omega, by omega⟩
            | int y => exact q3.elim
            | long y => exact q3.elim
            | float y => exact q3.elim
            | double y => exact q3.elim
            | null => exact q3.elim
            | retAddr y => exact q3.elim
      · rintro H2 locs2 ⟨hP2, hM2, hv2, h92⟩ hS2
        have k2 := ih (d' + 1) mid (tpc + 3) L1 (w.toList ++ rest) M2 v M' hrun hmid (ls := ls1) hx hb hml hown hts hX hsc hRf hRl hRc hRs (fun q => by rw [h92]; exact hM91 q) hP2 hS2 hl1 ⟨hM2, hR2, fun z hz => by
          rcases List.mem_append.mp hz with hz | hz
          · exact hv2 z (by cases w with
              | none => simp at hz
              | some y => simp at hz; rw [hz])
          · exact hRr z hz⟩ (fun H' locs' pcr lsr a1 a2 a3 a4 a5 a6 => hret1 H' locs' pcr lsr a1 a2 a3 a4 a5 (a6.trans h92))
        have e9 : (w.toList ++ rest).map (fs_tv (fs_ad o b sa)) = (w.map (fs_tv (fs_ad o b sa))).toList ++ rest.map (fs_tv (fs_ad o b sa)) := by cases w <;> rfl
        rw [e9] at k2
        exact k2
theorem fs_callWS (l : Launch) (n d' mid x1 : Nat) (x2 : Int) (x3 idx tl tpc : Nat) (L1 : fs_L) (as rest : List fs_V) (M1 : fs_M) (v : Option fs_V) (M' : fs_M) (ih : ∀ (d mid pc : Nat) (L : fs_L) (st : List fs_V) (M : fs_M) (v : Option fs_V) (M' : fs_M), fs_run n d mid pc L st M = some (v, M') → mid ≤ fs_K →
    ∀ {p : Program} {e : Env} {R : Room} {s : State} {m : MethodId} {args : Array Value} {below : List Frame} {meth : Method} {c : Code} {H : Heap} {locs : List Loc} {cells slots : Nat} {Q : State → Prop} {ls : Array Slot},
    p.tables.exec = Jvm.exec → c.code = (fs_me mid).2.1 → c.maxLocals = (fs_me mid).2.2.1 → s.vm.findClass (fs_me mid).1.cls = some m.cls → (∀ w ∈ fs_good, w.before args s = true) → fs_X dC dI o sa sv cA cB s →
    ((fs_me mid).1.cls = "FireSaleLaw" → va_X b Ln xs s s.heap ∧ b < s.heap.size ∧ b < o ∧ Ln < 2 ^ 31) → d ≤ R.frames → 39 * d ≤ R.locals → cells ≤ R.cells → slots ≤ R.slots →
    ((fs_me mid).1.cls = "FireSaleLaw" → M 999 (-1) = Ln ∧ ∀ j : Nat, j < Ln → M 999 j = (xs j).toInt) → va_P (dC, dI) vwCl (fs_ws o cA cB M) H → va_S (fun q => o ≤ q) s.heap H locs → fs_LR (fs_ad o b sa) ls (fs_me mid).2.2.1 L → fs_Rg M L st →
    (∀ (H' : Heap) (locs' : List Loc) (pcr : Nat) (lsr : Array Slot), fs_Rt (fs_me mid).2.1 (fs_me mid).2.2.2.1 v pcr → va_P (dC, dI) vwCl (fs_ws o cA cB M') H' → va_S (fun q => o ≤ q) s.heap H' locs' → (∀ r i, fs_rg (M' r i)) → (∀ w, v = some w → fs_vr w) → M' 999 = M 999 →
      W p l e R s m args below meth c H' locs' cells slots Q (F0 m pcr lsr ((v.map (fs_tv (fs_ad o b sa))).toList))) →
    W p l e R s m args below meth c H locs cells slots Q (F0 m pc ls (st.map (fs_tv (fs_ad o b sa)))))
    (hrun : (match (if 900 ≤ x1 then (fs_natd d' x1 as).map (fun v => (some v, M1)) else fs_run n d' x1 0 (fs_ent (fs_me x1).2.2.1 as) [] M1) with | some (v, M2) => fs_run n (d' + 1) mid (tpc + 3) L1 (v.toList ++ rest) M2 | none => none) = some (v, M'))
    (hmid : mid ≤ fs_K) {p : Program} {e : Env} {R : Room} {s : State} {m : MethodId} {args : Array Value} {below : List Frame} {meth : Method} {c : Code} {H1 : Heap} {locs1 : List Loc} {cells slots : Nat} {Q : State → Prop} {ls1 : Array Slot}
    (hx : p.tables.exec = Jvm.exec) (hb : c.code = (fs_me mid).2.1) (hml : c.maxLocals = (fs_me mid).2.2.1) (hown : s.vm.findClass (fs_me mid).1.cls = some m.cls) (hts : ∀ w ∈ fs_good, w.before args s = true) (hX : fs_X dC dI o sa sv cA cB s)
    (hsc : (fs_me mid).1.cls = "FireSaleLaw" → va_X b Ln xs s s.heap ∧ b < s.heap.size ∧ b < o ∧ Ln < 2 ^ 31) (hRf : d' + 1 ≤ R.frames) (hRl : 39 * (d' + 1) ≤ R.locals) (hRc : cells ≤ R.cells) (hRs : slots ≤ R.slots)
    (hM91 : (fs_me mid).1.cls = "FireSaleLaw" → M1 999 (-1) = Ln ∧ ∀ j : Nat, j < Ln → M1 999 j = (xs j).toInt) (hP1 : va_P (dC, dI) vwCl (fs_ws o cA cB M1) H1) (hS1 : va_S (fun q => o ≤ q) s.heap H1 locs1) (hl1 : fs_LR (fs_ad o b sa) ls1 (fs_me mid).2.2.1 L1)
    (hR1 : ∀ r i, fs_rg (M1 r i)) (hR2 : ∀ (j : Nat) (v : fs_V), L1[j]? = some (some v) → fs_vr v) (hRa : ∀ w ∈ as, fs_vr w) (hRr : ∀ w ∈ rest, fs_vr w) (hlen : as.length = x2.toNat) (q2 : fs_cats rest ≤ 8) (q3 : fs_rcv true x1 as)
    (hd : decode (fs_me mid).2.1 tpc = .ok (.invokestatic idx, 3)) (hcc : fs_ckc (fs_me mid).1.cls idx (.invokestatic idx, tl, x1, x2, x3) true = true)
    (hret1 : ∀ (H' : Heap) (locs' : List Loc) (pcr : Nat) (lsr : Array Slot), fs_Rt (fs_me mid).2.1 (fs_me mid).2.2.2.1 v pcr → va_P (dC, dI) vwCl (fs_ws o cA cB M') H' → va_S (fun q => o ≤ q) s.heap H' locs' → (∀ r i, fs_rg (M' r i)) → (∀ w, v = some w → fs_vr w) → M' 999 = M1 999 →
      W p l e R s m args below meth c H' locs' cells slots Q (F0 m pcr lsr ((v.map (fs_tv (fs_ad o b sa))).toList))) :
    W p l e R s m args below meth c H1 locs1 cells slots Q (F0 m tpc ls1 ((as.reverse ++ rest).map (fs_tv (fs_ad o b sa)))) := by
  have hsz : ls1.size = (fs_me mid).2.2.1 := hl1.2.choose_spec.1.1
  have hcatl : ((rest.map (fs_tv (fs_ad o b sa))).map fun v => v.category).sum ≤ 8 := by
    rw [List.map_map, show ((fun v => Value.category v) ∘ fs_tv (fs_ad o b sa)) = fs_cat from funext (fs_tv_cat _)]
    exact q2
  by_cases hn : 900 ≤ x1
  · rw [if_pos hn] at hrun
    have hcc2 : (fs_ok (.methodLink (fs_me mid).1.cls idx (fs_natn x1)) x3 && decide (x1 < 906) && (decide (x1 < 902) == !true)) = true := by
      unfold fs_ckc at hcc
      rw [if_pos hn] at hcc
      exact hcc
    cases hv : fs_natd d' x1 as with
    | none => rw [hv] at hrun; cases hrun
    | some w =>
      rw [hv] at hrun
      replace hrun : fs_run n (d' + 1) mid (tpc + 3) L1 (w :: rest) M1 = some (v, M') := hrun
      obtain ⟨hnd, hv⟩ := fs_natd_s hv
      refine fs_natW (sta := true) hx hb (hml.trans hsz.symm) hown hts hX hn hcc2 hv hRa hd (by omega) (by omega) hRc hRs q2 hP1 hS1 (fun H2 locs2 hP2 hS2 hvr => ?_)
      exact ih (d' + 1) mid (tpc + 3) L1 (w :: rest) M1 v M' hrun hmid hx hb hml hown hts hX hsc hRf hRl hRc hRs hM91 hP2 hS2 hl1 ⟨hR1, hR2, fun z hz => by rcases List.mem_cons.mp hz with rfl | hz; exact hvr; exact hRr z hz⟩ hret1
  · rw [if_neg hn] at hrun
    cases hr2 : fs_run n d' x1 0 (fs_ent (fs_me x1).2.2.1 as) [] M1 with
    | none => rw [hr2] at hrun; cases hrun
    | some w =>
      obtain ⟨w, M2⟩ := w
      rw [hr2] at hrun
      replace hrun : fs_run n (d' + 1) mid (tpc + 3) L1 (w.toList ++ rest) M2 = some (v, M') := hrun
      unfold fs_ckc at hcc
      rw [if_neg hn] at hcc
      simp only [Bool.and_eq_true, Bool.or_eq_true, decide_eq_true_eq, Bool.true_and, Bool.false_and, Bool.false_eq_true, or_false, if_true, if_false] at hcc
      obtain ⟨hk, hst, hna, hlk⟩ := hcc
      have hck := fs_ck hk
      simp only [fs_ckm, Bool.and_eq_true, decide_eq_true_eq] at hck
      obtain ⟨hk1, hk2, hk3, hk4, hk5, hk6, hk7, hk8, hk9⟩ := hck
      have hmet := fs_met l n d' x1 as M1 w M2 ih hr2 hk (q3.1.resolve_left hn) hR1 hRa
      have hgw := fs_goodIn (fs_ok_mem hk1)
      have hblind : FrameBlind (va_Pc (as.map (fs_tv (fs_ad o b sa))) (fun U => va_P (dC, dI) vwCl (fs_ws o cA cB M1) U.heap ∧ fs_X dC dI o sa sv cA cB U)) := fun a U g mk h => ⟨h.1, h.2.1, fs_X.blind h.2.2 g mk a⟩
      have hRm : (fs_room d').frames + 1 ≤ R.frames ∧ 8 + ((fs_me x1).2.2.1 + 11) + (fs_room d').locals ≤ R.locals := by
        refine ⟨hRf, ?_⟩
        show 8 + ((fs_me x1).2.2.1 + 11) + 39 * d' ≤ R.locals
        have := hk8.1
        omega
      have hroom := lv_room (m := m) (pc := tpc) (ls := ls1) (rest := (as.reverse ++ rest).map (fs_tv (fs_ad o b sa))) hcatl
      refine fs_go (v := w.map (fs_tv (fs_ad o b sa))) (rest := rest.map (fs_tv (fs_ad o b sa))) (Pw := fun Hx => va_P (dC, dI) vwCl (fs_ws o cA cB M2) Hx ∧ (∀ r i, fs_rg (M2 r i)) ∧ (∀ z, w = some z → fs_vr z) ∧ M2 999 = M1 999) (a := (as.map (fs_tv (fs_ad o b sa))).toArray) (A := fun q => o ≤ q) ?_ hS1 ?_
      · rw [hst] at hk2
        have hnlen : as.length = (fs_me x1).2.2.2.2.2.2.2.2.2 := by
          have h5 : x2.toNat = (fs_me x1).2.2.2.2.2.2.2.2.2 := by rw [hna]; rfl
          omega
        rcases hlk with hlk | hlk
        · exact va_runS (As := as.map (fs_tv (fs_ad o b sa))) (rest := rest.map (fs_tv (fs_ad o b sa))) ⟨hx, hb, hml, hown, hts⟩ hmet
            ⟨callB_of _ hts hgw rfl rfl rfl (hts _ (fs_ok_mem hk4)) (hts _ (fs_ok_mem hlk)) ⟨hk6.1, hk6.2, hk7⟩ hRm, hts _ (fs_ok_mem hk2)⟩
            ⟨hblind, fun U hU hW => ⟨rfl, by rw [hU]; exact hP1, hX.warm hW hS1 hU⟩⟩ rfl (by rw [List.length_map]; exact hnlen) hsz (by simp [F0]) hroom hd ⟨by omega, by omega⟩
        · exact va_runSN (As := as.map (fs_tv (fs_ad o b sa))) (rest := rest.map (fs_tv (fs_ad o b sa))) ⟨hx, hb, hml, hown, hts⟩ hmet
            ⟨va_cnB _ hts hgw rfl rfl rfl (hX.2.1 _ (List.mem_of_getElem? hlk)) (hts _ (fs_ok_mem hk4)) ⟨hk6.1, hk6.2, hk7⟩ hRm, hts _ (fs_ok_mem hk2), trivial⟩
            ⟨hblind, fun U hU hW => ⟨rfl, by rw [hU]; exact hP1, hX.warm hW hS1 hU⟩⟩ rfl (by rw [List.length_map]; exact hnlen) hsz (by simp [F0]) hroom hd ⟨by omega, by omega⟩
      · rintro H2 locs2 ⟨hP2, hM2, hv2, h92⟩ hS2
        have k2 := ih (d' + 1) mid (tpc + 3) L1 (w.toList ++ rest) M2 v M' hrun hmid (ls := ls1) hx hb hml hown hts hX hsc hRf hRl hRc hRs (fun q => by rw [h92]; exact hM91 q) hP2 hS2 hl1 ⟨hM2, hR2, fun z hz => by
          rcases List.mem_append.mp hz with hz | hz
          · exact hv2 z (by cases w with
              | none => simp at hz
              | some y => simp at hz; rw [hz])
          · exact hRr z hz⟩ (fun H' locs' pcr lsr a1 a2 a3 a4 a5 a6 => hret1 H' locs' pcr lsr a1 a2 a3 a4 a5 (a6.trans h92))
        have e9 : (w.toList ++ rest).map (fs_tv (fs_ad o b sa)) = (w.map (fs_tv (fs_ad o b sa))).toList ++ rest.map (fs_tv (fs_ad o b sa)) := by cases w <;> rfl
        rw [e9] at k2
        exact k2
/-- what the small machine comes to, the real one does -/
theorem fs_sound (l : Launch) : ∀ (n d mid pc : Nat) (L : fs_L) (st : List fs_V) (M : fs_M) (v : Option fs_V) (M' : fs_M), fs_run n d mid pc L st M = some (v, M') → mid ≤ fs_K →
    ∀ {p : Program} {e : Env} {R : Room} {s : State} {m : MethodId} {args : Array Value} {below : List Frame} {meth : Method} {c : Code} {H : Heap} {locs : List Loc} {cells slots : Nat} {Q : State → Prop} {ls : Array Slot},
    p.tables.exec = Jvm.exec → c.code = (fs_me mid).2.1 → c.maxLocals = (fs_me mid).2.2.1 → s.vm.findClass (fs_me mid).1.cls = some m.cls → (∀ w ∈ fs_good, w.before args s = true) → fs_X dC dI o sa sv cA cB s →
    ((fs_me mid).1.cls = "FireSaleLaw" → va_X b Ln xs s s.heap ∧ b < s.heap.size ∧ b < o ∧ Ln < 2 ^ 31) → d ≤ R.frames → 39 * d ≤ R.locals → cells ≤ R.cells → slots ≤ R.slots →
    ((fs_me mid).1.cls = "FireSaleLaw" → M 999 (-1) = Ln ∧ ∀ j : Nat, j < Ln → M 999 j = (xs j).toInt) → va_P (dC, dI) vwCl (fs_ws o cA cB M) H → va_S (fun q => o ≤ q) s.heap H locs → fs_LR (fs_ad o b sa) ls (fs_me mid).2.2.1 L → fs_Rg M L st →
    (∀ (H' : Heap) (locs' : List Loc) (pcr : Nat) (lsr : Array Slot), fs_Rt (fs_me mid).2.1 (fs_me mid).2.2.2.1 v pcr → va_P (dC, dI) vwCl (fs_ws o cA cB M') H' → va_S (fun q => o ≤ q) s.heap H' locs' → (∀ r i, fs_rg (M' r i)) → (∀ w, v = some w → fs_vr w) → M' 999 = M 999 →
      W p l e R s m args below meth c H' locs' cells slots Q (F0 m pcr lsr ((v.map (fs_tv (fs_ad o b sa))).toList))) →
    W p l e R s m args below meth c H locs cells slots Q (F0 m pc ls (st.map (fs_tv (fs_ad o b sa)))) := by
  intro n
  induction n with
  | zero =>
    intro d mid pc L st M v M' hrun
    simp only [fs_run] at hrun
    cases hrun
  | succ n ih =>
    intro d mid pc L st M v M' hrun hmid p e R s m args below meth c H locs cells slots Q ls hx hb hml hown hts hX hsc hRf hRl hRc hRs hM9 hP hS hl hR hret
    simp only [fs_run] at hrun
    cases hbl : fs_bl mid pc with
    | none => rw [hbl] at hrun; cases hrun
    | some B =>
      obtain ⟨is, tpc, t⟩ := B
      rw [hbl] at hrun
      simp only at hrun
      generalize hex : fs_ex is L st M = RR at hrun
      obtain ⟨ob, L1, st1, M1⟩ := RR
      simp only at hrun
      by_cases ho : fs_all ob
      · rw [if_pos ho] at hrun
        obtain ⟨hcs, hct⟩ := fs_block hmid hbl
        refine fs_many hx hb hown hts hX hsc is hcs hex ho hM9 hP hS hl hR (fun H1 locs1 ls1 hP1 hS1 hl1 hR1 h91 => ?_)
        have hM91 : (fs_me mid).1.cls = "FireSaleLaw" → M1 999 (-1) = Ln ∧ ∀ j : Nat, j < Ln → M1 999 j = (xs j).toInt := fun q => by rw [h91]; exact hM9 q
        have hret1 : ∀ (H' : Heap) (locs' : List Loc) (pcr : Nat) (lsr : Array Slot), fs_Rt (fs_me mid).2.1 (fs_me mid).2.2.2.1 v pcr → va_P (dC, dI) vwCl (fs_ws o cA cB M') H' → va_S (fun q => o ≤ q) s.heap H' locs' → (∀ r i, fs_rg (M' r i)) → (∀ w, v = some w → fs_vr w) → M' 999 = M1 999 →
            W p l e R s m args below meth c H' locs' cells slots Q (F0 m pcr lsr ((v.map (fs_tv (fs_ad o b sa))).toList)) := fun H' locs' pcr lsr a1 a2 a3 a4 a5 a6 => hret H' locs' pcr lsr a1 a2 a3 a4 a5 (a6.trans h91)
        have go : ∀ (d2 pc2 : Nat) (st2 : List fs_V), d2 ≤ d → fs_run n d2 mid pc2 L1 st2 M1 = some (v, M') → (∀ w ∈ st2, fs_vr w) → W p l e R s m args below meth c H1 locs1 cells slots Q (F0 m pc2 ls1 (st2.map (fs_tv (fs_ad o b sa)))) :=
          fun d2 pc2 st2 hd2 hr2 hv2 => ih d2 mid pc2 L1 st2 M1 v M' hr2 hmid hx hb hml hown hts hX hsc (by omega) (by omega) hRc hRs hM91 hP1 hS1 hl1 ⟨hR1.1, hR1.2.1, hv2⟩ hret1
        obtain ⟨ti, tl, x1, x2, x3⟩ := t
        cases ti
        case nop =>
          exact go d tpc st1 (Nat.le_refl _) hrun hR1.2.2
        case goto off =>
          replace hct : (decide (decode (fs_me mid).2.1 tpc = .ok (.goto off, 3)) && fs_tg tpc off x1) = true := hct
          simp only [Bool.and_eq_true, decide_eq_true_eq, fs_tg] at hct
          refine lv_goto hx hb hct.1 hct.2 ?_
          exact go d x1 st1 (Nat.le_refl _) hrun hR1.2.2
        case ifCond cnd off =>
          replace hct : (decide (decode (fs_me mid).2.1 tpc = .ok (.ifCond cnd off, 3)) && fs_tg tpc off x1) = true := hct
          simp only [Bool.and_eq_true, decide_eq_true_eq, fs_tg] at hct
          replace hrun : (match (generalizing := false) st1 with | .inl a :: r => @ite _ (fs_cd cnd a 0) (Classical.propDecidable _) (fs_run n d mid x1 L1 r M1) (fs_run n d mid (tpc + 3) L1 r M1) | _ => none) = some (v, M') := hrun
          split at hrun
          · next a r =>
            have ra : fs_rg a := hR1.2.2 (.inl a) List.mem_cons_self
            have kt : fs_cd cnd a 0 → W p l e R s m args below meth c H1 locs1 cells slots Q (F0 m x1 ls1 (r.map (fs_tv (fs_ad o b sa)))) := fun q => by
              rw [if_pos q] at hrun
              exact go d x1 r (Nat.le_refl _) hrun (fun w hw => hR1.2.2 w (List.mem_cons_of_mem _ hw))
            have kf : ¬ fs_cd cnd a 0 → W p l e R s m args below meth c H1 locs1 cells slots Q (F0 m (tpc + 3) ls1 (r.map (fs_tv (fs_ad o b sa)))) := fun q => by
              rw [if_neg q] at hrun
              exact go d (tpc + 3) r (Nat.le_refl _) hrun (fun w hw => hR1.2.2 w (List.mem_cons_of_mem _ hw))
            have z : fs_rg 0 := ⟨by omega, by omega⟩
            have i1 : Int32.ofInt a = 0 ↔ a = 0 := by have := fs_eq ra z; rw [fs_ti0] at this; exact this
            have i2 : Int32.ofInt a < 0 ↔ a < 0 := by have := fs_lt ra z; rw [fs_ti0] at this; exact this
            have i3 : 0 ≤ Int32.ofInt a ↔ 0 ≤ a := by have := fs_le z ra; rw [fs_ti0] at this; exact this
            have i4 : 0 < Int32.ofInt a ↔ 0 < a := by have := fs_lt z ra; rw [fs_ti0] at this; exact this
            have i5 : Int32.ofInt a ≤ 0 ↔ a ≤ 0 := by have := fs_le ra z; rw [fs_ti0] at this; exact this
            cases cnd
            · exact lv_if_eq hx hb hct.1 hct.2 (fun q => kt (i1.mp q)) (fun q => kf (fun z => q (i1.mpr z)))
            · exact lv_if_ne hx hb hct.1 hct.2 (fun q => kt (fun z => q (i1.mpr z))) (fun q => kf (fun z => z (i1.mp q)))
            · exact lv_if_lt hx hb hct.1 hct.2 (fun q => kt (i2.mp q)) (fun q => kf (fun z => q (i2.mpr z)))
            · exact lv_if_ge hx hb hct.1 hct.2 (fun q => kt (i3.mp q)) (fun q => kf (fun z => q (i3.mpr z)))
            · exact lv_if_gt hx hb hct.1 hct.2 (fun q => kt (i4.mp q)) (fun q => kf (fun z => q (i4.mpr z)))
            · exact lv_if_le hx hb hct.1 hct.2 (fun q => kt (i5.mp q)) (fun q => kf (fun z => q (i5.mpr z)))
          · cases hrun
        case if_icmp cnd off =>
          replace hct : (decide (decode (fs_me mid).2.1 tpc = .ok (.if_icmp cnd off, 3)) && fs_tg tpc off x1) = true := hct
          simp only [Bool.and_eq_true, decide_eq_true_eq, fs_tg] at hct
          replace hrun : (match (generalizing := false) st1 with | .inl y :: .inl a :: r => @ite _ (fs_cd cnd a y) (Classical.propDecidable _) (fs_run n d mid x1 L1 r M1) (fs_run n d mid (tpc + 3) L1 r M1) | _ => none) = some (v, M') := hrun
          split at hrun
          · next y a r =>
            have ra : fs_rg a := hR1.2.2 (.inl a) (by simp)
            have ry : fs_rg y := hR1.2.2 (.inl y) (by simp)
            have kt : fs_cd cnd a y → W p l e R s m args below meth c H1 locs1 cells slots Q (F0 m x1 ls1 (r.map (fs_tv (fs_ad o b sa)))) := fun q => by
              rw [if_pos q] at hrun
              exact go d x1 r (Nat.le_refl _) hrun (fun w hw => hR1.2.2 w (by simp [hw]))
            have kf : ¬ fs_cd cnd a y → W p l e R s m args below meth c H1 locs1 cells slots Q (F0 m (tpc + 3) ls1 (r.map (fs_tv (fs_ad o b sa)))) := fun q => by
              rw [if_neg q] at hrun
              exact go d (tpc + 3) r (Nat.le_refl _) hrun (fun w hw => hR1.2.2 w (by simp [hw]))
            have i1 := fs_eq ra ry
            have i2 := fs_lt ra ry
            have i3 := fs_le ry ra
            have i4 := fs_lt ry ra
            have i5 := fs_le ra ry
            cases cnd
            · exact lv_icmp_eq hx hb hct.1 hct.2 (fun q => kt (i1.mp q)) (fun q => kf (fun z => q (i1.mpr z)))
            · exact lv_icmp_ne hx hb hct.1 hct.2 (fun q => kt (fun z => q (i1.mpr z))) (fun q => kf (fun z => z (i1.mp q)))
            · exact lv_icmp_lt hx hb hct.1 hct.2 (fun q => kt (i2.mp q)) (fun q => kf (fun z => q (i2.mpr z)))
            · exact lv_icmp_ge hx hb hct.1 hct.2 (fun q => kt (i3.mp q)) (fun q => kf (fun z => q (i3.mpr z)))
            · exact lv_icmp_gt hx hb hct.1 hct.2 (fun q => kt (i4.mp q)) (fun q => kf (fun z => q (i4.mpr z)))
            · exact lv_icmp_le hx hb hct.1 hct.2 (fun q => kt (i5.mp q)) (fun q => kf (fun z => q (i5.mpr z)))
          · cases hrun
        case tableswitch df lo hi offs =>
          replace hct : (decide (decode (fs_me mid).2.1 tpc = .ok (.tableswitch df lo hi offs, tl)) && (decide (0 ≤ (tpc : Int) + df) && (decide (hi - lo + 1 = (offs.size : Int)) && offs.toList.all (fun o => decide (0 ≤ (tpc : Int) + o))))) = true := hct
          simp only [Bool.and_eq_true, decide_eq_true_eq, List.all_eq_true] at hct
          obtain ⟨hd, h0, h1, h2⟩ := hct
          replace hrun : (match (generalizing := false) st1 with | .inl a :: r => fs_run n d mid ((tpc : Int) + fs_sw df lo hi offs a).toNat L1 r M1 | _ => none) = some (v, M') := hrun
          split at hrun
          · next a r =>
            have ra : fs_rg a := hR1.2.2 (.inl a) List.mem_cons_self
            have k2 := go d _ r (Nat.le_refl _) hrun (fun w hw => hR1.2.2 w (List.mem_cons_of_mem _ hw))
            have ea := fs_ti ra
            by_cases q : a < lo ∨ hi < a
            · have e5 : fs_sw df lo hi offs a = df := by unfold fs_sw; rw [if_pos q]
              rw [e5] at k2
              exact lv_tableOut hx hb hd (by rw [ea]; exact q) (by omega) k2
            · have e5 : fs_sw df lo hi offs a = offs.toList.getD (a - lo).toNat df := by unfold fs_sw; rw [if_neg q]
              rw [e5] at k2
              have hlt : (a - lo).toNat < offs.size := by omega
              have e6 : offs[(a - lo).toNat]? = some offs[(a - lo).toNat] := Array.getElem?_eq_getElem hlt
              have e7 : offs.toList.getD (a - lo).toNat df = offs[(a - lo).toNat] := by rw [List.getD_eq_getElem?_getD, Array.getElem?_toList, e6]; rfl
              have e8 := h2 offs[(a - lo).toNat] (by rw [← e7, List.getD_eq_getElem?_getD, Array.getElem?_toList, e6]; exact Array.getElem_mem_toList hlt)
              rw [e7] at k2
              exact lv_tableIn hx hb hd (by rw [ea]; omega) (by rw [ea]; omega) (by rw [ea]; exact e6) (by omega) k2
          · cases hrun
        case return_ =>
          replace hct : (decide (decode (fs_me mid).2.1 tpc = .ok (.return_, 1)) && decide ((fs_me mid).2.2.2.1 = none)) = true := hct
          simp only [Bool.and_eq_true, decide_eq_true_eq] at hct
          replace hrun : (match (generalizing := false) st1 with | [] => some ((none : Option fs_V), M1) | _ => none) = some (v, M') := hrun
          split at hrun
          · simp only [Option.some.injEq, Prod.mk.injEq] at hrun
            obtain ⟨rfl, rfl⟩ := hrun
            exact hret1 H1 locs1 tpc ls1 hct hP1 hS1 hR1.1 (fun w hw => by cases hw) rfl
          · cases hrun
        case ireturn =>
          replace hct : (decide (decode (fs_me mid).2.1 tpc = .ok (.ireturn, 1)) && decide ((fs_me mid).2.2.2.1 = if x1 = 0 then some .int else some .boolean)) = true := hct
          simp only [Bool.and_eq_true, decide_eq_true_eq] at hct
          dsimp only at hrun
          split at hrun
          · next a =>
            by_cases q : x1 = 0 ∨ a = 0 ∨ a = 1
            · rw [if_pos q] at hrun
              simp only [Option.some.injEq, Prod.mk.injEq] at hrun
              obtain ⟨rfl, rfl⟩ := hrun
              refine hret1 H1 locs1 tpc ls1 ⟨hct.1, ?_⟩ hP1 hS1 hR1.1 (fun w hw => by cases hw; exact hR1.2.2 _ List.mem_cons_self) rfl
              by_cases q1 : x1 = 0
              · left
                rw [hct.2, if_pos q1]
              · right
                rw [hct.2, if_neg q1]
                exact ⟨rfl, q.resolve_left q1⟩
            · rw [if_neg q] at hrun
              cases hrun
          · cases hrun
        case lreturn =>
          replace hct : (decide (decode (fs_me mid).2.1 tpc = .ok (.lreturn, 1)) && decide ((fs_me mid).2.2.2.1 = some .long)) = true := hct
          simp only [Bool.and_eq_true, decide_eq_true_eq] at hct
          replace hrun : (match (generalizing := false) st1 with | [.inr (.long x)] => some (some (.inr (.long x) : fs_V), M1) | _ => none) = some (v, M') := hrun
          split at hrun
          · next x =>
            simp only [Option.some.injEq, Prod.mk.injEq] at hrun
            obtain ⟨rfl, rfl⟩ := hrun
            exact hret1 H1 locs1 tpc ls1 hct hP1 hS1 hR1.1 (fun w hw => by cases hw; exact trivial) rfl
          · cases hrun
        case freturn =>
          replace hct : (decide (decode (fs_me mid).2.1 tpc = .ok (.freturn, 1)) && decide ((fs_me mid).2.2.2.1 = some .float)) = true := hct
          simp only [Bool.and_eq_true, decide_eq_true_eq] at hct
          replace hrun : (match (generalizing := false) st1 with | [.inr (.float x)] => some (some (.inr (.float x) : fs_V), M1) | _ => none) = some (v, M') := hrun
          split at hrun
          · next x =>
            simp only [Option.some.injEq, Prod.mk.injEq] at hrun
            obtain ⟨rfl, rfl⟩ := hrun
            exact hret1 H1 locs1 tpc ls1 hct hP1 hS1 hR1.1 (fun w hw => by cases hw; exact trivial) rfl
          · cases hrun
        case dreturn =>
          replace hct : (decide (decode (fs_me mid).2.1 tpc = .ok (.dreturn, 1)) && decide ((fs_me mid).2.2.2.1 = some .double)) = true := hct
          simp only [Bool.and_eq_true, decide_eq_true_eq] at hct
          replace hrun : (match (generalizing := false) st1 with | [.inr (.double x)] => some (some (.inr (.double x) : fs_V), M1) | _ => none) = some (v, M') := hrun
          split at hrun
          · next x =>
            simp only [Option.some.injEq, Prod.mk.injEq] at hrun
            obtain ⟨rfl, rfl⟩ := hrun
            exact hret1 H1 locs1 tpc ls1 hct hP1 hS1 hR1.1 (fun w hw => by cases hw; exact trivial) rfl
          · cases hrun
        case invokevirtual idx =>
          replace hct : (decide (decode (fs_me mid).2.1 tpc = .ok (.invokevirtual idx, 3)) && fs_ckc (fs_me mid).1.cls idx (.invokevirtual idx, tl, x1, x2, x3) false) = true := hct
          simp only [Bool.and_eq_true, decide_eq_true_eq] at hct
          obtain ⟨hd, hcc⟩ := hct
          cases d with
          | zero => cases hrun
          | succ d' =>
            replace hrun : @ite _ (x2.toNat ≤ st1.length ∧ fs_cats (st1.drop x2.toNat) ≤ 8 ∧ fs_rcv false x1 (st1.take x2.toNat).reverse) (Classical.propDecidable _) (match (if 900 ≤ x1 then (fs_natd d' x1 (st1.take x2.toNat).reverse).map (fun v => (some v, M1)) else fs_run n d' x1 0 (fs_ent (fs_me x1).2.2.1 (st1.take x2.toNat).reverse) [] M1) with | some (v, M2) => fs_run n (d' + 1) mid (tpc + 3) L1 (v.toList ++ st1.drop x2.toNat) M2 | none => none) none = some (v, M') := hrun
            by_cases q : x2.toNat ≤ st1.length ∧ fs_cats (st1.drop x2.toNat) ≤ 8 ∧ fs_rcv false x1 (st1.take x2.toNat).reverse
            · rw [if_pos q] at hrun
              obtain ⟨q1, q2, q3⟩ := q
              have est : st1 = (st1.take x2.toNat).reverse.reverse ++ st1.drop x2.toNat := by rw [List.reverse_reverse, List.take_append_drop]
              have hRa : ∀ w ∈ (st1.take x2.toNat).reverse, fs_vr w := fun w hw => hR1.2.2 w (List.mem_of_mem_take (List.mem_reverse.mp hw))
              have hRr : ∀ w ∈ st1.drop x2.toNat, fs_vr w := fun w hw => hR1.2.2 w (List.mem_of_mem_drop hw)
              have hlen : (st1.take x2.toNat).reverse.length = x2.toNat := by rw [List.length_reverse, List.length_take]; omega
              generalize (st1.take x2.toNat).reverse = as at *
              generalize st1.drop x2.toNat = rest at *
              subst est
              exact fs_callWV l n d' mid x1 x2 x3 idx tl tpc L1 as rest M1 v M' ih hrun hmid hx hb hml hown hts hX hsc hRf hRl hRc hRs hM91 hP1 hS1 hl1 hR1.1 hR1.2.1 hRa hRr hlen q2 q3 hd hcc hret1
            · rw [if_neg q] at hrun
              cases hrun
        case invokestatic idx =>
          replace hct : (decide (decode (fs_me mid).2.1 tpc = .ok (.invokestatic idx, 3)) && fs_ckc (fs_me mid).1.cls idx (.invokestatic idx, tl, x1, x2, x3) true) = true := hct
          simp only [Bool.and_eq_true, decide_eq_true_eq] at hct
          obtain ⟨hd, hcc⟩ := hct
          cases d with
          | zero => cases hrun
          | succ d' =>
            replace hrun : @ite _ (x2.toNat ≤ st1.length ∧ fs_cats (st1.drop x2.toNat) ≤ 8 ∧ fs_rcv true x1 (st1.take x2.toNat).reverse) (Classical.propDecidable _) (match (if 900 ≤ x1 then (fs_natd d' x1 (st1.take x2.toNat).reverse).map (fun v => (some v, M1)) else fs_run n d' x1 0 (fs_ent (fs_me x1).2.2.1 (st1.take x2.toNat).reverse) [] M1) with | some (v, M2) => fs_run n (d' + 1) mid (tpc + 3) L1 (v.toList ++ st1.drop x2.toNat) M2 | none => none) none = some (v, M') := hrun
            by_cases q : x2.toNat ≤ st1.length ∧ fs_cats (st1.drop x2.toNat) ≤ 8 ∧ fs_rcv true x1 (st1.take x2.toNat).reverse
            · rw [if_pos q] at hrun
              obtain ⟨q1, q2, q3⟩ := q
              have est : st1 = (st1.take x2.toNat).reverse.reverse ++ st1.drop x2.toNat := by rw [List.reverse_reverse, List.take_append_drop]
              have hRa : ∀ w ∈ (st1.take x2.toNat).reverse, fs_vr w := fun w hw => hR1.2.2 w (List.mem_of_mem_take (List.mem_reverse.mp hw))
              have hRr : ∀ w ∈ st1.drop x2.toNat, fs_vr w := fun w hw => hR1.2.2 w (List.mem_of_mem_drop hw)
              have hlen : (st1.take x2.toNat).reverse.length = x2.toNat := by rw [List.length_reverse, List.length_take]; omega
              generalize (st1.take x2.toNat).reverse = as at *
              generalize st1.drop x2.toNat = rest at *
              subst est
              exact fs_callWS l n d' mid x1 x2 x3 idx tl tpc L1 as rest M1 v M' ih hrun hmid hx hb hml hown hts hX hsc hRf hRl hRc hRs hM91 hP1 hS1 hl1 hR1.1 hR1.2.1 hRa hRr hlen q2 q3 hd hcc hret1
            · rw [if_neg q] at hrun
              cases hrun
        all_goals cases hrun
      · rw [if_neg ho] at hrun
        cases hrun
end FsSound
