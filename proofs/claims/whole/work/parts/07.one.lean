section FsLdc
variable {p : Program} {l : Launch} {e : Env} {R : Room} {s : State} {m : MethodId} {args : Array Value} {below : List Frame} {meth : Method} {c : Code} {H : Heap} {locs : List Loc} {cells slots : Nat} {Q : State → Prop} {cc : ByteArray} {pc : Nat} {ls : Array Slot} {rest : List Value}
theorem fs_ldcwf0 {T : State} (X : Stand p l e R s m args below meth c T locs cells slots) (hexec : p.tables.exec = Jvm.exec) {own : String} {index : Nat} {v : UInt32} (hown : s.vm.findClass own = some m.cls)
    (hconst : (Jvm.Cond.constantFloat own index v).before args s = true) {g : JFrame} (hg : g.method = m) (hdg : decode c.code g.pc = .ok (.ldc_w index, 3)) :
    ∀ target, Steps p.tables e below (T.setTop { g with pc := g.pc + 3, stack := .float v :: g.stack }) target → Steps p.tables e below (T.setTop g) target := by
  obtain ⟨k, cf, hk, hcf, hcp⟩ := Cond.constantFloat_spec hown hconst
  obtain ⟨k', hk', he⟩ := X.warmed.alike.2.2 _ _ hk
  intro target hrest
  subst hg
  jvm_step X.here [hexec, hdg, ldc_w.wp_float (s := T) (f := g) X.here.top hk' (by rw [he]; exact hcf) hcp]
  exact hrest
theorem fs_ldcwf (hexec : p.tables.exec = Jvm.exec) (hb : c.code = cc) {own : String} {index : Nat} {v : UInt32} (hown : s.vm.findClass own = some m.cls) (hconst : (Jvm.Cond.constantFloat own index v).before args s = true) (hdg : decode cc pc = .ok (.ldc_w index, 3)) (k : W p l e R s m args below meth c H locs cells slots Q (F0 m (pc + 3) ls (.float v :: rest))) : W p l e R s m args below meth c H locs cells slots Q (F0 m pc ls rest) := by
  intro T hT X
  obtain ⟨t, a, b⟩ := k T hT X
  exact ⟨t, fs_ldcwf0 X hexec hown hconst (g := F0 m pc ls rest) rfl (by rw [hb]; exact hdg) t a, b⟩
end FsLdc
theorem fs_rg_up {M : fs_M} {r : Nat} {i v : Int} (h : ∀ r i, fs_rg (M r i)) (hv : fs_rg v) : ∀ r' i', fs_rg (fs_up M r i v r' i') := by
  intro r' i'
  unfold fs_up
  split
  · exact hv
  · exact h _ _
theorem fs_upd_eq {cA : ClassId} {M : fs_M} {r : Nat} {i y : Int} (hi : fs_rg i) (h0 : 0 ≤ i) : (.inl (cA, (fs_ln r).toNat, .inl (fun j => Int32.ofInt (fs_up M r i y r (j : Int)))) : va_E) = .inl (cA, (fs_ln r).toNat, .inl (upd (fun j => Int32.ofInt (M r (j : Int))) (Int32.ofInt i).toNatClampNeg (Int32.ofInt y))) := by
  have e : (fun j : Nat => Int32.ofInt (fs_up M r i y r (j : Int))) = upd (fun j : Nat => Int32.ofInt (M r (j : Int))) (Int32.ofInt i).toNatClampNeg (Int32.ofInt y) := by
    funext j
    rw [fs_nn hi]
    by_cases q : j = i.toNat
    · subst q
      rw [pk_us]
      simp [fs_up, Int.toNat_of_nonneg h0]
    · rw [pk_un q]
      unfold fs_up
      rw [if_neg (by omega)]
  rw [e]
theorem fs_ln_rg (r : Nat) : 0 ≤ fs_ln r ∧ fs_ln r ≤ 2000 := by
  have key : ∀ (l : List Int), (∀ x ∈ l, 0 ≤ x ∧ x ≤ 2000) → ∀ k, 0 ≤ l.getD k 0 ∧ l.getD k 0 ≤ 2000 := by
    intro l h k
    rw [List.getD_eq_getElem?_getD]
    cases hk : l[k]? with
    | none => simp
    | some v => exact h v (List.mem_of_getElem? hk)
  unfold fs_ln
  split
  · exact key _ (by decide) _
  · split
    · exact key _ (by decide) _
    · exact key _ (by decide) _
theorem fs_of_lt {r k d : Nat} (h : r < fs_N) (h7 : fs_kd r < 7) (hf : fs_of (fs_kd r) k = some d) (hk : k < fs_n (fs_kd r)) : r + d < fs_N := by
  have key : ∀ r, r < 139 → fs_kd r < 7 → ∀ k, k < fs_n (fs_kd r) → ∀ d, fs_of (fs_kd r) k = some d → r + d < 139 := by
    intro r hr h7 k hk d hd
    have h2 : ∀ r : Fin 139, fs_kd r.val < 7 → ∀ k : Fin 40, (k.val < fs_n (fs_kd r.val) → (fs_of (fs_kd r.val) k.val).all (fun d => decide (r.val + d < 139)) = true) := by decide +kernel
    have h3 : fs_n (fs_kd r) ≤ 40 := by
      have h4 : ∀ r : Fin 139, fs_n (fs_kd r.val) ≤ 40 := by decide +kernel
      exact h4 ⟨r, hr⟩
    have h5 := h2 ⟨r, hr⟩ h7 ⟨k, by omega⟩ hk
    simp only [hd, Option.all_some, decide_eq_true_eq] at h5
    exact h5
  exact key r h h7 k hk d hf
theorem fs_ii_inv {f : Int → Int → List Prop × Int} {L L' : fs_L} {st st' : List fs_V} {M M' : fs_M} {ob : List Prop} (he : fs_ii f L st M = (ob, L', st', M')) (ho : fs_all ob) :
    ∃ a b r, st = .inl b :: .inl a :: r ∧ ob = (f a b).1 ∧ L' = L ∧ st' = .inl (f a b).2 :: r ∧ M' = M := by
  unfold fs_ii at he
  split at he
  · next b a r =>
    simp only [Prod.mk.injEq] at he
    exact ⟨a, b, r, rfl, he.1.symm, he.2.1.symm, he.2.2.1.symm, he.2.2.2.symm⟩
  · simp only [fs_bad, Prod.mk.injEq] at he
    rw [← he.1] at ho
    exact ho.elim
theorem fs_ll_inv {f : Int64 → Int64 → List Prop × fs_V} {L L' : fs_L} {st st' : List fs_V} {M M' : fs_M} {ob : List Prop} (he : fs_ll f L st M = (ob, L', st', M')) (ho : fs_all ob) :
    ∃ a b r, st = .inr (.long b) :: .inr (.long a) :: r ∧ ob = (f a b).1 ∧ L' = L ∧ st' = (f a b).2 :: r ∧ M' = M := by
  unfold fs_ll at he
  split at he
  · next b a r =>
    simp only [Prod.mk.injEq] at he
    exact ⟨a, b, r, rfl, he.1.symm, he.2.1.symm, he.2.2.1.symm, he.2.2.2.symm⟩
  · simp only [fs_bad, Prod.mk.injEq] at he
    rw [← he.1] at ho
    exact ho.elim
theorem fs_ff_inv {f : UInt32 → UInt32 → List Prop × fs_V} {L L' : fs_L} {st st' : List fs_V} {M M' : fs_M} {ob : List Prop} (he : fs_ff f L st M = (ob, L', st', M')) (ho : fs_all ob) :
    ∃ a b r, st = .inr (.float b) :: .inr (.float a) :: r ∧ ob = (f a b).1 ∧ L' = L ∧ st' = (f a b).2 :: r ∧ M' = M := by
  unfold fs_ff at he
  split at he
  · next b a r =>
    simp only [Prod.mk.injEq] at he
    exact ⟨a, b, r, rfl, he.1.symm, he.2.1.symm, he.2.2.1.symm, he.2.2.2.symm⟩
  · simp only [fs_bad, Prod.mk.injEq] at he
    rw [← he.1] at ho
    exact ho.elim
theorem fs_dd_inv {f : UInt64 → UInt64 → List Prop × fs_V} {L L' : fs_L} {st st' : List fs_V} {M M' : fs_M} {ob : List Prop} (he : fs_dd f L st M = (ob, L', st', M')) (ho : fs_all ob) :
    ∃ a b r, st = .inr (.double b) :: .inr (.double a) :: r ∧ ob = (f a b).1 ∧ L' = L ∧ st' = (f a b).2 :: r ∧ M' = M := by
  unfold fs_dd at he
  split at he
  · next b a r =>
    simp only [Prod.mk.injEq] at he
    exact ⟨a, b, r, rfl, he.1.symm, he.2.1.symm, he.2.2.1.symm, he.2.2.2.symm⟩
  · simp only [fs_bad, Prod.mk.injEq] at he
    rw [← he.1] at ho
    exact ho.elim
theorem fs_lod_inv {g : fs_V → Bool} {j : Nat} {L L' : fs_L} {st st' : List fs_V} {M M' : fs_M} {ob : List Prop} (he : fs_lod g j L st M = (ob, L', st', M')) (ho : fs_all ob) :
    ∃ v, fs_get L j = some v ∧ g v = true ∧ L' = L ∧ st' = v :: st ∧ M' = M := by
  unfold fs_lod at he
  split at he
  · next v hv =>
    split at he
    · next hg =>
      simp only [Prod.mk.injEq] at he
      exact ⟨v, hv, hg, he.2.1.symm, he.2.2.1.symm, he.2.2.2.symm⟩
    · simp only [fs_bad, Prod.mk.injEq] at he
      rw [← he.1] at ho
      exact ho.elim
  · simp only [fs_bad, Prod.mk.injEq] at he
    rw [← he.1] at ho
    exact ho.elim
theorem fs_s1_inv {g : fs_V → Bool} {j : Nat} {L L' : fs_L} {st st' : List fs_V} {M M' : fs_M} {ob : List Prop} (he : fs_s1 g j L st M = (ob, L', st', M')) (ho : fs_all ob) :
    ∃ v r, st = v :: r ∧ g v = true ∧ j < L.length ∧ L' = fs_sto L j v ∧ st' = r ∧ M' = M := by
  unfold fs_s1 at he
  split at he
  · next v r =>
    split at he
    · next hg =>
      simp only [Prod.mk.injEq] at he
      rw [← he.1] at ho
      exact ⟨v, r, rfl, hg, ho, he.2.1.symm, he.2.2.1.symm, he.2.2.2.symm⟩
    · simp only [fs_bad, Prod.mk.injEq] at he
      rw [← he.1] at ho
      exact ho.elim
  · simp only [fs_bad, Prod.mk.injEq] at he
    rw [← he.1] at ho
    exact ho.elim
theorem fs_s2_inv {g : fs_V → Bool} {j : Nat} {L L' : fs_L} {st st' : List fs_V} {M M' : fs_M} {ob : List Prop} (he : fs_s2 g j L st M = (ob, L', st', M')) (ho : fs_all ob) :
    ∃ v r, st = v :: r ∧ g v = true ∧ j + 1 < L.length ∧ L' = fs_st2 L j v ∧ st' = r ∧ M' = M := by
  unfold fs_s2 at he
  split at he
  · next v r =>
    split at he
    · next hg =>
      simp only [Prod.mk.injEq] at he
      rw [← he.1] at ho
      exact ⟨v, r, rfl, hg, ho, he.2.1.symm, he.2.2.1.symm, he.2.2.2.symm⟩
    · simp only [fs_bad, Prod.mk.injEq] at he
      rw [← he.1] at ho
      exact ho.elim
  · simp only [fs_bad, Prod.mk.injEq] at he
    rw [← he.1] at ho
    exact ho.elim
theorem fs_isi_inv {v : fs_V} (h : fs_isi v = true) : ∃ n, v = .inl n := by
  rcases v with n | v
  · exact ⟨n, rfl⟩
  · cases h
theorem fs_isa_inv {v : fs_V} (h : fs_isa v = true) : ∃ r, v = .inr (.ref r) := by
  rcases v with n | v
  · cases h
  · cases v <;> first | exact ⟨_, rfl⟩ | cases h
theorem fs_isl_inv {v : fs_V} (h : fs_isl v = true) : ∃ r, v = .inr (.long r) := by
  rcases v with n | v
  · cases h
  · cases v <;> first | exact ⟨_, rfl⟩ | cases h
theorem fs_isf_inv {v : fs_V} (h : fs_isf v = true) : ∃ r, v = .inr (.float r) := by
  rcases v with n | v
  · cases h
  · cases v <;> first | exact ⟨_, rfl⟩ | cases h
theorem fs_isd_inv {v : fs_V} (h : fs_isd v = true) : ∃ r, v = .inr (.double r) := by
  rcases v with n | v
  · cases h
  · cases v <;> first | exact ⟨_, rfl⟩ | cases h
def fs_ty (c : Nat) : Nat → FieldType := ([tyX0, tyX1, tyX2, tyX3, tyX4, tyX5, tyX6] : List (Nat → FieldType)).getD c tyX0
theorem fs_tyok : ∀ c, c < 7 → ∀ k, k < fs_n c → parseFieldDescriptor (fs_T c k).2.2.1 = some (fs_ty c k)
  | 0, _ => tyX0_ok
  | 1, _ => tyX1_ok
  | 2, _ => tyX2_ok
  | 3, _ => tyX3_ok
  | 4, _ => tyX4_ok
  | 5, _ => tyX5_ok
  | 6, _ => tyX6_ok
  | c + 7, h => by omega
theorem fs_nmok : ∀ c, c < 7 → ∀ a, a < fs_n c → ∀ b, b < fs_n c → a ≠ b → (fs_T c a).2.1 ≠ (fs_T c b).2.1
  | 0, _ => nmX0
  | 1, _ => nmX1
  | 2, _ => nmX2
  | 3, _ => nmX3
  | 4, _ => nmX4
  | 5, _ => nmX5
  | 6, _ => nmX6
  | c + 7, h => by omega
theorem fs_inok : ∀ c, c < 7 → ∀ w ∈ u_ws (fs_rn c) (fs_T c) (fs_n c), w ∈ fs_good
  | 0, _ => fs_inX0
  | 1, _ => fs_inX1
  | 2, _ => fs_inX2
  | 3, _ => fs_inX3
  | 4, _ => fs_inX4
  | 5, _ => fs_inX5
  | 6, _ => fs_inX6
  | c + 7, h => by omega
theorem fs_clget : ∀ c, c < 7 → vwCl[c]? = some (fs_rn c, fs_T c, fs_n c)
  | 0, _ => rfl
  | 1, _ => rfl
  | 2, _ => rfl
  | 3, _ => rfl
  | 4, _ => rfl
  | 5, _ => rfl
  | 6, _ => rfl
  | c + 7, h => by omega
/-- small constants -/
theorem fs_b8 {n : Int} (h : -128 ≤ n ∧ n ≤ 127) : (Int8.ofInt n).toInt32 = Int32.ofInt n := by
  apply Int32.toInt_inj.mp
  rw [fs_ti ⟨by omega, by omega⟩, Int8.toInt_toInt32, Int8.toInt_ofInt_of_le (by omega) (by omega)]
theorem fs_b16 {n : Int} (h : -32768 ≤ n ∧ n ≤ 32767) : (Int16.ofInt n).toInt32 = Int32.ofInt n := by
  apply Int32.toInt_inj.mp
  rw [fs_ti ⟨by omega, by omega⟩, Int16.toInt_toInt32, Int16.toInt_ofInt_of_le (by omega) (by omega)]
section FsOne
variable {p : Program} {l : Launch} {e : Env} {R : Room} {s : State} {m : MethodId} {args : Array Value} {below : List Frame} {meth : Method} {c : Code} {H : Heap} {locs : List Loc} {cells slots : Nat} {Q : State → Prop}
variable {dC : Nat → ClassId} {dI : Nat → Nat → Nat} {o b Ln : Nat} {xs : Nat → Int32} {sa : Nat → Nat} {cA cB : ClassId} {cc : ByteArray} {own : String}
set_option maxHeartbeats 4000000 in
theorem fs_one (hx : p.tables.exec = Jvm.exec) (hb : c.code = cc) (hown : s.vm.findClass own = some m.cls) (hts : ∀ w ∈ fs_good, w.before args s = true) (hK : va_K (dC, dI) vwCl [(cA, .int), (cB, .object "FireSale$Book")] s)
    (hstr : ∀ q ∈ fs_strs, vk_R q.1 q.2.1 (fs_txt.getD q.2.2 "") (sa q.2.2) s) (hsc : own = "FireSaleLaw" → va_X b Ln xs s s.heap ∧ b < s.heap.size ∧ b < o ∧ Ln < 2 ^ 31)
    {q : fs_I} {pc : Nat} {L L' : fs_L} {st st' : List fs_V} {M M' : fs_M} {ob : List Prop} {ls : Array Slot} {nL : Nat}
    (hck : fs_cki own cc pc q = true) (he : fs_st q L st M = (ob, L', st', M')) (ho : fs_all ob)
    (hM9 : own = "FireSaleLaw" → M 999 (-1) = Ln ∧ ∀ j : Nat, j < Ln → M 999 j = (xs j).toInt)
    (hP : va_P (dC, dI) vwCl (fs_ws o cA cB M) H) (hS : va_S (fun q => o ≤ q) s.heap H locs) (hl : fs_LR (fs_ad o b sa) ls nL L) (hR : fs_Rg M L st)
    (kk : ∀ (H' : Heap) (locs' : List Loc) (ls' : Array Slot), va_P (dC, dI) vwCl (fs_ws o cA cB M') H' → va_S (fun q => o ≤ q) s.heap H' locs' → fs_LR (fs_ad o b sa) ls' nL L' → fs_Rg M' L' st' → M' 999 = M 999 → W p l e R s m args below meth c H' locs' cells slots Q (F0 m (pc + q.2.1) ls' (st'.map (fs_tv (fs_ad o b sa))))) :
    W p l e R s m args below meth c H locs cells slots Q (F0 m pc ls (st.map (fs_tv (fs_ad o b sa)))) := by
  obtain ⟨i, n, x1, x2, x3⟩ := q
  have hc0 := hck
  simp only [fs_cki, Bool.and_eq_true, decide_eq_true_eq] at hc0
  obtain ⟨hd, hn, hk⟩ := hc0
  clear hck
  cases i
  case iadd =>
    replace he : fs_ii (fun a b => ([fs_rg (a + b)], a + b)) L st M = (ob, L', st', M') := he
    obtain ⟨y1, y2, r, rfl, hob, rfl, rfl, rfl⟩ := fs_ii_inv he ho
    rw [hob] at ho
    replace hn : n = 1 := hn
    subst hn
    have r1 : fs_rg y1 := hR.2.2 (.inl y1) (by simp)
    have r2 : fs_rg y2 := hR.2.2 (.inl y2) (by simp)
    change W p l e R s m args below meth c H locs cells slots Q (F0 m pc ls (.int (Int32.ofInt y2) :: .int (Int32.ofInt y1) :: r.map (fs_tv (fs_ad o b sa))))
    refine lv_iadd hx hb hd ?_
    rw [← Int32.ofInt_add]
    exact kk H locs ls hP hS hl ⟨hR.1, hR.2.1, fun v hv => by rcases List.mem_cons.mp hv with rfl | hv; exact ho; exact hR.2.2 v (by simp [hv])⟩ rfl
  case isub =>
    replace he : fs_ii (fun a b => ([fs_rg (a - b)], a - b)) L st M = (ob, L', st', M') := he
    obtain ⟨y1, y2, r, rfl, hob, rfl, rfl, rfl⟩ := fs_ii_inv he ho
    rw [hob] at ho
    replace hn : n = 1 := hn
    subst hn
    have r1 : fs_rg y1 := hR.2.2 (.inl y1) (by simp)
    have r2 : fs_rg y2 := hR.2.2 (.inl y2) (by simp)
    change W p l e R s m args below meth c H locs cells slots Q (F0 m pc ls (.int (Int32.ofInt y2) :: .int (Int32.ofInt y1) :: r.map (fs_tv (fs_ad o b sa))))
    refine lv_isub hx hb hd ?_
    rw [← Int32.ofInt_sub]
    exact kk H locs ls hP hS hl ⟨hR.1, hR.2.1, fun v hv => by rcases List.mem_cons.mp hv with rfl | hv; exact ho; exact hR.2.2 v (by simp [hv])⟩ rfl
  case imul =>
    replace he : fs_ii (fun a b => ([fs_rg (a * b)], a * b)) L st M = (ob, L', st', M') := he
    obtain ⟨y1, y2, r, rfl, hob, rfl, rfl, rfl⟩ := fs_ii_inv he ho
    rw [hob] at ho
    replace hn : n = 1 := hn
    subst hn
    have r1 : fs_rg y1 := hR.2.2 (.inl y1) (by simp)
    have r2 : fs_rg y2 := hR.2.2 (.inl y2) (by simp)
    change W p l e R s m args below meth c H locs cells slots Q (F0 m pc ls (.int (Int32.ofInt y2) :: .int (Int32.ofInt y1) :: r.map (fs_tv (fs_ad o b sa))))
    refine lv_imul hx hb hd ?_
    rw [← Int32.ofInt_mul]
    exact kk H locs ls hP hS hl ⟨hR.1, hR.2.1, fun v hv => by rcases List.mem_cons.mp hv with rfl | hv; exact ho; exact hR.2.2 v (by simp [hv])⟩ rfl
  case idiv =>
    replace he : fs_ii (fun a b => ([0 ≤ a, 0 < b], a / b)) L st M = (ob, L', st', M') := he
    obtain ⟨y1, y2, r, rfl, hob, rfl, rfl, rfl⟩ := fs_ii_inv he ho
    rw [hob] at ho
    replace hn : n = 1 := hn
    subst hn
    have r1 : fs_rg y1 := hR.2.2 (.inl y1) (by simp)
    have r2 : fs_rg y2 := hR.2.2 (.inl y2) (by simp)
    change W p l e R s m args below meth c H locs cells slots Q (F0 m pc ls (.int (Int32.ofInt y2) :: .int (Int32.ofInt y1) :: r.map (fs_tv (fs_ad o b sa))))
    refine lv_idiv hx hb hd (fs_ne0 r2 ho.2) ?_
    rw [← fs_div r1 r2 ho.1 ho.2]
    exact kk H locs ls hP hS hl ⟨hR.1, hR.2.1, fun v hv => by rcases List.mem_cons.mp hv with rfl | hv; exact fs_rg_div r1 ho.1 ho.2; exact hR.2.2 v (by simp [hv])⟩ rfl
  case irem =>
    replace he : fs_ii (fun a b => ([0 ≤ a, 0 < b], a % b)) L st M = (ob, L', st', M') := he
    obtain ⟨y1, y2, r, rfl, hob, rfl, rfl, rfl⟩ := fs_ii_inv he ho
    rw [hob] at ho
    replace hn : n = 1 := hn
    subst hn
    have r1 : fs_rg y1 := hR.2.2 (.inl y1) (by simp)
    have r2 : fs_rg y2 := hR.2.2 (.inl y2) (by simp)
    change W p l e R s m args below meth c H locs cells slots Q (F0 m pc ls (.int (Int32.ofInt y2) :: .int (Int32.ofInt y1) :: r.map (fs_tv (fs_ad o b sa))))
    refine lv_irem hx hb hd (fs_ne0 r2 ho.2) ?_
    rw [← fs_mod r1 r2 ho.1 ho.2]
    exact kk H locs ls hP hS hl ⟨hR.1, hR.2.1, fun v hv => by rcases List.mem_cons.mp hv with rfl | hv; exact fs_rg_mod r2 ho.2; exact hR.2.2 v (by simp [hv])⟩ rfl
  case iand =>
    replace he : fs_ii (fun a b => ([], fs_and a b)) L st M = (ob, L', st', M') := he
    obtain ⟨y1, y2, r, rfl, hob, rfl, rfl, rfl⟩ := fs_ii_inv he ho
    rw [hob] at ho
    replace hn : n = 1 := hn
    subst hn
    have r1 : fs_rg y1 := hR.2.2 (.inl y1) (by simp)
    have r2 : fs_rg y2 := hR.2.2 (.inl y2) (by simp)
    change W p l e R s m args below meth c H locs cells slots Q (F0 m pc ls (.int (Int32.ofInt y2) :: .int (Int32.ofInt y1) :: r.map (fs_tv (fs_ad o b sa))))
    refine lv_iand hx hb hd ?_
    rw [← fs_i32_of (fun x y => x &&& y) y1 y2]
    exact kk H locs ls hP hS hl ⟨hR.1, hR.2.1, fun v hv => by rcases List.mem_cons.mp hv with rfl | hv; exact fs_rg_ti _; exact hR.2.2 v (by simp [hv])⟩ rfl
  case ior =>
    replace he : fs_ii (fun a b => ([], fs_or a b)) L st M = (ob, L', st', M') := he
    obtain ⟨y1, y2, r, rfl, hob, rfl, rfl, rfl⟩ := fs_ii_inv he ho
    rw [hob] at ho
    replace hn : n = 1 := hn
    subst hn
    have r1 : fs_rg y1 := hR.2.2 (.inl y1) (by simp)
    have r2 : fs_rg y2 := hR.2.2 (.inl y2) (by simp)
    change W p l e R s m args below meth c H locs cells slots Q (F0 m pc ls (.int (Int32.ofInt y2) :: .int (Int32.ofInt y1) :: r.map (fs_tv (fs_ad o b sa))))
    refine lv_ior hx hb hd ?_
    rw [← fs_i32_of (fun x y => x ||| y) y1 y2]
    exact kk H locs ls hP hS hl ⟨hR.1, hR.2.1, fun v hv => by rcases List.mem_cons.mp hv with rfl | hv; exact fs_rg_ti _; exact hR.2.2 v (by simp [hv])⟩ rfl
  case ixor =>
    replace he : fs_ii (fun a b => ([], fs_xor a b)) L st M = (ob, L', st', M') := he
    obtain ⟨y1, y2, r, rfl, hob, rfl, rfl, rfl⟩ := fs_ii_inv he ho
    rw [hob] at ho
    replace hn : n = 1 := hn
    subst hn
    have r1 : fs_rg y1 := hR.2.2 (.inl y1) (by simp)
    have r2 : fs_rg y2 := hR.2.2 (.inl y2) (by simp)
    change W p l e R s m args below meth c H locs cells slots Q (F0 m pc ls (.int (Int32.ofInt y2) :: .int (Int32.ofInt y1) :: r.map (fs_tv (fs_ad o b sa))))
    refine lv_ixor hx hb hd ?_
    rw [← fs_i32_of (fun x y => x ^^^ y) y1 y2]
    exact kk H locs ls hP hS hl ⟨hR.1, hR.2.1, fun v hv => by rcases List.mem_cons.mp hv with rfl | hv; exact fs_rg_ti _; exact hR.2.2 v (by simp [hv])⟩ rfl
  case ishl =>
    replace he : fs_ii (fun a b => ([], fs_shl a b)) L st M = (ob, L', st', M') := he
    obtain ⟨y1, y2, r, rfl, hob, rfl, rfl, rfl⟩ := fs_ii_inv he ho
    rw [hob] at ho
    replace hn : n = 1 := hn
    subst hn
    have r1 : fs_rg y1 := hR.2.2 (.inl y1) (by simp)
    have r2 : fs_rg y2 := hR.2.2 (.inl y2) (by simp)
    change W p l e R s m args below meth c H locs cells slots Q (F0 m pc ls (.int (Int32.ofInt y2) :: .int (Int32.ofInt y1) :: r.map (fs_tv (fs_ad o b sa))))
    refine lv_ishl hx hb hd ?_
    rw [← fs_i32_of (fun x y => x <<< (y &&& 31)) y1 y2]
    exact kk H locs ls hP hS hl ⟨hR.1, hR.2.1, fun v hv => by rcases List.mem_cons.mp hv with rfl | hv; exact fs_rg_ti _; exact hR.2.2 v (by simp [hv])⟩ rfl
  case ishr =>
    replace he : fs_ii (fun a b => ([], fs_shr a b)) L st M = (ob, L', st', M') := he
    obtain ⟨y1, y2, r, rfl, hob, rfl, rfl, rfl⟩ := fs_ii_inv he ho
    rw [hob] at ho
    replace hn : n = 1 := hn
    subst hn
    have r1 : fs_rg y1 := hR.2.2 (.inl y1) (by simp)
    have r2 : fs_rg y2 := hR.2.2 (.inl y2) (by simp)
    change W p l e R s m args below meth c H locs cells slots Q (F0 m pc ls (.int (Int32.ofInt y2) :: .int (Int32.ofInt y1) :: r.map (fs_tv (fs_ad o b sa))))
    refine lv_ishr hx hb hd ?_
    rw [← fs_i32_of (fun x y => x >>> (y &&& 31)) y1 y2]
    exact kk H locs ls hP hS hl ⟨hR.1, hR.2.1, fun v hv => by rcases List.mem_cons.mp hv with rfl | hv; exact fs_rg_ti _; exact hR.2.2 v (by simp [hv])⟩ rfl
  case iushr =>
    replace he : fs_ii (fun a b => ([], fs_ushr a b)) L st M = (ob, L', st', M') := he
    obtain ⟨y1, y2, r, rfl, hob, rfl, rfl, rfl⟩ := fs_ii_inv he ho
    rw [hob] at ho
    replace hn : n = 1 := hn
    subst hn
    have r1 : fs_rg y1 := hR.2.2 (.inl y1) (by simp)
    have r2 : fs_rg y2 := hR.2.2 (.inl y2) (by simp)
    change W p l e R s m args below meth c H locs cells slots Q (F0 m pc ls (.int (Int32.ofInt y2) :: .int (Int32.ofInt y1) :: r.map (fs_tv (fs_ad o b sa))))
    refine lv_iushr hx hb hd (fs_i32_of (fun x y => (x.toUInt32 >>> (y.toUInt32 &&& Int32.toUInt32 31)).toInt32) y1 y2).symm ?_
    exact kk H locs ls hP hS hl ⟨hR.1, hR.2.1, fun v hv => by rcases List.mem_cons.mp hv with rfl | hv; exact fs_rg_ti _; exact hR.2.2 v (by simp [hv])⟩ rfl
  case ineg =>
    replace he : (match (generalizing := false) st with | .inl a :: r => (([fs_rg (-a)], L, .inl (-a) :: r, M) : fs_R) | _ => fs_bad L st M) = (ob, L', st', M') := he
    split at he
    · next a r =>
      simp only [Prod.mk.injEq] at he
      obtain ⟨rfl, rfl, rfl, rfl⟩ := he
      replace hn : n = 1 := hn
      subst hn
      change W p l e R s m args below meth c H locs cells slots Q (F0 m pc ls (.int (Int32.ofInt a) :: r.map (fs_tv (fs_ad o b sa))))
      refine lv_ineg hx hb hd ?_
      rw [← Int32.ofInt_neg]
      exact kk H locs ls hP hS hl ⟨hR.1, hR.2.1, fun v hv => by rcases List.mem_cons.mp hv with rfl | hv; exact ho; exact hR.2.2 v (by simp [hv])⟩ rfl
    · simp only [fs_bad, Prod.mk.injEq] at he
      rw [← he.1] at ho
      exact ho.elim
  case iconst k =>
    replace hk : decide (-1 ≤ k ∧ k ≤ 5) = true := hk
    simp only [decide_eq_true_eq] at hk
    replace he : (([], L, .inl k :: st, M) : fs_R) = (ob, L', st', M') := he
    simp only [Prod.mk.injEq] at he
    obtain ⟨rfl, rfl, rfl, rfl⟩ := he
    replace hn : n = 1 := hn
    subst hn
    refine lv_iconst hx hb hd rfl ?_
    exact kk H locs ls hP hS hl ⟨hR.1, hR.2.1, fun v hv => by rcases List.mem_cons.mp hv with rfl | hv; exact ⟨by omega, by omega⟩; exact hR.2.2 v hv⟩ rfl
  case bipush k =>
    replace hk : decide (-128 ≤ k ∧ k ≤ 127) = true := hk
    simp only [decide_eq_true_eq] at hk
    replace he : (([], L, .inl k :: st, M) : fs_R) = (ob, L', st', M') := he
    simp only [Prod.mk.injEq] at he
    obtain ⟨rfl, rfl, rfl, rfl⟩ := he
    replace hn : n = 2 := hn
    subst hn
    refine lv_bipush hx hb hd (fs_b8 hk) ?_
    exact kk H locs ls hP hS hl ⟨hR.1, hR.2.1, fun v hv => by rcases List.mem_cons.mp hv with rfl | hv; exact ⟨by omega, by omega⟩; exact hR.2.2 v hv⟩ rfl
  case sipush k =>
    replace hk : decide (-32768 ≤ k ∧ k ≤ 32767) = true := hk
    simp only [decide_eq_true_eq] at hk
    replace he : (([], L, .inl k :: st, M) : fs_R) = (ob, L', st', M') := he
    simp only [Prod.mk.injEq] at he
    obtain ⟨rfl, rfl, rfl, rfl⟩ := he
    replace hn : n = 3 := hn
    subst hn
    refine lv_sipush hx hb hd (fs_b16 hk) ?_
    exact kk H locs ls hP hS hl ⟨hR.1, hR.2.1, fun v hv => by rcases List.mem_cons.mp hv with rfl | hv; exact ⟨by omega, by omega⟩; exact hR.2.2 v hv⟩ rfl
  case ldc idx =>
    replace hn : n = 2 := hn
    subst hn
    rcases x1 with _ | _ | x1
    · replace he : (([], L, .inl x2 :: st, M) : fs_R) = (ob, L', st', M') := he
      replace hk : (fs_ok (.constant own idx (Int32.ofInt x2)) x3 && fs_rgb x2) = true := hk
      simp only [Prod.mk.injEq] at he
      obtain ⟨rfl, rfl, rfl, rfl⟩ := he
      simp only [Bool.and_eq_true, fs_rgb, decide_eq_true_eq] at hk
      refine lv_ldc hx hb hown (hts _ (fs_ok_mem hk.1)) hd ?_
      exact kk H locs ls hP hS hl ⟨hR.1, hR.2.1, fun v hv => by rcases List.mem_cons.mp hv with rfl | hv; exact hk.2; exact hR.2.2 v hv⟩ rfl
    · replace he : (([], L, .inr (.float (UInt32.ofNat x2.toNat)) :: st, M) : fs_R) = (ob, L', st', M') := he
      replace hk : fs_ok (.constantFloat own idx (UInt32.ofNat x2.toNat)) x3 = true := hk
      simp only [Prod.mk.injEq] at he
      obtain ⟨rfl, rfl, rfl, rfl⟩ := he
      refine lv_ldcf hx hb hown (hts _ (fs_ok_mem hk)) hd ?_
      exact kk H locs ls hP hS hl ⟨hR.1, hR.2.1, fun v hv => by rcases List.mem_cons.mp hv with rfl | hv; exact trivial; exact hR.2.2 v hv⟩ rfl
    · replace he : (([], L, .inr (.ref x2.toNat) :: st, M) : fs_R) = (ob, L', st', M') := he
      simp only [Prod.mk.injEq] at he
      obtain ⟨rfl, rfl, rfl, rfl⟩ := he
      replace hk : (decide (1000 ≤ x2 ∧ x2 < 1005) && decide (fs_strs[x3]? = some (own, idx, x2.toNat - 1000))) = true := hk
      simp only [Bool.and_eq_true, decide_eq_true_eq] at hk
      have h9 := hstr _ (List.mem_of_getElem? hk.2)
      refine va_ldcS hx hb hown h9 hd ?_
      have e1 : fs_ad o b sa x2.toNat = sa (x2.toNat - 1000) := by
        unfold fs_ad fs_N
        rw [if_neg (by omega), if_neg (by omega)]
      have k2 := kk H locs ls hP hS hl ⟨hR.1, hR.2.1, fun v hv => by rcases List.mem_cons.mp hv with rfl | hv; exact trivial; exact hR.2.2 v hv⟩ rfl
      change W p l e R s m args below meth c H locs cells slots Q (F0 m (pc + 2) ls (.ref (fs_ad o b sa x2.toNat) :: st.map (fs_tv (fs_ad o b sa)))) at k2
      rw [e1] at k2
      exact k2
  case ldc_w idx =>
    replace hn : n = 3 := hn
    subst hn
    rcases x1 with _ | _ | x1
    · replace he : (([], L, .inl x2 :: st, M) : fs_R) = (ob, L', st', M') := he
      replace hk : (fs_ok (.constant own idx (Int32.ofInt x2)) x3 && fs_rgb x2) = true := hk
      simp only [Prod.mk.injEq] at he
      obtain ⟨rfl, rfl, rfl, rfl⟩ := he
      simp only [Bool.and_eq_true, fs_rgb, decide_eq_true_eq] at hk
      refine lv_ldcw hx hb hown (hts _ (fs_ok_mem hk.1)) hd ?_
      exact kk H locs ls hP hS hl ⟨hR.1, hR.2.1, fun v hv => by rcases List.mem_cons.mp hv with rfl | hv; exact hk.2; exact hR.2.2 v hv⟩ rfl
    · replace he : (([], L, .inr (.float (UInt32.ofNat x2.toNat)) :: st, M) : fs_R) = (ob, L', st', M') := he
      replace hk : fs_ok (.constantFloat own idx (UInt32.ofNat x2.toNat)) x3 = true := hk
      simp only [Prod.mk.injEq] at he
      obtain ⟨rfl, rfl, rfl, rfl⟩ := he
      refine fs_ldcwf hx hb hown (hts _ (fs_ok_mem hk)) hd ?_
      exact kk H locs ls hP hS hl ⟨hR.1, hR.2.1, fun v hv => by rcases List.mem_cons.mp hv with rfl | hv; exact trivial; exact hR.2.2 v hv⟩ rfl
    · replace he : (([], L, .inr (.ref x2.toNat) :: st, M) : fs_R) = (ob, L', st', M') := he
      simp only [Prod.mk.injEq] at he
      obtain ⟨rfl, rfl, rfl, rfl⟩ := he
      replace hk : false = true := hk
      cases hk
  case ldc2_w idx =>
    replace hn : n = 3 := hn
    subst hn
    rcases x1 with _ | x1
    · replace he : (([], L, .inr (.long (Int64.ofInt x2)) :: st, M) : fs_R) = (ob, L', st', M') := he
      replace hk : fs_ok (.constantLong own idx (Int64.ofInt x2)) x3 = true := hk
      simp only [Prod.mk.injEq] at he
      obtain ⟨rfl, rfl, rfl, rfl⟩ := he
      refine lv_ldc2 hx hb hown (hts _ (fs_ok_mem hk)) hd ?_
      exact kk H locs ls hP hS hl ⟨hR.1, hR.2.1, fun v hv => by rcases List.mem_cons.mp hv with rfl | hv; exact trivial; exact hR.2.2 v hv⟩ rfl
    · replace he : (([], L, .inr (.double (UInt64.ofNat x2.toNat)) :: st, M) : fs_R) = (ob, L', st', M') := he
      replace hk : fs_ok (.constantDouble own idx (UInt64.ofNat x2.toNat)) x3 = true := hk
      simp only [Prod.mk.injEq] at he
      obtain ⟨rfl, rfl, rfl, rfl⟩ := he
      refine lv_ldc2d hx hb hown (hts _ (fs_ok_mem hk)) hd ?_
      exact kk H locs ls hP hS hl ⟨hR.1, hR.2.1, fun v hv => by rcases List.mem_cons.mp hv with rfl | hv; exact trivial; exact hR.2.2 v hv⟩ rfl
  case iload_n k =>
    replace he : fs_lod fs_isi k.val L st M = (ob, L', st', M') := he
    obtain ⟨v, hg, hv, rfl, rfl, rfl⟩ := fs_lod_inv he ho
    replace hn : n = 1 := hn
    subst hn
    obtain ⟨y, rfl⟩ := fs_isi_inv hv
    have h9 := fs_LR_at hl hg
    refine lv_iload_n hx hb hd rfl h9.1 ?_
    exact kk H locs ls hP hS hl ⟨hR.1, hR.2.1, fun v hv => by rcases List.mem_cons.mp hv with rfl | hv; exact hR.2.1 _ _ h9.2; exact hR.2.2 v hv⟩ rfl
  case iload k =>
    replace he : fs_lod fs_isi k L st M = (ob, L', st', M') := he
    obtain ⟨v, hg, hv, rfl, rfl, rfl⟩ := fs_lod_inv he ho
    replace hn : n = 2 := hn
    subst hn
    obtain ⟨y, rfl⟩ := fs_isi_inv hv
    have h9 := fs_LR_at hl hg
    refine lv_iload hx hb hd h9.1 ?_
    exact kk H locs ls hP hS hl ⟨hR.1, hR.2.1, fun v hv => by rcases List.mem_cons.mp hv with rfl | hv; exact hR.2.1 _ _ h9.2; exact hR.2.2 v hv⟩ rfl
  case aload_n k =>
    replace he : fs_lod fs_isa k.val L st M = (ob, L', st', M') := he
    obtain ⟨v, hg, hv, rfl, rfl, rfl⟩ := fs_lod_inv he ho
    replace hn : n = 1 := hn
    subst hn
    obtain ⟨y, rfl⟩ := fs_isa_inv hv
    have h9 := fs_LR_at hl hg
    refine lv_aload_n hx hb hd rfl h9.1 ?_
    exact kk H locs ls hP hS hl ⟨hR.1, hR.2.1, fun v hv => by rcases List.mem_cons.mp hv with rfl | hv; exact hR.2.1 _ _ h9.2; exact hR.2.2 v hv⟩ rfl
  case aload k =>
    replace he : fs_lod fs_isa k L st M = (ob, L', st', M') := he
    obtain ⟨v, hg, hv, rfl, rfl, rfl⟩ := fs_lod_inv he ho
    replace hn : n = 2 := hn
    subst hn
    obtain ⟨y, rfl⟩ := fs_isa_inv hv
    have h9 := fs_LR_at hl hg
    refine lv_aload hx hb hd h9.1 ?_
    exact kk H locs ls hP hS hl ⟨hR.1, hR.2.1, fun v hv => by rcases List.mem_cons.mp hv with rfl | hv; exact hR.2.1 _ _ h9.2; exact hR.2.2 v hv⟩ rfl
  case lload_n k =>
    replace he : fs_lod fs_isl k.val L st M = (ob, L', st', M') := he
    obtain ⟨v, hg, hv, rfl, rfl, rfl⟩ := fs_lod_inv he ho
    replace hn : n = 1 := hn
    subst hn
    obtain ⟨y, rfl⟩ := fs_isl_inv hv
    have h9 := fs_LR_at hl hg
    refine lv_lload_n hx hb hd rfl h9.1 ?_
    exact kk H locs ls hP hS hl ⟨hR.1, hR.2.1, fun v hv => by rcases List.mem_cons.mp hv with rfl | hv; exact hR.2.1 _ _ h9.2; exact hR.2.2 v hv⟩ rfl
  case lload k =>
    replace he : fs_lod fs_isl k L st M = (ob, L', st', M') := he
    obtain ⟨v, hg, hv, rfl, rfl, rfl⟩ := fs_lod_inv he ho
    replace hn : n = 2 := hn
    subst hn
    obtain ⟨y, rfl⟩ := fs_isl_inv hv
    have h9 := fs_LR_at hl hg
    refine lv_lload hx hb hd h9.1 ?_
    exact kk H locs ls hP hS hl ⟨hR.1, hR.2.1, fun v hv => by rcases List.mem_cons.mp hv with rfl | hv; exact hR.2.1 _ _ h9.2; exact hR.2.2 v hv⟩ rfl
  case fload_n k =>
    replace he : fs_lod fs_isf k.val L st M = (ob, L', st', M') := he
    obtain ⟨v, hg, hv, rfl, rfl, rfl⟩ := fs_lod_inv he ho
    replace hn : n = 1 := hn
    subst hn
    obtain ⟨y, rfl⟩ := fs_isf_inv hv
    have h9 := fs_LR_at hl hg
    refine lv_fload_n hx hb hd rfl h9.1 ?_
    exact kk H locs ls hP hS hl ⟨hR.1, hR.2.1, fun v hv => by rcases List.mem_cons.mp hv with rfl | hv; exact hR.2.1 _ _ h9.2; exact hR.2.2 v hv⟩ rfl
  case fload k =>
    replace he : fs_lod fs_isf k L st M = (ob, L', st', M') := he
    obtain ⟨v, hg, hv, rfl, rfl, rfl⟩ := fs_lod_inv he ho
    replace hn : n = 2 := hn
    subst hn
    obtain ⟨y, rfl⟩ := fs_isf_inv hv
    have h9 := fs_LR_at hl hg
    refine lv_fload hx hb hd h9.1 ?_
    exact kk H locs ls hP hS hl ⟨hR.1, hR.2.1, fun v hv => by rcases List.mem_cons.mp hv with rfl | hv; exact hR.2.1 _ _ h9.2; exact hR.2.2 v hv⟩ rfl
  case dload_n k =>
    replace he : fs_lod fs_isd k.val L st M = (ob, L', st', M') := he
    obtain ⟨v, hg, hv, rfl, rfl, rfl⟩ := fs_lod_inv he ho
    replace hn : n = 1 := hn
    subst hn
    obtain ⟨y, rfl⟩ := fs_isd_inv hv
    have h9 := fs_LR_at hl hg
    refine lv_dload_n hx hb hd rfl h9.1 ?_
    exact kk H locs ls hP hS hl ⟨hR.1, hR.2.1, fun v hv => by rcases List.mem_cons.mp hv with rfl | hv; exact hR.2.1 _ _ h9.2; exact hR.2.2 v hv⟩ rfl
  case dload k =>
    replace he : fs_lod fs_isd k L st M = (ob, L', st', M') := he
    obtain ⟨v, hg, hv, rfl, rfl, rfl⟩ := fs_lod_inv he ho
    replace hn : n = 2 := hn
    subst hn
    obtain ⟨y, rfl⟩ := fs_isd_inv hv
    have h9 := fs_LR_at hl hg
    refine lv_dload hx hb hd h9.1 ?_
    exact kk H locs ls hP hS hl ⟨hR.1, hR.2.1, fun v hv => by rcases List.mem_cons.mp hv with rfl | hv; exact hR.2.1 _ _ h9.2; exact hR.2.2 v hv⟩ rfl
  case istore_n k =>
    replace he : fs_s1 fs_isi k.val L st M = (ob, L', st', M') := he
    obtain ⟨v, r, rfl, hv, hj, rfl, rfl, rfl⟩ := fs_s1_inv he ho
    replace hn : n = 1 := hn
    subst hn
    obtain ⟨y, rfl⟩ := fs_isi_inv hv
    have r1 := hR.2.2 _ List.mem_cons_self
    obtain ⟨h5, lv, h6, h7⟩ := hl
    refine lv_istore_n hx hb hd rfl h6 (by omega) rfl (fun ls' h8 => ?_)
    exact kk H locs ls' hP hS (fs_LR_s1 h5 h7 h8) ⟨hR.1, fs_vr_s1 hR.2.1 r1, fun v hv => hR.2.2 v (List.mem_cons_of_mem _ hv)⟩ rfl
  case istore k =>
    replace he : fs_s1 fs_isi k L st M = (ob, L', st', M') := he
    obtain ⟨v, r, rfl, hv, hj, rfl, rfl, rfl⟩ := fs_s1_inv he ho
    replace hn : n = 2 := hn
    subst hn
    obtain ⟨y, rfl⟩ := fs_isi_inv hv
    have r1 := hR.2.2 _ List.mem_cons_self
    obtain ⟨h5, lv, h6, h7⟩ := hl
    refine lv_istore hx hb hd h6 (by omega) rfl (fun ls' h8 => ?_)
    exact kk H locs ls' hP hS (fs_LR_s1 h5 h7 h8) ⟨hR.1, fs_vr_s1 hR.2.1 r1, fun v hv => hR.2.2 v (List.mem_cons_of_mem _ hv)⟩ rfl
  case astore_n k =>
    replace he : fs_s1 fs_isa k.val L st M = (ob, L', st', M') := he
    obtain ⟨v, r, rfl, hv, hj, rfl, rfl, rfl⟩ := fs_s1_inv he ho
    replace hn : n = 1 := hn
    subst hn
    obtain ⟨y, rfl⟩ := fs_isa_inv hv
    have r1 := hR.2.2 _ List.mem_cons_self
    obtain ⟨h5, lv, h6, h7⟩ := hl
    refine lv_astore_n hx hb hd rfl h6 (by omega) rfl (fun ls' h8 => ?_)
    exact kk H locs ls' hP hS (fs_LR_s1 h5 h7 h8) ⟨hR.1, fs_vr_s1 hR.2.1 r1, fun v hv => hR.2.2 v (List.mem_cons_of_mem _ hv)⟩ rfl
  case fstore_n k =>
    replace he : fs_s1 fs_isf k.val L st M = (ob, L', st', M') := he
    obtain ⟨v, r, rfl, hv, hj, rfl, rfl, rfl⟩ := fs_s1_inv he ho
    replace hn : n = 1 := hn
    subst hn
    obtain ⟨y, rfl⟩ := fs_isf_inv hv
    have r1 := hR.2.2 _ List.mem_cons_self
    obtain ⟨h5, lv, h6, h7⟩ := hl
    refine lv_fstore_n hx hb hd rfl h6 (by omega) rfl (fun ls' h8 => ?_)
    exact kk H locs ls' hP hS (fs_LR_s1 h5 h7 h8) ⟨hR.1, fs_vr_s1 hR.2.1 r1, fun v hv => hR.2.2 v (List.mem_cons_of_mem _ hv)⟩ rfl
  case fstore k =>
    replace he : fs_s1 fs_isf k L st M = (ob, L', st', M') := he
    obtain ⟨v, r, rfl, hv, hj, rfl, rfl, rfl⟩ := fs_s1_inv he ho
    replace hn : n = 2 := hn
    subst hn
    obtain ⟨y, rfl⟩ := fs_isf_inv hv
    have r1 := hR.2.2 _ List.mem_cons_self
    obtain ⟨h5, lv, h6, h7⟩ := hl
    refine lv_fstore hx hb hd h6 (by omega) rfl (fun ls' h8 => ?_)
    exact kk H locs ls' hP hS (fs_LR_s1 h5 h7 h8) ⟨hR.1, fs_vr_s1 hR.2.1 r1, fun v hv => hR.2.2 v (List.mem_cons_of_mem _ hv)⟩ rfl
  case lstore_n k =>
    replace he : fs_s2 fs_isl k.val L st M = (ob, L', st', M') := he
    obtain ⟨v, r, rfl, hv, hj, rfl, rfl, rfl⟩ := fs_s2_inv he ho
    replace hn : n = 1 := hn
    subst hn
    obtain ⟨y, rfl⟩ := fs_isl_inv hv
    have r1 := hR.2.2 _ List.mem_cons_self
    obtain ⟨h5, lv, h6, h7⟩ := hl
    refine lv_lstore_n hx hb hd rfl h6 (by omega) rfl (fun ls' h8 => ?_)
    exact kk H locs ls' hP hS (fs_LR_s2 h5 h7 h8) ⟨hR.1, fs_vr_s2 hR.2.1 r1, fun v hv => hR.2.2 v (List.mem_cons_of_mem _ hv)⟩ rfl
  case lstore k =>
    replace he : fs_s2 fs_isl k L st M = (ob, L', st', M') := he
    obtain ⟨v, r, rfl, hv, hj, rfl, rfl, rfl⟩ := fs_s2_inv he ho
    replace hn : n = 2 := hn
    subst hn
    obtain ⟨y, rfl⟩ := fs_isl_inv hv
    have r1 := hR.2.2 _ List.mem_cons_self
    obtain ⟨h5, lv, h6, h7⟩ := hl
    refine lv_lstore hx hb hd h6 (by omega) rfl (fun ls' h8 => ?_)
    exact kk H locs ls' hP hS (fs_LR_s2 h5 h7 h8) ⟨hR.1, fs_vr_s2 hR.2.1 r1, fun v hv => hR.2.2 v (List.mem_cons_of_mem _ hv)⟩ rfl
  case dstore_n k =>
    replace he : fs_s2 fs_isd k.val L st M = (ob, L', st', M') := he
    obtain ⟨v, r, rfl, hv, hj, rfl, rfl, rfl⟩ := fs_s2_inv he ho
    replace hn : n = 1 := hn
    subst hn
    obtain ⟨y, rfl⟩ := fs_isd_inv hv
    have r1 := hR.2.2 _ List.mem_cons_self
    obtain ⟨h5, lv, h6, h7⟩ := hl
    refine lv_dstore_n hx hb hd rfl h6 (by omega) rfl (fun ls' h8 => ?_)
    exact kk H locs ls' hP hS (fs_LR_s2 h5 h7 h8) ⟨hR.1, fs_vr_s2 hR.2.1 r1, fun v hv => hR.2.2 v (List.mem_cons_of_mem _ hv)⟩ rfl
  case dstore k =>
    replace he : fs_s2 fs_isd k L st M = (ob, L', st', M') := he
    obtain ⟨v, r, rfl, hv, hj, rfl, rfl, rfl⟩ := fs_s2_inv he ho
    replace hn : n = 2 := hn
    subst hn
    obtain ⟨y, rfl⟩ := fs_isd_inv hv
    have r1 := hR.2.2 _ List.mem_cons_self
    obtain ⟨h5, lv, h6, h7⟩ := hl
    refine lv_dstore hx hb hd h6 (by omega) rfl (fun ls' h8 => ?_)
    exact kk H locs ls' hP hS (fs_LR_s2 h5 h7 h8) ⟨hR.1, fs_vr_s2 hR.2.1 r1, fun v hv => hR.2.2 v (List.mem_cons_of_mem _ hv)⟩ rfl
  case iinc j k =>
    replace he : (match (generalizing := false) fs_get L j with | some (.inl a) => (([fs_rg (a + k)], fs_sto L j (.inl (a + k)), st, M) : fs_R) | _ => fs_bad L st M) = (ob, L', st', M') := he
    replace hn : n = 3 := hn
    subst hn
    split at he
    · next a hg =>
      simp only [Prod.mk.injEq] at he
      obtain ⟨rfl, rfl, rfl, rfl⟩ := he
      have h9 := fs_LR_at hl hg
      obtain ⟨h5, lv, h6, h7⟩ := hl
      have h10 := h7 _ _ h9.2
      obtain ⟨k0, hk0⟩ := List.mem_iff_getElem?.mp h10
      have h11 : j < L.length := (List.getElem?_eq_some_iff.mp h9.2).1
      refine lv_iinc hx hb hd h6 hk0 (by rw [← Int32.ofInt_add]) (by omega) rfl (fun ls' h8 => ?_)
      exact kk H locs ls' hP hS (fs_LR_s1 h5 h7 h8) ⟨hR.1, fs_vr_s1 hR.2.1 ho, hR.2.2⟩ rfl
    · simp only [fs_bad, Prod.mk.injEq] at he
      rw [← he.1] at ho
      exact ho.elim
  case dup =>
    replace he : (match (generalizing := false) st with | .inl a :: r => (([], L, .inl a :: .inl a :: r, M) : fs_R) | .inr (.ref a) :: r => ([], L, .inr (.ref a) :: .inr (.ref a) :: r, M) | _ => fs_bad L st M) = (ob, L', st', M') := he
    replace hn : n = 1 := hn
    subst hn
    split at he
    · simp only [Prod.mk.injEq] at he
      obtain ⟨rfl, rfl, rfl, rfl⟩ := he
      refine lv_dup hx hb hd rfl ?_
      exact kk H locs ls hP hS hl ⟨hR.1, hR.2.1, fun v hv => by rcases List.mem_cons.mp hv with rfl | hv; exact hR.2.2 _ List.mem_cons_self; exact hR.2.2 v hv⟩ rfl
    · simp only [Prod.mk.injEq] at he
      obtain ⟨rfl, rfl, rfl, rfl⟩ := he
      refine lv_dup hx hb hd rfl ?_
      exact kk H locs ls hP hS hl ⟨hR.1, hR.2.1, fun v hv => by rcases List.mem_cons.mp hv with rfl | hv; exact hR.2.2 _ List.mem_cons_self; exact hR.2.2 v hv⟩ rfl
    · simp only [fs_bad, Prod.mk.injEq] at he
      rw [← he.1] at ho
      exact ho.elim
  case dup2 =>
    replace he : (match (generalizing := false) st with | .inl a :: .inr (.ref b) :: r => (([], L, .inl a :: .inr (.ref b) :: .inl a :: .inr (.ref b) :: r, M) : fs_R) | .inr (.long a) :: r => ([], L, .inr (.long a) :: .inr (.long a) :: r, M) | _ => fs_bad L st M) = (ob, L', st', M') := he
    replace hn : n = 1 := hn
    subst hn
    split at he
    · simp only [Prod.mk.injEq] at he
      obtain ⟨rfl, rfl, rfl, rfl⟩ := he
      refine lv_dup2_11 hx hb hd rfl rfl ?_
      exact kk H locs ls hP hS hl ⟨hR.1, hR.2.1, fun v hv => by rcases List.mem_cons.mp hv with rfl | hv; exact hR.2.2 _ List.mem_cons_self; rcases List.mem_cons.mp hv with rfl | hv; exact trivial; exact hR.2.2 v hv⟩ rfl
    · simp only [Prod.mk.injEq] at he
      obtain ⟨rfl, rfl, rfl, rfl⟩ := he
      refine lv_dup2_2 hx hb hd rfl ?_
      exact kk H locs ls hP hS hl ⟨hR.1, hR.2.1, fun v hv => by rcases List.mem_cons.mp hv with rfl | hv; exact trivial; exact hR.2.2 v hv⟩ rfl
    · simp only [fs_bad, Prod.mk.injEq] at he
      rw [← he.1] at ho
      exact ho.elim
  case pop =>
    replace he : (match (generalizing := false) st with | .inl _ :: r => (([], L, r, M) : fs_R) | _ => fs_bad L st M) = (ob, L', st', M') := he
    replace hn : n = 1 := hn
    subst hn
    split at he
    · simp only [Prod.mk.injEq] at he
      obtain ⟨rfl, rfl, rfl, rfl⟩ := he
      refine lv_pop hx hb hd rfl ?_
      exact kk H locs ls hP hS hl ⟨hR.1, hR.2.1, fun v hv => hR.2.2 v (List.mem_cons_of_mem _ hv)⟩ rfl
    · simp only [fs_bad, Prod.mk.injEq] at he
      rw [← he.1] at ho
      exact ho.elim
  case lconst k =>
    replace he : (([], L, .inr (.long (Int64.ofNat k.val)) :: st, M) : fs_R) = (ob, L', st', M') := he
    simp only [Prod.mk.injEq] at he
    obtain ⟨rfl, rfl, rfl, rfl⟩ := he
    replace hn : n = 1 := hn
    subst hn
    refine lv_lconst hx hb hd rfl ?_
    exact kk H locs ls hP hS hl ⟨hR.1, hR.2.1, fun v hv => by rcases List.mem_cons.mp hv with rfl | hv; exact trivial; exact hR.2.2 v hv⟩ rfl
  case fconst k =>
    replace he : (match (generalizing := false) k.val with | 0 => (([], L, .inr (.float FP.fconst0) :: st, M) : fs_R) | 1 => ([], L, .inr (.float FP.fconst1) :: st, M) | _ => fs_bad L st M) = (ob, L', st', M') := he
    replace hn : n = 1 := hn
    subst hn
    have hk3 : k = 0 ∨ k = 1 ∨ k = 2 := by omega
    rcases hk3 with rfl | rfl | rfl
    · replace he : (([], L, .inr (.float FP.fconst0) :: st, M) : fs_R) = (ob, L', st', M') := he
      simp only [Prod.mk.injEq] at he
      obtain ⟨rfl, rfl, rfl, rfl⟩ := he
      refine lv_fconst0 hx hb hd ?_
      exact kk H locs ls hP hS hl ⟨hR.1, hR.2.1, fun v hv => by rcases List.mem_cons.mp hv with rfl | hv; exact trivial; exact hR.2.2 v hv⟩ rfl
    · replace he : (([], L, .inr (.float FP.fconst1) :: st, M) : fs_R) = (ob, L', st', M') := he
      simp only [Prod.mk.injEq] at he
      obtain ⟨rfl, rfl, rfl, rfl⟩ := he
      refine lv_fconst1 hx hb hd ?_
      exact kk H locs ls hP hS hl ⟨hR.1, hR.2.1, fun v hv => by rcases List.mem_cons.mp hv with rfl | hv; exact trivial; exact hR.2.2 v hv⟩ rfl
    · replace he : fs_bad L st M = (ob, L', st', M') := he
      simp only [fs_bad, Prod.mk.injEq] at he
      rw [← he.1] at ho
      exact ho.elim
  case dconst k =>
    replace he : (match (generalizing := false) k.val with | 0 => (([], L, .inr (.double FP.dconst0) :: st, M) : fs_R) | _ => ([], L, .inr (.double FP.dconst1) :: st, M)) = (ob, L', st', M') := he
    replace hn : n = 1 := hn
    subst hn
    have hk3 : k = 0 ∨ k = 1 := by omega
    rcases hk3 with rfl | rfl
    · replace he : (([], L, .inr (.double FP.dconst0) :: st, M) : fs_R) = (ob, L', st', M') := he
      simp only [Prod.mk.injEq] at he
      obtain ⟨rfl, rfl, rfl, rfl⟩ := he
      refine lv_dconst0 hx hb hd ?_
      exact kk H locs ls hP hS hl ⟨hR.1, hR.2.1, fun v hv => by rcases List.mem_cons.mp hv with rfl | hv; exact trivial; exact hR.2.2 v hv⟩ rfl
    · replace he : (([], L, .inr (.double FP.dconst1) :: st, M) : fs_R) = (ob, L', st', M') := he
      simp only [Prod.mk.injEq] at he
      obtain ⟨rfl, rfl, rfl, rfl⟩ := he
      refine lv_dconst1 hx hb hd ?_
      exact kk H locs ls hP hS hl ⟨hR.1, hR.2.1, fun v hv => by rcases List.mem_cons.mp hv with rfl | hv; exact trivial; exact hR.2.2 v hv⟩ rfl
  case ladd =>
    replace he : fs_ll (fun a b => ([], .inr (.long (a + b)))) L st M = (ob, L', st', M') := he
    obtain ⟨y1, y2, r, rfl, hob, rfl, rfl, rfl⟩ := fs_ll_inv he ho
    rw [hob] at ho
    replace hn : n = 1 := hn
    subst hn
    change W p l e R s m args below meth c H locs cells slots Q (F0 m pc ls (.long y2 :: .long y1 :: r.map (fs_tv (fs_ad o b sa))))
    refine lv_ladd hx hb hd ?_
    exact kk H locs ls hP hS hl ⟨hR.1, hR.2.1, fun v hv => by rcases List.mem_cons.mp hv with rfl | hv; exact trivial; exact hR.2.2 v (by simp [hv])⟩ rfl
  case lsub =>
    replace he : fs_ll (fun a b => ([], .inr (.long (a - b)))) L st M = (ob, L', st', M') := he
    obtain ⟨y1, y2, r, rfl, hob, rfl, rfl, rfl⟩ := fs_ll_inv he ho
    rw [hob] at ho
    replace hn : n = 1 := hn
    subst hn
    change W p l e R s m args below meth c H locs cells slots Q (F0 m pc ls (.long y2 :: .long y1 :: r.map (fs_tv (fs_ad o b sa))))
    refine lv_lsub hx hb hd ?_
    exact kk H locs ls hP hS hl ⟨hR.1, hR.2.1, fun v hv => by rcases List.mem_cons.mp hv with rfl | hv; exact trivial; exact hR.2.2 v (by simp [hv])⟩ rfl
  case lmul =>
    replace he : fs_ll (fun a b => ([], .inr (.long (a * b)))) L st M = (ob, L', st', M') := he
    obtain ⟨y1, y2, r, rfl, hob, rfl, rfl, rfl⟩ := fs_ll_inv he ho
    rw [hob] at ho
    replace hn : n = 1 := hn
    subst hn
    change W p l e R s m args below meth c H locs cells slots Q (F0 m pc ls (.long y2 :: .long y1 :: r.map (fs_tv (fs_ad o b sa))))
    refine lv_lmul hx hb hd ?_
    exact kk H locs ls hP hS hl ⟨hR.1, hR.2.1, fun v hv => by rcases List.mem_cons.mp hv with rfl | hv; exact trivial; exact hR.2.2 v (by simp [hv])⟩ rfl
  case ldiv =>
    replace he : fs_ll (fun a b => ([¬ b = 0], .inr (.long (a / b)))) L st M = (ob, L', st', M') := he
    obtain ⟨y1, y2, r, rfl, hob, rfl, rfl, rfl⟩ := fs_ll_inv he ho
    rw [hob] at ho
    replace hn : n = 1 := hn
    subst hn
    change W p l e R s m args below meth c H locs cells slots Q (F0 m pc ls (.long y2 :: .long y1 :: r.map (fs_tv (fs_ad o b sa))))
    refine lv_ldiv hx hb hd ho ?_
    exact kk H locs ls hP hS hl ⟨hR.1, hR.2.1, fun v hv => by rcases List.mem_cons.mp hv with rfl | hv; exact trivial; exact hR.2.2 v (by simp [hv])⟩ rfl
  case lrem =>
    replace he : fs_ll (fun a b => ([¬ b = 0], .inr (.long (a - a / b * b)))) L st M = (ob, L', st', M') := he
    obtain ⟨y1, y2, r, rfl, hob, rfl, rfl, rfl⟩ := fs_ll_inv he ho
    rw [hob] at ho
    replace hn : n = 1 := hn
    subst hn
    change W p l e R s m args below meth c H locs cells slots Q (F0 m pc ls (.long y2 :: .long y1 :: r.map (fs_tv (fs_ad o b sa))))
    refine lv_lrem hx hb hd ho ?_
    exact kk H locs ls hP hS hl ⟨hR.1, hR.2.1, fun v hv => by rcases List.mem_cons.mp hv with rfl | hv; exact trivial; exact hR.2.2 v (by simp [hv])⟩ rfl
  case lcmp =>
    replace he : fs_ll (fun a b => ([], .inl (lg_cmp a b).toInt)) L st M = (ob, L', st', M') := he
    obtain ⟨y1, y2, r, rfl, hob, rfl, rfl, rfl⟩ := fs_ll_inv he ho
    rw [hob] at ho
    replace hn : n = 1 := hn
    subst hn
    change W p l e R s m args below meth c H locs cells slots Q (F0 m pc ls (.long y2 :: .long y1 :: r.map (fs_tv (fs_ad o b sa))))
    refine W.lcmp hx hb hd ?_
    rw [← Int32.ofInt_toInt (lg_cmp y1 y2)]
    exact kk H locs ls hP hS hl ⟨hR.1, hR.2.1, fun v hv => by rcases List.mem_cons.mp hv with rfl | hv; exact fs_rg_ti _; exact hR.2.2 v (by simp [hv])⟩ rfl
  case fadd =>
    replace he : fs_ff (fun a b => ([vf_n32 (FP.fadd a b)], .inr (.float (FP.fadd a b)))) L st M = (ob, L', st', M') := he
    obtain ⟨y1, y2, r, rfl, hob, rfl, rfl, rfl⟩ := fs_ff_inv he ho
    rw [hob] at ho
    replace hn : n = 1 := hn
    subst hn
    change W p l e R s m args below meth c H locs cells slots Q (F0 m pc ls (.float y2 :: .float y1 :: r.map (fs_tv (fs_ad o b sa))))
    refine lv_fadd hx hb hd ho ?_
    exact kk H locs ls hP hS hl ⟨hR.1, hR.2.1, fun v hv => by rcases List.mem_cons.mp hv with rfl | hv; exact trivial; exact hR.2.2 v (by simp [hv])⟩ rfl
  case dadd =>
    replace he : fs_dd (fun a b => ([vf_n64 (FP.dadd a b)], .inr (.double (FP.dadd a b)))) L st M = (ob, L', st', M') := he
    obtain ⟨y1, y2, r, rfl, hob, rfl, rfl, rfl⟩ := fs_dd_inv he ho
    rw [hob] at ho
    replace hn : n = 1 := hn
    subst hn
    change W p l e R s m args below meth c H locs cells slots Q (F0 m pc ls (.double y2 :: .double y1 :: r.map (fs_tv (fs_ad o b sa))))
    refine lv_dadd hx hb hd ho ?_
    exact kk H locs ls hP hS hl ⟨hR.1, hR.2.1, fun v hv => by rcases List.mem_cons.mp hv with rfl | hv; exact trivial; exact hR.2.2 v (by simp [hv])⟩ rfl
  case fsub =>
    replace he : fs_ff (fun a b => ([vf_n32 (FP.fsub a b)], .inr (.float (FP.fsub a b)))) L st M = (ob, L', st', M') := he
    obtain ⟨y1, y2, r, rfl, hob, rfl, rfl, rfl⟩ := fs_ff_inv he ho
    rw [hob] at ho
    replace hn : n = 1 := hn
    subst hn
    change W p l e R s m args below meth c H locs cells slots Q (F0 m pc ls (.float y2 :: .float y1 :: r.map (fs_tv (fs_ad o b sa))))
    refine lv_fsub hx hb hd ho ?_
    exact kk H locs ls hP hS hl ⟨hR.1, hR.2.1, fun v hv => by rcases List.mem_cons.mp hv with rfl | hv; exact trivial; exact hR.2.2 v (by simp [hv])⟩ rfl
  case dsub =>
    replace he : fs_dd (fun a b => ([vf_n64 (FP.dsub a b)], .inr (.double (FP.dsub a b)))) L st M = (ob, L', st', M') := he
    obtain ⟨y1, y2, r, rfl, hob, rfl, rfl, rfl⟩ := fs_dd_inv he ho
    rw [hob] at ho
    replace hn : n = 1 := hn
    subst hn
    change W p l e R s m args below meth c H locs cells slots Q (F0 m pc ls (.double y2 :: .double y1 :: r.map (fs_tv (fs_ad o b sa))))
    refine lv_dsub hx hb hd ho ?_
    exact kk H locs ls hP hS hl ⟨hR.1, hR.2.1, fun v hv => by rcases List.mem_cons.mp hv with rfl | hv; exact trivial; exact hR.2.2 v (by simp [hv])⟩ rfl
  case fmul =>
    replace he : fs_ff (fun a b => ([vf_n32 (FP.fmul a b)], .inr (.float (FP.fmul a b)))) L st M = (ob, L', st', M') := he
    obtain ⟨y1, y2, r, rfl, hob, rfl, rfl, rfl⟩ := fs_ff_inv he ho
    rw [hob] at ho
    replace hn : n = 1 := hn
    subst hn
    change W p l e R s m args below meth c H locs cells slots Q (F0 m pc ls (.float y2 :: .float y1 :: r.map (fs_tv (fs_ad o b sa))))
    refine lv_fmul hx hb hd ho ?_
    exact kk H locs ls hP hS hl ⟨hR.1, hR.2.1, fun v hv => by rcases List.mem_cons.mp hv with rfl | hv; exact trivial; exact hR.2.2 v (by simp [hv])⟩ rfl
  case dmul =>
    replace he : fs_dd (fun a b => ([vf_n64 (FP.dmul a b)], .inr (.double (FP.dmul a b)))) L st M = (ob, L', st', M') := he
    obtain ⟨y1, y2, r, rfl, hob, rfl, rfl, rfl⟩ := fs_dd_inv he ho
    rw [hob] at ho
    replace hn : n = 1 := hn
    subst hn
    change W p l e R s m args below meth c H locs cells slots Q (F0 m pc ls (.double y2 :: .double y1 :: r.map (fs_tv (fs_ad o b sa))))
    refine lv_dmul hx hb hd ho ?_
    exact kk H locs ls hP hS hl ⟨hR.1, hR.2.1, fun v hv => by rcases List.mem_cons.mp hv with rfl | hv; exact trivial; exact hR.2.2 v (by simp [hv])⟩ rfl
  case fdiv =>
    replace he : fs_ff (fun a b => ([vf_n32 (FP.fdiv a b)], .inr (.float (FP.fdiv a b)))) L st M = (ob, L', st', M') := he
    obtain ⟨y1, y2, r, rfl, hob, rfl, rfl, rfl⟩ := fs_ff_inv he ho
    rw [hob] at ho
    replace hn : n = 1 := hn
    subst hn
    change W p l e R s m args below meth c H locs cells slots Q (F0 m pc ls (.float y2 :: .float y1 :: r.map (fs_tv (fs_ad o b sa))))
    refine lv_fdiv hx hb hd ho ?_
    exact kk H locs ls hP hS hl ⟨hR.1, hR.2.1, fun v hv => by rcases List.mem_cons.mp hv with rfl | hv; exact trivial; exact hR.2.2 v (by simp [hv])⟩ rfl
  case ddiv =>
    replace he : fs_dd (fun a b => ([vf_n64 (FP.ddiv a b)], .inr (.double (FP.ddiv a b)))) L st M = (ob, L', st', M') := he
    obtain ⟨y1, y2, r, rfl, hob, rfl, rfl, rfl⟩ := fs_dd_inv he ho
    rw [hob] at ho
    replace hn : n = 1 := hn
    subst hn
    change W p l e R s m args below meth c H locs cells slots Q (F0 m pc ls (.double y2 :: .double y1 :: r.map (fs_tv (fs_ad o b sa))))
    refine lv_ddiv hx hb hd ho ?_
    exact kk H locs ls hP hS hl ⟨hR.1, hR.2.1, fun v hv => by rcases List.mem_cons.mp hv with rfl | hv; exact trivial; exact hR.2.2 v (by simp [hv])⟩ rfl
  case fcmp op =>
    replace he : fs_ff (fun a b => ([], .inl (Op.cmpValue (FP.fcmp a b) op).toInt)) L st M = (ob, L', st', M') := he
    obtain ⟨y1, y2, r, rfl, hob, rfl, rfl, rfl⟩ := fs_ff_inv he ho
    rw [hob] at ho
    replace hn : n = 1 := hn
    subst hn
    change W p l e R s m args below meth c H locs cells slots Q (F0 m pc ls (.float y2 :: .float y1 :: r.map (fs_tv (fs_ad o b sa))))
    refine lv_fcmp hx hb hd ?_
    rw [← Int32.ofInt_toInt (Op.cmpValue (FP.fcmp y1 y2) op)]
    exact kk H locs ls hP hS hl ⟨hR.1, hR.2.1, fun v hv => by rcases List.mem_cons.mp hv with rfl | hv; exact fs_rg_ti _; exact hR.2.2 v (by simp [hv])⟩ rfl
  case dcmp op =>
    replace he : fs_dd (fun a b => ([], .inl (Op.cmpValue (FP.dcmp a b) op).toInt)) L st M = (ob, L', st', M') := he
    obtain ⟨y1, y2, r, rfl, hob, rfl, rfl, rfl⟩ := fs_dd_inv he ho
    rw [hob] at ho
    replace hn : n = 1 := hn
    subst hn
    change W p l e R s m args below meth c H locs cells slots Q (F0 m pc ls (.double y2 :: .double y1 :: r.map (fs_tv (fs_ad o b sa))))
    refine lv_dcmp hx hb hd ?_
    rw [← Int32.ofInt_toInt (Op.cmpValue (FP.dcmp y1 y2) op)]
    exact kk H locs ls hP hS hl ⟨hR.1, hR.2.1, fun v hv => by rcases List.mem_cons.mp hv with rfl | hv; exact fs_rg_ti _; exact hR.2.2 v (by simp [hv])⟩ rfl
  case i2l =>
    replace he : (match (generalizing := false) st with | .inl a :: r => (([], L, .inr (.long (Int32.ofInt a).toInt64) :: r, M) : fs_R) | _ => fs_bad L st M) = (ob, L', st', M') := he
    replace hn : n = 1 := hn
    subst hn
    split at he
    · next a r =>
      simp only [Prod.mk.injEq] at he
      obtain ⟨rfl, rfl, rfl, rfl⟩ := he
      refine lv_i2l hx hb hd rfl ?_
      exact kk H locs ls hP hS hl ⟨hR.1, hR.2.1, fun v hv => by rcases List.mem_cons.mp hv with rfl | hv; exact trivial; exact hR.2.2 v (by simp [hv])⟩ rfl
    · simp only [fs_bad, Prod.mk.injEq] at he
      rw [← he.1] at ho
      exact ho.elim
  case l2i =>
    replace he : (match (generalizing := false) st with | .inr (.long a) :: r => (([], L, .inl a.toInt32.toInt :: r, M) : fs_R) | _ => fs_bad L st M) = (ob, L', st', M') := he
    replace hn : n = 1 := hn
    subst hn
    split at he
    · next a r =>
      simp only [Prod.mk.injEq] at he
      obtain ⟨rfl, rfl, rfl, rfl⟩ := he
      refine lv_l2i hx hb hd (Int32.ofInt_toInt _).symm ?_
      exact kk H locs ls hP hS hl ⟨hR.1, hR.2.1, fun v hv => by rcases List.mem_cons.mp hv with rfl | hv; exact fs_rg_ti _; exact hR.2.2 v (by simp [hv])⟩ rfl
    · simp only [fs_bad, Prod.mk.injEq] at he
      rw [← he.1] at ho
      exact ho.elim
  case l2d =>
    replace he : (match (generalizing := false) st with | .inr (.long a) :: r => (([], L, .inr (.double (FP.l2d a)) :: r, M) : fs_R) | _ => fs_bad L st M) = (ob, L', st', M') := he
    replace hn : n = 1 := hn
    subst hn
    split at he
    · next a r =>
      simp only [Prod.mk.injEq] at he
      obtain ⟨rfl, rfl, rfl, rfl⟩ := he
      refine lv_l2d hx hb hd ?_
      exact kk H locs ls hP hS hl ⟨hR.1, hR.2.1, fun v hv => by rcases List.mem_cons.mp hv with rfl | hv; exact trivial; exact hR.2.2 v (by simp [hv])⟩ rfl
    · simp only [fs_bad, Prod.mk.injEq] at he
      rw [← he.1] at ho
      exact ho.elim
  case i2f =>
    replace he : (match (generalizing := false) st with | .inl a :: r => (([], L, .inr (.float (FP.i2f (Int32.ofInt a))) :: r, M) : fs_R) | _ => fs_bad L st M) = (ob, L', st', M') := he
    replace hn : n = 1 := hn
    subst hn
    split at he
    · next a r =>
      simp only [Prod.mk.injEq] at he
      obtain ⟨rfl, rfl, rfl, rfl⟩ := he
      refine lv_i2f hx hb hd ?_
      exact kk H locs ls hP hS hl ⟨hR.1, hR.2.1, fun v hv => by rcases List.mem_cons.mp hv with rfl | hv; exact trivial; exact hR.2.2 v (by simp [hv])⟩ rfl
    · simp only [fs_bad, Prod.mk.injEq] at he
      rw [← he.1] at ho
      exact ho.elim
  case f2d =>
    replace he : (match (generalizing := false) st with | .inr (.float a) :: r => (([vf_n64 (FP.f2d a)], L, .inr (.double (FP.f2d a)) :: r, M) : fs_R) | _ => fs_bad L st M) = (ob, L', st', M') := he
    replace hn : n = 1 := hn
    subst hn
    split at he
    · next a r =>
      simp only [Prod.mk.injEq] at he
      obtain ⟨rfl, rfl, rfl, rfl⟩ := he
      refine lv_f2d hx hb hd ho ?_
      exact kk H locs ls hP hS hl ⟨hR.1, hR.2.1, fun v hv => by rcases List.mem_cons.mp hv with rfl | hv; exact trivial; exact hR.2.2 v (by simp [hv])⟩ rfl
    · simp only [fs_bad, Prod.mk.injEq] at he
      rw [← he.1] at ho
      exact ho.elim
  case f2i =>
    replace he : (match (generalizing := false) st with | .inr (.float a) :: r => (([], L, .inl (FP.f2i a).toInt :: r, M) : fs_R) | _ => fs_bad L st M) = (ob, L', st', M') := he
    replace hn : n = 1 := hn
    subst hn
    split at he
    · next a r =>
      simp only [Prod.mk.injEq] at he
      obtain ⟨rfl, rfl, rfl, rfl⟩ := he
      refine lv_f2i hx hb hd ?_
      rw [← Int32.ofInt_toInt (FP.f2i a)]
      exact kk H locs ls hP hS hl ⟨hR.1, hR.2.1, fun v hv => by rcases List.mem_cons.mp hv with rfl | hv; exact fs_rg_ti _; exact hR.2.2 v (by simp [hv])⟩ rfl
    · simp only [fs_bad, Prod.mk.injEq] at he
      rw [← he.1] at ho
      exact ho.elim
  case d2i =>
    replace he : (match (generalizing := false) st with | .inr (.double a) :: r => (([], L, .inl (FP.d2i a).toInt :: r, M) : fs_R) | _ => fs_bad L st M) = (ob, L', st', M') := he
    replace hn : n = 1 := hn
    subst hn
    split at he
    · next a r =>
      simp only [Prod.mk.injEq] at he
      obtain ⟨rfl, rfl, rfl, rfl⟩ := he
      refine lv_d2i hx hb hd ?_
      rw [← Int32.ofInt_toInt (FP.d2i a)]
      exact kk H locs ls hP hS hl ⟨hR.1, hR.2.1, fun v hv => by rcases List.mem_cons.mp hv with rfl | hv; exact fs_rg_ti _; exact hR.2.2 v (by simp [hv])⟩ rfl
    · simp only [fs_bad, Prod.mk.injEq] at he
      rw [← he.1] at ho
      exact ho.elim
  case d2l =>
    replace he : (match (generalizing := false) st with | .inr (.double a) :: r => (([], L, .inr (.long (FP.d2l a)) :: r, M) : fs_R) | _ => fs_bad L st M) = (ob, L', st', M') := he
    replace hn : n = 1 := hn
    subst hn
    split at he
    · next a r =>
      simp only [Prod.mk.injEq] at he
      obtain ⟨rfl, rfl, rfl, rfl⟩ := he
      refine lv_d2l hx hb hd ?_
      exact kk H locs ls hP hS hl ⟨hR.1, hR.2.1, fun v hv => by rcases List.mem_cons.mp hv with rfl | hv; exact trivial; exact hR.2.2 v (by simp [hv])⟩ rfl
    · simp only [fs_bad, Prod.mk.injEq] at he
      rw [← he.1] at ho
      exact ho.elim
  case lshl =>
    replace he : (match (generalizing := false) st with | .inl b :: .inr (.long a) :: r => (([], L, .inr (.long (a <<< ((Int32.ofInt b).toInt64 &&& 63))) :: r, M) : fs_R) | _ => fs_bad L st M) = (ob, L', st', M') := he
    replace hn : n = 1 := hn
    subst hn
    split at he
    · next y2 y1 r =>
      simp only [Prod.mk.injEq] at he
      obtain ⟨rfl, rfl, rfl, rfl⟩ := he
      refine lv_lshl hx hb hd rfl ?_
      exact kk H locs ls hP hS hl ⟨hR.1, hR.2.1, fun v hv => by rcases List.mem_cons.mp hv with rfl | hv; exact trivial; exact hR.2.2 v (by simp [hv])⟩ rfl
    · simp only [fs_bad, Prod.mk.injEq] at he
      rw [← he.1] at ho
      exact ho.elim
  case getfield idx =>
    replace he : (match (generalizing := false) st with | .inr (.ref r) :: rest => (([r < fs_N ∧ fs_kd r = x1], L, fs_fld x1 r x2 M :: rest, M) : fs_R) | _ => fs_bad L st M) = (ob, L', st', M') := he
    replace hk : (decide ((fs_T x1 x2.toNat).1 = fs_rn x1) && (decide (x1 < 7 ∧ 0 ≤ x2 ∧ x2.toNat < fs_n x1) && fs_ok (.fieldLink own idx (fs_rn x1) (fs_T x1 x2.toNat).2.1 (fs_T x1 x2.toNat).2.2.1) x3)) = true := hk
    replace hn : n = 3 := hn
    subst hn
    split at he
    · next r rest =>
      simp only [Prod.mk.injEq] at he
      obtain ⟨rfl, rfl, rfl, rfl⟩ := he
      simp only [Bool.and_eq_true, decide_eq_true_eq] at hk
      obtain ⟨h1, ⟨h2, h3, h4⟩, h5⟩ := hk
      obtain ⟨h6, h7⟩ := ho
      subst h7
      have e1 : fs_ad o b sa r = o + r := by unfold fs_ad; rw [if_pos h6]
      have e2 : fs_en o cA cB M r = .inr (fs_kd r, fs_fs o M r) := by unfold fs_en; rw [if_neg (by omega), if_neg (by omega)]
      have e3 : ((x2.toNat : Nat) : Int) = x2 := by omega
      have e4 : (fs_fs o M r)[x2.toNat]? = some (fs_tv (fs_ad o b sa) (fs_fld (fs_kd r) r x2 M)) := by
        unfold fs_fs fs_fld
        rw [List.getElem?_map, List.getElem?_range h4]
        have h8 : ∀ d, fs_of (fs_kd r) x2.toNat = some d → r + d < fs_N := fun d hd => fs_of_lt h6 h2 hd h4
        cases hf : fs_of (fs_kd r) x2.toNat with
        | none => simp only [Option.map_some, hf, fs_tv, e3]
        | some d =>
          simp only [Option.map_some, hf, fs_tv]
          unfold fs_ad
          rw [if_pos (h8 d hf)]
      change W p l e R s m args below meth c H locs cells slots Q (F0 m pc ls (.ref (fs_ad o b sa r) :: rest.map (fs_tv (fs_ad o b sa))))
      rw [e1]
      refine va_get hx hb hts (fs_inok _ h2) hown hK hP r (by rw [fs_ws_get h6, e2]) (fs_clget _ h2) x2.toNat h4 (hts _ (fs_ok_mem h5)) (by rw [h1]; exact fun x q => q) e4 hd ?_
      refine kk H locs ls hP hS hl ⟨hR.1, hR.2.1, fun v hv => ?_⟩ rfl
      rcases List.mem_cons.mp hv with rfl | hv
      · unfold fs_fld
        split
        · exact trivial
        · exact hR.1 _ _
      · exact hR.2.2 v (List.mem_cons_of_mem _ hv)
    · simp only [fs_bad, Prod.mk.injEq] at he
      rw [← he.1] at ho
      exact ho.elim
  case putfield idx =>
    replace he : (match (generalizing := false) st with | .inl n :: .inr (.ref r) :: rest => (([r < fs_N ∧ fs_kd r = x1], L, rest, fs_up M r x2 n) : fs_R) | _ => fs_bad L st M) = (ob, L', st', M') := he
    replace hk : (decide (x1 < 7 ∧ 0 ≤ x2 ∧ x2.toNat < fs_n x1) && (fs_ok (.fieldLink own idx (fs_rn x1) (fs_T x1 x2.toNat).2.1 (fs_T x1 x2.toNat).2.2.1) x3 && decide ((fs_T x1 x2.toNat).2.2.2 = false ∧ (fs_T x1 x2.toNat).2.2.1 = "I" ∧ fs_of x1 x2.toNat = none ∧ (fs_T x1 x2.toNat).1 = fs_rn x1))) = true := hk
    replace hn : n = 3 := hn
    subst hn
    split at he
    · next y r rest =>
      simp only [Prod.mk.injEq] at he
      obtain ⟨rfl, rfl, rfl, rfl⟩ := he
      simp only [Bool.and_eq_true, decide_eq_true_eq] at hk
      obtain ⟨⟨h2, h3, h4⟩, h5, h1, h8, h9, h10⟩ := hk
      obtain ⟨h6, h7⟩ := ho
      subst h7
      have e1 : fs_ad o b sa r = o + r := by unfold fs_ad; rw [if_pos h6]
      have e2 : ∀ M : fs_M, fs_en o cA cB M r = .inr (fs_kd r, fs_fs o M r) := fun M => by unfold fs_en; rw [if_neg (by omega), if_neg (by omega)]
      have e3 : ((x2.toNat : Nat) : Int) = x2 := by omega
      have ry : fs_rg y := hR.2.2 (.inl y) List.mem_cons_self
      have e4 : (fs_fs o M r).set x2.toNat (.int (Int32.ofInt y)) = fs_fs o (fs_up M r x2 y) r := by
        apply List.ext_getElem?
        intro k
        unfold fs_fs
        by_cases hk : k < fs_n (fs_kd r)
        · by_cases e : k = x2.toNat
          · subst e
            rw [List.getElem?_set_self (by simpa using hk), List.getElem?_map, List.getElem?_range hk]
            simp only [Option.map_some, h9, fs_up, e3, and_self, if_true]
          · rw [List.getElem?_set_ne (fun q => e q.symm), List.getElem?_map, List.getElem?_map, List.getElem?_range hk]
            have e5 : fs_up M r x2 y r (k : Int) = M r (k : Int) := by
              unfold fs_up
              rw [if_neg (by omega)]
            simp only [Option.map_some, e5]
        · rw [List.getElem?_eq_none (by simp; omega), List.getElem?_eq_none (by simp; omega)]
      have e6 : parseFieldDescriptor (fs_T (fs_kd r) x2.toNat).2.2.1 = some .int := by rw [h8]; decide +kernel
      change W p l e R s m args below meth c H locs cells slots Q (F0 m pc ls (.int (Int32.ofInt y) :: .ref (fs_ad o b sa r) :: rest.map (fs_tv (fs_ad o b sa))))
      rw [e1]
      refine va_put hx hb hts (fs_inok _ h2) (fs_ty _) (fs_tyok _ h2) (fs_nmok _ h2) hown hK hP fs_ws_D hS r (by rw [fs_ws_get h6, e2]) (fs_clget _ h2) x2.toNat h4 (hts _ (fs_ok_mem h5)) (by rw [h10]; exact fun x q => q) h1 e6 (vp_nar_int _) rfl (by simp [fs_fs]; exact h4) hd (fun H1 locs1 hP1 _ hS1 => ?_)
      rw [fs_ws_up (i := x2) (v := y) h6 (by rw [e2, e4])] at hP1
      exact kk H1 locs1 ls hP1 hS1 hl ⟨fs_rg_up hR.1 ry, hR.2.1, fun v hv => hR.2.2 v (by simp [hv])⟩ (fs_up_other (fun q => by subst q; exact absurd h6 (by decide)))
    · simp only [fs_bad, Prod.mk.injEq] at he
      rw [← he.1] at ho
      exact ho.elim
  case arraylength =>
    replace he : (match (generalizing := false) st with | .inr (.ref r) :: rest => (match (generalizing := false) x1 with | 0 => (([r < fs_N ∧ fs_kd r = 100], L, .inl (fs_ln r) :: rest, M) : fs_R) | _ => ([r = 999], L, .inl (M 999 (-1)) :: rest, M)) | _ => fs_bad L st M) = (ob, L', st', M') := he
    replace hk : decide (x1 = 0 ∨ own = "FireSaleLaw") = true := hk
    simp only [decide_eq_true_eq] at hk
    replace hn : n = 1 := hn
    subst hn
    split at he
    · next r rest =>
      split at he
      · simp only [Prod.mk.injEq] at he
        obtain ⟨rfl, rfl, rfl, rfl⟩ := he
        obtain ⟨h6, h7⟩ := ho
        have e1 : fs_ad o b sa r = o + r := by unfold fs_ad; rw [if_pos h6]
        have e2 : fs_en o cA cB M r = .inl (cA, (fs_ln r).toNat, .inl (fun j => Int32.ofInt (M r j))) := by unfold fs_en; rw [if_pos h7]
        change W p l e R s m args below meth c H locs cells slots Q (F0 m pc ls (.ref (fs_ad o b sa r) :: rest.map (fs_tv (fs_ad o b sa))))
        rw [e1]
        refine va_alen hx hb hK hP r 0 (by rw [fs_ws_get h6, e2]) rfl (v := Int32.ofInt (fs_ln r)) (by have := fs_ln_rg r; show Int32.ofNat (fs_ln r).toNat = _; rw [← Int32.ofInt_eq_ofNat, Int.toNat_of_nonneg this.1]) hd ?_
        exact kk H locs ls hP hS hl ⟨hR.1, hR.2.1, fun v hv => by rcases List.mem_cons.mp hv with rfl | hv; exact (by have := fs_ln_rg r; exact ⟨by omega, by omega⟩); exact hR.2.2 v (by simp [hv])⟩ rfl
      · next hx1 =>
        simp only [Prod.mk.injEq] at he
        obtain ⟨rfl, rfl, rfl, rfl⟩ := he
        replace hk := hk.resolve_left (fun q => hx1 q)
        obtain ⟨hX, hb1, hb2, hb3⟩ := hsc hk
        obtain ⟨m1, m2⟩ := hM9 hk
        replace ho : r = 999 := ho
        subst ho
        have e1 : fs_ad o b sa 999 = b := rfl
        change W p l e R s m args below meth c H locs cells slots Q (F0 m pc ls (.ref (fs_ad o b sa 999) :: rest.map (fs_tv (fs_ad o b sa))))
        rw [e1]
        refine va_slen hx hb hX hb1 (by show ¬ o ≤ b; omega) hS hd ?_
        have k2 := kk H locs ls hP hS hl ⟨hR.1, hR.2.1, fun v hv => by rcases List.mem_cons.mp hv with rfl | hv; exact hR.1 _ _; exact hR.2.2 v (by simp [hv])⟩ rfl
        change W p l e R s m args below meth c H locs cells slots Q (F0 m (pc + 1) ls (.int (Int32.ofInt (M 999 (-1))) :: rest.map (fs_tv (fs_ad o b sa)))) at k2
        rw [m1] at k2
        exact k2
    · simp only [fs_bad, Prod.mk.injEq] at he
      rw [← he.1] at ho
      exact ho.elim
  case iaload =>
    replace he : (match (generalizing := false) st with | .inl i :: .inr (.ref r) :: rest => (match (generalizing := false) x1 with | 0 => (([(r < fs_N ∧ fs_kd r = 100) ∧ 0 ≤ i ∧ i < fs_ln r], L, .inl (M r i) :: rest, M) : fs_R) | _ => ([r = 999 ∧ 0 ≤ i ∧ i < M 999 (-1)], L, .inl (M 999 i) :: rest, M)) | _ => fs_bad L st M) = (ob, L', st', M') := he
    replace hk : decide (x1 = 0 ∨ own = "FireSaleLaw") = true := hk
    simp only [decide_eq_true_eq] at hk
    replace hn : n = 1 := hn
    subst hn
    split at he
    · next i r rest =>
      have ri : fs_rg i := hR.2.2 (.inl i) List.mem_cons_self
      split at he
      · simp only [Prod.mk.injEq] at he
        obtain ⟨rfl, rfl, rfl, rfl⟩ := he
        obtain ⟨⟨h6, h7⟩, h8, h9⟩ := ho
        have e1 : fs_ad o b sa r = o + r := by unfold fs_ad; rw [if_pos h6]
        have e2 : fs_en o cA cB M r = .inl (cA, (fs_ln r).toNat, .inl (fun j => Int32.ofInt (M r j))) := by unfold fs_en; rw [if_pos h7]
        change W p l e R s m args below meth c H locs cells slots Q (F0 m pc ls (.int (Int32.ofInt i) :: .ref (fs_ad o b sa r) :: rest.map (fs_tv (fs_ad o b sa))))
        rw [e1]
        refine va_iald hx hb hK hP r 0 (by rw [fs_ws_get h6, e2]) rfl (fs_in ri h8 h9) hd ?_
        rw [fs_nn ri, Int.toNat_of_nonneg h8]
        exact kk H locs ls hP hS hl ⟨hR.1, hR.2.1, fun v hv => by rcases List.mem_cons.mp hv with rfl | hv; exact hR.1 _ _; exact hR.2.2 v (by simp [hv])⟩ rfl
      · next hx1 =>
        simp only [Prod.mk.injEq] at he
        obtain ⟨rfl, rfl, rfl, rfl⟩ := he
        replace hk := hk.resolve_left (fun q => hx1 q)
        obtain ⟨hX, hb1, hb2, hb3⟩ := hsc hk
        obtain ⟨m1, m2⟩ := hM9 hk
        obtain ⟨h6, h8, h9⟩ := ho
        subst h6
        have e1 : fs_ad o b sa 999 = b := rfl
        change W p l e R s m args below meth c H locs cells slots Q (F0 m pc ls (.int (Int32.ofInt i) :: .ref (fs_ad o b sa 999) :: rest.map (fs_tv (fs_ad o b sa))))
        rw [e1]
        have h10 : vp_in (Int32.ofInt i) Ln := by have := fs_in ri h8 h9; rw [m1] at this; simpa using this
        refine va_sld hx hb hX hb1 (by show ¬ o ≤ b; omega) hS h10 hd ?_
        have k2 := kk H locs ls hP hS hl ⟨hR.1, hR.2.1, fun v hv => by rcases List.mem_cons.mp hv with rfl | hv; exact hR.1 _ _; exact hR.2.2 v (by simp [hv])⟩ rfl
        change W p l e R s m args below meth c H locs cells slots Q (F0 m (pc + 1) ls (.int (Int32.ofInt (M 999 i)) :: rest.map (fs_tv (fs_ad o b sa)))) at k2
        have e5 : M 999 i = (xs i.toNat).toInt := by have := m2 i.toNat (by omega); rw [Int.toNat_of_nonneg h8] at this; exact this
        rw [e5, Int32.ofInt_toInt] at k2
        rw [fs_nn ri]
        exact k2
    · simp only [fs_bad, Prod.mk.injEq] at he
      rw [← he.1] at ho
      exact ho.elim
  case iastore =>
    replace he : (match (generalizing := false) st with | .inl n :: .inl i :: .inr (.ref r) :: rest => (([(r < fs_N ∧ fs_kd r = 100) ∧ 0 ≤ i ∧ i < fs_ln r], L, rest, fs_up M r i n) : fs_R) | _ => fs_bad L st M) = (ob, L', st', M') := he
    replace hn : n = 1 := hn
    subst hn
    split at he
    · next y i r rest =>
      have ri : fs_rg i := hR.2.2 (.inl i) (by simp)
      have ry : fs_rg y := hR.2.2 (.inl y) (by simp)
      simp only [Prod.mk.injEq] at he
      obtain ⟨rfl, rfl, rfl, rfl⟩ := he
      obtain ⟨⟨h6, h7⟩, h8, h9⟩ := ho
      have e1 : fs_ad o b sa r = o + r := by unfold fs_ad; rw [if_pos h6]
      have e2 : ∀ M : fs_M, fs_en o cA cB M r = .inl (cA, (fs_ln r).toNat, .inl (fun j => Int32.ofInt (M r j))) := fun M => by unfold fs_en; rw [if_pos h7]
      change W p l e R s m args below meth c H locs cells slots Q (F0 m pc ls (.int (Int32.ofInt y) :: .int (Int32.ofInt i) :: .ref (fs_ad o b sa r) :: rest.map (fs_tv (fs_ad o b sa))))
      rw [e1]
      refine va_iast hx hb hK hP fs_ws_D hS r 0 (by rw [fs_ws_get h6, e2]) rfl (fs_in ri h8 h9) hd (fun H1 locs1 hP1 _ hS1 => ?_)
      rw [fs_ws_up (i := i) (v := y) h6 (by rw [e2]; exact fs_upd_eq ri h8)] at hP1
      exact kk H1 locs1 ls hP1 hS1 hl ⟨fs_rg_up hR.1 ry, hR.2.1, fun v hv => hR.2.2 v (by simp [hv])⟩ (fs_up_other (fun q => by subst q; exact absurd h6 (by decide)))
    · simp only [fs_bad, Prod.mk.injEq] at he
      rw [← he.1] at ho
      exact ho.elim
  case aaload =>
    replace he : (match (generalizing := false) st with | .inl i :: .inr (.ref r) :: rest => (([r = 19 ∧ 0 ≤ i ∧ i < 12], L, .inr (.ref (40 + 7 * i.toNat)) :: rest, M) : fs_R) | _ => fs_bad L st M) = (ob, L', st', M') := he
    replace hn : n = 1 := hn
    subst hn
    split at he
    · next i r rest =>
      have ri : fs_rg i := hR.2.2 (.inl i) (by simp)
      simp only [Prod.mk.injEq] at he
      obtain ⟨rfl, rfl, rfl, rfl⟩ := he
      obtain ⟨rfl, h8, h9⟩ := ho
      have e1 : fs_ad o b sa 19 = o + 19 := rfl
      have e2 : fs_en o cA cB M 19 = .inl (cB, 12, .inr (.inr (.inr (.inr (fun i => some (o + (40 + 7 * i))))))) := rfl
      have e9 : (fs_ws o cA cB M)[19]? = some (o + 19, .inl (cB, 12, .inr (.inr (.inr (.inr (fun i => some (o + (40 + 7 * i)))))))) := by rw [fs_ws_get (show 19 < fs_N by decide), e2]
      have e3 : fs_ad o b sa (40 + 7 * i.toNat) = o + (40 + 7 * i.toNat) := by unfold fs_ad fs_N; rw [if_pos (by omega)]
      change W p l e R s m args below meth c H locs cells slots Q (F0 m pc ls (.int (Int32.ofInt i) :: .ref (fs_ad o b sa 19) :: rest.map (fs_tv (fs_ad o b sa))))
      rw [e1]
      refine va_aldq hx hb hK hP 19 1 e9 rfl (fs_in ri h8 h9) hd ?_
      have k2 := kk H locs ls hP hS hl ⟨hR.1, hR.2.1, fun v hv => by rcases List.mem_cons.mp hv with rfl | hv; exact trivial; exact hR.2.2 v (by simp [hv])⟩ rfl
      change W p l e R s m args below meth c H locs cells slots Q (F0 m (pc + 1) ls (.ref (fs_ad o b sa (40 + 7 * i.toNat)) :: rest.map (fs_tv (fs_ad o b sa)))) at k2
      rw [e3] at k2
      rw [fs_nn ri]
      exact k2
    · simp only [fs_bad, Prod.mk.injEq] at he
      rw [← he.1] at ho
      exact ho.elim
  all_goals (replace he : fs_bad L st M = (ob, L', st', M') := he; simp only [fs_bad, Prod.mk.injEq] at he; rw [← he.1] at ho; exact ho.elim)
end FsOne
