/-! cells one behind the other, as the constructors lay them -/
def fs_wz (o n : Nat) (E : Nat → va_E) : va_W := (List.range n).map (fun r => (o + r, E r))
def fs_ov (E : Nat → va_E) (r : Nat) (e : va_E) : Nat → va_E := fun q => if q = r then e else E q
theorem fs_ov_at {E : Nat → va_E} {r : Nat} {e : va_E} : fs_ov E r e r = e := if_pos rfl
theorem fs_ov_ne {E : Nat → va_E} {r q : Nat} {e : va_E} (h : q ≠ r) : fs_ov E r e q = E q := if_neg h
theorem fs_ov_ov {E : Nat → va_E} {r : Nat} {e e2 : va_E} : fs_ov (fs_ov E r e) r e2 = fs_ov E r e2 := by
  funext q
  by_cases h : q = r
  · rw [h, fs_ov_at, fs_ov_at]
  · rw [fs_ov_ne h, fs_ov_ne h, fs_ov_ne h]
theorem fs_wz_get {o n r : Nat} {E : Nat → va_E} (h : r < n) : (fs_wz o n E)[r]? = some (o + r, E r) := by
  simp [fs_wz, List.getElem?_map, List.getElem?_range h]
theorem fs_wz_len {o n : Nat} {E : Nat → va_E} : (fs_wz o n E).length = n := by simp [fs_wz]
theorem fs_wz_app {o n : Nat} {E : Nat → va_E} : fs_wz o n E ++ [(o + n, E n)] = fs_wz o (n + 1) E := by
  simp [fs_wz, List.range_succ]
theorem fs_wz_congr {o n : Nat} {E E' : Nat → va_E} (h : ∀ r, r < n → E r = E' r) : fs_wz o n E = fs_wz o n E' := by
  unfold fs_wz
  apply List.map_congr_left
  intro r hr
  rw [h r (List.mem_range.mp hr)]
theorem fs_wz_set {o n r : Nat} {E : Nat → va_E} {e : va_E} (h : r < n) : (fs_wz o n E).set r (o + r, e) = fs_wz o n (fs_ov E r e) := by
  apply List.ext_getElem?
  intro k
  by_cases hk : k < n
  · rw [fs_wz_get hk]
    by_cases q : k = r
    · subst q
      rw [List.getElem?_set_self (by rw [fs_wz_len]; exact hk), fs_ov_at]
    · rw [List.getElem?_set_ne (fun z => q z.symm), fs_wz_get hk, fs_ov_ne q]
  · rw [List.getElem?_eq_none (by rw [List.length_set, fs_wz_len]; omega), List.getElem?_eq_none (by rw [fs_wz_len]; omega)]
theorem fs_wz_key {o n k : Nat} {E : Nat → va_E} {q : Nat × va_E} (h : (fs_wz o n E)[k]? = some q) : k < n ∧ q.1 = o + k := by
  have hk : k < n := by
    rw [← fs_wz_len (o := o) (n := n) (E := E)]
    exact (List.getElem?_eq_some_iff.mp h).1
  rw [fs_wz_get hk] at h
  exact ⟨hk, by rw [← Option.some.inj h]⟩
theorem fs_wz_D {o n : Nat} {E : Nat → va_E} : va_D (fun q => o ≤ q) (fs_wz o n E) := by
  refine ⟨fun i j p q hp hq h => ?_, fun k q h => ?_⟩
  · have := (fs_wz_key hp).2
    have := (fs_wz_key hq).2
    omega
  · rw [(fs_wz_key h).2]
    omega
/-- a new cell is the next one -/
theorem fs_nq {D : va_G} {o n q : Nat} {E : Nat → va_E} {x : va_E} {H1 : Heap} (hD : va_D (fun q => o ≤ q) (fs_wz o n E ++ [(q, x)])) (hP : va_P D vwCl (fs_wz o n E ++ [(q, x)]) H1) (hle : H1.size ≤ o + n + 1) : q = o + n ∧ H1.size = o + (n + 1) := by
  have e : (fs_wz o n E ++ [(q, x)])[n]? = some (q, x) := by
    rw [List.getElem?_append_right (by rw [fs_wz_len]; exact Nat.le_refl _), fs_wz_len, Nat.sub_self]
    rfl
  have h1 : o ≤ q := hD.2 n _ e
  have h2 : q < H1.size := (hP n _ e).lt
  have h3 : ∀ r, r < n → q ≠ o + r := fun r hr z => by
    have := hD.1 r n (o + r, E r) (q, x) (by rw [List.getElem?_append_left (by rw [fs_wz_len]; exact hr), fs_wz_get hr]) e z.symm
    omega
  have h4 : ¬ q < o + n := fun z => h3 (q - o) (by omega) (by omega)
  omega
def fs_df (ci : Nat) : List Value := (List.range (fs_n ci)).map (fun k => defaultValue (fs_ty ci k))
abbrev fs_tys (cA cB : ClassId) : List (ClassId × FieldType) := [(cA, .int), (cB, .object "FireSale$Book")]
section FsInit
variable {p : Program} {l : Launch} {e : Env} {R : Room} {s : State} {m : MethodId} {args : Array Value} {below : List Frame} {meth : Method} {c : Code} {H : Heap} {locs : List Loc} {cells slots : Nat} {Q : State → Prop} {cc : ByteArray} {pc : Nat} {ls : Array Slot} {rest : List Value}
variable {dC : Nat → ClassId} {dI : Nat → Nat → Nat} {o n n' : Nat} {cA cB : ClassId} {own : String} {E : Nat → va_E}
theorem fs_szW {g : JFrame} (k : H.size ≤ s.heap.size + cells → W p l e R s m args below meth c H locs cells slots Q g) : W p l e R s m args below meth c H locs cells slots Q g := fun T hT X => k (by
  rw [← hT]
  exact X.same.2.2.1) T hT X
theorem fs_newZ {ci index : Nat} {E' : Nat → va_E} (hx : p.tables.exec = Jvm.exec) (hb : c.code = cc) (hts : ∀ w ∈ fs_good, w.before args s = true) (hown : s.vm.findClass own = some m.cls) (hK : va_K (dC, dI) vwCl (fs_tys cA cB) s) (ho : o ≤ s.heap.size) (hn : n' = n + 1) (hz : H.size = o + n) (hc : H.size = s.heap.size + cells)
    (hP : va_P (dC, dI) vwCl (fs_wz o n E) H) (hS : va_S (fun q => o ≤ q) s.heap H locs) (hci : ci < 7) (hE : ∀ r, r < n → E' r = E r) (hEn : E' n = .inr (ci, fs_df ci)) (hcl : Cond.classLink own index (fs_rn ci) ∈ fs_good) (hinst : Cond.instantiable (fs_rn ci) (fs_n ci) ∈ fs_good) (hini : Cond.initialized (fs_rn ci) ∈ fs_good)
    (hcells : cells + 1 ≤ R.cells) (hslots : slots + fs_n ci ≤ R.slots) (hdg : decode cc pc = .ok (.new index, 3))
    (kk : ∀ H1 : Heap, H1.size = o + n' → H1.size = s.heap.size + (cells + 1) → va_P (dC, dI) vwCl (fs_wz o n' E') H1 → va_S (fun q => o ≤ q) s.heap H1 locs → W p l e R s m args below meth c H1 locs (cells + 1) (slots + fs_n ci) Q (F0 m (pc + 3) ls (.ref (o + n) :: rest))) : W p l e R s m args below meth c H locs cells slots Q (F0 m pc ls rest) := by
  subst hn
  refine va_new (D := (dC, dI)) (ci := ci) (fs := fs_df ci) (C := fs_rn ci) (T := fs_T ci) (N := fs_n ci) hx hb hts (fs_inok _ hci) (fs_ty _) (fs_tyok _ hci) hown (hts _ hcl) (hts _ hinst) (hts _ hini) hK hP fs_wz_D hS (fun q h => Nat.le_trans ho h) (fs_clget _ hci) (fun j hj => by simp [fs_df, vp_V, List.getD, List.getElem?_range hj]) hcells hslots hdg (fun q H1 hP1 hD1 hS1 => fs_szW (fun hle => ?_))
  obtain ⟨rfl, z⟩ := fs_nq hD1 hP1 (by omega)
  have e1 : fs_wz o n E ++ [(o + n, .inr (ci, fs_df ci))] = fs_wz o (n + 1) E' := by
    rw [fs_wz_congr (fun r h => (hE r h).symm), ← hEn, fs_wz_app]
  rw [e1] at hP1
  exact kk H1 z (by omega) hP1 hS1
theorem fs_newaZ {k : Int32} {N : Nat} (hx : p.tables.exec = Jvm.exec) (hb : c.code = cc) (hts : ∀ w ∈ fs_good, w.before args s = true) (hK : va_K (dC, dI) vwCl (fs_tys cA cB) s) (ho : o ≤ s.heap.size) (hn : n' = n + 1) (hz : H.size = o + n) (hc : H.size = s.heap.size + cells)
    (hP : va_P (dC, dI) vwCl (fs_wz o n E) H) (hS : va_S (fun q => o ≤ q) s.heap H locs) (hEn : E n = .inl (cA, N, .inl (fun _ => 0))) (hk : ¬ k < 0) (hN : k.toNatClampNeg = N) (hby : N * 4 ≤ 536870912) (hcells : cells + 1 ≤ R.cells) (hslots : slots + N ≤ R.slots) (hdg : decode cc pc = .ok (.newarray .int, 2))
    (kk : ∀ H1 : Heap, H1.size = o + n' → H1.size = s.heap.size + (cells + 1) → va_P (dC, dI) vwCl (fs_wz o n' E) H1 → va_S (fun q => o ≤ q) s.heap H1 locs → W p l e R s m args below meth c H1 locs (cells + 1) (slots + N) Q (F0 m (pc + 2) ls (.ref (o + n) :: rest))) : W p l e R s m args below meth c H locs cells slots Q (F0 m pc ls (.int k :: rest)) := by
  subst hn
  refine va_newa (D := (dC, dI)) (ty := .int) (a0 := (N, .inl (fun _ => 0))) hx hb (hts _ (fs_ok_mem (p := 156) (by decide +kernel))) rfl hK hP fs_wz_D hS (fun q h => Nat.le_trans ho h) (fun _ => rfl) hk hN hby hcells hslots hdg (fun q cA' H1 hK1 hP1 hD1 hS1 => fs_szW (fun hle => ?_))
  obtain ⟨rfl, z⟩ := fs_nq hD1 hP1 (by omega)
  have a1 : va_RA s cA' .int := (hK1.2 2 (cA', .int) rfl).2
  have a2 : va_RA s cA .int := (hK.2 0 (cA, .int) rfl).2
  have ea : cA' = cA := Option.some.inj (a1.symm.trans a2)
  subst ea
  have e1 : fs_wz o n E ++ [(o + n, .inl (cA', N, .inl (fun _ => 0)))] = fs_wz o (n + 1) E := by rw [← hEn, fs_wz_app]
  rw [e1] at hP1
  exact kk H1 z (by omega) hP1 hS1
theorem fs_szP {D : va_G} {H1 : Heap} (hP : va_P D vwCl (fs_wz o n E) H1) (h0 : 0 < n) : o + n ≤ H1.size := by
  have : o + (n - 1) < H1.size := (hP (n - 1) _ (fs_wz_get (by omega))).lt
  omega
theorem fs_putZ {r0 ci k index : Nat} {fs : List Value} {v : Value} {ty : FieldType} (hx : p.tables.exec = Jvm.exec) (hb : c.code = cc) (hts : ∀ w ∈ fs_good, w.before args s = true) (hown : s.vm.findClass own = some m.cls) (hK : va_K (dC, dI) vwCl (fs_tys cA cB) s) (hz : H.size = o + n) (hc : H.size = s.heap.size + cells)
    (hP : va_P (dC, dI) vwCl (fs_wz o n (fs_ov E r0 (.inr (ci, fs)))) H) (hS : va_S (fun q => o ≤ q) s.heap H locs) (hr : r0 < n) (hci : ci < 7) (hk : k < fs_n ci) (hlen : fs.length = fs_n ci) (hlink : Cond.fieldLink own index own (fs_T ci k).2.1 (fs_T ci k).2.2.1 ∈ fs_good) (hin : meth.name = "<init>") (hdecl : (fs_T ci k).1 = own)
    (hd : parseFieldDescriptor (fs_T ci k).2.2.1 = some ty) (hnar : narrow ty v = v) (hfit : fits ty v = true) (hdg : decode cc pc = .ok (.putfield index, 3))
    (kk : ∀ (H1 : Heap) (locs1 : List Loc), H1.size = o + n → H1.size = s.heap.size + cells → va_P (dC, dI) vwCl (fs_wz o n (fs_ov E r0 (.inr (ci, fs.set k v)))) H1 → va_S (fun q => o ≤ q) s.heap H1 locs1 → W p l e R s m args below meth c H1 locs1 cells slots Q (F0 m (pc + 3) ls rest)) : W p l e R s m args below meth c H locs cells slots Q (F0 m pc ls (v :: .ref (o + r0) :: rest)) := by
  have hg : (fs_wz o n (fs_ov E r0 (.inr (ci, fs))))[r0]? = some (o + r0, .inr (ci, fs)) := by rw [fs_wz_get hr, fs_ov_at]
  have fin : ∀ (H1 : Heap) (locs1 : List Loc), va_P (dC, dI) vwCl ((fs_wz o n (fs_ov E r0 (.inr (ci, fs)))).set r0 (o + r0, .inr (ci, fs.set k v))) H1 → va_S (fun q => o ≤ q) s.heap H1 locs1 → W p l e R s m args below meth c H1 locs1 cells slots Q (F0 m (pc + 3) ls rest) := fun H1 locs1 hP1 hS1 => fs_szW (fun hle => by
    rw [fs_wz_set hr, fs_ov_ov] at hP1
    have := fs_szP hP1 (by omega)
    exact kk H1 locs1 (by omega) (by omega) hP1 hS1)
  cases hf : (fs_T ci k).2.2.2 with
  | true => exact va_putF (D := (dC, dI)) (ci := ci) (C := fs_rn ci) (T := fs_T ci) (N := fs_n ci) hx hb hts (fs_inok _ hci) (fs_ty _) (fs_tyok _ hci) (fs_nmok _ hci) hown hK hP fs_wz_D hS r0 hg (fs_clget _ hci) k hk (hts _ hlink) (by rw [hdecl]; exact fun x q => q) hf hin hdecl hd hnar hfit (by rw [hlen]; exact hk) hdg (fun H1 locs1 hP1 _ hS1 => fin H1 locs1 hP1 hS1)
  | false => exact va_put (D := (dC, dI)) (ci := ci) (C := fs_rn ci) (T := fs_T ci) (N := fs_n ci) hx hb hts (fs_inok _ hci) (fs_ty _) (fs_tyok _ hci) (fs_nmok _ hci) hown hK hP fs_wz_D hS r0 hg (fs_clget _ hci) k hk (hts _ hlink) (by rw [hdecl]; exact fun x q => q) hf hd hnar hfit (by rw [hlen]; exact hk) hdg (fun H1 locs1 hP1 _ hS1 => fin H1 locs1 hP1 hS1)
end FsInit
theorem fs_en0 {o r N : Nat} {cA cB : ClassId} {M : fs_M} (h : fs_kd r = 100) (hl : (fs_ln r).toNat = N) (hM : ∀ j, M r j = 0) : fs_en o cA cB M r = .inl (cA, N, .inl (fun _ => 0)) := by
  unfold fs_en
  rw [if_pos h, hl]
  have : (fun j : Nat => Int32.ofInt (M r j)) = fun _ => 0 := by
    funext j
    rw [hM]
    rfl
  rw [this]
