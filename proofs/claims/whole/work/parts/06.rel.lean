/-! How the small machine's memory, locals and stack stand for the real ones -/
def fs_ad (o b : Nat) (sa : Nat → Nat) (r : Nat) : Nat := if r < fs_N then o + r else if r = 999 then b else sa (r - 1000)
def fs_tv (ad : Nat → Nat) : fs_V → Value
  | .inl n => .int (Int32.ofInt n)
  | .inr (.ref r) => .ref (ad r)
  | .inr v => v
def fs_fs (o : Nat) (M : fs_M) (r : Nat) : List Value := (List.range (fs_n (fs_kd r))).map (fun k => match fs_of (fs_kd r) k with
  | some d => .ref (o + (r + d))
  | none => .int (Int32.ofInt (M r k)))
def fs_en (o : Nat) (cA cB : ClassId) (M : fs_M) (r : Nat) : va_E :=
  if fs_kd r = 100 then .inl (cA, (fs_ln r).toNat, .inl (fun j => Int32.ofInt (M r j)))
  else if fs_kd r = 101 then .inl (cB, 12, .inr (.inr (.inr (.inr (fun i => some (o + (40 + 7 * i)))))))
  else .inr (fs_kd r, fs_fs o M r)
def fs_ws (o : Nat) (cA cB : ClassId) (M : fs_M) : va_W := (List.range fs_N).map (fun r => (o + r, fs_en o cA cB M r))
theorem fs_ws_get {o : Nat} {cA cB : ClassId} {M : fs_M} {r : Nat} (h : r < fs_N) : (fs_ws o cA cB M)[r]? = some (o + r, fs_en o cA cB M r) := by
  simp [fs_ws, List.getElem?_map, List.getElem?_range h]
theorem fs_ws_len {o : Nat} {cA cB : ClassId} {M : fs_M} : (fs_ws o cA cB M).length = fs_N := by simp [fs_ws]
theorem fs_up_other {M : fs_M} {r r' : Nat} {i v : Int} (h : r' ≠ r) : fs_up M r i v r' = M r' := by
  funext j
  simp [fs_up, h]
theorem fs_en_other {o : Nat} {cA cB : ClassId} {M : fs_M} {r r' : Nat} {i v : Int} (h : r' ≠ r) : fs_en o cA cB (fs_up M r i v) r' = fs_en o cA cB M r' := by
  simp only [fs_en, fs_fs, fs_up_other h]
theorem fs_ws_up {o : Nat} {cA cB : ClassId} {M : fs_M} {r : Nat} {i v : Int} {e' : va_E} (h : r < fs_N) (he : fs_en o cA cB (fs_up M r i v) r = e') : (fs_ws o cA cB M).set r (o + r, e') = fs_ws o cA cB (fs_up M r i v) := by
  subst he
  apply List.ext_getElem?
  intro k
  by_cases hk : k < fs_N
  · rw [fs_ws_get hk]
    by_cases e : k = r
    · subst e
      rw [List.getElem?_set_self (by rw [fs_ws_len]; exact hk)]
    · rw [List.getElem?_set_ne (fun q => e q.symm), fs_ws_get hk, fs_en_other e]
  · rw [List.getElem?_eq_none (by rw [List.length_set, fs_ws_len]; omega), List.getElem?_eq_none (by rw [fs_ws_len]; omega)]
theorem fs_ws_D {o : Nat} {cA cB : ClassId} {M : fs_M} : va_D (fun q => o ≤ q) (fs_ws o cA cB M) := by
  have key : ∀ (k : Nat) (q : Nat × va_E), (fs_ws o cA cB M)[k]? = some q → q.1 = o + k := by
    intro k q h
    have hk : k < fs_N := by
      rw [← fs_ws_len (o := o) (cA := cA) (cB := cB) (M := M)]
      exact (List.getElem?_eq_some_iff.mp h).1
    rw [fs_ws_get hk] at h
    rw [← Option.some.inj h]
  refine ⟨fun i j p q hp hq h => ?_, fun k q h => ?_⟩
  · have := key i p hp
    have := key j q hq
    omega
  · rw [key k q h]
    omega
def fs_vr : fs_V → Prop
  | .inl n => fs_rg n
  | _ => True
def fs_Rg (M : fs_M) (L : fs_L) (st : List fs_V) : Prop := (∀ r i, fs_rg (M r i)) ∧ (∀ (j : Nat) (v : fs_V), L[j]? = some (some v) → fs_vr v) ∧ ∀ v ∈ st, fs_vr v
def fs_LR (ad : Nat → Nat) (ls : Array Slot) (nL : Nat) (L : fs_L) : Prop := L.length ≤ nL ∧ ∃ l, lv_has ls nL l ∧ ∀ (j : Nat) (v : fs_V), L[j]? = some (some v) → (j, fs_tv ad v) ∈ l
theorem fs_LR_at {ad : Nat → Nat} {ls : Array Slot} {nL : Nat} {L : fs_L} (h : fs_LR ad ls nL L) {j : Nat} {v : fs_V} (e : fs_get L j = some v) : ls[j]? = some (.val (fs_tv ad v)) ∧ L[j]? = some (some v) := by
  obtain ⟨-, l, h1, h2⟩ := h
  have e2 : L[j]? = some (some v) := by
    unfold fs_get at e
    split at e
    · next v' h' => rw [h', Option.some.inj e]
    · cases e
  exact ⟨h1.2.2 _ (h2 j v e2), e2⟩
theorem fs_tv_cat (ad : Nat → Nat) (v : fs_V) : (fs_tv ad v).category = fs_cat v := by
  rcases v with n | v
  · rfl
  · cases v <;> rfl
theorem fs_kil_some {x : Option fs_V} {w : fs_V} (h : fs_kil x = some w) : x = some w ∧ fs_cat w = 1 := by
  rcases x with _ | v
  · simp [fs_kil] at h
  · rcases v with n | v
    · simp only [fs_kil, Option.some.injEq] at h
      subst h
      exact ⟨rfl, rfl⟩
    · cases v <;> simp only [fs_kil, Option.some.injEq, reduceCtorEq] at h <;> (subst h; exact ⟨rfl, rfl⟩)
theorem fs_sto_at : ∀ (L : fs_L) (j : Nat) (v : fs_V) (k : Nat) (w : fs_V), (fs_sto L j v)[k]? = some (some w) → (k = j ∧ w = v) ∨ (k ≠ j ∧ L[k]? = some (some w) ∧ (k + 1 = j → fs_cat w = 1))
  | [], j, v, k, w, h => by simp [fs_sto] at h
  | _ :: r, 0, v, k, w, h => by
    cases k with
    | zero =>
      simp [fs_sto] at h
      exact Or.inl ⟨rfl, h.symm⟩
    | succ k =>
      simp [fs_sto] at h
      exact Or.inr ⟨by omega, by simpa using h, by omega⟩
  | x :: r, 1, v, k, w, h => by
    cases k with
    | zero =>
      simp only [fs_sto, List.getElem?_cons_zero, Option.some.injEq] at h
      obtain ⟨h1, h2⟩ := fs_kil_some h
      exact Or.inr ⟨by omega, by simpa using h1, fun _ => h2⟩
    | succ k =>
      simp only [fs_sto, List.getElem?_cons_succ] at h
      rcases fs_sto_at r 0 v k w h with ⟨a, b⟩ | ⟨a, b, c⟩
      · exact Or.inl ⟨by omega, b⟩
      · exact Or.inr ⟨by omega, by simpa using b, by omega⟩
  | x :: r, j + 2, v, k, w, h => by
    cases k with
    | zero =>
      simp only [fs_sto, List.getElem?_cons_zero, Option.some.injEq] at h
      exact Or.inr ⟨by omega, by simpa using h, by omega⟩
    | succ k =>
      simp only [fs_sto, List.getElem?_cons_succ] at h
      rcases fs_sto_at r (j + 1) v k w h with ⟨a, b⟩ | ⟨a, b, c⟩
      · exact Or.inl ⟨by omega, b⟩
      · exact Or.inr ⟨by omega, by simpa using b, fun q => c (by omega)⟩
theorem fs_st2_at : ∀ (L : fs_L) (j : Nat) (v : fs_V) (k : Nat) (w : fs_V), (fs_st2 L j v)[k]? = some (some w) → (k = j ∧ w = v) ∨ (k ≠ j ∧ k ≠ j + 1 ∧ L[k]? = some (some w) ∧ (k + 1 = j → fs_cat w = 1))
  | [], j, v, k, w, h => by simp [fs_st2] at h
  | [_], j, v, k, w, h => by simp [fs_st2] at h
  | _ :: _ :: r, 0, v, k, w, h => by
    match k with
    | 0 =>
      simp [fs_st2] at h
      exact Or.inl ⟨rfl, h.symm⟩
    | 1 => simp [fs_st2] at h
    | k + 2 =>
      simp [fs_st2] at h
      exact Or.inr ⟨by omega, by omega, by simpa using h, by omega⟩
  | x :: y :: r, 1, v, k, w, h => by
    cases k with
    | zero =>
      simp only [fs_st2, List.getElem?_cons_zero, Option.some.injEq] at h
      obtain ⟨h1, h2⟩ := fs_kil_some h
      exact Or.inr ⟨by omega, by omega, by simpa using h1, fun _ => h2⟩
    | succ k =>
      simp only [fs_st2, List.getElem?_cons_succ] at h
      rcases fs_st2_at (y :: r) 0 v k w h with ⟨a, b⟩ | ⟨a, b, c, d⟩
      · exact Or.inl ⟨by omega, b⟩
      · exact Or.inr ⟨by omega, by omega, by simpa using c, by omega⟩
  | x :: y :: r, j + 2, v, k, w, h => by
    cases k with
    | zero =>
      simp only [fs_st2, List.getElem?_cons_zero, Option.some.injEq] at h
      exact Or.inr ⟨by omega, by omega, by simpa using h, by omega⟩
    | succ k =>
      simp only [fs_st2, List.getElem?_cons_succ] at h
      rcases fs_st2_at (y :: r) (j + 1) v k w h with ⟨a, b⟩ | ⟨a, b, c, d⟩
      · exact Or.inl ⟨by omega, b⟩
      · exact Or.inr ⟨by omega, by omega, by simpa using c, fun q => d (by omega)⟩
theorem fs_sto_len : ∀ (L : fs_L) (j : Nat) (v : fs_V), (fs_sto L j v).length = L.length
  | [], j, v => rfl
  | _ :: r, 0, v => rfl
  | x :: r, 1, v => by simp [fs_sto, fs_sto_len r 0 v]
  | x :: r, j + 2, v => by simp [fs_sto, fs_sto_len r (j + 1) v]
theorem fs_st2_len : ∀ (L : fs_L) (j : Nat) (v : fs_V), (fs_st2 L j v).length ≤ L.length
  | [], j, v => Nat.le_refl _
  | [_], j, v => by simp [fs_st2]
  | _ :: _ :: r, 0, v => Nat.le_refl _
  | x :: y :: r, 1, v => by have := fs_st2_len (y :: r) 0 v; simp only [fs_st2, List.length_cons] at *; omega
  | x :: y :: r, j + 2, v => by have := fs_st2_len (y :: r) (j + 1) v; simp only [fs_st2, List.length_cons] at *; omega
/-- behind a store of one slot -/
theorem fs_LR_s1 {ad : Nat → Nat} {ls' : Array Slot} {nL : Nat} {L : fs_L} {l : List (Nat × Value)} {j : Nat} {v : fs_V} (hlen : L.length ≤ nL) (hl : ∀ (j : Nat) (v : fs_V), L[j]? = some (some v) → (j, fs_tv ad v) ∈ l)
    (h : lv_has ls' nL ((j, fs_tv ad v) :: l.filter (fun q => !(q.1 == j) && !(q.1 + 1 == j && q.2.category == 2)))) : fs_LR ad ls' nL (fs_sto L j v) := by
  refine ⟨by rw [fs_sto_len]; exact hlen, _, h, fun k w hk => ?_⟩
  rcases fs_sto_at L j v k w hk with ⟨rfl, rfl⟩ | ⟨a, b, c⟩
  · exact List.mem_cons_self
  · refine List.mem_cons_of_mem _ (List.mem_filter.mpr ⟨hl k w b, ?_⟩)
    simp only [fs_tv_cat, Bool.and_eq_true, Bool.not_eq_true', beq_eq_false_iff_ne, ne_eq, Bool.and_eq_false_iff]
    refine ⟨a, ?_⟩
    by_cases q : k + 1 = j
    · right
      rw [c q]
      decide
    · exact Or.inl q
theorem fs_LR_s2 {ad : Nat → Nat} {ls' : Array Slot} {nL : Nat} {L : fs_L} {l : List (Nat × Value)} {j : Nat} {v : fs_V} (hlen : L.length ≤ nL) (hl : ∀ (j : Nat) (v : fs_V), L[j]? = some (some v) → (j, fs_tv ad v) ∈ l)
    (h : lv_has ls' nL ((j, fs_tv ad v) :: l.filter (fun q => !(q.1 == j) && (!(q.1 == j + 1) && !(q.1 + 1 == j && q.2.category == 2))))) : fs_LR ad ls' nL (fs_st2 L j v) := by
  refine ⟨Nat.le_trans (fs_st2_len L j v) hlen, _, h, fun k w hk => ?_⟩
  rcases fs_st2_at L j v k w hk with ⟨rfl, rfl⟩ | ⟨a, a2, b, c⟩
  · exact List.mem_cons_self
  · refine List.mem_cons_of_mem _ (List.mem_filter.mpr ⟨hl k w b, ?_⟩)
    simp only [fs_tv_cat, Bool.and_eq_true, Bool.not_eq_true', beq_eq_false_iff_ne, ne_eq, Bool.and_eq_false_iff]
    refine ⟨a, a2, ?_⟩
    by_cases q : k + 1 = j
    · right
      rw [c q]
      decide
    · exact Or.inl q
theorem fs_vr_s1 {L : fs_L} {j : Nat} {v : fs_V} (hL : ∀ (j : Nat) (v : fs_V), L[j]? = some (some v) → fs_vr v) (hv : fs_vr v) : ∀ (k : Nat) (w : fs_V), (fs_sto L j v)[k]? = some (some w) → fs_vr w := by
  intro k w h
  rcases fs_sto_at L j v k w h with ⟨-, rfl⟩ | ⟨-, b, -⟩
  · exact hv
  · exact hL k w b
theorem fs_vr_s2 {L : fs_L} {j : Nat} {v : fs_V} (hL : ∀ (j : Nat) (v : fs_V), L[j]? = some (some v) → fs_vr v) (hv : fs_vr v) : ∀ (k : Nat) (w : fs_V), (fs_st2 L j v)[k]? = some (some w) → fs_vr w := by
  intro k w h
  rcases fs_st2_at L j v k w h with ⟨-, rfl⟩ | ⟨-, -, b, -⟩
  · exact hv
  · exact hL k w b
/-- 32-bit numbers as whole ones -/
theorem fs_ti {n : Int} (h : fs_rg n) : (Int32.ofInt n).toInt = n := Int32.toInt_ofInt_of_le h.1 (by have := h.2; omega)
theorem fs_of_ti {x : Int32} {n : Int} (h : x.toInt = n) : Int32.ofInt n = x := by rw [← h, Int32.ofInt_toInt]
theorem fs_rg_ti (x : Int32) : fs_rg x.toInt := by
  have h1 := x.toInt_lt
  have h2 := x.le_toInt
  constructor <;> omega
theorem fs_lt {a b : Int} (ha : fs_rg a) (hb : fs_rg b) : Int32.ofInt a < Int32.ofInt b ↔ a < b := by rw [Int32.lt_iff_toInt_lt, fs_ti ha, fs_ti hb]
theorem fs_le {a b : Int} (ha : fs_rg a) (hb : fs_rg b) : Int32.ofInt a ≤ Int32.ofInt b ↔ a ≤ b := by rw [Int32.le_iff_toInt_le, fs_ti ha, fs_ti hb]
theorem fs_eq {a b : Int} (ha : fs_rg a) (hb : fs_rg b) : Int32.ofInt a = Int32.ofInt b ↔ a = b := by rw [← Int32.toInt_inj, fs_ti ha, fs_ti hb]
theorem fs_ti0 : Int32.ofInt 0 = 0 := by decide
theorem fs_nn {n : Int} (h : fs_rg n) : (Int32.ofInt n).toNatClampNeg = n.toNat := by
  rw [← fs_ti h]
  simp [Int32.toNatClampNeg]
theorem fs_div {a b : Int} (ha : fs_rg a) (hb : fs_rg b) (h0 : 0 ≤ a) (h1 : 0 < b) : Int32.ofInt (a / b) = Int32.ofInt a / Int32.ofInt b := by
  apply fs_of_ti
  rw [Int32.toInt_div, fs_ti ha, fs_ti hb, Int.tdiv_eq_ediv_of_nonneg h0]
  have h2 : 0 ≤ a / b := Int.ediv_nonneg h0 (by omega)
  have h3 : a / b ≤ a := Int.ediv_le_self b h0
  have := ha.2
  exact Int.bmod_eq_of_le (by omega) (by omega)
theorem fs_rg_div {a b : Int} (ha : fs_rg a) (h0 : 0 ≤ a) (h1 : 0 < b) : fs_rg (a / b) := by
  have h2 : 0 ≤ a / b := Int.ediv_nonneg h0 (by omega)
  have h3 : a / b ≤ a := Int.ediv_le_self b h0
  have := ha.2
  constructor <;> omega
theorem fs_rg_mod {a b : Int} (hb : fs_rg b) (h1 : 0 < b) : fs_rg (a % b) := by
  have h2 := Int.emod_nonneg a (show b ≠ 0 by omega)
  have h3 := Int.emod_lt_of_pos a h1
  have := hb.2
  constructor <;> omega
theorem fs_mod {a b : Int} (ha : fs_rg a) (hb : fs_rg b) (h0 : 0 ≤ a) (h1 : 0 < b) : Int32.ofInt (a % b) = Int32.ofInt a - Int32.ofInt a / Int32.ofInt b * Int32.ofInt b := by
  have e : a % b = a - a / b * b := by
    have := Int.emod_add_mul_ediv a b
    rw [Int.mul_comm (a / b) b]
    omega
  rw [e, Int32.ofInt_sub, Int32.ofInt_mul, fs_div ha hb h0 h1]
theorem fs_i32_of (f : Int32 → Int32 → Int32) (a b : Int) : Int32.ofInt (fs_i32 f a b) = f (Int32.ofInt a) (Int32.ofInt b) := Int32.ofInt_toInt _
theorem fs_ne0 {n : Int} (h : fs_rg n) (h1 : 0 < n) : ¬ Int32.ofInt n = 0 := by
  intro e
  have := congrArg Int32.toInt e
  rw [fs_ti h] at this
  simp at this
  omega
theorem fs_in {i n : Int} (hi : fs_rg i) (h0 : 0 ≤ i) (h1 : i < n) : vp_in (Int32.ofInt i) n.toNat := by
  rw [vp_in_iff, fs_ti hi]
  omega
