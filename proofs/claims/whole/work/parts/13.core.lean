/-! The pure core: an economy E (0: assets, houses, forced; 1 tops; 2 slopes; 3 caps; 4 bought; 5 held; 7 own; 8 pieces; 9 facts; 10 holdings; 11 loans), a state S (0 .. 3 what is sold, 4 who is fallen), its next one -/
def fs_bt (f o : Int) : Int := fs_and (fs_shr f o) 1
def ec_price (E : Nat → Int → Int) (a n : Int) : Int := max 0 (E 1 a - E 2 a * max 0 (n - E 4 a))
def ec_val (E : Nat → Int → Int) (S : Int → Int) (h : Int) : Int := fs_sum (E 0 0).toNat (fun a => E 10 (4 * h + a) * ec_price E a (S a))
def ec_owed (E : Nat → Int → Int) (S : Int → Int) (h : Int) : Int := fs_sum (E 0 1).toNat (fun o => if fs_bt (S 4) o = 0 then E 11 (6 * o + h) else 0)
def ec_worth (E : Nat → Int → Int) (S : Int → Int) (h : Int) : Int := E 7 h + ec_val E S h + ec_owed E S h
def ec_due (E : Nat → Int → Int) (h w : Int) : Int := if w < 0 then E 8 h else if E 9 (5 * h + 2) - w ≤ 0 then min (E 8 h) 0 else min (E 8 h) ((E 9 (5 * h + 2) - w + E 9 (5 * h + 3) - 1) / E 9 (5 * h + 3))
def ec_ord (E : Nat → Int → Int) (h k : Int) : Int := if E 9 (5 * h + 4) = 0 then k else E 0 0 - 1 - k
def ec_left (E : Nat → Int → Int) (h due k : Int) : Int := max 0 (due - fs_sum k.toNat (fun j => E 10 (4 * h + ec_ord E h j)))
def ec_part (E : Nat → Int → Int) (h due a : Int) : Int := min (E 10 (4 * h + a)) (ec_left E h due (ec_ord E h a))
def ec_pt (E : Nat → Int → Int) (S : Int → Int) (a h : Int) : Int := ec_part E h (ec_due E h (ec_worth E S h)) a
def ec_ns (E : Nat → Int → Int) (S : Int → Int) (a : Int) : Int := if 0 ≤ a ∧ a < E 0 0 then min (fs_sum (E 0 1).toNat (fun h => ec_pt E S a h)) (E 3 a) else 0
def ec_nf (E : Nat → Int → Int) (S : Int → Int) : Nat → Int
  | 0 => E 0 2
  | h + 1 => if ec_worth E S (h : Int) < 0 then fs_or (ec_nf E S h) (fs_shl 1 (h : Int)) else ec_nf E S h
def ec_next (E : Nat → Int → Int) (S : Int → Int) : Int → Int := fun i => if i = 4 then ec_nf E S (E 0 1).toNat else ec_ns E S i
def ec_it (E : Nat → Int → Int) (S : Int → Int) : Nat → Int → Int
  | 0 => S
  | k + 1 => ec_next E (ec_it E S k)
/-- at k for the first time the next one is the same -/
def ec_first (E : Nat → Int → Int) (S : Int → Int) (k : Nat) : Prop := (∀ j, j < k → ¬ ec_it E S (j + 1) = ec_it E S j) ∧ ec_it E S (k + 1) = ec_it E S k
def ec_lost (E : Nat → Int → Int) (S : Int → Int) : Int := fs_sum (E 0 0).toNat (fun a => E 5 a * (ec_price E a 0 - ec_price E a (S a)))
theorem ec_nf_s {E : Nat → Int → Int} {S : Int → Int} {h : Int} (h0 : 0 ≤ h) : ec_nf E S (h + 1).toNat = if ec_worth E S h < 0 then fs_or (ec_nf E S h.toNat) (fs_shl 1 h) else ec_nf E S h.toNat := by
  obtain ⟨n, rfl⟩ := Int.eq_ofNat_of_zero_le h0
  rfl
/-! sets of six as bits -/
theorem fs_bt01 {f o : Int} (h0 : 0 ≤ f) (h1 : f < 64) (h2 : 0 ≤ o) (h3 : o < 6) : fs_bt f o = 0 ∨ fs_bt f o = 1 := by
  have key : ∀ f : Fin 64, ∀ o : Fin 6, fs_bt (f.val : Int) (o.val : Int) = 0 ∨ fs_bt (f.val : Int) (o.val : Int) = 1 := by decide +kernel
  have := key ⟨f.toNat, by omega⟩ ⟨o.toNat, by omega⟩
  simp only [Int.toNat_of_nonneg h0, Int.toNat_of_nonneg h2] at this
  exact this
theorem fs_orb {f o : Int} (h0 : 0 ≤ f) (h1 : f < 64) (h2 : 0 ≤ o) (h3 : o < 6) : 0 ≤ fs_or f (fs_shl 1 o) ∧ fs_or f (fs_shl 1 o) < 64 ∧ f ≤ fs_or f (fs_shl 1 o) := by
  have key : ∀ f : Fin 64, ∀ o : Fin 6, 0 ≤ fs_or (f.val : Int) (fs_shl 1 (o.val : Int)) ∧ fs_or (f.val : Int) (fs_shl 1 (o.val : Int)) < 64 ∧ (f.val : Int) ≤ fs_or (f.val : Int) (fs_shl 1 (o.val : Int)) := by decide +kernel
  have := key ⟨f.toNat, by omega⟩ ⟨o.toNat, by omega⟩
  simp only [Int.toNat_of_nonneg h0, Int.toNat_of_nonneg h2] at this
  exact this
theorem fs_or0 {f : Int} (h0 : 0 ≤ f) (h1 : f < 64) : fs_or f 0 = f := by
  have key : ∀ f : Fin 64, fs_or (f.val : Int) 0 = (f.val : Int) := by decide +kernel
  have := key ⟨f.toNat, by omega⟩
  simp only [Int.toNat_of_nonneg h0] at this
  exact this
theorem fs_btor {f o q : Int} (h0 : 0 ≤ f) (h1 : f < 64) (h2 : 0 ≤ o) (h3 : o < 6) (h4 : 0 ≤ q) (h5 : q < 6) : fs_bt (fs_or f (fs_shl 1 o)) q = if q = o then 1 else fs_bt f q := by
  have key : ∀ f : Fin 64, ∀ o : Fin 6, ∀ q : Fin 6, fs_bt (fs_or (f.val : Int) (fs_shl 1 (o.val : Int))) (q.val : Int) = if (q.val : Int) = (o.val : Int) then 1 else fs_bt (f.val : Int) (q.val : Int) := by decide +kernel
  have := key ⟨f.toNat, by omega⟩ ⟨o.toNat, by omega⟩ ⟨q.toNat, by omega⟩
  simp only [Int.toNat_of_nonneg h0, Int.toNat_of_nonneg h2, Int.toNat_of_nonneg h4] at this
  exact this
theorem ec_nf_b {E : Nat → Int → Int} {S : Int → Int} (hf : 0 ≤ E 0 2 ∧ E 0 2 < 64) : ∀ n : Nat, n ≤ 6 → 0 ≤ ec_nf E S n ∧ ec_nf E S n < 64
  | 0, _ => hf
  | n + 1, h => by
    have ih := ec_nf_b (E := E) (S := S) hf n (by omega)
    unfold ec_nf
    split
    · have := fs_orb ih.1 ih.2 (show (0 : Int) ≤ n by omega) (by omega)
      exact ⟨this.1, this.2.1⟩
    · exact ih
/-! what the Model's memory means -/
def mm_cap1 (N : Int → Int) (a s : Int) : Nat → Int → Int
  | 0, c => c
  | k + 1, c => if N (100 + 13 * s + 1 + 3 * (k : Int) + 0) = 0 ∧ N (100 + 13 * s + 1 + 3 * (k : Int) + 1) = a ∧ N (100 + 13 * s + 1 + 3 * (k : Int) + 2) < mm_cap1 N a s k c then N (100 + 13 * s + 1 + 3 * (k : Int) + 2) else mm_cap1 N a s k c
def mm_capS (N : Int → Int) (a : Int) : Nat → Int
  | 0 => 360
  | s + 1 => mm_cap1 N a (s : Int) (N (100 + 13 * (s : Int))).toNat (mm_capS N a s)
def mm_cap (N : Int → Int) (a : Int) : Int := mm_capS N a 3
def mm_sh1 (N : Int → Int) (a s : Int) : Nat → Int → Int
  | 0, c => c
  | k + 1, c => mm_sh1 N a s k c + (if N (100 + 13 * s + 1 + 3 * (k : Int) + 0) = 1 ∧ N (100 + 13 * s + 1 + 3 * (k : Int) + 1) = a then N (100 + 13 * s + 1 + 3 * (k : Int) + 2) else 0)
def mm_shS (N : Int → Int) (a : Int) : Nat → Int
  | 0 => 0
  | s + 1 => mm_sh1 N a (s : Int) (N (100 + 13 * (s : Int))).toNat (mm_shS N a s)
def mm_shock (N : Int → Int) (a : Int) : Int := mm_shS N a 3
theorem mm_cap1_s {N : Int → Int} {a s k c : Int} (h : 0 ≤ k) : mm_cap1 N a s (k + 1).toNat c = if N (100 + 13 * s + 1 + 3 * k + 0) = 0 ∧ N (100 + 13 * s + 1 + 3 * k + 1) = a ∧ N (100 + 13 * s + 1 + 3 * k + 2) < mm_cap1 N a s k.toNat c then N (100 + 13 * s + 1 + 3 * k + 2) else mm_cap1 N a s k.toNat c := by
  obtain ⟨n, rfl⟩ := Int.eq_ofNat_of_zero_le h
  rfl
theorem mm_capS_s {N : Int → Int} {a s : Int} (h : 0 ≤ s) : mm_capS N a (s + 1).toNat = mm_cap1 N a s (N (100 + 13 * s)).toNat (mm_capS N a s.toNat) := by
  obtain ⟨n, rfl⟩ := Int.eq_ofNat_of_zero_le h
  rfl
theorem mm_sh1_s {N : Int → Int} {a s k c : Int} (h : 0 ≤ k) : mm_sh1 N a s (k + 1).toNat c = mm_sh1 N a s k.toNat c + (if N (100 + 13 * s + 1 + 3 * k + 0) = 1 ∧ N (100 + 13 * s + 1 + 3 * k + 1) = a then N (100 + 13 * s + 1 + 3 * k + 2) else 0) := by
  obtain ⟨n, rfl⟩ := Int.eq_ofNat_of_zero_le h
  rfl
theorem mm_shS_s {N : Int → Int} {a s : Int} (h : 0 ≤ s) : mm_shS N a (s + 1).toNat = mm_sh1 N a s (N (100 + 13 * s)).toNat (mm_shS N a s.toNat) := by
  obtain ⟨n, rfl⟩ := Int.eq_ofNat_of_zero_le h
  rfl
theorem mm_cap1_b {N : Int → Int} {a s c : Int} (hN : fs_NI N) (hs : 0 ≤ s ∧ s < 3) (hc : 0 ≤ c ∧ c ≤ 360) : ∀ k : Nat, k ≤ 4 → 0 ≤ mm_cap1 N a s k c ∧ mm_cap1 N a s k c ≤ 360
  | 0, _ => hc
  | k + 1, h => by
    have ih := mm_cap1_b (a := a) hN hs hc k (by omega)
    obtain ⟨-, -, -, -, -, -, -, hit, -⟩ := hN
    have := hit s k 2 hs.1 hs.2 (by omega) (by omega) (by omega) (by omega)
    unfold mm_cap1
    split <;> omega
theorem mm_capS_b {N : Int → Int} {a : Int} (hN : fs_NI N) : ∀ s : Nat, s ≤ 3 → 0 ≤ mm_capS N a s ∧ mm_capS N a s ≤ 360
  | 0, _ => by unfold mm_capS; omega
  | s + 1, h => by
    have ih := mm_capS_b (a := a) hN s (by omega)
    have hsh := hN.2.2.2.2.2.2.1 s (by omega) (by omega)
    exact mm_cap1_b hN ⟨by omega, by omega⟩ ih _ (by omega)
theorem mm_cap_b {N : Int → Int} {a : Int} (hN : fs_NI N) : 0 ≤ mm_cap N a ∧ mm_cap N a ≤ 360 := mm_capS_b hN 3 (by omega)
theorem mm_sh1_b {N : Int → Int} {a s c : Int} (hN : fs_NI N) (hs : 0 ≤ s ∧ s < 3) (hc : 0 ≤ c) : ∀ k : Nat, k ≤ 4 → 0 ≤ mm_sh1 N a s k c ∧ mm_sh1 N a s k c ≤ c + 360 * k
  | 0, _ => by simp [mm_sh1, hc]
  | k + 1, h => by
    have ih := mm_sh1_b (a := a) hN hs hc k (by omega)
    obtain ⟨-, -, -, -, -, -, -, hit, -⟩ := hN
    have := hit s k 2 hs.1 hs.2 (by omega) (by omega) (by omega) (by omega)
    unfold mm_sh1
    split <;> omega
theorem mm_shS_b {N : Int → Int} {a : Int} (hN : fs_NI N) : ∀ s : Nat, s ≤ 3 → 0 ≤ mm_shS N a s ∧ mm_shS N a s ≤ 1440 * s
  | 0, _ => by unfold mm_shS; omega
  | s + 1, h => by
    have ih := mm_shS_b (a := a) hN s (by omega)
    have hsh := hN.2.2.2.2.2.2.1 s (by omega) (by omega)
    have := mm_sh1_b (a := a) hN ⟨show (0 : Int) ≤ s by omega, by omega⟩ ih.1 (N (100 + 13 * (s : Int))).toNat (by omega)
    unfold mm_shS
    omega
theorem mm_shock_b {N : Int → Int} {a : Int} (hN : fs_NI N) : 0 ≤ mm_shock N a ∧ mm_shock N a ≤ 4320 := mm_shS_b hN 3 (by omega)
def mm_st (M : fs_M) : Int → Int := fun i => if i = 4 then M 124 15 else if 0 ≤ i ∧ i < 4 then M 129 i else 0
def mm_E (M : fs_M) : Nat → Int → Int := fun c i => match c with
  | 0 => if i = 0 then M 125 0 else if i = 1 then M 125 1 else M 124 25
  | 1 => M 125 (2 + i) * M 124 24 / 100 - (mm_shock (M 125) i + (if i = M 124 19 then M 124 21 else 0))
  | 2 => M 125 (6 + i)
  | 3 => if i = M 124 19 ∧ M 124 20 < mm_cap (M 125) i then M 124 20 else mm_cap (M 125) i
  | 4 => if i = M 124 22 then M 124 23 else 0
  | 5 => mm_held (M 125) i
  | 7 => M 125 (10 + 5 * i + 0) + (if 0 ≤ i ∧ i < 6 then M 131 i else 0) - M 125 (10 + 5 * i + 1) - fs_sum (M 125 1).toNat (fun o => M 125 (64 + 6 * i + o))
  | 8 => mm_pieces (M 125) i
  | 9 => M 125 (10 + i)
  | 10 => M 125 (40 + i)
  | _ => M 125 (64 + i)
/-- bounds of what would be, and of the state -/
def mm_I (M : fs_M) : Prop := fs_NI (M 125) ∧ (∀ h, 0 ≤ h → h < 6 → -9999 ≤ M 131 h ∧ M 131 h ≤ 9999) ∧ (0 ≤ M 124 24 ∧ M 124 24 ≤ 100) ∧ (0 ≤ M 124 21 ∧ M 124 21 ≤ 200) ∧ (0 ≤ M 124 23 ∧ M 124 23 ≤ 360) ∧ (0 ≤ M 124 20 ∧ M 124 20 ≤ 360) ∧ (0 ≤ M 124 25 ∧ M 124 25 < 64)
def mm_J (M : fs_M) : Prop := (0 ≤ M 124 15 ∧ M 124 15 < 64) ∧ ∀ a, 0 ≤ a → a < 4 → 0 ≤ M 129 a ∧ M 129 a ≤ 360
/-- nothing but the next state's scratch has changed -/
def mm_f1 (M M2 : fs_M) : Prop := (∀ r, r ≠ 124 → r ≠ 130 → M2 r = M r) ∧ ∀ i, i ≠ 16 → M2 124 i = M 124 i
theorem mm_f1.rf {M : fs_M} : mm_f1 M M := ⟨fun _ _ _ => rfl, fun _ _ => rfl⟩
theorem mm_f1.tr {A B C : fs_M} (h : mm_f1 A B) (k : mm_f1 B C) : mm_f1 A C := ⟨fun r a b => (k.1 r a b).trans (h.1 r a b), fun i a => (k.2 i a).trans (h.2 i a)⟩
theorem mm_f1.u16 {M M2 : fs_M} {v : Int} (h : mm_f1 M M2) : mm_f1 M (fs_up M2 124 16 v) := ⟨fun r a b => by rw [fs_up_other a]; exact h.1 r a b, fun i a => by rw [show fs_up M2 124 16 v 124 i = M2 124 i by simp [fs_up, a]]; exact h.2 i a⟩
theorem mm_f1.u130 {M M2 : fs_M} {i v : Int} (h : mm_f1 M M2) : mm_f1 M (fs_up M2 130 i v) := ⟨fun r a b => by rw [fs_up_other b]; exact h.1 r a b, fun i a => by rw [fs_up_other (by decide)]; exact h.2 i a⟩
theorem mm_f1.E {M M2 : fs_M} (h : mm_f1 M M2) : mm_E M2 = mm_E M := by
  unfold mm_E
  rw [h.1 125 (by decide) (by decide), h.1 131 (by decide) (by decide), h.2 25 (by decide), h.2 24 (by decide), h.2 19 (by decide), h.2 21 (by decide), h.2 20 (by decide), h.2 22 (by decide), h.2 23 (by decide)]
theorem mm_f1.S {M M2 : fs_M} (h : mm_f1 M M2) : mm_st M2 = mm_st M := by
  unfold mm_st
  rw [h.1 129 (by decide) (by decide), h.2 15 (by decide)]
theorem mm_f1.I {M M2 : fs_M} (h : mm_f1 M M2) (k : mm_I M) : mm_I M2 := by
  unfold mm_I at *
  rw [h.1 125 (by decide) (by decide), h.1 131 (by decide) (by decide), h.2 25 (by decide), h.2 24 (by decide), h.2 21 (by decide), h.2 20 (by decide), h.2 23 (by decide)]
  exact k
theorem mm_f1.J {M M2 : fs_M} (h : mm_f1 M M2) (k : mm_J M) : mm_J M2 := by
  unfold mm_J at *
  rw [h.1 129 (by decide) (by decide), h.2 15 (by decide)]
  exact k
theorem mm_f1.N {M M2 : fs_M} (h : mm_f1 M M2) : M2 125 = M 125 := h.1 125 (by decide) (by decide)
theorem fs_up_at {M : fs_M} {r : Nat} {i j v : Int} : fs_up M r i v r j = if j = i then v else M r j := by
  unfold fs_up
  simp
/-- prices are small -/
theorem mm_price_b {M : fs_M} {a n : Int} (hI : mm_I M) (ha : 0 ≤ a ∧ a < 4) : 0 ≤ ec_price (mm_E M) a n ∧ ec_price (mm_E M) a n ≤ 200 := by
  obtain ⟨hN, -, hp, hs, -⟩ := hI
  have h1 := (hN.2.2.1 a ha.1 ha.2).1
  have h2 := mm_shock_b (a := a) hN
  have h3 := (hN.2.2.1 a ha.1 ha.2).2
  have h4 : 0 ≤ M 125 (2 + a) * M 124 24 ∧ M 125 (2 + a) * M 124 24 ≤ 200 * 100 := ⟨Int.mul_nonneg h1.1 hp.1, Int.mul_le_mul h1.2 hp.2 hp.1 (by omega)⟩
  have h5 : 0 ≤ M 125 (6 + a) * max 0 (n - mm_E M 4 a) := Int.mul_nonneg h3.1 (by omega)
  refine ⟨by unfold ec_price; omega, ?_⟩
  show max 0 ((M 125 (2 + a) * M 124 24 / 100 - (mm_shock (M 125) a + (if a = M 124 19 then M 124 21 else 0))) - M 125 (6 + a) * max 0 (n - mm_E M 4 a)) ≤ 200
  split <;> omega
