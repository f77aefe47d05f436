/-! Pure words: sums, and what a row of told things (N: the Model's 'now') means -/
def fs_sum : Nat → (Int → Int) → Int
  | 0, _ => 0
  | n + 1, f => fs_sum n f + f (n : Int)
theorem fs_sum_0 {f : Int → Int} : fs_sum (0 : Int).toNat f = 0 := rfl
theorem fs_sum_s {i : Int} {f : Int → Int} (h : 0 ≤ i) : fs_sum (i + 1).toNat f = fs_sum i.toNat f + f i := by
  obtain ⟨n, rfl⟩ := Int.eq_ofNat_of_zero_le h
  rfl
theorem fs_sum_c {n : Nat} {f g : Int → Int} (h : ∀ i : Int, 0 ≤ i → i < n → f i = g i) : fs_sum n f = fs_sum n g := by
  induction n with
  | zero => rfl
  | succ n ih => rw [fs_sum, fs_sum, ih (fun i h0 h1 => h i h0 (by omega)), h n (by omega) (by omega)]
theorem fs_sum_b {n : Nat} {f : Int → Int} {b : Int} (h : ∀ i : Int, 0 ≤ i → i < n → 0 ≤ f i ∧ f i ≤ b) : 0 ≤ fs_sum n f ∧ fs_sum n f ≤ b * n := by
  induction n with
  | zero => exact ⟨Int.le_refl _, by simp [fs_sum]⟩
  | succ n ih =>
    have h1 := ih (fun i h0 h1 => h i h0 (by omega))
    have h2 := h n (by omega) (by omega)
    have e : b * ((n + 1 : Nat) : Int) = b * (n : Int) + b := by rw [Int.natCast_add, Int.mul_add]; simp
    rw [fs_sum, e]
    omega
theorem fs_sum_add {n : Nat} {f g : Int → Int} : fs_sum n (fun i => f i + g i) = fs_sum n f + fs_sum n g := by
  induction n with
  | zero => rfl
  | succ n ih => simp only [fs_sum, ih]; omega
theorem fs_sum_sub {n : Nat} {f g : Int → Int} : fs_sum n (fun i => f i - g i) = fs_sum n f - fs_sum n g := by
  induction n with
  | zero => rfl
  | succ n ih => simp only [fs_sum, ih]; omega
/-- bounds of a row of told things -/
def fs_NI (N : Int → Int) : Prop :=
  (0 ≤ N 0 ∧ N 0 ≤ 4) ∧ (0 ≤ N 1 ∧ N 1 ≤ 6) ∧ (∀ a, 0 ≤ a → a < 4 → (0 ≤ N (2 + a) ∧ N (2 + a) ≤ 200) ∧ (0 ≤ N (6 + a) ∧ N (6 + a) ≤ 9)) ∧
  (∀ h k, 0 ≤ h → h < 6 → 0 ≤ k → k < 5 → 0 ≤ N (10 + 5 * h + k) ∧ N (10 + 5 * h + k) ≤ 9999) ∧ (∀ h a, 0 ≤ h → h < 6 → 0 ≤ a → a < 4 → 0 ≤ N (40 + 4 * h + a) ∧ N (40 + 4 * h + a) ≤ 60) ∧
  (∀ h o, 0 ≤ h → h < 6 → 0 ≤ o → o < 6 → 0 ≤ N (64 + 6 * h + o) ∧ N (64 + 6 * h + o) ≤ 999) ∧ (∀ s, 0 ≤ s → s < 3 → 0 ≤ N (100 + 13 * s) ∧ N (100 + 13 * s) ≤ 4) ∧
  (∀ s p w, 0 ≤ s → s < 3 → 0 ≤ p → p < 4 → 0 ≤ w → w < 3 → 0 ≤ N (100 + 13 * s + 1 + 3 * p + w) ∧ N (100 + 13 * s + 1 + 3 * p + w) ≤ 360) ∧
  (∀ h, 0 ≤ h → h < N 1 → 1 ≤ N (10 + 5 * h + 3) ∧ N (10 + 5 * h + 3) ≤ 99 ∧ N (10 + 5 * h + 4) ≤ 1)
def mm_held (N : Int → Int) (a : Int) : Int := fs_sum (N 1).toNat (fun h => N (40 + 4 * h + a))
def mm_pieces (N : Int → Int) (h : Int) : Int := fs_sum (N 0).toNat (fun a => N (40 + 4 * h + a))
