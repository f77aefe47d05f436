/-! the rounds come to rest: calm goes up, panic goes down -/
def ec_em (E : Nat → Int → Int) : Prop := (0 ≤ E 0 0 ∧ E 0 0 ≤ 4) ∧ (0 ≤ E 0 1 ∧ E 0 1 ≤ 6) ∧ (0 ≤ E 0 2 ∧ E 0 2 < 64) ∧ (∀ a, 0 ≤ a → a < E 0 0 → 0 ≤ E 2 a ∧ 0 ≤ E 3 a ∧ E 3 a ≤ 360) ∧
  (∀ h, 0 ≤ h → h < E 0 1 → 1 ≤ E 9 (5 * h + 3)) ∧ (∀ h a, 0 ≤ h → h < E 0 1 → 0 ≤ a → a < E 0 0 → 0 ≤ E 10 (4 * h + a)) ∧ (∀ o h, 0 ≤ o → o < E 0 1 → 0 ≤ h → h < E 0 1 → 0 ≤ E 11 (6 * o + h))
def ec_hd (E : Nat → Int → Int) : Prop := ∀ a, 0 ≤ a → a < E 0 0 → fs_sum (E 0 1).toNat (fun h => E 10 (4 * h + a)) ≤ E 5 a
def ec_rl (E : Nat → Int → Int) (S T : Int → Int) : Prop := (∀ a, 0 ≤ a → a < E 0 0 → S a ≤ T a) ∧ ∀ o, 0 ≤ o → o < E 0 1 → fs_bt (S 4) o = 1 → fs_bt (T 4) o = 1
def ec_fl (S T : Int → Int) : Prop := (∀ a, a ≠ 4 → S a ≤ T a) ∧ ∀ o, 0 ≤ o → o < 6 → fs_bt (S 4) o = 1 → fs_bt (T 4) o = 1
theorem fs_sum_le {n : Nat} {f g : Int → Int} : (∀ i : Int, 0 ≤ i → i < n → f i ≤ g i) → fs_sum n f ≤ fs_sum n g := by
  induction n with
  | zero => exact fun _ => Int.le_refl 0
  | succ n ih =>
    intro h
    have a := ih (fun i i0 i1 => h i i0 (by omega))
    have b := h n (by omega) (by omega)
    show fs_sum n f + f n ≤ fs_sum n g + g n
    omega
theorem fs_sum_n {n : Nat} {f : Int → Int} : (∀ i : Int, 0 ≤ i → i < n → 0 ≤ f i) → 0 ≤ fs_sum n f := by
  induction n with
  | zero => exact fun _ => Int.le_refl 0
  | succ n ih =>
    intro h
    have a := ih (fun i i0 i1 => h i i0 (by omega))
    have b := h n (by omega) (by omega)
    show 0 ≤ fs_sum n f + f n
    omega
theorem ec_price_m {E : Nat → Int → Int} {a n m : Int} (h : 0 ≤ E 2 a) (hn : n ≤ m) : 0 ≤ ec_price E a m ∧ ec_price E a m ≤ ec_price E a n := by
  have w := Int.mul_le_mul_of_nonneg_left (show max 0 (n - E 4 a) ≤ max 0 (m - E 4 a) by omega) h
  unfold ec_price
  omega
theorem ec_worth_m {E : Nat → Int → Int} {S T : Int → Int} (hE : ec_em E) (hS : 0 ≤ S 4 ∧ S 4 < 64) (l : ec_rl E S T) {h : Int} (h0 : 0 ≤ h) (h1 : h < E 0 1) : ec_worth E T h ≤ ec_worth E S h := by
  obtain ⟨hA, hH, hf, ha, hs, hh, hl⟩ := hE
  have v : ec_val E T h ≤ ec_val E S h := by
    unfold ec_val
    refine fs_sum_le (fun a a0 a1 => ?_)
    have p := ec_price_m (E := E) (a := a) (ha a a0 (by omega)).1 (l.1 a a0 (by omega))
    exact Int.mul_le_mul_of_nonneg_left p.2 (hh h a h0 h1 a0 (by omega))
  have w : ec_owed E T h ≤ ec_owed E S h := by
    unfold ec_owed
    refine fs_sum_le (fun o o0 o1 => ?_)
    have b := fs_bt01 (f := S 4) (o := o) hS.1 hS.2 o0 (by omega)
    have c := l.2 o o0 (by omega)
    have n := hl o h o0 (by omega) h0 h1
    by_cases z : fs_bt (T 4) o = 0
    · rw [if_pos z, if_pos (by omega)]
      omega
    · rw [if_neg z]
      split <;> omega
  unfold ec_worth
  omega
theorem ec_due_m {E : Nat → Int → Int} {h w v : Int} (s : 1 ≤ E 9 (5 * h + 3)) (l : w ≤ v) : ec_due E h v ≤ ec_due E h w := by
  unfold ec_due
  by_cases z : w < 0
  · rw [if_pos z]
    (repeat' split) <;> omega
  · rw [if_neg z, if_neg (by omega)]
    by_cases y : E 9 (5 * h + 2) - w ≤ 0
    · rw [if_pos y, if_pos (by omega)]
      omega
    · rw [if_neg y]
      have q := Int.ediv_le_ediv (show 0 < E 9 (5 * h + 3) by omega) (show E 9 (5 * h + 2) - v + E 9 (5 * h + 3) - 1 ≤ E 9 (5 * h + 2) - w + E 9 (5 * h + 3) - 1 by omega)
      have q2 := Int.ediv_nonneg (show 0 ≤ E 9 (5 * h + 2) - w + E 9 (5 * h + 3) - 1 by omega) (show 0 ≤ E 9 (5 * h + 3) by omega)
      split <;> omega
theorem ec_part_m {E : Nat → Int → Int} {h d e a : Int} (l : d ≤ e) : ec_part E h d a ≤ ec_part E h e a := by
  unfold ec_part ec_left
  omega
theorem ec_ns_m {E : Nat → Int → Int} {S T : Int → Int} (hE : ec_em E) (hS : 0 ≤ S 4 ∧ S 4 < 64) (l : ec_rl E S T) (a : Int) : ec_ns E S a ≤ ec_ns E T a := by
  unfold ec_ns
  by_cases z : 0 ≤ a ∧ a < E 0 0
  · rw [if_pos z, if_pos z]
    have w : fs_sum (E 0 1).toNat (fun h => ec_pt E S a h) ≤ fs_sum (E 0 1).toNat (fun h => ec_pt E T a h) := by
      refine fs_sum_le (fun h h0 h1 => ?_)
      exact ec_part_m (ec_due_m (hE.2.2.2.2.1 h h0 (by have := hE.2.1; omega)) (ec_worth_m hE hS l h0 (by have := hE.2.1; omega)))
    omega
  · rw [if_neg z, if_neg z]
    omega
theorem ec_nf_bt {E : Nat → Int → Int} {S : Int → Int} (hf : 0 ≤ E 0 2 ∧ E 0 2 < 64) {o : Int} (o0 : 0 ≤ o) (o1 : o < 6) : ∀ n : Nat, n ≤ 6 → (fs_bt (ec_nf E S n) o = 1 ↔ fs_bt (E 0 2) o = 1 ∨ (o < n ∧ ec_worth E S o < 0))
  | 0, _ => by
    show fs_bt (E 0 2) o = 1 ↔ _
    constructor
    · exact fun h => Or.inl h
    · rintro (h | h)
      · exact h
      · omega
  | n + 1, hn => by
    have ih := ec_nf_bt (E := E) (S := S) hf o0 o1 n (by omega)
    have b := ec_nf_b (E := E) (S := S) hf n (by omega)
    show fs_bt (if ec_worth E S (n : Int) < 0 then fs_or (ec_nf E S n) (fs_shl 1 (n : Int)) else ec_nf E S n) o = 1 ↔ _
    by_cases z : ec_worth E S (n : Int) < 0
    · rw [if_pos z, fs_btor b.1 b.2 (by omega) (by omega) o0 o1]
      by_cases y : o = (n : Int)
      · rw [if_pos y]
        exact ⟨fun _ => Or.inr ⟨by omega, by rw [y]; exact z⟩, fun _ => rfl⟩
      · rw [if_neg y, ih]
        constructor
        · rintro (h | h)
          · exact Or.inl h
          · exact Or.inr ⟨by omega, h.2⟩
        · rintro (h | h)
          · exact Or.inl h
          · exact Or.inr ⟨by omega, h.2⟩
    · rw [if_neg z, ih]
      constructor
      · rintro (h | h)
        · exact Or.inl h
        · exact Or.inr ⟨by omega, h.2⟩
      · rintro (h | h)
        · exact Or.inl h
        · refine Or.inr ⟨?_, h.2⟩
          rcases (show o < (n : Int) ∨ o = (n : Int) by omega) with y | y
          · exact y
          · rw [y] at h
            exact absurd h.2 z
theorem ec_next_m {E : Nat → Int → Int} {S T : Int → Int} (hE : ec_em E) (hS : 0 ≤ S 4 ∧ S 4 < 64) (l : ec_rl E S T) : ec_fl (ec_next E S) (ec_next E T) := by
  refine ⟨fun a ha => ?_, fun o o0 o1 => ?_⟩
  · unfold ec_next
    rw [if_neg ha, if_neg ha]
    exact ec_ns_m hE hS l a
  · show fs_bt (ec_nf E S (E 0 1).toNat) o = 1 → fs_bt (ec_nf E T (E 0 1).toNat) o = 1
    rw [ec_nf_bt hE.2.2.1 o0 o1 _ (by have := hE.2.1; omega), ec_nf_bt hE.2.2.1 o0 o1 _ (by have := hE.2.1; omega)]
    rintro (h | h)
    · exact Or.inl h
    · have w := ec_worth_m hE hS l o0 (by have := hE.2.1; omega)
      exact Or.inr ⟨h.1, by omega⟩
theorem ec_fl.rl {E : Nat → Int → Int} {S T : Int → Int} (h : ec_fl S T) (hA : E 0 0 ≤ 4) (hH : E 0 1 ≤ 6) : ec_rl E S T := ⟨fun a a0 a1 => h.1 a (by omega), fun o o0 o1 => h.2 o o0 (by omega)⟩
/-- a next state's bounds -/
def ec_sv (S : Int → Int) : Prop := (0 ≤ S 4 ∧ S 4 < 64) ∧ (∀ a, 0 ≤ a → a < 4 → 0 ≤ S a ∧ S a ≤ 360) ∧ ∀ a, (a < 0 ∨ 4 < a) → S a = 0
theorem ec_next_sv {E : Nat → Int → Int} {S : Int → Int} (hE : ec_em E) : ec_sv (ec_next E S) := by
  obtain ⟨hA, hH, hf, ha, hs, hh, hl⟩ := hE
  refine ⟨ec_nf_b hf _ (by omega), fun a a0 a1 => ?_, fun a a0 => ?_⟩
  · unfold ec_next ec_ns
    rw [if_neg (by omega)]
    split
    · rename_i z
      have n : 0 ≤ fs_sum (E 0 1).toNat (fun h => ec_pt E S a h) := fs_sum_n (fun h h0 h1 => by
        have w := hh h a h0 (by omega) z.1 z.2
        unfold ec_pt ec_part ec_left
        omega)
      have w := ha a z.1 z.2
      omega
    · omega
  · unfold ec_next ec_ns
    rw [if_neg (by omega), if_neg (by omega)]
def ec_ms (S : Int → Int) : Int := S 0 + S 1 + S 2 + S 3 + (fs_bt (S 4) 0 + fs_bt (S 4) 1 + fs_bt (S 4) 2 + fs_bt (S 4) 3 + fs_bt (S 4) 4 + fs_bt (S 4) 5)
theorem fs_bits {f : Int} (h0 : 0 ≤ f) (h1 : f < 64) : f = fs_bt f 0 + 2 * fs_bt f 1 + 4 * fs_bt f 2 + 8 * fs_bt f 3 + 16 * fs_bt f 4 + 32 * fs_bt f 5 := by
  have key : ∀ f : Fin 64, (f.val : Int) = fs_bt (f.val : Int) 0 + 2 * fs_bt (f.val : Int) 1 + 4 * fs_bt (f.val : Int) 2 + 8 * fs_bt (f.val : Int) 3 + 16 * fs_bt (f.val : Int) 4 + 32 * fs_bt (f.val : Int) 5 := by decide +kernel
  have w := key ⟨f.toNat, by omega⟩
  simp only [Int.toNat_of_nonneg h0] at w
  exact w
theorem ec_ms_b {S : Int → Int} (h : ec_sv S) : 0 ≤ ec_ms S ∧ ec_ms S ≤ 1446 := by
  obtain ⟨⟨f0, f1⟩, h2, h3⟩ := h
  have b0 := fs_bt01 (f := S 4) (o := 0) f0 f1 (by omega) (by omega)
  have b1 := fs_bt01 (f := S 4) (o := 1) f0 f1 (by omega) (by omega)
  have b2 := fs_bt01 (f := S 4) (o := 2) f0 f1 (by omega) (by omega)
  have b3 := fs_bt01 (f := S 4) (o := 3) f0 f1 (by omega) (by omega)
  have b4 := fs_bt01 (f := S 4) (o := 4) f0 f1 (by omega) (by omega)
  have b5 := fs_bt01 (f := S 4) (o := 5) f0 f1 (by omega) (by omega)
  have s0 := h2 0 (by omega) (by omega)
  have s1 := h2 1 (by omega) (by omega)
  have s2 := h2 2 (by omega) (by omega)
  have s3 := h2 3 (by omega) (by omega)
  unfold ec_ms
  omega
theorem ec_ms_lt {S T : Int → Int} (h : ec_sv S) (k : ec_sv T) (l : ec_fl S T) (ne : S ≠ T) : ec_ms S + 1 ≤ ec_ms T := by
  obtain ⟨⟨f0, f1⟩, h2, h3⟩ := h
  obtain ⟨⟨g0, g1⟩, k2, k3⟩ := k
  have x0 := fs_bits f0 f1
  have y0 := fs_bits g0 g1
  have bb : ∀ o, 0 ≤ o → o < 6 → fs_bt (S 4) o ≤ fs_bt (T 4) o := fun o o0 o1 => by
    have a := fs_bt01 f0 f1 o0 o1
    have b := fs_bt01 g0 g1 o0 o1
    have c := l.2 o o0 o1
    omega
  have b0 := bb 0 (by omega) (by omega)
  have b1 := bb 1 (by omega) (by omega)
  have b2 := bb 2 (by omega) (by omega)
  have b3 := bb 3 (by omega) (by omega)
  have b4 := bb 4 (by omega) (by omega)
  have b5 := bb 5 (by omega) (by omega)
  have s0 := l.1 0 (by omega)
  have s1 := l.1 1 (by omega)
  have s2 := l.1 2 (by omega)
  have s3 := l.1 3 (by omega)
  by_cases z : ec_ms S + 1 ≤ ec_ms T
  · exact z
  · exfalso
    apply ne
    unfold ec_ms at z
    funext i
    by_cases i0 : i < 0 ∨ 4 < i
    · rw [h3 i i0, k3 i i0]
    · rcases (show i = 0 ∨ i = 1 ∨ i = 2 ∨ i = 3 ∨ i = 4 by omega) with e | e | e | e | e <;> rw [e] <;> omega
theorem ec_least {p : Nat → Prop} : ∀ n : Nat, (∃ k, k ≤ n ∧ p k) → ∃ k, k ≤ n ∧ p k ∧ ∀ j, j < k → ¬ p j
  | 0, h => by
    obtain ⟨k, k0, k1⟩ := h
    exact ⟨k, k0, k1, fun j hj => by omega⟩
  | n + 1, h => by
    by_cases z : ∃ k, k ≤ n ∧ p k
    · obtain ⟨k, k0, k1⟩ := ec_least n z
      exact ⟨k, by omega, k1⟩
    · obtain ⟨k, k0, k1⟩ := h
      exact ⟨k, k0, k1, fun j hj pj => z ⟨j, by omega, pj⟩⟩
theorem ec_rest {E : Nat → Int → Int} {S : Int → Int} (p : (Int → Int) → Int) {m : Nat} (hm : m ≤ 1) (h0 : ∀ k, m ≤ k → 0 ≤ p (ec_it E S k) ∧ p (ec_it E S k) ≤ 1446) (h1 : ∀ k, m ≤ k → ¬ ec_it E S (k + 1) = ec_it E S k → p (ec_it E S k) + 1 ≤ p (ec_it E S (k + 1))) : ec_ok E S := by
  have ex : ∃ k, k ≤ 2000 ∧ ec_it E S (k + 1) = ec_it E S k := by
    by_cases z : ∃ k, k ≤ 2000 ∧ ec_it E S (k + 1) = ec_it E S k
    · exact z
    · exfalso
      have up : ∀ j : Nat, m + j ≤ 2000 → (j : Int) ≤ p (ec_it E S (m + j)) := fun j => by
        induction j with
        | zero => exact fun _ => (h0 m (Nat.le_refl m)).1
        | succ j ih =>
          intro hj
          have a := ih (by omega)
          have b := h1 (m + j) (by omega) (fun e => z ⟨m + j, by omega, e⟩)
          show ((j + 1 : Nat) : Int) ≤ p (ec_it E S (m + j + 1))
          omega
      have a := up 1500 (by omega)
      have b := (h0 (m + 1500) (by omega)).2
      omega
  obtain ⟨k, k0, k1, k2⟩ := ec_least (p := fun k => ec_it E S (k + 1) = ec_it E S k) 2000 ex
  exact ⟨k, k0, k2, k1⟩
theorem ec_calm_sv {E : Nat → Int → Int} (hE : ec_em E) : ec_sv (ec_calm E) := by
  refine ⟨hE.2.2.1, fun a a0 a1 => ?_, fun a a0 => ?_⟩
  · unfold ec_calm
    rw [if_neg (by omega)]
    omega
  · unfold ec_calm
    exact if_neg (by omega)
theorem ec_up {E : Nat → Int → Int} (hE : ec_em E) : ec_ok E (ec_calm E) := by
  have sv : ∀ k, ec_sv (ec_it E (ec_calm E) k) := fun k => by
    cases k with
    | zero => exact ec_calm_sv hE
    | succ k => exact ec_next_sv hE
  have up : ∀ k, ec_fl (ec_it E (ec_calm E) k) (ec_it E (ec_calm E) (k + 1)) := fun k => by
    induction k with
    | zero =>
      have w := ec_next_sv (S := ec_calm E) hE
      refine ⟨fun a ha => ?_, fun o o0 o1 h => ?_⟩
      · show (if a = 4 then E 0 2 else 0) ≤ ec_next E (ec_calm E) a
        rw [if_neg ha]
        rcases (show (0 ≤ a ∧ a < 4) ∨ (a < 0 ∨ 4 < a) by omega) with z | z
        · exact (w.2.1 a z.1 z.2).1
        · rw [w.2.2 a z]
          exact Int.le_refl 0
      · exact (ec_nf_bt hE.2.2.1 o0 o1 _ (by have := hE.2.1; omega)).mpr (Or.inl h)
    | succ k ih => exact ec_next_m hE (sv k).1 (ih.rl hE.1.2 hE.2.1.2)
  exact ec_rest (m := 0) ec_ms (by omega) (fun k _ => ec_ms_b (sv k)) (fun k _ ne => ec_ms_lt (sv k) (sv (k + 1)) (up k) (fun e => ne e.symm))
theorem ec_down {E : Nat → Int → Int} (hE : ec_em E) (hd : ec_hd E) : ec_ok E (ec_panic E) := by
  have sv : ∀ k, ec_sv (ec_it E (ec_panic E) (k + 1)) := fun k => ec_next_sv hE
  have all : ∀ n : Fin 7, ∀ o : Fin 6, o.val < n.val → fs_bt (fs_shl 1 (n.val : Int) - 1) (o.val : Int) = 1 := by decide +kernel
  have d0 : ec_rl E (ec_it E (ec_panic E) 1) (ec_panic E) := by
    refine ⟨fun a a0 a1 => ?_, fun o o0 o1 _ => ?_⟩
    · have hA := hE.1
      show ec_next E (ec_panic E) a ≤ (if a = 4 then _ else if 0 ≤ a ∧ a < E 0 0 then min (E 5 a) (E 3 a) else 0)
      unfold ec_next ec_ns
      rw [if_neg (by omega), if_pos ⟨a0, a1⟩, if_neg (by omega), if_pos ⟨a0, a1⟩]
      have w : fs_sum (E 0 1).toNat (fun h => ec_pt E (ec_panic E) a h) ≤ fs_sum (E 0 1).toNat (fun h => E 10 (4 * h + a)) := fs_sum_le (fun h h0 h1 => by
        unfold ec_pt ec_part
        omega)
      have v := hd a a0 a1
      omega
    · have hH := hE.2.1
      have w := all ⟨(E 0 1).toNat, by omega⟩ ⟨o.toNat, by omega⟩ (by show o.toNat < (E 0 1).toNat; omega)
      simp only [Int.toNat_of_nonneg hH.1, Int.toNat_of_nonneg o0] at w
      exact w
  have p4 : 0 ≤ ec_it E (ec_panic E) 1 4 ∧ ec_it E (ec_panic E) 1 4 < 64 := (sv 0).1
  have dn : ∀ k, ec_fl (ec_it E (ec_panic E) (k + 2)) (ec_it E (ec_panic E) (k + 1)) := fun k => by
    induction k with
    | zero => exact ec_next_m hE p4 d0
    | succ k ih => exact ec_next_m hE (sv (k + 1)).1 (ih.rl hE.1.2 hE.2.1.2)
  refine ec_rest (m := 1) (fun S => 1446 - ec_ms S) (by omega) (fun k hk => ?_) (fun k hk ne => ?_)
  · obtain ⟨j, rfl⟩ : ∃ j, k = j + 1 := ⟨k - 1, by omega⟩
    have w := ec_ms_b (sv j)
    show 0 ≤ 1446 - ec_ms _ ∧ 1446 - ec_ms _ ≤ 1446
    omega
  · obtain ⟨j, rfl⟩ : ∃ j, k = j + 1 := ⟨k - 1, by omega⟩
    have w := ec_ms_lt (sv (j + 1)) (sv j) (dn j) ne
    show 1446 - ec_ms _ + 1 ≤ 1446 - ec_ms _
    omega