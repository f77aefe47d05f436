/-! the rows of gifts, one by one: what is looked at is all there is (by the kernel) -/
def dgn (b H c q : Nat) : Nat := c / b ^ (H - 1 - q) % b
noncomputable def dsn (b H c k : Nat) : Nat := Nat.rec 0 (fun q s => Nat.add s (dgn b H c q)) k
noncomputable def gpn (b H n base k : Nat) : Bool := Nat.rec true (fun q s => and (not (Nat.beq (dsn b H (base + q) H) n)) s) k
def lpn (b H c : Nat) : Nat → Nat
  | 0 => 0
  | k + 1 => if 0 < dgn b H c k then k else lpn b H c k
def nxn (b H c i : Nat) : Nat := c + b ^ (H - i) - dgn b H c i * b ^ (H - 1 - i) + (dgn b H c i - 1)
def stn (b H n c i d : Nat) : Bool := decide (1 ≤ i ∧ i < H ∧ 0 < dgn b H c i ∧ (∀ q, q < H → i < q → dgn b H c q = 0) ∧ c < d ∧ d < b ^ H ∧ (∀ q, q < H → dgn b H d q = if q + 1 = i then dgn b H c q + 1 else if q < i then dgn b H c q else if q + 1 = H then dgn b H c i - 1 else 0))
noncomputable def rnn (b H n : Nat) : Nat → Nat → Bool
  | 0, _ => false
  | f + 1, 0 => if ∀ q, q < H → 1 ≤ q → dgn b H 0 q = 0 then gpn b H n (0 + 1) (b ^ H - (0 + 1)) else false
  | f + 1, m + 1 => if ∀ q, q < H → 1 ≤ q → dgn b H (m + 1) q = 0 then gpn b H n (m + 1 + 1) (b ^ H - (m + 1 + 1))
    else and (stn b H n (m + 1) (lpn b H (m + 1) H) (nxn b H (m + 1) (lpn b H (m + 1) H))) (and (Nat.beq (dsn b H (nxn b H (m + 1) (lpn b H (m + 1) H)) H) n) (and (gpn b H n (m + 1 + 1) (nxn b H (m + 1) (lpn b H (m + 1) H) - (m + 1 + 1))) (rnn b H n f (nxn b H (m + 1) (lpn b H (m + 1) H)))))
noncomputable def rn0 (b H n : Nat) : Bool := and (gpn b H n 0 n) (and (Nat.beq (dsn b H n H) n) (and (decide (n < b ^ H ∧ ∀ q, q < H → dgn b H n q = if q + 1 = H then n else 0)) (rnn b H n 130 n)))
theorem rn_all : ∀ H : Fin 7, ∀ n : Fin 5, 1 ≤ H.val → rn0 (n.val + 1) H.val n.val = true := by decide +kernel
theorem gpn_s {b H n base k : Nat} : gpn b H n base (k + 1) = and (not (Nat.beq (dsn b H (base + k) H) n)) (gpn b H n base k) := rfl
theorem gpn_x {b H n base : Nat} : ∀ k, gpn b H n base k = true → ∀ q, q < k → dsn b H (base + q) H ≠ n
  | 0, _, q, hq => by omega
  | k + 1, h, q, hq => by
    rw [gpn_s, Bool.and_eq_true, Bool.not_eq_true'] at h
    rcases (show q < k ∨ q = k by omega) with z | z
    · exact gpn_x k h.2 q z
    · intro e
      rw [z] at e
      rw [e] at h
      simp at h
theorem bw_gn {b H c : Nat} {q : Int} (h : 0 ≤ q ∧ q < H) : bw_g (H : Int) (b : Int) (c : Int) q = ((dgn b H c q.toNat : Nat) : Int) := by
  unfold bw_g dgn
  rw [if_pos h, show ((H : Int) - 1 - q).toNat = H - 1 - q.toNat by omega]
  simp
theorem bw_sn2 {b H c : Nat} : bw_s (H : Int) (b : Int) (c : Int) = ((dsn b H c H : Nat) : Int) := by
  have key : ∀ k : Nat, k ≤ H → fs_sum k (bw_g (H : Int) (b : Int) (c : Int)) = ((dsn b H c k : Nat) : Int) := by
    intro k
    induction k with
    | zero => intro _; rfl
    | succ k ih =>
      intro hk
      have e : dsn b H c (k + 1) = dsn b H c k + dgn b H c k := rfl
      have w := bw_gn (b := b) (H := H) (c := c) (q := (k : Int)) ⟨by omega, by omega⟩
      show fs_sum k _ + bw_g _ _ _ (k : Int) = _
      rw [ih (by omega), e, w, Int.toNat_natCast]
      simp
  unfold bw_s
  rw [Int.toNat_natCast]
  exact key H (Nat.le_refl _)
/-- from code c on, f rows at most are still to come -/
def gr (H n : Int) (f : Nat) (c : Int) : Prop := (1 ≤ H ∧ H ≤ 6) ∧ (0 ≤ n ∧ n ≤ 4) ∧ 0 ≤ c ∧ c < (n + 1) ^ H.toNat ∧ rnn (n.toNat + 1) H.toNat n.toNat f c.toNat = true
theorem gr_n {H n : Int} (hH : 1 ≤ H ∧ H ≤ 6) (hn : 0 ≤ n ∧ n ≤ 4) : ∃ h m : Nat, H = (h : Int) ∧ n = (m : Int) ∧ (1 ≤ h ∧ h ≤ 6) ∧ m ≤ 4 := ⟨H.toNat, n.toNat, by omega, by omega, by omega, by omega⟩
theorem gr_pow {h m : Nat} : ((m : Int) + 1) ^ ((h : Int)).toNat = (((m + 1) ^ h : Nat) : Int) := by
  rw [Int.toNat_natCast]
  simp
theorem gr_start {H n : Int} (hH : 1 ≤ H ∧ H ≤ 6) (hn : 0 ≤ n ∧ n ≤ 4) : gr H n 130 n ∧ bw_s H (n + 1) n = n ∧ (∀ d, 0 ≤ d → d < n → bw_s H (n + 1) d ≠ n) ∧ ∀ q, 0 ≤ q → q < H → bw_g H (n + 1) n q = if q = H - 1 then n else 0 := by
  obtain ⟨h, m, rfl, rfl, hh, hm⟩ := gr_n hH hn
  have k := rn_all ⟨h, by omega⟩ ⟨m, by omega⟩ hh.1
  have k : rn0 (m + 1) h m = true := k
  unfold rn0 at k
  rw [Bool.and_eq_true, Bool.and_eq_true, Bool.and_eq_true, decide_eq_true_eq] at k
  obtain ⟨k1, k2, ⟨k3, k4⟩, k5⟩ := k
  have eb : (m : Int) + 1 = ((m + 1 : Nat) : Int) := by omega
  refine ⟨⟨hH, hn, by omega, by rw [gr_pow]; omega, by simpa using k5⟩, ?_, fun d d0 d1 => ?_, fun q q0 q1 => ?_⟩
  · rw [eb, bw_sn2, Nat.eq_of_beq_eq_true k2]
  · obtain ⟨e, rfl⟩ := Int.eq_ofNat_of_zero_le d0
    rw [eb, bw_sn2]
    have w := gpn_x m k1 e (by omega)
    rw [Nat.zero_add] at w
    omega
  · rw [eb, bw_gn ⟨q0, q1⟩, k4 q.toNat (by omega)]
    split <;> split <;> omega
theorem gr_go {H n c i : Int} {f : Nat} (h : gr H n f c) (hi : 1 ≤ i ∧ i < H) (z : ∀ q, i < q → q < H → bw_g H (n + 1) c q = 0) (p : 0 < bw_g H (n + 1) c i) :
    ∃ (f2 : Nat) (c2 : Int), f = f2 + 1 ∧ gr H n f2 c2 ∧ c < c2 ∧ bw_s H (n + 1) c2 = n ∧ (∀ d, c < d → d < c2 → bw_s H (n + 1) d ≠ n) ∧ ∀ q, 0 ≤ q → q < H → bw_g H (n + 1) c2 q = if q + 1 = i then bw_g H (n + 1) c q + 1 else if q < i then bw_g H (n + 1) c q else if q + 1 = H then bw_g H (n + 1) c i - 1 else 0 := by
  obtain ⟨hH, hn, c0, c1, k⟩ := h
  obtain ⟨a, m, rfl, rfl, hh, hm⟩ := gr_n hH hn
  obtain ⟨c, rfl⟩ := Int.eq_ofNat_of_zero_le c0
  have eb : (m : Int) + 1 = ((m + 1 : Nat) : Int) := by omega
  simp only [Int.toNat_natCast] at k
  rw [eb] at z p ⊢
  have ip : 0 < dgn (m + 1) a c i.toNat := by
    rw [bw_gn ⟨by omega, by omega⟩] at p
    omega
  have nl : ¬ ∀ q, q < a → 1 ≤ q → dgn (m + 1) a c q = 0 := fun w => by
    have := w i.toNat (by omega) (by omega)
    omega
  cases f with
  | zero => simp [rnn] at k
  | succ f =>
    cases c with
    | zero =>
      simp only [rnn] at k
      rw [if_neg nl] at k
      cases k
    | succ c =>
      simp only [rnn] at k
      rw [if_neg nl] at k
      generalize hj : lpn (m + 1) a (c + 1) a = j at k
      generalize hd : nxn (m + 1) a (c + 1) j = d at k
      rw [Bool.and_eq_true, Bool.and_eq_true, Bool.and_eq_true] at k
      obtain ⟨k1, k2, k3, k4⟩ := k
      unfold stn at k1
      rw [decide_eq_true_eq] at k1
      obtain ⟨s1, s2, s3, s4, s5, s6, s7⟩ := k1
      have ji : (j : Int) = i := by
        rcases Int.lt_trichotomy (j : Int) i with w | w | w
        · have := s4 i.toNat (by omega) (by omega)
          omega
        · exact w
        · have w2 := z j w (by omega)
          rw [bw_gn ⟨by omega, by omega⟩, Int.toNat_natCast] at w2
          omega
      refine ⟨f, (d : Int), rfl, ⟨hH, hn, by omega, by rw [gr_pow]; omega, by simpa using k4⟩, by omega, by rw [bw_sn2, Nat.eq_of_beq_eq_true k2], fun e e0 e1 => ?_, fun q q0 q1 => ?_⟩
      · obtain ⟨e, rfl⟩ := Int.eq_ofNat_of_zero_le (show 0 ≤ e by omega)
        rw [bw_sn2]
        have w := gpn_x _ k3 (e - (c + 1 + 1)) (by omega)
        rw [show c + 1 + 1 + (e - (c + 1 + 1)) = e by omega] at w
        omega
      · rw [bw_gn ⟨q0, q1⟩, bw_gn (c := c + 1) ⟨q0, q1⟩, bw_gn (c := c + 1) (q := i) ⟨by omega, by omega⟩, s7 q.toNat (by omega), show i.toNat = j by omega]
        by_cases y1 : q + 1 = i
        · rw [if_pos y1, if_pos (by omega)]
          omega
        · rw [if_neg y1, if_neg (by omega)]
          by_cases y2 : q < i
          · rw [if_pos y2, if_pos (by omega)]
          · rw [if_neg y2, if_neg (by omega)]
            by_cases y3 : q + 1 = (a : Int)
            · rw [if_pos y3, if_pos (by omega)]
              omega
            · rw [if_neg y3, if_neg (by omega)]
              rfl
theorem gr_end {H n c : Int} {f : Nat} (h : gr H n f c) (z : ∀ q, 1 ≤ q → q < H → bw_g H (n + 1) c q = 0) : ∀ d, c < d → d < (n + 1) ^ H.toNat → bw_s H (n + 1) d ≠ n := by
  obtain ⟨hH, hn, c0, c1, k⟩ := h
  obtain ⟨a, m, rfl, rfl, hh, hm⟩ := gr_n hH hn
  obtain ⟨c, rfl⟩ := Int.eq_ofNat_of_zero_le c0
  have eb : (m : Int) + 1 = ((m + 1 : Nat) : Int) := by omega
  simp only [Int.toNat_natCast] at k
  have la : ∀ q, q < a → 1 ≤ q → dgn (m + 1) a c q = 0 := fun q q0 q1 => by
    have w := z (q : Int) (by omega) (by omega)
    rw [eb, bw_gn ⟨by omega, by omega⟩, Int.toNat_natCast] at w
    omega
  intro e e0 e1
  rw [gr_pow] at e1
  obtain ⟨e, rfl⟩ := Int.eq_ofNat_of_zero_le (show 0 ≤ e by omega)
  rw [eb, bw_sn2]
  have fin : gpn (m + 1) a m (c + 1) ((m + 1) ^ a - (c + 1)) = true := by
    cases f with
    | zero => simp [rnn] at k
    | succ f =>
      cases c with
      | zero =>
        simp only [rnn] at k
        rw [if_pos la] at k
        exact k
      | succ c =>
        simp only [rnn] at k
        rw [if_pos la] at k
        exact k
  have w := gpn_x _ fin (e - (c + 1)) (by omega)
  rw [show c + 1 + (e - (c + 1)) = e by omega] at w
  omega
theorem gr_f {H n c : Int} {f : Nat} (h : gr H n f c) : 0 < f := by
  cases f with
  | zero =>
    have k := h.2.2.2.2
    simp [rnn] at k
  | succ f => omega