/-! a sentence keeps what a row must keep -/
theorem nF_r {T : Int → Int} {n lo hi f p : Int} (hf : f = -1 ∨ (0 ≤ f ∧ f ≤ n)) (hp : 0 ≤ p ∧ p ≤ n) : nF T n lo hi f p = -1 ∨ (0 ≤ nF T n lo hi f p ∧ nF T n lo hi f p ≤ n) := by
  have b := qB_b T n p
  have b2 := b.2.1 hp.2
  unfold nF
  split
  · split
    · exact Or.inl rfl
    · exact Or.inr ⟨by omega, b2⟩
  · exact hf
theorem eF_r {T : Int → Int} {n f p : Int} (hf : f = -1 ∨ (0 ≤ f ∧ f ≤ n)) (hp : 0 ≤ p ∧ p ≤ n) : eF T n f p = -1 ∨ (0 ≤ eF T n f p ∧ eF T n f p ≤ n) := by
  have b := qB_b T n p
  have b2 := b.2.1 hp.2
  unfold eF
  split
  · split
    · exact Or.inl rfl
    · exact Or.inr ⟨by omega, b2⟩
  · exact hf
theorem nE_r {T : Int → Int} {n p : Int} (hp : 0 ≤ p ∧ p ≤ n) : 0 ≤ nE T n p ∧ nE T n p ≤ n := by
  have b := nE_b (T := T) hp
  omega
theorem stF_r {T : Int → Int} {n : Int} {N : Int → Int} {p : Int} (hp : 0 ≤ p ∧ p ≤ n) : stF T n N p = -1 ∨ (0 ≤ stF T n N p ∧ stF T n N p ≤ n) := by
  have eb := eL_b T n p
  have e0 : 0 ≤ eL T n p ∧ eL T n p ≤ n := ⟨by omega, eb.2.1 hp.2⟩
  have pp : p = -1 ∨ (0 ≤ p ∧ p ≤ n) := Or.inr hp
  have mm : (-1 : Int) = -1 ∨ (0 ≤ (-1 : Int) ∧ (-1 : Int) ≤ n) := Or.inl rfl
  have i0 : ∀ c : Prop, [Decidable c] → (if c then p else -1) = -1 ∨ (0 ≤ (if c then p else -1) ∧ (if c then p else -1) ≤ n) := fun c _ => by
    by_cases z : c
    · rw [if_pos z]; exact pp
    · rw [if_neg z]; exact mm
  have e1 := nE_r (T := T) e0
  have e2 := nE_r (T := T) e1
  have e3 := nE_r (T := T) e2
  unfold stF
  split
  · exact eF_r (nF_r (nF_r (i0 _) e0) e1) e2
  split
  · unfold tx_S
    have eE := tx_E_b (T := T) e0 (5 + tx_C T n N (eL T n p)).toNat
    have key : ∀ k, tx_F T n N p (eL T n p) k = -1 ∨ (0 ≤ tx_F T n N p (eL T n p) k ∧ tx_F T n N p (eL T n p) k ≤ n) := fun k => by
      induction k with
      | zero => exact i0 _
      | succ k ih =>
        have eK := tx_E_b (T := T) e0 k
        exact nF_r ih ⟨by omega, eK.2⟩
    exact eF_r (key _) ⟨by omega, eE.2⟩
  split
  · have j2 : j2F T n N (eL T n p) = -1 ∨ (0 ≤ j2F T n N (eL T n p) ∧ j2F T n N (eL T n p) ≤ n) := by
      have b := qB_b T n (nE T n (eL T n p))
      have b2 := b.2.1 e1.2
      unfold j2F
      split
      · exact Or.inr ⟨by omega, b2⟩
      · exact nF_r (nF_r mm e0) e1
    exact eF_r (nF_r j2 e2) e3
  split
  · exact eF_r (nF_r (nF_r (i0 _) e0) e1) e2
  split
  · exact eF_r (nF_r (nF_r (i0 _) e0) e1) e2
  · exact pp
theorem tx_C_b {T : Int → Int} {n : Int} {N : Int → Int} {e : Int} (h : 0 ≤ N 0) : 0 ≤ tx_C T n N e ∧ tx_C T n N e ≤ N 0 := by
  have b := skp_b (P := tx_Q T n N e) (n := N 0) (fun k h => h.1) _ 0 (Nat.le_refl _)
  exact ⟨b.1, b.2.1 h⟩
theorem tx_F_ok {T : Int → Int} {n : Int} {N : Int → Int} {q e : Int} (he : 0 ≤ e ∧ e ≤ n) {k : Nat} (h : tx_F T n N q e k = -1) {j : Nat} (hj : j < k) : nOk T n (tx_lo j) (tx_hi j) (tx_E T n j e) := by
  have w := tx_F_m (T := T) (N := N) (q := q) he (k := j + 1) (k - (j + 1)) (by rw [show j + 1 + (k - (j + 1)) = k by omega]; exact h)
  have b := tx_E_b (T := T) he j
  exact (nF_ok w (by omega)).2
/-- the three -/
def fs_KP (N : Int → Int) : Prop := fs_NI N ∧ fs_NZ N ∧ fs_NX N
theorem KP_asset {N : Int → Int} {x y : Int} (h : fs_KP N) (hn : N 0 ≠ 4) (hx : 1 ≤ x ∧ x ≤ 200) (hy : 0 ≤ y ∧ y ≤ 9) : fs_KP (up1 (up1 (up1 N (2 + N 0) x) (6 + N 0) y) 0 (N 0 + 1)) := by
  obtain ⟨⟨hA, hH, hC, hF, hO, hL, hS, hI, hW⟩, ⟨z1, z2, z3, z4⟩, hX⟩ := h
  have e : ∀ i, i ≠ 0 → i ≠ 2 + N 0 → i ≠ 6 + N 0 → up1 (up1 (up1 N (2 + N 0) x) (6 + N 0) y) 0 (N 0 + 1) i = N i := fun i a b c => by
    unfold up1
    rw [if_neg a, if_neg c, if_neg b]
  have e0 : up1 (up1 (up1 N (2 + N 0) x) (6 + N 0) y) 0 (N 0 + 1) 0 = N 0 + 1 := if_pos rfl
  have e1 := e 1 (by omega) (by omega) (by omega)
  have e2 : up1 (up1 (up1 N (2 + N 0) x) (6 + N 0) y) 0 (N 0 + 1) (2 + N 0) = x := by unfold up1; rw [if_neg (by omega), if_neg (by omega), if_pos rfl]
  have e3 : up1 (up1 (up1 N (2 + N 0) x) (6 + N 0) y) 0 (N 0 + 1) (6 + N 0) = y := by unfold up1; rw [if_neg (by omega), if_pos rfl]
  generalize up1 (up1 (up1 N (2 + N 0) x) (6 + N 0) y) 0 (N 0 + 1) = R at e e0 e1 e2 e3
  refine ⟨⟨by omega, by omega, fun a a0 a1 => ⟨?_, ?_⟩, fun h k h0 h1 k0 k1 => ?_, fun h k h0 h1 k0 k1 => ?_, fun h k h0 h1 k0 k1 => ?_, fun s s0 s1 => ?_, fun s p w s0 s1 p0 p1 w0 w1 => ?_, fun h h0 h1 => ?_⟩,
    ⟨fun h k h0 h1 k0 k1 => ?_, fun h k h0 h1 k0 k1 q => ?_, fun h k h0 h1 k0 k1 q => ?_, fun a a0 a1 => ?_⟩, fun s k s0 s1 k0 k1 => ?_⟩
  · by_cases q : a = N 0
    · rw [q, e2]; omega
    · rw [e _ (by omega) (by omega) (by omega)]; exact (hC a a0 a1).1
  · by_cases q : a = N 0
    · rw [q, e3]; omega
    · rw [e _ (by omega) (by omega) (by omega)]; exact (hC a a0 a1).2
  · rw [e _ (by omega) (by omega) (by omega)]; exact hF h k h0 h1 k0 k1
  · rw [e _ (by omega) (by omega) (by omega)]; exact hO h k h0 h1 k0 k1
  · rw [e _ (by omega) (by omega) (by omega)]; exact hL h k h0 h1 k0 k1
  · rw [e _ (by omega) (by omega) (by omega)]; exact hS s s0 s1
  · rw [e _ (by omega) (by omega) (by omega)]; exact hI s p w s0 s1 p0 p1 w0 w1
  · rw [e _ (by omega) (by omega) (by omega), e _ (by omega) (by omega) (by omega)]; exact hW h h0 (by omega)
  · rw [e _ (by omega) (by omega) (by omega)]; exact z1 h k (by omega) h1 k0 k1
  · rw [e _ (by omega) (by omega) (by omega)]; exact z2 h k h0 h1 k0 k1 (by omega)
  · rw [e _ (by omega) (by omega) (by omega)]; exact z3 h k h0 h1 k0 k1 (by omega)
  · rw [e _ (by omega) (by omega) (by omega), e _ (by omega) (by omega) (by omega)]; exact z4 a (by omega) a1
  · have e9 := hS s s0 s1
    rw [e _ (by omega) (by omega) (by omega)] at k1
    rw [e _ (by omega) (by omega) (by omega)]; exact hX s k s0 s1 k0 k1
theorem KP_loan {N : Int → Int} {x y v : Int} (h : fs_KP N) (hx : 0 ≤ x ∧ x < N 1) (hy : 0 ≤ y ∧ y < N 1) (hxy : x ≠ y) (hv : 0 ≤ v ∧ v ≤ 999) : fs_KP (up1 N (64 + 6 * x + y) v) := by
  obtain ⟨⟨hA, hH, hC, hF, hO, hL, hS, hI, hW⟩, ⟨z1, z2, z3, z4⟩, hX⟩ := h
  have e : ∀ i, i ≠ 64 + 6 * x + y → up1 N (64 + 6 * x + y) v i = N i := fun i a => if_neg a
  have e2 : up1 N (64 + 6 * x + y) v (64 + 6 * x + y) = v := if_pos rfl
  have e0 := e 0 (by omega)
  have e1 := e 1 (by omega)
  generalize up1 N (64 + 6 * x + y) v = R at e e0 e1 e2
  refine ⟨⟨by omega, by omega, fun a a0 a1 => ⟨?_, ?_⟩, fun h k h0 h1 k0 k1 => ?_, fun h k h0 h1 k0 k1 => ?_, fun h k h0 h1 k0 k1 => ?_, fun s s0 s1 => ?_, fun s p w s0 s1 p0 p1 w0 w1 => ?_, fun h h0 h1 => ?_⟩,
    ⟨fun h k h0 h1 k0 k1 => ?_, fun h k h0 h1 k0 k1 q => ?_, fun h k h0 h1 k0 k1 q => ?_, fun a a0 a1 => ?_⟩, fun s k s0 s1 k0 k1 => ?_⟩
  · rw [e _ (by omega)]; exact (hC a a0 a1).1
  · rw [e _ (by omega)]; exact (hC a a0 a1).2
  · rw [e _ (by omega)]; exact hF h k h0 h1 k0 k1
  · rw [e _ (by omega)]; exact hO h k h0 h1 k0 k1
  · by_cases q : 64 + 6 * h + k = 64 + 6 * x + y
    · rw [q, e2]; exact hv
    · rw [e _ q]; exact hL h k h0 h1 k0 k1
  · rw [e _ (by omega)]; exact hS s s0 s1
  · rw [e _ (by omega)]; exact hI s p w s0 s1 p0 p1 w0 w1
  · rw [e _ (by omega), e _ (by omega)]; exact hW h h0 (by omega)
  · rw [e _ (by omega)]; exact z1 h k (by omega) h1 k0 k1
  · rw [e _ (by omega)]; exact z2 h k h0 h1 k0 k1 (by omega)
  · rw [e _ (by omega)]; exact z3 h k h0 h1 k0 k1 (by omega)
  · rw [e _ (by omega), e _ (by omega)]; exact z4 a (by omega) a1
  · have e9 := hS s s0 s1
    rw [e _ (by omega)] at k1
    rw [e _ (by omega)]; exact hX s k s0 s1 k0 k1
theorem KP_lay {N : Int → Int} {s k a v : Int} (h : fs_KP N) (hs : 0 ≤ s ∧ s < 3) (hn : N (100 + 13 * s) ≠ 4) (hk : 0 ≤ k ∧ k ≤ 1) (ha : 0 ≤ a ∧ a < 10) (hv : 0 ≤ v ∧ v ≤ 360) :
    fs_KP (up1 (up1 (up1 (up1 N (100 + 13 * s + 1 + 3 * N (100 + 13 * s)) k) (100 + 13 * s + 1 + 3 * N (100 + 13 * s) + 1) a) (100 + 13 * s + 1 + 3 * N (100 + 13 * s) + 2) v) (100 + 13 * s) (N (100 + 13 * s) + 1)) := by
  obtain ⟨⟨hA, hH, hC, hF, hO, hL, hS, hI, hW⟩, ⟨z1, z2, z3, z4⟩, hX⟩ := h
  have hss := hS s hs.1 hs.2
  have e : ∀ i, i ≠ 100 + 13 * s → (i < 100 + 13 * s + 1 + 3 * N (100 + 13 * s) ∨ 100 + 13 * s + 1 + 3 * N (100 + 13 * s) + 2 < i) → (up1 (up1 (up1 (up1 N (100 + 13 * s + 1 + 3 * N (100 + 13 * s)) k) (100 + 13 * s + 1 + 3 * N (100 + 13 * s) + 1) a) (100 + 13 * s + 1 + 3 * N (100 + 13 * s) + 2) v) (100 + 13 * s) (N (100 + 13 * s) + 1)) i = N i := fun i x y => by
    unfold up1
    rw [if_neg x, if_neg (by omega), if_neg (by omega), if_neg (by omega)]
  have e2 : (up1 (up1 (up1 (up1 N (100 + 13 * s + 1 + 3 * N (100 + 13 * s)) k) (100 + 13 * s + 1 + 3 * N (100 + 13 * s) + 1) a) (100 + 13 * s + 1 + 3 * N (100 + 13 * s) + 2) v) (100 + 13 * s) (N (100 + 13 * s) + 1)) (100 + 13 * s) = N (100 + 13 * s) + 1 := if_pos rfl
  have e3 : (up1 (up1 (up1 (up1 N (100 + 13 * s + 1 + 3 * N (100 + 13 * s)) k) (100 + 13 * s + 1 + 3 * N (100 + 13 * s) + 1) a) (100 + 13 * s + 1 + 3 * N (100 + 13 * s) + 2) v) (100 + 13 * s) (N (100 + 13 * s) + 1)) (100 + 13 * s + 1 + 3 * N (100 + 13 * s)) = k := by unfold up1; rw [if_neg (by omega), if_neg (by omega), if_neg (by omega), if_pos rfl]
  have e4 : (up1 (up1 (up1 (up1 N (100 + 13 * s + 1 + 3 * N (100 + 13 * s)) k) (100 + 13 * s + 1 + 3 * N (100 + 13 * s) + 1) a) (100 + 13 * s + 1 + 3 * N (100 + 13 * s) + 2) v) (100 + 13 * s) (N (100 + 13 * s) + 1)) (100 + 13 * s + 1 + 3 * N (100 + 13 * s) + 1) = a := by unfold up1; rw [if_neg (by omega), if_neg (by omega), if_pos rfl]
  have e5 : (up1 (up1 (up1 (up1 N (100 + 13 * s + 1 + 3 * N (100 + 13 * s)) k) (100 + 13 * s + 1 + 3 * N (100 + 13 * s) + 1) a) (100 + 13 * s + 1 + 3 * N (100 + 13 * s) + 2) v) (100 + 13 * s) (N (100 + 13 * s) + 1)) (100 + 13 * s + 1 + 3 * N (100 + 13 * s) + 2) = v := by unfold up1; rw [if_neg (by omega), if_pos rfl]
  have e0 := e 0 (by omega) (by omega)
  have e1 := e 1 (by omega) (by omega)
  generalize (up1 (up1 (up1 (up1 N (100 + 13 * s + 1 + 3 * N (100 + 13 * s)) k) (100 + 13 * s + 1 + 3 * N (100 + 13 * s) + 1) a) (100 + 13 * s + 1 + 3 * N (100 + 13 * s) + 2) v) (100 + 13 * s) (N (100 + 13 * s) + 1)) = R at e e0 e1 e2 e3 e4 e5
  refine ⟨⟨by omega, by omega, fun a a0 a1 => ⟨?_, ?_⟩, fun h k h0 h1 k0 k1 => ?_, fun h k h0 h1 k0 k1 => ?_, fun h k h0 h1 k0 k1 => ?_, fun t s0 s1 => ?_, fun t p w s0 s1 p0 p1 w0 w1 => ?_, fun h h0 h1 => ?_⟩,
    ⟨fun h k h0 h1 k0 k1 => ?_, fun h k h0 h1 k0 k1 q => ?_, fun h k h0 h1 k0 k1 q => ?_, fun a a0 a1 => ?_⟩, fun t j s0 s1 k0 k1 => ?_⟩
  · rw [e _ (by omega) (by omega)]; exact (hC a a0 a1).1
  · rw [e _ (by omega) (by omega)]; exact (hC a a0 a1).2
  · rw [e _ (by omega) (by omega)]; exact hF h k h0 h1 k0 k1
  · rw [e _ (by omega) (by omega)]; exact hO h k h0 h1 k0 k1
  · rw [e _ (by omega) (by omega)]; exact hL h k h0 h1 k0 k1
  · by_cases q : t = s
    · rw [q, e2]; omega
    · rw [e _ (by omega) (by omega)]; exact hS t s0 s1
  · by_cases q : t = s ∧ p = N (100 + 13 * s)
    · obtain ⟨q, q2⟩ := q
      rw [q, q2]
      rcases (show w = 0 ∨ w = 1 ∨ w = 2 by omega) with y | y | y <;> subst y
      · rw [show 100 + 13 * s + 1 + 3 * N (100 + 13 * s) + 0 = 100 + 13 * s + 1 + 3 * N (100 + 13 * s) by omega, e3]; omega
      · rw [e4]; omega
      · rw [e5]; omega
    · rcases (show t < s ∨ s < t ∨ (t = s ∧ p < N (100 + 13 * s)) ∨ (t = s ∧ N (100 + 13 * s) < p) by omega) with y | y | ⟨y, y2⟩ | ⟨y, y2⟩
      · rw [e _ (by omega) (by omega)]; exact hI t p w s0 s1 p0 p1 w0 w1
      · rw [e _ (by omega) (by omega)]; exact hI t p w s0 s1 p0 p1 w0 w1
      · subst y
        rw [e _ (by omega) (by omega)]; exact hI t p w s0 s1 p0 p1 w0 w1
      · subst y
        rw [e _ (by omega) (by omega)]; exact hI t p w s0 s1 p0 p1 w0 w1
  · rw [e _ (by omega) (by omega), e _ (by omega) (by omega)]; exact hW h h0 (by omega)
  · rw [e _ (by omega) (by omega)]; exact z1 h k (by omega) h1 k0 k1
  · rw [e _ (by omega) (by omega)]; exact z2 h k h0 h1 k0 k1 (by omega)
  · rw [e _ (by omega) (by omega)]; exact z3 h k h0 h1 k0 k1 (by omega)
  · rw [e _ (by omega) (by omega), e _ (by omega) (by omega)]; exact z4 a (by omega) a1
  · have e9 := hS t s0 s1
    by_cases q : t = s
    · rw [q, e2] at k1
      rw [q]
      by_cases q2 : j = N (100 + 13 * s)
      · rw [q2, e4]; exact ha.2
      · rw [e _ (by omega) (by omega)]; exact hX s j hs.1 hs.2 k0 (by omega)
    · rw [e _ (by omega) (by omega)] at k1
      rw [e _ (by omega) (by omega)]; exact hX t j s0 s1 k0 k1
theorem KP_house {T : Int → Int} {n : Int} {N : Int → Int} {q e : Int} (h : fs_KP N) (hn : N 1 ≠ 6) (he : 0 ≤ e ∧ e ≤ n) (hf : tx_F T n N q e (5 + tx_C T n N e).toNat = -1) : fs_KP (tx_R T n N e) := by
  obtain ⟨⟨hA, hH, hC, hF, hO, hL, hS, hI, hW⟩, ⟨z1, z2, z3, z4⟩, hX⟩ := h
  have cb := tx_C_b (T := T) (n := n) (e := e) hA.1
  have ok : ∀ j : Nat, j < (5 + tx_C T n N e).toNat → tx_lo j ≤ nV T n (tx_E T n j e) ∧ nV T n (tx_E T n j e) ≤ tx_hi j := fun j hj => (tx_F_ok he hf hj).2.2.2
  have eN : ∀ i, i ≠ 1 → (i < 10 + 5 * N 1 ∨ 10 + 5 * N 1 + 5 ≤ i) → (i < 40 + 4 * N 1 ∨ 40 + 4 * N 1 + tx_C T n N e ≤ i) → tx_R T n N e i = N i := fun i a b c => by
    unfold tx_R
    rw [if_neg a, if_neg (by omega), if_neg (by omega)]
  have e1 : tx_R T n N e 1 = N 1 + 1 := if_pos rfl
  have e2 : ∀ k, 0 ≤ k → k < 5 → tx_R T n N e (10 + 5 * N 1 + k) = nV T n (tx_E T n k.toNat e) := fun k k0 k1 => by
    unfold tx_R
    rw [if_neg (by omega), if_pos (by omega), show (10 + 5 * N 1 + k - (10 + 5 * N 1)).toNat = k.toNat by omega]
  have e3 : ∀ a, 0 ≤ a → a < tx_C T n N e → tx_R T n N e (40 + 4 * N 1 + a) = nV T n (tx_E T n (5 + a).toNat e) := fun a a0 a1 => by
    unfold tx_R
    rw [if_neg (by omega), if_neg (by omega), if_pos (by omega), show (5 + (40 + 4 * N 1 + a - (40 + 4 * N 1))).toNat = (5 + a).toNat by omega]
  have o2 : ∀ k, 0 ≤ k → k < 5 → 0 ≤ tx_R T n N e (10 + 5 * N 1 + k) ∧ tx_R T n N e (10 + 5 * N 1 + k) ≤ 9999 ∧ (k = 3 → 1 ≤ tx_R T n N e (10 + 5 * N 1 + k) ∧ tx_R T n N e (10 + 5 * N 1 + k) ≤ 99) ∧ (k = 4 → tx_R T n N e (10 + 5 * N 1 + k) ≤ 1) := fun k k0 k1 => by
    have w := ok k.toNat (by omega)
    rw [e2 k k0 k1]
    rw [show ((k.toNat : Nat) : Int) = k by omega] at w
    unfold tx_lo tx_hi at w
    (repeat' split at w) <;> omega
  have o3 : ∀ a, 0 ≤ a → a < tx_C T n N e → 0 ≤ tx_R T n N e (40 + 4 * N 1 + a) ∧ tx_R T n N e (40 + 4 * N 1 + a) ≤ 60 := fun a a0 a1 => by
    have w := ok (5 + a).toNat (by omega)
    rw [e3 a a0 a1]
    rw [show (((5 + a).toNat : Nat) : Int) = 5 + a by omega] at w
    unfold tx_lo tx_hi at w
    rw [if_neg (by omega), if_pos (by omega)] at w
    exact w
  generalize tx_R T n N e = R at eN e1 e2 e3 o2 o3
  generalize tx_C T n N e = C at eN cb o3
  have e0 := eN 0 (by omega) (by omega) (by omega)
  refine ⟨⟨by omega, by omega, fun a a0 a1 => ⟨?_, ?_⟩, fun h k h0 h1 k0 k1 => ?_, fun h k h0 h1 k0 k1 => ?_, fun h k h0 h1 k0 k1 => ?_, fun s s0 s1 => ?_, fun s p w s0 s1 p0 p1 w0 w1 => ?_, fun h h0 h1 => ?_⟩,
    ⟨fun h k h0 h1 k0 k1 => ?_, fun h k h0 h1 k0 k1 q => ?_, fun h k h0 h1 k0 k1 q => ?_, fun a a0 a1 => ?_⟩, fun s k s0 s1 k0 k1 => ?_⟩
  · rw [eN _ (by omega) (by omega) (by omega)]; exact (hC a a0 a1).1
  · rw [eN _ (by omega) (by omega) (by omega)]; exact (hC a a0 a1).2
  · by_cases y : h = N 1
    · rw [y]
      have w := o2 k k0 k1
      omega
    · rw [eN _ (by omega) (by omega) (by omega)]; exact hF h k h0 h1 k0 k1
  · by_cases y : h = N 1 ∧ k < C
    · rw [y.1]
      exact o3 k k0 y.2
    · rw [eN _ (by omega) (by omega) (by omega)]; exact hO h k h0 h1 k0 k1
  · rw [eN _ (by omega) (by omega) (by omega)]; exact hL h k h0 h1 k0 k1
  · rw [eN _ (by omega) (by omega) (by omega)]; exact hS s s0 s1
  · rw [eN _ (by omega) (by omega) (by omega)]; exact hI s p w s0 s1 p0 p1 w0 w1
  · by_cases y : h = N 1
    · rw [y]
      have w3 := (o2 3 (by omega) (by omega)).2.2.1 rfl
      have w4 := (o2 4 (by omega) (by omega)).2.2.2 rfl
      omega
    · rw [eN _ (by omega) (by omega) (by omega), eN _ (by omega) (by omega) (by omega)]; exact hW h h0 (by omega)
  · rw [eN _ (by omega) (by omega) (by omega)]; exact z1 h k (by omega) h1 k0 k1
  · rw [eN _ (by omega) (by omega) (by omega)]; exact z2 h k h0 h1 k0 k1 (by omega)
  · rw [eN _ (by omega) (by omega) (by omega)]; exact z3 h k h0 h1 k0 k1 (by omega)
  · rw [eN _ (by omega) (by omega) (by omega), eN _ (by omega) (by omega) (by omega)]; exact z4 a (by omega) a1
  · have e9 := hS s s0 s1
    rw [eN _ (by omega) (by omega) (by omega)] at k1
    rw [eN _ (by omega) (by omega) (by omega)]; exact hX s k s0 s1 k0 k1