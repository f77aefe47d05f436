/-! acts keep what a row must keep -/
theorem KP_cell {N : Int → Int} {i v : Int} (h : fs_KP N) (hi : 2 ≤ i ∧ i < 100) (c1 : i < 6 → i - 2 < N 0 ∧ 0 ≤ v ∧ v ≤ 200) (c2 : 6 ≤ i → i < 10 → i - 6 < N 0 ∧ 0 ≤ v ∧ v ≤ 9)
    (c3 : 10 ≤ i → i < 40 → (i - 10) / 5 < N 1 ∧ (0 ≤ v ∧ v ≤ 9999) ∧ ((i - 10) % 5 = 3 → 1 ≤ v ∧ v ≤ 99) ∧ ((i - 10) % 5 = 4 → v ≤ 1)) (c4 : 40 ≤ i → i < 64 → (i - 40) / 4 < N 1 ∧ (i - 40) % 4 < N 0 ∧ 0 ≤ v ∧ v ≤ 60)
    (c5 : 64 ≤ i → ((i - 64) / 6 < N 1 ∧ (i - 64) % 6 < N 1 ∧ (i - 64) / 6 ≠ (i - 64) % 6) ∧ 0 ≤ v ∧ v ≤ 999) : fs_KP (up1 N i v) := by
  obtain ⟨⟨hA, hH, hC, hF, hO, hL, hS, hI, hW⟩, ⟨z1, z2, z3, z4⟩, hX⟩ := h
  have e : ∀ j, j ≠ i → up1 N i v j = N j := fun j a => if_neg a
  have e2 : up1 N i v i = v := if_pos rfl
  have e0 := e 0 (by omega)
  have e1 := e 1 (by omega)
  generalize up1 N i v = R at e e0 e1 e2
  refine ⟨⟨by omega, by omega, fun a a0 a1 => ⟨?_, ?_⟩, fun h k h0 h1 k0 k1 => ?_, fun h k h0 h1 k0 k1 => ?_, fun h k h0 h1 k0 k1 => ?_, fun s s0 s1 => ?_, fun s p w s0 s1 p0 p1 w0 w1 => ?_, fun h h0 h1 => ?_⟩,
    ⟨fun h k h0 h1 k0 k1 => ?_, fun h k h0 h1 k0 k1 q => ?_, fun h k h0 h1 k0 k1 q => ?_, fun a a0 a1 => ?_⟩, fun s k s0 s1 k0 k1 => ?_⟩
  · by_cases q : 2 + a = i
    · rw [q, e2]; omega
    · rw [e _ q]; exact (hC a a0 a1).1
  · by_cases q : 6 + a = i
    · rw [q, e2]; omega
    · rw [e _ q]; exact (hC a a0 a1).2
  · by_cases q : 10 + 5 * h + k = i
    · rw [q, e2]; omega
    · rw [e _ q]; exact hF h k h0 h1 k0 k1
  · by_cases q : 40 + 4 * h + k = i
    · rw [q, e2]; omega
    · rw [e _ q]; exact hO h k h0 h1 k0 k1
  · by_cases q : 64 + 6 * h + k = i
    · rw [q, e2]; omega
    · rw [e _ q]; exact hL h k h0 h1 k0 k1
  · rw [e _ (by omega)]; exact hS s s0 s1
  · rw [e _ (by omega)]; exact hI s p w s0 s1 p0 p1 w0 w1
  · have w := hW h h0 (by omega)
    by_cases q : 10 + 5 * h + 3 = i
    · rw [q, e2, e _ (by omega)]; omega
    · rw [e _ q]
      by_cases q2 : 10 + 5 * h + 4 = i
      · rw [q2, e2]; omega
      · rw [e _ q2]; exact w
  · rw [e _ (by omega)]; exact z1 h k (by omega) h1 k0 k1
  · rw [e _ (by omega)]; exact z2 h k h0 h1 k0 k1 (by omega)
  · rw [e _ (by omega)]; exact z3 h k h0 h1 k0 k1 (by omega)
  · rw [e _ (by omega), e _ (by omega)]; exact z4 a (by omega) a1
  · have e9 := hS s s0 s1
    rw [e _ (by omega)] at k1
    rw [e _ (by omega)]; exact hX s k s0 s1 k0 k1
theorem KP_newhouse {N : Int → Int} {x y : Int} (h : fs_KP N) (hn : N 1 ≠ 6) (hx : 0 ≤ x ∧ x ≤ 9999) (hy : 0 ≤ y ∧ y ≤ 9999) : fs_KP (up1 (up1 (up1 (up1 N (10 + 5 * N 1 + 0) x) (10 + 5 * N 1 + 1) y) (10 + 5 * N 1 + 3) 1) 1 (N 1 + 1)) := by
  obtain ⟨⟨hA, hH, hC, hF, hO, hL, hS, hI, hW⟩, ⟨z1, z2, z3, z4⟩, hX⟩ := h
  have e : ∀ j, j ≠ 1 → j ≠ 10 + 5 * N 1 + 0 → j ≠ 10 + 5 * N 1 + 1 → j ≠ 10 + 5 * N 1 + 3 → up1 (up1 (up1 (up1 N (10 + 5 * N 1 + 0) x) (10 + 5 * N 1 + 1) y) (10 + 5 * N 1 + 3) 1) 1 (N 1 + 1) j = N j := fun j a b c d => by
    unfold up1
    rw [if_neg a, if_neg d, if_neg c, if_neg b]
  have x0 : up1 (up1 (up1 (up1 N (10 + 5 * N 1 + 0) x) (10 + 5 * N 1 + 1) y) (10 + 5 * N 1 + 3) 1) 1 (N 1 + 1) (10 + 5 * N 1 + 0) = x := by
    unfold up1
    rw [if_neg (by omega), if_neg (by omega), if_neg (by omega), if_pos rfl]
  have x1 : up1 (up1 (up1 (up1 N (10 + 5 * N 1 + 0) x) (10 + 5 * N 1 + 1) y) (10 + 5 * N 1 + 3) 1) 1 (N 1 + 1) (10 + 5 * N 1 + 1) = y := by
    unfold up1
    rw [if_neg (by omega), if_neg (by omega), if_pos rfl]
  have x3 : up1 (up1 (up1 (up1 N (10 + 5 * N 1 + 0) x) (10 + 5 * N 1 + 1) y) (10 + 5 * N 1 + 3) 1) 1 (N 1 + 1) (10 + 5 * N 1 + 3) = 1 := by
    unfold up1
    rw [if_neg (by omega), if_pos rfl]
  have e1 : up1 (up1 (up1 (up1 N (10 + 5 * N 1 + 0) x) (10 + 5 * N 1 + 1) y) (10 + 5 * N 1 + 3) 1) 1 (N 1 + 1) 1 = N 1 + 1 := if_pos rfl
  have e0 := e 0 (by omega) (by omega) (by omega) (by omega)
  generalize up1 (up1 (up1 (up1 N (10 + 5 * N 1 + 0) x) (10 + 5 * N 1 + 1) y) (10 + 5 * N 1 + 3) 1) 1 (N 1 + 1) = R at e e0 e1 x0 x1 x3
  refine ⟨⟨by omega, by omega, fun a a0 a1 => ⟨?_, ?_⟩, fun h k h0 h1 k0 k1 => ?_, fun h k h0 h1 k0 k1 => ?_, fun h k h0 h1 k0 k1 => ?_, fun s s0 s1 => ?_, fun s p w s0 s1 p0 p1 w0 w1 => ?_, fun h h0 h1 => ?_⟩,
    ⟨fun h k h0 h1 k0 k1 => ?_, fun h k h0 h1 k0 k1 q => ?_, fun h k h0 h1 k0 k1 q => ?_, fun a a0 a1 => ?_⟩, fun s k s0 s1 k0 k1 => ?_⟩
  · rw [e _ (by omega) (by omega) (by omega) (by omega)]; exact (hC a a0 a1).1
  · rw [e _ (by omega) (by omega) (by omega) (by omega)]; exact (hC a a0 a1).2
  · by_cases q0 : 10 + 5 * h + k = 10 + 5 * N 1 + 0
    · rw [q0, x0]; exact hx
    by_cases q1 : 10 + 5 * h + k = 10 + 5 * N 1 + 1
    · rw [q1, x1]; exact hy
    by_cases q3 : 10 + 5 * h + k = 10 + 5 * N 1 + 3
    · rw [q3, x3]; omega
    rw [e _ (by omega) q0 q1 q3]; exact hF h k h0 h1 k0 k1
  · rw [e _ (by omega) (by omega) (by omega) (by omega)]; exact hO h k h0 h1 k0 k1
  · rw [e _ (by omega) (by omega) (by omega) (by omega)]; exact hL h k h0 h1 k0 k1
  · rw [e _ (by omega) (by omega) (by omega) (by omega)]; exact hS s s0 s1
  · rw [e _ (by omega) (by omega) (by omega) (by omega)]; exact hI s p w s0 s1 p0 p1 w0 w1
  · by_cases q : h = N 1
    · have w4 := z1 h 4 (by omega) (by omega) (by omega) (by omega)
      rw [e (10 + 5 * h + 4) (by omega) (by omega) (by omega) (by omega), w4, q, x3]
      omega
    · rw [e _ (by omega) (by omega) (by omega) (by omega), e _ (by omega) (by omega) (by omega) (by omega)]; exact hW h h0 (by omega)
  · rw [e _ (by omega) (by omega) (by omega) (by omega)]; exact z1 h k (by omega) h1 k0 k1
  · rw [e _ (by omega) (by omega) (by omega) (by omega)]; exact z2 h k h0 h1 k0 k1 (by omega)
  · rw [e _ (by omega) (by omega) (by omega) (by omega)]; exact z3 h k h0 h1 k0 k1 (by omega)
  · rw [e _ (by omega) (by omega) (by omega) (by omega), e _ (by omega) (by omega) (by omega) (by omega)]; exact z4 a (by omega) a1
  · have e9 := hS s s0 s1
    rw [e _ (by omega) (by omega) (by omega) (by omega)] at k1
    rw [e _ (by omega) (by omega) (by omega) (by omega)]; exact hX s k s0 s1 k0 k1
theorem KP_lift {N : Int → Int} {t r : Int} (h : fs_KP N) (ht : 0 ≤ t ∧ t ≤ 2) (hr : 0 ≤ r ∧ r < N (100 + 13 * t)) : fs_KP (li_row N t r) := by
  obtain ⟨⟨hA, hH, hC, hF, hO, hL, hS, hI, hW⟩, ⟨z1, z2, z3, z4⟩, hX⟩ := h
  have st := hS t (by omega) (by omega)
  have e : ∀ j, j < 100 → li_row N t r j = N j := fun j a => by
    unfold li_row
    rw [if_neg (by omega), if_neg (by omega)]
  have es : ∀ s, 0 ≤ s → s < 3 → li_row N t r (100 + 13 * s) = if s = t then N (100 + 13 * s) - 1 else N (100 + 13 * s) := fun s s0 s1 => by
    unfold li_row
    by_cases q : s = t
    · rw [if_pos q, if_pos (by omega)]
    · rw [if_neg q, if_neg (by omega), if_neg (by omega)]
  have ec : ∀ s p w, 0 ≤ s → s < 3 → 0 ≤ p → p < 4 → 0 ≤ w → w < 3 → li_row N t r (100 + 13 * s + 1 + 3 * p + w) = if s = t ∧ r ≤ p ∧ p < 3 then N (100 + 13 * s + 1 + 3 * (p + 1) + w) else N (100 + 13 * s + 1 + 3 * p + w) := fun s p w s0 s1 p0 p1 w0 w1 => by
    unfold li_row
    by_cases q : s = t ∧ r ≤ p ∧ p < 3
    · rw [if_pos q, if_neg (by omega), if_pos (by omega), show 100 + 13 * s + 1 + 3 * p + w + 3 = 100 + 13 * s + 1 + 3 * (p + 1) + w by omega]
    · have a1 : ¬ 100 + 13 * s + 1 + 3 * p + w = 100 + 13 * t := by rcases (show s = t ∨ s < t ∨ t < s by omega) with z | z | z <;> omega
      have a2 : ¬ (100 + 13 * t + 1 + 3 * r ≤ 100 + 13 * s + 1 + 3 * p + w ∧ 100 + 13 * s + 1 + 3 * p + w < 100 + 13 * t + 10) := by rcases (show s = t ∨ s < t ∨ t < s by omega) with z | z | z <;> omega
      rw [if_neg q, if_neg a1, if_neg a2]
  have e0 := e 0 (by omega)
  have e1 := e 1 (by omega)
  generalize li_row N t r = R at e es ec e0 e1
  refine ⟨⟨by omega, by omega, fun a a0 a1 => ⟨?_, ?_⟩, fun h k h0 h1 k0 k1 => ?_, fun h k h0 h1 k0 k1 => ?_, fun h k h0 h1 k0 k1 => ?_, fun s s0 s1 => ?_, fun s p w s0 s1 p0 p1 w0 w1 => ?_, fun h h0 h1 => ?_⟩,
    ⟨fun h k h0 h1 k0 k1 => ?_, fun h k h0 h1 k0 k1 q => ?_, fun h k h0 h1 k0 k1 q => ?_, fun a a0 a1 => ?_⟩, fun s k s0 s1 k0 k1 => ?_⟩
  · rw [e _ (by omega)]; exact (hC a a0 a1).1
  · rw [e _ (by omega)]; exact (hC a a0 a1).2
  · rw [e _ (by omega)]; exact hF h k h0 h1 k0 k1
  · rw [e _ (by omega)]; exact hO h k h0 h1 k0 k1
  · rw [e _ (by omega)]; exact hL h k h0 h1 k0 k1
  · have w := hS s s0 s1
    rw [es s s0 s1]
    by_cases q : s = t
    · rw [if_pos q, q]; omega
    · rw [if_neg q]; exact w
  · rw [ec s p w s0 s1 p0 p1 w0 w1]
    by_cases q : s = t ∧ r ≤ p ∧ p < 3
    · rw [if_pos q]; exact hI s (p + 1) w s0 s1 (by omega) (by omega) w0 w1
    · rw [if_neg q]; exact hI s p w s0 s1 p0 p1 w0 w1
  · rw [e _ (by omega), e _ (by omega)]; exact hW h h0 (by omega)
  · rw [e _ (by omega)]; exact z1 h k (by omega) h1 k0 k1
  · rw [e _ (by omega)]; exact z2 h k h0 h1 k0 k1 (by omega)
  · rw [e _ (by omega)]; exact z3 h k h0 h1 k0 k1 (by omega)
  · rw [e _ (by omega), e _ (by omega)]; exact z4 a (by omega) a1
  · have w := hS s s0 s1
    rw [es s s0 s1] at k1
    have k4 : k < 4 := by
      by_cases q : s = t
      · rw [if_pos q] at k1; omega
      · rw [if_neg q] at k1; omega
    rw [ec s k 1 s0 s1 k0 k4 (by omega) (by omega)]
    by_cases q : s = t
    · rw [if_pos q] at k1
      by_cases q2 : r ≤ k
      · rw [if_pos ⟨q, q2, by omega⟩]; exact hX s (k + 1) s0 s1 (by omega) (by omega)
      · rw [if_neg (by omega)]; exact hX s k s0 s1 k0 (by omega)
    · rw [if_neg q] at k1
      rw [if_neg (by omega)]; exact hX s k s0 s1 k0 k1
theorem KP_merged {N : Int → Int} {x y : Int} (h : fs_KP N) (hx : 0 ≤ x ∧ x < N 1) (hy : 0 ≤ y ∧ y < N 1) (hxy : x ≠ y) : fs_KP (mg_row N x y) ∧ mg_row N x y 1 = N 1 := by
  obtain ⟨⟨hA, hH, hC, hF, hO, hL, hS, hI, hW⟩, ⟨z1, z2, z3, z4⟩, hX⟩ := h
  have eo : ∀ j, (j < 10 ∨ 100 ≤ j) → mg_row N x y j = N j := fun j a => by
    unfold mg_row
    rw [if_neg (by omega), if_neg (by omega), if_neg (by omega)]
  have ef : ∀ h k, 0 ≤ h → h < 6 → 0 ≤ k → k < 5 → mg_row N x y (10 + 5 * h + k) = if h = x ∧ k < 3 then min (N (10 + 5 * x + k) + N (10 + 5 * y + k)) 9999 else N (10 + 5 * h + k) := fun h k h0 h1 k0 k1 => by
    unfold mg_row
    rw [if_pos (by omega)]
    by_cases q : h = x ∧ k < 3
    · rw [if_pos q, if_pos (by omega), q.1, show 10 + 5 * x + k + 5 * (y - x) = 10 + 5 * y + k by omega]
    · rw [if_neg q, if_neg (by omega)]
  have eh : ∀ h k, 0 ≤ h → h < 6 → 0 ≤ k → k < 4 → mg_row N x y (40 + 4 * h + k) = if h = x then min (N (40 + 4 * x + k) + N (40 + 4 * y + k)) 60 else N (40 + 4 * h + k) := fun h k h0 h1 k0 k1 => by
    unfold mg_row
    rw [if_neg (by omega), if_pos (by omega)]
    by_cases q : h = x
    · rw [if_pos q, if_pos (by omega), q, show 40 + 4 * x + k + 4 * (y - x) = 40 + 4 * y + k by omega]
    · rw [if_neg q, if_neg (by omega)]
  have el : ∀ h k, 0 ≤ h → h < 6 → 0 ≤ k → k < 6 → mg_row N x y (64 + 6 * h + k) = if h = x then (if k = x ∨ k = y then 0 else min (N (64 + 6 * x + k) + N (64 + 6 * y + k)) 999) else if k = x then (if h = y then 0 else min (N (64 + 6 * h + x) + N (64 + 6 * h + y)) 999) else N (64 + 6 * h + k) := fun h k h0 h1 k0 k1 => by
    unfold mg_row
    rw [if_neg (by omega), if_neg (by omega), if_pos (by omega), show (64 + 6 * h + k - 64) / 6 = h by omega, show (64 + 6 * h + k - 64) % 6 = k by omega]
    by_cases q : h = x
    · rw [if_pos q, if_pos q, q]
    · rw [if_neg q, if_neg q]
      by_cases q2 : k = x
      · rw [if_pos q2, if_pos q2, q2]
      · rw [if_neg q2, if_neg q2]
  have e0 := eo 0 (by omega)
  have e1 := eo 1 (by omega)
  refine ⟨?_, e1⟩
  generalize mg_row N x y = R at eo ef eh el e0 e1
  refine ⟨⟨by omega, by omega, fun a a0 a1 => ⟨?_, ?_⟩, fun h k h0 h1 k0 k1 => ?_, fun h k h0 h1 k0 k1 => ?_, fun h k h0 h1 k0 k1 => ?_, fun s s0 s1 => ?_, fun s p w s0 s1 p0 p1 w0 w1 => ?_, fun h h0 h1 => ?_⟩,
    ⟨fun h k h0 h1 k0 k1 => ?_, fun h k h0 h1 k0 k1 q => ?_, fun h k h0 h1 k0 k1 q => ?_, fun a a0 a1 => ?_⟩, fun s k s0 s1 k0 k1 => ?_⟩
  · rw [eo _ (by omega)]; exact (hC a a0 a1).1
  · rw [eo _ (by omega)]; exact (hC a a0 a1).2
  · rw [ef h k h0 h1 k0 k1]
    have w := hF h k h0 h1 k0 k1
    by_cases q : h = x ∧ k < 3
    · rw [if_pos q]
      have w1 := hF x k hx.1 (by omega) k0 k1
      have w2 := hF y k hy.1 (by omega) k0 k1
      omega
    · rw [if_neg q]; exact w
  · rw [eh h k h0 h1 k0 k1]
    have w := hO h k h0 h1 k0 k1
    by_cases q : h = x
    · rw [if_pos q]
      have w1 := hO x k hx.1 (by omega) k0 k1
      have w2 := hO y k hy.1 (by omega) k0 k1
      omega
    · rw [if_neg q]; exact w
  · rw [el h k h0 h1 k0 k1]
    have w := hL h k h0 h1 k0 k1
    have w1 := hL x k hx.1 (by omega) k0 k1
    have w2 := hL y k hy.1 (by omega) k0 k1
    have w3 := hL h x h0 h1 hx.1 (by omega)
    have w4 := hL h y h0 h1 hy.1 (by omega)
    (repeat' split) <;> omega
  · rw [eo _ (by omega)]; exact hS s s0 s1
  · rw [eo _ (by omega)]; exact hI s p w s0 s1 p0 p1 w0 w1
  · rw [ef h 3 h0 (by omega) (by omega) (by omega), ef h 4 h0 (by omega) (by omega) (by omega), if_neg (by omega), if_neg (by omega)]
    exact hW h h0 (by omega)
  · rw [ef h k (by omega) h1 k0 k1, if_neg (by omega)]; exact z1 h k (by omega) h1 k0 k1
  · rw [eh h k h0 h1 k0 k1]
    by_cases q2 : h = x
    · rw [if_pos q2, z2 x k hx.1 (by omega) k0 k1 (by omega), z2 y k hy.1 (by omega) k0 k1 (by omega)]
      omega
    · rw [if_neg q2]; exact z2 h k h0 h1 k0 k1 (by omega)
  · rw [el h k h0 h1 k0 k1]
    by_cases q2 : h = x
    · rw [if_pos q2]
      by_cases q3 : k = x ∨ k = y
      · rw [if_pos q3]
      · rw [if_neg q3, z3 x k hx.1 (by omega) k0 k1 (by omega), z3 y k hy.1 (by omega) k0 k1 (by omega)]
        omega
    · rw [if_neg q2]
      by_cases q3 : k = x
      · rw [if_pos q3]
        by_cases q4 : h = y
        · rw [if_pos q4]
        · rw [if_neg q4, z3 h x h0 h1 hx.1 (by omega) (by omega), z3 h y h0 h1 hy.1 (by omega) (by omega)]
          omega
      · rw [if_neg q3]; exact z3 h k h0 h1 k0 k1 (by omega)
  · rw [eo _ (by omega), eo _ (by omega)]; exact z4 a (by omega) a1
  · have e9 := hS s s0 s1
    rw [eo _ (by omega)] at k1
    rw [eo _ (by omega)]; exact hX s k s0 s1 k0 k1
theorem KP_gone {N : Int → Int} {g : Int} (h : fs_KP N) (hg : 0 ≤ g ∧ g < N 1) : fs_KP (gs_row N g) := by
  obtain ⟨⟨hA, hH, hC, hF, hO, hL, hS, hI, hW⟩, ⟨z1, z2, z3, z4⟩, hX⟩ := h
  have gh : ∀ x, 0 ≤ x → x < N 1 - 1 → 0 ≤ gs_h g x ∧ gs_h g x < N 1 := fun x x0 x1 => by
    unfold gs_h
    split <;> omega
  have gj : ∀ x, N 1 - 1 ≤ x → gs_h g x = x + 1 := fun x x0 => by
    unfold gs_h
    exact if_neg (by omega)
  have gi : ∀ x y, gs_h g x = gs_h g y → x = y := fun x y => by
    unfold gs_h
    (repeat' split) <;> omega
  have eo : ∀ j, j ≠ 1 → (j < 10 ∨ 100 ≤ j) → gs_row N g j = N j := fun j b a => by
    unfold gs_row
    rw [if_neg b, if_neg (by omega), if_neg (by omega), if_neg (by omega)]
  have ef : ∀ h k, 0 ≤ h → h < 6 → 0 ≤ k → k < 5 → gs_row N g (10 + 5 * h + k) = if h < N 1 - 1 then N (10 + 5 * gs_h g h + k) else 0 := fun h k h0 h1 k0 k1 => by
    unfold gs_row
    rw [if_neg (by omega), if_pos (by omega), show (10 + 5 * h + k - 10) / 5 = h by omega, show (10 + 5 * h + k - 10) % 5 = k by omega]
    by_cases q : h < N 1 - 1
    · rw [if_pos q, if_pos q]
    · rw [if_neg q, if_neg q]
      by_cases q2 : h = N 1 - 1
      · rw [if_pos q2]
      · rw [if_neg q2]; exact z1 h k (by omega) h1 k0 k1
  have eh : ∀ h k, 0 ≤ h → h < 6 → 0 ≤ k → k < 4 → gs_row N g (40 + 4 * h + k) = if h < N 1 - 1 then N (40 + 4 * gs_h g h + k) else 0 := fun h k h0 h1 k0 k1 => by
    unfold gs_row
    rw [if_neg (by omega), if_neg (by omega), if_pos (by omega), show (40 + 4 * h + k - 40) / 4 = h by omega, show (40 + 4 * h + k - 40) % 4 = k by omega]
    by_cases q : h < N 1 - 1
    · rw [if_pos q, if_pos q]
    · rw [if_neg q, if_neg q]
      by_cases q2 : h = N 1 - 1
      · rw [if_pos q2]
      · rw [if_neg q2]; exact z2 h k h0 h1 k0 k1 (by omega)
  have el : ∀ h k, 0 ≤ h → h < 6 → 0 ≤ k → k < 6 → gs_row N g (64 + 6 * h + k) = if h < N 1 - 1 ∧ k < N 1 - 1 then N (64 + 6 * gs_h g h + gs_h g k) else 0 := fun h k h0 h1 k0 k1 => by
    unfold gs_row
    rw [if_neg (by omega), if_neg (by omega), if_neg (by omega), if_pos (by omega), show (64 + 6 * h + k - 64) / 6 = h by omega, show (64 + 6 * h + k - 64) % 6 = k by omega]
    by_cases q : h = N 1 - 1
    · rw [if_pos q, if_neg (by omega)]
    · rw [if_neg q]
      by_cases q2 : k = 5
      · rw [if_pos q2, if_neg (by omega)]
      · rw [if_neg q2]
        by_cases q3 : h < N 1 - 1
        · have w := gh h h0 q3
          rw [if_pos q3]
          by_cases q4 : k < N 1 - 1
          · rw [if_pos ⟨q3, q4⟩]
          · rw [if_neg (by omega), gj k (by omega)]
            exact z3 _ _ w.1 (by omega) (by omega) (by omega) (by omega)
        · rw [if_neg q3, if_neg (by omega)]
          by_cases q4 : k < N 1 - 1
          · have w := gh k k0 q4
            exact z3 _ _ h0 h1 w.1 (by omega) (by omega)
          · rw [gj k (by omega)]
            exact z3 _ _ h0 h1 (by omega) (by omega) (by omega)
  have e1 : gs_row N g 1 = N 1 - 1 := if_pos rfl
  have e0 := eo 0 (by omega) (by omega)
  generalize gs_row N g = R at eo ef eh el e0 e1
  refine ⟨⟨by omega, by omega, fun a a0 a1 => ⟨?_, ?_⟩, fun h k h0 h1 k0 k1 => ?_, fun h k h0 h1 k0 k1 => ?_, fun h k h0 h1 k0 k1 => ?_, fun s s0 s1 => ?_, fun s p w s0 s1 p0 p1 w0 w1 => ?_, fun h h0 h1 => ?_⟩,
    ⟨fun h k h0 h1 k0 k1 => ?_, fun h k h0 h1 k0 k1 q => ?_, fun h k h0 h1 k0 k1 q => ?_, fun a a0 a1 => ?_⟩, fun s k s0 s1 k0 k1 => ?_⟩
  · rw [eo _ (by omega) (by omega)]; exact (hC a a0 a1).1
  · rw [eo _ (by omega) (by omega)]; exact (hC a a0 a1).2
  · rw [ef h k h0 h1 k0 k1]
    by_cases q : h < N 1 - 1
    · rw [if_pos q]
      have w := gh h h0 q
      exact hF _ k w.1 (by omega) k0 k1
    · rw [if_neg q]; omega
  · rw [eh h k h0 h1 k0 k1]
    by_cases q : h < N 1 - 1
    · rw [if_pos q]
      have w := gh h h0 q
      exact hO _ k w.1 (by omega) k0 k1
    · rw [if_neg q]; omega
  · rw [el h k h0 h1 k0 k1]
    by_cases q : h < N 1 - 1 ∧ k < N 1 - 1
    · rw [if_pos q]
      have w := gh h h0 q.1
      have v := gh k k0 q.2
      exact hL _ _ w.1 (by omega) v.1 (by omega)
    · rw [if_neg q]; omega
  · rw [eo _ (by omega) (by omega)]; exact hS s s0 s1
  · rw [eo _ (by omega) (by omega)]; exact hI s p w s0 s1 p0 p1 w0 w1
  · have w := gh h h0 (by omega)
    rw [ef h 3 h0 (by omega) (by omega) (by omega), ef h 4 h0 (by omega) (by omega) (by omega), if_pos (by omega), if_pos (by omega)]
    exact hW _ w.1 w.2
  · rw [ef h k (by omega) h1 k0 k1, if_neg (by omega)]
  · rw [eh h k h0 h1 k0 k1]
    by_cases q2 : h < N 1 - 1
    · rw [if_pos q2]
      have w := gh h h0 q2
      exact z2 _ k w.1 (by omega) k0 k1 (by omega)
    · rw [if_neg q2]
  · rw [el h k h0 h1 k0 k1]
    by_cases q2 : h < N 1 - 1 ∧ k < N 1 - 1
    · rw [if_pos q2]
      have w := gh h h0 q2.1
      have v := gh k k0 q2.2
      have e : h = k := by omega
      rw [e]
      exact z3 _ _ v.1 (by omega) v.1 (by omega) (by omega)
    · rw [if_neg q2]
  · rw [eo _ (by omega) (by omega), eo _ (by omega) (by omega)]; exact z4 a (by omega) a1
  · have e9 := hS s s0 s1
    rw [eo _ (by omega) (by omega)] at k1
    rw [eo _ (by omega) (by omega)]; exact hX s k s0 s1 k0 k1
theorem lv_n_h {N : Int → Int} {h a : Int} (hh : 0 ≤ h ∧ h < N 1) (ha : 0 ≤ a ∧ a < N 0) : lv_n N h a ≤ N (40 + 4 * h + a) := by
  have e : lv_p N h a = min (ec_pl N 10 (4 * h + a)) (ec_left (ec_pl N) h (ec_due (ec_pl N) h (ec_worth (ec_pl N) (lv_S N) h)) (ec_ord (ec_pl N) h a)) := rfl
  have e2 : ec_pl N 10 (4 * h + a) = N (40 + (4 * h + a)) := rfl
  have e3 : (40 : Int) + (4 * h + a) = 40 + 4 * h + a := by omega
  rw [e3] at e2
  unfold lv_n
  omega
theorem KP_live {N : Int → Int} (h : fs_KP N) : fs_KP (lv_row N) := by
  have hN := h.1
  obtain ⟨⟨hA, hH, hC, hF, hO, hL, hS, hI, hW⟩, ⟨z1, z2, z3, z4⟩, hX⟩ := h
  have sb := (lv_S_b hN).1
  have mb : ∀ h, 0 ≤ h → h < N 1 → 0 ≤ lv_m N h (N 0).toNat := fun h h0 h1 => by
    unfold lv_m
    have key : ∀ n : Nat, (n : Int) ≤ N 0 → 0 ≤ fs_sum n (fun a => lv_n N h a * lv_c N a) := fun n => by
      induction n with
      | zero => exact fun _ => Int.le_refl 0
      | succ n ih =>
        intro hn
        have a1 := lv_n_b (h := h) (a := n) hN ⟨h0, h1⟩ ⟨by omega, by omega⟩
        have a2 := lv_c_b (a := n) hN ⟨by omega, by omega⟩
        have a3 := Int.mul_nonneg a1.1 a2.1
        have i := ih (by omega)
        show 0 ≤ fs_sum n (fun a => lv_n N h a * lv_c N a) + lv_n N h n * lv_c N n
        omega
    exact key _ (by omega)
  have eo : ∀ j, (j < 2 ∨ 100 ≤ j) → lv_row N j = N j := fun j a => by
    unfold lv_row lvC
    rw [if_neg (by omega)]
    exact lvB_at (by omega)
  have ec : ∀ a, 0 ≤ a → a < 4 → lv_row N (2 + a) = if a < N 0 then max 1 (N (2 + a) - N (2 + a + 4) * lv_S N (2 + a - 2)) else N (2 + a) := fun a a0 a1 => by
    unfold lv_row lvC
    by_cases q : a < N 0
    · rw [if_pos (by omega), if_pos q]
    · rw [if_neg (by omega), if_neg q]
      exact lvB_at (by omega)
  have es : ∀ a, 0 ≤ a → a < 4 → lv_row N (6 + a) = N (6 + a) := fun a a0 a1 => by
    unfold lv_row lvC
    rw [if_neg (by omega)]
    exact lvB_at (by omega)
  have eb : ∀ j, 10 ≤ j → lv_row N j = lvB N (N 1) j := fun j a => by
    unfold lv_row lvC
    rw [if_neg (by omega)]
  have ef : ∀ h k, 0 ≤ h → h < 6 → 0 ≤ k → k < 5 → (lv_row N (10 + 5 * h + k) = N (10 + 5 * h + k)) ∨ (h < N 1 ∧ k < 3 ∧ 0 ≤ lv_row N (10 + 5 * h + k) ∧ lv_row N (10 + 5 * h + k) ≤ 9999) := fun h k h0 h1 k0 k1 => by
    rw [eb _ (by omega)]
    have w := hF h k h0 h1 k0 k1
    unfold lvB
    split
    · rename_i z
      refine Or.inr ⟨?_, ?_, by omega, by omega⟩
      · rcases z with ⟨_, _, _, z, _⟩ | ⟨_, _, _⟩ | ⟨_, _, _⟩ <;> omega
      · rcases z with ⟨_, _, z, _, _⟩ | ⟨_, _, _⟩ | ⟨_, _, _⟩ <;> omega
    · unfold lvA
      split
      · rename_i z
        rw [show (10 + 5 * h + k - 10) / 5 = h by omega] at z ⊢
        have m := mb h h0 z.2.2.2
        exact Or.inr ⟨z.2.2.2, by omega, by omega, by omega⟩
      · rw [if_neg (by omega)]
        exact Or.inl rfl
  have eh : ∀ h k, 0 ≤ h → h < 6 → 0 ≤ k → k < 4 → 0 ≤ lv_row N (40 + 4 * h + k) ∧ lv_row N (40 + 4 * h + k) ≤ N (40 + 4 * h + k) := fun h k h0 h1 k0 k1 => by
    rw [eb _ (by omega)]
    have w := hO h k h0 h1 k0 k1
    unfold lvB
    split
    · omega
    · unfold lvA
      rw [if_neg (by omega)]
      split
      · rename_i z
        rw [show (40 + 4 * h + k - 40) / 4 = h by omega, show (40 + 4 * h + k - 40) % 4 = k by omega] at z ⊢
        have l := lv_n_h (N := N) (h := h) (a := k) ⟨h0, z.2.2.1⟩ ⟨k0, z.2.2.2⟩
        have b := lv_n_b (N := N) (h := h) (a := k) hN ⟨h0, z.2.2.1⟩ ⟨k0, z.2.2.2⟩
        omega
      · omega
  have el : ∀ h k, 0 ≤ h → h < 6 → 0 ≤ k → k < 6 → 0 ≤ lv_row N (64 + 6 * h + k) ∧ lv_row N (64 + 6 * h + k) ≤ N (64 + 6 * h + k) := fun h k h0 h1 k0 k1 => by
    rw [eb _ (by omega)]
    have w := hL h k h0 h1 k0 k1
    unfold lvB
    split
    · omega
    · unfold lvA
      rw [if_neg (by omega), if_neg (by omega)]
      omega
  have e0 := eo 0 (by omega)
  have e1 := eo 1 (by omega)
  generalize lv_row N = R at eo ec es eb ef eh el e0 e1
  refine ⟨⟨by omega, by omega, fun a a0 a1 => ⟨?_, ?_⟩, fun h k h0 h1 k0 k1 => ?_, fun h k h0 h1 k0 k1 => ?_, fun h k h0 h1 k0 k1 => ?_, fun s s0 s1 => ?_, fun s p w s0 s1 p0 p1 w0 w1 => ?_, fun h h0 h1 => ?_⟩,
    ⟨fun h k h0 h1 k0 k1 => ?_, fun h k h0 h1 k0 k1 q => ?_, fun h k h0 h1 k0 k1 q => ?_, fun a a0 a1 => ?_⟩, fun s k s0 s1 k0 k1 => ?_⟩
  · rw [ec a a0 a1]
    have w := (hC a a0 a1).1
    by_cases q : a < N 0
    · rw [if_pos q, show 2 + a - 2 = a by omega, show 2 + a + 4 = 6 + a by omega]
      have m := Int.mul_nonneg (hC a a0 a1).2.1 (sb a a0 a1).1
      omega
    · rw [if_neg q]; exact w
  · rw [es a a0 a1]; exact (hC a a0 a1).2
  · have w := hF h k h0 h1 k0 k1
    rcases ef h k h0 h1 k0 k1 with z | z
    · rw [z]; exact w
    · exact z.2.2
  · have w := hO h k h0 h1 k0 k1
    have v := eh h k h0 h1 k0 k1
    omega
  · have w := hL h k h0 h1 k0 k1
    have v := el h k h0 h1 k0 k1
    omega
  · rw [eo _ (by omega)]; exact hS s s0 s1
  · rw [eo _ (by omega)]; exact hI s p w s0 s1 p0 p1 w0 w1
  · have w := hW h h0 (by omega)
    rcases ef h 3 h0 (by omega) (by omega) (by omega) with z | z
    · rcases ef h 4 h0 (by omega) (by omega) (by omega) with y | y
      · rw [z, y]; exact w
      · omega
    · omega
  · rcases ef h k (by omega) h1 k0 k1 with z | z
    · rw [z]; exact z1 h k (by omega) h1 k0 k1
    · omega
  · have w := z2 h k h0 h1 k0 k1 (by omega)
    have v := eh h k h0 h1 k0 k1
    omega
  · have w := z3 h k h0 h1 k0 k1 (by omega)
    have v := el h k h0 h1 k0 k1
    omega
  · rw [ec a (by omega) a1, if_neg (by omega), es a (by omega) a1]; exact z4 a (by omega) a1
  · have e9 := hS s s0 s1
    rw [eo _ (by omega)] at k1
    rw [eo _ (by omega)]; exact hX s k s0 s1 k0 k1