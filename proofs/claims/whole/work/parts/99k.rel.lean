/-! the relation between the class and the Model -/
theorem vw_ag {b : Nat} {M : fs_M} {N K : Int → Int} (a : ag N K) (hS : ∀ s, 0 ≤ s → s < 3 → 0 ≤ N (100 + 13 * s) ∧ N (100 + 13 * s) ≤ 4) (h : vw b M N) : vw b M K := by
  obtain ⟨v0, v1, vC, vF, vO, vL, vS, vI⟩ := h
  have e0 := a 0 (by omega) (by omega)
  have e1 := a 1 (by omega) (by omega)
  refine ⟨by rw [v0, e0], by rw [v1, e1], fun x x0 x1 => ?_, fun h k h0 h1 k0 k1 c => ?_, fun h x h0 h1 x0 x1 => ?_, fun h o h0 h1 o0 o1 => ?_, fun s s0 s1 => ?_, fun s p w s0 s1 p0 p1 w0 w1 => ?_⟩
  · rw [← a (2 + x) (by omega) (by omega), ← a (6 + x) (by omega) (by omega)]
    exact vC x x0 x1
  · rw [← a (10 + 5 * h + k) (by omega) (by omega)]
    exact vF h k h0 h1 k0 k1 (by rw [e1]; exact c)
  · rw [← a (40 + 4 * h + x) (by omega) (by omega)]
    exact vO h x h0 h1 x0 x1
  · rw [← a (64 + 6 * h + o) (by omega) (by omega)]
    exact vL h o h0 h1 o0 o1
  · rw [← a (100 + 13 * s) (by omega) (by omega)]
    exact vS s s0 s1
  · have es := a (100 + 13 * s) (by omega) (by omega)
    have hs := hS s s0 s1
    rw [← a (100 + 13 * s + 1 + 3 * p + w) (by omega) (by omega)]
    exact vI s p w s0 s1 p0 (by rw [es]; exact p1) w0 w1
theorem us_ag {M : fs_M} {n : Int} {U K : Int → Int → Int} (h : us M n U) (a : ∀ j, 0 ≤ j → j < n → ag (U j) (K j)) : us M n K :=
  ⟨h.1, h.2.1, h.2.2.1, fun j j0 j1 => ⟨NI_ag (a j j0 j1) (h.2.2.2 j j0 j1).1, vw_ag (a j j0 j1) (h.2.2.2 j j0 j1).1.2.2.2.2.2.2.1 (h.2.2.2 j j0 j1).2⟩⟩
theorem us_u_at {n : Int} {U : Int → Int → Int} {N : Int → Int} {j k : Int} : us_u n U N j k = if j = us_n n - 1 then N k else if n = 12 then U (j + 1) k else U j k := by
  unfold us_u
  by_cases c1 : j = us_n n - 1
  · simp only [if_pos c1]
  · by_cases c2 : n = 12
    · simp only [if_neg c1, if_pos c2]
    · simp only [if_neg c1, if_neg c2]
theorem us_u_P {n : Int} {U : Int → Int → Int} {N : Int → Int} {P : (Int → Int) → Prop} (hN : P N) (hU : ∀ j, 0 ≤ j → j < n → P (U j)) {j : Int} (j0 : 0 ≤ j) (j1 : j < us_n n) : P (us_u n U N j) := by
  have e : us_u n U N j = if j = us_n n - 1 then N else if n = 12 then U (j + 1) else U j := rfl
  rw [e]
  unfold us_n at j1 ⊢
  by_cases c2 : n = 12
  · rw [if_pos c2] at j1
    rw [if_pos c2, if_pos c2]
    by_cases c1 : j = 12 - 1
    · rw [if_pos c1]
      exact hN
    · rw [if_neg c1]
      exact hU _ (by omega) (by omega)
  · rw [if_neg c2] at j1
    rw [if_neg c2, if_neg c2]
    by_cases c1 : j = n + 1 - 1
    · rw [if_pos c1]
      exact hN
    · rw [if_neg c1]
      exact hU _ (by omega) (by omega)
def LR (M : fs_M) : Prop := vw 5 M (M 125) ∧ us M (M 124 4) (fun j k => M 127 (139 * j + k)) ∧ fs_KP (M 125) ∧ (∀ j, 0 ≤ j → j < M 124 4 → fs_KP (fun k => M 127 (139 * j + k))) ∧ (M 1 1 = M 124 6 ∧ 0 ≤ M 124 6 ∧ M 124 6 ≤ 800) ∧ M 2 = M 128
theorem LR.v {M : fs_M} (h : LR M) : vw 5 M (M 125) := h.1
theorem LR.u {M : fs_M} (h : LR M) : us M (M 124 4) (fun j k => M 127 (139 * j + k)) := h.2.1
theorem LR.k {M : fs_M} (h : LR M) : fs_KP (M 125) := h.2.2.1
theorem LR.ks {M : fs_M} (h : LR M) : ∀ j, 0 ≤ j → j < M 124 4 → fs_KP (fun k => M 127 (139 * j + k)) := h.2.2.2.1
theorem LR.t {M : fs_M} (h : LR M) : M 1 1 = M 124 6 ∧ 0 ≤ M 124 6 ∧ M 124 6 ≤ 800 := h.2.2.2.2.1
theorem LR.b {M : fs_M} (h : LR M) : M 2 = M 128 := h.2.2.2.2.2
theorem LR.fr {M M2 : fs_M} (h : LR M) (f : ∀ r, (r = 0 ∨ (5 ≤ r ∧ r ≤ 11) ∨ (40 ≤ r ∧ r < 124) ∨ r = 125 ∨ r = 127) → M2 r = M r) (f4 : M2 124 4 = M 124 4) (t : M2 1 1 = M2 124 6 ∧ 0 ≤ M2 124 6 ∧ M2 124 6 ≤ 800) (b : M2 2 = M2 128) : LR M2 := by
  have e0 := f 0 (by omega)
  have e5 := f 125 (by omega)
  have e7 := f 127 (by omega)
  refine ⟨?_, ?_, ?_, ?_, t, b⟩
  · rw [e5]
    exact h.v.fr (fun r x y => f r (by omega))
  · rw [f4, e7]
    exact h.u.fr ⟨by rw [e0], by rw [e0]⟩ (fun r x y => f r (by omega))
  · rw [e5]
    exact h.k
  · rw [f4, e7]
    exact h.ks
theorem LR.q {M M2 : fs_M} (h : LR M) (c : cq M M2) : LR M2 :=
  h.fr (fun r x => c r (by omega)) (by rw [c 124 (by omega)]) (by rw [c 1 (by omega), c 124 (by omega)]; exact h.t) (by rw [c 2 (by omega), c 128 (by omega)]; exact h.b)
theorem LR.m {M M2 : fs_M} (h : LR M) (c : mm_q M M2) : LR M2 :=
  h.fr (fun r x => c.1 r (by omega)) c.2.1 (by rw [c.1 1 (by omega), c.2.2]; exact h.t) (by rw [c.1 2 (by omega), c.1 128 (by omega)]; exact h.b)
theorem LR.act {M V M2 : fs_M} {N2 : Int → Int} (h : LR M) (a : ca M V N2 (M 124 4) (fun j k => M 127 (139 * j + k)) (M 125)) (b : mm_actq V M2 N2) (hk : fs_KP N2) : LR M2 := by
  obtain ⟨av, au, af⟩ := a
  obtain ⟨bf, b6, b4, br, bn⟩ := b
  have e124 := af 124 (by omega)
  have e125 := af 125 (by omega)
  have e127 := af 127 (by omega)
  have n4 : M2 124 4 = us_n (M 124 4) := by
    rw [b4, e124]
    rfl
  have row : ∀ j, 0 ≤ j → j < us_n (M 124 4) → ag (us_u (M 124 4) (fun j k => M 127 (139 * j + k)) (M 125) j) (fun k => M2 127 (139 * j + k)) := fun j j0 j1 k k0 k1 => by
    have w := br j k j0 (by rw [n4]; exact j1) k0 k1
    show us_u _ _ _ j k = M2 127 (139 * j + k)
    rw [w, n4, e124, e125, e127]
    exact us_u_at
  refine ⟨?_, ?_, ?_, ?_, ?_, ?_⟩
  · rw [bn]
    exact av.fr (fun r x y => bf r (by omega))
  · rw [n4]
    exact us_ag (au.fr ⟨by rw [bf 0 (by omega)], by rw [bf 0 (by omega)]⟩ (fun r x y => bf r (by omega))) row
  · rw [bn]
    exact hk
  · intro j j0 j1
    rw [n4] at j1
    exact KP_ag (row j j0 j1) (us_u_P h.k h.ks j0 j1)
  · rw [bf 1 (by omega), af 1 (by omega), b6, e124]
    exact h.t
  · rw [bf 2 (by omega), af 2 (by omega), bf 128 (by omega), af 128 (by omega)]
    exact h.b
theorem LR.fed {M V M2 : fs_M} {a b c d e : Int} (h : LR M) (hc : M 1 1 + 20 ≤ 800) (x : cfed M V a b c d e) (y : mm_fed V M2 a b c d e) : LR M2 := by
  obtain ⟨xf, x1, xb, xd⟩ := x
  obtain ⟨yf, y4, y6, yb, yd⟩ := y
  have e : ∀ r, r ≠ 1 → r ≠ 2 → r ≠ 124 → r ≠ 128 → M2 r = M r := fun r a b c d => (yf r c d).trans (xf r a b)
  have e124 := xf 124 (by decide) (by decide)
  have e1 : M2 1 = V 1 := yf 1 (by decide) (by decide)
  have ht := h.t
  refine h.fr (fun r a => e r (by omega) (by omega) (by omega) (by omega)) ?_ ?_ ?_
  · rw [y4 4 (by decide), e124]
  · rw [e1, x1, y6, e124]
    omega
  · rw [yf 2 (by decide) (by decide)]
    funext q
    by_cases c : q < M 1 1 ∨ M 1 1 + 20 ≤ q
    · rw [xb q c, yb q (by rw [e124]; omega), xf 128 (by decide) (by decide), h.b]
    · have w := xd (q - M 1 1) (by omega) (by omega)
      have z := yd (q - M 1 1) (by omega) (by omega)
      rw [show M 1 1 + (q - M 1 1) = q by omega] at w
      rw [e124, show M 124 6 + (q - M 1 1) = q by omega] at z
      rw [w, z]
theorem LR.back {M : fs_M} {n m : Int} (h : LR M) (hn : 0 ≤ n ∧ n ≤ M 1 1) (hm : m = M 124 6 - n) : LR (fs_up (fs_up M 1 1 (M 1 1 - n)) 124 6 m) := by
  have ht := h.t
  have e : ∀ r, r ≠ 1 → r ≠ 124 → fs_up (fs_up M 1 1 (M 1 1 - n)) 124 6 m r = M r := fun r a b => by rw [fs_up_other b, fs_up_other a]
  have e1 : fs_up (fs_up M 1 1 (M 1 1 - n)) 124 6 m 1 1 = M 1 1 - n := by
    rw [fs_up_other (by decide), fs_up_at, if_pos rfl]
  have e6 : fs_up (fs_up M 1 1 (M 1 1 - n)) 124 6 m 124 6 = m := by
    rw [fs_up_at, if_pos rfl]
  refine h.fr (fun r a => e r (by omega) (by omega)) ?_ ?_ ?_
  · rw [fs_up_at, if_neg (by decide), fs_up_other (by decide)]
  · rw [e1, e6]
    omega
  · rw [e 2 (by decide) (by decide), e 128 (by decide) (by decide)]
    exact h.b
theorem LR.ag5 {M M2 : fs_M} (h : LR M) (f : ∀ r, (r = 0 ∨ (5 ≤ r ∧ r ≤ 11) ∨ (40 ≤ r ∧ r < 124) ∨ r = 127) → M2 r = M r) (f5 : ag (M2 125) (M 125)) (f4 : M2 124 4 = M 124 4) (t : M2 1 1 = M2 124 6 ∧ 0 ≤ M2 124 6 ∧ M2 124 6 ≤ 800) (b : M2 2 = M2 128) : LR M2 := by
  have e0 := f 0 (by omega)
  have e7 := f 127 (by omega)
  refine ⟨?_, ?_, ?_, ?_, t, b⟩
  · exact vw_ag f5.sy h.k.1.2.2.2.2.2.2.1 (h.v.fr (fun r x y => f r (by omega)))
  · rw [f4, e7]
    exact h.u.fr ⟨by rw [e0], by rw [e0]⟩ (fun r x y => f r (by omega))
  · exact KP_ag f5.sy h.k
  · rw [f4, e7]
    exact h.ks
theorem LR.text0 {M V M2 : fs_M} (h : LR M) (x : ∀ r, r ≠ 1 → (r < 12 ∨ 18 < r) → V r = M r) (x1 : V 1 1 = 0) (y : ∀ r, r ≠ 124 → r ≠ 125 → r ≠ 126 → M2 r = V r) (y4 : ∀ i, (i < 6 ∨ 12 < i) → M2 124 i = V 124 i) (y6 : M2 124 6 = 0) (ya : ag (M2 125) (V 125)) : LR M2 := by
  refine h.ag5 (fun r a => (y r (by omega) (by omega) (by omega)).trans (x r (by omega) (by omega))) ?_ ?_ ?_ ?_
  · rw [x 125 (by omega) (by omega)] at ya
    exact ya
  · rw [y4 4 (by omega), x 124 (by omega) (by omega)]
  · rw [y 1 (by omega) (by omega) (by omega), x1, y6]
    omega
  · rw [y 2 (by omega) (by omega) (by omega), y 128 (by omega) (by omega) (by omega), x 2 (by omega) (by omega), x 128 (by omega) (by omega)]
    exact h.b
theorem LR.text1 {M V M2 : fs_M} {N : Int → Int} (h : LR M) (hk : fs_KP N) (v : vw 5 V N) (x : ∀ r, r ≠ 1 → r ≠ 0 → (r < 5 ∨ 18 < r) → V r = M r) (x1 : V 1 1 = 0) (p : V 0 6 = 0 ∧ V 0 5 = M 0 5) (y : ∀ r, r ≠ 124 → r ≠ 125 → r ≠ 126 → M2 r = V r) (y6 : M2 124 6 = 0 ∧ M2 124 4 = 0) (ya : ag (M2 125) N) : LR M2 := by
  have e0 := y 0 (by omega) (by omega) (by omega)
  refine ⟨?_, ?_, ?_, ?_, ?_, ?_⟩
  · exact vw_ag ya.sy hk.1.2.2.2.2.2.2.1 (v.fr (fun r a b => y r (by omega) (by omega) (by omega)))
  · refine ⟨by rw [e0, p.1, y6.2], by rw [y6.2]; omega, by rw [e0, p.2]; exact h.u.2.2.1, fun j j0 j1 => ?_⟩
    rw [y6.2] at j1
    omega
  · exact KP_ag ya.sy hk
  · intro j j0 j1
    rw [y6.2] at j1
    omega
  · rw [y 1 (by omega) (by omega) (by omega), x1, y6.1]
    omega
  · rw [y 2 (by omega) (by omega) (by omega), y 128 (by omega) (by omega) (by omega), x 2 (by omega) (by omega) (by omega), x 128 (by omega) (by omega) (by omega)]
    exact h.b
theorem LR.undo {M V M2 : fs_M} (h : LR M) (c : 0 < M 124 4) (v : vw 5 V (fun k => M 127 (139 * (M 124 4 - 1) + k))) (u : us V (M 124 4 - 1) (fun j k => M 127 (139 * j + k))) (x : ∀ r, (r = 1 ∨ r = 2 ∨ 123 < r) → V r = M r) (y : ∀ r, r ≠ 124 → r ≠ 125 → M2 r = V r) (y4 : ∀ i, i ≠ 4 → M2 124 i = V 124 i) (yt : M2 124 4 = V 124 4 - 1) (yn : ∀ k, 0 ≤ k → k < 139 → M2 125 k = V 127 (139 * (V 124 4 - 1) + k)) : LR M2 := by
  have e124 := x 124 (by omega)
  have e127 := x 127 (by omega)
  have n4 : M2 124 4 = M 124 4 - 1 := by rw [yt, e124]
  have e7 : M2 127 = M 127 := (y 127 (by omega) (by omega)).trans e127
  have e0 := y 0 (by omega) (by omega)
  have row : ag (fun k => M 127 (139 * (M 124 4 - 1) + k)) (M2 125) := fun k k0 k1 => by
    rw [yn k k0 k1, e124, e127]
  have kp := h.ks (M 124 4 - 1) (by omega) (by omega)
  refine ⟨?_, ?_, ?_, ?_, ?_, ?_⟩
  · exact vw_ag row kp.1.2.2.2.2.2.2.1 (v.fr (fun r a b => y r (by omega) (by omega)))
  · rw [n4, e7]
    exact u.fr ⟨by rw [e0], by rw [e0]⟩ (fun r a b => y r (by omega) (by omega))
  · exact KP_ag row kp
  · intro j j0 j1
    rw [n4] at j1
    rw [e7]
    exact h.ks j j0 (by omega)
  · rw [y 1 (by omega) (by omega), x 1 (by omega), y4 6 (by decide), e124]
    exact h.t
  · rw [y 2 (by omega) (by omega), y 128 (by omega) (by omega), x 2 (by omega), x 128 (by omega)]
    exact h.b
/-! the acts' rows -/
theorem KPa_asset {N : Int → Int} {x y : Int} (h : fs_KP N) (c : (1 ≤ x ∧ x ≤ 200) ∧ (0 ≤ y ∧ y ≤ 9) ∧ N 0 ≠ 4) : fs_KP (up1 (up1 (up1 N (2 + N 0) x) (6 + N 0) y) 0 (N 0 + 1)) := KP_asset h c.2.2 c.1 c.2.1
theorem KPa_house {N : Int → Int} {x y : Int} (h : fs_KP N) (c : (0 ≤ x ∧ x ≤ 9999) ∧ (0 ≤ y ∧ y ≤ 9999) ∧ N 1 ≠ 6) : fs_KP (up1 (up1 (up1 (up1 N (10 + 5 * N 1 + 0) x) (10 + 5 * N 1 + 1) y) (10 + 5 * N 1 + 3) 1) 1 (N 1 + 1)) := KP_newhouse h c.2.2 c.1 c.2.1
theorem KPa_set {N : Int → Int} {h w v : Int} (k : fs_KP N) (c : (0 ≤ h ∧ h < N 1) ∧ (0 ≤ w ∧ w ≤ 4) ∧ ((w = 3 → 1 ≤ v ∧ v ≤ 99) ∧ (w = 4 → 0 ≤ v ∧ v ≤ 1) ∧ (w ≤ 2 → 0 ≤ v ∧ v ≤ 9999)) ∧ N (10 + 5 * h + w) ≠ v) : fs_KP (up1 N (10 + 5 * h + w) v) := by
  have h1 := k.1.2.1
  obtain ⟨c1, c2, ⟨c3, c4, c5⟩, -⟩ := c
  have cv : (0 ≤ v ∧ v ≤ 9999) ∧ (w = 3 → 1 ≤ v ∧ v ≤ 99) ∧ (w = 4 → v ≤ 1) := by
    by_cases w3 : w = 3
    · have := c3 w3
      omega
    · by_cases w4 : w = 4
      · have := c4 w4
        omega
      · have := c5 (by omega)
        omega
  have d5 : (10 + 5 * h + w - 10) / 5 = h := by omega
  have m5 : (10 + 5 * h + w - 10) % 5 = w := by omega
  refine KP_cell k ⟨by omega, by omega⟩ (fun _ => by omega) (fun _ _ => by omega) (fun _ _ => ?_) (fun _ _ => by omega) (fun _ => by omega)
  rw [d5, m5]
  exact ⟨c1.2, cv.1, cv.2.1, cv.2.2⟩
theorem KPa_hold {N : Int → Int} {h a v : Int} (k : fs_KP N) (c : (0 ≤ h ∧ h < N 1) ∧ (0 ≤ a ∧ a < N 0) ∧ (0 ≤ v ∧ v ≤ 60) ∧ N (40 + 4 * h + a) ≠ v) : fs_KP (up1 N (40 + 4 * h + a) v) := by
  have h0 := k.1.1
  have h1 := k.1.2.1
  obtain ⟨c1, c2, c3, -⟩ := c
  have d4 : (40 + 4 * h + a - 40) / 4 = h := by omega
  have m4 : (40 + 4 * h + a - 40) % 4 = a := by omega
  refine KP_cell k ⟨by omega, by omega⟩ (fun _ => by omega) (fun _ _ => by omega) (fun _ _ => by omega) (fun _ _ => ?_) (fun _ => by omega)
  rw [d4, m4]
  exact ⟨c1.2, c2.2, c3⟩
theorem KPa_loan {N : Int → Int} {h o v : Int} (k : fs_KP N) (c : (0 ≤ h ∧ h < N 1) ∧ (0 ≤ o ∧ o < N 1) ∧ h ≠ o ∧ (0 ≤ v ∧ v ≤ 999) ∧ N (64 + 6 * h + o) ≠ v) : fs_KP (up1 N (64 + 6 * h + o) v) := KP_loan k c.1 c.2.1 c.2.2.1 c.2.2.2.1
theorem KPa_curve {N : Int → Int} {a w v : Int} (k : fs_KP N) (c : (0 ≤ a ∧ a < N 0) ∧ (0 ≤ w ∧ w ≤ 1) ∧ ((w = 0 → 1 ≤ v ∧ v ≤ 200) ∧ (w = 1 → 0 ≤ v ∧ v ≤ 9)) ∧ N ((if w = 0 then 2 else 6) + a) ≠ v) : fs_KP (up1 N ((if w = 0 then 2 else 6) + a) v) := by
  have h0 := k.1.1
  obtain ⟨c1, c2, ⟨c3, c4⟩, -⟩ := c
  by_cases w0 : w = 0
  · have := c3 w0
    rw [if_pos w0]
    exact KP_cell k ⟨by omega, by omega⟩ (fun _ => by omega) (fun _ _ => by omega) (fun _ _ => by omega) (fun _ _ => by omega) (fun _ => by omega)
  · have := c4 (by omega)
    rw [if_neg w0]
    exact KP_cell k ⟨by omega, by omega⟩ (fun _ => by omega) (fun _ _ => by omega) (fun _ _ => by omega) (fun _ _ => by omega) (fun _ => by omega)
theorem KPa_lay {N : Int → Int} {s k a v : Int} (h : fs_KP N) (c : ((0 ≤ s ∧ s ≤ 2) ∧ (0 ≤ k ∧ k ≤ 1) ∧ (0 ≤ a ∧ a < N 0) ∧ ((k = 0 → 0 ≤ v ∧ v ≤ 360) ∧ (k = 1 → 0 ≤ v ∧ v ≤ 200))) ∧ (s = 2 ∨ s = k) ∧ N (100 + 13 * s) ≠ 4) :
    fs_KP (up1 (up1 (up1 (up1 N (100 + 13 * s + 1 + 3 * N (100 + 13 * s)) k) (100 + 13 * s + 1 + 3 * N (100 + 13 * s) + 1) a) (100 + 13 * s + 1 + 3 * N (100 + 13 * s) + 2) v) (100 + 13 * s) (N (100 + 13 * s) + 1)) := by
  have h0 := h.1.1
  obtain ⟨⟨c1, c2, c3, c4, c5⟩, -, c6⟩ := c
  have hv : 0 ≤ v ∧ v ≤ 360 := by
    by_cases k0 : k = 0
    · exact c4 k0
    · have := c5 (by omega)
      omega
  exact KP_lay h ⟨c1.1, by omega⟩ c6 c2 ⟨c3.1, by omega⟩ hv
theorem KPa_lift {N : Int → Int} {t r : Int} (k : fs_KP N) (c : (0 ≤ t ∧ t ≤ 2) ∧ (0 ≤ r ∧ r < N (100 + 13 * t))) : fs_KP (li_row N t r) := KP_lift k c.1 c.2
theorem KPa_net {N : Int → Int} {h o : Int} (k : fs_KP N) (c : (0 ≤ h ∧ h < N 1) ∧ (0 ≤ o ∧ o < N 1) ∧ h ≠ o ∧ min (N (64 + 6 * h + o)) (N (64 + 6 * o + h)) ≠ 0) : fs_KP (up1 (up1 N (64 + 6 * h + o) (N (64 + 6 * h + o) - min (N (64 + 6 * h + o)) (N (64 + 6 * o + h)))) (64 + 6 * o + h) (N (64 + 6 * o + h) - min (N (64 + 6 * h + o)) (N (64 + 6 * o + h)))) := by
  have h1 := k.1.2.1
  obtain ⟨c1, c2, c3, -⟩ := c
  have l1 := k.1.2.2.2.2.2.1 h o c1.1 (by omega) c2.1 (by omega)
  have l2 := k.1.2.2.2.2.2.1 o h c2.1 (by omega) c1.1 (by omega)
  have k1 := KP_loan (v := N (64 + 6 * h + o) - min (N (64 + 6 * h + o)) (N (64 + 6 * o + h))) k c1 c2 c3 (by omega)
  have e1 : up1 N (64 + 6 * h + o) (N (64 + 6 * h + o) - min (N (64 + 6 * h + o)) (N (64 + 6 * o + h))) 1 = N 1 := if_neg (by omega)
  exact KP_loan k1 (by rw [e1]; exact c2) (by rw [e1]; exact c1) (fun e => c3 e.symm) (by omega)
theorem KPa_merge {N : Int → Int} {x y : Int} (k : fs_KP N) (c : (0 ≤ x ∧ x < N 1) ∧ (0 ≤ y ∧ y < N 1) ∧ x ≠ y) : fs_KP (gs_row (mg_row N x y) y) := by
  have w := KP_merged k c.1 c.2.1 c.2.2
  exact KP_gone w.1 (by rw [w.2]; exact c.2.1)
theorem KPa_close {N : Int → Int} {g : Int} (k : fs_KP N) (c : 0 ≤ g ∧ g < N 1) : fs_KP (gs_row N g) := KP_gone k c
theorem KPa_live {N : Int → Int} (k : fs_KP N) (_c : lv_is N) : fs_KP (lv_row N) := KP_live k
