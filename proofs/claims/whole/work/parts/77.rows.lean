theorem ec_it_b {E : Nat → Int → Int} (hE : ec_bd E) : ∀ (k : Nat), (∀ a, 0 ≤ a → a < 4 → 0 ≤ ec_it E (ec_calm E) k a ∧ ec_it E (ec_calm E) k a ≤ 360) ∧ 0 ≤ ec_it E (ec_calm E) k 4 ∧ ec_it E (ec_calm E) k 4 < 64
  | 0 => by
    refine ⟨fun a a0 a1 => ?_, ?_⟩
    · show 0 ≤ (if a = 4 then E 0 2 else 0) ∧ (if a = 4 then E 0 2 else 0) ≤ 360
      rw [if_neg (by omega)]
      omega
    · exact hE.2.2.1
  | k + 1 => by
    refine ⟨fun a a0 a1 => ?_, ?_⟩
    · show 0 ≤ (if a = 4 then _ else ec_ns E (ec_it E (ec_calm E) k) a) ∧ (if a = 4 then _ else ec_ns E (ec_it E (ec_calm E) k) a) ≤ 360
      rw [if_neg (by omega)]
      exact mk_ns_b (M := fun r i => E (r - 20) i) hE
    · exact ec_nf_b (E := E) (S := ec_it E (ec_calm E) k) hE.2.2.1 (E 0 1).toNat (by have := hE.2.1; omega)
theorem lv_S_b {N : Int → Int} (hN : fs_NI N) : (∀ a, 0 ≤ a → a < 4 → 0 ≤ lv_S N a ∧ lv_S N a ≤ 360) ∧ 0 ≤ lv_S N 4 ∧ lv_S N 4 < 64 := ec_it_b (pl_bd hN) _
theorem lv_p_b {N : Int → Int} {h a : Int} (hN : fs_NI N) (hh : 0 ≤ h ∧ h < N 1) (ha : 0 ≤ a ∧ a < N 0) : 0 ≤ lv_p N h a ∧ lv_p N h a ≤ 60 := mk_part_b (M := fun r i => ec_pl N (r - 20) i) (pl_bd hN) hh ha
theorem lv_c_b {N : Int → Int} {a : Int} (hN : fs_NI N) (ha : 0 ≤ a ∧ a < N 0) : 0 ≤ lv_c N a ∧ lv_c N a ≤ 200 := mk_price_b (M := fun r i => ec_pl N (r - 20) i) (pl_bd hN) ha ((lv_S_b hN).1 a ha.1 (by have := hN.1; omega)).1
theorem lv_l_b {N : Int → Int} {a : Int} (hN : fs_NI N) (ha : 0 ≤ a ∧ a < N 0) : ∀ h : Nat, (h : Int) ≤ N 1 → 0 ≤ lv_l N a h ∧ lv_l N a h ≤ 360
  | 0, _ => (lv_S_b hN).1 a ha.1 (by have := hN.1; omega)
  | h + 1, hh => by
    have ih := lv_l_b hN ha h (by omega)
    have p := lv_p_b (h := h) (a := a) hN (by omega) ha
    show 0 ≤ lv_l N a h - min (lv_p N h a) (lv_l N a h) ∧ lv_l N a h - min (lv_p N h a) (lv_l N a h) ≤ 360
    omega
theorem lv_n_b {N : Int → Int} {h a : Int} (hN : fs_NI N) (hh : 0 ≤ h ∧ h < N 1) (ha : 0 ≤ a ∧ a < N 0) : 0 ≤ lv_n N h a ∧ lv_n N h a ≤ 60 := by
  have p := lv_p_b hN hh ha
  have l := lv_l_b hN ha h.toNat (by omega)
  unfold lv_n
  omega
theorem lvA_s {N R : Int → Int} {h : Int} (hh : 0 ≤ h ∧ h < 6) (hA : 0 ≤ N 0 ∧ N 0 ≤ 4) (f : ∀ q, R q = if q = 10 + 5 * h + 0 then min (N (10 + 5 * h + 0) + lv_m N h (N 0).toNat) 9999 else if 40 + 4 * h ≤ q ∧ q < 40 + 4 * h + N 0 then N q - lv_n N h (q - (40 + 4 * h)) else lvA N h q) : R = lvA N (h + 1) := by
  funext q
  rw [f q]
  unfold lvA
  by_cases z1 : q = 10 + 5 * h + 0
  · rw [if_pos z1, if_pos (show 10 ≤ q ∧ q < 40 ∧ (q - 10) % 5 = 0 ∧ (q - 10) / 5 < h + 1 by omega), show (q - 10) / 5 = h by omega, z1]
  · rw [if_neg z1]
    by_cases z2 : 40 + 4 * h ≤ q ∧ q < 40 + 4 * h + N 0
    · rw [if_pos z2, if_neg (by omega), if_pos (by omega), show (q - 40) / 4 = h by omega, show (q - 40) % 4 = q - (40 + 4 * h) by omega]
    · rw [if_neg z2]
      by_cases z3 : 10 ≤ q ∧ q < 40 ∧ (q - 10) % 5 = 0 ∧ (q - 10) / 5 < h
      · rw [if_pos z3, if_pos (by omega)]
      · rw [if_neg z3, if_neg (show ¬ (10 ≤ q ∧ q < 40 ∧ (q - 10) % 5 = 0 ∧ (q - 10) / 5 < h + 1) by omega)]
        by_cases z4 : 40 ≤ q ∧ q < 64 ∧ (q - 40) / 4 < h ∧ (q - 40) % 4 < N 0
        · rw [if_pos z4, if_pos (by omega)]
        · rw [if_neg z4, if_neg (by omega)]
theorem lvA_at {N : Int → Int} {h q : Int} (z : q < 10 ∨ 64 ≤ q ∨ (10 + 5 * h ≤ q ∧ q < 40) ∨ (40 + 4 * h ≤ q ∧ q < 64)) (hh : 0 ≤ h) : lvA N h q = N q := by
  unfold lvA
  rw [if_neg (by omega), if_neg (by omega)]
theorem lvB_t {N R : Int → Int} {h : Int} (hh : 0 ≤ h ∧ h < 6) (t : lv_f N h) (f : ∀ q, R q = if (10 + 5 * h ≤ q ∧ q < 10 + 5 * h + 3) ∨ (40 + 4 * h ≤ q ∧ q < 40 + 4 * h + 4) ∨ (64 ≤ q ∧ q < 100 ∧ ((q - 64) / 6 = h ∨ (q - 64) % 6 = h)) then 0 else lvB N h q) : R = lvB N (h + 1) := by
  funext q
  rw [f q]
  unfold lvB
  by_cases z : (10 + 5 * h ≤ q ∧ q < 10 + 5 * h + 3) ∨ (40 + 4 * h ≤ q ∧ q < 40 + 4 * h + 4) ∨ (64 ≤ q ∧ q < 100 ∧ ((q - 64) / 6 = h ∨ (q - 64) % 6 = h))
  · rw [if_pos z, if_pos]
    rcases z with z | z | ⟨z1, z2, z | z⟩
    · exact Or.inl ⟨by omega, by omega, by omega, by omega, by rw [show (q - 10) / 5 = h by omega]; exact t⟩
    · exact Or.inr (Or.inl ⟨by omega, by omega, by omega, by rw [show (q - 40) / 4 = h by omega]; exact t⟩)
    · exact Or.inr (Or.inr ⟨z1, z2, Or.inl ⟨by omega, by rw [z]; exact t⟩⟩)
    · exact Or.inr (Or.inr ⟨z1, z2, Or.inr ⟨by omega, by rw [z]; exact t⟩⟩)
  · rw [if_neg z]
    by_cases w : (10 ≤ q ∧ q < 40 ∧ (q - 10) % 5 ≤ 2 ∧ (q - 10) / 5 < h ∧ lv_f N ((q - 10) / 5)) ∨ (40 ≤ q ∧ q < 64 ∧ (q - 40) / 4 < h ∧ lv_f N ((q - 40) / 4)) ∨ (64 ≤ q ∧ q < 100 ∧ (((q - 64) / 6 < h ∧ lv_f N ((q - 64) / 6)) ∨ ((q - 64) % 6 < h ∧ lv_f N ((q - 64) % 6))))
    · rw [if_pos w, if_pos]
      rcases w with ⟨w1, w2, w3, w4, w5⟩ | ⟨w1, w2, w3, w4⟩ | ⟨w1, w2, ⟨w3, w4⟩ | ⟨w3, w4⟩⟩
      · exact Or.inl ⟨w1, w2, w3, by omega, w5⟩
      · exact Or.inr (Or.inl ⟨w1, w2, by omega, w4⟩)
      · exact Or.inr (Or.inr ⟨w1, w2, Or.inl ⟨by omega, w4⟩⟩)
      · exact Or.inr (Or.inr ⟨w1, w2, Or.inr ⟨by omega, w4⟩⟩)
    · rw [if_neg w, if_neg]
      intro y
      apply w
      rcases y with ⟨w1, w2, w3, w4, w5⟩ | ⟨w1, w2, w3, w4⟩ | ⟨w1, w2, ⟨w3, w4⟩ | ⟨w3, w4⟩⟩
      · exact Or.inl ⟨w1, w2, w3, by omega, w5⟩
      · exact Or.inr (Or.inl ⟨w1, w2, by omega, w4⟩)
      · exact Or.inr (Or.inr ⟨w1, w2, Or.inl ⟨by omega, w4⟩⟩)
      · exact Or.inr (Or.inr ⟨w1, w2, Or.inr ⟨by omega, w4⟩⟩)
theorem lvB_f {N : Int → Int} {h : Int} (hh : 0 ≤ h ∧ h < 6) (t : ¬ lv_f N h) : lvB N h = lvB N (h + 1) := by
  funext q
  unfold lvB
  have lt : ∀ x, x < h + 1 → lv_f N x → x < h := fun x x0 x1 => by
    rcases (show x < h ∨ x = h by omega) with z | z
    · exact z
    · rw [z] at x1
      exact absurd x1 t
  by_cases w : (10 ≤ q ∧ q < 40 ∧ (q - 10) % 5 ≤ 2 ∧ (q - 10) / 5 < h ∧ lv_f N ((q - 10) / 5)) ∨ (40 ≤ q ∧ q < 64 ∧ (q - 40) / 4 < h ∧ lv_f N ((q - 40) / 4)) ∨ (64 ≤ q ∧ q < 100 ∧ (((q - 64) / 6 < h ∧ lv_f N ((q - 64) / 6)) ∨ ((q - 64) % 6 < h ∧ lv_f N ((q - 64) % 6))))
  · rw [if_pos w, if_pos]
    rcases w with ⟨w1, w2, w3, w4, w5⟩ | ⟨w1, w2, w3, w4⟩ | ⟨w1, w2, ⟨w3, w4⟩ | ⟨w3, w4⟩⟩
    · exact Or.inl ⟨w1, w2, w3, by omega, w5⟩
    · exact Or.inr (Or.inl ⟨w1, w2, by omega, w4⟩)
    · exact Or.inr (Or.inr ⟨w1, w2, Or.inl ⟨by omega, w4⟩⟩)
    · exact Or.inr (Or.inr ⟨w1, w2, Or.inr ⟨by omega, w4⟩⟩)
  · rw [if_neg w, if_neg]
    intro y
    apply w
    rcases y with ⟨w1, w2, w3, w4, w5⟩ | ⟨w1, w2, w3, w4⟩ | ⟨w1, w2, ⟨w3, w4⟩ | ⟨w3, w4⟩⟩
    · exact Or.inl ⟨w1, w2, w3, lt _ w4 w5, w5⟩
    · exact Or.inr (Or.inl ⟨w1, w2, lt _ w3 w4, w4⟩)
    · exact Or.inr (Or.inr ⟨w1, w2, Or.inl ⟨lt _ w3 w4, w4⟩⟩)
    · exact Or.inr (Or.inr ⟨w1, w2, Or.inr ⟨lt _ w3 w4, w4⟩⟩)
theorem lvB_at {N : Int → Int} {h q : Int} (z : q < 10 ∨ 100 ≤ q) : lvB N h q = N q := by
  unfold lvB lvA
  rw [if_neg (by omega), if_neg (by omega), if_neg (by omega)]
theorem lvC_s {N R : Int → Int} {a : Int} (ha : 0 ≤ a ∧ a < 4) (f : ∀ q, R q = if q = 2 + a then max 1 (N (2 + a) - N (6 + a) * lv_S N a) else lvC N a q) : R = lvC N (a + 1) := by
  funext q
  rw [f q]
  unfold lvC
  by_cases z : q = 2 + a
  · rw [if_pos z, if_pos (by omega), z, show 2 + a + 4 = 6 + a by omega, show 2 + a - 2 = a by omega]
  · rw [if_neg z]
    by_cases w : 2 ≤ q ∧ q < 2 + a
    · rw [if_pos w, if_pos (by omega)]
    · rw [if_neg w, if_neg (by omega)]
theorem mm_fr {M M2 : fs_M} (h : M2 124 = M 124 ∧ M2 125 = M 125 ∧ M2 129 = M 129 ∧ M2 131 = M 131) : mm_E M2 = mm_E M ∧ mm_st M2 = mm_st M ∧ (mm_I M → mm_I M2) ∧ (mm_J M → mm_J M2) := by
  obtain ⟨h1, h2, h3, h4⟩ := h
  refine ⟨?_, ?_, fun k => ?_, fun k => ?_⟩
  · unfold mm_E
    rw [h1, h2, h4]
  · unfold mm_st
    rw [h1, h3]
  · unfold mm_I at *
    rw [h1, h2, h4]
    exact k
  · unfold mm_J at *
    rw [h1, h3]
    exact k
