/-! the spiral lived: rows -/
noncomputable def lv_S (N : Int → Int) : Int → Int := ec_lst (ec_pl N)
noncomputable def lv_p (N : Int → Int) (h a : Int) : Int := ec_part (ec_pl N) h (ec_due (ec_pl N) h (ec_worth (ec_pl N) (lv_S N) h)) a
noncomputable def lv_c (N : Int → Int) (a : Int) : Int := ec_price (ec_pl N) a (lv_S N a)
noncomputable def lv_l (N : Int → Int) (a : Int) : Nat → Int
  | 0 => lv_S N a
  | h + 1 => lv_l N a h - min (lv_p N h a) (lv_l N a h)
noncomputable def lv_n (N : Int → Int) (h a : Int) : Int := min (lv_p N h a) (lv_l N a h.toNat)
noncomputable def lv_m (N : Int → Int) (h : Int) (n : Nat) : Int := fs_sum n (fun a => lv_n N h a * lv_c N a)
noncomputable def lv_f (N : Int → Int) (h : Int) : Prop := fs_bt (lv_S N 4) h = 1
noncomputable def lvA (N : Int → Int) (H : Int) : Int → Int := fun q => if 10 ≤ q ∧ q < 40 ∧ (q - 10) % 5 = 0 ∧ (q - 10) / 5 < H then min (N q + lv_m N ((q - 10) / 5) (N 0).toNat) 9999
  else if 40 ≤ q ∧ q < 64 ∧ (q - 40) / 4 < H ∧ (q - 40) % 4 < N 0 then N q - lv_n N ((q - 40) / 4) ((q - 40) % 4) else N q
noncomputable def lvB (N : Int → Int) (H : Int) : Int → Int := fun q => @ite _ ((10 ≤ q ∧ q < 40 ∧ (q - 10) % 5 ≤ 2 ∧ (q - 10) / 5 < H ∧ lv_f N ((q - 10) / 5)) ∨ (40 ≤ q ∧ q < 64 ∧ (q - 40) / 4 < H ∧ lv_f N ((q - 40) / 4)) ∨ (64 ≤ q ∧ q < 100 ∧ (((q - 64) / 6 < H ∧ lv_f N ((q - 64) / 6)) ∨ ((q - 64) % 6 < H ∧ lv_f N ((q - 64) % 6))))) (Classical.propDecidable _) 0 (lvA N (N 1) q)
noncomputable def lvC (N : Int → Int) (A : Int) : Int → Int := fun q => if 2 ≤ q ∧ q < 2 + A then max 1 (N q - N (q + 4) * lv_S N (q - 2)) else lvB N (N 1) q
noncomputable def lv_row (N : Int → Int) : Int → Int := lvC N (N 0)
def lv_is (N : Int → Int) : Prop := ¬ (lv_S N 0 + lv_S N 1 + lv_S N 2 + lv_S N 3 = 0 ∧ lv_S N 4 = 0)
theorem lv_l_s {N : Int → Int} {a h : Int} (h0 : 0 ≤ h) : lv_l N a (h + 1).toNat = lv_l N a h.toNat - lv_n N h a := by
  obtain ⟨n, rfl⟩ := Int.eq_ofNat_of_zero_le h0
  rfl
theorem lvA_0 {N : Int → Int} : lvA N 0 = N := by
  funext q
  unfold lvA
  rw [if_neg (by omega), if_neg (by omega)]
theorem lvB_0 {N : Int → Int} : lvB N 0 = lvA N (N 1) := by
  funext q
  unfold lvB
  exact if_neg (fun z => by omega)
theorem lvC_0 {N : Int → Int} : lvC N 0 = lvB N (N 1) := by
  funext q
  unfold lvC
  rw [if_neg (by omega)]
/-- nothing but scratch, an act kept and the row of now has changed -/
def mm_actq (M M2 : fs_M) (N2 : Int → Int) : Prop := (∀ r, (r < 124 ∨ r = 128 ∨ 138 < r) → M2 r = M r) ∧ M2 124 6 = M 124 6 ∧ M2 124 4 = (if M 124 4 = 12 then 12 else M 124 4 + 1) ∧
  (∀ j k, 0 ≤ j → j < M2 124 4 → 0 ≤ k → k < 139 → M2 127 (139 * j + k) = if j = M2 124 4 - 1 then M 125 k else if M 124 4 = 12 then M 127 (139 * (j + 1) + k) else M 127 (139 * j + k)) ∧ M2 125 = N2
theorem mm_act.q {M M2 : fs_M} {N2 : Int → Int} (h : mm_act M M2 N2) : mm_actq M M2 N2 := by
  obtain ⟨M1, ⟨r1, r2, r3, r4⟩, f, e⟩ := h
  refine ⟨fun r q => by rw [f r (by omega)]; exact r1 r (by omega) (by omega), by rw [f 124 (by decide)]; exact r2 6 (by decide), by rw [f 124 (by decide)]; exact r3, fun j k j0 j1 k0 k1 => ?_, e⟩
  rw [f 124 (by decide)] at j1 ⊢
  rw [f 127 (by decide)]
  exact r4 j k j0 j1 k0 k1
theorem mm_rem.q {M V R M2 : fs_M} {N2 : Int → Int} (q : mm_q M V) (h : mm_rem V R) (f : ∀ r, (r < 124 ∨ r = 124 ∨ r = 127 ∨ r = 128 ∨ 138 < r) → M2 r = R r) (e : M2 125 = N2) : mm_actq M M2 N2 := by
  obtain ⟨r1, r2, r3, r4⟩ := h
  have g := f 124 (by omega)
  refine ⟨fun r z => by rw [f r (by omega), r1 r (by omega) (by omega)]; exact q.1 r (by omega), by rw [g, r2 6 (by decide)]; exact q.2.2, by rw [g, r3, q.2.1], fun j k j0 j1 k0 k1 => ?_, e⟩
  rw [g] at j1 ⊢
  rw [f 127 (by omega), r4 j k j0 j1 k0 k1, q.2.1, q.1 125 (by omega), q.1 127 (by omega)]
theorem mm_rem.E {M M2 : fs_M} (h : mm_rem M M2) : mm_E M2 = mm_E M ∧ mm_st M2 = mm_st M := by
  obtain ⟨r1, r2, -⟩ := h
  refine ⟨?_, ?_⟩
  · unfold mm_E
    rw [r1 125 (by decide) (by decide), r1 131 (by decide) (by decide), r2 25 (by decide), r2 24 (by decide), r2 19 (by decide), r2 21 (by decide), r2 20 (by decide), r2 22 (by decide), r2 23 (by decide)]
  · unfold mm_st
    rw [r1 129 (by decide) (by decide), r2 15 (by decide)]
theorem mm_rem.IJ {M M2 : fs_M} (h : mm_rem M M2) (hI : mm_I M) (hJ : mm_J M) : mm_I M2 ∧ mm_J M2 := by
  obtain ⟨r1, r2, -⟩ := h
  refine ⟨?_, ?_⟩
  · unfold mm_I at *
    rw [r1 125 (by decide) (by decide), r1 131 (by decide) (by decide), r2 25 (by decide), r2 24 (by decide), r2 21 (by decide), r2 20 (by decide), r2 23 (by decide)]
    exact hI
  · unfold mm_J at *
    rw [r1 129 (by decide) (by decide), r2 15 (by decide)]
    exact hJ
def sb_n (M : fs_M) (h q : Int) : Int := min (M 134 (4 * h + q)) (M 132 q)
def sb_s (M : fs_M) (h : Int) (n : Nat) : Int := fs_sum n (fun q => sb_n M h q * M 133 q)
