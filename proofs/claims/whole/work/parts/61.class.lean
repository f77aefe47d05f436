/-! what if -/
theorem w_bd {N : Int → Int} {xo xc xs bo bn pt fo : Int} (hN : fs_NI N) (h1 : 0 ≤ xc ∧ xc ≤ 360) (h2 : 0 ≤ xs ∧ xs ≤ 200) (h3 : 0 ≤ bn ∧ bn ≤ 360) (h4 : 0 ≤ pt ∧ pt ≤ 100) (h5 : 0 ≤ fo ∧ fo < 64) : ec_bd (ec_w N xo xc xs bo bn pt fo) := by
  obtain ⟨p1, p2, p3, p4, p5, p6, p7⟩ := pl_bd hN
  refine ⟨p1, p2, h5, fun a a0 a1 => ?_, p5, p6, p7⟩
  obtain ⟨x1, x2, x3, x4, x5⟩ := p4 a a0 a1
  have hA := hN.1
  have a2 : a < N 0 := a1
  have y := mm_shock_b (a := a) hN
  have cv := (hN.2.2.1 a a0 (by omega)).1
  have m : 0 ≤ N (2 + a) * pt ∧ N (2 + a) * pt ≤ 200 * 100 := ⟨Int.mul_nonneg cv.1 h4.1, Int.mul_le_mul cv.2 h4.2 h4.1 (by omega)⟩
  have x3 : 0 ≤ mm_cap N a ∧ mm_cap N a ≤ 360 := x3
  refine ⟨?_, x2, ?_, ?_, x5⟩
  · show -5000 ≤ N (2 + a) * pt / 100 - (mm_shock N a + (if a = xo then xs else 0)) ∧ N (2 + a) * pt / 100 - (mm_shock N a + (if a = xo then xs else 0)) ≤ 200
    split <;> omega
  · show 0 ≤ (if a = xo ∧ xc < mm_cap N a then xc else mm_cap N a) ∧ (if a = xo ∧ xc < mm_cap N a then xc else mm_cap N a) ≤ 360
    split <;> omega
  · show 0 ≤ (if a = bo then bn else 0) ∧ (if a = bo then bn else 0) ≤ 360
    split <;> omega
theorem giv_bd {N : Int → Int} {t v : Int} (hN : fs_NI N) (hv : -9999 ≤ v ∧ v ≤ 9999) : ec_bd (ec_giv (ec_pl N) t v) := by
  obtain ⟨p1, p2, p3, p4, p5, p6, p7⟩ := pl_bd hN
  refine ⟨p1, p2, p3, p4, fun h h0 h1 => ?_, p6, p7⟩
  obtain ⟨x1, x2, x3, x4, x5⟩ := p5 h h0 h1
  refine ⟨?_, x2, x3, x4, x5⟩
  have hH := hN.2.1
  have h2 : h < N 1 := h1
  have y0 := hN.2.2.2.1 h 0 h0 (by omega) (by omega) (by omega)
  have y1 := hN.2.2.2.1 h 1 h0 (by omega) (by omega) (by omega)
  have y2 := mn_from_b (h := h) hN ⟨h0, by omega⟩
  have e : ec_pl N 7 h = N (10 + 5 * h + 0) - N (10 + 5 * h + 1) - mm_from N h := rfl
  show -30000 ≤ (if 7 = 7 ∧ h = t then ec_pl N 7 h + v else ec_pl N 7 h) ∧ (if 7 = 7 ∧ h = t then ec_pl N 7 h + v else ec_pl N 7 h) ≤ 30000
  rw [e]
  split <;> omega
theorem giv_eq {M : fs_M} {N : Int → Int} {t v : Int} (e : ec_eq (mk M) (ec_pl N)) : ec_eq (mk (fs_up M 27 t ((M 27 t) + v))) (ec_giv (ec_pl N) t v) := by
  obtain ⟨h1, h2, h3, h4, h5, h6, h7⟩ := e
  refine ⟨h1, h2, h3, h4, fun h h0 h1 => ?_, h6, h7⟩
  obtain ⟨x1, x2, x3, x4, x5⟩ := h5 h h0 h1
  refine ⟨?_, x2, x3, x4, x5⟩
  have x1 : M 27 h = ec_pl N 7 h := x1
  show fs_up M 27 t ((M 27 t) + v) 27 h = (if 7 = 7 ∧ h = t then ec_pl N 7 h + v else ec_pl N 7 h)
  rw [fs_up_at]
  by_cases z : h = t
  · rw [if_pos z, if_pos ⟨rfl, z⟩, ← z, x1]
  · rw [if_neg z, if_neg (fun w => z w.2)]
    exact x1
theorem w_eq {M M2 : fs_M} {N : Int → Int} {xo xc xs bo bn pt : Int} (e : ec_eq (mk M) (ec_pl N)) (f : ∀ r, 20 ≤ r → r < 32 → r ≠ 21 → r ≠ 23 → r ≠ 24 → r ≠ 26 → M2 r = M r)
    (c1 : ∀ a, 0 ≤ a → a < N 0 → M2 21 a = N (2 + a) * pt / 100 - (mm_shock N a + (if a = xo then xs else 0))) (c3 : ∀ a, 0 ≤ a → a < N 0 → M2 23 a = if a = xo ∧ xc < mm_cap N a then xc else mm_cap N a) (c4 : ∀ a, 0 ≤ a → a < N 0 → M2 24 a = if a = bo then bn else 0) : ec_eq (mk M2) (ec_w N xo xc xs bo bn pt 0) := by
  obtain ⟨h1, h2, h3, h4, h5, h6, h7⟩ := e
  have f20 := f 20 (by decide) (by decide) (by decide) (by decide) (by decide) (by decide)
  have k0 : mk M2 0 = mk M 0 := f20
  have k2 : mk M2 2 = mk M 2 := f 22 (by decide) (by decide) (by decide) (by decide) (by decide) (by decide)
  have k5 : mk M2 5 = mk M 5 := f 25 (by decide) (by decide) (by decide) (by decide) (by decide) (by decide)
  have k7 : mk M2 7 = mk M 7 := f 27 (by decide) (by decide) (by decide) (by decide) (by decide) (by decide)
  have k8 : mk M2 8 = mk M 8 := f 28 (by decide) (by decide) (by decide) (by decide) (by decide) (by decide)
  have k9 : mk M2 9 = mk M 9 := f 29 (by decide) (by decide) (by decide) (by decide) (by decide) (by decide)
  have k10 : mk M2 10 = mk M 10 := f 30 (by decide) (by decide) (by decide) (by decide) (by decide) (by decide)
  have k11 : mk M2 11 = mk M 11 := f 31 (by decide) (by decide) (by decide) (by decide) (by decide) (by decide)
  have e0 : mk M 0 0 = N 0 := h1
  have e1 : mk M 0 1 = N 1 := h2
  refine ⟨by rw [k0]; exact h1, by rw [k0]; exact h2, by rw [k0]; exact h3, fun a a0 a1 => ?_, fun h q0 q1 => ?_, fun h a q0 q1 a0 a1 => ?_, fun o h o0 o1 q0 q1 => ?_⟩
  · rw [k0] at a1
    obtain ⟨x1, x2, x3, x4, x5⟩ := h4 a a0 a1
    exact ⟨c1 a a0 (by omega), by rw [k2]; exact x2, c3 a a0 (by omega), c4 a a0 (by omega), by rw [k5]; exact x5⟩
  · rw [k0] at q1
    rw [k7, k8, k9]
    exact h5 h q0 q1
  · rw [k0] at q1 a1
    rw [k10]
    exact h6 h a q0 q1 a0 a1
  · rw [k0] at o1 q1
    rw [k11]
    exact h7 o h o0 o1 q0 q1
theorem pl_13 {M : fs_M} {N : Int → Int} (e : ec_eq (mk M) (ec_pl N)) : ∀ a, 0 ≤ a → a < N 0 → M 21 a = N (2 + a) - mm_shock N a ∧ M 23 a = mm_cap N a ∧ M 24 a = 0 := fun a a0 a1 => by
  have h1 : mk M 0 0 = N 0 := e.1
  obtain ⟨x1, x2, x3, x4, x5⟩ := e.2.2.2.1 a a0 (by omega)
  exact ⟨x1, x3, x4⟩
noncomputable def wf (N : Int → Int) (k t v : Int) : Nat → Int → Int := if k = 0 then ec_giv (ec_pl N) t v else if k = 1 then ec_giv (ec_pl N) t (-v) else if k = 2 then ec_xt N t 1 v else if k = 3 then ec_xt N t 0 v else ec_w N (-1) 360 0 (-1) 0 v 0
def wk (N : Int → Int) (k t v : Int) : Prop := (0 ≤ k ∧ k ≤ 4) ∧ (k ≤ 1 → (0 ≤ t ∧ t < N 1) ∧ 0 ≤ v ∧ v ≤ 9999) ∧ (k = 2 → (0 ≤ t ∧ t < N 0) ∧ 0 ≤ v ∧ v ≤ 360) ∧ (k = 3 → (0 ≤ t ∧ t < N 0) ∧ 0 ≤ v ∧ v ≤ 200) ∧ (k = 4 → 0 ≤ v ∧ v ≤ 100)
theorem wf_bd {N : Int → Int} {k t v : Int} (hN : fs_NI N) (h : wk N k t v) : ec_bd (wf N k t v) := by
  obtain ⟨h1, h2, h3, h4, h5⟩ := h
  unfold wf
  by_cases z0 : k = 0
  · rw [if_pos z0]
    exact giv_bd hN (by omega)
  rw [if_neg z0]
  by_cases z1 : k = 1
  · rw [if_pos z1]
    exact giv_bd hN (by omega)
  rw [if_neg z1]
  by_cases z2 : k = 2
  · rw [if_pos z2]
    unfold ec_xt
    exact w_bd hN (by rw [if_neg (by omega)]; omega) (by rw [if_neg (by omega)]; omega) (by omega) (by omega) (by omega)
  rw [if_neg z2]
  by_cases z3 : k = 3
  · rw [if_pos z3]
    unfold ec_xt
    exact w_bd hN (by rw [if_pos rfl]; omega) (by rw [if_pos rfl]; omega) (by omega) (by omega) (by omega)
  rw [if_neg z3]
  exact w_bd hN (by omega) (by omega) (by omega) (by omega) (by omega)
theorem wf_cap {M : fs_M} {N : Int → Int} {t v : Int} (e : ec_eq (mk M) (ec_pl N)) (ht : 0 ≤ t ∧ t < N 0) : ec_eq (mk (fs_up M 23 t (min (M 23 t) v))) (ec_xt N t 1 v) := by
  refine w_eq e (fun r _ _ q1 q2 q3 q4 => fs_up_other q2) (fun a a0 a1 => ?_) (fun a a0 a1 => ?_) (fun a a0 a1 => ?_)
  · rw [fs_up_other (by decide), (pl_13 e a a0 a1).1, if_neg (by omega : ¬ (1 : Int) = 0)]
    split <;> omega
  · rw [fs_up_at, if_neg (by omega : ¬ (1 : Int) = 0)]
    by_cases z : a = t
    · rw [if_pos z, ← z, (pl_13 e a a0 a1).2.1]
      split <;> omega
    · rw [if_neg z, if_neg (fun w => z w.1)]
      exact (pl_13 e a a0 a1).2.1
  · rw [fs_up_other (by decide), (pl_13 e a a0 a1).2.2]
    split <;> rfl
theorem wf_shock {M : fs_M} {N : Int → Int} {t v : Int} (e : ec_eq (mk M) (ec_pl N)) (hN : fs_NI N) (ht : 0 ≤ t ∧ t < N 0) : ec_eq (mk (fs_up M 21 t ((M 21 t) - v))) (ec_xt N t 0 v) := by
  refine w_eq e (fun r _ _ q1 q2 q3 q4 => fs_up_other q1) (fun a a0 a1 => ?_) (fun a a0 a1 => ?_) (fun a a0 a1 => ?_)
  · rw [fs_up_at, if_pos rfl]
    by_cases z : a = t
    · rw [if_pos z, if_pos z, ← z, (pl_13 e a a0 a1).1]
      omega
    · rw [if_neg z, if_neg z, (pl_13 e a a0 a1).1]
      omega
  · have c := mm_cap_b (a := a) hN
    rw [fs_up_other (by decide), (pl_13 e a a0 a1).2.1, if_pos rfl]
    split <;> omega
  · rw [fs_up_other (by decide), (pl_13 e a a0 a1).2.2]
    split <;> rfl
theorem wf_stress {M M2 : fs_M} {N : Int → Int} {v : Int} (e : ec_eq (mk M) (ec_pl N)) (f : ∀ r, r ≠ 21 → M2 r = M r) (p : ∀ q, 0 ≤ q → q < N 0 → M2 21 q = N (2 + q) * v / 100 - mm_shock N q) : ec_eq (mk M2) (ec_w N (-1) 360 0 (-1) 0 v 0) := by
  refine w_eq e (fun r _ _ q1 q2 q3 q4 => f r q1) (fun a a0 a1 => ?_) (fun a a0 a1 => ?_) (fun a a0 a1 => ?_)
  · rw [p a a0 a1, if_neg (by omega)]
    omega
  · rw [f 23 (by decide), (pl_13 e a a0 a1).2.1, if_neg (by omega)]
  · rw [f 24 (by decide), (pl_13 e a a0 a1).2.2, if_neg (by omega)]
theorem wf_buy {M : fs_M} {N : Int → Int} {t n : Int} (e : ec_eq (mk M) (ec_pl N)) : ec_eq (mk (fs_up M 24 t n)) (ec_w N (-1) 360 0 t n 100 0) := by
  refine w_eq e (fun r _ _ q1 q2 q3 q4 => fs_up_other q3) (fun a a0 a1 => ?_) (fun a a0 a1 => ?_) (fun a a0 a1 => ?_)
  · rw [fs_up_other (by decide), (pl_13 e a a0 a1).1, if_neg (by omega)]
    omega
  · rw [fs_up_other (by decide), (pl_13 e a a0 a1).2.1, if_neg (by omega)]
  · rw [fs_up_at]
    split
    · rfl
    · exact (pl_13 e a a0 a1).2.2
theorem fs_c_loadChanged {d : Nat} {M : fs_M} {Q : Option fs_V → fs_M → Prop} {k : Int} {t : Int} {v : Int} {N : Int → Int} (hV : vw 5 M N) (hN : fs_NI N) (hw : wk N k t v) (hq0 : ∀ (M2 : fs_M), (cq M M2) → (ec_eq (mk M2) (wf N k t v)) → Q none M2) : fs_W (d + 3) 151 0 [some (.inr (.ref 0)), some (.inl k), some (.inl t), some (.inl v)] [] M Q := by
  refine fs_r_call (sta := false) (idx := 322) (as := [.inr (.ref 20), .inr (.ref 5)]) (rest := []) (L1 := [some (.inr (.ref 0)), some (.inl k), some (.inl t), some (.inl v)]) (st1 := [.inr (.ref 5), .inr (.ref 20)]) (M1 := M) (ob := [0 < fs_N ∧ fs_kd 0 = 5, 0 < fs_N ∧ fs_kd 0 = 5]) rfl rfl rfl (fs_oc fs_ob0 (fs_oc fs_ob0 trivial)) rfl rfl (Nat.le_of_ble_eq_true rfl) ⟨Or.inr (Nat.le_of_ble_eq_true rfl), Or.inr fs_ob20⟩ (by decide) ?_
  refine fs_c_load (N := N) (by assumption) (by assumption) (fun (V1 : fs_M) (l1 : ∀ r, (r < 20 ∨ 31 < r) → V1 r = M r) (l2 : ec_eq (mk V1) (ec_pl N)) (l3 : ∀ q, 0 ≤ q → q < 4 → V1 25 q = if q < N 0 then mm_held N q else 0) => ?_)
  have hA := hN.1
  have hH := hN.2.1
  have hw2 := hw
  unfold wk at hw2
  have n0 := l2.1
  have n1 := l2.2.1
  have n0 : V1 20 0 = N 0 := n0
  have n1 : V1 20 1 = N 1 := n1
  have bm := eq_b l2 (pl_bd hN)
  refine fs_r_sw (a := k) (L1 := [some (.inr (.ref 0)), some (.inl k), some (.inl t), some (.inl v)]) (st1 := []) (M1 := V1) (ob := []) rfl rfl trivial ?_
  by_cases h1 : k = 0
  · have eh1 : ((12 : Nat) + fs_sw 98 0 3 #[32, 44, 57, 82] k : Int).toNat = 44 := by rw [h1]; decide
    rw [eh1]
    have hm := (bm.2.2.2.2.1 t (by omega) (by omega)).1
    refine fs_r_call (sta := false) (idx := 337) (as := [.inr (.ref 20), .inl t, .inl v]) (rest := []) (L1 := [some (.inr (.ref 0)), some (.inl k), some (.inl t), some (.inl v)]) (st1 := [.inl v, .inl t, .inr (.ref 20)]) (M1 := V1) (ob := [0 < fs_N ∧ fs_kd 0 = 5]) rfl rfl rfl (fs_oc fs_ob0 trivial) rfl rfl (Nat.le_of_ble_eq_true rfl) ⟨Or.inr (Nat.le_of_ble_eq_true rfl), Or.inr fs_ob20⟩ (by decide) ?_
    refine fs_c_give (by omega) (by omega) ?_
    refine fs_r_goto (L1 := [some (.inr (.ref 0)), some (.inl k), some (.inl t), some (.inl v)]) (st1 := []) (M1 := (fs_up V1 27 t ((V1 27 t) + v))) (ob := []) rfl rfl trivial ?_
    refine fs_r_ret (L1 := [some (.inr (.ref 0)), some (.inl k), some (.inl t), some (.inl v)]) (M1 := (fs_up V1 27 t ((V1 27 t) + v))) (ob := []) rfl rfl trivial ?_
    first
      | (have ek : k = 0 := by omega
         have ew : wf N k t v = ec_giv (ec_pl N) t v := by unfold wf; rw [if_pos (by omega)]
         exact hq0 _ ((cq.ld l1).up (by decide)) (by rw [ew]; exact giv_eq l2))
      | (have ek : k = 1 := by omega
         have ew : wf N k t v = ec_giv (ec_pl N) t (-v) := by unfold wf; rw [if_neg (by omega)]; rw [if_pos (by omega)]
         exact hq0 _ ((cq.ld l1).up (by decide)) (by rw [ew]; exact giv_eq l2))
      | (have ek : k = 2 := by omega
         have ew : wf N k t v = ec_xt N t 1 v := by unfold wf; rw [if_neg (by omega)]; rw [if_neg (by omega)]; rw [if_pos (by omega)]
         exact hq0 _ ((cq.ld l1).up (by decide)) (by rw [ew]; exact wf_cap l2 (by omega)))
      | (have ek : k = 3 := by omega
         have ew : wf N k t v = ec_xt N t 0 v := by unfold wf; rw [if_neg (by omega)]; rw [if_neg (by omega)]; rw [if_neg (by omega)]; rw [if_pos (by omega)]
         exact hq0 _ ((cq.ld l1).up (by decide)) (by rw [ew]; exact wf_shock l2 hN (by omega)))
      | (have ek : k = 4 := by omega
         have ew : wf N k t v = ec_w N (-1) 360 0 (-1) 0 v 0 := by unfold wf; rw [if_neg (by omega)]; rw [if_neg (by omega)]; rw [if_neg (by omega)]; rw [if_neg (by omega)]; skip
         exact hq0 _ ((cq.ld l1).tr (fun r z => s1 r (by omega))) (by rw [ew]; exact wf_stress l2 s1 s2))
  by_cases h2 : k = 1
  · have eh2 : ((12 : Nat) + fs_sw 98 0 3 #[32, 44, 57, 82] k : Int).toNat = 56 := by rw [h2]; decide
    rw [eh2]
    have hm := (bm.2.2.2.2.1 t (by omega) (by omega)).1
    refine fs_r_call (sta := false) (idx := 337) (as := [.inr (.ref 20), .inl t, .inl (-v)]) (rest := []) (L1 := [some (.inr (.ref 0)), some (.inl k), some (.inl t), some (.inl v)]) (st1 := [.inl (-v), .inl t, .inr (.ref 20)]) (M1 := V1) (ob := [0 < fs_N ∧ fs_kd 0 = 5, fs_rg (-v)]) rfl rfl rfl (fs_oc fs_ob0 (fs_oc ⟨by omega, by omega⟩ trivial)) rfl rfl (Nat.le_of_ble_eq_true rfl) ⟨Or.inr (Nat.le_of_ble_eq_true rfl), Or.inr fs_ob20⟩ (by decide) ?_
    refine fs_c_give (by omega) (by omega) ?_
    refine fs_r_goto (L1 := [some (.inr (.ref 0)), some (.inl k), some (.inl t), some (.inl v)]) (st1 := []) (M1 := (fs_up V1 27 t ((V1 27 t) + (-v)))) (ob := []) rfl rfl trivial ?_
    refine fs_r_ret (L1 := [some (.inr (.ref 0)), some (.inl k), some (.inl t), some (.inl v)]) (M1 := (fs_up V1 27 t ((V1 27 t) + (-v)))) (ob := []) rfl rfl trivial ?_
    first
      | (have ek : k = 0 := by omega
         have ew : wf N k t v = ec_giv (ec_pl N) t v := by unfold wf; rw [if_pos (by omega)]
         exact hq0 _ ((cq.ld l1).up (by decide)) (by rw [ew]; exact giv_eq l2))
      | (have ek : k = 1 := by omega
         have ew : wf N k t v = ec_giv (ec_pl N) t (-v) := by unfold wf; rw [if_neg (by omega)]; rw [if_pos (by omega)]
         exact hq0 _ ((cq.ld l1).up (by decide)) (by rw [ew]; exact giv_eq l2))
      | (have ek : k = 2 := by omega
         have ew : wf N k t v = ec_xt N t 1 v := by unfold wf; rw [if_neg (by omega)]; rw [if_neg (by omega)]; rw [if_pos (by omega)]
         exact hq0 _ ((cq.ld l1).up (by decide)) (by rw [ew]; exact wf_cap l2 (by omega)))
      | (have ek : k = 3 := by omega
         have ew : wf N k t v = ec_xt N t 0 v := by unfold wf; rw [if_neg (by omega)]; rw [if_neg (by omega)]; rw [if_neg (by omega)]; rw [if_pos (by omega)]
         exact hq0 _ ((cq.ld l1).up (by decide)) (by rw [ew]; exact wf_shock l2 hN (by omega)))
      | (have ek : k = 4 := by omega
         have ew : wf N k t v = ec_w N (-1) 360 0 (-1) 0 v 0 := by unfold wf; rw [if_neg (by omega)]; rw [if_neg (by omega)]; rw [if_neg (by omega)]; rw [if_neg (by omega)]; skip
         exact hq0 _ ((cq.ld l1).tr (fun r z => s1 r (by omega))) (by rw [ew]; exact wf_stress l2 s1 s2))
  by_cases h3 : k = 2
  · have eh3 : ((12 : Nat) + fs_sw 98 0 3 #[32, 44, 57, 82] k : Int).toNat = 69 := by rw [h3]; decide
    rw [eh3]
    have hm := (bm.2.2.2.1 t (by omega) (by omega)).2.2.1
    refine fs_r_nat (v := .inl (min (V1 23 t) v)) (sta := true) (idx := 166) (as := [.inl (V1 23 t), .inl v]) (rest := [.inl t, .inr (.ref 23)]) (L1 := [some (.inr (.ref 0)), some (.inl k), some (.inl t), some (.inl v)]) (st1 := [.inl v, .inl (V1 23 t), .inl t, .inr (.ref 23)]) (M1 := V1) (ob := [0 < fs_N ∧ fs_kd 0 = 5, 20 < fs_N ∧ fs_kd 20 = 1, 0 < fs_N ∧ fs_kd 0 = 5, 20 < fs_N ∧ fs_kd 20 = 1, (23 < fs_N ∧ fs_kd 23 = 100) ∧ (0 : Int) ≤ t ∧ t < fs_ln 23]) rfl rfl (fs_exA 6 (o1 := [0 < fs_N ∧ fs_kd 0 = 5, 20 < fs_N ∧ fs_kd 20 = 1, 0 < fs_N ∧ fs_kd 0 = 5]) (L1 := [some (.inr (.ref 0)), some (.inl k), some (.inl t), some (.inl v)]) (st1 := [.inr (.ref 20), .inl t, .inr (.ref 23)]) (M1 := V1) (o2 := [20 < fs_N ∧ fs_kd 20 = 1, (23 < fs_N ∧ fs_kd 23 = 100) ∧ (0 : Int) ≤ t ∧ t < fs_ln 23]) rfl rfl) (fs_oc fs_ob0 (fs_oc fs_ob20 (fs_oc fs_ob0 (fs_oc fs_ob20 (fs_oc (fs_ar23 (by omega) (by omega)) trivial))))) rfl rfl (Nat.le_of_ble_eq_true rfl) ⟨Or.inl (by decide), trivial⟩ (by decide) (rfl) ?_
    refine fs_r_goto (L1 := [some (.inr (.ref 0)), some (.inl k), some (.inl t), some (.inl v)]) (st1 := []) (M1 := (fs_up V1 23 t (min (V1 23 t) v))) (ob := [(23 < fs_N ∧ fs_kd 23 = 100) ∧ (0 : Int) ≤ t ∧ t < fs_ln 23]) rfl rfl (fs_oc (fs_ar23 (by omega) (by omega)) trivial) ?_
    refine fs_r_ret (L1 := [some (.inr (.ref 0)), some (.inl k), some (.inl t), some (.inl v)]) (M1 := (fs_up V1 23 t (min (V1 23 t) v))) (ob := []) rfl rfl trivial ?_
    first
      | (have ek : k = 0 := by omega
         have ew : wf N k t v = ec_giv (ec_pl N) t v := by unfold wf; rw [if_pos (by omega)]
         exact hq0 _ ((cq.ld l1).up (by decide)) (by rw [ew]; exact giv_eq l2))
      | (have ek : k = 1 := by omega
         have ew : wf N k t v = ec_giv (ec_pl N) t (-v) := by unfold wf; rw [if_neg (by omega)]; rw [if_pos (by omega)]
         exact hq0 _ ((cq.ld l1).up (by decide)) (by rw [ew]; exact giv_eq l2))
      | (have ek : k = 2 := by omega
         have ew : wf N k t v = ec_xt N t 1 v := by unfold wf; rw [if_neg (by omega)]; rw [if_neg (by omega)]; rw [if_pos (by omega)]
         exact hq0 _ ((cq.ld l1).up (by decide)) (by rw [ew]; exact wf_cap l2 (by omega)))
      | (have ek : k = 3 := by omega
         have ew : wf N k t v = ec_xt N t 0 v := by unfold wf; rw [if_neg (by omega)]; rw [if_neg (by omega)]; rw [if_neg (by omega)]; rw [if_pos (by omega)]
         exact hq0 _ ((cq.ld l1).up (by decide)) (by rw [ew]; exact wf_shock l2 hN (by omega)))
      | (have ek : k = 4 := by omega
         have ew : wf N k t v = ec_w N (-1) 360 0 (-1) 0 v 0 := by unfold wf; rw [if_neg (by omega)]; rw [if_neg (by omega)]; rw [if_neg (by omega)]; rw [if_neg (by omega)]; skip
         exact hq0 _ ((cq.ld l1).tr (fun r z => s1 r (by omega))) (by rw [ew]; exact wf_stress l2 s1 s2))
  by_cases h4 : k = 3
  · have eh4 : ((12 : Nat) + fs_sw 98 0 3 #[32, 44, 57, 82] k : Int).toNat = 94 := by rw [h4]; decide
    rw [eh4]
    have hm := (bm.2.2.2.1 t (by omega) (by omega)).1
    refine fs_r_goto (L1 := [some (.inr (.ref 0)), some (.inl k), some (.inl t), some (.inl v)]) (st1 := []) (M1 := (fs_up V1 21 t ((V1 21 t) - v))) (ob := [0 < fs_N ∧ fs_kd 0 = 5, 20 < fs_N ∧ fs_kd 20 = 1, (21 < fs_N ∧ fs_kd 21 = 100) ∧ (0 : Int) ≤ t ∧ t < fs_ln 21, fs_rg ((V1 21 t) - v), (21 < fs_N ∧ fs_kd 21 = 100) ∧ (0 : Int) ≤ t ∧ t < fs_ln 21]) rfl (fs_exA 6 (o1 := [0 < fs_N ∧ fs_kd 0 = 5, 20 < fs_N ∧ fs_kd 20 = 1, (21 < fs_N ∧ fs_kd 21 = 100) ∧ (0 : Int) ≤ t ∧ t < fs_ln 21]) (L1 := [some (.inr (.ref 0)), some (.inl k), some (.inl t), some (.inl v)]) (st1 := [.inl (V1 21 t), .inl t, .inr (.ref 21)]) (M1 := V1) (o2 := [fs_rg ((V1 21 t) - v), (21 < fs_N ∧ fs_kd 21 = 100) ∧ (0 : Int) ≤ t ∧ t < fs_ln 21]) rfl rfl) (fs_oc fs_ob0 (fs_oc fs_ob20 (fs_oc (fs_ar21 (by omega) (by omega)) (fs_oc ⟨by omega, by omega⟩ (fs_oc (fs_ar21 (by omega) (by omega)) trivial))))) ?_
    refine fs_r_ret (L1 := [some (.inr (.ref 0)), some (.inl k), some (.inl t), some (.inl v)]) (M1 := (fs_up V1 21 t ((V1 21 t) - v))) (ob := []) rfl rfl trivial ?_
    first
      | (have ek : k = 0 := by omega
         have ew : wf N k t v = ec_giv (ec_pl N) t v := by unfold wf; rw [if_pos (by omega)]
         exact hq0 _ ((cq.ld l1).up (by decide)) (by rw [ew]; exact giv_eq l2))
      | (have ek : k = 1 := by omega
         have ew : wf N k t v = ec_giv (ec_pl N) t (-v) := by unfold wf; rw [if_neg (by omega)]; rw [if_pos (by omega)]
         exact hq0 _ ((cq.ld l1).up (by decide)) (by rw [ew]; exact giv_eq l2))
      | (have ek : k = 2 := by omega
         have ew : wf N k t v = ec_xt N t 1 v := by unfold wf; rw [if_neg (by omega)]; rw [if_neg (by omega)]; rw [if_pos (by omega)]
         exact hq0 _ ((cq.ld l1).up (by decide)) (by rw [ew]; exact wf_cap l2 (by omega)))
      | (have ek : k = 3 := by omega
         have ew : wf N k t v = ec_xt N t 0 v := by unfold wf; rw [if_neg (by omega)]; rw [if_neg (by omega)]; rw [if_neg (by omega)]; rw [if_pos (by omega)]
         exact hq0 _ ((cq.ld l1).up (by decide)) (by rw [ew]; exact wf_shock l2 hN (by omega)))
      | (have ek : k = 4 := by omega
         have ew : wf N k t v = ec_w N (-1) 360 0 (-1) 0 v 0 := by unfold wf; rw [if_neg (by omega)]; rw [if_neg (by omega)]; rw [if_neg (by omega)]; rw [if_neg (by omega)]; skip
         exact hq0 _ ((cq.ld l1).tr (fun r z => s1 r (by omega))) (by rw [ew]; exact wf_stress l2 s1 s2))
  have h5 : ((12 : Nat) + fs_sw 98 0 3 #[32, 44, 57, 82] k : Int).toNat = 110 := by unfold fs_sw; rw [if_pos (by omega)]; rfl
  rw [h5]
  refine fs_r_call (sta := false) (idx := 411) (as := [.inr (.ref 20), .inr (.ref 5), .inl v]) (rest := []) (L1 := [some (.inr (.ref 0)), some (.inl k), some (.inl t), some (.inl v)]) (st1 := [.inl v, .inr (.ref 5), .inr (.ref 20)]) (M1 := V1) (ob := [0 < fs_N ∧ fs_kd 0 = 5, 0 < fs_N ∧ fs_kd 0 = 5]) rfl rfl rfl (fs_oc fs_ob0 (fs_oc fs_ob0 trivial)) rfl rfl (Nat.le_of_ble_eq_true rfl) ⟨Or.inr (Nat.le_of_ble_eq_true rfl), Or.inr fs_ob20⟩ (by decide) ?_
  refine fs_c_stressTo (N := N) ((cq.ld l1).vw hV) (by assumption) (n0) (by omega) (fun (V2 : fs_M) (s1 : ∀ r, r ≠ 21 → V2 r = V1 r) (s2 : ∀ q, 0 ≤ q → q < N 0 → V2 21 q = N (2 + q) * v / 100 - mm_shock N q) => ?_)
  refine fs_r_ret (L1 := [some (.inr (.ref 0)), some (.inl k), some (.inl t), some (.inl v)]) (M1 := V2) (ob := []) rfl rfl trivial ?_
  first
    | (have ek : k = 0 := by omega
       have ew : wf N k t v = ec_giv (ec_pl N) t v := by unfold wf; rw [if_pos (by omega)]
       exact hq0 _ ((cq.ld l1).up (by decide)) (by rw [ew]; exact giv_eq l2))
    | (have ek : k = 1 := by omega
       have ew : wf N k t v = ec_giv (ec_pl N) t (-v) := by unfold wf; rw [if_neg (by omega)]; rw [if_pos (by omega)]
       exact hq0 _ ((cq.ld l1).up (by decide)) (by rw [ew]; exact giv_eq l2))
    | (have ek : k = 2 := by omega
       have ew : wf N k t v = ec_xt N t 1 v := by unfold wf; rw [if_neg (by omega)]; rw [if_neg (by omega)]; rw [if_pos (by omega)]
       exact hq0 _ ((cq.ld l1).up (by decide)) (by rw [ew]; exact wf_cap l2 (by omega)))
    | (have ek : k = 3 := by omega
       have ew : wf N k t v = ec_xt N t 0 v := by unfold wf; rw [if_neg (by omega)]; rw [if_neg (by omega)]; rw [if_neg (by omega)]; rw [if_pos (by omega)]
       exact hq0 _ ((cq.ld l1).up (by decide)) (by rw [ew]; exact wf_shock l2 hN (by omega)))
    | (have ek : k = 4 := by omega
       have ew : wf N k t v = ec_w N (-1) 360 0 (-1) 0 v 0 := by unfold wf; rw [if_neg (by omega)]; rw [if_neg (by omega)]; rw [if_neg (by omega)]; rw [if_neg (by omega)]; skip
       exact hq0 _ ((cq.ld l1).tr (fun r z => s1 r (by omega))) (by rw [ew]; exact wf_stress l2 s1 s2))

theorem wf_0 {N : Int → Int} {k t v : Int} : wf N k t v 0 0 = N 0 ∧ wf N k t v 0 1 = N 1 := by
  unfold wf
  split
  · exact ⟨rfl, rfl⟩
  · split
    · exact ⟨rfl, rfl⟩
    · split
      · exact ⟨rfl, rfl⟩
      · split <;> exact ⟨rfl, rfl⟩
theorem fs_c_tellLeast {d : Nat} {M : fs_M} {Q : Option fs_V → fs_M → Prop} {k : Int} {t : Int} {v : Int} {x : Int} {N : Int → Int} (hV : vw 5 M N) (hN : fs_NI N) (hw : wk N k t v) (hx : (4 ≤ x ∧ x ≤ 7) ∨ (0 ≤ x ∧ x < N 0)) (hq0 : ∀ (M2 : fs_M), (cq M M2) → Q (some (.inl (ec_tell (wf N k t v) (ec_lst (wf N k t v)) x))) M2) : fs_W (d + 5) 152 0 [some (.inr (.ref 0)), some (.inl k), some (.inl t), some (.inl v), some (.inl x)] [] M Q := by
  refine fs_r_call (sta := false) (idx := 415) (as := [.inr (.ref 0), .inl k, .inl t, .inl v]) (rest := []) (L1 := [some (.inr (.ref 0)), some (.inl k), some (.inl t), some (.inl v), some (.inl x)]) (st1 := [.inl v, .inl t, .inl k, .inr (.ref 0)]) (M1 := M) (ob := []) rfl rfl rfl trivial rfl rfl (Nat.le_of_ble_eq_true rfl) ⟨Or.inr (Nat.le_of_ble_eq_true rfl), Or.inr fs_ob0⟩ (by decide) ?_
  refine fs_c_loadChanged (N := N) (by assumption) (by assumption) (by assumption) (fun (V : fs_M) (q1 : cq M V) (e1 : ec_eq (mk V) (wf N k t v)) => ?_)
  refine fs_r_call (sta := false) (idx := 346) (as := [.inr (.ref 20), .inr (.ref 32), .inr (.ref 34)]) (rest := []) (L1 := [some (.inr (.ref 0)), some (.inl k), some (.inl t), some (.inl v), some (.inl x)]) (st1 := [.inr (.ref 34), .inr (.ref 32), .inr (.ref 20)]) (M1 := V) (ob := [0 < fs_N ∧ fs_kd 0 = 5, 0 < fs_N ∧ fs_kd 0 = 5, 0 < fs_N ∧ fs_kd 0 = 5]) rfl rfl rfl (fs_oc fs_ob0 (fs_oc fs_ob0 (fs_oc fs_ob0 trivial))) rfl rfl (Nat.le_of_ble_eq_true rfl) ⟨Or.inr (Nat.le_of_ble_eq_true rfl), Or.inr fs_ob20⟩ (by decide) ?_
  refine fs_c_toLeast (eq_b e1 (wf_bd hN hw)) (fun (W : fs_M) (t1 : mk_f V W) (t2 : sst W 32 = ec_fix (mk V) (ec_calm (mk V))) (t3 : sb W 32) => ?_)
  have d1 : fdE W (wf N k t v) (ec_lst (wf N k t v)) := fdE.least (wf_bd hN hw) e1 t1 t2 t3
  refine fs_r_call (sta := false) (idx := 249) (as := [.inr (.ref 20), .inr (.ref 32), .inl x]) (rest := []) (L1 := [some (.inr (.ref 0)), some (.inl k), some (.inl t), some (.inl v), some (.inl x)]) (st1 := [.inl x, .inr (.ref 32), .inr (.ref 20)]) (M1 := W) (ob := [0 < fs_N ∧ fs_kd 0 = 5, 0 < fs_N ∧ fs_kd 0 = 5]) rfl rfl rfl (fs_oc fs_ob0 (fs_oc fs_ob0 trivial)) rfl rfl (Nat.le_of_ble_eq_true rfl) ⟨Or.inr (Nat.le_of_ble_eq_true rfl), Or.inr fs_ob20⟩ (by decide) ?_
  refine fs_c_tell (d1.b) (d1.S) (by have e := d1.n0; have e2 := (wf_0 (N := N) (k := k) (t := t) (v := v)).1; omega) ?_
  refine fs_r_iret (a := (ec_tell (mk W) (sst W 32) x)) (L1 := [some (.inr (.ref 0)), some (.inl k), some (.inl t), some (.inl v), some (.inl x)]) (M1 := W) (ob := []) rfl rfl trivial (Or.inl rfl) ?_
  exact fs_qi (d1.tell x) (hq0 _ (q1.tr (cq.f t1)))

theorem fs_c_holdsWith {d : Nat} {M : fs_M} {Q : Option fs_V → fs_M → Prop} {k : Int} {t : Int} {v : Int} {N : Int → Int} (hV : vw 5 M N) (hN : fs_NI N) (hw : wk N k t v) (hq0 : ∀ (M2 : fs_M), (ec_safe (wf N k t v)) → (cq M M2) → Q (some (.inl 1)) M2) (hq1 : ∀ (M2 : fs_M), (¬ ec_safe (wf N k t v)) → (cq M M2) → Q (some (.inl 0)) M2) : fs_W (d + 5) 153 0 [some (.inr (.ref 0)), some (.inl k), some (.inl t), some (.inl v)] [] M Q := by
  refine fs_r_call (sta := false) (idx := 415) (as := [.inr (.ref 0), .inl k, .inl t, .inl v]) (rest := []) (L1 := [some (.inr (.ref 0)), some (.inl k), some (.inl t), some (.inl v)]) (st1 := [.inl v, .inl t, .inl k, .inr (.ref 0)]) (M1 := M) (ob := []) rfl rfl rfl trivial rfl rfl (Nat.le_of_ble_eq_true rfl) ⟨Or.inr (Nat.le_of_ble_eq_true rfl), Or.inr fs_ob0⟩ (by decide) ?_
  refine fs_c_loadChanged (N := N) (by assumption) (by assumption) (by assumption) (fun (V : fs_M) (q1 : cq M V) (e1 : ec_eq (mk V) (wf N k t v)) => ?_)
  refine fs_r_call (sta := false) (idx := 346) (as := [.inr (.ref 20), .inr (.ref 32), .inr (.ref 34)]) (rest := []) (L1 := [some (.inr (.ref 0)), some (.inl k), some (.inl t), some (.inl v)]) (st1 := [.inr (.ref 34), .inr (.ref 32), .inr (.ref 20)]) (M1 := V) (ob := [0 < fs_N ∧ fs_kd 0 = 5, 0 < fs_N ∧ fs_kd 0 = 5, 0 < fs_N ∧ fs_kd 0 = 5]) rfl rfl rfl (fs_oc fs_ob0 (fs_oc fs_ob0 (fs_oc fs_ob0 trivial))) rfl rfl (Nat.le_of_ble_eq_true rfl) ⟨Or.inr (Nat.le_of_ble_eq_true rfl), Or.inr fs_ob20⟩ (by decide) ?_
  refine fs_c_toLeast (eq_b e1 (wf_bd hN hw)) (fun (W : fs_M) (t1 : mk_f V W) (t2 : sst W 32 = ec_fix (mk V) (ec_calm (mk V))) (t3 : sb W 32) => ?_)
  have d1 : fdE W (wf N k t v) (ec_lst (wf N k t v)) := fdE.least (wf_bd hN hw) e1 t1 t2 t3
  have fa := d1.fa
  refine fs_r_if (a := (W 32 1)) (L1 := [some (.inr (.ref 0)), some (.inl k), some (.inl t), some (.inl v)]) (st1 := []) (M1 := W) (ob := [0 < fs_N ∧ fs_kd 0 = 5, 32 < fs_N ∧ fs_kd 32 = 3]) rfl rfl (fs_oc fs_ob0 (fs_oc fs_ob32 trivial)) (fun (h1 : ¬ (W 32 1) = 0) => ?_) (fun (h1 : ¬ (¬ (W 32 1) = 0)) => ?_)
  · refine fs_r_nop (L1 := [some (.inr (.ref 0)), some (.inl k), some (.inl t), some (.inl v)]) (st1 := [.inl 0]) (M1 := W) (ob := []) rfl rfl trivial ?_
    refine fs_r_iret (a := 0) (L1 := [some (.inr (.ref 0)), some (.inl k), some (.inl t), some (.inl v)]) (M1 := W) (ob := []) rfl rfl trivial (Or.inr (Or.inl rfl)) ?_
    exact hq1 _ (by unfold ec_safe; omega) (q1.tr (cq.f t1))
  refine fs_r_goto (L1 := [some (.inr (.ref 0)), some (.inl k), some (.inl t), some (.inl v)]) (st1 := [.inl 1]) (M1 := W) (ob := []) rfl rfl trivial ?_
  refine fs_r_iret (a := 1) (L1 := [some (.inr (.ref 0)), some (.inl k), some (.inl t), some (.inl v)]) (M1 := W) (ob := []) rfl rfl trivial (Or.inr (Or.inr rfl)) ?_
  exact hq0 _ (by unfold ec_safe; omega) (q1.tr (cq.f t1))

theorem fs_c_fewestThatHolds {d : Nat} {M : fs_M} {Q : Option fs_V → fs_M → Prop} {k : Int} {t : Int} {m : Int} {N : Int → Int} (hV : vw 5 M N) (hN : fs_NI N) (hm : 0 ≤ m ∧ m ≤ 9999) (hw : ∀ v, 0 ≤ v → v ≤ m → wk N k t v) (hq0 : ∀ (M2 : fs_M), (cq M M2) → Q (some (.inl (@ite _ (ec_safe (wf N k t m)) (Classical.propDecidable _) (fs_bsL (fun v => ec_safe (wf N k t v)) (Int.toNat m) 0 m) (-2)))) M2) : fs_W (d + 6) 154 0 [some (.inr (.ref 0)), some (.inl k), some (.inl t), some (.inl m), none, none, none] [] M Q := by
  refine fs_r_call (sta := false) (idx := 418) (as := [.inr (.ref 0), .inl k, .inl t, .inl m]) (rest := []) (L1 := [some (.inr (.ref 0)), some (.inl k), some (.inl t), some (.inl m), none, none, none]) (st1 := [.inl m, .inl t, .inl k, .inr (.ref 0)]) (M1 := M) (ob := []) rfl rfl rfl trivial rfl rfl (Nat.le_of_ble_eq_true rfl) ⟨Or.inr (Nat.le_of_ble_eq_true rfl), Or.inr fs_ob0⟩ (by decide) ?_
  refine fs_c_holdsWith (N := N) (by assumption) (by assumption) (hw _ (by omega) (by omega)) (fun (V : fs_M) (c1 : ec_safe (wf N k t m)) (q1 : cq M V) => ?_) (fun (V : fs_M) (c1 : ¬ ec_safe (wf N k t m)) (q1 : cq M V) => ?_)
  · refine fs_r_if (a := 1) (L1 := [some (.inr (.ref 0)), some (.inl k), some (.inl t), some (.inl m), none, none, none]) (st1 := []) (M1 := V) (ob := []) rfl rfl trivial (fun _ => ?_) (fun h => absurd (by decide : ¬ (1 : Int) = 0) h)
    refine fs_r_nop (L1 := [some (.inr (.ref 0)), some (.inl k), some (.inl t), some (.inl m), some (.inl 0), some (.inl m), none]) (st1 := []) (M1 := V) (ob := [4 < 7, 5 < 7]) rfl rfl (fs_oc (by decide) (fs_oc (by decide) trivial)) ?_
    have loop19 : ∀ (n19 : Nat) (lo : Int) (hi : Int) (zl6 : Option fs_V) (M3 : fs_M), (0 ≤ lo ∧ lo ≤ hi ∧ hi ≤ m) → (cq M M3) → (fs_bsL (fun v => ec_safe (wf N k t v)) (hi - lo).toNat lo hi = fs_bsL (fun v => ec_safe (wf N k t v)) m.toNat 0 m) → hi - lo < (n19 : Int) → fs_W (d + 6) 154 19 [some (.inr (.ref 0)), some (.inl k), some (.inl t), some (.inl m), some (.inl lo), some (.inl hi), zl6] [] M3 Q := by
      intro n19
      induction n19 with
      | zero =>
        intro lo hi zl6 M3 i0 q3 r0 hm19
        exfalso
        omega
      | succ n19 ih19 =>
        intro lo hi zl6 M3 i0 q3 r0 hm19
        refine fs_r_icmp (a := lo) (y := hi) (L1 := [some (.inr (.ref 0)), some (.inl k), some (.inl t), some (.inl m), some (.inl lo), some (.inl hi), zl6]) (st1 := []) (M1 := M3) (ob := []) rfl rfl trivial (fun (h1 : hi ≤ lo) => ?_) (fun (h1 : ¬ (hi ≤ lo)) => ?_)
        · refine fs_r_iret (a := lo) (L1 := [some (.inr (.ref 0)), some (.inl k), some (.inl t), some (.inl m), some (.inl lo), some (.inl hi), zl6]) (M1 := M3) (ob := []) rfl rfl trivial (Or.inl rfl) ?_
          have el : lo = hi := by omega
          subst el
          rw [show (lo - lo).toNat = 0 by omega] at r0
          exact fs_qi (by rw [if_pos c1, ← r0]; rfl) (hq0 _ q3)
        refine fs_r_call (sta := false) (idx := 418) (as := [.inr (.ref 0), .inl k, .inl t, .inl ((lo + hi) / 2)]) (rest := []) (L1 := [some (.inr (.ref 0)), some (.inl k), some (.inl t), some (.inl m), some (.inl lo), some (.inl hi), some (.inl ((lo + hi) / 2))]) (st1 := [.inl ((lo + hi) / 2), .inl t, .inl k, .inr (.ref 0)]) (M1 := M3) (ob := [fs_rg (lo + hi), (0 : Int) ≤ (lo + hi), (0 : Int) < 2, 6 < 7]) rfl rfl (fs_exA 6 (o1 := [fs_rg (lo + hi), (0 : Int) ≤ (lo + hi), (0 : Int) < 2, 6 < 7]) (L1 := [some (.inr (.ref 0)), some (.inl k), some (.inl t), some (.inl m), some (.inl lo), some (.inl hi), some (.inl ((lo + hi) / 2))]) (st1 := []) (M1 := M3) (o2 := []) rfl rfl) (fs_oc ⟨by omega, by omega⟩ (fs_oc (by omega) (fs_oc (by omega) (fs_oc (by decide) trivial)))) rfl rfl (Nat.le_of_ble_eq_true rfl) ⟨Or.inr (Nat.le_of_ble_eq_true rfl), Or.inr fs_ob0⟩ (by decide) ?_
        refine fs_c_holdsWith (N := N) (q3.vw hV) (by assumption) (hw _ (by omega) (by omega)) (fun (V2 : fs_M) (c2 : ec_safe (wf N k t ((lo + hi) / 2))) (q2 : cq M3 V2) => ?_) (fun (V2 : fs_M) (c2 : ¬ ec_safe (wf N k t ((lo + hi) / 2))) (q2 : cq M3 V2) => ?_)
        · refine fs_r_if (a := 1) (L1 := [some (.inr (.ref 0)), some (.inl k), some (.inl t), some (.inl m), some (.inl lo), some (.inl hi), some (.inl ((lo + hi) / 2))]) (st1 := []) (M1 := V2) (ob := []) rfl rfl trivial (fun h => absurd h (by decide : ¬ ((1 : Int) = 0))) (fun _ => ?_)
          refine fs_r_goto (L1 := [some (.inr (.ref 0)), some (.inl k), some (.inl t), some (.inl m), some (.inl lo), some (.inl ((lo + hi) / 2)), some (.inl ((lo + hi) / 2))]) (st1 := []) (M1 := V2) (ob := [5 < 7]) rfl rfl (fs_oc (by decide) trivial) ?_
          refine fs_r_goto (L1 := [some (.inr (.ref 0)), some (.inl k), some (.inl t), some (.inl m), some (.inl lo), some (.inl ((lo + hi) / 2)), some (.inl ((lo + hi) / 2))]) (st1 := []) (M1 := V2) (ob := []) rfl rfl trivial ?_
          exact ih19 (lo) (((lo + hi) / 2)) (some (.inl ((lo + hi) / 2))) V2 (by omega) (q3.tr q2) (by rw [← r0]; first | exact (fs_bsL_t (p := (fun v => ec_safe (wf N k t v))) (by omega) c2).symm | exact (fs_bsL_f (p := (fun v => ec_safe (wf N k t v))) (by omega) c2).symm) (by omega)
        refine fs_r_if (a := 0) (L1 := [some (.inr (.ref 0)), some (.inl k), some (.inl t), some (.inl m), some (.inl lo), some (.inl hi), some (.inl ((lo + hi) / 2))]) (st1 := []) (M1 := V2) (ob := []) rfl rfl trivial (fun _ => ?_) (fun h => absurd (by decide : (0 : Int) = 0) h)
        refine fs_r_nop (L1 := [some (.inr (.ref 0)), some (.inl k), some (.inl t), some (.inl m), some (.inl (((lo + hi) / 2) + 1)), some (.inl hi), some (.inl ((lo + hi) / 2))]) (st1 := []) (M1 := V2) (ob := [fs_rg (((lo + hi) / 2) + 1), 4 < 7]) rfl rfl (fs_oc ⟨by omega, by omega⟩ (fs_oc (by decide) trivial)) ?_
        refine fs_r_goto (L1 := [some (.inr (.ref 0)), some (.inl k), some (.inl t), some (.inl m), some (.inl (((lo + hi) / 2) + 1)), some (.inl hi), some (.inl ((lo + hi) / 2))]) (st1 := []) (M1 := V2) (ob := []) rfl rfl trivial ?_
        exact ih19 ((((lo + hi) / 2) + 1)) (hi) (some (.inl ((lo + hi) / 2))) V2 (by omega) (q3.tr q2) (by rw [← r0]; first | exact (fs_bsL_t (p := (fun v => ec_safe (wf N k t v))) (by omega) c2).symm | exact (fs_bsL_f (p := (fun v => ec_safe (wf N k t v))) (by omega) c2).symm) (by omega)
    exact loop19 ((((m) - (0)) : Int) + 1).toNat (0) (m) (none) V (by omega) (q1) (by rw [Int.sub_zero]) (by omega)
  refine fs_r_if (a := 0) (L1 := [some (.inr (.ref 0)), some (.inl k), some (.inl t), some (.inl m), none, none, none]) (st1 := []) (M1 := V) (ob := []) rfl rfl trivial (fun h => absurd h (by decide : ¬ (¬ (0 : Int) = 0))) (fun _ => ?_)
  refine fs_r_iret (a := (-2)) (L1 := [some (.inr (.ref 0)), some (.inl k), some (.inl t), some (.inl m), none, none, none]) (M1 := V) (ob := []) rfl rfl trivial (Or.inl rfl) ?_
  exact fs_qi (by rw [if_neg c1]) (hq0 _ q1)

theorem fs_c_mostThatHolds {d : Nat} {M : fs_M} {Q : Option fs_V → fs_M → Prop} {k : Int} {t : Int} {m : Int} {N : Int → Int} (hV : vw 5 M N) (hN : fs_NI N) (hm : 0 ≤ m ∧ m ≤ 9999) (hw : ∀ v, 0 ≤ v → v ≤ m → wk N k t v) (hq0 : ∀ (M2 : fs_M), (cq M M2) → Q (some (.inl (@ite _ (ec_safe (wf N k t 0)) (Classical.propDecidable _) (fs_bsM (fun v => ec_safe (wf N k t v)) (Int.toNat m) 0 m) (-2)))) M2) : fs_W (d + 6) 155 0 [some (.inr (.ref 0)), some (.inl k), some (.inl t), some (.inl m), none, none, none] [] M Q := by
  refine fs_r_call (sta := false) (idx := 418) (as := [.inr (.ref 0), .inl k, .inl t, .inl 0]) (rest := []) (L1 := [some (.inr (.ref 0)), some (.inl k), some (.inl t), some (.inl m), none, none, none]) (st1 := [.inl 0, .inl t, .inl k, .inr (.ref 0)]) (M1 := M) (ob := []) rfl rfl rfl trivial rfl rfl (Nat.le_of_ble_eq_true rfl) ⟨Or.inr (Nat.le_of_ble_eq_true rfl), Or.inr fs_ob0⟩ (by decide) ?_
  refine fs_c_holdsWith (N := N) (by assumption) (by assumption) (hw _ (by omega) (by omega)) (fun (V : fs_M) (c1 : ec_safe (wf N k t 0)) (q1 : cq M V) => ?_) (fun (V : fs_M) (c1 : ¬ ec_safe (wf N k t 0)) (q1 : cq M V) => ?_)
  · refine fs_r_if (a := 1) (L1 := [some (.inr (.ref 0)), some (.inl k), some (.inl t), some (.inl m), none, none, none]) (st1 := []) (M1 := V) (ob := []) rfl rfl trivial (fun _ => ?_) (fun h => absurd (by decide : ¬ (1 : Int) = 0) h)
    refine fs_r_nop (L1 := [some (.inr (.ref 0)), some (.inl k), some (.inl t), some (.inl m), some (.inl 0), some (.inl m), none]) (st1 := []) (M1 := V) (ob := [4 < 7, 5 < 7]) rfl rfl (fs_oc (by decide) (fs_oc (by decide) trivial)) ?_
    have loop19 : ∀ (n19 : Nat) (lo : Int) (hi : Int) (zl6 : Option fs_V) (M3 : fs_M), (0 ≤ lo ∧ lo ≤ hi ∧ hi ≤ m) → (cq M M3) → (fs_bsM (fun v => ec_safe (wf N k t v)) (hi - lo).toNat lo hi = fs_bsM (fun v => ec_safe (wf N k t v)) m.toNat 0 m) → hi - lo < (n19 : Int) → fs_W (d + 6) 155 19 [some (.inr (.ref 0)), some (.inl k), some (.inl t), some (.inl m), some (.inl lo), some (.inl hi), zl6] [] M3 Q := by
      intro n19
      induction n19 with
      | zero =>
        intro lo hi zl6 M3 i0 q3 r0 hm19
        exfalso
        omega
      | succ n19 ih19 =>
        intro lo hi zl6 M3 i0 q3 r0 hm19
        refine fs_r_icmp (a := lo) (y := hi) (L1 := [some (.inr (.ref 0)), some (.inl k), some (.inl t), some (.inl m), some (.inl lo), some (.inl hi), zl6]) (st1 := []) (M1 := M3) (ob := []) rfl rfl trivial (fun (h1 : hi ≤ lo) => ?_) (fun (h1 : ¬ (hi ≤ lo)) => ?_)
        · refine fs_r_iret (a := lo) (L1 := [some (.inr (.ref 0)), some (.inl k), some (.inl t), some (.inl m), some (.inl lo), some (.inl hi), zl6]) (M1 := M3) (ob := []) rfl rfl trivial (Or.inl rfl) ?_
          have el : lo = hi := by omega
          subst el
          rw [show (lo - lo).toNat = 0 by omega] at r0
          exact fs_qi (by rw [if_pos c1, ← r0]; rfl) (hq0 _ q3)
        refine fs_r_call (sta := false) (idx := 418) (as := [.inr (.ref 0), .inl k, .inl t, .inl (((lo + hi) + 1) / 2)]) (rest := []) (L1 := [some (.inr (.ref 0)), some (.inl k), some (.inl t), some (.inl m), some (.inl lo), some (.inl hi), some (.inl (((lo + hi) + 1) / 2))]) (st1 := [.inl (((lo + hi) + 1) / 2), .inl t, .inl k, .inr (.ref 0)]) (M1 := M3) (ob := [fs_rg (lo + hi), fs_rg ((lo + hi) + 1), (0 : Int) ≤ ((lo + hi) + 1), (0 : Int) < 2, 6 < 7]) rfl rfl (fs_exA 6 (o1 := [fs_rg (lo + hi), fs_rg ((lo + hi) + 1)]) (L1 := [some (.inr (.ref 0)), some (.inl k), some (.inl t), some (.inl m), some (.inl lo), some (.inl hi), zl6]) (st1 := [.inl 2, .inl ((lo + hi) + 1)]) (M1 := M3) (o2 := [(0 : Int) ≤ ((lo + hi) + 1), (0 : Int) < 2, 6 < 7]) rfl rfl) (fs_oc ⟨by omega, by omega⟩ (fs_oc ⟨by omega, by omega⟩ (fs_oc (by omega) (fs_oc (by omega) (fs_oc (by decide) trivial))))) rfl rfl (Nat.le_of_ble_eq_true rfl) ⟨Or.inr (Nat.le_of_ble_eq_true rfl), Or.inr fs_ob0⟩ (by decide) ?_
        refine fs_c_holdsWith (N := N) (q3.vw hV) (by assumption) (hw _ (by omega) (by omega)) (fun (V2 : fs_M) (c2 : ec_safe (wf N k t (((lo + hi) + 1) / 2))) (q2 : cq M3 V2) => ?_) (fun (V2 : fs_M) (c2 : ¬ ec_safe (wf N k t (((lo + hi) + 1) / 2))) (q2 : cq M3 V2) => ?_)
        · refine fs_r_if (a := 1) (L1 := [some (.inr (.ref 0)), some (.inl k), some (.inl t), some (.inl m), some (.inl lo), some (.inl hi), some (.inl (((lo + hi) + 1) / 2))]) (st1 := []) (M1 := V2) (ob := []) rfl rfl trivial (fun h => absurd h (by decide : ¬ ((1 : Int) = 0))) (fun _ => ?_)
          refine fs_r_goto (L1 := [some (.inr (.ref 0)), some (.inl k), some (.inl t), some (.inl m), some (.inl (((lo + hi) + 1) / 2)), some (.inl hi), some (.inl (((lo + hi) + 1) / 2))]) (st1 := []) (M1 := V2) (ob := [4 < 7]) rfl rfl (fs_oc (by decide) trivial) ?_
          refine fs_r_goto (L1 := [some (.inr (.ref 0)), some (.inl k), some (.inl t), some (.inl m), some (.inl (((lo + hi) + 1) / 2)), some (.inl hi), some (.inl (((lo + hi) + 1) / 2))]) (st1 := []) (M1 := V2) (ob := []) rfl rfl trivial ?_
          exact ih19 ((((lo + hi) + 1) / 2)) (hi) (some (.inl (((lo + hi) + 1) / 2))) V2 (by omega) (q3.tr q2) (by rw [← r0]; first | exact (fs_bsM_t (p := (fun v => ec_safe (wf N k t v))) (by omega) c2).symm | exact (fs_bsM_f (p := (fun v => ec_safe (wf N k t v))) (by omega) c2).symm) (by omega)
        refine fs_r_if (a := 0) (L1 := [some (.inr (.ref 0)), some (.inl k), some (.inl t), some (.inl m), some (.inl lo), some (.inl hi), some (.inl (((lo + hi) + 1) / 2))]) (st1 := []) (M1 := V2) (ob := []) rfl rfl trivial (fun _ => ?_) (fun h => absurd (by decide : (0 : Int) = 0) h)
        refine fs_r_nop (L1 := [some (.inr (.ref 0)), some (.inl k), some (.inl t), some (.inl m), some (.inl lo), some (.inl ((((lo + hi) + 1) / 2) - 1)), some (.inl (((lo + hi) + 1) / 2))]) (st1 := []) (M1 := V2) (ob := [fs_rg ((((lo + hi) + 1) / 2) - 1), 5 < 7]) rfl rfl (fs_oc ⟨by omega, by omega⟩ (fs_oc (by decide) trivial)) ?_
        refine fs_r_goto (L1 := [some (.inr (.ref 0)), some (.inl k), some (.inl t), some (.inl m), some (.inl lo), some (.inl ((((lo + hi) + 1) / 2) - 1)), some (.inl (((lo + hi) + 1) / 2))]) (st1 := []) (M1 := V2) (ob := []) rfl rfl trivial ?_
        exact ih19 (lo) (((((lo + hi) + 1) / 2) - 1)) (some (.inl (((lo + hi) + 1) / 2))) V2 (by omega) (q3.tr q2) (by rw [← r0]; first | exact (fs_bsM_t (p := (fun v => ec_safe (wf N k t v))) (by omega) c2).symm | exact (fs_bsM_f (p := (fun v => ec_safe (wf N k t v))) (by omega) c2).symm) (by omega)
    exact loop19 ((((m) - (0)) : Int) + 1).toNat (0) (m) (none) V (by omega) (q1) (by rw [Int.sub_zero]) (by omega)
  refine fs_r_if (a := 0) (L1 := [some (.inr (.ref 0)), some (.inl k), some (.inl t), some (.inl m), none, none, none]) (st1 := []) (M1 := V) (ob := []) rfl rfl trivial (fun h => absurd h (by decide : ¬ (¬ (0 : Int) = 0))) (fun _ => ?_)
  refine fs_r_iret (a := (-2)) (L1 := [some (.inr (.ref 0)), some (.inl k), some (.inl t), some (.inl m), none, none, none]) (M1 := V) (ob := []) rfl rfl trivial (Or.inl rfl) ?_
  exact fs_qi (by rw [if_neg c1]) (hq0 _ q1)
