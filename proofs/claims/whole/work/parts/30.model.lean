theorem fs_m_isSafe {d : Nat} {M : fs_M} {Q : Option fs_V → fs_M → Prop} {a : Int} {c : Int} {v : Int}  (hI : fs_NI (M 125)) (hc : c = 0 ∨ c = 1) (hv : 0 ≤ v ∧ v ≤ 360 ∧ (c = 0 → v ≤ 200)) (hq0 : ∀ (M2 : fs_M), (mm_q M M2) → (ec_safe (ec_xt (M 125) a c v)) → Q (some (.inl 1)) M2) (hq1 : ∀ (M2 : fs_M), (mm_q M M2) → (¬ ec_safe (ec_xt (M 125) a c v)) → Q (some (.inl 0)) M2) : fs_W (d + 9) 264 0 [some (.inr (.ref 124)), some (.inl a), some (.inl c), some (.inl v)] [] M Q := by
  have hN := hI
  refine fs_r_call (sta := false) (idx := 252) (as := [.inr (.ref 124)]) (rest := []) (L1 := [some (.inr (.ref 124)), some (.inl a), some (.inl c), some (.inl v)]) (st1 := [.inr (.ref 124)]) (M1 := M) (ob := []) rfl rfl rfl trivial rfl rfl (Nat.le_of_ble_eq_true rfl) ⟨Or.inr (Nat.le_of_ble_eq_true rfl), Or.inr fs_ob124⟩ (by decide) ?_
  refine fs_m_plain (fun (P1 : fs_M) (pp : mm_P M P1) => ?_)
  have join21 : ∀ (x : Int), (x = if c = 0 then 360 else v) → fs_W (d + 9) 264 21 [some (.inr (.ref 124)), some (.inl a), some (.inl c), some (.inl v)] [.inl x, .inr (.ref 124)] (fs_up P1 124 19 a) Q := by
    intro x kx
    have join34 : ∀ (y : Int), (y = if c = 0 then v else 0) → fs_W (d + 9) 264 34 [some (.inr (.ref 124)), some (.inl a), some (.inl c), some (.inl v)] [.inl y, .inr (.ref 124)] (fs_up (fs_up P1 124 19 a) 124 20 x) Q := by
      intro y ky
      have v0 := ((((((mm_V.P pp).u (i := 19) (v := a) (by omega)).u (i := 20) (v := x) (by omega)).u (i := 21) (v := y) (by omega)).to rfl kx ky rfl rfl rfl rfl) : mm_V M _ a (if c = 0 then 360 else v) (if c = 0 then v else 0) (-1) 0 100 0)
      have i0 := v0.I hN (by omega) (by rw [← ky]; rw [ky]; split <;> omega) (by omega) (by rw [← kx]; rw [kx]; split <;> omega) (by omega)
      refine fs_r_call (sta := false) (idx := 321) (as := [.inr (.ref 124)]) (rest := []) (L1 := [some (.inr (.ref 124)), some (.inl a), some (.inl c), some (.inl v)]) (st1 := [.inr (.ref 124)]) (M1 := (fs_up (fs_up (fs_up P1 124 19 a) 124 20 x) 124 21 y)) (ob := [124 < fs_N ∧ fs_kd 124 = 6]) rfl rfl rfl (fs_oc fs_ob124 trivial) rfl rfl (Nat.le_of_ble_eq_true rfl) ⟨Or.inr (Nat.le_of_ble_eq_true rfl), Or.inr fs_ob124⟩ (by decide) ?_
      refine fs_m_noneFalls (i0) (fun (V1 : fs_M) (g1 : mm_f3 (fs_up (fs_up (fs_up P1 124 19 a) 124 20 x) 124 21 y) V1) (c1 : ec_safe (mm_E (fs_up (fs_up (fs_up P1 124 19 a) 124 20 x) 124 21 y))) => ?_) (fun (V1 : fs_M) (g1 : mm_f3 (fs_up (fs_up (fs_up P1 124 19 a) 124 20 x) 124 21 y) V1) (c1 : ¬ ec_safe (mm_E (fs_up (fs_up (fs_up P1 124 19 a) 124 20 x) 124 21 y))) => ?_)
      · refine fs_r_iret (a := 1) (L1 := [some (.inr (.ref 124)), some (.inl a), some (.inl c), some (.inl v)]) (M1 := V1) (ob := []) rfl rfl trivial (Or.inr (Or.inr rfl)) ?_
        first
          | exact hq0 _ (v0.f3 g1).q ((v0.safe hN i0).mp c1)
          | exact hq1 _ (v0.f3 g1).q (fun z => c1 ((v0.safe hN i0).mpr z))
      refine fs_r_iret (a := 0) (L1 := [some (.inr (.ref 124)), some (.inl a), some (.inl c), some (.inl v)]) (M1 := V1) (ob := []) rfl rfl trivial (Or.inr (Or.inl rfl)) ?_
      first
        | exact hq0 _ (v0.f3 g1).q ((v0.safe hN i0).mp c1)
        | exact hq1 _ (v0.f3 g1).q (fun z => c1 ((v0.safe hN i0).mpr z))
    refine fs_r_if (a := c) (L1 := [some (.inr (.ref 124)), some (.inl a), some (.inl c), some (.inl v)]) (st1 := [.inr (.ref 124)]) (M1 := (fs_up (fs_up P1 124 19 a) 124 20 x)) (ob := [124 < fs_N ∧ fs_kd 124 = 6]) rfl rfl (fs_oc fs_ob124 trivial) (fun (h1 : c = 0) => ?_) (fun (h1 : ¬ (c = 0)) => ?_)
    · refine fs_r_nop (L1 := [some (.inr (.ref 124)), some (.inl a), some (.inl c), some (.inl v)]) (st1 := [.inl v, .inr (.ref 124)]) (M1 := (fs_up (fs_up P1 124 19 a) 124 20 x)) (ob := []) rfl rfl trivial ?_
      exact join34 (v) (by first | (rw [if_pos (by omega)]) | (rw [if_neg (by omega)]))
    refine fs_r_goto (L1 := [some (.inr (.ref 124)), some (.inl a), some (.inl c), some (.inl v)]) (st1 := [.inl 0, .inr (.ref 124)]) (M1 := (fs_up (fs_up P1 124 19 a) 124 20 x)) (ob := []) rfl rfl trivial ?_
    exact join34 (0) (by first | (rw [if_pos (by omega)]) | (rw [if_neg (by omega)]))
  refine fs_r_if (a := c) (L1 := [some (.inr (.ref 124)), some (.inl a), some (.inl c), some (.inl v)]) (st1 := [.inr (.ref 124)]) (M1 := (fs_up P1 124 19 a)) (ob := [124 < fs_N ∧ fs_kd 124 = 6]) rfl rfl (fs_oc fs_ob124 trivial) (fun (h2 : c = 0) => ?_) (fun (h2 : ¬ (c = 0)) => ?_)
  · refine fs_r_nop (L1 := [some (.inr (.ref 124)), some (.inl a), some (.inl c), some (.inl v)]) (st1 := [.inl 360, .inr (.ref 124)]) (M1 := (fs_up P1 124 19 a)) (ob := []) rfl rfl trivial ?_
    exact join21 (360) (by first | (rw [if_pos (by omega)]) | (rw [if_neg (by omega)]))
  refine fs_r_goto (L1 := [some (.inr (.ref 124)), some (.inl a), some (.inl c), some (.inl v)]) (st1 := [.inl v, .inr (.ref 124)]) (M1 := (fs_up P1 124 19 a)) (ob := []) rfl rfl trivial ?_
  exact join21 (v) (by first | (rw [if_pos (by omega)]) | (rw [if_neg (by omega)]))

theorem fs_m_greatestFor {d : Nat} {M : fs_M} {Q : Option fs_V → fs_M → Prop} {a : Int} {c : Int} {mx : Int}  (hI : fs_NI (M 125)) (hc : c = 0 ∨ c = 1) (hm : 0 ≤ mx ∧ mx ≤ 360 ∧ (c = 0 → mx ≤ 200)) (hq0 : ∀ (M2 : fs_M), (mm_q M M2) → Q (some (.inl (rq_great (M 125) a c mx))) M2) : fs_W (d + 10) 265 0 [some (.inr (.ref 124)), some (.inl a), some (.inl c), some (.inl mx), none, none, none] [] M Q := by
  have hN := hI
  refine fs_r_call (sta := false) (idx := 331) (as := [.inr (.ref 124), .inl a, .inl c, .inl 0]) (rest := []) (L1 := [some (.inr (.ref 124)), some (.inl a), some (.inl c), some (.inl mx), none, none, none]) (st1 := [.inl 0, .inl c, .inl a, .inr (.ref 124)]) (M1 := M) (ob := []) rfl rfl rfl trivial rfl rfl (Nat.le_of_ble_eq_true rfl) ⟨Or.inr (Nat.le_of_ble_eq_true rfl), Or.inr fs_ob124⟩ (by decide) ?_
  refine fs_m_isSafe (by assumption) (by omega) (by omega) (fun (V1 : fs_M) (g1 : mm_q M V1) (c1 : ec_safe (ec_xt (M 125) a c 0)) => ?_) (fun (V1 : fs_M) (g1 : mm_q M V1) (c1 : ¬ ec_safe (ec_xt (M 125) a c 0)) => ?_)
  · refine fs_r_if (a := 1) (L1 := [some (.inr (.ref 124)), some (.inl a), some (.inl c), some (.inl mx), none, none, none]) (st1 := []) (M1 := V1) (ob := []) rfl rfl trivial (fun _ => ?_) (fun h => absurd (by decide : ¬ (1 : Int) = 0) h)
    have n1 := g1.N
    refine fs_r_nop (L1 := [some (.inr (.ref 124)), some (.inl a), some (.inl c), some (.inl mx), some (.inl 0), some (.inl mx), none]) (st1 := []) (M1 := V1) (ob := [4 < 7, 5 < 7]) rfl rfl (fs_oc (by decide) (fs_oc (by decide) trivial)) ?_
    have loop19 : ∀ (n19 : Nat) (lo : Int) (hi : Int) (zl6 : Option fs_V) (M3 : fs_M), (0 ≤ lo ∧ lo ≤ hi ∧ hi ≤ mx) → (mm_q M M3) → (fs_bsM (fun v => ec_safe (ec_xt (M 125) a c v)) (hi - lo).toNat lo hi = fs_bsM (fun v => ec_safe (ec_xt (M 125) a c v)) mx.toNat 0 mx) → hi - lo < (n19 : Int) → fs_W (d + 10) 265 19 [some (.inr (.ref 124)), some (.inl a), some (.inl c), some (.inl mx), some (.inl lo), some (.inl hi), zl6] [] M3 Q := by
      intro n19
      induction n19 with
      | zero =>
        intro lo hi zl6 M3 i0 q3 r0 hm19
        exfalso
        omega
      | succ n19 ih19 =>
        intro lo hi zl6 M3 i0 q3 r0 hm19
        refine fs_r_icmp (a := lo) (y := hi) (L1 := [some (.inr (.ref 124)), some (.inl a), some (.inl c), some (.inl mx), some (.inl lo), some (.inl hi), zl6]) (st1 := []) (M1 := M3) (ob := []) rfl rfl trivial (fun (h1 : hi ≤ lo) => ?_) (fun (h1 : ¬ (hi ≤ lo)) => ?_)
        · refine fs_r_iret (a := lo) (L1 := [some (.inr (.ref 124)), some (.inl a), some (.inl c), some (.inl mx), some (.inl lo), some (.inl hi), zl6]) (M1 := M3) (ob := []) rfl rfl trivial (Or.inl rfl) ?_
          exact fs_qi (by unfold rq_great; rw [if_pos c1, ← r0, show (hi - lo).toNat = 0 by omega]; rfl) (hq0 _ q3)
        refine fs_r_call (sta := false) (idx := 331) (as := [.inr (.ref 124), .inl a, .inl c, .inl (((lo + hi) + 1) / 2)]) (rest := []) (L1 := [some (.inr (.ref 124)), some (.inl a), some (.inl c), some (.inl mx), some (.inl lo), some (.inl hi), some (.inl (((lo + hi) + 1) / 2))]) (st1 := [.inl (((lo + hi) + 1) / 2), .inl c, .inl a, .inr (.ref 124)]) (M1 := M3) (ob := [fs_rg (lo + hi), fs_rg ((lo + hi) + 1), (0 : Int) ≤ ((lo + hi) + 1), (0 : Int) < 2, 6 < 7]) rfl rfl (fs_exA 6 (o1 := [fs_rg (lo + hi), fs_rg ((lo + hi) + 1)]) (L1 := [some (.inr (.ref 124)), some (.inl a), some (.inl c), some (.inl mx), some (.inl lo), some (.inl hi), zl6]) (st1 := [.inl 2, .inl ((lo + hi) + 1)]) (M1 := M3) (o2 := [(0 : Int) ≤ ((lo + hi) + 1), (0 : Int) < 2, 6 < 7]) rfl rfl) (fs_oc ⟨by omega, by omega⟩ (fs_oc ⟨by omega, by omega⟩ (fs_oc (by omega) (fs_oc (by omega) (fs_oc (by decide) trivial))))) rfl rfl (Nat.le_of_ble_eq_true rfl) ⟨Or.inr (Nat.le_of_ble_eq_true rfl), Or.inr fs_ob124⟩ (by decide) ?_
        refine fs_m_isSafe (by rw [q3.N]; exact hN) (by omega) (by omega) (fun (V2 : fs_M) (g2 : mm_q M3 V2) (c2 : ec_safe (ec_xt (M3 125) a c (((lo + hi) + 1) / 2))) => ?_) (fun (V2 : fs_M) (g2 : mm_q M3 V2) (c2 : ¬ ec_safe (ec_xt (M3 125) a c (((lo + hi) + 1) / 2))) => ?_)
        · refine fs_r_if (a := 1) (L1 := [some (.inr (.ref 124)), some (.inl a), some (.inl c), some (.inl mx), some (.inl lo), some (.inl hi), some (.inl (((lo + hi) + 1) / 2))]) (st1 := []) (M1 := V2) (ob := []) rfl rfl trivial (fun h => absurd h (by decide : ¬ ((1 : Int) = 0))) (fun _ => ?_)
          refine fs_r_goto (L1 := [some (.inr (.ref 124)), some (.inl a), some (.inl c), some (.inl mx), some (.inl (((lo + hi) + 1) / 2)), some (.inl hi), some (.inl (((lo + hi) + 1) / 2))]) (st1 := []) (M1 := V2) (ob := [4 < 7]) rfl rfl (fs_oc (by decide) trivial) ?_
          refine fs_r_goto (L1 := [some (.inr (.ref 124)), some (.inl a), some (.inl c), some (.inl mx), some (.inl (((lo + hi) + 1) / 2)), some (.inl hi), some (.inl (((lo + hi) + 1) / 2))]) (st1 := []) (M1 := V2) (ob := []) rfl rfl trivial ?_
          exact ih19 ((((lo + hi) + 1) / 2)) (hi) (some (.inl (((lo + hi) + 1) / 2))) V2 (by omega) (q3.tr g2) (by rw [← r0]; rw [q3.N] at c2; first | exact (fs_bsM_t (by omega) c2).symm | exact (fs_bsM_f (by omega) c2).symm) (by omega)
        refine fs_r_if (a := 0) (L1 := [some (.inr (.ref 124)), some (.inl a), some (.inl c), some (.inl mx), some (.inl lo), some (.inl hi), some (.inl (((lo + hi) + 1) / 2))]) (st1 := []) (M1 := V2) (ob := []) rfl rfl trivial (fun _ => ?_) (fun h => absurd (by decide : (0 : Int) = 0) h)
        refine fs_r_nop (L1 := [some (.inr (.ref 124)), some (.inl a), some (.inl c), some (.inl mx), some (.inl lo), some (.inl ((((lo + hi) + 1) / 2) - 1)), some (.inl (((lo + hi) + 1) / 2))]) (st1 := []) (M1 := V2) (ob := [fs_rg ((((lo + hi) + 1) / 2) - 1), 5 < 7]) rfl rfl (fs_oc ⟨by omega, by omega⟩ (fs_oc (by decide) trivial)) ?_
        refine fs_r_goto (L1 := [some (.inr (.ref 124)), some (.inl a), some (.inl c), some (.inl mx), some (.inl lo), some (.inl ((((lo + hi) + 1) / 2) - 1)), some (.inl (((lo + hi) + 1) / 2))]) (st1 := []) (M1 := V2) (ob := []) rfl rfl trivial ?_
        exact ih19 (lo) (((((lo + hi) + 1) / 2) - 1)) (some (.inl (((lo + hi) + 1) / 2))) V2 (by omega) (q3.tr g2) (by rw [← r0]; rw [q3.N] at c2; first | exact (fs_bsM_t (by omega) c2).symm | exact (fs_bsM_f (by omega) c2).symm) (by omega)
    exact loop19 ((((mx) - (0)) : Int) + 1).toNat (0) (mx) (none) V1 (by omega) (g1) (by rw [show (mx - 0).toNat = mx.toNat by omega]) (by omega)
  refine fs_r_if (a := 0) (L1 := [some (.inr (.ref 124)), some (.inl a), some (.inl c), some (.inl mx), none, none, none]) (st1 := []) (M1 := V1) (ob := []) rfl rfl trivial (fun h => absurd h (by decide : ¬ (¬ (0 : Int) = 0))) (fun _ => ?_)
  refine fs_r_iret (a := (-2)) (L1 := [some (.inr (.ref 124)), some (.inl a), some (.inl c), some (.inl mx), none, none, none]) (M1 := V1) (ob := []) rfl rfl trivial (Or.inl rfl) ?_
  exact fs_qi (by unfold rq_great; rw [if_neg c1]) (hq0 _ g1)

noncomputable def rq_capFor (N : Int → Int) (a : Int) : Int := if 0 ≤ a ∧ a < N 0 then rq_great N a 1 360 else -1
noncomputable def rq_shockFor (N : Int → Int) (a : Int) : Int := if 0 ≤ a ∧ a < N 0 then rq_great N a 0 200 else -1
theorem fs_m_capFor {d : Nat} {M : fs_M} {Q : Option fs_V → fs_M → Prop} {a : Int}  (hI : fs_NI (M 125)) (hq0 : ∀ (M2 : fs_M), (mm_q M M2) → Q (some (.inl (rq_capFor (M 125) a))) M2) : fs_W (d + 11) 266 0 [some (.inr (.ref 124)), some (.inl a)] [] M Q := by
  refine fs_r_call (sta := false) (idx := 224) (as := [.inr (.ref 124), .inl a]) (rest := []) (L1 := [some (.inr (.ref 124)), some (.inl a)]) (st1 := [.inl a, .inr (.ref 124)]) (M1 := M) (ob := []) rfl rfl rfl trivial rfl rfl (Nat.le_of_ble_eq_true rfl) ⟨Or.inr (Nat.le_of_ble_eq_true rfl), Or.inr fs_ob124⟩ (by decide) ?_
  refine fs_m_isAsset (by assumption) (fun (f1 : 0 ≤ a ∧ a < M 125 0) => ?_) (fun (f2 : ¬ (0 ≤ a ∧ a < M 125 0)) => ?_)
  · refine fs_r_if (a := 1) (L1 := [some (.inr (.ref 124)), some (.inl a)]) (st1 := []) (M1 := M) (ob := []) rfl rfl trivial (fun h => absurd h (by decide : ¬ ((1 : Int) = 0))) (fun _ => ?_)
    refine fs_r_call (sta := false) (idx := 335) (as := [.inr (.ref 124), .inl a, .inl 1, .inl 360]) (rest := []) (L1 := [some (.inr (.ref 124)), some (.inl a)]) (st1 := [.inl 360, .inl 1, .inl a, .inr (.ref 124)]) (M1 := M) (ob := []) rfl rfl rfl trivial rfl rfl (Nat.le_of_ble_eq_true rfl) ⟨Or.inr (Nat.le_of_ble_eq_true rfl), Or.inr fs_ob124⟩ (by decide) ?_
    refine fs_m_greatestFor (by assumption) (by omega) (by omega) (fun (V1 : fs_M) (g1 : mm_q M V1) => ?_)
    refine fs_r_goto (L1 := [some (.inr (.ref 124)), some (.inl a)]) (st1 := [.inl (rq_great (M 125) a 1 360)]) (M1 := V1) (ob := []) rfl rfl trivial ?_
    refine fs_r_iret (a := (rq_great (M 125) a 1 360)) (L1 := [some (.inr (.ref 124)), some (.inl a)]) (M1 := V1) (ob := []) rfl rfl trivial (Or.inl rfl) ?_
    first
      | exact fs_qi (by unfold rq_capFor; rw [if_pos (by assumption)]) (hq0 _ g1)
      | exact fs_qi (by unfold rq_capFor; rw [if_neg (by assumption)]) (hq0 _ mm_q.rf)
  refine fs_r_if (a := 0) (L1 := [some (.inr (.ref 124)), some (.inl a)]) (st1 := []) (M1 := M) (ob := []) rfl rfl trivial (fun _ => ?_) (fun h => absurd (by decide : (0 : Int) = 0) h)
  refine fs_r_nop (L1 := [some (.inr (.ref 124)), some (.inl a)]) (st1 := [.inl (-1)]) (M1 := M) (ob := []) rfl rfl trivial ?_
  refine fs_r_iret (a := (-1)) (L1 := [some (.inr (.ref 124)), some (.inl a)]) (M1 := M) (ob := []) rfl rfl trivial (Or.inl rfl) ?_
  first
    | exact fs_qi (by unfold rq_capFor; rw [if_pos (by assumption)]) (hq0 _ g1)
    | exact fs_qi (by unfold rq_capFor; rw [if_neg (by assumption)]) (hq0 _ mm_q.rf)

theorem fs_m_shockFor {d : Nat} {M : fs_M} {Q : Option fs_V → fs_M → Prop} {a : Int}  (hI : fs_NI (M 125)) (hq0 : ∀ (M2 : fs_M), (mm_q M M2) → Q (some (.inl (rq_shockFor (M 125) a))) M2) : fs_W (d + 11) 267 0 [some (.inr (.ref 124)), some (.inl a)] [] M Q := by
  refine fs_r_call (sta := false) (idx := 224) (as := [.inr (.ref 124), .inl a]) (rest := []) (L1 := [some (.inr (.ref 124)), some (.inl a)]) (st1 := [.inl a, .inr (.ref 124)]) (M1 := M) (ob := []) rfl rfl rfl trivial rfl rfl (Nat.le_of_ble_eq_true rfl) ⟨Or.inr (Nat.le_of_ble_eq_true rfl), Or.inr fs_ob124⟩ (by decide) ?_
  refine fs_m_isAsset (by assumption) (fun (f1 : 0 ≤ a ∧ a < M 125 0) => ?_) (fun (f2 : ¬ (0 ≤ a ∧ a < M 125 0)) => ?_)
  · refine fs_r_if (a := 1) (L1 := [some (.inr (.ref 124)), some (.inl a)]) (st1 := []) (M1 := M) (ob := []) rfl rfl trivial (fun h => absurd h (by decide : ¬ ((1 : Int) = 0))) (fun _ => ?_)
    refine fs_r_call (sta := false) (idx := 335) (as := [.inr (.ref 124), .inl a, .inl 0, .inl 200]) (rest := []) (L1 := [some (.inr (.ref 124)), some (.inl a)]) (st1 := [.inl 200, .inl 0, .inl a, .inr (.ref 124)]) (M1 := M) (ob := []) rfl rfl rfl trivial rfl rfl (Nat.le_of_ble_eq_true rfl) ⟨Or.inr (Nat.le_of_ble_eq_true rfl), Or.inr fs_ob124⟩ (by decide) ?_
    refine fs_m_greatestFor (by assumption) (by omega) (by omega) (fun (V1 : fs_M) (g1 : mm_q M V1) => ?_)
    refine fs_r_goto (L1 := [some (.inr (.ref 124)), some (.inl a)]) (st1 := [.inl (rq_great (M 125) a 0 200)]) (M1 := V1) (ob := []) rfl rfl trivial ?_
    refine fs_r_iret (a := (rq_great (M 125) a 0 200)) (L1 := [some (.inr (.ref 124)), some (.inl a)]) (M1 := V1) (ob := []) rfl rfl trivial (Or.inl rfl) ?_
    first
      | exact fs_qi (by unfold rq_shockFor; rw [if_pos (by assumption)]) (hq0 _ g1)
      | exact fs_qi (by unfold rq_shockFor; rw [if_neg (by assumption)]) (hq0 _ mm_q.rf)
  refine fs_r_if (a := 0) (L1 := [some (.inr (.ref 124)), some (.inl a)]) (st1 := []) (M1 := M) (ob := []) rfl rfl trivial (fun _ => ?_) (fun h => absurd (by decide : (0 : Int) = 0) h)
  refine fs_r_nop (L1 := [some (.inr (.ref 124)), some (.inl a)]) (st1 := [.inl (-1)]) (M1 := M) (ob := []) rfl rfl trivial ?_
  refine fs_r_iret (a := (-1)) (L1 := [some (.inr (.ref 124)), some (.inl a)]) (M1 := M) (ob := []) rfl rfl trivial (Or.inl rfl) ?_
  first
    | exact fs_qi (by unfold rq_shockFor; rw [if_pos (by assumption)]) (hq0 _ g1)
    | exact fs_qi (by unfold rq_shockFor; rw [if_neg (by assumption)]) (hq0 _ mm_q.rf)

theorem fs_m_fewest {d : Nat} {M : fs_M} {Q : Option fs_V → fs_M → Prop}   (hI : fs_NI (M 125)) (hq0 : ∀ (M2 : fs_M), (mm_q M M2) → Q (some (.inl (rq_fewest (M 125)))) M2) : fs_W (d + 9) 274 0 [some (.inr (.ref 124)), none, none] [] M Q := by
  have hN := hI
  refine fs_r_call (sta := false) (idx := 252) (as := [.inr (.ref 124)]) (rest := []) (L1 := [some (.inr (.ref 124)), none, none]) (st1 := [.inr (.ref 124)]) (M1 := M) (ob := []) rfl rfl rfl trivial rfl rfl (Nat.le_of_ble_eq_true rfl) ⟨Or.inr (Nat.le_of_ble_eq_true rfl), Or.inr fs_ob124⟩ (by decide) ?_
  refine fs_m_plain (fun (P1 : fs_M) (pp : mm_P M P1) => ?_)
  have v0 := mm_V.P pp
  have i0 := v0.I hN (by omega) (by omega) (by omega) (by omega) (by omega)
  refine fs_r_call (sta := false) (idx := 321) (as := [.inr (.ref 124)]) (rest := []) (L1 := [some (.inr (.ref 124)), none, none]) (st1 := [.inr (.ref 124)]) (M1 := P1) (ob := []) rfl rfl rfl trivial rfl rfl (Nat.le_of_ble_eq_true rfl) ⟨Or.inr (Nat.le_of_ble_eq_true rfl), Or.inr fs_ob124⟩ (by decide) ?_
  refine fs_m_noneFalls (i0) (fun (V1 : fs_M) (g1 : mm_f3 P1 V1) (c1 : ec_safe (mm_E P1)) => ?_) (fun (V1 : fs_M) (g1 : mm_f3 P1 V1) (c1 : ¬ ec_safe (mm_E P1)) => ?_)
  · refine fs_r_if (a := 1) (L1 := [some (.inr (.ref 124)), none, none]) (st1 := []) (M1 := V1) (ob := []) rfl rfl trivial (fun _ => ?_) (fun h => absurd (by decide : ¬ (1 : Int) = 0) h)
    refine fs_r_nop (L1 := [some (.inr (.ref 124)), some (.inl 0), some (.inl 100)]) (st1 := []) (M1 := V1) (ob := [1 < 3, 2 < 3]) rfl rfl (fs_oc (by decide) (fs_oc (by decide) trivial)) ?_
    have loop19 : ∀ (n19 : Nat) (lo : Int) (hi : Int) (M3 : fs_M), (0 ≤ lo ∧ lo ≤ hi ∧ hi ≤ 100) → (∃ p, (0 ≤ p ∧ p ≤ 100) ∧ mm_V M M3 (-1) 360 0 (-1) 0 p 0) → (fs_bsL (fun v => ec_safe (ec_w (M 125) (-1) 360 0 (-1) 0 v 0)) (hi - lo).toNat lo hi = fs_bsL (fun v => ec_safe (ec_w (M 125) (-1) 360 0 (-1) 0 v 0)) 100 0 100) → hi - lo < (n19 : Int) → fs_W (d + 9) 274 19 [some (.inr (.ref 124)), some (.inl lo), some (.inl hi)] [] M3 Q := by
      intro n19
      induction n19 with
      | zero =>
        intro lo hi M3 i1 v3 r0 hm19
        exfalso
        omega
      | succ n19 ih19 =>
        intro lo hi M3 i1 v3 r0 hm19
        obtain ⟨p3, hp3, v3⟩ := v3
        refine fs_r_icmp (a := lo) (y := hi) (L1 := [some (.inr (.ref 124)), some (.inl lo), some (.inl hi)]) (st1 := []) (M1 := M3) (ob := []) rfl rfl trivial (fun (h1 : hi ≤ lo) => ?_) (fun (h1 : ¬ (hi ≤ lo)) => ?_)
        · refine fs_r_iret (a := lo) (L1 := [some (.inr (.ref 124)), some (.inl lo), some (.inl hi)]) (M1 := M3) (ob := []) rfl rfl trivial (Or.inl rfl) ?_
          exact fs_qi (by unfold rq_fewest; rw [if_pos ((v0.safe hN i0).mp c1), ← r0, show (hi - lo).toNat = 0 by omega]; rfl) (hq0 _ v3.q)
        have v4 : mm_V M (fs_up M3 124 24 ((lo + hi) / 2)) (-1) 360 0 (-1) 0 ((lo + hi) / 2) 0 := (v3.u (i := 24) (v := (lo + hi) / 2) (by omega)).to rfl rfl rfl rfl rfl rfl rfl
        have i4 := v4.I hN (by omega) (by omega) (by omega) (by omega) (by omega)
        refine fs_r_call (sta := false) (idx := 321) (as := [.inr (.ref 124)]) (rest := []) (L1 := [some (.inr (.ref 124)), some (.inl lo), some (.inl hi)]) (st1 := [.inr (.ref 124)]) (M1 := (fs_up M3 124 24 ((lo + hi) / 2))) (ob := [fs_rg (lo + hi), (0 : Int) ≤ (lo + hi), (0 : Int) < 2, 124 < fs_N ∧ fs_kd 124 = 6]) rfl rfl (fs_exA 6 (o1 := [fs_rg (lo + hi), (0 : Int) ≤ (lo + hi), (0 : Int) < 2]) (L1 := [some (.inr (.ref 124)), some (.inl lo), some (.inl hi)]) (st1 := [.inl ((lo + hi) / 2), .inr (.ref 124)]) (M1 := M3) (o2 := [124 < fs_N ∧ fs_kd 124 = 6]) rfl rfl) (fs_oc ⟨by omega, by omega⟩ (fs_oc (by omega) (fs_oc (by omega) (fs_oc fs_ob124 trivial)))) rfl rfl (Nat.le_of_ble_eq_true rfl) ⟨Or.inr (Nat.le_of_ble_eq_true rfl), Or.inr fs_ob124⟩ (by decide) ?_
        refine fs_m_noneFalls (i4) (fun (V2 : fs_M) (g2 : mm_f3 (fs_up M3 124 24 ((lo + hi) / 2)) V2) (c2 : ec_safe (mm_E (fs_up M3 124 24 ((lo + hi) / 2)))) => ?_) (fun (V2 : fs_M) (g2 : mm_f3 (fs_up M3 124 24 ((lo + hi) / 2)) V2) (c2 : ¬ ec_safe (mm_E (fs_up M3 124 24 ((lo + hi) / 2)))) => ?_)
        · refine fs_r_if (a := 1) (L1 := [some (.inr (.ref 124)), some (.inl lo), some (.inl hi)]) (st1 := []) (M1 := V2) (ob := []) rfl rfl trivial (fun h => absurd h (by decide : ¬ ((1 : Int) = 0))) (fun _ => ?_)
          have w24 : V2 124 24 = (lo + hi) / 2 := by rw [g2.2 24 (by decide) (by decide) (by decide), fs_up_at, if_pos rfl]
          have v5 := v4.f3 g2
          refine fs_r_goto (L1 := [some (.inr (.ref 124)), some (.inl lo), some (.inl (V2 124 24))]) (st1 := []) (M1 := V2) (ob := [124 < fs_N ∧ fs_kd 124 = 6, 2 < 3]) rfl rfl (fs_oc fs_ob124 (fs_oc (by decide) trivial)) ?_
          exact ih19 (lo) ((V2 124 24)) V2 (by omega) (⟨_, by omega, v5⟩) (by rw [← r0, w24]; first | exact (fs_bsL_t (by omega) ((v4.safe hN i4).mp c2)).symm | exact (fs_bsL_f (by omega) (fun z => c2 ((v4.safe hN i4).mpr z))).symm) (by omega)
        refine fs_r_if (a := 0) (L1 := [some (.inr (.ref 124)), some (.inl lo), some (.inl hi)]) (st1 := []) (M1 := V2) (ob := []) rfl rfl trivial (fun _ => ?_) (fun h => absurd (by decide : (0 : Int) = 0) h)
        have w24 : V2 124 24 = (lo + hi) / 2 := by rw [g2.2 24 (by decide) (by decide) (by decide), fs_up_at, if_pos rfl]
        have v5 := v4.f3 g2
        refine fs_r_goto (L1 := [some (.inr (.ref 124)), some (.inl ((V2 124 24) + 1)), some (.inl hi)]) (st1 := []) (M1 := V2) (ob := [124 < fs_N ∧ fs_kd 124 = 6, fs_rg ((V2 124 24) + 1), 1 < 3]) rfl rfl (fs_oc fs_ob124 (fs_oc ⟨by omega, by omega⟩ (fs_oc (by decide) trivial))) ?_
        exact ih19 (((V2 124 24) + 1)) (hi) V2 (by omega) (⟨_, by omega, v5⟩) (by rw [← r0, w24]; first | exact (fs_bsL_t (by omega) ((v4.safe hN i4).mp c2)).symm | exact (fs_bsL_f (by omega) (fun z => c2 ((v4.safe hN i4).mpr z))).symm) (by omega)
    exact loop19 ((((100) - (0)) : Int) + 1).toNat (0) (100) V1 (by omega) (⟨100, by omega, v0.f3 g1⟩) (rfl) (by omega)
  refine fs_r_if (a := 0) (L1 := [some (.inr (.ref 124)), none, none]) (st1 := []) (M1 := V1) (ob := []) rfl rfl trivial (fun h => absurd h (by decide : ¬ (¬ (0 : Int) = 0))) (fun _ => ?_)
  refine fs_r_iret (a := (-2)) (L1 := [some (.inr (.ref 124)), none, none]) (M1 := V1) (ob := []) rfl rfl trivial (Or.inl rfl) ?_
  exact fs_qi (by unfold rq_fewest; rw [if_neg (fun z => c1 ((v0.safe hN i0).mpr z))]) (hq0 _ (v0.f3 g1).q)

noncomputable def rq_room (N : Int → Int) (h : Int) : Int := @ite _ (0 ≤ h ∧ h < N 1) (Classical.propDecidable _) (@ite _ (ec_safe (ec_pl N)) (Classical.propDecidable _) (fs_bsM (fun v => ec_safe (ec_giv (ec_pl N) h (-v))) (N (10 + 5 * h + 0)).toNat 0 (N (10 + 5 * h + 0))) (-2)) (-1)
theorem mm_PC.f3 {M P V : fs_M} {h : Int} (k : mm_PC M P h) (f : mm_f3 P V) : mm_PC M V h := by
  refine ⟨f.I k.1, k.2.1.tr (mm_q.f3 f), fun u u0 u1 => ?_⟩
  have e := mm_E_of f (q := h) (c := u)
  exact ⟨by rw [e.1]; exact (k.2.2 u u0 u1).1, e.2 (k.2.2 u u0 u1).2⟩
theorem fs_m_room {d : Nat} {M : fs_M} {Q : Option fs_V → fs_M → Prop} {h : Int}  (hI : fs_NI (M 125)) (hq0 : ∀ (M2 : fs_M), (mm_q M M2) → Q (some (.inl (rq_room (M 125) h))) M2) : fs_W (d + 9) 272 0 [some (.inr (.ref 124)), some (.inl h), none, none, none] [] M Q := by
  have hN := hI
  refine fs_r_call (sta := false) (idx := 237) (as := [.inr (.ref 124), .inl h]) (rest := []) (L1 := [some (.inr (.ref 124)), some (.inl h), none, none, none]) (st1 := [.inl h, .inr (.ref 124)]) (M1 := M) (ob := []) rfl rfl rfl trivial rfl rfl (Nat.le_of_ble_eq_true rfl) ⟨Or.inr (Nat.le_of_ble_eq_true rfl), Or.inr fs_ob124⟩ (by decide) ?_
  refine fs_m_isHouse (by assumption) (fun (f1 : 0 ≤ h ∧ h < M 125 1) => ?_) (fun (f2 : ¬ (0 ≤ h ∧ h < M 125 1)) => ?_)
  · refine fs_r_if (a := 1) (L1 := [some (.inr (.ref 124)), some (.inl h), none, none, none]) (st1 := []) (M1 := M) (ob := []) rfl rfl trivial (fun _ => ?_) (fun h => absurd (by decide : ¬ (1 : Int) = 0) h)
    refine fs_r_call (sta := false) (idx := 252) (as := [.inr (.ref 124)]) (rest := []) (L1 := [some (.inr (.ref 124)), some (.inl h), none, none, none]) (st1 := [.inr (.ref 124)]) (M1 := M) (ob := []) rfl rfl rfl trivial rfl rfl (Nat.le_of_ble_eq_true rfl) ⟨Or.inr (Nat.le_of_ble_eq_true rfl), Or.inr fs_ob124⟩ (by decide) ?_
    refine fs_m_plain (fun (P1 : fs_M) (pp : mm_P M P1) => ?_)
    have hb := hN.2.1.2
    have hw := hN.2.2.2.1 h 0 (by omega) (by omega) (by omega) (by omega)
    have k0 := mm_PC.of hN pp (h := h) (by omega)
    have s0 := (pp.eq hN).safe (pp.I hN).1.2.1.1 (mm_okc (pp.I hN))
    refine fs_r_call (sta := false) (idx := 321) (as := [.inr (.ref 124)]) (rest := []) (L1 := [some (.inr (.ref 124)), some (.inl h), none, none, none]) (st1 := [.inr (.ref 124)]) (M1 := P1) (ob := []) rfl rfl rfl trivial rfl rfl (Nat.le_of_ble_eq_true rfl) ⟨Or.inr (Nat.le_of_ble_eq_true rfl), Or.inr fs_ob124⟩ (by decide) ?_
    refine fs_m_noneFalls (pp.I hN) (fun (V1 : fs_M) (g1 : mm_f3 P1 V1) (c1 : ec_safe (mm_E P1)) => ?_) (fun (V1 : fs_M) (g1 : mm_f3 P1 V1) (c1 : ¬ ec_safe (mm_E P1)) => ?_)
    · refine fs_r_if (a := 1) (L1 := [some (.inr (.ref 124)), some (.inl h), none, none, none]) (st1 := []) (M1 := V1) (ob := []) rfl rfl trivial (fun _ => ?_) (fun h => absurd (by decide : ¬ (1 : Int) = 0) h)
      skip
      refine fs_r_call (sta := false) (idx := 175) (as := [.inr (.ref 124), .inl h, .inl 0]) (rest := []) (L1 := [some (.inr (.ref 124)), some (.inl h), some (.inl 0), none, none]) (st1 := [.inl 0, .inl h, .inr (.ref 124)]) (M1 := V1) (ob := [2 < 5]) rfl rfl rfl (fs_oc (by decide) trivial) rfl rfl (Nat.le_of_ble_eq_true rfl) ⟨Or.inr (Nat.le_of_ble_eq_true rfl), Or.inr fs_ob124⟩ (by decide) ?_
      refine fs_m_houseOf (by omega) (by omega) ?_
      have n1 : V1 125 = M 125 := by rw [g1.N, pp.N]
      refine fs_r_nop (L1 := [some (.inr (.ref 124)), some (.inl h), some (.inl 0), some (.inl (V1 125 (10 + 5 * h + 0))), none]) (st1 := []) (M1 := V1) (ob := [3 < 5]) rfl rfl (fs_oc (by decide) trivial) ?_
      have loop33 : ∀ (n33 : Nat) (lo : Int) (hi : Int) (zl4 : Option fs_V) (M3 : fs_M), (0 ≤ lo ∧ lo ≤ hi ∧ hi ≤ 9999) → (mm_PC M M3 h) → (fs_bsM (fun v => ec_safe (ec_giv (ec_pl (M 125)) h (-v))) (hi - lo).toNat lo hi = fs_bsM (fun v => ec_safe (ec_giv (ec_pl (M 125)) h (-v))) (M 125 (10 + 5 * h + 0)).toNat 0 (M 125 (10 + 5 * h + 0))) → hi - lo < (n33 : Int) → fs_W (d + 9) 272 33 [some (.inr (.ref 124)), some (.inl h), some (.inl lo), some (.inl hi), zl4] [] M3 Q := by
        intro n33
        induction n33 with
        | zero =>
          intro lo hi zl4 M3 i0 k2 r0 hm33
          exfalso
          omega
        | succ n33 ih33 =>
          intro lo hi zl4 M3 i0 k2 r0 hm33
          refine fs_r_icmp (a := lo) (y := hi) (L1 := [some (.inr (.ref 124)), some (.inl h), some (.inl lo), some (.inl hi), zl4]) (st1 := []) (M1 := M3) (ob := []) rfl rfl trivial (fun (h3 : hi ≤ lo) => ?_) (fun (h3 : ¬ (hi ≤ lo)) => ?_)
          · refine fs_r_iret (a := lo) (L1 := [some (.inr (.ref 124)), some (.inl h), some (.inl lo), some (.inl hi), zl4]) (M1 := M3) (ob := []) rfl rfl trivial (Or.inl rfl) ?_
            exact fs_qi (by unfold rq_room; rw [if_pos (by assumption), if_pos (s0.mp c1), ← r0, show (hi - lo).toNat = 0 by omega]; rfl) (hq0 _ k2.2.1)
          refine fs_r_call (sta := false) (idx := 321) (as := [.inr (.ref 124)]) (rest := []) (L1 := [some (.inr (.ref 124)), some (.inl h), some (.inl lo), some (.inl hi), some (.inl (((lo + hi) + 1) / 2))]) (st1 := [.inr (.ref 124)]) (M1 := (fs_up M3 131 h (-(((lo + hi) + 1) / 2)))) (ob := [fs_rg (lo + hi), fs_rg ((lo + hi) + 1), (0 : Int) ≤ ((lo + hi) + 1), (0 : Int) < 2, 4 < 5, 124 < fs_N ∧ fs_kd 124 = 6, fs_rg (-(((lo + hi) + 1) / 2)), (131 < fs_N ∧ fs_kd 131 = 100) ∧ (0 : Int) ≤ h ∧ h < fs_ln 131]) rfl rfl (fs_exA 6 (o1 := [fs_rg (lo + hi), fs_rg ((lo + hi) + 1)]) (L1 := [some (.inr (.ref 124)), some (.inl h), some (.inl lo), some (.inl hi), zl4]) (st1 := [.inl 2, .inl ((lo + hi) + 1)]) (M1 := M3) (o2 := [(0 : Int) ≤ ((lo + hi) + 1), (0 : Int) < 2, 4 < 5, 124 < fs_N ∧ fs_kd 124 = 6, fs_rg (-(((lo + hi) + 1) / 2)), (131 < fs_N ∧ fs_kd 131 = 100) ∧ (0 : Int) ≤ h ∧ h < fs_ln 131]) rfl (fs_exA 6 (o1 := [(0 : Int) ≤ ((lo + hi) + 1), (0 : Int) < 2, 4 < 5, 124 < fs_N ∧ fs_kd 124 = 6]) (L1 := [some (.inr (.ref 124)), some (.inl h), some (.inl lo), some (.inl hi), some (.inl (((lo + hi) + 1) / 2))]) (st1 := [.inl (((lo + hi) + 1) / 2), .inl h, .inr (.ref 131)]) (M1 := M3) (o2 := [fs_rg (-(((lo + hi) + 1) / 2)), (131 < fs_N ∧ fs_kd 131 = 100) ∧ (0 : Int) ≤ h ∧ h < fs_ln 131]) rfl rfl)) (fs_oc ⟨by omega, by omega⟩ (fs_oc ⟨by omega, by omega⟩ (fs_oc (by omega) (fs_oc (by omega) (fs_oc (by decide) (fs_oc fs_ob124 (fs_oc ⟨by omega, by omega⟩ (fs_oc (fs_ar131 (by omega) (by omega)) trivial)))))))) rfl rfl (Nat.le_of_ble_eq_true rfl) ⟨Or.inr (Nat.le_of_ble_eq_true rfl), Or.inr fs_ob124⟩ (by decide) ?_
          refine fs_m_noneFalls ((k2.2.2 _ (by omega) (by omega)).2) (fun (V2 : fs_M) (g2 : mm_f3 (fs_up M3 131 h (-(((lo + hi) + 1) / 2))) V2) (c2 : ec_safe (mm_E (fs_up M3 131 h (-(((lo + hi) + 1) / 2))))) => ?_) (fun (V2 : fs_M) (g2 : mm_f3 (fs_up M3 131 h (-(((lo + hi) + 1) / 2))) V2) (c2 : ¬ ec_safe (mm_E (fs_up M3 131 h (-(((lo + hi) + 1) / 2))))) => ?_)
          · refine fs_r_if (a := 1) (L1 := [some (.inr (.ref 124)), some (.inl h), some (.inl lo), some (.inl hi), some (.inl (((lo + hi) + 1) / 2))]) (st1 := []) (M1 := V2) (ob := []) rfl rfl trivial (fun h => absurd h (by decide : ¬ ((1 : Int) = 0))) (fun _ => ?_)
            refine fs_r_goto (L1 := [some (.inr (.ref 124)), some (.inl h), some (.inl (((lo + hi) + 1) / 2)), some (.inl hi), some (.inl (((lo + hi) + 1) / 2))]) (st1 := []) (M1 := V2) (ob := [2 < 5]) rfl rfl (fs_oc (by decide) trivial) ?_
            refine fs_r_goto (L1 := [some (.inr (.ref 124)), some (.inl h), some (.inl (((lo + hi) + 1) / 2)), some (.inl hi), some (.inl (((lo + hi) + 1) / 2))]) (st1 := []) (M1 := V2) (ob := []) rfl rfl trivial ?_
            exact ih33 ((((lo + hi) + 1) / 2)) (hi) (some (.inl (((lo + hi) + 1) / 2))) V2 (by omega) (k2.go (by omega) (by omega) g2) (by rw [← r0]; first | exact (fs_bsM_t (by omega) ((k2.safe hN (by omega) (by omega)).mp c2)).symm | exact (fs_bsM_f (by omega) (fun z => c2 ((k2.safe hN (by omega) (by omega)).mpr z))).symm) (by omega)
          refine fs_r_if (a := 0) (L1 := [some (.inr (.ref 124)), some (.inl h), some (.inl lo), some (.inl hi), some (.inl (((lo + hi) + 1) / 2))]) (st1 := []) (M1 := V2) (ob := []) rfl rfl trivial (fun _ => ?_) (fun h => absurd (by decide : (0 : Int) = 0) h)
          refine fs_r_nop (L1 := [some (.inr (.ref 124)), some (.inl h), some (.inl lo), some (.inl ((((lo + hi) + 1) / 2) - 1)), some (.inl (((lo + hi) + 1) / 2))]) (st1 := []) (M1 := V2) (ob := [fs_rg ((((lo + hi) + 1) / 2) - 1), 3 < 5]) rfl rfl (fs_oc ⟨by omega, by omega⟩ (fs_oc (by decide) trivial)) ?_
          refine fs_r_goto (L1 := [some (.inr (.ref 124)), some (.inl h), some (.inl lo), some (.inl ((((lo + hi) + 1) / 2) - 1)), some (.inl (((lo + hi) + 1) / 2))]) (st1 := []) (M1 := V2) (ob := []) rfl rfl trivial ?_
          exact ih33 (lo) (((((lo + hi) + 1) / 2) - 1)) (some (.inl (((lo + hi) + 1) / 2))) V2 (by omega) (k2.go (by omega) (by omega) g2) (by rw [← r0]; first | exact (fs_bsM_t (by omega) ((k2.safe hN (by omega) (by omega)).mp c2)).symm | exact (fs_bsM_f (by omega) (fun z => c2 ((k2.safe hN (by omega) (by omega)).mpr z))).symm) (by omega)
      exact loop33 (((((V1 125 (10 + 5 * h + 0))) - (0)) : Int) + 1).toNat (0) ((V1 125 (10 + 5 * h + 0))) (none) V1 (by rw [n1]; omega) (k0.f3 g1) (by rw [n1, Int.sub_zero]) (by rw [n1]; omega)
    refine fs_r_if (a := 0) (L1 := [some (.inr (.ref 124)), some (.inl h), none, none, none]) (st1 := []) (M1 := V1) (ob := []) rfl rfl trivial (fun h => absurd h (by decide : ¬ (¬ (0 : Int) = 0))) (fun _ => ?_)
    refine fs_r_iret (a := (-2)) (L1 := [some (.inr (.ref 124)), some (.inl h), none, none, none]) (M1 := V1) (ob := []) rfl rfl trivial (Or.inl rfl) ?_
    exact fs_qi (by unfold rq_room; rw [if_pos (by assumption), if_neg (fun z => c1 (s0.mpr z))]) (hq0 _ ((mm_q.P pp).tr (mm_q.f3 g1)))
  refine fs_r_if (a := 0) (L1 := [some (.inr (.ref 124)), some (.inl h), none, none, none]) (st1 := []) (M1 := M) (ob := []) rfl rfl trivial (fun h => absurd h (by decide : ¬ (¬ (0 : Int) = 0))) (fun _ => ?_)
  refine fs_r_iret (a := (-1)) (L1 := [some (.inr (.ref 124)), some (.inl h), none, none, none]) (M1 := M) (ob := []) rfl rfl trivial (Or.inl rfl) ?_
  exact fs_qi (by unfold rq_room; rw [if_neg (by assumption)]) (hq0 _ mm_q.rf)

noncomputable def kk_c (N : Int → Int) (h : Int) : Int := fs_pop (ec_lst (ec_fo N (fs_shl 1 h)) 4)
noncomputable def kk_m (N : Int → Int) : Nat → Int
  | 0 => 0
  | n + 1 => if kk_m N n < kk_c N n then kk_c N n else kk_m N n
noncomputable def kk_b (N : Int → Int) : Nat → Int
  | 0 => -2
  | n + 1 => if kk_m N n < kk_c N n then n else kk_b N n
theorem kk_s {N : Int → Int} {h : Int} (h0 : 0 ≤ h) : kk_m N (h + 1).toNat = (if kk_m N h.toNat < kk_c N h then kk_c N h else kk_m N h.toNat) ∧ kk_b N (h + 1).toNat = (if kk_m N h.toNat < kk_c N h then h else kk_b N h.toNat) := by
  obtain ⟨n, rfl⟩ := Int.eq_ofNat_of_zero_le h0
  exact ⟨rfl, rfl⟩
noncomputable def rq_keystone (N : Int → Int) : Int := kk_b N (N 1).toNat
theorem fs_m_keystone {d : Nat} {M : fs_M} {Q : Option fs_V → fs_M → Prop}   (hI : fs_NI (M 125)) (hq0 : ∀ (M2 : fs_M), (mm_q M M2) → Q (some (.inl (rq_keystone (M 125)))) M2) : fs_W (d + 9) 270 0 [some (.inr (.ref 124)), none, none, none] [] M Q := by
  have hN := hI
  have hb := hN.2.1
  refine fs_r_nop (L1 := [some (.inr (.ref 124)), some (.inl (-2)), some (.inl 0), some (.inl 0)]) (st1 := []) (M1 := M) (ob := [1 < 4, 2 < 4, 3 < 4]) rfl rfl (fs_oc (by decide) (fs_oc (by decide) (fs_oc (by decide) trivial))) ?_
  have loop7 : ∀ (n7 : Nat) (b : Int) (m : Int) (h : Int) (M3 : fs_M), (0 ≤ h ∧ h ≤ M 125 1) → (mm_q M M3) → (b = kk_b (M 125) h.toNat) → (m = kk_m (M 125) h.toNat) → M 125 1 - h < (n7 : Int) → fs_W (d + 9) 270 7 [some (.inr (.ref 124)), some (.inl b), some (.inl m), some (.inl h)] [] M3 Q := by
    intro n7
    induction n7 with
    | zero =>
      intro b m h M3 i0 q3 b0 m0 hm7
      exfalso
      omega
    | succ n7 ih7 =>
      intro b m h M3 i0 q3 b0 m0 hm7
      have n0 := congrFun q3.N 1
      refine fs_r_icmp (a := h) (y := (M3 125 1)) (L1 := [some (.inr (.ref 124)), some (.inl b), some (.inl m), some (.inl h)]) (st1 := []) (M1 := M3) (ob := [124 < fs_N ∧ fs_kd 124 = 6, (125 < fs_N ∧ fs_kd 125 = 100) ∧ (0 : Int) ≤ 1 ∧ 1 < fs_ln 125]) rfl rfl (fs_oc fs_ob124 (fs_oc (fs_ar125 (by omega) (by omega)) trivial)) (fun (h1 : (M3 125 1) ≤ h) => ?_) (fun (h1 : ¬ ((M3 125 1) ≤ h)) => ?_)
      · refine fs_r_iret (a := b) (L1 := [some (.inr (.ref 124)), some (.inl b), some (.inl m), some (.inl h)]) (M1 := M3) (ob := []) rfl rfl trivial (Or.inl rfl) ?_
        exact fs_qi (by unfold rq_keystone; rw [b0, show h = M 125 1 by omega]) (hq0 _ q3)
      skip
      refine fs_r_call (sta := false) (idx := 339) (as := [.inr (.ref 124), .inl h]) (rest := []) (L1 := [some (.inr (.ref 124)), some (.inl b), some (.inl m), some (.inl h)]) (st1 := [.inl h, .inr (.ref 124)]) (M1 := M3) (ob := []) rfl rfl rfl trivial rfl rfl (Nat.le_of_ble_eq_true rfl) ⟨Or.inr (Nat.le_of_ble_eq_true rfl), Or.inr fs_ob124⟩ (by decide) ?_
      refine fs_m_leastWith (by rw [q3.N]; exact hN) (by omega) (fun (V1 : fs_M) (v1 : mm_V M3 V1 (-1) 360 0 (-1) 0 100 (fs_shl 1 h)) (I1 : mm_I V1) (g3 : mm_J V1) (s1 : mm_st V1 = ec_lst (ec_fo (M3 125) (fs_shl 1 h))) => ?_)
      have n2 := v1.q.N.trans (q3.N)
      have jc : V1 124 15 = ec_lst (ec_fo (M 125) (fs_shl 1 h)) 4 := by rw [← mm_st_4 (M := V1), s1, q3.N]
      have ks := kk_s (N := M 125) (h := h) (by omega)
      have kc : fs_pop (V1 124 15) = kk_c (M 125) h := by rw [jc]; rfl
      have qq := q3.tr v1.q
      have jj := g3.1
      refine fs_r_call (sta := true) (idx := 231) (as := [.inl (V1 124 15)]) (rest := []) (L1 := [some (.inr (.ref 124)), some (.inl b), some (.inl m), some (.inl h)]) (st1 := [.inl (V1 124 15)]) (M1 := V1) (ob := [124 < fs_N ∧ fs_kd 124 = 6]) rfl rfl rfl (fs_oc fs_ob124 trivial) rfl rfl (Nat.le_of_ble_eq_true rfl) ⟨Or.inr (Nat.le_of_ble_eq_true rfl), trivial⟩ (by decide) ?_
      refine fs_m_bits (by omega) ?_
      refine fs_r_icmp (a := (fs_pop (V1 124 15))) (y := m) (L1 := [some (.inr (.ref 124)), some (.inl b), some (.inl m), some (.inl h)]) (st1 := []) (M1 := V1) (ob := []) rfl rfl trivial (fun (h2 : (fs_pop (V1 124 15)) ≤ m) => ?_) (fun (h2 : ¬ ((fs_pop (V1 124 15)) ≤ m)) => ?_)
      · refine fs_r_goto (L1 := [some (.inr (.ref 124)), some (.inl b), some (.inl m), some (.inl (h + 1))]) (st1 := []) (M1 := V1) (ob := [fs_rg (h + 1)]) rfl rfl (fs_oc ⟨by omega, by omega⟩ trivial) ?_
        exact ih7 (b) (m) ((h + 1)) V1 (by omega) (qq) (by rw [ks.2, ← m0, ← kc, ← b0]; first | (rw [if_pos (by omega)]) | (rw [if_neg (by omega)])) (by rw [ks.1, ← m0, ← kc]; first | (rw [if_pos (by omega)]) | (rw [if_neg (by omega)])) (by omega)
      refine fs_r_call (sta := true) (idx := 231) (as := [.inl (V1 124 15)]) (rest := []) (L1 := [some (.inr (.ref 124)), some (.inl h), some (.inl m), some (.inl h)]) (st1 := [.inl (V1 124 15)]) (M1 := V1) (ob := [1 < 4, 124 < fs_N ∧ fs_kd 124 = 6]) rfl rfl rfl (fs_oc (by decide) (fs_oc fs_ob124 trivial)) rfl rfl (Nat.le_of_ble_eq_true rfl) ⟨Or.inr (Nat.le_of_ble_eq_true rfl), trivial⟩ (by decide) ?_
      refine fs_m_bits (by omega) ?_
      refine fs_r_nop (L1 := [some (.inr (.ref 124)), some (.inl h), some (.inl (fs_pop (V1 124 15))), some (.inl h)]) (st1 := []) (M1 := V1) (ob := [2 < 4]) rfl rfl (fs_oc (by decide) trivial) ?_
      refine fs_r_goto (L1 := [some (.inr (.ref 124)), some (.inl h), some (.inl (fs_pop (V1 124 15))), some (.inl (h + 1))]) (st1 := []) (M1 := V1) (ob := [fs_rg (h + 1)]) rfl rfl (fs_oc ⟨by omega, by omega⟩ trivial) ?_
      exact ih7 (h) ((fs_pop (V1 124 15))) ((h + 1)) V1 (by omega) (qq) (by rw [ks.2, ← m0, ← kc, ← b0]; first | (rw [if_pos (by omega)]) | (rw [if_neg (by omega)])) (by rw [ks.1, ← m0, ← kc]; first | (rw [if_pos (by omega)]) | (rw [if_neg (by omega)])) (by omega)
  exact loop7 (((M 125 1 - (0)) : Int) + 1).toNat ((-2)) (0) (0) M (by omega) (mm_q.rf) (rfl) (rfl) (by omega)

noncomputable def rq_next (N : Int → Int) (x y f w : Int) : Int := if mm_ask N w then @ite _ (mm_isst N x y f) (Classical.propDecidable _) (ec_tell (ec_pl N) (ec_next (ec_pl N) (ec_told x y f)) w) (-2) else -1
noncomputable def rq_isSteady (N : Int → Int) (x y f : Int) : Int := @ite _ (mm_isst N x y f) (Classical.propDecidable _) (@ite _ (ec_next (ec_pl N) (ec_told x y f) = ec_told x y f) (Classical.propDecidable _) 1 0) (-2)
theorem fs_m_next {d : Nat} {M : fs_M} {Q : Option fs_V → fs_M → Prop} {x : Int} {y : Int} {f : Int} {w : Int}  (hI : fs_NI (M 125)) (hx : fs_rg x ∧ fs_rg y) (hq0 : ∀ (M2 : fs_M), (mm_q M M2) → Q (some (.inl (rq_next (M 125) x y f w))) M2) : fs_W (d + 6) 243 0 [some (.inr (.ref 124)), some (.inl x), some (.inl y), some (.inl f), some (.inl w), none] [] M Q := by
  have hN := hI
  refine fs_r_call (sta := false) (idx := 267) (as := [.inr (.ref 124), .inl w]) (rest := []) (L1 := [some (.inr (.ref 124)), some (.inl x), some (.inl y), some (.inl f), some (.inl w), none]) (st1 := [.inl w, .inr (.ref 124)]) (M1 := M) (ob := []) rfl rfl rfl trivial rfl rfl (Nat.le_of_ble_eq_true rfl) ⟨Or.inr (Nat.le_of_ble_eq_true rfl), Or.inr fs_ob124⟩ (by decide) ?_
  refine fs_m_isAsked (by assumption) (fun (f1 : mm_ask (M 125) w) => ?_) (fun (f2 : ¬ (mm_ask (M 125) w)) => ?_)
  · refine fs_r_if (a := 1) (L1 := [some (.inr (.ref 124)), some (.inl x), some (.inl y), some (.inl f), some (.inl w), none]) (st1 := []) (M1 := M) (ob := []) rfl rfl trivial (fun _ => ?_) (fun h => absurd (by decide : ¬ (1 : Int) = 0) h)
    refine fs_r_call (sta := false) (idx := 280) (as := [.inr (.ref 124), .inl x, .inl y, .inl f]) (rest := []) (L1 := [some (.inr (.ref 124)), some (.inl x), some (.inl y), some (.inl f), some (.inl w), none]) (st1 := [.inl f, .inl y, .inl x, .inr (.ref 124)]) (M1 := M) (ob := []) rfl rfl rfl trivial rfl rfl (Nat.le_of_ble_eq_true rfl) ⟨Or.inr (Nat.le_of_ble_eq_true rfl), Or.inr fs_ob124⟩ (by decide) ?_
    refine fs_m_isLaid (by assumption) (hx) (fun (V1 : fs_M) (c1 : mm_isst (M 125) x y f) (q1 : mm_q M V1) (I1 : mm_I V1) (j1 : mm_J V1) (z1 : mm_Z V1) (e1 : ec_eq (mm_E V1) (ec_pl (M 125))) (s1 : mm_st V1 = ec_told x y f) => ?_) (fun (V1 : fs_M) (c1 : ¬ mm_isst (M 125) x y f) (q1 : mm_q M V1) => ?_)
    · refine fs_r_if (a := 1) (L1 := [some (.inr (.ref 124)), some (.inl x), some (.inl y), some (.inl f), some (.inl w), none]) (st1 := []) (M1 := V1) (ob := []) rfl rfl trivial (fun _ => ?_) (fun h => absurd (by decide : ¬ (1 : Int) = 0) h)
      refine fs_r_call (sta := false) (idx := 211) (as := [.inr (.ref 124)]) (rest := []) (L1 := [some (.inr (.ref 124)), some (.inl x), some (.inl y), some (.inl f), some (.inl w), none]) (st1 := [.inr (.ref 124)]) (M1 := V1) (ob := []) rfl rfl rfl trivial rfl rfl (Nat.le_of_ble_eq_true rfl) ⟨Or.inr (Nat.le_of_ble_eq_true rfl), Or.inr fs_ob124⟩ (by decide) ?_
      refine fs_m_goesOn (I1) (j1) (z1) (fun (V2 : fs_M) (f2 : mm_f2 V1 V2) (s2 : mm_st V2 = ec_next (mm_E V1) (mm_st V1)) (j2 : mm_J V2) (z2 : mm_Z V2) (c2 : ¬ mm_st V2 = mm_st V1) => ?_) (fun (V2 : fs_M) (f2 : mm_f2 V1 V2) (s2 : mm_st V2 = ec_next (mm_E V1) (mm_st V1)) (j2 : mm_J V2) (z2 : mm_Z V2) (c2 : mm_st V2 = mm_st V1) => ?_)
      · refine fs_r_call (sta := false) (idx := 258) (as := [.inr (.ref 124), .inl w]) (rest := []) (L1 := [some (.inr (.ref 124)), some (.inl x), some (.inl y), some (.inl f), some (.inl w), some (.inl 1)]) (st1 := [.inl w, .inr (.ref 124)]) (M1 := V2) (ob := [5 < 6]) rfl rfl rfl (fs_oc (by decide) trivial) rfl rfl (Nat.le_of_ble_eq_true rfl) ⟨Or.inr (Nat.le_of_ble_eq_true rfl), Or.inr fs_ob124⟩ (by decide) ?_
        refine fs_m_told (f2.I I1) (j2) (by rw [f2.N, q1.N]; assumption) ?_
        refine fs_r_iret (a := (ec_tell (mm_E V2) (mm_st V2) w)) (L1 := [some (.inr (.ref 124)), some (.inl x), some (.inl y), some (.inl f), some (.inl w), some (.inl 1)]) (M1 := V2) (ob := []) rfl rfl trivial (Or.inl rfl) ?_
        exact fs_qi (by unfold rq_next; rw [if_pos (by assumption), if_pos c1, f2.E, e1.tell, s2, e1.next I1.1.2.1.1, s1]) (hq0 _ (q1.tr (mm_q.f2 f2)))
      refine fs_r_call (sta := false) (idx := 258) (as := [.inr (.ref 124), .inl w]) (rest := []) (L1 := [some (.inr (.ref 124)), some (.inl x), some (.inl y), some (.inl f), some (.inl w), some (.inl 0)]) (st1 := [.inl w, .inr (.ref 124)]) (M1 := V2) (ob := [5 < 6]) rfl rfl rfl (fs_oc (by decide) trivial) rfl rfl (Nat.le_of_ble_eq_true rfl) ⟨Or.inr (Nat.le_of_ble_eq_true rfl), Or.inr fs_ob124⟩ (by decide) ?_
      refine fs_m_told (f2.I I1) (j2) (by rw [f2.N, q1.N]; assumption) ?_
      refine fs_r_iret (a := (ec_tell (mm_E V2) (mm_st V2) w)) (L1 := [some (.inr (.ref 124)), some (.inl x), some (.inl y), some (.inl f), some (.inl w), some (.inl 0)]) (M1 := V2) (ob := []) rfl rfl trivial (Or.inl rfl) ?_
      exact fs_qi (by unfold rq_next; rw [if_pos (by assumption), if_pos c1, f2.E, e1.tell, s2, e1.next I1.1.2.1.1, s1]) (hq0 _ (q1.tr (mm_q.f2 f2)))
    refine fs_r_if (a := 0) (L1 := [some (.inr (.ref 124)), some (.inl x), some (.inl y), some (.inl f), some (.inl w), none]) (st1 := []) (M1 := V1) (ob := []) rfl rfl trivial (fun h => absurd h (by decide : ¬ (¬ (0 : Int) = 0))) (fun _ => ?_)
    refine fs_r_iret (a := (-2)) (L1 := [some (.inr (.ref 124)), some (.inl x), some (.inl y), some (.inl f), some (.inl w), none]) (M1 := V1) (ob := []) rfl rfl trivial (Or.inl rfl) ?_
    exact fs_qi (by unfold rq_next; rw [if_pos (by assumption), if_neg c1]) (hq0 _ q1)
  refine fs_r_if (a := 0) (L1 := [some (.inr (.ref 124)), some (.inl x), some (.inl y), some (.inl f), some (.inl w), none]) (st1 := []) (M1 := M) (ob := []) rfl rfl trivial (fun h => absurd h (by decide : ¬ (¬ (0 : Int) = 0))) (fun _ => ?_)
  refine fs_r_iret (a := (-1)) (L1 := [some (.inr (.ref 124)), some (.inl x), some (.inl y), some (.inl f), some (.inl w), none]) (M1 := M) (ob := []) rfl rfl trivial (Or.inl rfl) ?_
  exact fs_qi (by unfold rq_next; rw [if_neg (by assumption)]) (hq0 _ mm_q.rf)

theorem fs_m_isSteady {d : Nat} {M : fs_M} {Q : Option fs_V → fs_M → Prop} {x : Int} {y : Int} {f : Int}  (hI : fs_NI (M 125)) (hx : fs_rg x ∧ fs_rg y) (hq0 : ∀ (M2 : fs_M), (mm_q M M2) → Q (some (.inl (rq_isSteady (M 125) x y f))) M2) : fs_W (d + 6) 244 0 [some (.inr (.ref 124)), some (.inl x), some (.inl y), some (.inl f)] [] M Q := by
  have hN := hI
  refine fs_r_call (sta := false) (idx := 280) (as := [.inr (.ref 124), .inl x, .inl y, .inl f]) (rest := []) (L1 := [some (.inr (.ref 124)), some (.inl x), some (.inl y), some (.inl f)]) (st1 := [.inl f, .inl y, .inl x, .inr (.ref 124)]) (M1 := M) (ob := []) rfl rfl rfl trivial rfl rfl (Nat.le_of_ble_eq_true rfl) ⟨Or.inr (Nat.le_of_ble_eq_true rfl), Or.inr fs_ob124⟩ (by decide) ?_
  refine fs_m_isLaid (by assumption) (hx) (fun (V1 : fs_M) (c1 : mm_isst (M 125) x y f) (q1 : mm_q M V1) (I1 : mm_I V1) (j1 : mm_J V1) (z1 : mm_Z V1) (e1 : ec_eq (mm_E V1) (ec_pl (M 125))) (s1 : mm_st V1 = ec_told x y f) => ?_) (fun (V1 : fs_M) (c1 : ¬ mm_isst (M 125) x y f) (q1 : mm_q M V1) => ?_)
  · refine fs_r_if (a := 1) (L1 := [some (.inr (.ref 124)), some (.inl x), some (.inl y), some (.inl f)]) (st1 := []) (M1 := V1) (ob := []) rfl rfl trivial (fun _ => ?_) (fun h => absurd (by decide : ¬ (1 : Int) = 0) h)
    refine fs_r_call (sta := false) (idx := 211) (as := [.inr (.ref 124)]) (rest := []) (L1 := [some (.inr (.ref 124)), some (.inl x), some (.inl y), some (.inl f)]) (st1 := [.inr (.ref 124)]) (M1 := V1) (ob := []) rfl rfl rfl trivial rfl rfl (Nat.le_of_ble_eq_true rfl) ⟨Or.inr (Nat.le_of_ble_eq_true rfl), Or.inr fs_ob124⟩ (by decide) ?_
    refine fs_m_goesOn (I1) (j1) (z1) (fun (V2 : fs_M) (f2 : mm_f2 V1 V2) (s2 : mm_st V2 = ec_next (mm_E V1) (mm_st V1)) (j2 : mm_J V2) (z2 : mm_Z V2) (c2 : ¬ mm_st V2 = mm_st V1) => ?_) (fun (V2 : fs_M) (f2 : mm_f2 V1 V2) (s2 : mm_st V2 = ec_next (mm_E V1) (mm_st V1)) (j2 : mm_J V2) (z2 : mm_Z V2) (c2 : mm_st V2 = mm_st V1) => ?_)
    · refine fs_r_if (a := 1) (L1 := [some (.inr (.ref 124)), some (.inl x), some (.inl y), some (.inl f)]) (st1 := []) (M1 := V2) (ob := []) rfl rfl trivial (fun h => absurd h (by decide : ¬ ((1 : Int) = 0))) (fun _ => ?_)
      refine fs_r_goto (L1 := [some (.inr (.ref 124)), some (.inl x), some (.inl y), some (.inl f)]) (st1 := [.inl 0]) (M1 := V2) (ob := []) rfl rfl trivial ?_
      refine fs_r_iret (a := 0) (L1 := [some (.inr (.ref 124)), some (.inl x), some (.inl y), some (.inl f)]) (M1 := V2) (ob := []) rfl rfl trivial (Or.inl rfl) ?_
      rw [s2, e1.next I1.1.2.1.1, s1] at c2
      first
        | exact fs_qi (by unfold rq_isSteady; rw [if_pos c1, if_pos c2]) (hq0 _ (q1.tr (mm_q.f2 f2)))
        | exact fs_qi (by unfold rq_isSteady; rw [if_pos c1, if_neg c2]) (hq0 _ (q1.tr (mm_q.f2 f2)))
    refine fs_r_if (a := 0) (L1 := [some (.inr (.ref 124)), some (.inl x), some (.inl y), some (.inl f)]) (st1 := []) (M1 := V2) (ob := []) rfl rfl trivial (fun _ => ?_) (fun h => absurd (by decide : (0 : Int) = 0) h)
    refine fs_r_nop (L1 := [some (.inr (.ref 124)), some (.inl x), some (.inl y), some (.inl f)]) (st1 := [.inl 1]) (M1 := V2) (ob := []) rfl rfl trivial ?_
    refine fs_r_iret (a := 1) (L1 := [some (.inr (.ref 124)), some (.inl x), some (.inl y), some (.inl f)]) (M1 := V2) (ob := []) rfl rfl trivial (Or.inl rfl) ?_
    rw [s2, e1.next I1.1.2.1.1, s1] at c2
    first
      | exact fs_qi (by unfold rq_isSteady; rw [if_pos c1, if_pos c2]) (hq0 _ (q1.tr (mm_q.f2 f2)))
      | exact fs_qi (by unfold rq_isSteady; rw [if_pos c1, if_neg c2]) (hq0 _ (q1.tr (mm_q.f2 f2)))
  refine fs_r_if (a := 0) (L1 := [some (.inr (.ref 124)), some (.inl x), some (.inl y), some (.inl f)]) (st1 := []) (M1 := V1) (ob := []) rfl rfl trivial (fun h => absurd h (by decide : ¬ (¬ (0 : Int) = 0))) (fun _ => ?_)
  refine fs_r_iret (a := (-2)) (L1 := [some (.inr (.ref 124)), some (.inl x), some (.inl y), some (.inl f)]) (M1 := V1) (ob := []) rfl rfl trivial (Or.inl rfl) ?_
  exact fs_qi (by unfold rq_isSteady; rw [if_neg c1]) (hq0 _ q1)
