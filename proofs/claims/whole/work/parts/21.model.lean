theorem fs_m_laidOf {d : Nat} {M : fs_M} {Q : Option fs_V → fs_M → Prop} {s : Int} {k : Int} {w : Int}  (hs : 0 ≤ s ∧ s < 3) (hk : 0 ≤ k ∧ k < 4) (hw : 0 ≤ w ∧ w < 3) (hq0 : Q (some (.inl (M 125 (100 + 13 * s + 1 + 3 * k + w)))) M) : fs_W (d) 186 0 [some (.inr (.ref 124)), some (.inl s), some (.inl k), some (.inl w)] [] M Q := by
  refine fs_r_iret (a := (M 125 ((((100 + (13 * s)) + 1) + (3 * k)) + w))) (L1 := [some (.inr (.ref 124)), some (.inl s), some (.inl k), some (.inl w)]) (M1 := M) (ob := [124 < fs_N ∧ fs_kd 124 = 6, fs_rg (13 * s), fs_rg (100 + (13 * s)), fs_rg ((100 + (13 * s)) + 1), fs_rg (3 * k), fs_rg (((100 + (13 * s)) + 1) + (3 * k)), fs_rg ((((100 + (13 * s)) + 1) + (3 * k)) + w), (125 < fs_N ∧ fs_kd 125 = 100) ∧ (0 : Int) ≤ ((((100 + (13 * s)) + 1) + (3 * k)) + w) ∧ ((((100 + (13 * s)) + 1) + (3 * k)) + w) < fs_ln 125]) rfl (fs_exA 6 (o1 := [124 < fs_N ∧ fs_kd 124 = 6, fs_rg (13 * s)]) (L1 := [some (.inr (.ref 124)), some (.inl s), some (.inl k), some (.inl w)]) (st1 := [.inl (13 * s), .inl 100, .inr (.ref 125)]) (M1 := M) (o2 := [fs_rg (100 + (13 * s)), fs_rg ((100 + (13 * s)) + 1), fs_rg (3 * k), fs_rg (((100 + (13 * s)) + 1) + (3 * k)), fs_rg ((((100 + (13 * s)) + 1) + (3 * k)) + w), (125 < fs_N ∧ fs_kd 125 = 100) ∧ (0 : Int) ≤ ((((100 + (13 * s)) + 1) + (3 * k)) + w) ∧ ((((100 + (13 * s)) + 1) + (3 * k)) + w) < fs_ln 125]) rfl (fs_exA 6 (o1 := [fs_rg (100 + (13 * s)), fs_rg ((100 + (13 * s)) + 1), fs_rg (3 * k)]) (L1 := [some (.inr (.ref 124)), some (.inl s), some (.inl k), some (.inl w)]) (st1 := [.inl (3 * k), .inl ((100 + (13 * s)) + 1), .inr (.ref 125)]) (M1 := M) (o2 := [fs_rg (((100 + (13 * s)) + 1) + (3 * k)), fs_rg ((((100 + (13 * s)) + 1) + (3 * k)) + w), (125 < fs_N ∧ fs_kd 125 = 100) ∧ (0 : Int) ≤ ((((100 + (13 * s)) + 1) + (3 * k)) + w) ∧ ((((100 + (13 * s)) + 1) + (3 * k)) + w) < fs_ln 125]) rfl rfl)) (fs_oc fs_ob124 (fs_oc ⟨by omega, by omega⟩ (fs_oc ⟨by omega, by omega⟩ (fs_oc ⟨by omega, by omega⟩ (fs_oc ⟨by omega, by omega⟩ (fs_oc ⟨by omega, by omega⟩ (fs_oc ⟨by omega, by omega⟩ (fs_oc (fs_ar125 (by omega) (by omega)) trivial)))))))) (Or.inl rfl) ?_
  exact fs_qi (by omega) hq0

theorem fs_m_capNow {d : Nat} {M : fs_M} {Q : Option fs_V → fs_M → Prop} {a : Int}  (hI : fs_NI (M 125)) (hq0 : Q (some (.inl (mm_cap (M 125) a))) M) : fs_W (d + 1) 187 0 [some (.inr (.ref 124)), some (.inl a), none, none, none] [] M Q := by
  obtain ⟨⟨hA0, hA1⟩, ⟨hH0, hH1⟩, hcv, hfc, hhd, hln, hsh, hit, hst⟩ := id hI
  refine fs_r_nop (L1 := [some (.inr (.ref 124)), some (.inl a), some (.inl 360), some (.inl 0), none]) (st1 := []) (M1 := M) (ob := [2 < 5, 3 < 5]) rfl rfl (fs_oc (by decide) (fs_oc (by decide) trivial)) ?_
  have loop6 : ∀ (n6 : Nat) (c : Int) (s : Int) (zl4 : Option fs_V), (0 ≤ s ∧ s ≤ 3) → (c = mm_capS (M 125) a s.toNat) → 3 - s < (n6 : Int) → fs_W (d + 1) 187 6 [some (.inr (.ref 124)), some (.inl a), some (.inl c), some (.inl s), zl4] [] M Q := by
    intro n6
    induction n6 with
    | zero =>
      intro c s zl4 i0 i1 hm6
      exfalso
      omega
    | succ n6 ih6 =>
      intro c s zl4 i0 i1 hm6
      refine fs_r_icmp (a := s) (y := 3) (L1 := [some (.inr (.ref 124)), some (.inl a), some (.inl c), some (.inl s), zl4]) (st1 := []) (M1 := M) (ob := []) rfl rfl trivial (fun (h1 : 3 ≤ s) => ?_) (fun (h1 : ¬ (3 ≤ s)) => ?_)
      · refine fs_r_iret (a := c) (L1 := [some (.inr (.ref 124)), some (.inl a), some (.inl c), some (.inl s), zl4]) (M1 := M) (ob := []) rfl rfl trivial (Or.inl rfl) ?_
        exact fs_qi (by unfold mm_cap; rw [i1, show s = 3 by omega]; rfl) hq0
      refine fs_r_nop (L1 := [some (.inr (.ref 124)), some (.inl a), some (.inl c), some (.inl s), some (.inl 0)]) (st1 := []) (M1 := M) (ob := [4 < 5]) rfl rfl (fs_oc (by decide) trivial) ?_
      have loop14 : ∀ (n14 : Nat) (cc : Int) (k : Int), (0 ≤ k ∧ k ≤ M 125 (100 + 13 * s)) → (cc = mm_cap1 (M 125) a s k.toNat c) → M 125 (100 + 13 * s) - k < (n14 : Int) → fs_W (d + 1) 187 14 [some (.inr (.ref 124)), some (.inl a), some (.inl cc), some (.inl s), some (.inl k)] [] M Q := by
        intro n14
        induction n14 with
        | zero =>
          intro cc k j0 j1 hm14
          exfalso
          have q := hsh s (by omega) (by omega)
          omega
        | succ n14 ih14 =>
          intro cc k j0 j1 hm14
          have q := hsh s (by omega) (by omega)
          have q := hsh s (by omega) (by omega)
          refine fs_r_icmp (a := k) (y := (M 125 (100 + (13 * s)))) (L1 := [some (.inr (.ref 124)), some (.inl a), some (.inl cc), some (.inl s), some (.inl k)]) (st1 := []) (M1 := M) (ob := [124 < fs_N ∧ fs_kd 124 = 6, fs_rg (13 * s), fs_rg (100 + (13 * s)), (125 < fs_N ∧ fs_kd 125 = 100) ∧ (0 : Int) ≤ (100 + (13 * s)) ∧ (100 + (13 * s)) < fs_ln 125]) rfl (fs_exA 6 (o1 := [124 < fs_N ∧ fs_kd 124 = 6]) (L1 := [some (.inr (.ref 124)), some (.inl a), some (.inl cc), some (.inl s), some (.inl k)]) (st1 := [.inl s, .inl 13, .inl 100, .inr (.ref 125), .inl k]) (M1 := M) (o2 := [fs_rg (13 * s), fs_rg (100 + (13 * s)), (125 < fs_N ∧ fs_kd 125 = 100) ∧ (0 : Int) ≤ (100 + (13 * s)) ∧ (100 + (13 * s)) < fs_ln 125]) rfl rfl) (fs_oc fs_ob124 (fs_oc ⟨by omega, by omega⟩ (fs_oc ⟨by omega, by omega⟩ (fs_oc (fs_ar125 (by omega) (by omega)) trivial)))) (fun (h2 : (M 125 (100 + (13 * s))) ≤ k) => ?_) (fun (h2 : ¬ ((M 125 (100 + (13 * s))) ≤ k)) => ?_)
          · refine fs_r_goto (L1 := [some (.inr (.ref 124)), some (.inl a), some (.inl cc), some (.inl (s + 1)), some (.inl k)]) (st1 := []) (M1 := M) (ob := [fs_rg (s + 1)]) rfl rfl (fs_oc ⟨by omega, by omega⟩ trivial) ?_
            exact ih6 (cc) ((s + 1)) (some (.inl k)) (by omega) (by rw [mm_capS_s i0.1, j1, show k = M 125 (100 + 13 * s) by omega, i1]) (by omega)
          refine fs_r_call (sta := false) (idx := 155) (as := [.inr (.ref 124), .inl s, .inl k, .inl 0]) (rest := []) (L1 := [some (.inr (.ref 124)), some (.inl a), some (.inl cc), some (.inl s), some (.inl k)]) (st1 := [.inl 0, .inl k, .inl s, .inr (.ref 124)]) (M1 := M) (ob := []) rfl rfl rfl trivial rfl rfl (Nat.le_of_ble_eq_true rfl) ⟨Or.inr (Nat.le_of_ble_eq_true rfl), Or.inr fs_ob124⟩ (by decide) ?_
          refine fs_m_laidOf (by omega) (by omega) (by omega) ?_
          refine fs_r_if (a := (M 125 (100 + 13 * s + 1 + 3 * k + 0))) (L1 := [some (.inr (.ref 124)), some (.inl a), some (.inl cc), some (.inl s), some (.inl k)]) (st1 := []) (M1 := M) (ob := []) rfl rfl trivial (fun (h3 : ¬ (M 125 (100 + 13 * s + 1 + 3 * k + 0)) = 0) => ?_) (fun (h3 : ¬ (¬ (M 125 (100 + 13 * s + 1 + 3 * k + 0)) = 0)) => ?_)
          · refine fs_r_goto (L1 := [some (.inr (.ref 124)), some (.inl a), some (.inl cc), some (.inl s), some (.inl (k + 1))]) (st1 := []) (M1 := M) (ob := [fs_rg (k + 1)]) rfl rfl (fs_oc ⟨by omega, by omega⟩ trivial) ?_
            exact ih14 (cc) ((k + 1)) (by omega) (by rw [mm_cap1_s j0.1, ← j1]; split <;> omega) (by omega)
          refine fs_r_call (sta := false) (idx := 155) (as := [.inr (.ref 124), .inl s, .inl k, .inl 1]) (rest := []) (L1 := [some (.inr (.ref 124)), some (.inl a), some (.inl cc), some (.inl s), some (.inl k)]) (st1 := [.inl 1, .inl k, .inl s, .inr (.ref 124)]) (M1 := M) (ob := []) rfl rfl rfl trivial rfl rfl (Nat.le_of_ble_eq_true rfl) ⟨Or.inr (Nat.le_of_ble_eq_true rfl), Or.inr fs_ob124⟩ (by decide) ?_
          refine fs_m_laidOf (by omega) (by omega) (by omega) ?_
          refine fs_r_icmp (a := (M 125 (100 + 13 * s + 1 + 3 * k + 1))) (y := a) (L1 := [some (.inr (.ref 124)), some (.inl a), some (.inl cc), some (.inl s), some (.inl k)]) (st1 := []) (M1 := M) (ob := []) rfl rfl trivial (fun (h4 : ¬ (M 125 (100 + 13 * s + 1 + 3 * k + 1)) = a) => ?_) (fun (h4 : ¬ (¬ (M 125 (100 + 13 * s + 1 + 3 * k + 1)) = a)) => ?_)
          · refine fs_r_goto (L1 := [some (.inr (.ref 124)), some (.inl a), some (.inl cc), some (.inl s), some (.inl (k + 1))]) (st1 := []) (M1 := M) (ob := [fs_rg (k + 1)]) rfl rfl (fs_oc ⟨by omega, by omega⟩ trivial) ?_
            exact ih14 (cc) ((k + 1)) (by omega) (by rw [mm_cap1_s j0.1, ← j1]; split <;> omega) (by omega)
          refine fs_r_call (sta := false) (idx := 155) (as := [.inr (.ref 124), .inl s, .inl k, .inl 2]) (rest := []) (L1 := [some (.inr (.ref 124)), some (.inl a), some (.inl cc), some (.inl s), some (.inl k)]) (st1 := [.inl 2, .inl k, .inl s, .inr (.ref 124)]) (M1 := M) (ob := []) rfl rfl rfl trivial rfl rfl (Nat.le_of_ble_eq_true rfl) ⟨Or.inr (Nat.le_of_ble_eq_true rfl), Or.inr fs_ob124⟩ (by decide) ?_
          refine fs_m_laidOf (by omega) (by omega) (by omega) ?_
          refine fs_r_icmp (a := (M 125 (100 + 13 * s + 1 + 3 * k + 2))) (y := cc) (L1 := [some (.inr (.ref 124)), some (.inl a), some (.inl cc), some (.inl s), some (.inl k)]) (st1 := []) (M1 := M) (ob := []) rfl rfl trivial (fun (h5 : cc ≤ (M 125 (100 + 13 * s + 1 + 3 * k + 2))) => ?_) (fun (h5 : ¬ (cc ≤ (M 125 (100 + 13 * s + 1 + 3 * k + 2)))) => ?_)
          · refine fs_r_goto (L1 := [some (.inr (.ref 124)), some (.inl a), some (.inl cc), some (.inl s), some (.inl (k + 1))]) (st1 := []) (M1 := M) (ob := [fs_rg (k + 1)]) rfl rfl (fs_oc ⟨by omega, by omega⟩ trivial) ?_
            exact ih14 (cc) ((k + 1)) (by omega) (by rw [mm_cap1_s j0.1, ← j1]; split <;> omega) (by omega)
          refine fs_r_call (sta := false) (idx := 155) (as := [.inr (.ref 124), .inl s, .inl k, .inl 2]) (rest := []) (L1 := [some (.inr (.ref 124)), some (.inl a), some (.inl cc), some (.inl s), some (.inl k)]) (st1 := [.inl 2, .inl k, .inl s, .inr (.ref 124)]) (M1 := M) (ob := []) rfl rfl rfl trivial rfl rfl (Nat.le_of_ble_eq_true rfl) ⟨Or.inr (Nat.le_of_ble_eq_true rfl), Or.inr fs_ob124⟩ (by decide) ?_
          refine fs_m_laidOf (by omega) (by omega) (by omega) ?_
          refine fs_r_nop (L1 := [some (.inr (.ref 124)), some (.inl a), some (.inl (M 125 (100 + 13 * s + 1 + 3 * k + 2))), some (.inl s), some (.inl k)]) (st1 := []) (M1 := M) (ob := [2 < 5]) rfl rfl (fs_oc (by decide) trivial) ?_
          refine fs_r_goto (L1 := [some (.inr (.ref 124)), some (.inl a), some (.inl (M 125 (100 + 13 * s + 1 + 3 * k + 2))), some (.inl s), some (.inl (k + 1))]) (st1 := []) (M1 := M) (ob := [fs_rg (k + 1)]) rfl rfl (fs_oc ⟨by omega, by omega⟩ trivial) ?_
          exact ih14 ((M 125 (100 + 13 * s + 1 + 3 * k + 2))) ((k + 1)) (by omega) (by rw [mm_cap1_s j0.1, ← j1]; split <;> omega) (by omega)
      exact loop14 (((M 125 (100 + 13 * s) - (0)) : Int) + 1).toNat (c) (0) (by have q := hsh s (by omega) (by omega); omega) (rfl) (by have q := hsh s (by omega) (by omega); omega)
  exact loop6 (((3 - (0)) : Int) + 1).toNat (360) (0) (none) (by omega) (rfl) (by omega)

theorem fs_m_shockNow {d : Nat} {M : fs_M} {Q : Option fs_V → fs_M → Prop} {a : Int}  (hI : fs_NI (M 125)) (hq0 : Q (some (.inl (mm_shock (M 125) a))) M) : fs_W (d + 1) 188 0 [some (.inr (.ref 124)), some (.inl a), none, none, none] [] M Q := by
  obtain ⟨⟨hA0, hA1⟩, ⟨hH0, hH1⟩, hcv, hfc, hhd, hln, hsh, hit, hst⟩ := id hI
  refine fs_r_nop (L1 := [some (.inr (.ref 124)), some (.inl a), some (.inl 0), some (.inl 0), none]) (st1 := []) (M1 := M) (ob := [2 < 5, 3 < 5]) rfl rfl (fs_oc (by decide) (fs_oc (by decide) trivial)) ?_
  have loop4 : ∀ (n4 : Nat) (c : Int) (s : Int) (zl4 : Option fs_V), (0 ≤ s ∧ s ≤ 3) → (c = mm_shS (M 125) a s.toNat) → (0 ≤ c ∧ c ≤ 1440 * s) → 3 - s < (n4 : Int) → fs_W (d + 1) 188 4 [some (.inr (.ref 124)), some (.inl a), some (.inl c), some (.inl s), zl4] [] M Q := by
    intro n4
    induction n4 with
    | zero =>
      intro c s zl4 i0 i1 i2 hm4
      exfalso
      omega
    | succ n4 ih4 =>
      intro c s zl4 i0 i1 i2 hm4
      refine fs_r_icmp (a := s) (y := 3) (L1 := [some (.inr (.ref 124)), some (.inl a), some (.inl c), some (.inl s), zl4]) (st1 := []) (M1 := M) (ob := []) rfl rfl trivial (fun (h1 : 3 ≤ s) => ?_) (fun (h1 : ¬ (3 ≤ s)) => ?_)
      · refine fs_r_iret (a := c) (L1 := [some (.inr (.ref 124)), some (.inl a), some (.inl c), some (.inl s), zl4]) (M1 := M) (ob := []) rfl rfl trivial (Or.inl rfl) ?_
        exact fs_qi (by unfold mm_shock; rw [i1, show s = 3 by omega]; rfl) hq0
      refine fs_r_nop (L1 := [some (.inr (.ref 124)), some (.inl a), some (.inl c), some (.inl s), some (.inl 0)]) (st1 := []) (M1 := M) (ob := [4 < 5]) rfl rfl (fs_oc (by decide) trivial) ?_
      have loop12 : ∀ (n12 : Nat) (cc : Int) (k : Int), (0 ≤ k ∧ k ≤ M 125 (100 + 13 * s)) → (cc = mm_sh1 (M 125) a s k.toNat c) → (c ≤ cc ∧ cc ≤ c + 360 * k) → M 125 (100 + 13 * s) - k < (n12 : Int) → fs_W (d + 1) 188 12 [some (.inr (.ref 124)), some (.inl a), some (.inl cc), some (.inl s), some (.inl k)] [] M Q := by
        intro n12
        induction n12 with
        | zero =>
          intro cc k j0 j1 j2 hm12
          exfalso
          have q := hsh s (by omega) (by omega)
          omega
        | succ n12 ih12 =>
          intro cc k j0 j1 j2 hm12
          have q := hsh s (by omega) (by omega)
          have q2 : k < 4 → _ := fun z => hit s k 2 (by omega) (by omega) (by omega) z (by omega) (by omega)
          have q := hsh s (by omega) (by omega)
          refine fs_r_icmp (a := k) (y := (M 125 (100 + (13 * s)))) (L1 := [some (.inr (.ref 124)), some (.inl a), some (.inl cc), some (.inl s), some (.inl k)]) (st1 := []) (M1 := M) (ob := [124 < fs_N ∧ fs_kd 124 = 6, fs_rg (13 * s), fs_rg (100 + (13 * s)), (125 < fs_N ∧ fs_kd 125 = 100) ∧ (0 : Int) ≤ (100 + (13 * s)) ∧ (100 + (13 * s)) < fs_ln 125]) rfl (fs_exA 6 (o1 := [124 < fs_N ∧ fs_kd 124 = 6]) (L1 := [some (.inr (.ref 124)), some (.inl a), some (.inl cc), some (.inl s), some (.inl k)]) (st1 := [.inl s, .inl 13, .inl 100, .inr (.ref 125), .inl k]) (M1 := M) (o2 := [fs_rg (13 * s), fs_rg (100 + (13 * s)), (125 < fs_N ∧ fs_kd 125 = 100) ∧ (0 : Int) ≤ (100 + (13 * s)) ∧ (100 + (13 * s)) < fs_ln 125]) rfl rfl) (fs_oc fs_ob124 (fs_oc ⟨by omega, by omega⟩ (fs_oc ⟨by omega, by omega⟩ (fs_oc (fs_ar125 (by omega) (by omega)) trivial)))) (fun (h2 : (M 125 (100 + (13 * s))) ≤ k) => ?_) (fun (h2 : ¬ ((M 125 (100 + (13 * s))) ≤ k)) => ?_)
          · refine fs_r_goto (L1 := [some (.inr (.ref 124)), some (.inl a), some (.inl cc), some (.inl (s + 1)), some (.inl k)]) (st1 := []) (M1 := M) (ob := [fs_rg (s + 1)]) rfl rfl (fs_oc ⟨by omega, by omega⟩ trivial) ?_
            exact ih4 (cc) ((s + 1)) (some (.inl k)) (by omega) (by rw [mm_shS_s i0.1, j1, show k = M 125 (100 + 13 * s) by omega, i1]) (by omega) (by omega)
          refine fs_r_call (sta := false) (idx := 155) (as := [.inr (.ref 124), .inl s, .inl k, .inl 0]) (rest := [.inl cc]) (L1 := [some (.inr (.ref 124)), some (.inl a), some (.inl cc), some (.inl s), some (.inl k)]) (st1 := [.inl 0, .inl k, .inl s, .inr (.ref 124), .inl cc]) (M1 := M) (ob := []) rfl rfl rfl trivial rfl rfl (Nat.le_of_ble_eq_true rfl) ⟨Or.inr (Nat.le_of_ble_eq_true rfl), Or.inr fs_ob124⟩ (by decide) ?_
          refine fs_m_laidOf (by omega) (by omega) (by omega) ?_
          refine fs_r_icmp (a := (M 125 (100 + 13 * s + 1 + 3 * k + 0))) (y := 1) (L1 := [some (.inr (.ref 124)), some (.inl a), some (.inl cc), some (.inl s), some (.inl k)]) (st1 := [.inl cc]) (M1 := M) (ob := []) rfl rfl trivial (fun (h3 : ¬ (M 125 (100 + 13 * s + 1 + 3 * k + 0)) = 1) => ?_) (fun (h3 : ¬ (¬ (M 125 (100 + 13 * s + 1 + 3 * k + 0)) = 1)) => ?_)
          · refine fs_r_nop (L1 := [some (.inr (.ref 124)), some (.inl a), some (.inl cc), some (.inl s), some (.inl k)]) (st1 := [.inl 0, .inl cc]) (M1 := M) (ob := []) rfl rfl trivial ?_
            refine fs_r_goto (L1 := [some (.inr (.ref 124)), some (.inl a), some (.inl (cc + 0)), some (.inl s), some (.inl (k + 1))]) (st1 := []) (M1 := M) (ob := [fs_rg (cc + 0), 2 < 5, fs_rg (k + 1)]) rfl rfl (fs_oc ⟨by omega, by omega⟩ (fs_oc (by decide) (fs_oc ⟨by omega, by omega⟩ trivial))) ?_
            exact ih12 ((cc + 0)) ((k + 1)) (by omega) (by rw [mm_sh1_s j0.1, ← j1]; split <;> omega) (by omega) (by omega)
          refine fs_r_call (sta := false) (idx := 155) (as := [.inr (.ref 124), .inl s, .inl k, .inl 1]) (rest := [.inl cc]) (L1 := [some (.inr (.ref 124)), some (.inl a), some (.inl cc), some (.inl s), some (.inl k)]) (st1 := [.inl 1, .inl k, .inl s, .inr (.ref 124), .inl cc]) (M1 := M) (ob := []) rfl rfl rfl trivial rfl rfl (Nat.le_of_ble_eq_true rfl) ⟨Or.inr (Nat.le_of_ble_eq_true rfl), Or.inr fs_ob124⟩ (by decide) ?_
          refine fs_m_laidOf (by omega) (by omega) (by omega) ?_
          refine fs_r_icmp (a := (M 125 (100 + 13 * s + 1 + 3 * k + 1))) (y := a) (L1 := [some (.inr (.ref 124)), some (.inl a), some (.inl cc), some (.inl s), some (.inl k)]) (st1 := [.inl cc]) (M1 := M) (ob := []) rfl rfl trivial (fun (h4 : ¬ (M 125 (100 + 13 * s + 1 + 3 * k + 1)) = a) => ?_) (fun (h4 : ¬ (¬ (M 125 (100 + 13 * s + 1 + 3 * k + 1)) = a)) => ?_)
          · refine fs_r_nop (L1 := [some (.inr (.ref 124)), some (.inl a), some (.inl cc), some (.inl s), some (.inl k)]) (st1 := [.inl 0, .inl cc]) (M1 := M) (ob := []) rfl rfl trivial ?_
            refine fs_r_goto (L1 := [some (.inr (.ref 124)), some (.inl a), some (.inl (cc + 0)), some (.inl s), some (.inl (k + 1))]) (st1 := []) (M1 := M) (ob := [fs_rg (cc + 0), 2 < 5, fs_rg (k + 1)]) rfl rfl (fs_oc ⟨by omega, by omega⟩ (fs_oc (by decide) (fs_oc ⟨by omega, by omega⟩ trivial))) ?_
            exact ih12 ((cc + 0)) ((k + 1)) (by omega) (by rw [mm_sh1_s j0.1, ← j1]; split <;> omega) (by omega) (by omega)
          refine fs_r_call (sta := false) (idx := 155) (as := [.inr (.ref 124), .inl s, .inl k, .inl 2]) (rest := [.inl cc]) (L1 := [some (.inr (.ref 124)), some (.inl a), some (.inl cc), some (.inl s), some (.inl k)]) (st1 := [.inl 2, .inl k, .inl s, .inr (.ref 124), .inl cc]) (M1 := M) (ob := []) rfl rfl rfl trivial rfl rfl (Nat.le_of_ble_eq_true rfl) ⟨Or.inr (Nat.le_of_ble_eq_true rfl), Or.inr fs_ob124⟩ (by decide) ?_
          refine fs_m_laidOf (by omega) (by omega) (by omega) ?_
          refine fs_r_goto (L1 := [some (.inr (.ref 124)), some (.inl a), some (.inl cc), some (.inl s), some (.inl k)]) (st1 := [.inl (M 125 (100 + 13 * s + 1 + 3 * k + 2)), .inl cc]) (M1 := M) (ob := []) rfl rfl trivial ?_
          refine fs_r_goto (L1 := [some (.inr (.ref 124)), some (.inl a), some (.inl (cc + (M 125 (100 + 13 * s + 1 + 3 * k + 2)))), some (.inl s), some (.inl (k + 1))]) (st1 := []) (M1 := M) (ob := [fs_rg (cc + (M 125 (100 + 13 * s + 1 + 3 * k + 2))), 2 < 5, fs_rg (k + 1)]) rfl rfl (fs_oc ⟨by omega, by omega⟩ (fs_oc (by decide) (fs_oc ⟨by omega, by omega⟩ trivial))) ?_
          exact ih12 ((cc + (M 125 (100 + 13 * s + 1 + 3 * k + 2)))) ((k + 1)) (by omega) (by rw [mm_sh1_s j0.1, ← j1]; split <;> omega) (by omega) (by omega)
      exact loop12 (((M 125 (100 + 13 * s) - (0)) : Int) + 1).toNat (c) (0) (by have q := hsh s (by omega) (by omega); omega) (rfl) (by omega) (by have q := hsh s (by omega) (by omega); omega)
  exact loop4 (((3 - (0)) : Int) + 1).toNat (0) (0) (none) (by omega) (rfl) (by omega) (by omega)

theorem fs_m_capOf {d : Nat} {M : fs_M} {Q : Option fs_V → fs_M → Prop} {a : Int}  (hI : mm_I M) (hq0 : Q (some (.inl (mm_E M 3 a))) M) : fs_W (d + 2) 190 0 [some (.inr (.ref 124)), some (.inl a), none] [] M Q := by
  obtain ⟨hN, hco, ⟨hp0, hp1⟩, ⟨hx0, hx1⟩, ⟨hb0, hb1⟩, ⟨hc0, hc1⟩, ⟨hfo0, hfo1⟩⟩ := id hI
  obtain ⟨⟨hA0, hA1⟩, ⟨hH0, hH1⟩, hcv, hfc, hhd, hln, hsh, hit, hst⟩ := id hN
  refine fs_r_call (sta := false) (idx := 168) (as := [.inr (.ref 124), .inl a]) (rest := []) (L1 := [some (.inr (.ref 124)), some (.inl a), none]) (st1 := [.inl a, .inr (.ref 124)]) (M1 := M) (ob := []) rfl rfl rfl trivial rfl rfl (Nat.le_of_ble_eq_true rfl) ⟨Or.inr (Nat.le_of_ble_eq_true rfl), Or.inr fs_ob124⟩ (by decide) ?_
  refine fs_m_capNow (by assumption) ?_
  refine fs_r_icmp (a := a) (y := (M 124 19)) (L1 := [some (.inr (.ref 124)), some (.inl a), some (.inl (mm_cap (M 125) a))]) (st1 := []) (M1 := M) (ob := [2 < 3, 124 < fs_N ∧ fs_kd 124 = 6]) rfl rfl (fs_oc (by decide) (fs_oc fs_ob124 trivial)) (fun (h1 : ¬ a = (M 124 19)) => ?_) (fun (h1 : ¬ (¬ a = (M 124 19))) => ?_)
  · refine fs_r_nop (L1 := [some (.inr (.ref 124)), some (.inl a), some (.inl (mm_cap (M 125) a))]) (st1 := [.inl (mm_cap (M 125) a)]) (M1 := M) (ob := []) rfl rfl trivial ?_
    refine fs_r_iret (a := (mm_cap (M 125) a)) (L1 := [some (.inr (.ref 124)), some (.inl a), some (.inl (mm_cap (M 125) a))]) (M1 := M) (ob := []) rfl rfl trivial (Or.inl rfl) ?_
    exact fs_qi (by show _ = (if a = M 124 19 ∧ M 124 20 < mm_cap (M 125) a then M 124 20 else mm_cap (M 125) a); split <;> omega) hq0
  refine fs_r_icmp (a := (M 124 20)) (y := (mm_cap (M 125) a)) (L1 := [some (.inr (.ref 124)), some (.inl a), some (.inl (mm_cap (M 125) a))]) (st1 := []) (M1 := M) (ob := [124 < fs_N ∧ fs_kd 124 = 6]) rfl rfl (fs_oc fs_ob124 trivial) (fun (h2 : (mm_cap (M 125) a) ≤ (M 124 20)) => ?_) (fun (h2 : ¬ ((mm_cap (M 125) a) ≤ (M 124 20))) => ?_)
  · refine fs_r_nop (L1 := [some (.inr (.ref 124)), some (.inl a), some (.inl (mm_cap (M 125) a))]) (st1 := [.inl (mm_cap (M 125) a)]) (M1 := M) (ob := []) rfl rfl trivial ?_
    refine fs_r_iret (a := (mm_cap (M 125) a)) (L1 := [some (.inr (.ref 124)), some (.inl a), some (.inl (mm_cap (M 125) a))]) (M1 := M) (ob := []) rfl rfl trivial (Or.inl rfl) ?_
    exact fs_qi (by show _ = (if a = M 124 19 ∧ M 124 20 < mm_cap (M 125) a then M 124 20 else mm_cap (M 125) a); split <;> omega) hq0
  refine fs_r_goto (L1 := [some (.inr (.ref 124)), some (.inl a), some (.inl (mm_cap (M 125) a))]) (st1 := [.inl (M 124 20)]) (M1 := M) (ob := [124 < fs_N ∧ fs_kd 124 = 6]) rfl rfl (fs_oc fs_ob124 trivial) ?_
  refine fs_r_iret (a := (M 124 20)) (L1 := [some (.inr (.ref 124)), some (.inl a), some (.inl (mm_cap (M 125) a))]) (M1 := M) (ob := []) rfl rfl trivial (Or.inl rfl) ?_
  exact fs_qi (by show _ = (if a = M 124 19 ∧ M 124 20 < mm_cap (M 125) a then M 124 20 else mm_cap (M 125) a); split <;> omega) hq0

theorem fs_m_priceBy {d : Nat} {M : fs_M} {Q : Option fs_V → fs_M → Prop} {a : Int} {n : Int}  (hI : mm_I M) (ha : 0 ≤ a ∧ a < 4) (hn : 0 ≤ n ∧ n ≤ 400) (hq0 : Q (some (.inl (ec_price (mm_E M) a n))) M) : fs_W (d + 2) 191 0 [some (.inr (.ref 124)), some (.inl a), some (.inl n), none, none, none] [] M Q := by
  obtain ⟨hN, hco, ⟨hp0, hp1⟩, ⟨hx0, hx1⟩, ⟨hb0, hb1⟩, ⟨hc0, hc1⟩, ⟨hfo0, hfo1⟩⟩ := id hI
  obtain ⟨⟨hA0, hA1⟩, ⟨hH0, hH1⟩, hcv, hfc, hhd, hln, hsh, hit, hst⟩ := id hN
  have h1 := (hcv a ha.1 ha.2).1
  have h2 := mm_shock_b (a := a) hN
  have h3 := (hcv a ha.1 ha.2).2
  have h4 : 0 ≤ M 125 (2 + a) * M 124 24 ∧ M 125 (2 + a) * M 124 24 ≤ 200 * 100 := ⟨Int.mul_nonneg h1.1 hp0, Int.mul_le_mul h1.2 hp1 hp0 (by omega)⟩
  have h5 : 0 ≤ M 125 (6 + a) * max 0 (n - mm_E M 4 a) ∧ M 125 (6 + a) * max 0 (n - mm_E M 4 a) ≤ 9 * 400 := by
    have q : 0 ≤ mm_E M 4 a := by show 0 ≤ (if a = M 124 22 then M 124 23 else 0); split <;> omega
    exact ⟨Int.mul_nonneg h3.1 (by omega), Int.mul_le_mul h3.2 (by omega) (by omega) (by omega)⟩
  have e4 : mm_E M 4 a = (if a = M 124 22 then M 124 23 else 0) := rfl
  have join18 : ∀ (cnt : Int), (cnt = n - mm_E M 4 a) → fs_W (d + 2) 191 18 [some (.inr (.ref 124)), some (.inl a), some (.inl n), none, none, none] [.inl cnt] M Q := by
    intro cnt k1
    refine fs_r_call (sta := false) (idx := 172) (as := [.inr (.ref 124), .inl a]) (rest := []) (L1 := [some (.inr (.ref 124)), some (.inl a), some (.inl n), some (.inl cnt), none, none]) (st1 := [.inl a, .inr (.ref 124)]) (M1 := M) (ob := [3 < 6]) rfl rfl rfl (fs_oc (by decide) trivial) rfl rfl (Nat.le_of_ble_eq_true rfl) ⟨Or.inr (Nat.le_of_ble_eq_true rfl), Or.inr fs_ob124⟩ (by decide) ?_
    refine fs_m_shockNow (by assumption) ?_
    have join40 : ∀ (ex : Int), (ex = (if a = M 124 19 then M 124 21 else 0)) → fs_W (d + 2) 191 40 [some (.inr (.ref 124)), some (.inl a), some (.inl n), some (.inl cnt), none, none] [.inl ex, .inl (mm_shock (M 125) a)] M Q := by
      intro ex k2
      have k3 : 0 ≤ ex ∧ ex ≤ 200 := by rw [k2]; split <;> omega
      have join80 : ∀ (cn : Int), (cn = max 0 (n - mm_E M 4 a)) → fs_W (d + 2) 191 80 [some (.inr (.ref 124)), some (.inl a), some (.inl n), some (.inl cnt), some (.inl ((mm_shock (M 125) a) + ex)), none] [.inl cn, .inl (M 125 (6 + a)), .inl ((((M 125 (2 + a)) * (M 124 24)) / 100) - ((mm_shock (M 125) a) + ex))] M Q := by
        intro cn k4
        rw [← k4] at h5
        refine fs_r_if (a := (((((M 125 (2 + a)) * (M 124 24)) / 100) - ((mm_shock (M 125) a) + ex)) - ((M 125 (6 + a)) * cn))) (L1 := [some (.inr (.ref 124)), some (.inl a), some (.inl n), some (.inl cnt), some (.inl ((mm_shock (M 125) a) + ex)), some (.inl (((((M 125 (2 + a)) * (M 124 24)) / 100) - ((mm_shock (M 125) a) + ex)) - ((M 125 (6 + a)) * cn)))]) (st1 := []) (M1 := M) (ob := [fs_rg ((M 125 (6 + a)) * cn), fs_rg (((((M 125 (2 + a)) * (M 124 24)) / 100) - ((mm_shock (M 125) a) + ex)) - ((M 125 (6 + a)) * cn)), 5 < 6]) rfl rfl (fs_oc ⟨by omega, by omega⟩ (fs_oc ⟨by omega, by omega⟩ (fs_oc (by decide) trivial))) (fun (h1 : (((((M 125 (2 + a)) * (M 124 24)) / 100) - ((mm_shock (M 125) a) + ex)) - ((M 125 (6 + a)) * cn)) ≤ 0) => ?_) (fun (h1 : ¬ ((((((M 125 (2 + a)) * (M 124 24)) / 100) - ((mm_shock (M 125) a) + ex)) - ((M 125 (6 + a)) * cn)) ≤ 0)) => ?_)
        · refine fs_r_nop (L1 := [some (.inr (.ref 124)), some (.inl a), some (.inl n), some (.inl cnt), some (.inl ((mm_shock (M 125) a) + ex)), some (.inl (((((M 125 (2 + a)) * (M 124 24)) / 100) - ((mm_shock (M 125) a) + ex)) - ((M 125 (6 + a)) * cn)))]) (st1 := [.inl 0]) (M1 := M) (ob := []) rfl rfl trivial ?_
          refine fs_r_iret (a := 0) (L1 := [some (.inr (.ref 124)), some (.inl a), some (.inl n), some (.inl cnt), some (.inl ((mm_shock (M 125) a) + ex)), some (.inl (((((M 125 (2 + a)) * (M 124 24)) / 100) - ((mm_shock (M 125) a) + ex)) - ((M 125 (6 + a)) * cn)))]) (M1 := M) (ob := []) rfl rfl trivial (Or.inl rfl) ?_
          exact fs_qi (by unfold ec_price; show _ = max 0 ((M 125 (2 + a) * M 124 24 / 100 - (mm_shock (M 125) a + (if a = M 124 19 then M 124 21 else 0))) - M 125 (6 + a) * max 0 (n - mm_E M 4 a)); rw [← k4, ← k2]; omega) hq0
        refine fs_r_goto (L1 := [some (.inr (.ref 124)), some (.inl a), some (.inl n), some (.inl cnt), some (.inl ((mm_shock (M 125) a) + ex)), some (.inl (((((M 125 (2 + a)) * (M 124 24)) / 100) - ((mm_shock (M 125) a) + ex)) - ((M 125 (6 + a)) * cn)))]) (st1 := [.inl (((((M 125 (2 + a)) * (M 124 24)) / 100) - ((mm_shock (M 125) a) + ex)) - ((M 125 (6 + a)) * cn))]) (M1 := M) (ob := []) rfl rfl trivial ?_
        refine fs_r_iret (a := (((((M 125 (2 + a)) * (M 124 24)) / 100) - ((mm_shock (M 125) a) + ex)) - ((M 125 (6 + a)) * cn))) (L1 := [some (.inr (.ref 124)), some (.inl a), some (.inl n), some (.inl cnt), some (.inl ((mm_shock (M 125) a) + ex)), some (.inl (((((M 125 (2 + a)) * (M 124 24)) / 100) - ((mm_shock (M 125) a) + ex)) - ((M 125 (6 + a)) * cn)))]) (M1 := M) (ob := []) rfl rfl trivial (Or.inl rfl) ?_
        exact fs_qi (by unfold ec_price; show _ = max 0 ((M 125 (2 + a) * M 124 24 / 100 - (mm_shock (M 125) a + (if a = M 124 19 then M 124 21 else 0))) - M 125 (6 + a) * max 0 (n - mm_E M 4 a)); rw [← k4, ← k2]; omega) hq0
      refine fs_r_if (a := cnt) (L1 := [some (.inr (.ref 124)), some (.inl a), some (.inl n), some (.inl cnt), some (.inl ((mm_shock (M 125) a) + ex)), none]) (st1 := [.inl (M 125 (6 + a)), .inl ((((M 125 (2 + a)) * (M 124 24)) / 100) - ((mm_shock (M 125) a) + ex))]) (M1 := M) (ob := [fs_rg ((mm_shock (M 125) a) + ex), 4 < 6, 124 < fs_N ∧ fs_kd 124 = 6, fs_rg (2 + a), (125 < fs_N ∧ fs_kd 125 = 100) ∧ (0 : Int) ≤ (2 + a) ∧ (2 + a) < fs_ln 125, 124 < fs_N ∧ fs_kd 124 = 6, fs_rg ((M 125 (2 + a)) * (M 124 24)), (0 : Int) ≤ ((M 125 (2 + a)) * (M 124 24)), (0 : Int) < 100, fs_rg ((((M 125 (2 + a)) * (M 124 24)) / 100) - ((mm_shock (M 125) a) + ex)), 124 < fs_N ∧ fs_kd 124 = 6, fs_rg (6 + a), (125 < fs_N ∧ fs_kd 125 = 100) ∧ (0 : Int) ≤ (6 + a) ∧ (6 + a) < fs_ln 125]) rfl (fs_exA 6 (o1 := [fs_rg ((mm_shock (M 125) a) + ex), 4 < 6, 124 < fs_N ∧ fs_kd 124 = 6]) (L1 := [some (.inr (.ref 124)), some (.inl a), some (.inl n), some (.inl cnt), some (.inl ((mm_shock (M 125) a) + ex)), none]) (st1 := [.inl a, .inl 2, .inr (.ref 125)]) (M1 := M) (o2 := [fs_rg (2 + a), (125 < fs_N ∧ fs_kd 125 = 100) ∧ (0 : Int) ≤ (2 + a) ∧ (2 + a) < fs_ln 125, 124 < fs_N ∧ fs_kd 124 = 6, fs_rg ((M 125 (2 + a)) * (M 124 24)), (0 : Int) ≤ ((M 125 (2 + a)) * (M 124 24)), (0 : Int) < 100, fs_rg ((((M 125 (2 + a)) * (M 124 24)) / 100) - ((mm_shock (M 125) a) + ex)), 124 < fs_N ∧ fs_kd 124 = 6, fs_rg (6 + a), (125 < fs_N ∧ fs_kd 125 = 100) ∧ (0 : Int) ≤ (6 + a) ∧ (6 + a) < fs_ln 125]) rfl (fs_exA 6 (o1 := [fs_rg (2 + a), (125 < fs_N ∧ fs_kd 125 = 100) ∧ (0 : Int) ≤ (2 + a) ∧ (2 + a) < fs_ln 125, 124 < fs_N ∧ fs_kd 124 = 6, fs_rg ((M 125 (2 + a)) * (M 124 24))]) (L1 := [some (.inr (.ref 124)), some (.inl a), some (.inl n), some (.inl cnt), some (.inl ((mm_shock (M 125) a) + ex)), none]) (st1 := [.inl 100, .inl ((M 125 (2 + a)) * (M 124 24))]) (M1 := M) (o2 := [(0 : Int) ≤ ((M 125 (2 + a)) * (M 124 24)), (0 : Int) < 100, fs_rg ((((M 125 (2 + a)) * (M 124 24)) / 100) - ((mm_shock (M 125) a) + ex)), 124 < fs_N ∧ fs_kd 124 = 6, fs_rg (6 + a), (125 < fs_N ∧ fs_kd 125 = 100) ∧ (0 : Int) ≤ (6 + a) ∧ (6 + a) < fs_ln 125]) rfl (fs_exA 6 (o1 := [(0 : Int) ≤ ((M 125 (2 + a)) * (M 124 24)), (0 : Int) < 100, fs_rg ((((M 125 (2 + a)) * (M 124 24)) / 100) - ((mm_shock (M 125) a) + ex)), 124 < fs_N ∧ fs_kd 124 = 6]) (L1 := [some (.inr (.ref 124)), some (.inl a), some (.inl n), some (.inl cnt), some (.inl ((mm_shock (M 125) a) + ex)), none]) (st1 := [.inl 6, .inr (.ref 125), .inl ((((M 125 (2 + a)) * (M 124 24)) / 100) - ((mm_shock (M 125) a) + ex))]) (M1 := M) (o2 := [fs_rg (6 + a), (125 < fs_N ∧ fs_kd 125 = 100) ∧ (0 : Int) ≤ (6 + a) ∧ (6 + a) < fs_ln 125]) rfl rfl))) (fs_oc ⟨by omega, by omega⟩ (fs_oc (by decide) (fs_oc fs_ob124 (fs_oc ⟨by omega, by omega⟩ (fs_oc (fs_ar125 (by omega) (by omega)) (fs_oc fs_ob124 (fs_oc ⟨by omega, by omega⟩ (fs_oc (by omega) (fs_oc (by omega) (fs_oc ⟨by omega, by omega⟩ (fs_oc fs_ob124 (fs_oc ⟨by omega, by omega⟩ (fs_oc (fs_ar125 (by omega) (by omega)) trivial))))))))))))) (fun (h2 : cnt ≤ 0) => ?_) (fun (h2 : ¬ (cnt ≤ 0)) => ?_)
      · refine fs_r_nop (L1 := [some (.inr (.ref 124)), some (.inl a), some (.inl n), some (.inl cnt), some (.inl ((mm_shock (M 125) a) + ex)), none]) (st1 := [.inl 0, .inl (M 125 (6 + a)), .inl ((((M 125 (2 + a)) * (M 124 24)) / 100) - ((mm_shock (M 125) a) + ex))]) (M1 := M) (ob := []) rfl rfl trivial ?_
        exact join80 (0) (by omega)
      refine fs_r_goto (L1 := [some (.inr (.ref 124)), some (.inl a), some (.inl n), some (.inl cnt), some (.inl ((mm_shock (M 125) a) + ex)), none]) (st1 := [.inl cnt, .inl (M 125 (6 + a)), .inl ((((M 125 (2 + a)) * (M 124 24)) / 100) - ((mm_shock (M 125) a) + ex))]) (M1 := M) (ob := []) rfl rfl trivial ?_
      exact join80 (cnt) (by omega)
    refine fs_r_icmp (a := a) (y := (M 124 19)) (L1 := [some (.inr (.ref 124)), some (.inl a), some (.inl n), some (.inl cnt), none, none]) (st1 := [.inl (mm_shock (M 125) a)]) (M1 := M) (ob := [124 < fs_N ∧ fs_kd 124 = 6]) rfl rfl (fs_oc fs_ob124 trivial) (fun (h3 : ¬ a = (M 124 19)) => ?_) (fun (h3 : ¬ (¬ a = (M 124 19))) => ?_)
    · refine fs_r_nop (L1 := [some (.inr (.ref 124)), some (.inl a), some (.inl n), some (.inl cnt), none, none]) (st1 := [.inl 0, .inl (mm_shock (M 125) a)]) (M1 := M) (ob := []) rfl rfl trivial ?_
      exact join40 (0) (by split <;> omega)
    refine fs_r_goto (L1 := [some (.inr (.ref 124)), some (.inl a), some (.inl n), some (.inl cnt), none, none]) (st1 := [.inl (M 124 21), .inl (mm_shock (M 125) a)]) (M1 := M) (ob := [124 < fs_N ∧ fs_kd 124 = 6]) rfl rfl (fs_oc fs_ob124 trivial) ?_
    exact join40 ((M 124 21)) (by split <;> omega)
  refine fs_r_icmp (a := a) (y := (M 124 22)) (L1 := [some (.inr (.ref 124)), some (.inl a), some (.inl n), none, none, none]) (st1 := []) (M1 := M) (ob := [124 < fs_N ∧ fs_kd 124 = 6]) rfl rfl (fs_oc fs_ob124 trivial) (fun (h4 : ¬ a = (M 124 22)) => ?_) (fun (h4 : ¬ (¬ a = (M 124 22))) => ?_)
  · refine fs_r_nop (L1 := [some (.inr (.ref 124)), some (.inl a), some (.inl n), none, none, none]) (st1 := [.inl n]) (M1 := M) (ob := []) rfl rfl trivial ?_
    exact join18 (n) (by rw [e4]; split <;> omega)
  refine fs_r_goto (L1 := [some (.inr (.ref 124)), some (.inl a), some (.inl n), none, none, none]) (st1 := [.inl (n - (M 124 23))]) (M1 := M) (ob := [124 < fs_N ∧ fs_kd 124 = 6, fs_rg (n - (M 124 23))]) rfl rfl (fs_oc fs_ob124 (fs_oc ⟨by omega, by omega⟩ trivial)) ?_
  exact join18 ((n - (M 124 23))) (by rw [e4]; split <;> omega)
