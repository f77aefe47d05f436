theorem fs_m_isIn {d : Nat} {M : fs_M} {Q : Option fs_V → fs_M → Prop} {v : Int} {lo : Int} {hi : Int}   (hq0 : (lo ≤ v ∧ v ≤ hi) → Q (some (.inl 1)) M) (hq1 : (¬ (lo ≤ v ∧ v ≤ hi)) → Q (some (.inl 0)) M) : fs_W (d) 163 0 [some (.inl v), some (.inl lo), some (.inl hi)] [] M Q := by
  refine fs_r_icmp (a := v) (y := lo) (L1 := [some (.inl v), some (.inl lo), some (.inl hi)]) (st1 := []) (M1 := M) (ob := []) rfl rfl trivial (fun (h1 : v < lo) => ?_) (fun (h1 : ¬ (v < lo)) => ?_)
  · refine fs_r_nop (L1 := [some (.inl v), some (.inl lo), some (.inl hi)]) (st1 := [.inl 0]) (M1 := M) (ob := []) rfl rfl trivial ?_
    refine fs_r_iret (a := 0) (L1 := [some (.inl v), some (.inl lo), some (.inl hi)]) (M1 := M) (ob := []) rfl rfl trivial (Or.inr (Or.inl rfl)) ?_
    exact hq1 (by omega)
  refine fs_r_icmp (a := v) (y := hi) (L1 := [some (.inl v), some (.inl lo), some (.inl hi)]) (st1 := []) (M1 := M) (ob := []) rfl rfl trivial (fun (h2 : hi < v) => ?_) (fun (h2 : ¬ (hi < v)) => ?_)
  · refine fs_r_nop (L1 := [some (.inl v), some (.inl lo), some (.inl hi)]) (st1 := [.inl 0]) (M1 := M) (ob := []) rfl rfl trivial ?_
    refine fs_r_iret (a := 0) (L1 := [some (.inl v), some (.inl lo), some (.inl hi)]) (M1 := M) (ob := []) rfl rfl trivial (Or.inr (Or.inl rfl)) ?_
    exact hq1 (by omega)
  refine fs_r_goto (L1 := [some (.inl v), some (.inl lo), some (.inl hi)]) (st1 := [.inl 1]) (M1 := M) (ob := []) rfl rfl trivial ?_
  refine fs_r_iret (a := 1) (L1 := [some (.inl v), some (.inl lo), some (.inl hi)]) (M1 := M) (ob := []) rfl rfl trivial (Or.inr (Or.inr rfl)) ?_
  exact hq0 (by omega)

theorem fs_m_isAsset {d : Nat} {M : fs_M} {Q : Option fs_V → fs_M → Prop} {a : Int}  (hI : fs_NI (M 125)) (hq0 : (0 ≤ a ∧ a < M 125 0) → Q (some (.inl 1)) M) (hq1 : (¬ (0 ≤ a ∧ a < M 125 0)) → Q (some (.inl 0)) M) : fs_W (d + 1) 164 0 [some (.inr (.ref 124)), some (.inl a)] [] M Q := by
  obtain ⟨⟨hA0, hA1⟩, ⟨hH0, hH1⟩, hcv, hfc, hhd, hln, hsh, hit, hst⟩ := id hI
  refine fs_r_call (sta := true) (idx := 68) (as := [.inl a, .inl 0, .inl ((M 125 0) - 1)]) (rest := []) (L1 := [some (.inr (.ref 124)), some (.inl a)]) (st1 := [.inl ((M 125 0) - 1), .inl 0, .inl a]) (M1 := M) (ob := [124 < fs_N ∧ fs_kd 124 = 6, (125 < fs_N ∧ fs_kd 125 = 100) ∧ (0 : Int) ≤ 0 ∧ 0 < fs_ln 125, fs_rg ((M 125 0) - 1)]) rfl rfl (fs_exA 6 (o1 := [124 < fs_N ∧ fs_kd 124 = 6, (125 < fs_N ∧ fs_kd 125 = 100) ∧ (0 : Int) ≤ 0 ∧ 0 < fs_ln 125]) (L1 := [some (.inr (.ref 124)), some (.inl a)]) (st1 := [.inl (M 125 0), .inl 0, .inl a]) (M1 := M) (o2 := [fs_rg ((M 125 0) - 1)]) rfl rfl) (fs_oc fs_ob124 (fs_oc (fs_ar125 (by omega) (by omega)) (fs_oc ⟨by omega, by omega⟩ trivial))) rfl rfl (Nat.le_of_ble_eq_true rfl) ⟨Or.inr (Nat.le_of_ble_eq_true rfl), trivial⟩ (by decide) ?_
  refine fs_m_isIn (fun (f1 : 0 ≤ a ∧ a ≤ ((M 125 0) - 1)) => ?_) (fun (f2 : ¬ (0 ≤ a ∧ a ≤ ((M 125 0) - 1))) => ?_)
  · refine fs_r_iret (a := 1) (L1 := [some (.inr (.ref 124)), some (.inl a)]) (M1 := M) (ob := []) rfl rfl trivial (Or.inr (Or.inr rfl)) ?_
    exact hq0 (by omega)
  refine fs_r_iret (a := 0) (L1 := [some (.inr (.ref 124)), some (.inl a)]) (M1 := M) (ob := []) rfl rfl trivial (Or.inr (Or.inl rfl)) ?_
  exact hq1 (by omega)

theorem fs_m_isHouse {d : Nat} {M : fs_M} {Q : Option fs_V → fs_M → Prop} {h : Int}  (hI : fs_NI (M 125)) (hq0 : (0 ≤ h ∧ h < M 125 1) → Q (some (.inl 1)) M) (hq1 : (¬ (0 ≤ h ∧ h < M 125 1)) → Q (some (.inl 0)) M) : fs_W (d + 1) 165 0 [some (.inr (.ref 124)), some (.inl h)] [] M Q := by
  obtain ⟨⟨hA0, hA1⟩, ⟨hH0, hH1⟩, hcv, hfc, hhd, hln, hsh, hit, hst⟩ := id hI
  refine fs_r_call (sta := true) (idx := 68) (as := [.inl h, .inl 0, .inl ((M 125 1) - 1)]) (rest := []) (L1 := [some (.inr (.ref 124)), some (.inl h)]) (st1 := [.inl ((M 125 1) - 1), .inl 0, .inl h]) (M1 := M) (ob := [124 < fs_N ∧ fs_kd 124 = 6, (125 < fs_N ∧ fs_kd 125 = 100) ∧ (0 : Int) ≤ 1 ∧ 1 < fs_ln 125, fs_rg ((M 125 1) - 1)]) rfl rfl (fs_exA 6 (o1 := [124 < fs_N ∧ fs_kd 124 = 6, (125 < fs_N ∧ fs_kd 125 = 100) ∧ (0 : Int) ≤ 1 ∧ 1 < fs_ln 125]) (L1 := [some (.inr (.ref 124)), some (.inl h)]) (st1 := [.inl (M 125 1), .inl 0, .inl h]) (M1 := M) (o2 := [fs_rg ((M 125 1) - 1)]) rfl rfl) (fs_oc fs_ob124 (fs_oc (fs_ar125 (by omega) (by omega)) (fs_oc ⟨by omega, by omega⟩ trivial))) rfl rfl (Nat.le_of_ble_eq_true rfl) ⟨Or.inr (Nat.le_of_ble_eq_true rfl), trivial⟩ (by decide) ?_
  refine fs_m_isIn (fun (f1 : 0 ≤ h ∧ h ≤ ((M 125 1) - 1)) => ?_) (fun (f2 : ¬ (0 ≤ h ∧ h ≤ ((M 125 1) - 1))) => ?_)
  · refine fs_r_iret (a := 1) (L1 := [some (.inr (.ref 124)), some (.inl h)]) (M1 := M) (ob := []) rfl rfl trivial (Or.inr (Or.inr rfl)) ?_
    exact hq0 (by omega)
  refine fs_r_iret (a := 0) (L1 := [some (.inr (.ref 124)), some (.inl h)]) (M1 := M) (ob := []) rfl rfl trivial (Or.inr (Or.inl rfl)) ?_
  exact hq1 (by omega)

theorem fs_m_houseOf {d : Nat} {M : fs_M} {Q : Option fs_V → fs_M → Prop} {h : Int} {k : Int}  (hh : 0 ≤ h ∧ h < 6) (hk : 0 ≤ k ∧ k < 5) (hq0 : Q (some (.inl (M 125 (10 + 5 * h + k)))) M) : fs_W (d) 166 0 [some (.inr (.ref 124)), some (.inl h), some (.inl k)] [] M Q := by
  refine fs_r_iret (a := (M 125 ((10 + (5 * h)) + k))) (L1 := [some (.inr (.ref 124)), some (.inl h), some (.inl k)]) (M1 := M) (ob := [124 < fs_N ∧ fs_kd 124 = 6, fs_rg (5 * h), fs_rg (10 + (5 * h)), fs_rg ((10 + (5 * h)) + k), (125 < fs_N ∧ fs_kd 125 = 100) ∧ (0 : Int) ≤ ((10 + (5 * h)) + k) ∧ ((10 + (5 * h)) + k) < fs_ln 125]) rfl (fs_exA 6 (o1 := [124 < fs_N ∧ fs_kd 124 = 6, fs_rg (5 * h)]) (L1 := [some (.inr (.ref 124)), some (.inl h), some (.inl k)]) (st1 := [.inl (5 * h), .inl 10, .inr (.ref 125)]) (M1 := M) (o2 := [fs_rg (10 + (5 * h)), fs_rg ((10 + (5 * h)) + k), (125 < fs_N ∧ fs_kd 125 = 100) ∧ (0 : Int) ≤ ((10 + (5 * h)) + k) ∧ ((10 + (5 * h)) + k) < fs_ln 125]) rfl rfl) (fs_oc fs_ob124 (fs_oc ⟨by omega, by omega⟩ (fs_oc ⟨by omega, by omega⟩ (fs_oc ⟨by omega, by omega⟩ (fs_oc (fs_ar125 (by omega) (by omega)) trivial))))) (Or.inl rfl) ?_
  exact fs_qi (by omega) hq0

theorem fs_m_holds {d : Nat} {M : fs_M} {Q : Option fs_V → fs_M → Prop} {h : Int} {a : Int}  (hh : 0 ≤ h ∧ h < 6) (ha : 0 ≤ a ∧ a < 4) (hq0 : Q (some (.inl (M 125 (40 + 4 * h + a)))) M) : fs_W (d) 167 0 [some (.inr (.ref 124)), some (.inl h), some (.inl a)] [] M Q := by
  refine fs_r_iret (a := (M 125 ((40 + (4 * h)) + a))) (L1 := [some (.inr (.ref 124)), some (.inl h), some (.inl a)]) (M1 := M) (ob := [124 < fs_N ∧ fs_kd 124 = 6, fs_rg (4 * h), fs_rg (40 + (4 * h)), fs_rg ((40 + (4 * h)) + a), (125 < fs_N ∧ fs_kd 125 = 100) ∧ (0 : Int) ≤ ((40 + (4 * h)) + a) ∧ ((40 + (4 * h)) + a) < fs_ln 125]) rfl (fs_exA 6 (o1 := [124 < fs_N ∧ fs_kd 124 = 6, fs_rg (4 * h)]) (L1 := [some (.inr (.ref 124)), some (.inl h), some (.inl a)]) (st1 := [.inl (4 * h), .inl 40, .inr (.ref 125)]) (M1 := M) (o2 := [fs_rg (40 + (4 * h)), fs_rg ((40 + (4 * h)) + a), (125 < fs_N ∧ fs_kd 125 = 100) ∧ (0 : Int) ≤ ((40 + (4 * h)) + a) ∧ ((40 + (4 * h)) + a) < fs_ln 125]) rfl rfl) (fs_oc fs_ob124 (fs_oc ⟨by omega, by omega⟩ (fs_oc ⟨by omega, by omega⟩ (fs_oc ⟨by omega, by omega⟩ (fs_oc (fs_ar125 (by omega) (by omega)) trivial))))) (Or.inl rfl) ?_
  exact fs_qi (by omega) hq0

theorem fs_m_loanOf {d : Nat} {M : fs_M} {Q : Option fs_V → fs_M → Prop} {h : Int} {o : Int}  (hh : 0 ≤ h ∧ h < 6) (ho : 0 ≤ o ∧ o < 6) (hq0 : Q (some (.inl (M 125 (64 + 6 * h + o)))) M) : fs_W (d) 168 0 [some (.inr (.ref 124)), some (.inl h), some (.inl o)] [] M Q := by
  refine fs_r_iret (a := (M 125 ((64 + (6 * h)) + o))) (L1 := [some (.inr (.ref 124)), some (.inl h), some (.inl o)]) (M1 := M) (ob := [124 < fs_N ∧ fs_kd 124 = 6, fs_rg (6 * h), fs_rg (64 + (6 * h)), fs_rg ((64 + (6 * h)) + o), (125 < fs_N ∧ fs_kd 125 = 100) ∧ (0 : Int) ≤ ((64 + (6 * h)) + o) ∧ ((64 + (6 * h)) + o) < fs_ln 125]) rfl (fs_exA 6 (o1 := [124 < fs_N ∧ fs_kd 124 = 6, fs_rg (6 * h)]) (L1 := [some (.inr (.ref 124)), some (.inl h), some (.inl o)]) (st1 := [.inl (6 * h), .inl 64, .inr (.ref 125)]) (M1 := M) (o2 := [fs_rg (64 + (6 * h)), fs_rg ((64 + (6 * h)) + o), (125 < fs_N ∧ fs_kd 125 = 100) ∧ (0 : Int) ≤ ((64 + (6 * h)) + o) ∧ ((64 + (6 * h)) + o) < fs_ln 125]) rfl rfl) (fs_oc fs_ob124 (fs_oc ⟨by omega, by omega⟩ (fs_oc ⟨by omega, by omega⟩ (fs_oc ⟨by omega, by omega⟩ (fs_oc (fs_ar125 (by omega) (by omega)) trivial))))) (Or.inl rfl) ?_
  exact fs_qi (by omega) hq0

theorem fs_m_heldOf {d : Nat} {M : fs_M} {Q : Option fs_V → fs_M → Prop} {a : Int}  (hI : fs_NI (M 125)) (ha : 0 ≤ a ∧ a < 4) (hq0 : Q (some (.inl (mm_held (M 125) a))) M) : fs_W (d + 1) 169 0 [some (.inr (.ref 124)), some (.inl a), none, none] [] M Q := by
  obtain ⟨⟨hA0, hA1⟩, ⟨hH0, hH1⟩, hcv, hfc, hhd, hln, hsh, hit, hst⟩ := id hI
  refine fs_r_nop (L1 := [some (.inr (.ref 124)), some (.inl a), some (.inl 0), some (.inl 0)]) (st1 := []) (M1 := M) (ob := [2 < 4, 3 < 4]) rfl rfl (fs_oc (by decide) (fs_oc (by decide) trivial)) ?_
  have loop4 : ∀ (n4 : Nat) (n : Int) (h : Int), (0 ≤ h ∧ h ≤ M 125 1) → (n = fs_sum h.toNat (fun q => M 125 (40 + 4 * q + a))) → (0 ≤ n ∧ n ≤ 60 * h) → M 125 1 - h < (n4 : Int) → fs_W (d + 1) 169 4 [some (.inr (.ref 124)), some (.inl a), some (.inl n), some (.inl h)] [] M Q := by
    intro n4
    induction n4 with
    | zero =>
      intro n h i0 i1 i2 hm4
      exfalso
      omega
    | succ n4 ih4 =>
      intro n h i0 i1 i2 hm4
      refine fs_r_icmp (a := h) (y := (M 125 1)) (L1 := [some (.inr (.ref 124)), some (.inl a), some (.inl n), some (.inl h)]) (st1 := []) (M1 := M) (ob := [124 < fs_N ∧ fs_kd 124 = 6, (125 < fs_N ∧ fs_kd 125 = 100) ∧ (0 : Int) ≤ 1 ∧ 1 < fs_ln 125]) rfl rfl (fs_oc fs_ob124 (fs_oc (fs_ar125 (by omega) (by omega)) trivial)) (fun (h1 : (M 125 1) ≤ h) => ?_) (fun (h1 : ¬ ((M 125 1) ≤ h)) => ?_)
      · refine fs_r_iret (a := n) (L1 := [some (.inr (.ref 124)), some (.inl a), some (.inl n), some (.inl h)]) (M1 := M) (ob := []) rfl rfl trivial (Or.inl rfl) ?_
        exact fs_qi (by rw [i1]; unfold mm_held; rw [show h = M 125 1 by omega]) hq0
      refine fs_r_call (sta := false) (idx := 72) (as := [.inr (.ref 124), .inl h, .inl a]) (rest := [.inl n]) (L1 := [some (.inr (.ref 124)), some (.inl a), some (.inl n), some (.inl h)]) (st1 := [.inl a, .inl h, .inr (.ref 124), .inl n]) (M1 := M) (ob := []) rfl rfl rfl trivial rfl rfl (Nat.le_of_ble_eq_true rfl) ⟨Or.inr (Nat.le_of_ble_eq_true rfl), Or.inr fs_ob124⟩ (by decide) ?_
      refine fs_m_holds (by omega) (by omega) ?_
      have q := hhd h a (by omega) (by omega) (by omega) (by omega)
      refine fs_r_goto (L1 := [some (.inr (.ref 124)), some (.inl a), some (.inl (n + (M 125 (40 + 4 * h + a)))), some (.inl (h + 1))]) (st1 := []) (M1 := M) (ob := [fs_rg (n + (M 125 (40 + 4 * h + a))), 2 < 4, fs_rg (h + 1)]) rfl rfl (fs_oc ⟨by omega, by omega⟩ (fs_oc (by decide) (fs_oc ⟨by omega, by omega⟩ trivial))) ?_
      exact ih4 ((n + (M 125 (40 + 4 * h + a)))) ((h + 1)) (by omega) (by rw [fs_sum_s i0.1, i1]) (by omega) (by omega)
  exact loop4 (((M 125 1 - (0)) : Int) + 1).toNat (0) (0) (by omega) (rfl) (by omega) (by omega)

theorem fs_m_piecesOf {d : Nat} {M : fs_M} {Q : Option fs_V → fs_M → Prop} {h : Int}  (hI : fs_NI (M 125)) (hh : 0 ≤ h ∧ h < 6) (hq0 : Q (some (.inl (mm_pieces (M 125) h))) M) : fs_W (d + 1) 193 0 [some (.inr (.ref 124)), some (.inl h), none, none] [] M Q := by
  obtain ⟨⟨hA0, hA1⟩, ⟨hH0, hH1⟩, hcv, hfc, hhd, hln, hsh, hit, hst⟩ := id hI
  refine fs_r_nop (L1 := [some (.inr (.ref 124)), some (.inl h), some (.inl 0), some (.inl 0)]) (st1 := []) (M1 := M) (ob := [2 < 4, 3 < 4]) rfl rfl (fs_oc (by decide) (fs_oc (by decide) trivial)) ?_
  have loop4 : ∀ (n4 : Nat) (n : Int) (a : Int), (0 ≤ a ∧ a ≤ M 125 0) → (n = fs_sum a.toNat (fun q => M 125 (40 + 4 * h + q))) → (0 ≤ n ∧ n ≤ 60 * a) → M 125 0 - a < (n4 : Int) → fs_W (d + 1) 193 4 [some (.inr (.ref 124)), some (.inl h), some (.inl n), some (.inl a)] [] M Q := by
    intro n4
    induction n4 with
    | zero =>
      intro n a i0 i1 i2 hm4
      exfalso
      omega
    | succ n4 ih4 =>
      intro n a i0 i1 i2 hm4
      refine fs_r_icmp (a := a) (y := (M 125 0)) (L1 := [some (.inr (.ref 124)), some (.inl h), some (.inl n), some (.inl a)]) (st1 := []) (M1 := M) (ob := [124 < fs_N ∧ fs_kd 124 = 6, (125 < fs_N ∧ fs_kd 125 = 100) ∧ (0 : Int) ≤ 0 ∧ 0 < fs_ln 125]) rfl rfl (fs_oc fs_ob124 (fs_oc (fs_ar125 (by omega) (by omega)) trivial)) (fun (h1 : (M 125 0) ≤ a) => ?_) (fun (h1 : ¬ ((M 125 0) ≤ a)) => ?_)
      · refine fs_r_iret (a := n) (L1 := [some (.inr (.ref 124)), some (.inl h), some (.inl n), some (.inl a)]) (M1 := M) (ob := []) rfl rfl trivial (Or.inl rfl) ?_
        exact fs_qi (by rw [i1]; unfold mm_pieces; rw [show a = M 125 0 by omega]) hq0
      refine fs_r_call (sta := false) (idx := 72) (as := [.inr (.ref 124), .inl h, .inl a]) (rest := [.inl n]) (L1 := [some (.inr (.ref 124)), some (.inl h), some (.inl n), some (.inl a)]) (st1 := [.inl a, .inl h, .inr (.ref 124), .inl n]) (M1 := M) (ob := []) rfl rfl rfl trivial rfl rfl (Nat.le_of_ble_eq_true rfl) ⟨Or.inr (Nat.le_of_ble_eq_true rfl), Or.inr fs_ob124⟩ (by decide) ?_
      refine fs_m_holds (by omega) (by omega) ?_
      have q := hhd h a (by omega) (by omega) (by omega) (by omega)
      refine fs_r_goto (L1 := [some (.inr (.ref 124)), some (.inl h), some (.inl (n + (M 125 (40 + 4 * h + a)))), some (.inl (a + 1))]) (st1 := []) (M1 := M) (ob := [fs_rg (n + (M 125 (40 + 4 * h + a))), 2 < 4, fs_rg (a + 1)]) rfl rfl (fs_oc ⟨by omega, by omega⟩ (fs_oc (by decide) (fs_oc ⟨by omega, by omega⟩ trivial))) ?_
      exact ih4 ((n + (M 125 (40 + 4 * h + a)))) ((a + 1)) (by omega) (by rw [fs_sum_s i0.1, i1]) (by omega) (by omega)
  exact loop4 (((M 125 0 - (0)) : Int) + 1).toNat (0) (0) (by omega) (rfl) (by omega) (by omega)
