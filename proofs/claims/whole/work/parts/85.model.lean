theorem fs_m_spellsHouses {d : Nat} {M : fs_M} {Q : Option fs_V → fs_M → Prop}  {l : List Int} (hI : fs_NI (M 125)) (hP : SQ M l) (hZ : fs_NZ (M 125)) (hl : l.length + 640 ≤ 1200) (hq0 : ∀ (M2 : fs_M), (sqf M M2) → (SQ M2 (l ++ flL (M 125 1).toNat (sH (M 125)) ++ flL (M 125 1).toNat (fun h => flL (M 125 1).toNat (sL (M 125) h)))) → Q none M2) : fs_W (d + 2) 279 0 [some (.inr (.ref 124)), none, none] [] M Q := by
  have hN := hI
  obtain ⟨⟨hA0, hA1⟩, ⟨hH0, hH1⟩, hcv, hfc, hhd, hln, hsh, hit, hst⟩ := id hN
  have w1 := wdL_n.2.1
  have w2 := wdL_n.2.2.1
  have hB := flL_b (f := sH (M 125)) (b := 38) (M 125 1).toNat (fun i i0 i1 => sH_b hN ⟨i0, by omega⟩)
  refine fs_r_nop (L1 := [some (.inr (.ref 124)), some (.inl 0), none]) (st1 := []) (M1 := M) (ob := [1 < 3]) rfl rfl (fs_oc (by decide) trivial) ?_
  have loop2 : ∀ (n2 : Nat) (h : Int) (zl2 : Option fs_V) (M3 : fs_M), (0 ≤ h ∧ h ≤ M 125 1) → (sqf M M3) → (SQ M3 (l ++ flL h.toNat (sH (M 125)))) → M 125 1 - h < (n2 : Int) → fs_W (d + 2) 279 2 [some (.inr (.ref 124)), some (.inl h), zl2] [] M3 Q := by
    intro n2
    induction n2 with
    | zero =>
      intro h zl2 M3 i3 f3 p3 hm2
      exfalso
      omega
    | succ n2 ih2 =>
      intro h zl2 M3 i3 f3 p3 hm2
      have e31 := congrFun f3.N 1
      refine fs_r_icmp (a := h) (y := (M3 125 1)) (L1 := [some (.inr (.ref 124)), some (.inl h), zl2]) (st1 := []) (M1 := M3) (ob := [124 < fs_N ∧ fs_kd 124 = 6, (125 < fs_N ∧ fs_kd 125 = 100) ∧ (0 : Int) ≤ 1 ∧ 1 < fs_ln 125]) rfl rfl (fs_oc fs_ob124 (fs_oc (fs_ar125 (by omega) (by omega)) trivial)) (fun (h1 : (M3 125 1) ≤ h) => ?_) (fun (h1 : ¬ ((M3 125 1) ≤ h)) => ?_)
      · refine fs_r_nop (L1 := [some (.inr (.ref 124)), some (.inl 0), zl2]) (st1 := []) (M1 := M3) (ob := [1 < 3]) rfl rfl (fs_oc (by decide) trivial) ?_
        have loop84 : ∀ (n84 : Nat) (x : Int) (zl2 : Option fs_V) (M6 : fs_M), (0 ≤ x ∧ x ≤ M 125 1) → (sqf M M6) → (SQ M6 (l ++ flL (M 125 1).toNat (sH (M 125)) ++ flL x.toNat (fun h => flL (M 125 1).toNat (sL (M 125) h)))) → M 125 1 - x < (n84 : Int) → fs_W (d + 2) 279 84 [some (.inr (.ref 124)), some (.inl x), zl2] [] M6 Q := by
          intro n84
          induction n84 with
          | zero =>
            intro x zl2 M6 i6 f6 p6 hm84
            exfalso
            omega
          | succ n84 ih84 =>
            intro x zl2 M6 i6 f6 p6 hm84
            have e61 := congrFun f6.N 1
            refine fs_r_icmp (a := x) (y := (M6 125 1)) (L1 := [some (.inr (.ref 124)), some (.inl x), zl2]) (st1 := []) (M1 := M6) (ob := [124 < fs_N ∧ fs_kd 124 = 6, (125 < fs_N ∧ fs_kd 125 = 100) ∧ (0 : Int) ≤ 1 ∧ 1 < fs_ln 125]) rfl rfl (fs_oc fs_ob124 (fs_oc (fs_ar125 (by omega) (by omega)) trivial)) (fun (h2 : (M6 125 1) ≤ x) => ?_) (fun (h2 : ¬ ((M6 125 1) ≤ x)) => ?_)
            · refine fs_r_ret (L1 := [some (.inr (.ref 124)), some (.inl x), zl2]) (M1 := M6) (ob := []) rfl rfl trivial ?_
              exact hq0 _ f6 (by have ex : x.toNat = (M 125 1).toNat := by { omega }; rw [ex] at p6; exact p6)
            refine fs_r_nop (L1 := [some (.inr (.ref 124)), some (.inl x), some (.inl 0)]) (st1 := []) (M1 := M6) (ob := [2 < 3]) rfl rfl (fs_oc (by decide) trivial) ?_
            have loop96 : ∀ (n96 : Nat) (y : Int) (M7 : fs_M), (0 ≤ y ∧ y ≤ M 125 1) → (sqf M M7) → (SQ M7 (l ++ flL (M 125 1).toNat (sH (M 125)) ++ flL x.toNat (fun h => flL (M 125 1).toNat (sL (M 125) h)) ++ flL y.toNat (sL (M 125) x))) → M 125 1 - y < (n96 : Int) → fs_W (d + 2) 279 96 [some (.inr (.ref 124)), some (.inl x), some (.inl y)] [] M7 Q := by
              intro n96
              induction n96 with
              | zero =>
                intro y M7 i7 f7 p7 hm96
                exfalso
                omega
              | succ n96 ih96 =>
                intro y M7 i7 f7 p7 hm96
                have e71 := congrFun f7.N 1
                refine fs_r_icmp (a := y) (y := (M7 125 1)) (L1 := [some (.inr (.ref 124)), some (.inl x), some (.inl y)]) (st1 := []) (M1 := M7) (ob := [124 < fs_N ∧ fs_kd 124 = 6, (125 < fs_N ∧ fs_kd 125 = 100) ∧ (0 : Int) ≤ 1 ∧ 1 < fs_ln 125]) rfl rfl (fs_oc fs_ob124 (fs_oc (fs_ar125 (by omega) (by omega)) trivial)) (fun (h3 : (M7 125 1) ≤ y) => ?_) (fun (h3 : ¬ ((M7 125 1) ≤ y)) => ?_)
                · refine fs_r_goto (L1 := [some (.inr (.ref 124)), some (.inl (x + 1)), some (.inl y)]) (st1 := []) (M1 := M7) (ob := [fs_rg (x + 1)]) rfl rfl (fs_oc ⟨by omega, by omega⟩ trivial) ?_
                  exact ih84 ((x + 1)) (some (.inl y)) M7 (by omega) (f7) (by rw [flL_s i6.1, ← List.append_assoc]; have ea : y.toNat = (M 125 1).toNat := by { omega }; rw [ea] at p7; exact p7) (by omega)
                have lb2 := sLL_b hN hZ x.toNat (by omega)
                have ob2 := flL_b (f := sL (M 125) x) (b := 13) y.toNat (fun i i0 i1 => sL_b hN ⟨by omega, by omega⟩ ⟨i0, by omega⟩)
                have fs := flL_s (f := sL (M 125) x) i7.1
                have e7 : M7 125 = M 125 := f7.N
                have sL0 : M 125 (64 + 6 * x + y) = 0 → sL (M 125) x y = [] := fun z => if_pos z
                have sLn : ¬ M 125 (64 + 6 * x + y) = 0 → sL (M 125) x y = wdL 2 ++ ndL x ++ ndL y ++ ndL (M 125 (64 + 6 * x + y)) ++ [59] := fun z => if_neg z
                have qb := hln x y (by omega) (by omega) (by omega) (by omega)
                have nbx := (ndL_b (n := x)).2.2.2 (by omega)
                have nby := (ndL_b (n := y)).2.2.2 (by omega)
                have nbz := (ndL_b (n := M 125 (64 + 6 * x + y))).2.1 (by omega)
                refine fs_r_call (sta := false) (idx := 181) (as := [.inr (.ref 124), .inl x, .inl y]) (rest := []) (L1 := [some (.inr (.ref 124)), some (.inl x), some (.inl y)]) (st1 := [.inl y, .inl x, .inr (.ref 124)]) (M1 := M7) (ob := []) rfl rfl rfl trivial rfl rfl (Nat.le_of_ble_eq_true rfl) ⟨Or.inr (Nat.le_of_ble_eq_true rfl), Or.inr fs_ob124⟩ (by decide) ?_
                refine fs_m_loanOf (by omega) (by omega) ?_
                refine fs_r_if (a := (M7 125 (64 + 6 * x + y))) (L1 := [some (.inr (.ref 124)), some (.inl x), some (.inl y)]) (st1 := []) (M1 := M7) (ob := []) rfl rfl trivial (fun (h4 : (M7 125 (64 + 6 * x + y)) ≤ 0) => ?_) (fun (h4 : ¬ ((M7 125 (64 + 6 * x + y)) ≤ 0)) => ?_)
                · refine fs_r_goto (L1 := [some (.inr (.ref 124)), some (.inl x), some (.inl (y + 1))]) (st1 := []) (M1 := M7) (ob := [fs_rg (y + 1)]) rfl rfl (fs_oc ⟨by omega, by omega⟩ trivial) ?_
                  exact ih96 ((y + 1)) M7 (by omega) (by first | exact f7 | exact ((((f7.tr g0_).tr g1_).tr g2_).tr g3_).tr g4_) (by
                        rw [fs, ← List.append_assoc]
                        first
                          | (rw [sL0 (by rw [e7] at *; omega), List.append_nil]; exact p7)
                          | (rw [sLn (by rw [e7] at *; omega)]
                             rw [e9] at q4_
                             simp only [List.append_assoc] at q4_ ⊢
                             exact q4_)) (by omega)
                refine fs_r_call (sta := false) (idx := 348) (as := [.inr (.ref 124), .inr (.long (Int64.ofInt 247172))]) (rest := []) (L1 := [some (.inr (.ref 124)), some (.inl x), some (.inl y)]) (st1 := [.inr (.long (Int64.ofInt 247172)), .inr (.ref 124)]) (M1 := M7) (ob := []) rfl rfl rfl trivial rfl rfl (Nat.le_of_ble_eq_true rfl) ⟨Or.inr (Nat.le_of_ble_eq_true rfl), Or.inr fs_ob124⟩ (by decide) ?_
                refine fs_m_spells2 (l := (l ++ flL (M 125 1).toNat (sH (M 125)) ++ flL x.toNat (fun h => flL (M 125 1).toNat (sL (M 125) h)) ++ flL y.toNat (sL (M 125) x))) (p7) (by rw [List.length_append, List.length_append, List.length_append]; omega) (fun (B0 : fs_M) (g0_ : sqf M7 B0) (q0_ : SQ B0 ((l ++ flL (M 125 1).toNat (sH (M 125)) ++ flL x.toNat (fun h => flL (M 125 1).toNat (sL (M 125) h)) ++ flL y.toNat (sL (M 125) x)) ++ wdL 2)) => ?_)
                refine fs_r_call (sta := false) (idx := 352) (as := [.inr (.ref 124), .inl x]) (rest := []) (L1 := [some (.inr (.ref 124)), some (.inl x), some (.inl y)]) (st1 := [.inl x, .inr (.ref 124)]) (M1 := B0) (ob := []) rfl rfl rfl trivial rfl rfl (Nat.le_of_ble_eq_true rfl) ⟨Or.inr (Nat.le_of_ble_eq_true rfl), Or.inr fs_ob124⟩ (by decide) ?_
                refine fs_m_spellsNumber (l := ((l ++ flL (M 125 1).toNat (sH (M 125)) ++ flL x.toNat (fun h => flL (M 125 1).toNat (sL (M 125) h)) ++ flL y.toNat (sL (M 125) x)) ++ wdL 2)) (q0_) (by rw [List.length_append, List.length_append, List.length_append, List.length_append]; omega) (by omega) (fun (B1 : fs_M) (g1_ : sqf B0 B1) (q1_ : SQ B1 (((l ++ flL (M 125 1).toNat (sH (M 125)) ++ flL x.toNat (fun h => flL (M 125 1).toNat (sL (M 125) h)) ++ flL y.toNat (sL (M 125) x)) ++ wdL 2) ++ ndL x)) => ?_)
                refine fs_r_call (sta := false) (idx := 352) (as := [.inr (.ref 124), .inl y]) (rest := []) (L1 := [some (.inr (.ref 124)), some (.inl x), some (.inl y)]) (st1 := [.inl y, .inr (.ref 124)]) (M1 := B1) (ob := []) rfl rfl rfl trivial rfl rfl (Nat.le_of_ble_eq_true rfl) ⟨Or.inr (Nat.le_of_ble_eq_true rfl), Or.inr fs_ob124⟩ (by decide) ?_
                refine fs_m_spellsNumber (l := ((l ++ flL (M 125 1).toNat (sH (M 125)) ++ flL x.toNat (fun h => flL (M 125 1).toNat (sL (M 125) h)) ++ flL y.toNat (sL (M 125) x)) ++ wdL 2 ++ ndL x)) (q1_) (by rw [List.length_append, List.length_append, List.length_append, List.length_append, List.length_append]; omega) (by omega) (fun (B2 : fs_M) (g2_ : sqf B1 B2) (q2_ : SQ B2 (((l ++ flL (M 125 1).toNat (sH (M 125)) ++ flL x.toNat (fun h => flL (M 125 1).toNat (sL (M 125) h)) ++ flL y.toNat (sL (M 125) x)) ++ wdL 2 ++ ndL x) ++ ndL y)) => ?_)
                refine fs_r_call (sta := false) (idx := 181) (as := [.inr (.ref 124), .inl x, .inl y]) (rest := [.inr (.ref 124)]) (L1 := [some (.inr (.ref 124)), some (.inl x), some (.inl y)]) (st1 := [.inl y, .inl x, .inr (.ref 124), .inr (.ref 124)]) (M1 := B2) (ob := []) rfl rfl rfl trivial rfl rfl (Nat.le_of_ble_eq_true rfl) ⟨Or.inr (Nat.le_of_ble_eq_true rfl), Or.inr fs_ob124⟩ (by decide) ?_
                refine fs_m_loanOf (by omega) (by omega) ?_
                have e9 : B2 125 (64 + 6 * x + y) = M 125 (64 + 6 * x + y) := by rw [g2_.N, g1_.N, g0_.N, e7]
                refine fs_r_call (sta := false) (idx := 352) (as := [.inr (.ref 124), .inl (B2 125 (64 + 6 * x + y))]) (rest := []) (L1 := [some (.inr (.ref 124)), some (.inl x), some (.inl y)]) (st1 := [.inl (B2 125 (64 + 6 * x + y)), .inr (.ref 124)]) (M1 := B2) (ob := []) rfl rfl rfl trivial rfl rfl (Nat.le_of_ble_eq_true rfl) ⟨Or.inr (Nat.le_of_ble_eq_true rfl), Or.inr fs_ob124⟩ (by decide) ?_
                refine fs_m_spellsNumber (l := ((l ++ flL (M 125 1).toNat (sH (M 125)) ++ flL x.toNat (fun h => flL (M 125 1).toNat (sL (M 125) h)) ++ flL y.toNat (sL (M 125) x)) ++ wdL 2 ++ ndL x ++ ndL y)) (q2_) (by rw [List.length_append, List.length_append, List.length_append, List.length_append, List.length_append, List.length_append]; omega) (by rw [e9]; omega) (fun (B3 : fs_M) (g3_ : sqf B2 B3) (q3_ : SQ B3 (((l ++ flL (M 125 1).toNat (sH (M 125)) ++ flL x.toNat (fun h => flL (M 125 1).toNat (sL (M 125) h)) ++ flL y.toNat (sL (M 125) x)) ++ wdL 2 ++ ndL x ++ ndL y) ++ ndL (B2 125 (64 + 6 * x + y)))) => ?_)
                refine fs_r_call (sta := false) (idx := 345) (as := [.inr (.ref 124), .inl 59]) (rest := []) (L1 := [some (.inr (.ref 124)), some (.inl x), some (.inl y)]) (st1 := [.inl 59, .inr (.ref 124)]) (M1 := B3) (ob := []) rfl rfl rfl trivial rfl rfl (Nat.le_of_ble_eq_true rfl) ⟨Or.inr (Nat.le_of_ble_eq_true rfl), Or.inr fs_ob124⟩ (by decide) ?_
                refine fs_m_spellsByte (l := ((l ++ flL (M 125 1).toNat (sH (M 125)) ++ flL x.toNat (fun h => flL (M 125 1).toNat (sL (M 125) h)) ++ flL y.toNat (sL (M 125) x)) ++ wdL 2 ++ ndL x ++ ndL y ++ ndL (B2 125 (64 + 6 * x + y)))) (q3_) (by rw [e9, List.length_append, List.length_append, List.length_append, List.length_append, List.length_append, List.length_append, List.length_append]; omega) (fun (B4 : fs_M) (g4_ : sqf B3 B4) (q4_ : SQ B4 (((l ++ flL (M 125 1).toNat (sH (M 125)) ++ flL x.toNat (fun h => flL (M 125 1).toNat (sL (M 125) h)) ++ flL y.toNat (sL (M 125) x)) ++ wdL 2 ++ ndL x ++ ndL y ++ ndL (B2 125 (64 + 6 * x + y))) ++ [59])) => ?_)
                refine fs_r_goto (L1 := [some (.inr (.ref 124)), some (.inl x), some (.inl (y + 1))]) (st1 := []) (M1 := B4) (ob := [fs_rg (y + 1)]) rfl rfl (fs_oc ⟨by omega, by omega⟩ trivial) ?_
                exact ih96 ((y + 1)) B4 (by omega) (by first | exact f7 | exact ((((f7.tr g0_).tr g1_).tr g2_).tr g3_).tr g4_) (by
                      rw [fs, ← List.append_assoc]
                      first
                        | (rw [sL0 (by rw [e7] at *; omega), List.append_nil]; exact p7)
                        | (rw [sLn (by rw [e7] at *; omega)]
                           rw [e9] at q4_
                           simp only [List.append_assoc] at q4_ ⊢
                           exact q4_)) (by omega)
            exact loop96 (((M 125 1 - (0)) : Int) + 1).toNat (0) M6 (by omega) (f6) (by rw [show Int.toNat 0 = 0 from rfl]; show SQ _ (_ ++ []); rw [List.append_nil]; exact p6) (by omega)
        exact loop84 (((M 125 1 - (0)) : Int) + 1).toNat (0) (zl2) M3 (by omega) (f3) (by rw [show Int.toNat 0 = 0 from rfl]; show SQ _ (_ ++ []); rw [List.append_nil]; have ea : h.toNat = (M 125 1).toNat := by { omega }; rw [ea] at p3; exact p3) (by omega)
      have hb2 := flL_b (f := sH (M 125)) (b := 38) h.toNat (fun i i0 i1 => sH_b hN ⟨i0, by omega⟩)
      have sg := sH_g (h := h) hN (by omega)
      refine fs_r_call (sta := false) (idx := 348) (as := [.inr (.ref 124), .inr (.long (Int64.ofInt 4562600))]) (rest := []) (L1 := [some (.inr (.ref 124)), some (.inl h), zl2]) (st1 := [.inr (.long (Int64.ofInt 4562600)), .inr (.ref 124)]) (M1 := M3) (ob := []) rfl rfl rfl trivial rfl rfl (Nat.le_of_ble_eq_true rfl) ⟨Or.inr (Nat.le_of_ble_eq_true rfl), Or.inr fs_ob124⟩ (by decide) ?_
      refine fs_m_spells1 (l := (l ++ flL h.toNat (sH (M 125)))) (p3) (by rw [List.length_append]; omega) (fun (A1 : fs_M) (f1_ : sqf M3 A1) (p1_ : SQ A1 ((l ++ flL h.toNat (sH (M 125))) ++ wdL 1)) => ?_)
      refine fs_r_nop (L1 := [some (.inr (.ref 124)), some (.inl h), some (.inl 0)]) (st1 := []) (M1 := A1) (ob := [2 < 3]) rfl rfl (fs_oc (by decide) trivial) ?_
      have loop21 : ∀ (n21 : Nat) (k : Int) (M4 : fs_M), (0 ≤ k ∧ k ≤ 5) → (sqf M M4) → (SQ M4 (l ++ flL h.toNat (sH (M 125)) ++ wdL 1 ++ flL k.toNat (fun q => ndL (M 125 (10 + 5 * h + q))))) → 5 - k < (n21 : Int) → fs_W (d + 2) 279 21 [some (.inr (.ref 124)), some (.inl h), some (.inl k)] [] M4 Q := by
        intro n21
        induction n21 with
        | zero =>
          intro k M4 i4 f4 p4 hm21
          exfalso
          omega
        | succ n21 ih21 =>
          intro k M4 i4 f4 p4 hm21
          refine fs_r_icmp (a := k) (y := 5) (L1 := [some (.inr (.ref 124)), some (.inl h), some (.inl k)]) (st1 := []) (M1 := M4) (ob := []) rfl rfl trivial (fun (h5 : 5 ≤ k) => ?_) (fun (h5 : ¬ (5 ≤ k)) => ?_)
          · refine fs_r_nop (L1 := [some (.inr (.ref 124)), some (.inl h), some (.inl 0)]) (st1 := []) (M1 := M4) (ob := [2 < 3]) rfl rfl (fs_oc (by decide) trivial) ?_
            have loop44 : ∀ (n44 : Nat) (a : Int) (M5 : fs_M), (0 ≤ a ∧ a ≤ M 125 0) → (sqf M M5) → (SQ M5 (l ++ flL h.toNat (sH (M 125)) ++ wdL 1 ++ flL 5 (fun q => ndL (M 125 (10 + 5 * h + q))) ++ flL a.toNat (fun q => ndL (M 125 (40 + 4 * h + q))))) → M 125 0 - a < (n44 : Int) → fs_W (d + 2) 279 44 [some (.inr (.ref 124)), some (.inl h), some (.inl a)] [] M5 Q := by
              intro n44
              induction n44 with
              | zero =>
                intro a M5 i5 f5 p5 hm44
                exfalso
                omega
              | succ n44 ih44 =>
                intro a M5 i5 f5 p5 hm44
                have e50 := congrFun f5.N 0
                refine fs_r_icmp (a := a) (y := (M5 125 0)) (L1 := [some (.inr (.ref 124)), some (.inl h), some (.inl a)]) (st1 := []) (M1 := M5) (ob := [124 < fs_N ∧ fs_kd 124 = 6, (125 < fs_N ∧ fs_kd 125 = 100) ∧ (0 : Int) ≤ 0 ∧ 0 < fs_ln 125]) rfl rfl (fs_oc fs_ob124 (fs_oc (fs_ar125 (by omega) (by omega)) trivial)) (fun (h6 : (M5 125 0) ≤ a) => ?_) (fun (h6 : ¬ ((M5 125 0) ≤ a)) => ?_)
                · have gb := flL_b (f := fun q => ndL (M 125 (40 + 4 * h + q))) (b := 5) a.toNat (fun i i0 i1 => (ndL_b (n := M 125 (40 + 4 * h + i))).1)
                  have fs1 := flL_s (f := sH (M 125)) i3.1
                  refine fs_r_call (sta := false) (idx := 345) (as := [.inr (.ref 124), .inl 59]) (rest := []) (L1 := [some (.inr (.ref 124)), some (.inl h), some (.inl a)]) (st1 := [.inl 59, .inr (.ref 124)]) (M1 := M5) (ob := []) rfl rfl rfl trivial rfl rfl (Nat.le_of_ble_eq_true rfl) ⟨Or.inr (Nat.le_of_ble_eq_true rfl), Or.inr fs_ob124⟩ (by decide) ?_
                  refine fs_m_spellsByte (l := (l ++ flL h.toNat (sH (M 125)) ++ wdL 1 ++ flL 5 (fun q => ndL (M 125 (10 + 5 * h + q))) ++ flL a.toNat (fun q => ndL (M 125 (40 + 4 * h + q))))) (p5) (by rw [List.length_append, List.length_append, List.length_append, List.length_append]; omega) (fun (A4 : fs_M) (f4_ : sqf M5 A4) (p4_ : SQ A4 ((l ++ flL h.toNat (sH (M 125)) ++ wdL 1 ++ flL 5 (fun q => ndL (M 125 (10 + 5 * h + q))) ++ flL a.toNat (fun q => ndL (M 125 (40 + 4 * h + q)))) ++ [59])) => ?_)
                  refine fs_r_goto (L1 := [some (.inr (.ref 124)), some (.inl (h + 1)), some (.inl a)]) (st1 := []) (M1 := A4) (ob := [fs_rg (h + 1)]) rfl rfl (fs_oc ⟨by omega, by omega⟩ trivial) ?_
                  exact ih2 ((h + 1)) (some (.inl a)) A4 (by omega) (f5.tr f4_) (by
                        rw [fs1, ← List.append_assoc]
                        have ea : a.toNat = (M 125 0).toNat := by omega
                        rw [ea] at p4_
                        show SQ _ (l ++ flL h.toNat (sH (M 125)) ++ (wdL 1 ++ flL 5 _ ++ flL _ _ ++ [59]))
                        simp only [List.append_assoc] at p4_ ⊢
                        exact p4_) (by omega)
                have gb := flL_b (f := fun q => ndL (M 125 (40 + 4 * h + q))) (b := 5) a.toNat (fun i i0 i1 => (ndL_b (n := M 125 (40 + 4 * h + i))).1)
                have e1 : M5 125 = M 125 := f5.N
                have qb := hhd h a (by omega) (by omega) (by omega) (by omega)
                have fs := flL_s (f := fun q => ndL (M 125 (40 + 4 * h + q))) i5.1
                refine fs_r_call (sta := false) (idx := 72) (as := [.inr (.ref 124), .inl h, .inl a]) (rest := [.inr (.ref 124)]) (L1 := [some (.inr (.ref 124)), some (.inl h), some (.inl a)]) (st1 := [.inl a, .inl h, .inr (.ref 124), .inr (.ref 124)]) (M1 := M5) (ob := []) rfl rfl rfl trivial rfl rfl (Nat.le_of_ble_eq_true rfl) ⟨Or.inr (Nat.le_of_ble_eq_true rfl), Or.inr fs_ob124⟩ (by decide) ?_
                refine fs_m_holds (by omega) (by omega) ?_
                refine fs_r_call (sta := false) (idx := 352) (as := [.inr (.ref 124), .inl (M5 125 (40 + 4 * h + a))]) (rest := []) (L1 := [some (.inr (.ref 124)), some (.inl h), some (.inl a)]) (st1 := [.inl (M5 125 (40 + 4 * h + a)), .inr (.ref 124)]) (M1 := M5) (ob := []) rfl rfl rfl trivial rfl rfl (Nat.le_of_ble_eq_true rfl) ⟨Or.inr (Nat.le_of_ble_eq_true rfl), Or.inr fs_ob124⟩ (by decide) ?_
                refine fs_m_spellsNumber (l := (l ++ flL h.toNat (sH (M 125)) ++ wdL 1 ++ flL 5 (fun q => ndL (M 125 (10 + 5 * h + q))) ++ flL a.toNat (fun q => ndL (M 125 (40 + 4 * h + q))))) (p5) (by rw [List.length_append, List.length_append, List.length_append, List.length_append]; omega) (by rw [e1]; omega) (fun (A3 : fs_M) (f3_ : sqf M5 A3) (p3_ : SQ A3 ((l ++ flL h.toNat (sH (M 125)) ++ wdL 1 ++ flL 5 (fun q => ndL (M 125 (10 + 5 * h + q))) ++ flL a.toNat (fun q => ndL (M 125 (40 + 4 * h + q)))) ++ ndL (M5 125 (40 + 4 * h + a)))) => ?_)
                refine fs_r_goto (L1 := [some (.inr (.ref 124)), some (.inl h), some (.inl (a + 1))]) (st1 := []) (M1 := A3) (ob := [fs_rg (a + 1)]) rfl rfl (fs_oc ⟨by omega, by omega⟩ trivial) ?_
                exact ih44 ((a + 1)) A3 (by omega) (f5.tr f3_) (by rw [fs, ← List.append_assoc]; rw [e1] at p3_; exact p3_) (by omega)
            exact loop44 (((M 125 0 - (0)) : Int) + 1).toNat (0) M4 (by omega) (f4) (by rw [show Int.toNat 0 = 0 from rfl]; show SQ _ (_ ++ []); rw [List.append_nil]; have k5 : k.toNat = 5 := by { omega }; rw [k5] at p4; exact p4) (by omega)
          have fb := flL_b (f := fun q => ndL (M 125 (10 + 5 * h + q))) (b := 5) k.toNat (fun i _ _ => (ndL_b (n := M 125 (10 + 5 * h + i))).1)
          have e1 : M4 125 = M 125 := f4.N
          have qb := hfc h k (by omega) (by omega) (by omega) (by omega)
          have fs := flL_s (f := fun q => ndL (M 125 (10 + 5 * h + q))) i4.1
          refine fs_r_call (sta := false) (idx := 175) (as := [.inr (.ref 124), .inl h, .inl k]) (rest := [.inr (.ref 124)]) (L1 := [some (.inr (.ref 124)), some (.inl h), some (.inl k)]) (st1 := [.inl k, .inl h, .inr (.ref 124), .inr (.ref 124)]) (M1 := M4) (ob := []) rfl rfl rfl trivial rfl rfl (Nat.le_of_ble_eq_true rfl) ⟨Or.inr (Nat.le_of_ble_eq_true rfl), Or.inr fs_ob124⟩ (by decide) ?_
          refine fs_m_houseOf (by omega) (by omega) ?_
          refine fs_r_call (sta := false) (idx := 352) (as := [.inr (.ref 124), .inl (M4 125 (10 + 5 * h + k))]) (rest := []) (L1 := [some (.inr (.ref 124)), some (.inl h), some (.inl k)]) (st1 := [.inl (M4 125 (10 + 5 * h + k)), .inr (.ref 124)]) (M1 := M4) (ob := []) rfl rfl rfl trivial rfl rfl (Nat.le_of_ble_eq_true rfl) ⟨Or.inr (Nat.le_of_ble_eq_true rfl), Or.inr fs_ob124⟩ (by decide) ?_
          refine fs_m_spellsNumber (l := (l ++ flL h.toNat (sH (M 125)) ++ wdL 1 ++ flL k.toNat (fun q => ndL (M 125 (10 + 5 * h + q))))) (p4) (by rw [List.length_append, List.length_append, List.length_append]; omega) (by rw [e1]; omega) (fun (A2 : fs_M) (f2_ : sqf M4 A2) (p2_ : SQ A2 ((l ++ flL h.toNat (sH (M 125)) ++ wdL 1 ++ flL k.toNat (fun q => ndL (M 125 (10 + 5 * h + q)))) ++ ndL (M4 125 (10 + 5 * h + k)))) => ?_)
          refine fs_r_goto (L1 := [some (.inr (.ref 124)), some (.inl h), some (.inl (k + 1))]) (st1 := []) (M1 := A2) (ob := [fs_rg (k + 1)]) rfl rfl (fs_oc ⟨by omega, by omega⟩ trivial) ?_
          exact ih21 ((k + 1)) A2 (by omega) (f4.tr f2_) (by rw [fs, ← List.append_assoc]; rw [e1] at p2_; exact p2_) (by omega)
      exact loop21 (((5 - (0)) : Int) + 1).toNat (0) A1 (by omega) (f3.tr f1_) (by rw [show Int.toNat 0 = 0 from rfl]; show SQ _ (_ ++ []); rw [List.append_nil]; exact p1_) (by omega)
  exact loop2 (((M 125 1 - (0)) : Int) + 1).toNat (0) (none) M (by omega) (sqf.rf) (by rw [show Int.toNat 0 = 0 from rfl]; show SQ _ (l ++ []); rw [List.append_nil]; exact hP) (by omega)

theorem fs_m_spell {d : Nat} {M : fs_M} {Q : Option fs_V → fs_M → Prop} {i : Int}  (hI : fs_NI (M 125)) (hZ : fs_NZ (M 125)) (hX : fs_NX (M 125)) (hq0 : ∀ (M2 : fs_M), (mm_q M M2) → Q (some (.inl (rq_spell (M 125) i))) M2) : fs_W (d + 3) 280 0 [some (.inr (.ref 124)), some (.inl i), none, none] [] M Q := by
  have hN := hI
  obtain ⟨⟨hA0, hA1⟩, ⟨hH0, hH1⟩, hcv, hfc, hhd, hln, hsh, hit, hst⟩ := id hN
  have w0 := wdL_n.1
  have w3 := wdL_n.2.2.2.1
  have w4 := wdL_n.2.2.2.2
  have aB := flL_b (f := sA (M 125)) (b := 12) (M 125 0).toNat (fun i i0 i1 => sA_b hN ⟨i0, by omega⟩)
  have hB := flL_b (f := sH (M 125)) (b := 38) (M 125 1).toNat (fun i i0 i1 => sH_b hN ⟨i0, by omega⟩)
  have lB := sLL_b hN hZ (M 125 1).toNat (by omega)
  have lbL := spL_b hN hZ hX
  refine fs_r_icmp (a := i) (y := (-1)) (L1 := [some (.inr (.ref 124)), some (.inl i), none, none]) (st1 := []) (M1 := M) (ob := []) rfl rfl trivial (fun (h1 : (-1) ≤ i) => ?_) (fun (h1 : ¬ ((-1) ≤ i)) => ?_)
  · refine fs_r_nop (L1 := [some (.inr (.ref 124)), some (.inl i), some (.inl 0), none]) (st1 := []) (M1 := (fs_up M 124 34 0)) (ob := [124 < fs_N ∧ fs_kd 124 = 6, 2 < 4]) rfl rfl (fs_oc fs_ob124 (fs_oc (by decide) trivial)) ?_
    have loop14 : ∀ (n14 : Nat) (a : Int) (zl3 : Option fs_V) (M3 : fs_M), (0 ≤ a ∧ a ≤ M 125 0) → (sqf M M3) → (SQ M3 (flL a.toNat (sA (M 125)))) → M 125 0 - a < (n14 : Int) → fs_W (d + 3) 280 14 [some (.inr (.ref 124)), some (.inl i), some (.inl a), zl3] [] M3 Q := by
      intro n14
      induction n14 with
      | zero =>
        intro a zl3 M3 i3 f3 p3 hm14
        exfalso
        omega
      | succ n14 ih14 =>
        intro a zl3 M3 i3 f3 p3 hm14
        have e30 := congrFun f3.N 0
        refine fs_r_icmp (a := a) (y := (M3 125 0)) (L1 := [some (.inr (.ref 124)), some (.inl i), some (.inl a), zl3]) (st1 := []) (M1 := M3) (ob := [124 < fs_N ∧ fs_kd 124 = 6, (125 < fs_N ∧ fs_kd 125 = 100) ∧ (0 : Int) ≤ 0 ∧ 0 < fs_ln 125]) rfl rfl (fs_oc fs_ob124 (fs_oc (fs_ar125 (by omega) (by omega)) trivial)) (fun (h2 : (M3 125 0) ≤ a) => ?_) (fun (h2 : ¬ ((M3 125 0) ≤ a)) => ?_)
        · refine fs_r_call (sta := false) (idx := 355) (as := [.inr (.ref 124)]) (rest := []) (L1 := [some (.inr (.ref 124)), some (.inl i), some (.inl a), zl3]) (st1 := [.inr (.ref 124)]) (M1 := M3) (ob := []) rfl rfl rfl trivial rfl rfl (Nat.le_of_ble_eq_true rfl) ⟨Or.inr (Nat.le_of_ble_eq_true rfl), Or.inr fs_ob124⟩ (by decide) ?_
          refine fs_m_spellsHouses (l := (flL (M 125 0).toNat (sA (M 125)))) (by rw [f3.N]; exact hN) ((by rw [show a.toNat = (M 125 0).toNat by omega] at p3; exact p3)) (by rw [f3.N]; exact hZ) (by omega) (fun (A5 : fs_M) (f5_ : sqf M3 A5) (p5_ : SQ A5 ((flL (M 125 0).toNat (sA (M 125))) ++ flL (M3 125 1).toNat (sH (M3 125)) ++ flL (M3 125 1).toNat (fun h => flL (M3 125 1).toNat (sL (M3 125) h)))) => ?_)
          refine fs_r_nop (L1 := [some (.inr (.ref 124)), some (.inl i), some (.inl 0), zl3]) (st1 := []) (M1 := A5) (ob := [2 < 4]) rfl rfl (fs_oc (by decide) trivial) ?_
          have loop74 : ∀ (n74 : Nat) (s : Int) (zl3 : Option fs_V) (M5 : fs_M), (0 ≤ s ∧ s ≤ 2) → (sqf M M5) → (SQ M5 (flL (M 125 0).toNat (sA (M 125)) ++ flL (M 125 1).toNat (sH (M 125)) ++ flL (M 125 1).toNat (fun h => flL (M 125 1).toNat (sL (M 125) h)) ++ flL s.toNat (fun s => flL (M 125 (100 + 13 * s)).toNat (sI (M 125) s)))) → 2 - s < (n74 : Int) → fs_W (d + 3) 280 74 [some (.inr (.ref 124)), some (.inl i), some (.inl s), zl3] [] M5 Q := by
            intro n74
            induction n74 with
            | zero =>
              intro s zl3 M5 i5 f5 p5 hm74
              exfalso
              omega
            | succ n74 ih74 =>
              intro s zl3 M5 i5 f5 p5 hm74
              refine fs_r_icmp (a := s) (y := 2) (L1 := [some (.inr (.ref 124)), some (.inl i), some (.inl s), zl3]) (st1 := []) (M1 := M5) (ob := []) rfl rfl trivial (fun (h3 : 2 ≤ s) => ?_) (fun (h3 : ¬ (2 ≤ s)) => ?_)
              · have es : s = 2 := by omega
                have p9 : SQ M5 (spL (M 125)) := by
                  rw [es] at p5
                  have e : spL (M 125) = flL (M 125 0).toNat (sA (M 125)) ++ flL (M 125 1).toNat (sH (M 125)) ++ flL (M 125 1).toNat (fun h => flL (M 125 1).toNat (sL (M 125) h)) ++ flL (Int.toNat 2) (fun s => flL (M 125 (100 + 13 * s)).toNat (sI (M 125) s)) := by
                    show _ = _ ++ (([] ++ flL (M 125 (100 + 13 * 0)).toNat (sI (M 125) 0)) ++ flL (M 125 (100 + 13 * 1)).toNat (sI (M 125) 1))
                    unfold spL
                    simp only [List.nil_append, List.append_assoc]
                    rfl
                  rw [e]
                  exact p5
                have q9 : mm_q M M5 := ⟨fun r z => f5.1 r (by omega) (by omega), f5.2 4 (by decide), f5.2 6 (by decide)⟩
                obtain ⟨z1, z2⟩ := id p9
                refine fs_r_icmp (a := i) (y := (-1)) (L1 := [some (.inr (.ref 124)), some (.inl i), some (.inl s), zl3]) (st1 := []) (M1 := M5) (ob := []) rfl rfl trivial (fun (h4 : ¬ i = (-1)) => ?_) (fun (h4 : ¬ (¬ i = (-1))) => ?_)
                · refine fs_r_icmp (a := i) (y := (M5 124 34)) (L1 := [some (.inr (.ref 124)), some (.inl i), some (.inl s), zl3]) (st1 := []) (M1 := M5) (ob := [124 < fs_N ∧ fs_kd 124 = 6]) rfl rfl (fs_oc fs_ob124 trivial) (fun (h5 : (M5 124 34) ≤ i) => ?_) (fun (h5 : ¬ ((M5 124 34) ≤ i)) => ?_)
                  · refine fs_r_nop (L1 := [some (.inr (.ref 124)), some (.inl i), some (.inl s), zl3]) (st1 := [.inl (-2)]) (M1 := M5) (ob := []) rfl rfl trivial ?_
                    refine fs_r_iret (a := (-2)) (L1 := [some (.inr (.ref 124)), some (.inl i), some (.inl s), zl3]) (M1 := M5) (ob := []) rfl rfl trivial (Or.inl rfl) ?_
                    first
                      | exact fs_qi (by unfold rq_spell; rw [if_neg (by omega), if_pos (by omega)]; exact z1) (hq0 _ q9)
                      | exact fs_qi (by unfold rq_spell; rw [if_neg (by omega), if_neg (by omega), if_neg (by omega)]) (hq0 _ q9)
                      | exact fs_qi (by unfold rq_spell; rw [if_neg (by omega), if_neg (by omega), if_pos (by omega)]; have w := z2 i.toNat (by omega); rw [show ((i.toNat : Nat) : Int) = i by omega] at w; exact w) (hq0 _ q9)
                  refine fs_r_goto (L1 := [some (.inr (.ref 124)), some (.inl i), some (.inl s), zl3]) (st1 := [.inl (M5 138 i)]) (M1 := M5) (ob := [124 < fs_N ∧ fs_kd 124 = 6, (138 < fs_N ∧ fs_kd 138 = 100) ∧ (0 : Int) ≤ i ∧ i < fs_ln 138]) rfl rfl (fs_oc fs_ob124 (fs_oc (fs_ar138 (by omega) (by omega)) trivial)) ?_
                  refine fs_r_iret (a := (M5 138 i)) (L1 := [some (.inr (.ref 124)), some (.inl i), some (.inl s), zl3]) (M1 := M5) (ob := []) rfl rfl trivial (Or.inl rfl) ?_
                  first
                    | exact fs_qi (by unfold rq_spell; rw [if_neg (by omega), if_pos (by omega)]; exact z1) (hq0 _ q9)
                    | exact fs_qi (by unfold rq_spell; rw [if_neg (by omega), if_neg (by omega), if_neg (by omega)]) (hq0 _ q9)
                    | exact fs_qi (by unfold rq_spell; rw [if_neg (by omega), if_neg (by omega), if_pos (by omega)]; have w := z2 i.toNat (by omega); rw [show ((i.toNat : Nat) : Int) = i by omega] at w; exact w) (hq0 _ q9)
                refine fs_r_goto (L1 := [some (.inr (.ref 124)), some (.inl i), some (.inl s), zl3]) (st1 := [.inl (M5 124 34)]) (M1 := M5) (ob := [124 < fs_N ∧ fs_kd 124 = 6]) rfl rfl (fs_oc fs_ob124 trivial) ?_
                refine fs_r_iret (a := (M5 124 34)) (L1 := [some (.inr (.ref 124)), some (.inl i), some (.inl s), zl3]) (M1 := M5) (ob := []) rfl rfl trivial (Or.inl rfl) ?_
                first
                  | exact fs_qi (by unfold rq_spell; rw [if_neg (by omega), if_pos (by omega)]; exact z1) (hq0 _ q9)
                  | exact fs_qi (by unfold rq_spell; rw [if_neg (by omega), if_neg (by omega), if_neg (by omega)]) (hq0 _ q9)
                  | exact fs_qi (by unfold rq_spell; rw [if_neg (by omega), if_neg (by omega), if_pos (by omega)]; have w := z2 i.toNat (by omega); rw [show ((i.toNat : Nat) : Int) = i by omega] at w; exact w) (hq0 _ q9)
              refine fs_r_nop (L1 := [some (.inr (.ref 124)), some (.inl i), some (.inl s), some (.inl 0)]) (st1 := []) (M1 := M5) (ob := [3 < 4]) rfl rfl (fs_oc (by decide) trivial) ?_
              have loop81 : ∀ (n81 : Nat) (k : Int) (M6 : fs_M), (0 ≤ k ∧ k ≤ M 125 (100 + 13 * s)) → (sqf M M6) → (SQ M6 (flL (M 125 0).toNat (sA (M 125)) ++ flL (M 125 1).toNat (sH (M 125)) ++ flL (M 125 1).toNat (fun h => flL (M 125 1).toNat (sL (M 125) h)) ++ flL s.toNat (fun s => flL (M 125 (100 + 13 * s)).toNat (sI (M 125) s)) ++ flL k.toNat (sI (M 125) s))) → M 125 (100 + 13 * s) - k < (n81 : Int) → fs_W (d + 3) 280 81 [some (.inr (.ref 124)), some (.inl i), some (.inl s), some (.inl k)] [] M6 Q := by
                intro n81
                induction n81 with
                | zero =>
                  intro k M6 i6 f6 p6 hm81
                  exfalso
                  have sh := hsh s (by omega) (by omega)
                  omega
                | succ n81 ih81 =>
                  intro k M6 i6 f6 p6 hm81
                  have e6s := congrFun f6.N (100 + 13 * s)
                  refine fs_r_icmp (a := k) (y := (M6 125 (100 + (13 * s)))) (L1 := [some (.inr (.ref 124)), some (.inl i), some (.inl s), some (.inl k)]) (st1 := []) (M1 := M6) (ob := [124 < fs_N ∧ fs_kd 124 = 6, fs_rg (13 * s), fs_rg (100 + (13 * s)), (125 < fs_N ∧ fs_kd 125 = 100) ∧ (0 : Int) ≤ (100 + (13 * s)) ∧ (100 + (13 * s)) < fs_ln 125]) rfl (fs_exA 6 (o1 := [124 < fs_N ∧ fs_kd 124 = 6]) (L1 := [some (.inr (.ref 124)), some (.inl i), some (.inl s), some (.inl k)]) (st1 := [.inl s, .inl 13, .inl 100, .inr (.ref 125), .inl k]) (M1 := M6) (o2 := [fs_rg (13 * s), fs_rg (100 + (13 * s)), (125 < fs_N ∧ fs_kd 125 = 100) ∧ (0 : Int) ≤ (100 + (13 * s)) ∧ (100 + (13 * s)) < fs_ln 125]) rfl rfl) (fs_oc fs_ob124 (fs_oc ⟨by omega, by omega⟩ (fs_oc ⟨by omega, by omega⟩ (fs_oc (fs_ar125 (by omega) (by omega)) trivial)))) (fun (h6 : (M6 125 (100 + (13 * s))) ≤ k) => ?_) (fun (h6 : ¬ ((M6 125 (100 + (13 * s))) ≤ k)) => ?_)
                  · refine fs_r_goto (L1 := [some (.inr (.ref 124)), some (.inl i), some (.inl (s + 1)), some (.inl k)]) (st1 := []) (M1 := M6) (ob := [fs_rg (s + 1)]) rfl rfl (fs_oc ⟨by omega, by omega⟩ trivial) ?_
                    exact ih74 ((s + 1)) (some (.inl k)) M6 (by omega) (f6) (by rw [flL_s i5.1, ← List.append_assoc]; have ek : k.toNat = (M 125 (100 + 13 * s)).toNat := by { omega }; rw [ek] at p6; exact p6) (by omega)
                  have sh := hsh s (by omega) (by omega)
                  have fsB := flL_b (f := fun s => flL (M 125 (100 + 13 * s)).toNat (sI (M 125) s)) (b := 48) s.toNat (fun t t0 t1 => by
                    have sh2 := hsh t t0 (by omega)
                    have w := flL_b (f := sI (M 125) t) (b := 12) (M 125 (100 + 13 * t)).toNat (fun i i0 i1 => sI_b hN (by omega) ⟨i0, by omega⟩ (hX t i t0 (by omega) i0 (by omega)))
                    show (flL (M 125 (100 + 13 * t)).toNat (sI (M 125) t)).length ≤ 48
                    omega)
                  have fb := flL_b (f := sI (M 125) s) (b := 12) k.toNat (fun i i0 i1 => sI_b hN (by omega) ⟨i0, by omega⟩ (hX s i (by omega) (by omega) i0 (by omega)))
                  have x1 := hX s k (by omega) (by omega) (by omega) (by omega)
                  have c1 := hit s k 1 (by omega) (by omega) (by omega) (by omega) (by omega) (by omega)
                  have c2 := hit s k 2 (by omega) (by omega) (by omega) (by omega) (by omega) (by omega)
                  have nb1 := (ndL_b (n := M 125 (100 + 13 * s + 1 + 3 * k + 1))).2.2.2 x1
                  have nb2 := (ndL_b (n := M 125 (100 + 13 * s + 1 + 3 * k + 2))).2.1 (by omega)
                  have fs := flL_s (f := sI (M 125) s) i6.1
                  have e6 : M6 125 = M 125 := f6.N
                  refine fs_r_if (a := s) (L1 := [some (.inr (.ref 124)), some (.inl i), some (.inl s), some (.inl k)]) (st1 := [.inr (.ref 124)]) (M1 := M6) (ob := []) rfl rfl trivial (fun (h7 : ¬ s = 0) => ?_) (fun (h7 : ¬ (¬ s = 0)) => ?_)
                  · refine fs_r_nop (L1 := [some (.inr (.ref 124)), some (.inl i), some (.inl s), some (.inl k)]) (st1 := [.inr (.long (Int64.ofInt 10265870)), .inr (.ref 124)]) (M1 := M6) (ob := []) rfl rfl trivial ?_
                    refine fs_r_call (sta := false) (idx := 348) (as := [.inr (.ref 124), .inr (.long (Int64.ofInt 10265870))]) (rest := []) (L1 := [some (.inr (.ref 124)), some (.inl i), some (.inl s), some (.inl k)]) (st1 := [.inr (.long (Int64.ofInt 10265870)), .inr (.ref 124)]) (M1 := M6) (ob := []) rfl rfl rfl trivial rfl rfl (Nat.le_of_ble_eq_true rfl) ⟨Or.inr (Nat.le_of_ble_eq_true rfl), Or.inr fs_ob124⟩ (by decide) ?_
                    refine fs_m_spells4 (l := (flL (M 125 0).toNat (sA (M 125)) ++ flL (M 125 1).toNat (sH (M 125)) ++ flL (M 125 1).toNat (fun h => flL (M 125 1).toNat (sL (M 125) h)) ++ flL s.toNat (fun s => flL (M 125 (100 + 13 * s)).toNat (sI (M 125) s)) ++ flL k.toNat (sI (M 125) s))) (p6) (by rw [List.length_append, List.length_append, List.length_append, List.length_append]; omega) (fun (A6 : fs_M) (f6_ : sqf M6 A6) (p6_ : SQ A6 ((flL (M 125 0).toNat (sA (M 125)) ++ flL (M 125 1).toNat (sH (M 125)) ++ flL (M 125 1).toNat (fun h => flL (M 125 1).toNat (sL (M 125) h)) ++ flL s.toNat (fun s => flL (M 125 (100 + 13 * s)).toNat (sI (M 125) s)) ++ flL k.toNat (sI (M 125) s)) ++ wdL 4)) => ?_)
                    have gg : A6 125 = M 125 := f6_.N.trans e6
                    refine fs_r_call (sta := false) (idx := 155) (as := [.inr (.ref 124), .inl s, .inl k, .inl 1]) (rest := [.inr (.ref 124)]) (L1 := [some (.inr (.ref 124)), some (.inl i), some (.inl s), some (.inl k)]) (st1 := [.inl 1, .inl k, .inl s, .inr (.ref 124), .inr (.ref 124)]) (M1 := A6) (ob := []) rfl rfl rfl trivial rfl rfl (Nat.le_of_ble_eq_true rfl) ⟨Or.inr (Nat.le_of_ble_eq_true rfl), Or.inr fs_ob124⟩ (by decide) ?_
                    refine fs_m_laidOf (by omega) (by omega) (by omega) ?_
                    refine fs_r_call (sta := false) (idx := 352) (as := [.inr (.ref 124), .inl (A6 125 (100 + 13 * s + 1 + 3 * k + 1))]) (rest := []) (L1 := [some (.inr (.ref 124)), some (.inl i), some (.inl s), some (.inl k)]) (st1 := [.inl (A6 125 (100 + 13 * s + 1 + 3 * k + 1)), .inr (.ref 124)]) (M1 := A6) (ob := []) rfl rfl rfl trivial rfl rfl (Nat.le_of_ble_eq_true rfl) ⟨Or.inr (Nat.le_of_ble_eq_true rfl), Or.inr fs_ob124⟩ (by decide) ?_
                    refine fs_m_spellsNumber (l := (flL (M 125 0).toNat (sA (M 125)) ++ flL (M 125 1).toNat (sH (M 125)) ++ flL (M 125 1).toNat (fun h => flL (M 125 1).toNat (sL (M 125) h)) ++ flL s.toNat (fun s => flL (M 125 (100 + 13 * s)).toNat (sI (M 125) s)) ++ flL k.toNat (sI (M 125) s) ++ wdL 4)) (p6_) (by rw [List.length_append, List.length_append, List.length_append, List.length_append, List.length_append]; omega) (by rw [gg]; omega) (fun (A7 : fs_M) (f7_ : sqf A6 A7) (p7_ : SQ A7 ((flL (M 125 0).toNat (sA (M 125)) ++ flL (M 125 1).toNat (sH (M 125)) ++ flL (M 125 1).toNat (fun h => flL (M 125 1).toNat (sL (M 125) h)) ++ flL s.toNat (fun s => flL (M 125 (100 + 13 * s)).toNat (sI (M 125) s)) ++ flL k.toNat (sI (M 125) s) ++ wdL 4) ++ ndL (A6 125 (100 + 13 * s + 1 + 3 * k + 1)))) => ?_)
                    have gh : A7 125 = M 125 := f7_.N.trans gg
                    refine fs_r_call (sta := false) (idx := 155) (as := [.inr (.ref 124), .inl s, .inl k, .inl 2]) (rest := [.inr (.ref 124)]) (L1 := [some (.inr (.ref 124)), some (.inl i), some (.inl s), some (.inl k)]) (st1 := [.inl 2, .inl k, .inl s, .inr (.ref 124), .inr (.ref 124)]) (M1 := A7) (ob := []) rfl rfl rfl trivial rfl rfl (Nat.le_of_ble_eq_true rfl) ⟨Or.inr (Nat.le_of_ble_eq_true rfl), Or.inr fs_ob124⟩ (by decide) ?_
                    refine fs_m_laidOf (by omega) (by omega) (by omega) ?_
                    refine fs_r_call (sta := false) (idx := 352) (as := [.inr (.ref 124), .inl (A7 125 (100 + 13 * s + 1 + 3 * k + 2))]) (rest := []) (L1 := [some (.inr (.ref 124)), some (.inl i), some (.inl s), some (.inl k)]) (st1 := [.inl (A7 125 (100 + 13 * s + 1 + 3 * k + 2)), .inr (.ref 124)]) (M1 := A7) (ob := []) rfl rfl rfl trivial rfl rfl (Nat.le_of_ble_eq_true rfl) ⟨Or.inr (Nat.le_of_ble_eq_true rfl), Or.inr fs_ob124⟩ (by decide) ?_
                    refine fs_m_spellsNumber (l := (flL (M 125 0).toNat (sA (M 125)) ++ flL (M 125 1).toNat (sH (M 125)) ++ flL (M 125 1).toNat (fun h => flL (M 125 1).toNat (sL (M 125) h)) ++ flL s.toNat (fun s => flL (M 125 (100 + 13 * s)).toNat (sI (M 125) s)) ++ flL k.toNat (sI (M 125) s) ++ wdL 4 ++ ndL (A6 125 (100 + 13 * s + 1 + 3 * k + 1)))) (p7_) (by rw [gg, List.length_append, List.length_append, List.length_append, List.length_append, List.length_append, List.length_append]; omega) (by rw [gh]; omega) (fun (A8 : fs_M) (f8_ : sqf A7 A8) (p8_ : SQ A8 ((flL (M 125 0).toNat (sA (M 125)) ++ flL (M 125 1).toNat (sH (M 125)) ++ flL (M 125 1).toNat (fun h => flL (M 125 1).toNat (sL (M 125) h)) ++ flL s.toNat (fun s => flL (M 125 (100 + 13 * s)).toNat (sI (M 125) s)) ++ flL k.toNat (sI (M 125) s) ++ wdL 4 ++ ndL (A6 125 (100 + 13 * s + 1 + 3 * k + 1))) ++ ndL (A7 125 (100 + 13 * s + 1 + 3 * k + 2)))) => ?_)
                    refine fs_r_call (sta := false) (idx := 345) (as := [.inr (.ref 124), .inl 59]) (rest := []) (L1 := [some (.inr (.ref 124)), some (.inl i), some (.inl s), some (.inl k)]) (st1 := [.inl 59, .inr (.ref 124)]) (M1 := A8) (ob := []) rfl rfl rfl trivial rfl rfl (Nat.le_of_ble_eq_true rfl) ⟨Or.inr (Nat.le_of_ble_eq_true rfl), Or.inr fs_ob124⟩ (by decide) ?_
                    refine fs_m_spellsByte (l := (flL (M 125 0).toNat (sA (M 125)) ++ flL (M 125 1).toNat (sH (M 125)) ++ flL (M 125 1).toNat (fun h => flL (M 125 1).toNat (sL (M 125) h)) ++ flL s.toNat (fun s => flL (M 125 (100 + 13 * s)).toNat (sI (M 125) s)) ++ flL k.toNat (sI (M 125) s) ++ wdL 4 ++ ndL (A6 125 (100 + 13 * s + 1 + 3 * k + 1)) ++ ndL (A7 125 (100 + 13 * s + 1 + 3 * k + 2)))) (p8_) (by rw [gg, gh, List.length_append, List.length_append, List.length_append, List.length_append, List.length_append, List.length_append, List.length_append]; omega) (fun (A9 : fs_M) (f9_ : sqf A8 A9) (p9_ : SQ A9 ((flL (M 125 0).toNat (sA (M 125)) ++ flL (M 125 1).toNat (sH (M 125)) ++ flL (M 125 1).toNat (fun h => flL (M 125 1).toNat (sL (M 125) h)) ++ flL s.toNat (fun s => flL (M 125 (100 + 13 * s)).toNat (sI (M 125) s)) ++ flL k.toNat (sI (M 125) s) ++ wdL 4 ++ ndL (A6 125 (100 + 13 * s + 1 + 3 * k + 1)) ++ ndL (A7 125 (100 + 13 * s + 1 + 3 * k + 2))) ++ [59])) => ?_)
                    refine fs_r_goto (L1 := [some (.inr (.ref 124)), some (.inl i), some (.inl s), some (.inl (k + 1))]) (st1 := []) (M1 := A9) (ob := [fs_rg (k + 1)]) rfl rfl (fs_oc ⟨by omega, by omega⟩ trivial) ?_
                    exact ih81 ((k + 1)) A9 (by omega) ((((f6.tr f6_).tr f7_).tr f8_).tr f9_) (by
                          rw [fs, ← List.append_assoc]
                          rw [gg, gh] at p9_
                          first
                            | (have sz : s = 0 := by omega
                               subst sz
                               show SQ _ (_ ++ (wdL 3 ++ ndL _ ++ ndL _ ++ [59]))
                               simp only [List.append_assoc] at p9_ ⊢
                               exact p9_)
                            | (have sz : s = 1 := by omega
                               subst sz
                               show SQ _ (_ ++ (wdL 4 ++ ndL _ ++ ndL _ ++ [59]))
                               simp only [List.append_assoc] at p9_ ⊢
                               exact p9_)) (by omega)
                  refine fs_r_goto (L1 := [some (.inr (.ref 124)), some (.inl i), some (.inl s), some (.inl k)]) (st1 := [.inr (.long (Int64.ofInt 2230)), .inr (.ref 124)]) (M1 := M6) (ob := []) rfl rfl trivial ?_
                  refine fs_r_call (sta := false) (idx := 348) (as := [.inr (.ref 124), .inr (.long (Int64.ofInt 2230))]) (rest := []) (L1 := [some (.inr (.ref 124)), some (.inl i), some (.inl s), some (.inl k)]) (st1 := [.inr (.long (Int64.ofInt 2230)), .inr (.ref 124)]) (M1 := M6) (ob := []) rfl rfl rfl trivial rfl rfl (Nat.le_of_ble_eq_true rfl) ⟨Or.inr (Nat.le_of_ble_eq_true rfl), Or.inr fs_ob124⟩ (by decide) ?_
                  refine fs_m_spells3 (l := (flL (M 125 0).toNat (sA (M 125)) ++ flL (M 125 1).toNat (sH (M 125)) ++ flL (M 125 1).toNat (fun h => flL (M 125 1).toNat (sL (M 125) h)) ++ flL s.toNat (fun s => flL (M 125 (100 + 13 * s)).toNat (sI (M 125) s)) ++ flL k.toNat (sI (M 125) s))) (p6) (by rw [List.length_append, List.length_append, List.length_append, List.length_append]; omega) (fun (A6 : fs_M) (f6_ : sqf M6 A6) (p6_ : SQ A6 ((flL (M 125 0).toNat (sA (M 125)) ++ flL (M 125 1).toNat (sH (M 125)) ++ flL (M 125 1).toNat (fun h => flL (M 125 1).toNat (sL (M 125) h)) ++ flL s.toNat (fun s => flL (M 125 (100 + 13 * s)).toNat (sI (M 125) s)) ++ flL k.toNat (sI (M 125) s)) ++ wdL 3)) => ?_)
                  have gg : A6 125 = M 125 := f6_.N.trans e6
                  refine fs_r_call (sta := false) (idx := 155) (as := [.inr (.ref 124), .inl s, .inl k, .inl 1]) (rest := [.inr (.ref 124)]) (L1 := [some (.inr (.ref 124)), some (.inl i), some (.inl s), some (.inl k)]) (st1 := [.inl 1, .inl k, .inl s, .inr (.ref 124), .inr (.ref 124)]) (M1 := A6) (ob := []) rfl rfl rfl trivial rfl rfl (Nat.le_of_ble_eq_true rfl) ⟨Or.inr (Nat.le_of_ble_eq_true rfl), Or.inr fs_ob124⟩ (by decide) ?_
                  refine fs_m_laidOf (by omega) (by omega) (by omega) ?_
                  refine fs_r_call (sta := false) (idx := 352) (as := [.inr (.ref 124), .inl (A6 125 (100 + 13 * s + 1 + 3 * k + 1))]) (rest := []) (L1 := [some (.inr (.ref 124)), some (.inl i), some (.inl s), some (.inl k)]) (st1 := [.inl (A6 125 (100 + 13 * s + 1 + 3 * k + 1)), .inr (.ref 124)]) (M1 := A6) (ob := []) rfl rfl rfl trivial rfl rfl (Nat.le_of_ble_eq_true rfl) ⟨Or.inr (Nat.le_of_ble_eq_true rfl), Or.inr fs_ob124⟩ (by decide) ?_
                  refine fs_m_spellsNumber (l := (flL (M 125 0).toNat (sA (M 125)) ++ flL (M 125 1).toNat (sH (M 125)) ++ flL (M 125 1).toNat (fun h => flL (M 125 1).toNat (sL (M 125) h)) ++ flL s.toNat (fun s => flL (M 125 (100 + 13 * s)).toNat (sI (M 125) s)) ++ flL k.toNat (sI (M 125) s) ++ wdL 3)) (p6_) (by rw [List.length_append, List.length_append, List.length_append, List.length_append, List.length_append]; omega) (by rw [gg]; omega) (fun (A7 : fs_M) (f7_ : sqf A6 A7) (p7_ : SQ A7 ((flL (M 125 0).toNat (sA (M 125)) ++ flL (M 125 1).toNat (sH (M 125)) ++ flL (M 125 1).toNat (fun h => flL (M 125 1).toNat (sL (M 125) h)) ++ flL s.toNat (fun s => flL (M 125 (100 + 13 * s)).toNat (sI (M 125) s)) ++ flL k.toNat (sI (M 125) s) ++ wdL 3) ++ ndL (A6 125 (100 + 13 * s + 1 + 3 * k + 1)))) => ?_)
                  have gh : A7 125 = M 125 := f7_.N.trans gg
                  refine fs_r_call (sta := false) (idx := 155) (as := [.inr (.ref 124), .inl s, .inl k, .inl 2]) (rest := [.inr (.ref 124)]) (L1 := [some (.inr (.ref 124)), some (.inl i), some (.inl s), some (.inl k)]) (st1 := [.inl 2, .inl k, .inl s, .inr (.ref 124), .inr (.ref 124)]) (M1 := A7) (ob := []) rfl rfl rfl trivial rfl rfl (Nat.le_of_ble_eq_true rfl) ⟨Or.inr (Nat.le_of_ble_eq_true rfl), Or.inr fs_ob124⟩ (by decide) ?_
                  refine fs_m_laidOf (by omega) (by omega) (by omega) ?_
                  refine fs_r_call (sta := false) (idx := 352) (as := [.inr (.ref 124), .inl (A7 125 (100 + 13 * s + 1 + 3 * k + 2))]) (rest := []) (L1 := [some (.inr (.ref 124)), some (.inl i), some (.inl s), some (.inl k)]) (st1 := [.inl (A7 125 (100 + 13 * s + 1 + 3 * k + 2)), .inr (.ref 124)]) (M1 := A7) (ob := []) rfl rfl rfl trivial rfl rfl (Nat.le_of_ble_eq_true rfl) ⟨Or.inr (Nat.le_of_ble_eq_true rfl), Or.inr fs_ob124⟩ (by decide) ?_
                  refine fs_m_spellsNumber (l := (flL (M 125 0).toNat (sA (M 125)) ++ flL (M 125 1).toNat (sH (M 125)) ++ flL (M 125 1).toNat (fun h => flL (M 125 1).toNat (sL (M 125) h)) ++ flL s.toNat (fun s => flL (M 125 (100 + 13 * s)).toNat (sI (M 125) s)) ++ flL k.toNat (sI (M 125) s) ++ wdL 3 ++ ndL (A6 125 (100 + 13 * s + 1 + 3 * k + 1)))) (p7_) (by rw [gg, List.length_append, List.length_append, List.length_append, List.length_append, List.length_append, List.length_append]; omega) (by rw [gh]; omega) (fun (A8 : fs_M) (f8_ : sqf A7 A8) (p8_ : SQ A8 ((flL (M 125 0).toNat (sA (M 125)) ++ flL (M 125 1).toNat (sH (M 125)) ++ flL (M 125 1).toNat (fun h => flL (M 125 1).toNat (sL (M 125) h)) ++ flL s.toNat (fun s => flL (M 125 (100 + 13 * s)).toNat (sI (M 125) s)) ++ flL k.toNat (sI (M 125) s) ++ wdL 3 ++ ndL (A6 125 (100 + 13 * s + 1 + 3 * k + 1))) ++ ndL (A7 125 (100 + 13 * s + 1 + 3 * k + 2)))) => ?_)
                  refine fs_r_call (sta := false) (idx := 345) (as := [.inr (.ref 124), .inl 59]) (rest := []) (L1 := [some (.inr (.ref 124)), some (.inl i), some (.inl s), some (.inl k)]) (st1 := [.inl 59, .inr (.ref 124)]) (M1 := A8) (ob := []) rfl rfl rfl trivial rfl rfl (Nat.le_of_ble_eq_true rfl) ⟨Or.inr (Nat.le_of_ble_eq_true rfl), Or.inr fs_ob124⟩ (by decide) ?_
                  refine fs_m_spellsByte (l := (flL (M 125 0).toNat (sA (M 125)) ++ flL (M 125 1).toNat (sH (M 125)) ++ flL (M 125 1).toNat (fun h => flL (M 125 1).toNat (sL (M 125) h)) ++ flL s.toNat (fun s => flL (M 125 (100 + 13 * s)).toNat (sI (M 125) s)) ++ flL k.toNat (sI (M 125) s) ++ wdL 3 ++ ndL (A6 125 (100 + 13 * s + 1 + 3 * k + 1)) ++ ndL (A7 125 (100 + 13 * s + 1 + 3 * k + 2)))) (p8_) (by rw [gg, gh, List.length_append, List.length_append, List.length_append, List.length_append, List.length_append, List.length_append, List.length_append]; omega) (fun (A9 : fs_M) (f9_ : sqf A8 A9) (p9_ : SQ A9 ((flL (M 125 0).toNat (sA (M 125)) ++ flL (M 125 1).toNat (sH (M 125)) ++ flL (M 125 1).toNat (fun h => flL (M 125 1).toNat (sL (M 125) h)) ++ flL s.toNat (fun s => flL (M 125 (100 + 13 * s)).toNat (sI (M 125) s)) ++ flL k.toNat (sI (M 125) s) ++ wdL 3 ++ ndL (A6 125 (100 + 13 * s + 1 + 3 * k + 1)) ++ ndL (A7 125 (100 + 13 * s + 1 + 3 * k + 2))) ++ [59])) => ?_)
                  refine fs_r_goto (L1 := [some (.inr (.ref 124)), some (.inl i), some (.inl s), some (.inl (k + 1))]) (st1 := []) (M1 := A9) (ob := [fs_rg (k + 1)]) rfl rfl (fs_oc ⟨by omega, by omega⟩ trivial) ?_
                  exact ih81 ((k + 1)) A9 (by omega) ((((f6.tr f6_).tr f7_).tr f8_).tr f9_) (by
                        rw [fs, ← List.append_assoc]
                        rw [gg, gh] at p9_
                        first
                          | (have sz : s = 0 := by omega
                             subst sz
                             show SQ _ (_ ++ (wdL 3 ++ ndL _ ++ ndL _ ++ [59]))
                             simp only [List.append_assoc] at p9_ ⊢
                             exact p9_)
                          | (have sz : s = 1 := by omega
                             subst sz
                             show SQ _ (_ ++ (wdL 4 ++ ndL _ ++ ndL _ ++ [59]))
                             simp only [List.append_assoc] at p9_ ⊢
                             exact p9_)) (by omega)
              exact loop81 (((M 125 (100 + 13 * s) - (0)) : Int) + 1).toNat (0) M5 (by have sh := hsh s (by omega) (by omega); omega) (f5) (by rw [show Int.toNat 0 = 0 from rfl]; show SQ _ (_ ++ []); rw [List.append_nil]; exact p5) (by have sh := hsh s (by omega) (by omega); omega)
          exact loop74 (((2 - (0)) : Int) + 1).toNat (0) (zl3) A5 (by omega) (f3.tr f5_) (by rw [show Int.toNat 0 = 0 from rfl]; show SQ _ (_ ++ []); rw [List.append_nil]; rw [f3.N] at p5_; exact p5_) (by omega)
        have ab := flL_b (f := sA (M 125)) (b := 12) a.toNat (fun i i0 i1 => sA_b hN ⟨i0, by omega⟩)
        have cb := hcv a (by omega) (by omega)
        have nb1 := (ndL_b (n := M 125 (2 + a))).2.1 (by omega)
        have nb2 := (ndL_b (n := M 125 (6 + a))).2.2.2 (by omega)
        have fs := flL_s (f := sA (M 125)) i3.1
        refine fs_r_call (sta := false) (idx := 348) (as := [.inr (.ref 124), .inr (.long (Int64.ofInt 919424))]) (rest := []) (L1 := [some (.inr (.ref 124)), some (.inl i), some (.inl a), zl3]) (st1 := [.inr (.long (Int64.ofInt 919424)), .inr (.ref 124)]) (M1 := M3) (ob := []) rfl rfl rfl trivial rfl rfl (Nat.le_of_ble_eq_true rfl) ⟨Or.inr (Nat.le_of_ble_eq_true rfl), Or.inr fs_ob124⟩ (by decide) ?_
        refine fs_m_spells0 (l := (flL a.toNat (sA (M 125)))) (p3) (by omega) (fun (A1 : fs_M) (f1_ : sqf M3 A1) (p1_ : SQ A1 ((flL a.toNat (sA (M 125))) ++ wdL 0)) => ?_)
        have g1 : A1 125 = M 125 := f1_.N.trans f3.N
        refine fs_r_call (sta := false) (idx := 352) (as := [.inr (.ref 124), .inl (A1 125 (2 + a))]) (rest := []) (L1 := [some (.inr (.ref 124)), some (.inl i), some (.inl a), zl3]) (st1 := [.inl (A1 125 (2 + a)), .inr (.ref 124)]) (M1 := A1) (ob := [124 < fs_N ∧ fs_kd 124 = 6, fs_rg (2 + a), (125 < fs_N ∧ fs_kd 125 = 100) ∧ (0 : Int) ≤ (2 + a) ∧ (2 + a) < fs_ln 125]) rfl rfl rfl (fs_oc fs_ob124 (fs_oc ⟨by omega, by omega⟩ (fs_oc (fs_ar125 (by omega) (by omega)) trivial))) rfl rfl (Nat.le_of_ble_eq_true rfl) ⟨Or.inr (Nat.le_of_ble_eq_true rfl), Or.inr fs_ob124⟩ (by decide) ?_
        refine fs_m_spellsNumber (l := (flL a.toNat (sA (M 125)) ++ wdL 0)) (p1_) (by rw [List.length_append]; omega) (by rw [g1]; omega) (fun (A2 : fs_M) (f2_ : sqf A1 A2) (p2_ : SQ A2 ((flL a.toNat (sA (M 125)) ++ wdL 0) ++ ndL (A1 125 (2 + a)))) => ?_)
        have g2 : A2 125 = M 125 := f2_.N.trans g1
        refine fs_r_call (sta := false) (idx := 352) (as := [.inr (.ref 124), .inl (A2 125 (6 + a))]) (rest := []) (L1 := [some (.inr (.ref 124)), some (.inl i), some (.inl a), zl3]) (st1 := [.inl (A2 125 (6 + a)), .inr (.ref 124)]) (M1 := A2) (ob := [124 < fs_N ∧ fs_kd 124 = 6, fs_rg (6 + a), (125 < fs_N ∧ fs_kd 125 = 100) ∧ (0 : Int) ≤ (6 + a) ∧ (6 + a) < fs_ln 125]) rfl rfl rfl (fs_oc fs_ob124 (fs_oc ⟨by omega, by omega⟩ (fs_oc (fs_ar125 (by omega) (by omega)) trivial))) rfl rfl (Nat.le_of_ble_eq_true rfl) ⟨Or.inr (Nat.le_of_ble_eq_true rfl), Or.inr fs_ob124⟩ (by decide) ?_
        refine fs_m_spellsNumber (l := (flL a.toNat (sA (M 125)) ++ wdL 0 ++ ndL (A1 125 (2 + a)))) (p2_) (by rw [g1, List.length_append, List.length_append]; omega) (by rw [g2]; omega) (fun (A3 : fs_M) (f3_ : sqf A2 A3) (p3_ : SQ A3 ((flL a.toNat (sA (M 125)) ++ wdL 0 ++ ndL (A1 125 (2 + a))) ++ ndL (A2 125 (6 + a)))) => ?_)
        refine fs_r_call (sta := false) (idx := 345) (as := [.inr (.ref 124), .inl 59]) (rest := []) (L1 := [some (.inr (.ref 124)), some (.inl i), some (.inl a), zl3]) (st1 := [.inl 59, .inr (.ref 124)]) (M1 := A3) (ob := []) rfl rfl rfl trivial rfl rfl (Nat.le_of_ble_eq_true rfl) ⟨Or.inr (Nat.le_of_ble_eq_true rfl), Or.inr fs_ob124⟩ (by decide) ?_
        refine fs_m_spellsByte (l := (flL a.toNat (sA (M 125)) ++ wdL 0 ++ ndL (A1 125 (2 + a)) ++ ndL (A2 125 (6 + a)))) (p3_) (by rw [g1, g2, List.length_append, List.length_append, List.length_append]; omega) (fun (A4 : fs_M) (f4_ : sqf A3 A4) (p4_ : SQ A4 ((flL a.toNat (sA (M 125)) ++ wdL 0 ++ ndL (A1 125 (2 + a)) ++ ndL (A2 125 (6 + a))) ++ [59])) => ?_)
        refine fs_r_goto (L1 := [some (.inr (.ref 124)), some (.inl i), some (.inl (a + 1)), zl3]) (st1 := []) (M1 := A4) (ob := [fs_rg (a + 1)]) rfl rfl (fs_oc ⟨by omega, by omega⟩ trivial) ?_
        exact ih14 ((a + 1)) (zl3) A4 (by omega) ((((f3.tr f1_).tr f2_).tr f3_).tr f4_) (by
              rw [fs]
              rw [g1, g2] at p4_
              show SQ _ (flL a.toNat (sA (M 125)) ++ (wdL 0 ++ ndL _ ++ ndL _ ++ [59]))
              simp only [List.append_assoc] at p4_ ⊢
              exact p4_) (by omega)
    exact loop14 (((M 125 0 - (0)) : Int) + 1).toNat (0) (none) (fs_up M 124 34 0) (by omega) (⟨fun r q1 q2 => fs_up_other q1, fun i q => by rw [fs_up_at, if_neg q]⟩) (⟨by rw [fs_up_at, if_pos rfl]; rfl, fun k hk => absurd hk (by show ¬ k < 0; omega)⟩) (by omega)
  refine fs_r_iret (a := (-1)) (L1 := [some (.inr (.ref 124)), some (.inl i), none, none]) (M1 := M) (ob := []) rfl rfl trivial (Or.inl rfl) ?_
  exact fs_qi (by unfold rq_spell; rw [if_pos (by omega)]) (hq0 _ mm_q.rf)
