theorem fs_m_live {d : Nat} {M : fs_M} {Q : Option fs_V → fs_M → Prop}   (hI : fs_NI (M 125)) (hc : 0 ≤ M 124 4 ∧ M 124 4 ≤ 12) (hq0 : ∀ (M2 : fs_M), (lv_is (M 125)) → (mm_actq M M2 (lv_row (M 125))) → Q (some (.inl (lv_S (M 125) 0 + lv_S (M 125) 1 + lv_S (M 125) 2 + lv_S (M 125) 3))) M2) (hq1 : ∀ (M2 : fs_M), (¬ lv_is (M 125)) → (mm_q M M2) → Q (some (.inl (-1))) M2) : fs_W (d + 8) 221 0 [some (.inr (.ref 124)), none, none, none, none] [] M Q := by
  have hN := hI
  have hA := hN.1
  have hH := hN.2.1
  refine fs_r_call (sta := false) (idx := 252) (as := [.inr (.ref 124)]) (rest := []) (L1 := [some (.inr (.ref 124)), none, none, none, none]) (st1 := [.inr (.ref 124)]) (M1 := M) (ob := []) rfl rfl rfl trivial rfl rfl (Nat.le_of_ble_eq_true rfl) ⟨Or.inr (Nat.le_of_ble_eq_true rfl), Or.inr fs_ob124⟩ (by decide) ?_
  refine fs_m_plain (fun (P1 : fs_M) (pp : mm_P M P1) => ?_)
  have hP := pp.I hN
  refine fs_r_call (sta := false) (idx := 255) (as := [.inr (.ref 124)]) (rest := []) (L1 := [some (.inr (.ref 124)), none, none, none, none]) (st1 := [.inr (.ref 124)]) (M1 := P1) (ob := []) rfl rfl rfl trivial rfl rfl (Nat.le_of_ble_eq_true rfl) ⟨Or.inr (Nat.le_of_ble_eq_true rfl), Or.inr fs_ob124⟩ (by decide) ?_
  refine fs_m_least (hP) (fun (V : fs_M) (c1 : mm_f3 P1 V) (c2 : mm_st V = ec_fix (mm_E P1) (ec_calm (mm_E P1))) (c3 : mm_J V) (c4 : mm_Z V) (c5 : V 124 17 = (ec_k (mm_E P1) (ec_calm (mm_E P1)) : Nat)) => ?_)
  have hV : mm_I V := c1.I (pp.I hN)
  have nV : V 125 = M 125 := c1.N.trans pp.N
  have eV : ec_eq (mm_E V) (ec_pl (M 125)) := by rw [c1.E]; exact pp.eq hN
  have sV : mm_st V = lv_S (M 125) := by
    have w := (pp.eq hN).lst hP.1.2.1.1 (mm_okc hP)
    unfold lv_S
    rw [← w, c2]
    rfl
  have q1 : mm_q M V := (mm_q.P pp).tr (mm_q.f3 c1)
  have sb := lv_S_b hN
  have s4 : V 124 15 = lv_S (M 125) 4 := by rw [← sV, mm_st_4]
  have sa : ∀ a, 0 ≤ a → a < 4 → V 129 a = lv_S (M 125) a := fun a a0 a1 => by rw [← sV, mm_st_at ⟨a0, a1⟩]
  have et : ec_tell (mm_E V) (mm_st V) 7 = lv_S (M 125) 0 + lv_S (M 125) 1 + lv_S (M 125) 2 + lv_S (M 125) 3 := by rw [sV]; rfl
  refine fs_r_call (sta := false) (idx := 258) (as := [.inr (.ref 124), .inl 7]) (rest := []) (L1 := [some (.inr (.ref 124)), none, none, none, none]) (st1 := [.inl 7, .inr (.ref 124)]) (M1 := V) (ob := []) rfl rfl rfl trivial rfl rfl (Nat.le_of_ble_eq_true rfl) ⟨Or.inr (Nat.le_of_ble_eq_true rfl), Or.inr fs_ob124⟩ (by decide) ?_
  refine fs_m_told (hV) (c3) (Or.inr ⟨by omega, by omega⟩) ?_
  refine fs_r_if (a := (ec_tell (mm_E V) (mm_st V) 7)) (L1 := [some (.inr (.ref 124)), some (.inl (ec_tell (mm_E V) (mm_st V) 7)), none, none, none]) (st1 := []) (M1 := V) (ob := [1 < 5]) rfl rfl (fs_oc (by decide) trivial) (fun (h1 : ¬ (ec_tell (mm_E V) (mm_st V) 7) = 0) => ?_) (fun (h1 : ¬ (¬ (ec_tell (mm_E V) (mm_st V) 7) = 0)) => ?_)
  · refine fs_r_call (sta := false) (idx := 234) (as := [.inr (.ref 124)]) (rest := []) (L1 := [some (.inr (.ref 124)), some (.inl (ec_tell (mm_E V) (mm_st V) 7)), none, none, none]) (st1 := [.inr (.ref 124)]) (M1 := V) (ob := []) rfl rfl rfl trivial rfl rfl (Nat.le_of_ble_eq_true rfl) ⟨Or.inr (Nat.le_of_ble_eq_true rfl), Or.inr fs_ob124⟩ (by decide) ?_
    refine fs_m_remembers (by rw [q1.2.1]; exact hc) (fun (R : fs_M) (r1 : mm_rem V R) => ?_)
    
    have nR : R 125 = M 125 := (r1.1 125 (by decide) (by decide)).trans nV
    have eR := r1.E
    have iR := r1.IJ hV c3
    have r129 : R 129 = V 129 := r1.1 129 (by decide) (by decide)
    have c0 : 0 ≤ V 124 4 ∧ V 124 4 ≤ 12 := by rw [q1.2.1]; exact hc
    refine fs_r_nop (L1 := [some (.inr (.ref 124)), some (.inl (ec_tell (mm_E V) (mm_st V) 7)), some (.inl 0), none, none]) (st1 := []) (M1 := R) (ob := [2 < 5]) rfl rfl (fs_oc (by decide) trivial) ?_
    have loop34 : ∀ (n34 : Nat) (a : Int) (zl3 : Option fs_V) (zl4 : Option fs_V) (M3 : fs_M), (0 ≤ a ∧ a ≤ M 125 0) → (∀ r, r ≠ 132 → r ≠ 133 → M3 r = R r) → (∀ q, 0 ≤ q → q < a → M3 132 q = lv_S (M 125) q ∧ M3 133 q = lv_c (M 125) q) → M 125 0 - a < (n34 : Int) → fs_W (d + 8) 221 34 [some (.inr (.ref 124)), some (.inl (ec_tell (mm_E V) (mm_st V) 7)), some (.inl a), zl3, zl4] [] M3 Q := by
      intro n34
      induction n34 with
      | zero =>
        intro a zl3 zl4 M3 i3 f3 l3 hm34
        exfalso
        omega
      | succ n34 ih34 =>
        intro a zl3 zl4 M3 i3 f3 l3 hm34
        have n3 : M3 125 = M 125 := (f3 125 (by decide) (by decide)).trans nR
        have n30 := congrFun n3 0
        refine fs_r_icmp (a := a) (y := (M3 125 0)) (L1 := [some (.inr (.ref 124)), some (.inl (ec_tell (mm_E V) (mm_st V) 7)), some (.inl a), zl3, zl4]) (st1 := []) (M1 := M3) (ob := [124 < fs_N ∧ fs_kd 124 = 6, (125 < fs_N ∧ fs_kd 125 = 100) ∧ (0 : Int) ≤ 0 ∧ 0 < fs_ln 125]) rfl rfl (fs_oc fs_ob124 (fs_oc (fs_ar125 (by omega) (by omega)) trivial)) (fun (h2 : (M3 125 0) ≤ a) => ?_) (fun (h2 : ¬ ((M3 125 0) ≤ a)) => ?_)
        · refine fs_r_nop (L1 := [some (.inr (.ref 124)), some (.inl (ec_tell (mm_E V) (mm_st V) 7)), some (.inl 0), zl3, zl4]) (st1 := []) (M1 := M3) (ob := [2 < 5]) rfl rfl (fs_oc (by decide) trivial) ?_
          have loop81 : ∀ (n81 : Nat) (h : Int) (zl3 : Option fs_V) (zl4 : Option fs_V) (M4 : fs_M), (0 ≤ h ∧ h ≤ M 125 1) → (∀ r, r ≠ 134 → M4 r = M3 r) → (∀ x y, 0 ≤ x → x < h → 0 ≤ y → y < M 125 0 → M4 134 (4 * x + y) = lv_p (M 125) x y) → M 125 1 - h < (n81 : Int) → fs_W (d + 8) 221 81 [some (.inr (.ref 124)), some (.inl (ec_tell (mm_E V) (mm_st V) 7)), some (.inl h), zl3, zl4] [] M4 Q := by
            intro n81
            induction n81 with
            | zero =>
              intro h zl3 zl4 M4 i4 f4 m4 hm81
              exfalso
              omega
            | succ n81 ih81 =>
              intro h zl3 zl4 M4 i4 f4 m4 hm81
              have n4 : M4 125 = M 125 := (f4 125 (by decide)).trans n3
              have n41 := congrFun n4 1
              refine fs_r_icmp (a := h) (y := (M4 125 1)) (L1 := [some (.inr (.ref 124)), some (.inl (ec_tell (mm_E V) (mm_st V) 7)), some (.inl h), zl3, zl4]) (st1 := []) (M1 := M4) (ob := [124 < fs_N ∧ fs_kd 124 = 6, (125 < fs_N ∧ fs_kd 125 = 100) ∧ (0 : Int) ≤ 1 ∧ 1 < fs_ln 125]) rfl rfl (fs_oc fs_ob124 (fs_oc (fs_ar125 (by omega) (by omega)) trivial)) (fun (h3 : (M4 125 1) ≤ h) => ?_) (fun (h3 : ¬ ((M4 125 1) ≤ h)) => ?_)
              · refine fs_r_nop (L1 := [some (.inr (.ref 124)), some (.inl (ec_tell (mm_E V) (mm_st V) 7)), some (.inl 0), zl3, zl4]) (st1 := []) (M1 := M4) (ob := [2 < 5]) rfl rfl (fs_oc (by decide) trivial) ?_
                have loop144 : ∀ (n144 : Nat) (h : Int) (zl3 : Option fs_V) (zl4 : Option fs_V) (M6 : fs_M), (0 ≤ h ∧ h ≤ M 125 1) → (∀ r, r ≠ 125 → r ≠ 132 → M6 r = M4 r) → (M6 125 = lvA (M 125) h) → (∀ q, 0 ≤ q → q < M 125 0 → M6 132 q = lv_l (M 125) q h.toNat) → M 125 1 - h < (n144 : Int) → fs_W (d + 8) 221 144 [some (.inr (.ref 124)), some (.inl (ec_tell (mm_E V) (mm_st V) 7)), some (.inl h), zl3, zl4] [] M6 Q := by
                  intro n144
                  induction n144 with
                  | zero =>
                    intro h zl3 zl4 M6 i6 f6 n6 l6 hm144
                    exfalso
                    omega
                  | succ n144 ih144 =>
                    intro h zl3 zl4 M6 i6 f6 n6 l6 hm144
                    have n61 : M6 125 1 = M 125 1 := by rw [n6]; exact lvA_at (by omega) (by omega)
                    refine fs_r_icmp (a := h) (y := (M6 125 1)) (L1 := [some (.inr (.ref 124)), some (.inl (ec_tell (mm_E V) (mm_st V) 7)), some (.inl h), zl3, zl4]) (st1 := []) (M1 := M6) (ob := [124 < fs_N ∧ fs_kd 124 = 6, (125 < fs_N ∧ fs_kd 125 = 100) ∧ (0 : Int) ≤ 1 ∧ 1 < fs_ln 125]) rfl rfl (fs_oc fs_ob124 (fs_oc (fs_ar125 (by omega) (by omega)) trivial)) (fun (h4 : (M6 125 1) ≤ h) => ?_) (fun (h4 : ¬ ((M6 125 1) ≤ h)) => ?_)
                    · refine fs_r_nop (L1 := [some (.inr (.ref 124)), some (.inl (ec_tell (mm_E V) (mm_st V) 7)), some (.inl 0), zl3, zl4]) (st1 := []) (M1 := M6) (ob := [2 < 5]) rfl rfl (fs_oc (by decide) trivial) ?_
                      have loop167 : ∀ (n167 : Nat) (h : Int) (zl3 : Option fs_V) (zl4 : Option fs_V) (M7 : fs_M), (0 ≤ h ∧ h ≤ M 125 1) → (∀ r, r ≠ 125 → M7 r = M6 r) → (M7 125 = lvB (M 125) h) → M 125 1 - h < (n167 : Int) → fs_W (d + 8) 221 167 [some (.inr (.ref 124)), some (.inl (ec_tell (mm_E V) (mm_st V) 7)), some (.inl h), zl3, zl4] [] M7 Q := by
                        intro n167
                        induction n167 with
                        | zero =>
                          intro h zl3 zl4 M7 i7 f7 n7 hm167
                          exfalso
                          omega
                        | succ n167 ih167 =>
                          intro h zl3 zl4 M7 i7 f7 n7 hm167
                          have n71 : M7 125 1 = M 125 1 := by rw [n7]; exact lvB_at (by omega)
                          have x7 : M7 124 15 = lv_S (M 125) 4 := by rw [f7 124 (by decide), f6 124 (by decide) (by decide), f4 124 (by decide), f3 124 (by decide) (by decide), r1.2.1 15 (by decide)]; exact s4
                          have lf : lv_f (M 125) h ↔ fs_and (fs_shr (M7 124 15) h) 1 = 1 := by rw [x7]; exact Iff.rfl
                          refine fs_r_icmp (a := h) (y := (M7 125 1)) (L1 := [some (.inr (.ref 124)), some (.inl (ec_tell (mm_E V) (mm_st V) 7)), some (.inl h), zl3, zl4]) (st1 := []) (M1 := M7) (ob := [124 < fs_N ∧ fs_kd 124 = 6, (125 < fs_N ∧ fs_kd 125 = 100) ∧ (0 : Int) ≤ 1 ∧ 1 < fs_ln 125]) rfl rfl (fs_oc fs_ob124 (fs_oc (fs_ar125 (by omega) (by omega)) trivial)) (fun (h5 : (M7 125 1) ≤ h) => ?_) (fun (h5 : ¬ ((M7 125 1) ≤ h)) => ?_)
                          · refine fs_r_nop (L1 := [some (.inr (.ref 124)), some (.inl (ec_tell (mm_E V) (mm_st V) 7)), some (.inl 0), zl3, zl4]) (st1 := []) (M1 := M7) (ob := [2 < 5]) rfl rfl (fs_oc (by decide) trivial) ?_
                            have loop202 : ∀ (n202 : Nat) (a : Int) (zl3 : Option fs_V) (zl4 : Option fs_V) (M8 : fs_M), (0 ≤ a ∧ a ≤ M 125 0) → (∀ r, r ≠ 125 → M8 r = M7 r) → (M8 125 = lvC (M 125) a) → M 125 0 - a < (n202 : Int) → fs_W (d + 8) 221 202 [some (.inr (.ref 124)), some (.inl (ec_tell (mm_E V) (mm_st V) 7)), some (.inl a), zl3, zl4] [] M8 Q := by
                              intro n202
                              induction n202 with
                              | zero =>
                                intro a zl3 zl4 M8 i8 f8 n8 hm202
                                exfalso
                                omega
                              | succ n202 ih202 =>
                                intro a zl3 zl4 M8 i8 f8 n8 hm202
                                have n80 : M8 125 0 = M 125 0 := by rw [n8]; unfold lvC; rw [if_neg (by omega)]; exact lvB_at (by omega)
                                refine fs_r_icmp (a := a) (y := (M8 125 0)) (L1 := [some (.inr (.ref 124)), some (.inl (ec_tell (mm_E V) (mm_st V) 7)), some (.inl a), zl3, zl4]) (st1 := []) (M1 := M8) (ob := [124 < fs_N ∧ fs_kd 124 = 6, (125 < fs_N ∧ fs_kd 125 = 100) ∧ (0 : Int) ≤ 0 ∧ 0 < fs_ln 125]) rfl rfl (fs_oc fs_ob124 (fs_oc (fs_ar125 (by omega) (by omega)) trivial)) (fun (h6 : (M8 125 0) ≤ a) => ?_) (fun (h6 : ¬ ((M8 125 0) ≤ a)) => ?_)
                                · refine fs_r_iret (a := (ec_tell (mm_E V) (mm_st V) 7)) (L1 := [some (.inr (.ref 124)), some (.inl (ec_tell (mm_E V) (mm_st V) 7)), some (.inl a), zl3, zl4]) (M1 := M8) (ob := []) rfl rfl trivial (Or.inl rfl) ?_
                                  rw [et]
                                  exact hq0 _ (fun z => by omega) (mm_rem.q q1 r1 (fun r z => by rw [f8 r (by omega), f7 r (by omega), f6 r (by omega) (by omega), f4 r (by omega), f3 r (by omega) (by omega)]) (by rw [n8, show a = M 125 0 by omega]; rfl))
                                have b2 : M8 125 (2 + a) = M 125 (2 + a) := by rw [n8]; unfold lvC; rw [if_neg (by omega)]; exact lvB_at (by omega)
                                have b6 : M8 125 (6 + a) = M 125 (6 + a) := by rw [n8]; unfold lvC; rw [if_neg (by omega)]; exact lvB_at (by omega)
                                have bs : M8 129 a = lv_S (M 125) a := by rw [f8 129 (by decide), f7 129 (by decide), f6 129 (by decide) (by decide), f4 129 (by decide), f3 129 (by decide) (by decide), r129]; exact sa a (by omega) (by omega)
                                have cb := hN.2.2.1 a (by omega) (by omega)
                                have sb2 := sb.1 a (by omega) (by omega)
                                have mu : 0 ≤ (M8 125 (6 + a)) * (M8 129 a) ∧ (M8 125 (6 + a)) * (M8 129 a) ≤ 9 * 360 := by rw [b6, bs]; exact ⟨Int.mul_nonneg cb.2.1 sb2.1, Int.mul_le_mul cb.2.2 sb2.2 sb2.1 (by omega)⟩
                                have join255 : ∀ (v : Int), (v = max 1 (M 125 (2 + a) - M 125 (6 + a) * lv_S (M 125) a)) → fs_W (d + 8) 221 255 [some (.inr (.ref 124)), some (.inl (ec_tell (mm_E V) (mm_st V) 7)), some (.inl a), some (.inl ((M8 125 (2 + a)) - ((M8 125 (6 + a)) * (M8 129 a)))), zl4] [.inl v, .inl (2 + a), .inr (.ref 125)] M8 Q := by
                                  intro v v0
                                  refine fs_r_goto (L1 := [some (.inr (.ref 124)), some (.inl (ec_tell (mm_E V) (mm_st V) 7)), some (.inl (a + 1)), some (.inl ((M8 125 (2 + a)) - ((M8 125 (6 + a)) * (M8 129 a)))), zl4]) (st1 := []) (M1 := (fs_up M8 125 (2 + a) v)) (ob := [(125 < fs_N ∧ fs_kd 125 = 100) ∧ (0 : Int) ≤ (2 + a) ∧ (2 + a) < fs_ln 125, fs_rg (a + 1)]) rfl rfl (fs_oc (fs_ar125 (by omega) (by omega)) (fs_oc ⟨by omega, by omega⟩ trivial)) ?_
                                  exact ih202 ((a + 1)) (some (.inl ((M8 125 (2 + a)) - ((M8 125 (6 + a)) * (M8 129 a))))) (zl4) (fs_up M8 125 (2 + a) v) (by omega) (fun r q => by rw [fs_up_other q]; exact f8 r q) (lvC_s (by omega) (fun q => by rw [fs_up_at, n8, v0])) (by omega)
                                refine fs_r_icmp (a := ((M8 125 (2 + a)) - ((M8 125 (6 + a)) * (M8 129 a)))) (y := 1) (L1 := [some (.inr (.ref 124)), some (.inl (ec_tell (mm_E V) (mm_st V) 7)), some (.inl a), some (.inl ((M8 125 (2 + a)) - ((M8 125 (6 + a)) * (M8 129 a)))), zl4]) (st1 := [.inl (2 + a), .inr (.ref 125)]) (M1 := M8) (ob := [124 < fs_N ∧ fs_kd 124 = 6, fs_rg (2 + a), (125 < fs_N ∧ fs_kd 125 = 100) ∧ (0 : Int) ≤ (2 + a) ∧ (2 + a) < fs_ln 125, 124 < fs_N ∧ fs_kd 124 = 6, fs_rg (6 + a), (125 < fs_N ∧ fs_kd 125 = 100) ∧ (0 : Int) ≤ (6 + a) ∧ (6 + a) < fs_ln 125, 124 < fs_N ∧ fs_kd 124 = 6, (129 < fs_N ∧ fs_kd 129 = 100) ∧ (0 : Int) ≤ a ∧ a < fs_ln 129, fs_rg ((M8 125 (6 + a)) * (M8 129 a)), fs_rg ((M8 125 (2 + a)) - ((M8 125 (6 + a)) * (M8 129 a))), 3 < 5, 124 < fs_N ∧ fs_kd 124 = 6, fs_rg (2 + a)]) rfl (fs_exA 6 (o1 := [124 < fs_N ∧ fs_kd 124 = 6, fs_rg (2 + a), (125 < fs_N ∧ fs_kd 125 = 100) ∧ (0 : Int) ≤ (2 + a) ∧ (2 + a) < fs_ln 125]) (L1 := [some (.inr (.ref 124)), some (.inl (ec_tell (mm_E V) (mm_st V) 7)), some (.inl a), zl3, zl4]) (st1 := [.inl (M8 125 (2 + a))]) (M1 := M8) (o2 := [124 < fs_N ∧ fs_kd 124 = 6, fs_rg (6 + a), (125 < fs_N ∧ fs_kd 125 = 100) ∧ (0 : Int) ≤ (6 + a) ∧ (6 + a) < fs_ln 125, 124 < fs_N ∧ fs_kd 124 = 6, (129 < fs_N ∧ fs_kd 129 = 100) ∧ (0 : Int) ≤ a ∧ a < fs_ln 129, fs_rg ((M8 125 (6 + a)) * (M8 129 a)), fs_rg ((M8 125 (2 + a)) - ((M8 125 (6 + a)) * (M8 129 a))), 3 < 5, 124 < fs_N ∧ fs_kd 124 = 6, fs_rg (2 + a)]) rfl (fs_exA 6 (o1 := [124 < fs_N ∧ fs_kd 124 = 6, fs_rg (6 + a), (125 < fs_N ∧ fs_kd 125 = 100) ∧ (0 : Int) ≤ (6 + a) ∧ (6 + a) < fs_ln 125]) (L1 := [some (.inr (.ref 124)), some (.inl (ec_tell (mm_E V) (mm_st V) 7)), some (.inl a), zl3, zl4]) (st1 := [.inl (M8 125 (6 + a)), .inl (M8 125 (2 + a))]) (M1 := M8) (o2 := [124 < fs_N ∧ fs_kd 124 = 6, (129 < fs_N ∧ fs_kd 129 = 100) ∧ (0 : Int) ≤ a ∧ a < fs_ln 129, fs_rg ((M8 125 (6 + a)) * (M8 129 a)), fs_rg ((M8 125 (2 + a)) - ((M8 125 (6 + a)) * (M8 129 a))), 3 < 5, 124 < fs_N ∧ fs_kd 124 = 6, fs_rg (2 + a)]) rfl (fs_exA 6 (o1 := [124 < fs_N ∧ fs_kd 124 = 6, (129 < fs_N ∧ fs_kd 129 = 100) ∧ (0 : Int) ≤ a ∧ a < fs_ln 129, fs_rg ((M8 125 (6 + a)) * (M8 129 a)), fs_rg ((M8 125 (2 + a)) - ((M8 125 (6 + a)) * (M8 129 a)))]) (L1 := [some (.inr (.ref 124)), some (.inl (ec_tell (mm_E V) (mm_st V) 7)), some (.inl a), zl3, zl4]) (st1 := [.inl ((M8 125 (2 + a)) - ((M8 125 (6 + a)) * (M8 129 a)))]) (M1 := M8) (o2 := [3 < 5, 124 < fs_N ∧ fs_kd 124 = 6, fs_rg (2 + a)]) rfl (fs_exA 6 (o1 := [3 < 5, 124 < fs_N ∧ fs_kd 124 = 6, fs_rg (2 + a)]) (L1 := [some (.inr (.ref 124)), some (.inl (ec_tell (mm_E V) (mm_st V) 7)), some (.inl a), some (.inl ((M8 125 (2 + a)) - ((M8 125 (6 + a)) * (M8 129 a)))), zl4]) (st1 := [.inl (2 + a), .inr (.ref 125)]) (M1 := M8) (o2 := []) rfl rfl)))) (fs_oc fs_ob124 (fs_oc ⟨by omega, by omega⟩ (fs_oc (fs_ar125 (by omega) (by omega)) (fs_oc fs_ob124 (fs_oc ⟨by omega, by omega⟩ (fs_oc (fs_ar125 (by omega) (by omega)) (fs_oc fs_ob124 (fs_oc (fs_ar129 (by omega) (by omega)) (fs_oc ⟨by omega, by omega⟩ (fs_oc ⟨by omega, by omega⟩ (fs_oc (by decide) (fs_oc fs_ob124 (fs_oc ⟨by omega, by omega⟩ trivial))))))))))))) (fun (h7 : 1 ≤ ((M8 125 (2 + a)) - ((M8 125 (6 + a)) * (M8 129 a)))) => ?_) (fun (h7 : ¬ (1 ≤ ((M8 125 (2 + a)) - ((M8 125 (6 + a)) * (M8 129 a))))) => ?_)
                                · refine fs_r_nop (L1 := [some (.inr (.ref 124)), some (.inl (ec_tell (mm_E V) (mm_st V) 7)), some (.inl a), some (.inl ((M8 125 (2 + a)) - ((M8 125 (6 + a)) * (M8 129 a)))), zl4]) (st1 := [.inl ((M8 125 (2 + a)) - ((M8 125 (6 + a)) * (M8 129 a))), .inl (2 + a), .inr (.ref 125)]) (M1 := M8) (ob := []) rfl rfl trivial ?_
                                  exact join255 (((M8 125 (2 + a)) - ((M8 125 (6 + a)) * (M8 129 a)))) (by rw [b2, b6, bs] at *; omega)
                                refine fs_r_goto (L1 := [some (.inr (.ref 124)), some (.inl (ec_tell (mm_E V) (mm_st V) 7)), some (.inl a), some (.inl ((M8 125 (2 + a)) - ((M8 125 (6 + a)) * (M8 129 a)))), zl4]) (st1 := [.inl 1, .inl (2 + a), .inr (.ref 125)]) (M1 := M8) (ob := []) rfl rfl trivial ?_
                                exact join255 (1) (by rw [b2, b6, bs] at *; omega)
                            exact loop202 (((M 125 0 - (0)) : Int) + 1).toNat (0) (zl3) (zl4) M7 (by omega) (fun r _ => rfl) (by rw [lvC_0, n7, show h = M 125 1 by omega]) (by omega)
                          refine fs_r_icmp (a := (fs_and (fs_shr (M7 124 15) h) 1)) (y := 1) (L1 := [some (.inr (.ref 124)), some (.inl (ec_tell (mm_E V) (mm_st V) 7)), some (.inl h), zl3, zl4]) (st1 := []) (M1 := M7) (ob := [124 < fs_N ∧ fs_kd 124 = 6]) rfl rfl (fs_oc fs_ob124 trivial) (fun (h8 : ¬ (fs_and (fs_shr (M7 124 15) h) 1) = 1) => ?_) (fun (h8 : ¬ (¬ (fs_and (fs_shr (M7 124 15) h) 1) = 1)) => ?_)
                          · refine fs_r_goto (L1 := [some (.inr (.ref 124)), some (.inl (ec_tell (mm_E V) (mm_st V) 7)), some (.inl (h + 1)), zl3, zl4]) (st1 := []) (M1 := M7) (ob := [fs_rg (h + 1)]) rfl rfl (fs_oc ⟨by omega, by omega⟩ trivial) ?_
                            exact ih167 ((h + 1)) (zl3) (zl4) M7 (by omega) (fun r q => by first | exact f7 r q | (rw [wf r q]; exact f7 r q)) (by first | (rw [n7]; exact lvB_f (by omega) (fun z => by have := lf.mp z; omega)) | exact lvB_t (by omega) (lf.mpr (by omega)) (fun q => by rw [wn q, n7])) (by omega)
                          refine fs_r_call (sta := false) (idx := 264) (as := [.inr (.ref 124), .inl h]) (rest := []) (L1 := [some (.inr (.ref 124)), some (.inl (ec_tell (mm_E V) (mm_st V) 7)), some (.inl h), zl3, zl4]) (st1 := [.inl h, .inr (.ref 124)]) (M1 := M7) (ob := []) rfl rfl rfl trivial rfl rfl (Nat.le_of_ble_eq_true rfl) ⟨Or.inr (Nat.le_of_ble_eq_true rfl), Or.inr fs_ob124⟩ (by decide) ?_
                          refine fs_m_shuts (by omega) (fun (W : fs_M) (wf : ∀ r, r ≠ 125 → W r = M7 r) (wn : ∀ q, W 125 q = if (10 + 5 * h ≤ q ∧ q < 10 + 5 * h + 3) ∨ (40 + 4 * h ≤ q ∧ q < 40 + 4 * h + 4) ∨ (64 ≤ q ∧ q < 100 ∧ ((q - 64) / 6 = h ∨ (q - 64) % 6 = h)) then 0 else M7 125 q) => ?_)
                          refine fs_r_goto (L1 := [some (.inr (.ref 124)), some (.inl (ec_tell (mm_E V) (mm_st V) 7)), some (.inl (h + 1)), zl3, zl4]) (st1 := []) (M1 := W) (ob := [fs_rg (h + 1)]) rfl rfl (fs_oc ⟨by omega, by omega⟩ trivial) ?_
                          exact ih167 ((h + 1)) (zl3) (zl4) W (by omega) (fun r q => by first | exact f7 r q | (rw [wf r q]; exact f7 r q)) (by first | (rw [n7]; exact lvB_f (by omega) (fun z => by have := lf.mp z; omega)) | exact lvB_t (by omega) (lf.mpr (by omega)) (fun q => by rw [wn q, n7])) (by omega)
                      exact loop167 (((M 125 1 - (0)) : Int) + 1).toNat (0) (zl3) (zl4) M6 (by omega) (fun r _ => rfl) (by rw [lvB_0, n6, show h = M 125 1 by omega]) (by omega)
                    have lb : ∀ q, 0 ≤ q → q < M 125 0 → M6 134 (4 * h + q) = lv_p (M 125) h q ∧ M6 133 q = lv_c (M 125) q := fun q q0 q1 => by
                      refine ⟨?_, ?_⟩
                      · rw [f6 134 (by decide) (by decide)]
                        exact m4 h q (by omega) (by omega) q0 q1
                      · rw [f6 133 (by decide) (by decide), f4 133 (by decide)]
                        exact (l3 q q0 (by omega)).2
                    have sn : ∀ q, 0 ≤ q → q < M 125 0 → sb_n M6 h q = lv_n (M 125) h q := fun q q0 q1 => by
                      unfold sb_n lv_n
                      rw [(lb q q0 q1).1, l6 q q0 q1]
                    have r0 : M6 125 (10 + 5 * h + 0) = M 125 (10 + 5 * h + 0) := by rw [n6]; exact lvA_at (by omega) (by omega)
                    have r0b := hN.2.2.2.1 h 0 (by omega) (by omega) (by omega) (by omega)
                    have rh : ∀ q, 0 ≤ q → q < M 125 0 → M6 125 (40 + 4 * h + q) = M 125 (40 + 4 * h + q) := fun q q0 q1 => by rw [n6]; exact lvA_at (by omega) (by omega)
                    have r00 : M6 125 0 = M 125 0 := by rw [n6]; exact lvA_at (by omega) (by omega)
                    have hb9 : ∀ q, 0 ≤ q → q < M6 125 0 → (0 ≤ M6 134 (4 * h + q) ∧ M6 134 (4 * h + q) ≤ 240) ∧ (0 ≤ M6 132 q ∧ M6 132 q ≤ 360) ∧ (0 ≤ M6 133 q ∧ M6 133 q ≤ 200) ∧ 0 ≤ M6 125 (40 + 4 * h + q) ∧ M6 125 (40 + 4 * h + q) ≤ 60 := fun q q0 q1 => by
                      have p := lv_p_b (h := h) (a := q) hN (by omega) (by omega)
                      have l := lv_l_b (a := q) hN (by omega) h.toNat (by omega)
                      have c := lv_c_b (a := q) hN (by omega)
                      have w := hN.2.2.2.2.1 h q (by omega) (by omega) q0 (by omega)
                      rw [(lb q q0 (by omega)).1, (lb q q0 (by omega)).2, l6 q q0 (by omega), rh q q0 (by omega)]
                      omega
                    have sm : sb_s M6 h (M6 125 0).toNat = lv_m (M 125) h (M 125 0).toNat := by
                      rw [r00]
                      exact fs_sum_c (fun q q0 q1 => by show sb_n M6 h q * M6 133 q = _; rw [sn q q0 (by omega), (lb q q0 (by omega)).2])
                    refine fs_r_call (sta := false) (idx := 261) (as := [.inr (.ref 124), .inl h]) (rest := []) (L1 := [some (.inr (.ref 124)), some (.inl (ec_tell (mm_E V) (mm_st V) 7)), some (.inl h), zl3, zl4]) (st1 := [.inl h, .inr (.ref 124)]) (M1 := M6) (ob := []) rfl rfl rfl trivial rfl rfl (Nat.le_of_ble_eq_true rfl) ⟨Or.inr (Nat.le_of_ble_eq_true rfl), Or.inr fs_ob124⟩ (by decide) ?_
                    refine fs_m_sellsBy (by omega) (by omega) (by omega) (hb9) (fun (W : fs_M) (wf : ∀ r, r ≠ 125 → r ≠ 132 → W r = M6 r) (wl : ∀ q, W 132 q = if 0 ≤ q ∧ q < M6 125 0 then M6 132 q - sb_n M6 h q else M6 132 q) (wn : ∀ q, W 125 q = if q = 10 + 5 * h + 0 then min (M6 125 (10 + 5 * h + 0) + sb_s M6 h (M6 125 0).toNat) 9999 else if 40 + 4 * h ≤ q ∧ q < 40 + 4 * h + M6 125 0 then M6 125 q - sb_n M6 h (q - (40 + 4 * h)) else M6 125 q) => ?_)
                    have nn : W 125 = lvA (M 125) (h + 1) := lvA_s (by omega) hA (fun q => by
                      rw [wn q, r0, sm, r00]
                      by_cases z1 : q = 10 + 5 * h + 0
                      · rw [if_pos z1, if_pos z1]
                      · rw [if_neg z1, if_neg z1]
                        by_cases z2 : 40 + 4 * h ≤ q ∧ q < 40 + 4 * h + M 125 0
                        · rw [if_pos z2, if_pos z2, sn _ (by omega) (by omega)]
                          have w := rh (q - (40 + 4 * h)) (by omega) (by omega)
                          rw [show 40 + 4 * h + (q - (40 + 4 * h)) = q by omega] at w
                          rw [w]
                        · rw [if_neg z2, if_neg z2, n6])
                    have ll : ∀ q, 0 ≤ q → q < M 125 0 → W 132 q = lv_l (M 125) q (h + 1).toNat := fun q q0 q1 => by
                      rw [wl q, if_pos (by omega), sn q q0 q1, lv_l_s (by omega), l6 q q0 q1]
                    refine fs_r_goto (L1 := [some (.inr (.ref 124)), some (.inl (ec_tell (mm_E V) (mm_st V) 7)), some (.inl (h + 1)), zl3, zl4]) (st1 := []) (M1 := W) (ob := [fs_rg (h + 1)]) rfl rfl (fs_oc ⟨by omega, by omega⟩ trivial) ?_
                    exact ih144 ((h + 1)) (zl3) (zl4) W (by omega) (fun r q1 q2 => by rw [wf r q1 q2]; exact f6 r q1 q2) (nn) (ll) (by omega)
                exact loop144 (((M 125 1 - (0)) : Int) + 1).toNat (0) (zl3) (zl4) M4 (by omega) (fun r _ _ => rfl) (by rw [n4, lvA_0]) (fun q q0 q1 => by rw [f4 132 (by decide)]; exact (l3 q q0 (by omega)).1) (by omega)
              have g4 := mm_fr (M := R) (M2 := M4) ⟨(f4 124 (by decide)).trans (f3 124 (by decide) (by decide)), (f4 125 (by decide)).trans (f3 125 (by decide) (by decide)), (f4 129 (by decide)).trans (f3 129 (by decide) (by decide)), (f4 131 (by decide)).trans (f3 131 (by decide) (by decide))⟩
              have me : ec_due (mm_E M4) h (ec_worth (mm_E M4) (mm_st M4) h) = ec_due (ec_pl (M 125)) h (ec_worth (ec_pl (M 125)) (lv_S (M 125)) h) := by
                rw [g4.1, g4.2.1, eR.1, eR.2, sV, eV.due (by omega) (by show h < V 125 1; rw [nV]; omega), eV.worth (by omega) (by show h < V 125 1; rw [nV]; omega)]
              refine fs_r_call (sta := false) (idx := 196) (as := [.inr (.ref 124), .inl h]) (rest := []) (L1 := [some (.inr (.ref 124)), some (.inl (ec_tell (mm_E V) (mm_st V) 7)), some (.inl h), zl3, zl4]) (st1 := [.inl h, .inr (.ref 124)]) (M1 := M4) (ob := []) rfl rfl rfl trivial rfl rfl (Nat.le_of_ble_eq_true rfl) ⟨Or.inr (Nat.le_of_ble_eq_true rfl), Or.inr fs_ob124⟩ (by decide) ?_
              refine fs_m_must (g4.2.2.1 iR.1) (g4.2.2.2 iR.2) (by omega) ?_
              refine fs_r_nop (L1 := [some (.inr (.ref 124)), some (.inl (ec_tell (mm_E V) (mm_st V) 7)), some (.inl h), some (.inl (ec_due (mm_E M4) h (ec_worth (mm_E M4) (mm_st M4) h))), some (.inl 0)]) (st1 := []) (M1 := M4) (ob := [3 < 5, 4 < 5]) rfl rfl (fs_oc (by decide) (fs_oc (by decide) trivial)) ?_
              have loop100 : ∀ (n100 : Nat) (mn : Int) (b : Int) (M5 : fs_M), (0 ≤ b ∧ b ≤ M 125 0) → (mn = ec_due (ec_pl (M 125)) h (ec_worth (ec_pl (M 125)) (lv_S (M 125)) h)) → (∀ r, r ≠ 134 → M5 r = M3 r) → (∀ x y, 0 ≤ x → 0 ≤ y → y < M 125 0 → (x < h ∨ (x = h ∧ y < b)) → M5 134 (4 * x + y) = lv_p (M 125) x y) → M 125 0 - b < (n100 : Int) → fs_W (d + 8) 221 100 [some (.inr (.ref 124)), some (.inl (ec_tell (mm_E V) (mm_st V) 7)), some (.inl h), some (.inl mn), some (.inl b)] [] M5 Q := by
                intro n100
                induction n100 with
                | zero =>
                  intro mn b M5 i5 mn0 f5 m5 hm100
                  exfalso
                  omega
                | succ n100 ih100 =>
                  intro mn b M5 i5 mn0 f5 m5 hm100
                  have n5 : M5 125 = M 125 := (f5 125 (by decide)).trans n3
                  have n50 := congrFun n5 0
                  have n51 := congrFun n5 1
                  have mb : 0 ≤ mn ∧ mn ≤ 240 := by rw [mn0]; exact mk_due_b (M := fun r i => ec_pl (M 125) (r - 20) i) (pl_bd hN) (by show 0 ≤ h ∧ h < M 125 1; omega)
                  refine fs_r_icmp (a := b) (y := (M5 125 0)) (L1 := [some (.inr (.ref 124)), some (.inl (ec_tell (mm_E V) (mm_st V) 7)), some (.inl h), some (.inl mn), some (.inl b)]) (st1 := []) (M1 := M5) (ob := [124 < fs_N ∧ fs_kd 124 = 6, (125 < fs_N ∧ fs_kd 125 = 100) ∧ (0 : Int) ≤ 0 ∧ 0 < fs_ln 125]) rfl rfl (fs_oc fs_ob124 (fs_oc (fs_ar125 (by omega) (by omega)) trivial)) (fun (h9 : (M5 125 0) ≤ b) => ?_) (fun (h9 : ¬ ((M5 125 0) ≤ b)) => ?_)
                  · refine fs_r_goto (L1 := [some (.inr (.ref 124)), some (.inl (ec_tell (mm_E V) (mm_st V) 7)), some (.inl (h + 1)), some (.inl mn), some (.inl b)]) (st1 := []) (M1 := M5) (ob := [fs_rg (h + 1)]) rfl rfl (fs_oc ⟨by omega, by omega⟩ trivial) ?_
                    exact ih81 ((h + 1)) (some (.inl mn)) (some (.inl b)) M5 (by omega) (f5) (fun x y x0 x1 y0 y1 => m5 x y x0 y0 y1 (by omega)) (by omega)
                  have g5 := mm_fr (M := R) (M2 := M5) ⟨(f5 124 (by decide)).trans (f3 124 (by decide) (by decide)), (f5 125 (by decide)).trans (f3 125 (by decide) (by decide)), (f5 129 (by decide)).trans (f3 129 (by decide) (by decide)), (f5 131 (by decide)).trans (f3 131 (by decide) (by decide))⟩
                  have pe : ec_part (mm_E M5) h mn b = lv_p (M 125) h b := by rw [g5.1, eR.1, mn0, eV.part (by omega) (by show h < V 125 1; rw [nV]; omega) (by omega) (by show b < V 125 0; rw [nV]; omega)]; rfl
                  refine fs_r_call (sta := false) (idx := 199) (as := [.inr (.ref 124), .inl h, .inl b, .inl mn]) (rest := [.inl ((4 * h) + b), .inr (.ref 134)]) (L1 := [some (.inr (.ref 124)), some (.inl (ec_tell (mm_E V) (mm_st V) 7)), some (.inl h), some (.inl mn), some (.inl b)]) (st1 := [.inl mn, .inl b, .inl h, .inr (.ref 124), .inl ((4 * h) + b), .inr (.ref 134)]) (M1 := M5) (ob := [124 < fs_N ∧ fs_kd 124 = 6, fs_rg (4 * h), fs_rg ((4 * h) + b)]) rfl rfl (fs_exA 6 (o1 := [124 < fs_N ∧ fs_kd 124 = 6, fs_rg (4 * h)]) (L1 := [some (.inr (.ref 124)), some (.inl (ec_tell (mm_E V) (mm_st V) 7)), some (.inl h), some (.inl mn), some (.inl b)]) (st1 := [.inl b, .inl (4 * h), .inr (.ref 134)]) (M1 := M5) (o2 := [fs_rg ((4 * h) + b)]) rfl rfl) (fs_oc fs_ob124 (fs_oc ⟨by omega, by omega⟩ (fs_oc ⟨by omega, by omega⟩ trivial))) rfl rfl (Nat.le_of_ble_eq_true rfl) ⟨Or.inr (Nat.le_of_ble_eq_true rfl), Or.inr fs_ob124⟩ (by decide) ?_
                  refine fs_m_mustOf (g5.2.2.1 iR.1) (by omega) (by omega) (by omega) ?_
                  refine fs_r_goto (L1 := [some (.inr (.ref 124)), some (.inl (ec_tell (mm_E V) (mm_st V) 7)), some (.inl h), some (.inl mn), some (.inl (b + 1))]) (st1 := []) (M1 := (fs_up M5 134 ((4 * h) + b) (ec_part (mm_E M5) h mn b))) (ob := [(134 < fs_N ∧ fs_kd 134 = 100) ∧ (0 : Int) ≤ ((4 * h) + b) ∧ ((4 * h) + b) < fs_ln 134, fs_rg (b + 1)]) rfl rfl (fs_oc (fs_ar134 (by omega) (by omega)) (fs_oc ⟨by omega, by omega⟩ trivial)) ?_
                  exact ih100 (mn) ((b + 1)) (fs_up M5 134 ((4 * h) + b) (ec_part (mm_E M5) h mn b)) (by omega) (mn0) (fun r q => by rw [fs_up_other q]; exact f5 r q) (fun x y x0 y0 y1 z => by rw [fs_up_at]; by_cases w : 4 * x + y = 4 * h + b; (rw [if_pos w, pe, show x = h by omega, show y = b by omega]); (rw [if_neg w]; exact m5 x y x0 y0 y1 (by omega))) (by omega)
              exact loop100 (((M 125 0 - (0)) : Int) + 1).toNat ((ec_due (mm_E M4) h (ec_worth (mm_E M4) (mm_st M4) h))) (0) M4 (by omega) (me) (f4) (fun x y x0 y0 y1 z => m4 x y x0 (by omega) y0 y1) (by omega)
          exact loop81 (((M 125 1 - (0)) : Int) + 1).toNat (0) (zl3) (zl4) M3 (by omega) (fun r _ => rfl) (fun x y _ _ _ _ => by omega) (by omega)
        have g3 := mm_fr (M := R) (M2 := (fs_up M3 132 a (M3 129 a))) ⟨by rw [fs_up_other (by decide)]; exact f3 124 (by decide) (by decide), by rw [fs_up_other (by decide)]; exact f3 125 (by decide) (by decide), by rw [fs_up_other (by decide)]; exact f3 129 (by decide) (by decide), by rw [fs_up_other (by decide)]; exact f3 131 (by decide) (by decide)⟩
        have x129 : M3 129 a = lv_S (M 125) a := by rw [f3 129 (by decide) (by decide), r129]; exact sa a (by omega) (by omega)
        have y129 := sb.1 a (by omega) (by omega)
        have pe : ec_price (mm_E (fs_up M3 132 a (M3 129 a))) a (M3 129 a) = lv_c (M 125) a := by rw [g3.1, eR.1, x129, eV.price (by omega) (by show a < V 125 0; rw [nV]; omega)]; rfl
        refine fs_r_call (sta := false) (idx := 178) (as := [.inr (.ref 124), .inl a, .inl (M3 129 a)]) (rest := [.inl a, .inr (.ref 133)]) (L1 := [some (.inr (.ref 124)), some (.inl (ec_tell (mm_E V) (mm_st V) 7)), some (.inl a), zl3, zl4]) (st1 := [.inl (M3 129 a), .inl a, .inr (.ref 124), .inl a, .inr (.ref 133)]) (M1 := (fs_up M3 132 a (M3 129 a))) (ob := [124 < fs_N ∧ fs_kd 124 = 6, 124 < fs_N ∧ fs_kd 124 = 6, (129 < fs_N ∧ fs_kd 129 = 100) ∧ (0 : Int) ≤ a ∧ a < fs_ln 129, (132 < fs_N ∧ fs_kd 132 = 100) ∧ (0 : Int) ≤ a ∧ a < fs_ln 132, 124 < fs_N ∧ fs_kd 124 = 6, 124 < fs_N ∧ fs_kd 124 = 6, (129 < fs_N ∧ fs_kd 129 = 100) ∧ (0 : Int) ≤ a ∧ a < fs_ln 129]) rfl rfl (fs_exA 6 (o1 := [124 < fs_N ∧ fs_kd 124 = 6, 124 < fs_N ∧ fs_kd 124 = 6]) (L1 := [some (.inr (.ref 124)), some (.inl (ec_tell (mm_E V) (mm_st V) 7)), some (.inl a), zl3, zl4]) (st1 := [.inl a, .inr (.ref 129), .inl a, .inr (.ref 132)]) (M1 := M3) (o2 := [(129 < fs_N ∧ fs_kd 129 = 100) ∧ (0 : Int) ≤ a ∧ a < fs_ln 129, (132 < fs_N ∧ fs_kd 132 = 100) ∧ (0 : Int) ≤ a ∧ a < fs_ln 132, 124 < fs_N ∧ fs_kd 124 = 6, 124 < fs_N ∧ fs_kd 124 = 6, (129 < fs_N ∧ fs_kd 129 = 100) ∧ (0 : Int) ≤ a ∧ a < fs_ln 129]) rfl (fs_exA 6 (o1 := [(129 < fs_N ∧ fs_kd 129 = 100) ∧ (0 : Int) ≤ a ∧ a < fs_ln 129, (132 < fs_N ∧ fs_kd 132 = 100) ∧ (0 : Int) ≤ a ∧ a < fs_ln 132, 124 < fs_N ∧ fs_kd 124 = 6]) (L1 := [some (.inr (.ref 124)), some (.inl (ec_tell (mm_E V) (mm_st V) 7)), some (.inl a), zl3, zl4]) (st1 := [.inr (.ref 124), .inl a, .inr (.ref 133)]) (M1 := (fs_up M3 132 a (M3 129 a))) (o2 := [124 < fs_N ∧ fs_kd 124 = 6, (129 < fs_N ∧ fs_kd 129 = 100) ∧ (0 : Int) ≤ a ∧ a < fs_ln 129]) rfl rfl)) (fs_oc fs_ob124 (fs_oc fs_ob124 (fs_oc (fs_ar129 (by omega) (by omega)) (fs_oc (fs_ar132 (by omega) (by omega)) (fs_oc fs_ob124 (fs_oc fs_ob124 (fs_oc (fs_ar129 (by omega) (by omega)) trivial))))))) rfl rfl (Nat.le_of_ble_eq_true rfl) ⟨Or.inr (Nat.le_of_ble_eq_true rfl), Or.inr fs_ob124⟩ (by decide) ?_
        refine fs_m_priceBy (g3.2.2.1 iR.1) (by omega) (by omega) ?_
        refine fs_r_goto (L1 := [some (.inr (.ref 124)), some (.inl (ec_tell (mm_E V) (mm_st V) 7)), some (.inl (a + 1)), zl3, zl4]) (st1 := []) (M1 := (fs_up (fs_up M3 132 a (M3 129 a)) 133 a (ec_price (mm_E (fs_up M3 132 a (M3 129 a))) a (M3 129 a)))) (ob := [(133 < fs_N ∧ fs_kd 133 = 100) ∧ (0 : Int) ≤ a ∧ a < fs_ln 133, fs_rg (a + 1)]) rfl rfl (fs_oc (fs_ar133 (by omega) (by omega)) (fs_oc ⟨by omega, by omega⟩ trivial)) ?_
        exact ih34 ((a + 1)) (zl3) (zl4) (fs_up (fs_up M3 132 a (M3 129 a)) 133 a (ec_price (mm_E (fs_up M3 132 a (M3 129 a))) a (M3 129 a))) (by omega) (fun r q1 q2 => by rw [fs_up_other q2, fs_up_other q1]; exact f3 r q1 q2) (fun q q0 q1 => by rw [fs_up_other (by decide), fs_up_at, fs_up_at]; by_cases z : q = a; (rw [if_pos z, if_pos z, pe, x129, z]; exact ⟨rfl, rfl⟩); (rw [if_neg z, if_neg z, fs_up_other (by decide)]; exact l3 q q0 (by omega))) (by omega)
    exact loop34 (((M 125 0 - (0)) : Int) + 1).toNat (0) (none) (none) R (by omega) (fun r _ _ => rfl) (fun q _ _ => by omega) (by omega)
  refine fs_r_if (a := (V 124 15)) (L1 := [some (.inr (.ref 124)), some (.inl (ec_tell (mm_E V) (mm_st V) 7)), none, none, none]) (st1 := []) (M1 := V) (ob := [124 < fs_N ∧ fs_kd 124 = 6]) rfl rfl (fs_oc fs_ob124 trivial) (fun (h10 : ¬ (V 124 15) = 0) => ?_) (fun (h10 : ¬ (¬ (V 124 15) = 0)) => ?_)
  · refine fs_r_call (sta := false) (idx := 234) (as := [.inr (.ref 124)]) (rest := []) (L1 := [some (.inr (.ref 124)), some (.inl (ec_tell (mm_E V) (mm_st V) 7)), none, none, none]) (st1 := [.inr (.ref 124)]) (M1 := V) (ob := []) rfl rfl rfl trivial rfl rfl (Nat.le_of_ble_eq_true rfl) ⟨Or.inr (Nat.le_of_ble_eq_true rfl), Or.inr fs_ob124⟩ (by decide) ?_
    refine fs_m_remembers (by rw [q1.2.1]; exact hc) (fun (R : fs_M) (r1 : mm_rem V R) => ?_)
    
    have nR : R 125 = M 125 := (r1.1 125 (by decide) (by decide)).trans nV
    have eR := r1.E
    have iR := r1.IJ hV c3
    have r129 : R 129 = V 129 := r1.1 129 (by decide) (by decide)
    have c0 : 0 ≤ V 124 4 ∧ V 124 4 ≤ 12 := by rw [q1.2.1]; exact hc
    refine fs_r_nop (L1 := [some (.inr (.ref 124)), some (.inl (ec_tell (mm_E V) (mm_st V) 7)), some (.inl 0), none, none]) (st1 := []) (M1 := R) (ob := [2 < 5]) rfl rfl (fs_oc (by decide) trivial) ?_
    have loop34 : ∀ (n34 : Nat) (a : Int) (zl3 : Option fs_V) (zl4 : Option fs_V) (M3 : fs_M), (0 ≤ a ∧ a ≤ M 125 0) → (∀ r, r ≠ 132 → r ≠ 133 → M3 r = R r) → (∀ q, 0 ≤ q → q < a → M3 132 q = lv_S (M 125) q ∧ M3 133 q = lv_c (M 125) q) → M 125 0 - a < (n34 : Int) → fs_W (d + 8) 221 34 [some (.inr (.ref 124)), some (.inl (ec_tell (mm_E V) (mm_st V) 7)), some (.inl a), zl3, zl4] [] M3 Q := by
      intro n34
      induction n34 with
      | zero =>
        intro a zl3 zl4 M3 i3 f3 l3 hm34
        exfalso
        omega
      | succ n34 ih34 =>
        intro a zl3 zl4 M3 i3 f3 l3 hm34
        have n3 : M3 125 = M 125 := (f3 125 (by decide) (by decide)).trans nR
        have n30 := congrFun n3 0
        refine fs_r_icmp (a := a) (y := (M3 125 0)) (L1 := [some (.inr (.ref 124)), some (.inl (ec_tell (mm_E V) (mm_st V) 7)), some (.inl a), zl3, zl4]) (st1 := []) (M1 := M3) (ob := [124 < fs_N ∧ fs_kd 124 = 6, (125 < fs_N ∧ fs_kd 125 = 100) ∧ (0 : Int) ≤ 0 ∧ 0 < fs_ln 125]) rfl rfl (fs_oc fs_ob124 (fs_oc (fs_ar125 (by omega) (by omega)) trivial)) (fun (h11 : (M3 125 0) ≤ a) => ?_) (fun (h11 : ¬ ((M3 125 0) ≤ a)) => ?_)
        · refine fs_r_nop (L1 := [some (.inr (.ref 124)), some (.inl (ec_tell (mm_E V) (mm_st V) 7)), some (.inl 0), zl3, zl4]) (st1 := []) (M1 := M3) (ob := [2 < 5]) rfl rfl (fs_oc (by decide) trivial) ?_
          have loop81 : ∀ (n81 : Nat) (h : Int) (zl3 : Option fs_V) (zl4 : Option fs_V) (M4 : fs_M), (0 ≤ h ∧ h ≤ M 125 1) → (∀ r, r ≠ 134 → M4 r = M3 r) → (∀ x y, 0 ≤ x → x < h → 0 ≤ y → y < M 125 0 → M4 134 (4 * x + y) = lv_p (M 125) x y) → M 125 1 - h < (n81 : Int) → fs_W (d + 8) 221 81 [some (.inr (.ref 124)), some (.inl (ec_tell (mm_E V) (mm_st V) 7)), some (.inl h), zl3, zl4] [] M4 Q := by
            intro n81
            induction n81 with
            | zero =>
              intro h zl3 zl4 M4 i4 f4 m4 hm81
              exfalso
              omega
            | succ n81 ih81 =>
              intro h zl3 zl4 M4 i4 f4 m4 hm81
              have n4 : M4 125 = M 125 := (f4 125 (by decide)).trans n3
              have n41 := congrFun n4 1
              refine fs_r_icmp (a := h) (y := (M4 125 1)) (L1 := [some (.inr (.ref 124)), some (.inl (ec_tell (mm_E V) (mm_st V) 7)), some (.inl h), zl3, zl4]) (st1 := []) (M1 := M4) (ob := [124 < fs_N ∧ fs_kd 124 = 6, (125 < fs_N ∧ fs_kd 125 = 100) ∧ (0 : Int) ≤ 1 ∧ 1 < fs_ln 125]) rfl rfl (fs_oc fs_ob124 (fs_oc (fs_ar125 (by omega) (by omega)) trivial)) (fun (h12 : (M4 125 1) ≤ h) => ?_) (fun (h12 : ¬ ((M4 125 1) ≤ h)) => ?_)
              · refine fs_r_nop (L1 := [some (.inr (.ref 124)), some (.inl (ec_tell (mm_E V) (mm_st V) 7)), some (.inl 0), zl3, zl4]) (st1 := []) (M1 := M4) (ob := [2 < 5]) rfl rfl (fs_oc (by decide) trivial) ?_
                have loop144 : ∀ (n144 : Nat) (h : Int) (zl3 : Option fs_V) (zl4 : Option fs_V) (M6 : fs_M), (0 ≤ h ∧ h ≤ M 125 1) → (∀ r, r ≠ 125 → r ≠ 132 → M6 r = M4 r) → (M6 125 = lvA (M 125) h) → (∀ q, 0 ≤ q → q < M 125 0 → M6 132 q = lv_l (M 125) q h.toNat) → M 125 1 - h < (n144 : Int) → fs_W (d + 8) 221 144 [some (.inr (.ref 124)), some (.inl (ec_tell (mm_E V) (mm_st V) 7)), some (.inl h), zl3, zl4] [] M6 Q := by
                  intro n144
                  induction n144 with
                  | zero =>
                    intro h zl3 zl4 M6 i6 f6 n6 l6 hm144
                    exfalso
                    omega
                  | succ n144 ih144 =>
                    intro h zl3 zl4 M6 i6 f6 n6 l6 hm144
                    have n61 : M6 125 1 = M 125 1 := by rw [n6]; exact lvA_at (by omega) (by omega)
                    refine fs_r_icmp (a := h) (y := (M6 125 1)) (L1 := [some (.inr (.ref 124)), some (.inl (ec_tell (mm_E V) (mm_st V) 7)), some (.inl h), zl3, zl4]) (st1 := []) (M1 := M6) (ob := [124 < fs_N ∧ fs_kd 124 = 6, (125 < fs_N ∧ fs_kd 125 = 100) ∧ (0 : Int) ≤ 1 ∧ 1 < fs_ln 125]) rfl rfl (fs_oc fs_ob124 (fs_oc (fs_ar125 (by omega) (by omega)) trivial)) (fun (h13 : (M6 125 1) ≤ h) => ?_) (fun (h13 : ¬ ((M6 125 1) ≤ h)) => ?_)
                    · refine fs_r_nop (L1 := [some (.inr (.ref 124)), some (.inl (ec_tell (mm_E V) (mm_st V) 7)), some (.inl 0), zl3, zl4]) (st1 := []) (M1 := M6) (ob := [2 < 5]) rfl rfl (fs_oc (by decide) trivial) ?_
                      have loop167 : ∀ (n167 : Nat) (h : Int) (zl3 : Option fs_V) (zl4 : Option fs_V) (M7 : fs_M), (0 ≤ h ∧ h ≤ M 125 1) → (∀ r, r ≠ 125 → M7 r = M6 r) → (M7 125 = lvB (M 125) h) → M 125 1 - h < (n167 : Int) → fs_W (d + 8) 221 167 [some (.inr (.ref 124)), some (.inl (ec_tell (mm_E V) (mm_st V) 7)), some (.inl h), zl3, zl4] [] M7 Q := by
                        intro n167
                        induction n167 with
                        | zero =>
                          intro h zl3 zl4 M7 i7 f7 n7 hm167
                          exfalso
                          omega
                        | succ n167 ih167 =>
                          intro h zl3 zl4 M7 i7 f7 n7 hm167
                          have n71 : M7 125 1 = M 125 1 := by rw [n7]; exact lvB_at (by omega)
                          have x7 : M7 124 15 = lv_S (M 125) 4 := by rw [f7 124 (by decide), f6 124 (by decide) (by decide), f4 124 (by decide), f3 124 (by decide) (by decide), r1.2.1 15 (by decide)]; exact s4
                          have lf : lv_f (M 125) h ↔ fs_and (fs_shr (M7 124 15) h) 1 = 1 := by rw [x7]; exact Iff.rfl
                          refine fs_r_icmp (a := h) (y := (M7 125 1)) (L1 := [some (.inr (.ref 124)), some (.inl (ec_tell (mm_E V) (mm_st V) 7)), some (.inl h), zl3, zl4]) (st1 := []) (M1 := M7) (ob := [124 < fs_N ∧ fs_kd 124 = 6, (125 < fs_N ∧ fs_kd 125 = 100) ∧ (0 : Int) ≤ 1 ∧ 1 < fs_ln 125]) rfl rfl (fs_oc fs_ob124 (fs_oc (fs_ar125 (by omega) (by omega)) trivial)) (fun (h14 : (M7 125 1) ≤ h) => ?_) (fun (h14 : ¬ ((M7 125 1) ≤ h)) => ?_)
                          · refine fs_r_nop (L1 := [some (.inr (.ref 124)), some (.inl (ec_tell (mm_E V) (mm_st V) 7)), some (.inl 0), zl3, zl4]) (st1 := []) (M1 := M7) (ob := [2 < 5]) rfl rfl (fs_oc (by decide) trivial) ?_
                            have loop202 : ∀ (n202 : Nat) (a : Int) (zl3 : Option fs_V) (zl4 : Option fs_V) (M8 : fs_M), (0 ≤ a ∧ a ≤ M 125 0) → (∀ r, r ≠ 125 → M8 r = M7 r) → (M8 125 = lvC (M 125) a) → M 125 0 - a < (n202 : Int) → fs_W (d + 8) 221 202 [some (.inr (.ref 124)), some (.inl (ec_tell (mm_E V) (mm_st V) 7)), some (.inl a), zl3, zl4] [] M8 Q := by
                              intro n202
                              induction n202 with
                              | zero =>
                                intro a zl3 zl4 M8 i8 f8 n8 hm202
                                exfalso
                                omega
                              | succ n202 ih202 =>
                                intro a zl3 zl4 M8 i8 f8 n8 hm202
                                have n80 : M8 125 0 = M 125 0 := by rw [n8]; unfold lvC; rw [if_neg (by omega)]; exact lvB_at (by omega)
                                refine fs_r_icmp (a := a) (y := (M8 125 0)) (L1 := [some (.inr (.ref 124)), some (.inl (ec_tell (mm_E V) (mm_st V) 7)), some (.inl a), zl3, zl4]) (st1 := []) (M1 := M8) (ob := [124 < fs_N ∧ fs_kd 124 = 6, (125 < fs_N ∧ fs_kd 125 = 100) ∧ (0 : Int) ≤ 0 ∧ 0 < fs_ln 125]) rfl rfl (fs_oc fs_ob124 (fs_oc (fs_ar125 (by omega) (by omega)) trivial)) (fun (h15 : (M8 125 0) ≤ a) => ?_) (fun (h15 : ¬ ((M8 125 0) ≤ a)) => ?_)
                                · refine fs_r_iret (a := (ec_tell (mm_E V) (mm_st V) 7)) (L1 := [some (.inr (.ref 124)), some (.inl (ec_tell (mm_E V) (mm_st V) 7)), some (.inl a), zl3, zl4]) (M1 := M8) (ob := []) rfl rfl trivial (Or.inl rfl) ?_
                                  rw [et]
                                  exact hq0 _ (fun z => by omega) (mm_rem.q q1 r1 (fun r z => by rw [f8 r (by omega), f7 r (by omega), f6 r (by omega) (by omega), f4 r (by omega), f3 r (by omega) (by omega)]) (by rw [n8, show a = M 125 0 by omega]; rfl))
                                have b2 : M8 125 (2 + a) = M 125 (2 + a) := by rw [n8]; unfold lvC; rw [if_neg (by omega)]; exact lvB_at (by omega)
                                have b6 : M8 125 (6 + a) = M 125 (6 + a) := by rw [n8]; unfold lvC; rw [if_neg (by omega)]; exact lvB_at (by omega)
                                have bs : M8 129 a = lv_S (M 125) a := by rw [f8 129 (by decide), f7 129 (by decide), f6 129 (by decide) (by decide), f4 129 (by decide), f3 129 (by decide) (by decide), r129]; exact sa a (by omega) (by omega)
                                have cb := hN.2.2.1 a (by omega) (by omega)
                                have sb2 := sb.1 a (by omega) (by omega)
                                have mu : 0 ≤ (M8 125 (6 + a)) * (M8 129 a) ∧ (M8 125 (6 + a)) * (M8 129 a) ≤ 9 * 360 := by rw [b6, bs]; exact ⟨Int.mul_nonneg cb.2.1 sb2.1, Int.mul_le_mul cb.2.2 sb2.2 sb2.1 (by omega)⟩
                                have join255 : ∀ (v : Int), (v = max 1 (M 125 (2 + a) - M 125 (6 + a) * lv_S (M 125) a)) → fs_W (d + 8) 221 255 [some (.inr (.ref 124)), some (.inl (ec_tell (mm_E V) (mm_st V) 7)), some (.inl a), some (.inl ((M8 125 (2 + a)) - ((M8 125 (6 + a)) * (M8 129 a)))), zl4] [.inl v, .inl (2 + a), .inr (.ref 125)] M8 Q := by
                                  intro v v0
                                  refine fs_r_goto (L1 := [some (.inr (.ref 124)), some (.inl (ec_tell (mm_E V) (mm_st V) 7)), some (.inl (a + 1)), some (.inl ((M8 125 (2 + a)) - ((M8 125 (6 + a)) * (M8 129 a)))), zl4]) (st1 := []) (M1 := (fs_up M8 125 (2 + a) v)) (ob := [(125 < fs_N ∧ fs_kd 125 = 100) ∧ (0 : Int) ≤ (2 + a) ∧ (2 + a) < fs_ln 125, fs_rg (a + 1)]) rfl rfl (fs_oc (fs_ar125 (by omega) (by omega)) (fs_oc ⟨by omega, by omega⟩ trivial)) ?_
                                  exact ih202 ((a + 1)) (some (.inl ((M8 125 (2 + a)) - ((M8 125 (6 + a)) * (M8 129 a))))) (zl4) (fs_up M8 125 (2 + a) v) (by omega) (fun r q => by rw [fs_up_other q]; exact f8 r q) (lvC_s (by omega) (fun q => by rw [fs_up_at, n8, v0])) (by omega)
                                refine fs_r_icmp (a := ((M8 125 (2 + a)) - ((M8 125 (6 + a)) * (M8 129 a)))) (y := 1) (L1 := [some (.inr (.ref 124)), some (.inl (ec_tell (mm_E V) (mm_st V) 7)), some (.inl a), some (.inl ((M8 125 (2 + a)) - ((M8 125 (6 + a)) * (M8 129 a)))), zl4]) (st1 := [.inl (2 + a), .inr (.ref 125)]) (M1 := M8) (ob := [124 < fs_N ∧ fs_kd 124 = 6, fs_rg (2 + a), (125 < fs_N ∧ fs_kd 125 = 100) ∧ (0 : Int) ≤ (2 + a) ∧ (2 + a) < fs_ln 125, 124 < fs_N ∧ fs_kd 124 = 6, fs_rg (6 + a), (125 < fs_N ∧ fs_kd 125 = 100) ∧ (0 : Int) ≤ (6 + a) ∧ (6 + a) < fs_ln 125, 124 < fs_N ∧ fs_kd 124 = 6, (129 < fs_N ∧ fs_kd 129 = 100) ∧ (0 : Int) ≤ a ∧ a < fs_ln 129, fs_rg ((M8 125 (6 + a)) * (M8 129 a)), fs_rg ((M8 125 (2 + a)) - ((M8 125 (6 + a)) * (M8 129 a))), 3 < 5, 124 < fs_N ∧ fs_kd 124 = 6, fs_rg (2 + a)]) rfl (fs_exA 6 (o1 := [124 < fs_N ∧ fs_kd 124 = 6, fs_rg (2 + a), (125 < fs_N ∧ fs_kd 125 = 100) ∧ (0 : Int) ≤ (2 + a) ∧ (2 + a) < fs_ln 125]) (L1 := [some (.inr (.ref 124)), some (.inl (ec_tell (mm_E V) (mm_st V) 7)), some (.inl a), zl3, zl4]) (st1 := [.inl (M8 125 (2 + a))]) (M1 := M8) (o2 := [124 < fs_N ∧ fs_kd 124 = 6, fs_rg (6 + a), (125 < fs_N ∧ fs_kd 125 = 100) ∧ (0 : Int) ≤ (6 + a) ∧ (6 + a) < fs_ln 125, 124 < fs_N ∧ fs_kd 124 = 6, (129 < fs_N ∧ fs_kd 129 = 100) ∧ (0 : Int) ≤ a ∧ a < fs_ln 129, fs_rg ((M8 125 (6 + a)) * (M8 129 a)), fs_rg ((M8 125 (2 + a)) - ((M8 125 (6 + a)) * (M8 129 a))), 3 < 5, 124 < fs_N ∧ fs_kd 124 = 6, fs_rg (2 + a)]) rfl (fs_exA 6 (o1 := [124 < fs_N ∧ fs_kd 124 = 6, fs_rg (6 + a), (125 < fs_N ∧ fs_kd 125 = 100) ∧ (0 : Int) ≤ (6 + a) ∧ (6 + a) < fs_ln 125]) (L1 := [some (.inr (.ref 124)), some (.inl (ec_tell (mm_E V) (mm_st V) 7)), some (.inl a), zl3, zl4]) (st1 := [.inl (M8 125 (6 + a)), .inl (M8 125 (2 + a))]) (M1 := M8) (o2 := [124 < fs_N ∧ fs_kd 124 = 6, (129 < fs_N ∧ fs_kd 129 = 100) ∧ (0 : Int) ≤ a ∧ a < fs_ln 129, fs_rg ((M8 125 (6 + a)) * (M8 129 a)), fs_rg ((M8 125 (2 + a)) - ((M8 125 (6 + a)) * (M8 129 a))), 3 < 5, 124 < fs_N ∧ fs_kd 124 = 6, fs_rg (2 + a)]) rfl (fs_exA 6 (o1 := [124 < fs_N ∧ fs_kd 124 = 6, (129 < fs_N ∧ fs_kd 129 = 100) ∧ (0 : Int) ≤ a ∧ a < fs_ln 129, fs_rg ((M8 125 (6 + a)) * (M8 129 a)), fs_rg ((M8 125 (2 + a)) - ((M8 125 (6 + a)) * (M8 129 a)))]) (L1 := [some (.inr (.ref 124)), some (.inl (ec_tell (mm_E V) (mm_st V) 7)), some (.inl a), zl3, zl4]) (st1 := [.inl ((M8 125 (2 + a)) - ((M8 125 (6 + a)) * (M8 129 a)))]) (M1 := M8) (o2 := [3 < 5, 124 < fs_N ∧ fs_kd 124 = 6, fs_rg (2 + a)]) rfl (fs_exA 6 (o1 := [3 < 5, 124 < fs_N ∧ fs_kd 124 = 6, fs_rg (2 + a)]) (L1 := [some (.inr (.ref 124)), some (.inl (ec_tell (mm_E V) (mm_st V) 7)), some (.inl a), some (.inl ((M8 125 (2 + a)) - ((M8 125 (6 + a)) * (M8 129 a)))), zl4]) (st1 := [.inl (2 + a), .inr (.ref 125)]) (M1 := M8) (o2 := []) rfl rfl)))) (fs_oc fs_ob124 (fs_oc ⟨by omega, by omega⟩ (fs_oc (fs_ar125 (by omega) (by omega)) (fs_oc fs_ob124 (fs_oc ⟨by omega, by omega⟩ (fs_oc (fs_ar125 (by omega) (by omega)) (fs_oc fs_ob124 (fs_oc (fs_ar129 (by omega) (by omega)) (fs_oc ⟨by omega, by omega⟩ (fs_oc ⟨by omega, by omega⟩ (fs_oc (by decide) (fs_oc fs_ob124 (fs_oc ⟨by omega, by omega⟩ trivial))))))))))))) (fun (h16 : 1 ≤ ((M8 125 (2 + a)) - ((M8 125 (6 + a)) * (M8 129 a)))) => ?_) (fun (h16 : ¬ (1 ≤ ((M8 125 (2 + a)) - ((M8 125 (6 + a)) * (M8 129 a))))) => ?_)
                                · refine fs_r_nop (L1 := [some (.inr (.ref 124)), some (.inl (ec_tell (mm_E V) (mm_st V) 7)), some (.inl a), some (.inl ((M8 125 (2 + a)) - ((M8 125 (6 + a)) * (M8 129 a)))), zl4]) (st1 := [.inl ((M8 125 (2 + a)) - ((M8 125 (6 + a)) * (M8 129 a))), .inl (2 + a), .inr (.ref 125)]) (M1 := M8) (ob := []) rfl rfl trivial ?_
                                  exact join255 (((M8 125 (2 + a)) - ((M8 125 (6 + a)) * (M8 129 a)))) (by rw [b2, b6, bs] at *; omega)
                                refine fs_r_goto (L1 := [some (.inr (.ref 124)), some (.inl (ec_tell (mm_E V) (mm_st V) 7)), some (.inl a), some (.inl ((M8 125 (2 + a)) - ((M8 125 (6 + a)) * (M8 129 a)))), zl4]) (st1 := [.inl 1, .inl (2 + a), .inr (.ref 125)]) (M1 := M8) (ob := []) rfl rfl trivial ?_
                                exact join255 (1) (by rw [b2, b6, bs] at *; omega)
                            exact loop202 (((M 125 0 - (0)) : Int) + 1).toNat (0) (zl3) (zl4) M7 (by omega) (fun r _ => rfl) (by rw [lvC_0, n7, show h = M 125 1 by omega]) (by omega)
                          refine fs_r_icmp (a := (fs_and (fs_shr (M7 124 15) h) 1)) (y := 1) (L1 := [some (.inr (.ref 124)), some (.inl (ec_tell (mm_E V) (mm_st V) 7)), some (.inl h), zl3, zl4]) (st1 := []) (M1 := M7) (ob := [124 < fs_N ∧ fs_kd 124 = 6]) rfl rfl (fs_oc fs_ob124 trivial) (fun (h17 : ¬ (fs_and (fs_shr (M7 124 15) h) 1) = 1) => ?_) (fun (h17 : ¬ (¬ (fs_and (fs_shr (M7 124 15) h) 1) = 1)) => ?_)
                          · refine fs_r_goto (L1 := [some (.inr (.ref 124)), some (.inl (ec_tell (mm_E V) (mm_st V) 7)), some (.inl (h + 1)), zl3, zl4]) (st1 := []) (M1 := M7) (ob := [fs_rg (h + 1)]) rfl rfl (fs_oc ⟨by omega, by omega⟩ trivial) ?_
                            exact ih167 ((h + 1)) (zl3) (zl4) M7 (by omega) (fun r q => by first | exact f7 r q | (rw [wf r q]; exact f7 r q)) (by first | (rw [n7]; exact lvB_f (by omega) (fun z => by have := lf.mp z; omega)) | exact lvB_t (by omega) (lf.mpr (by omega)) (fun q => by rw [wn q, n7])) (by omega)
                          refine fs_r_call (sta := false) (idx := 264) (as := [.inr (.ref 124), .inl h]) (rest := []) (L1 := [some (.inr (.ref 124)), some (.inl (ec_tell (mm_E V) (mm_st V) 7)), some (.inl h), zl3, zl4]) (st1 := [.inl h, .inr (.ref 124)]) (M1 := M7) (ob := []) rfl rfl rfl trivial rfl rfl (Nat.le_of_ble_eq_true rfl) ⟨Or.inr (Nat.le_of_ble_eq_true rfl), Or.inr fs_ob124⟩ (by decide) ?_
                          refine fs_m_shuts (by omega) (fun (W : fs_M) (wf : ∀ r, r ≠ 125 → W r = M7 r) (wn : ∀ q, W 125 q = if (10 + 5 * h ≤ q ∧ q < 10 + 5 * h + 3) ∨ (40 + 4 * h ≤ q ∧ q < 40 + 4 * h + 4) ∨ (64 ≤ q ∧ q < 100 ∧ ((q - 64) / 6 = h ∨ (q - 64) % 6 = h)) then 0 else M7 125 q) => ?_)
                          refine fs_r_goto (L1 := [some (.inr (.ref 124)), some (.inl (ec_tell (mm_E V) (mm_st V) 7)), some (.inl (h + 1)), zl3, zl4]) (st1 := []) (M1 := W) (ob := [fs_rg (h + 1)]) rfl rfl (fs_oc ⟨by omega, by omega⟩ trivial) ?_
                          exact ih167 ((h + 1)) (zl3) (zl4) W (by omega) (fun r q => by first | exact f7 r q | (rw [wf r q]; exact f7 r q)) (by first | (rw [n7]; exact lvB_f (by omega) (fun z => by have := lf.mp z; omega)) | exact lvB_t (by omega) (lf.mpr (by omega)) (fun q => by rw [wn q, n7])) (by omega)
                      exact loop167 (((M 125 1 - (0)) : Int) + 1).toNat (0) (zl3) (zl4) M6 (by omega) (fun r _ => rfl) (by rw [lvB_0, n6, show h = M 125 1 by omega]) (by omega)
                    have lb : ∀ q, 0 ≤ q → q < M 125 0 → M6 134 (4 * h + q) = lv_p (M 125) h q ∧ M6 133 q = lv_c (M 125) q := fun q q0 q1 => by
                      refine ⟨?_, ?_⟩
                      · rw [f6 134 (by decide) (by decide)]
                        exact m4 h q (by omega) (by omega) q0 q1
                      · rw [f6 133 (by decide) (by decide), f4 133 (by decide)]
                        exact (l3 q q0 (by omega)).2
                    have sn : ∀ q, 0 ≤ q → q < M 125 0 → sb_n M6 h q = lv_n (M 125) h q := fun q q0 q1 => by
                      unfold sb_n lv_n
                      rw [(lb q q0 q1).1, l6 q q0 q1]
                    have r0 : M6 125 (10 + 5 * h + 0) = M 125 (10 + 5 * h + 0) := by rw [n6]; exact lvA_at (by omega) (by omega)
                    have r0b := hN.2.2.2.1 h 0 (by omega) (by omega) (by omega) (by omega)
                    have rh : ∀ q, 0 ≤ q → q < M 125 0 → M6 125 (40 + 4 * h + q) = M 125 (40 + 4 * h + q) := fun q q0 q1 => by rw [n6]; exact lvA_at (by omega) (by omega)
                    have r00 : M6 125 0 = M 125 0 := by rw [n6]; exact lvA_at (by omega) (by omega)
                    have hb9 : ∀ q, 0 ≤ q → q < M6 125 0 → (0 ≤ M6 134 (4 * h + q) ∧ M6 134 (4 * h + q) ≤ 240) ∧ (0 ≤ M6 132 q ∧ M6 132 q ≤ 360) ∧ (0 ≤ M6 133 q ∧ M6 133 q ≤ 200) ∧ 0 ≤ M6 125 (40 + 4 * h + q) ∧ M6 125 (40 + 4 * h + q) ≤ 60 := fun q q0 q1 => by
                      have p := lv_p_b (h := h) (a := q) hN (by omega) (by omega)
                      have l := lv_l_b (a := q) hN (by omega) h.toNat (by omega)
                      have c := lv_c_b (a := q) hN (by omega)
                      have w := hN.2.2.2.2.1 h q (by omega) (by omega) q0 (by omega)
                      rw [(lb q q0 (by omega)).1, (lb q q0 (by omega)).2, l6 q q0 (by omega), rh q q0 (by omega)]
                      omega
                    have sm : sb_s M6 h (M6 125 0).toNat = lv_m (M 125) h (M 125 0).toNat := by
                      rw [r00]
                      exact fs_sum_c (fun q q0 q1 => by show sb_n M6 h q * M6 133 q = _; rw [sn q q0 (by omega), (lb q q0 (by omega)).2])
                    refine fs_r_call (sta := false) (idx := 261) (as := [.inr (.ref 124), .inl h]) (rest := []) (L1 := [some (.inr (.ref 124)), some (.inl (ec_tell (mm_E V) (mm_st V) 7)), some (.inl h), zl3, zl4]) (st1 := [.inl h, .inr (.ref 124)]) (M1 := M6) (ob := []) rfl rfl rfl trivial rfl rfl (Nat.le_of_ble_eq_true rfl) ⟨Or.inr (Nat.le_of_ble_eq_true rfl), Or.inr fs_ob124⟩ (by decide) ?_
                    refine fs_m_sellsBy (by omega) (by omega) (by omega) (hb9) (fun (W : fs_M) (wf : ∀ r, r ≠ 125 → r ≠ 132 → W r = M6 r) (wl : ∀ q, W 132 q = if 0 ≤ q ∧ q < M6 125 0 then M6 132 q - sb_n M6 h q else M6 132 q) (wn : ∀ q, W 125 q = if q = 10 + 5 * h + 0 then min (M6 125 (10 + 5 * h + 0) + sb_s M6 h (M6 125 0).toNat) 9999 else if 40 + 4 * h ≤ q ∧ q < 40 + 4 * h + M6 125 0 then M6 125 q - sb_n M6 h (q - (40 + 4 * h)) else M6 125 q) => ?_)
                    have nn : W 125 = lvA (M 125) (h + 1) := lvA_s (by omega) hA (fun q => by
                      rw [wn q, r0, sm, r00]
                      by_cases z1 : q = 10 + 5 * h + 0
                      · rw [if_pos z1, if_pos z1]
                      · rw [if_neg z1, if_neg z1]
                        by_cases z2 : 40 + 4 * h ≤ q ∧ q < 40 + 4 * h + M 125 0
                        · rw [if_pos z2, if_pos z2, sn _ (by omega) (by omega)]
                          have w := rh (q - (40 + 4 * h)) (by omega) (by omega)
                          rw [show 40 + 4 * h + (q - (40 + 4 * h)) = q by omega] at w
                          rw [w]
                        · rw [if_neg z2, if_neg z2, n6])
                    have ll : ∀ q, 0 ≤ q → q < M 125 0 → W 132 q = lv_l (M 125) q (h + 1).toNat := fun q q0 q1 => by
                      rw [wl q, if_pos (by omega), sn q q0 q1, lv_l_s (by omega), l6 q q0 q1]
                    refine fs_r_goto (L1 := [some (.inr (.ref 124)), some (.inl (ec_tell (mm_E V) (mm_st V) 7)), some (.inl (h + 1)), zl3, zl4]) (st1 := []) (M1 := W) (ob := [fs_rg (h + 1)]) rfl rfl (fs_oc ⟨by omega, by omega⟩ trivial) ?_
                    exact ih144 ((h + 1)) (zl3) (zl4) W (by omega) (fun r q1 q2 => by rw [wf r q1 q2]; exact f6 r q1 q2) (nn) (ll) (by omega)
                exact loop144 (((M 125 1 - (0)) : Int) + 1).toNat (0) (zl3) (zl4) M4 (by omega) (fun r _ _ => rfl) (by rw [n4, lvA_0]) (fun q q0 q1 => by rw [f4 132 (by decide)]; exact (l3 q q0 (by omega)).1) (by omega)
              have g4 := mm_fr (M := R) (M2 := M4) ⟨(f4 124 (by decide)).trans (f3 124 (by decide) (by decide)), (f4 125 (by decide)).trans (f3 125 (by decide) (by decide)), (f4 129 (by decide)).trans (f3 129 (by decide) (by decide)), (f4 131 (by decide)).trans (f3 131 (by decide) (by decide))⟩
              have me : ec_due (mm_E M4) h (ec_worth (mm_E M4) (mm_st M4) h) = ec_due (ec_pl (M 125)) h (ec_worth (ec_pl (M 125)) (lv_S (M 125)) h) := by
                rw [g4.1, g4.2.1, eR.1, eR.2, sV, eV.due (by omega) (by show h < V 125 1; rw [nV]; omega), eV.worth (by omega) (by show h < V 125 1; rw [nV]; omega)]
              refine fs_r_call (sta := false) (idx := 196) (as := [.inr (.ref 124), .inl h]) (rest := []) (L1 := [some (.inr (.ref 124)), some (.inl (ec_tell (mm_E V) (mm_st V) 7)), some (.inl h), zl3, zl4]) (st1 := [.inl h, .inr (.ref 124)]) (M1 := M4) (ob := []) rfl rfl rfl trivial rfl rfl (Nat.le_of_ble_eq_true rfl) ⟨Or.inr (Nat.le_of_ble_eq_true rfl), Or.inr fs_ob124⟩ (by decide) ?_
              refine fs_m_must (g4.2.2.1 iR.1) (g4.2.2.2 iR.2) (by omega) ?_
              refine fs_r_nop (L1 := [some (.inr (.ref 124)), some (.inl (ec_tell (mm_E V) (mm_st V) 7)), some (.inl h), some (.inl (ec_due (mm_E M4) h (ec_worth (mm_E M4) (mm_st M4) h))), some (.inl 0)]) (st1 := []) (M1 := M4) (ob := [3 < 5, 4 < 5]) rfl rfl (fs_oc (by decide) (fs_oc (by decide) trivial)) ?_
              have loop100 : ∀ (n100 : Nat) (mn : Int) (b : Int) (M5 : fs_M), (0 ≤ b ∧ b ≤ M 125 0) → (mn = ec_due (ec_pl (M 125)) h (ec_worth (ec_pl (M 125)) (lv_S (M 125)) h)) → (∀ r, r ≠ 134 → M5 r = M3 r) → (∀ x y, 0 ≤ x → 0 ≤ y → y < M 125 0 → (x < h ∨ (x = h ∧ y < b)) → M5 134 (4 * x + y) = lv_p (M 125) x y) → M 125 0 - b < (n100 : Int) → fs_W (d + 8) 221 100 [some (.inr (.ref 124)), some (.inl (ec_tell (mm_E V) (mm_st V) 7)), some (.inl h), some (.inl mn), some (.inl b)] [] M5 Q := by
                intro n100
                induction n100 with
                | zero =>
                  intro mn b M5 i5 mn0 f5 m5 hm100
                  exfalso
                  omega
                | succ n100 ih100 =>
                  intro mn b M5 i5 mn0 f5 m5 hm100
                  have n5 : M5 125 = M 125 := (f5 125 (by decide)).trans n3
                  have n50 := congrFun n5 0
                  have n51 := congrFun n5 1
                  have mb : 0 ≤ mn ∧ mn ≤ 240 := by rw [mn0]; exact mk_due_b (M := fun r i => ec_pl (M 125) (r - 20) i) (pl_bd hN) (by show 0 ≤ h ∧ h < M 125 1; omega)
                  refine fs_r_icmp (a := b) (y := (M5 125 0)) (L1 := [some (.inr (.ref 124)), some (.inl (ec_tell (mm_E V) (mm_st V) 7)), some (.inl h), some (.inl mn), some (.inl b)]) (st1 := []) (M1 := M5) (ob := [124 < fs_N ∧ fs_kd 124 = 6, (125 < fs_N ∧ fs_kd 125 = 100) ∧ (0 : Int) ≤ 0 ∧ 0 < fs_ln 125]) rfl rfl (fs_oc fs_ob124 (fs_oc (fs_ar125 (by omega) (by omega)) trivial)) (fun (h18 : (M5 125 0) ≤ b) => ?_) (fun (h18 : ¬ ((M5 125 0) ≤ b)) => ?_)
                  · refine fs_r_goto (L1 := [some (.inr (.ref 124)), some (.inl (ec_tell (mm_E V) (mm_st V) 7)), some (.inl (h + 1)), some (.inl mn), some (.inl b)]) (st1 := []) (M1 := M5) (ob := [fs_rg (h + 1)]) rfl rfl (fs_oc ⟨by omega, by omega⟩ trivial) ?_
                    exact ih81 ((h + 1)) (some (.inl mn)) (some (.inl b)) M5 (by omega) (f5) (fun x y x0 x1 y0 y1 => m5 x y x0 y0 y1 (by omega)) (by omega)
                  have g5 := mm_fr (M := R) (M2 := M5) ⟨(f5 124 (by decide)).trans (f3 124 (by decide) (by decide)), (f5 125 (by decide)).trans (f3 125 (by decide) (by decide)), (f5 129 (by decide)).trans (f3 129 (by decide) (by decide)), (f5 131 (by decide)).trans (f3 131 (by decide) (by decide))⟩
                  have pe : ec_part (mm_E M5) h mn b = lv_p (M 125) h b := by rw [g5.1, eR.1, mn0, eV.part (by omega) (by show h < V 125 1; rw [nV]; omega) (by omega) (by show b < V 125 0; rw [nV]; omega)]; rfl
                  refine fs_r_call (sta := false) (idx := 199) (as := [.inr (.ref 124), .inl h, .inl b, .inl mn]) (rest := [.inl ((4 * h) + b), .inr (.ref 134)]) (L1 := [some (.inr (.ref 124)), some (.inl (ec_tell (mm_E V) (mm_st V) 7)), some (.inl h), some (.inl mn), some (.inl b)]) (st1 := [.inl mn, .inl b, .inl h, .inr (.ref 124), .inl ((4 * h) + b), .inr (.ref 134)]) (M1 := M5) (ob := [124 < fs_N ∧ fs_kd 124 = 6, fs_rg (4 * h), fs_rg ((4 * h) + b)]) rfl rfl (fs_exA 6 (o1 := [124 < fs_N ∧ fs_kd 124 = 6, fs_rg (4 * h)]) (L1 := [some (.inr (.ref 124)), some (.inl (ec_tell (mm_E V) (mm_st V) 7)), some (.inl h), some (.inl mn), some (.inl b)]) (st1 := [.inl b, .inl (4 * h), .inr (.ref 134)]) (M1 := M5) (o2 := [fs_rg ((4 * h) + b)]) rfl rfl) (fs_oc fs_ob124 (fs_oc ⟨by omega, by omega⟩ (fs_oc ⟨by omega, by omega⟩ trivial))) rfl rfl (Nat.le_of_ble_eq_true rfl) ⟨Or.inr (Nat.le_of_ble_eq_true rfl), Or.inr fs_ob124⟩ (by decide) ?_
                  refine fs_m_mustOf (g5.2.2.1 iR.1) (by omega) (by omega) (by omega) ?_
                  refine fs_r_goto (L1 := [some (.inr (.ref 124)), some (.inl (ec_tell (mm_E V) (mm_st V) 7)), some (.inl h), some (.inl mn), some (.inl (b + 1))]) (st1 := []) (M1 := (fs_up M5 134 ((4 * h) + b) (ec_part (mm_E M5) h mn b))) (ob := [(134 < fs_N ∧ fs_kd 134 = 100) ∧ (0 : Int) ≤ ((4 * h) + b) ∧ ((4 * h) + b) < fs_ln 134, fs_rg (b + 1)]) rfl rfl (fs_oc (fs_ar134 (by omega) (by omega)) (fs_oc ⟨by omega, by omega⟩ trivial)) ?_
                  exact ih100 (mn) ((b + 1)) (fs_up M5 134 ((4 * h) + b) (ec_part (mm_E M5) h mn b)) (by omega) (mn0) (fun r q => by rw [fs_up_other q]; exact f5 r q) (fun x y x0 y0 y1 z => by rw [fs_up_at]; by_cases w : 4 * x + y = 4 * h + b; (rw [if_pos w, pe, show x = h by omega, show y = b by omega]); (rw [if_neg w]; exact m5 x y x0 y0 y1 (by omega))) (by omega)
              exact loop100 (((M 125 0 - (0)) : Int) + 1).toNat ((ec_due (mm_E M4) h (ec_worth (mm_E M4) (mm_st M4) h))) (0) M4 (by omega) (me) (f4) (fun x y x0 y0 y1 z => m4 x y x0 (by omega) y0 y1) (by omega)
          exact loop81 (((M 125 1 - (0)) : Int) + 1).toNat (0) (zl3) (zl4) M3 (by omega) (fun r _ => rfl) (fun x y _ _ _ _ => by omega) (by omega)
        have g3 := mm_fr (M := R) (M2 := (fs_up M3 132 a (M3 129 a))) ⟨by rw [fs_up_other (by decide)]; exact f3 124 (by decide) (by decide), by rw [fs_up_other (by decide)]; exact f3 125 (by decide) (by decide), by rw [fs_up_other (by decide)]; exact f3 129 (by decide) (by decide), by rw [fs_up_other (by decide)]; exact f3 131 (by decide) (by decide)⟩
        have x129 : M3 129 a = lv_S (M 125) a := by rw [f3 129 (by decide) (by decide), r129]; exact sa a (by omega) (by omega)
        have y129 := sb.1 a (by omega) (by omega)
        have pe : ec_price (mm_E (fs_up M3 132 a (M3 129 a))) a (M3 129 a) = lv_c (M 125) a := by rw [g3.1, eR.1, x129, eV.price (by omega) (by show a < V 125 0; rw [nV]; omega)]; rfl
        refine fs_r_call (sta := false) (idx := 178) (as := [.inr (.ref 124), .inl a, .inl (M3 129 a)]) (rest := [.inl a, .inr (.ref 133)]) (L1 := [some (.inr (.ref 124)), some (.inl (ec_tell (mm_E V) (mm_st V) 7)), some (.inl a), zl3, zl4]) (st1 := [.inl (M3 129 a), .inl a, .inr (.ref 124), .inl a, .inr (.ref 133)]) (M1 := (fs_up M3 132 a (M3 129 a))) (ob := [124 < fs_N ∧ fs_kd 124 = 6, 124 < fs_N ∧ fs_kd 124 = 6, (129 < fs_N ∧ fs_kd 129 = 100) ∧ (0 : Int) ≤ a ∧ a < fs_ln 129, (132 < fs_N ∧ fs_kd 132 = 100) ∧ (0 : Int) ≤ a ∧ a < fs_ln 132, 124 < fs_N ∧ fs_kd 124 = 6, 124 < fs_N ∧ fs_kd 124 = 6, (129 < fs_N ∧ fs_kd 129 = 100) ∧ (0 : Int) ≤ a ∧ a < fs_ln 129]) rfl rfl (fs_exA 6 (o1 := [124 < fs_N ∧ fs_kd 124 = 6, 124 < fs_N ∧ fs_kd 124 = 6]) (L1 := [some (.inr (.ref 124)), some (.inl (ec_tell (mm_E V) (mm_st V) 7)), some (.inl a), zl3, zl4]) (st1 := [.inl a, .inr (.ref 129), .inl a, .inr (.ref 132)]) (M1 := M3) (o2 := [(129 < fs_N ∧ fs_kd 129 = 100) ∧ (0 : Int) ≤ a ∧ a < fs_ln 129, (132 < fs_N ∧ fs_kd 132 = 100) ∧ (0 : Int) ≤ a ∧ a < fs_ln 132, 124 < fs_N ∧ fs_kd 124 = 6, 124 < fs_N ∧ fs_kd 124 = 6, (129 < fs_N ∧ fs_kd 129 = 100) ∧ (0 : Int) ≤ a ∧ a < fs_ln 129]) rfl (fs_exA 6 (o1 := [(129 < fs_N ∧ fs_kd 129 = 100) ∧ (0 : Int) ≤ a ∧ a < fs_ln 129, (132 < fs_N ∧ fs_kd 132 = 100) ∧ (0 : Int) ≤ a ∧ a < fs_ln 132, 124 < fs_N ∧ fs_kd 124 = 6]) (L1 := [some (.inr (.ref 124)), some (.inl (ec_tell (mm_E V) (mm_st V) 7)), some (.inl a), zl3, zl4]) (st1 := [.inr (.ref 124), .inl a, .inr (.ref 133)]) (M1 := (fs_up M3 132 a (M3 129 a))) (o2 := [124 < fs_N ∧ fs_kd 124 = 6, (129 < fs_N ∧ fs_kd 129 = 100) ∧ (0 : Int) ≤ a ∧ a < fs_ln 129]) rfl rfl)) (fs_oc fs_ob124 (fs_oc fs_ob124 (fs_oc (fs_ar129 (by omega) (by omega)) (fs_oc (fs_ar132 (by omega) (by omega)) (fs_oc fs_ob124 (fs_oc fs_ob124 (fs_oc (fs_ar129 (by omega) (by omega)) trivial))))))) rfl rfl (Nat.le_of_ble_eq_true rfl) ⟨Or.inr (Nat.le_of_ble_eq_true rfl), Or.inr fs_ob124⟩ (by decide) ?_
        refine fs_m_priceBy (g3.2.2.1 iR.1) (by omega) (by omega) ?_
        refine fs_r_goto (L1 := [some (.inr (.ref 124)), some (.inl (ec_tell (mm_E V) (mm_st V) 7)), some (.inl (a + 1)), zl3, zl4]) (st1 := []) (M1 := (fs_up (fs_up M3 132 a (M3 129 a)) 133 a (ec_price (mm_E (fs_up M3 132 a (M3 129 a))) a (M3 129 a)))) (ob := [(133 < fs_N ∧ fs_kd 133 = 100) ∧ (0 : Int) ≤ a ∧ a < fs_ln 133, fs_rg (a + 1)]) rfl rfl (fs_oc (fs_ar133 (by omega) (by omega)) (fs_oc ⟨by omega, by omega⟩ trivial)) ?_
        exact ih34 ((a + 1)) (zl3) (zl4) (fs_up (fs_up M3 132 a (M3 129 a)) 133 a (ec_price (mm_E (fs_up M3 132 a (M3 129 a))) a (M3 129 a))) (by omega) (fun r q1 q2 => by rw [fs_up_other q2, fs_up_other q1]; exact f3 r q1 q2) (fun q q0 q1 => by rw [fs_up_other (by decide), fs_up_at, fs_up_at]; by_cases z : q = a; (rw [if_pos z, if_pos z, pe, x129, z]; exact ⟨rfl, rfl⟩); (rw [if_neg z, if_neg z, fs_up_other (by decide)]; exact l3 q q0 (by omega))) (by omega)
    exact loop34 (((M 125 0 - (0)) : Int) + 1).toNat (0) (none) (none) R (by omega) (fun r _ _ => rfl) (fun q _ _ => by omega) (by omega)
  refine fs_r_iret (a := (-1)) (L1 := [some (.inr (.ref 124)), some (.inl (ec_tell (mm_E V) (mm_st V) 7)), none, none, none]) (M1 := V) (ob := []) rfl rfl trivial (Or.inl rfl) ?_
  exact hq1 _ (fun z => z ⟨by omega, by omega⟩) q1
