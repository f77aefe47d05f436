theorem fs_m_ratioOf {d : Nat} {M : fs_M} {Q : Option fs_V → fs_M → Prop} {a : Int}  (hI : mm_I M) (hJ : mm_J M) (ha : 0 ≤ a ∧ a < M 125 0) (hq0 : Q (some (.inr (.float (rqR (ec_price (mm_E M) a 0) (ec_price (mm_E M) a (mm_st M a)))))) M) : fs_W (d + 3) 245 0 [some (.inr (.ref 124)), some (.inl a), none] [] M Q := by
  have hA := hI.1.1
  have hj := hJ.2 a ha.1 (by omega)
  have ok := (fl_mm hI hJ).2 a ha.1 ha.2
  rw [mm_st_at ⟨ha.1, by omega⟩] at ok
  refine fs_r_call (sta := false) (idx := 178) (as := [.inr (.ref 124), .inl a, .inl 0]) (rest := []) (L1 := [some (.inr (.ref 124)), some (.inl a), none]) (st1 := [.inl 0, .inl a, .inr (.ref 124)]) (M1 := M) (ob := []) rfl rfl rfl trivial rfl rfl (Nat.le_of_ble_eq_true rfl) ⟨Or.inr (Nat.le_of_ble_eq_true rfl), Or.inr fs_ob124⟩ (by decide) ?_
  refine fs_m_priceBy (by assumption) (by omega) (by omega) ?_
  refine fs_r_if (a := (ec_price (mm_E M) a 0)) (L1 := [some (.inr (.ref 124)), some (.inl a), some (.inl (ec_price (mm_E M) a 0))]) (st1 := []) (M1 := M) (ob := [2 < 3]) rfl rfl (fs_oc (by decide) trivial) (fun (h1 : ¬ (ec_price (mm_E M) a 0) = 0) => ?_) (fun (h1 : ¬ (¬ (ec_price (mm_E M) a 0) = 0)) => ?_)
  · refine fs_r_call (sta := false) (idx := 178) (as := [.inr (.ref 124), .inl a, .inl (M 129 a)]) (rest := []) (L1 := [some (.inr (.ref 124)), some (.inl a), some (.inl (ec_price (mm_E M) a 0))]) (st1 := [.inl (M 129 a), .inl a, .inr (.ref 124)]) (M1 := M) (ob := [124 < fs_N ∧ fs_kd 124 = 6, (129 < fs_N ∧ fs_kd 129 = 100) ∧ (0 : Int) ≤ a ∧ a < fs_ln 129]) rfl rfl rfl (fs_oc fs_ob124 (fs_oc (fs_ar129 (by omega) (by omega)) trivial)) rfl rfl (Nat.le_of_ble_eq_true rfl) ⟨Or.inr (Nat.le_of_ble_eq_true rfl), Or.inr fs_ob124⟩ (by decide) ?_
    refine fs_m_priceBy (by assumption) (by omega) (by omega) ?_
    have nb : FB (FP.fdiv (FP.i2f (Int32.ofInt (ec_price (mm_E M) a (M 129 a)))) (FP.i2f (Int32.ofInt (ec_price (mm_E M) a 0)))) 1 := by
      have w := rqR_b ok.1 (by omega)
      unfold rqR at w
      rw [if_neg (by omega)] at w
      exact w
    refine fs_r_nop (L1 := [some (.inr (.ref 124)), some (.inl a), some (.inl (ec_price (mm_E M) a 0))]) (st1 := [.inr (.float (FP.fdiv (FP.i2f (Int32.ofInt (ec_price (mm_E M) a (M 129 a)))) (FP.i2f (Int32.ofInt (ec_price (mm_E M) a 0)))))]) (M1 := M) (ob := [vf_n32 (FP.fdiv (FP.i2f (Int32.ofInt (ec_price (mm_E M) a (M 129 a)))) (FP.i2f (Int32.ofInt (ec_price (mm_E M) a 0))))]) rfl rfl (fs_oc (vf32_of nb.nn) trivial) ?_
    refine fs_r_fret (a := (FP.fdiv (FP.i2f (Int32.ofInt (ec_price (mm_E M) a (M 129 a)))) (FP.i2f (Int32.ofInt (ec_price (mm_E M) a 0))))) (L1 := [some (.inr (.ref 124)), some (.inl a), some (.inl (ec_price (mm_E M) a 0))]) (M1 := M) (ob := []) rfl rfl trivial ?_
    first
      | exact fs_qf (by unfold rqR; rw [if_pos (by omega)]) hq0
      | exact fs_qf (by unfold rqR; rw [if_neg (by omega), mm_st_at ⟨ha.1, by omega⟩]) hq0
  refine fs_r_goto (L1 := [some (.inr (.ref 124)), some (.inl a), some (.inl (ec_price (mm_E M) a 0))]) (st1 := [.inr (.float FP.fconst1)]) (M1 := M) (ob := []) rfl rfl trivial ?_
  refine fs_r_fret (a := FP.fconst1) (L1 := [some (.inr (.ref 124)), some (.inl a), some (.inl (ec_price (mm_E M) a 0))]) (M1 := M) (ob := []) rfl rfl trivial ?_
  first
    | exact fs_qf (by unfold rqR; rw [if_pos (by omega)]) hq0
    | exact fs_qf (by unfold rqR; rw [if_neg (by omega), mm_st_at ⟨ha.1, by omega⟩]) hq0

theorem fs_m_indexNow {d : Nat} {M : fs_M} {Q : Option fs_V → fs_M → Prop}   (hI : mm_I M) (hJ : mm_J M) (hq0 : Q (some (.inr (.float (fl_i (mm_E M) (mm_st M))))) M) : fs_W (d + 4) 246 0 [some (.inr (.ref 124)), none, none, none] [] M Q := by
  have ok := fl_mm hI hJ
  have hA := hI.1.1
  have e0 : mm_E M 0 0 = M 125 0 := rfl
  refine fs_r_nop (L1 := [some (.inr (.ref 124)), some (.inr (.float FP.fconst0)), some (.inl 0), some (.inl 0)]) (st1 := []) (M1 := M) (ob := [1 < 4, 2 < 4, 3 < 4]) rfl rfl (fs_oc (by decide) (fs_oc (by decide) (fs_oc (by decide) trivial))) ?_
  have loop6 : ∀ (n6 : Nat) (s : UInt32) (n : Int) (a : Int), (0 ≤ a ∧ a ≤ M 125 0) → (s = fl_sum (mm_E M) (mm_st M) a.toNat) → (n = fs_sum a.toNat (fun q => mm_held (M 125) q) ∧ 0 ≤ n ∧ n ≤ 360 * a) → M 125 0 - a < (n6 : Int) → fs_W (d + 4) 246 6 [some (.inr (.ref 124)), some (.inr (.float s)), some (.inl n), some (.inl a)] [] M Q := by
    intro n6
    induction n6 with
    | zero =>
      intro s n a i0 s0 n0 hm6
      exfalso
      omega
    | succ n6 ih6 =>
      intro s n a i0 s0 n0 hm6
      refine fs_r_icmp (a := a) (y := (M 125 0)) (L1 := [some (.inr (.ref 124)), some (.inr (.float s)), some (.inl n), some (.inl a)]) (st1 := []) (M1 := M) (ob := [124 < fs_N ∧ fs_kd 124 = 6, (125 < fs_N ∧ fs_kd 125 = 100) ∧ (0 : Int) ≤ 0 ∧ 0 < fs_ln 125]) rfl rfl (fs_oc fs_ob124 (fs_oc (fs_ar125 (by omega) (by omega)) trivial)) (fun (h1 : (M 125 0) ≤ a) => ?_) (fun (h1 : ¬ ((M 125 0) ≤ a)) => ?_)
      · refine fs_r_if (a := n) (L1 := [some (.inr (.ref 124)), some (.inr (.float s)), some (.inl n), some (.inl a)]) (st1 := []) (M1 := M) (ob := []) rfl rfl trivial (fun (h2 : ¬ n = 0) => ?_) (fun (h2 : ¬ (¬ n = 0)) => ?_)
        · have ib := fl_i_b ok
          have en : fs_sum (mm_E M 0 0).toNat (fun q => mm_E M 5 q) = n := by rw [n0.1, e0, show a = M 125 0 by omega]; rfl
          unfold fl_i at ib
          rw [en, if_neg (by omega), e0, show (M 125 0).toNat = a.toNat by omega, ← s0] at ib
          refine fs_r_nop (L1 := [some (.inr (.ref 124)), some (.inr (.float s)), some (.inl n), some (.inl a)]) (st1 := [.inr (.float (FP.fdiv s (FP.i2f (Int32.ofInt n))))]) (M1 := M) (ob := [vf_n32 (FP.fdiv s (FP.i2f (Int32.ofInt n)))]) rfl rfl (fs_oc (vf32_of ib.nn) trivial) ?_
          refine fs_r_fret (a := (FP.fdiv s (FP.i2f (Int32.ofInt n)))) (L1 := [some (.inr (.ref 124)), some (.inr (.float s)), some (.inl n), some (.inl a)]) (M1 := M) (ob := []) rfl rfl trivial ?_
          first
            | exact fs_qf (by unfold fl_i; rw [show fs_sum (mm_E M 0 0).toNat (fun q => mm_E M 5 q) = n by rw [n0.1, e0, show a = M 125 0 by omega]; rfl, if_pos (by omega)]) hq0
            | exact fs_qf (by unfold fl_i; rw [en, if_neg (by omega), e0, show (M 125 0).toNat = a.toNat by omega, ← s0]) hq0
        refine fs_r_goto (L1 := [some (.inr (.ref 124)), some (.inr (.float s)), some (.inl n), some (.inl a)]) (st1 := [.inr (.float FP.fconst1)]) (M1 := M) (ob := []) rfl rfl trivial ?_
        refine fs_r_fret (a := FP.fconst1) (L1 := [some (.inr (.ref 124)), some (.inr (.float s)), some (.inl n), some (.inl a)]) (M1 := M) (ob := []) rfl rfl trivial ?_
        first
          | exact fs_qf (by unfold fl_i; rw [show fs_sum (mm_E M 0 0).toNat (fun q => mm_E M 5 q) = n by rw [n0.1, e0, show a = M 125 0 by omega]; rfl, if_pos (by omega)]) hq0
          | exact fs_qf (by unfold fl_i; rw [en, if_neg (by omega), e0, show (M 125 0).toNat = a.toNat by omega, ← s0]) hq0
      refine fs_r_call (sta := false) (idx := 283) (as := [.inr (.ref 124), .inl a]) (rest := [.inr (.float s)]) (L1 := [some (.inr (.ref 124)), some (.inr (.float s)), some (.inl n), some (.inl a)]) (st1 := [.inl a, .inr (.ref 124), .inr (.float s)]) (M1 := M) (ob := []) rfl rfl rfl trivial rfl rfl (Nat.le_of_ble_eq_true rfl) ⟨Or.inr (Nat.le_of_ble_eq_true rfl), Or.inr fs_ob124⟩ (by decide) ?_
      refine fs_m_ratioOf (by assumption) (by assumption) (by omega) ?_
      refine fs_r_call (sta := false) (idx := 205) (as := [.inr (.ref 124), .inl a]) (rest := [.inr (.float (rqR (ec_price (mm_E M) a 0) (ec_price (mm_E M) a (mm_st M a)))), .inr (.float s)]) (L1 := [some (.inr (.ref 124)), some (.inr (.float s)), some (.inl n), some (.inl a)]) (st1 := [.inl a, .inr (.ref 124), .inr (.float (rqR (ec_price (mm_E M) a 0) (ec_price (mm_E M) a (mm_st M a)))), .inr (.float s)]) (M1 := M) (ob := []) rfl rfl rfl trivial rfl rfl (Nat.le_of_ble_eq_true rfl) ⟨Or.inr (Nat.le_of_ble_eq_true rfl), Or.inr fs_ob124⟩ (by decide) ?_
      refine fs_m_heldOf (hI.1) (by omega) ?_
      have sb := fl_sum_b ok (a + 1).toNat (by rw [e0]; omega)
      have sb0 := fl_sum_b ok a.toNat (by rw [e0]; omega)
      have oka := ok.2 a (by omega) (by rw [e0]; omega)
      have rb := rqR_b oka.1 (by omega)
      have ib := (FB_int (n := mm_held (M 125) a) ⟨oka.2.2.1, Int.le_trans oka.2.2.2 (by decide)⟩).1
      have mb := FB_mul rb ib (by omega) oka.2.2.1 (by have w := oka.2.2.2; have e5 : mm_E M 5 a = mm_held (M 125) a := rfl; omega)
      have e5 : mm_E M 5 a = mm_held (M 125) a := rfl
      have fs := fl_sum_s (E := mm_E M) (S := mm_st M) (a := a) (by omega)
      rw [fs] at sb
      rw [← s0] at sb
      refine fs_r_call (sta := false) (idx := 205) (as := [.inr (.ref 124), .inl a]) (rest := [.inl n]) (L1 := [some (.inr (.ref 124)), some (.inr (.float (FP.fadd s (FP.fmul (rqR (ec_price (mm_E M) a 0) (ec_price (mm_E M) a (mm_st M a))) (FP.i2f (Int32.ofInt (mm_held (M 125) a))))))), some (.inl n), some (.inl a)]) (st1 := [.inl a, .inr (.ref 124), .inl n]) (M1 := M) (ob := [vf_n32 (FP.fmul (rqR (ec_price (mm_E M) a 0) (ec_price (mm_E M) a (mm_st M a))) (FP.i2f (Int32.ofInt (mm_held (M 125) a)))), vf_n32 (FP.fadd s (FP.fmul (rqR (ec_price (mm_E M) a 0) (ec_price (mm_E M) a (mm_st M a))) (FP.i2f (Int32.ofInt (mm_held (M 125) a))))), 1 < 4]) rfl rfl rfl (fs_oc (by first | exact vf32_of mb.nn | exact vf32_of sb.1.nn) (fs_oc (by first | exact vf32_of mb.nn | exact vf32_of sb.1.nn) (fs_oc (by decide) trivial))) rfl rfl (Nat.le_of_ble_eq_true rfl) ⟨Or.inr (Nat.le_of_ble_eq_true rfl), Or.inr fs_ob124⟩ (by decide) ?_
      refine fs_m_heldOf (hI.1) (by omega) ?_
      have oka2 := ok.2 a (by omega) (by rw [e0]; omega)
      have e52 : mm_E M 5 a = mm_held (M 125) a := rfl
      rw [e52] at oka2
      refine fs_r_goto (L1 := [some (.inr (.ref 124)), some (.inr (.float (FP.fadd s (FP.fmul (rqR (ec_price (mm_E M) a 0) (ec_price (mm_E M) a (mm_st M a))) (FP.i2f (Int32.ofInt (mm_held (M 125) a))))))), some (.inl (n + (mm_held (M 125) a))), some (.inl (a + 1))]) (st1 := []) (M1 := M) (ob := [fs_rg (n + (mm_held (M 125) a)), 2 < 4, fs_rg (a + 1)]) rfl rfl (fs_oc ⟨by omega, by omega⟩ (fs_oc (by decide) (fs_oc ⟨by omega, by omega⟩ trivial))) ?_
      exact ih6 ((FP.fadd s (FP.fmul (rqR (ec_price (mm_E M) a 0) (ec_price (mm_E M) a (mm_st M a))) (FP.i2f (Int32.ofInt (mm_held (M 125) a)))))) ((n + (mm_held (M 125) a))) ((a + 1)) (by omega) (by rw [fl_sum_s (by omega), s0, e5]) (⟨by rw [fs_sum_s i0.1, n0.1], by omega, by omega⟩) (by omega)
  exact loop6 (((M 125 0 - (0)) : Int) + 1).toNat (FP.fconst0) (0) (0) (by omega) (rfl) (⟨rfl, by omega, by omega⟩) (by omega)

theorem fs_m_index {d : Nat} {M : fs_M} {Q : Option fs_V → fs_M → Prop} {w : Int}  (hI : fs_NI (M 125)) (hq0 : ∀ (M2 : fs_M), (mm_q M M2) → Q (some (.inl (rq_index (M 125) w))) M2) : fs_W (d + 8) 247 0 [some (.inr (.ref 124)), some (.inl w)] [] M Q := by
  have hN := hI
  refine fs_r_call (sta := true) (idx := 68) (as := [.inl w, .inl 0, .inl 3]) (rest := []) (L1 := [some (.inr (.ref 124)), some (.inl w)]) (st1 := [.inl 3, .inl 0, .inl w]) (M1 := M) (ob := []) rfl rfl rfl trivial rfl rfl (Nat.le_of_ble_eq_true rfl) ⟨Or.inr (Nat.le_of_ble_eq_true rfl), trivial⟩ (by decide) ?_
  refine fs_m_isIn (fun (f1 : 0 ≤ w ∧ w ≤ 3) => ?_) (fun (f2 : ¬ (0 ≤ w ∧ w ≤ 3)) => ?_)
  · refine fs_r_if (a := 1) (L1 := [some (.inr (.ref 124)), some (.inl w)]) (st1 := []) (M1 := M) (ob := []) rfl rfl trivial (fun _ => ?_) (fun h => absurd (by decide : ¬ (1 : Int) = 0) h)
    refine fs_r_call (sta := false) (idx := 252) (as := [.inr (.ref 124)]) (rest := []) (L1 := [some (.inr (.ref 124)), some (.inl w)]) (st1 := [.inr (.ref 124)]) (M1 := M) (ob := []) rfl rfl rfl trivial rfl rfl (Nat.le_of_ble_eq_true rfl) ⟨Or.inr (Nat.le_of_ble_eq_true rfl), Or.inr fs_ob124⟩ (by decide) ?_
    refine fs_m_plain (fun (P1 : fs_M) (pp : mm_P M P1) => ?_)
    refine fs_r_call (sta := false) (idx := 270) (as := [.inr (.ref 124), .inl w]) (rest := []) (L1 := [some (.inr (.ref 124)), some (.inl w)]) (st1 := [.inl w, .inr (.ref 124)]) (M1 := P1) (ob := []) rfl rfl rfl trivial rfl rfl (Nat.le_of_ble_eq_true rfl) ⟨Or.inr (Nat.le_of_ble_eq_true rfl), Or.inr fs_ob124⟩ (by decide) ?_
    refine fs_m_stands (pp.I hN) (by omega) (fun (V1 : fs_M) (g1 : mm_f3 P1 V1) (g2 : mm_st V1 = ec_std (mm_E P1) w) (g3 : mm_J V1) (g4 : mm_Z V1) (g5 : (w = 1 → V1 124 17 = (ec_k (mm_E P1) (ec_calm (mm_E P1)) : Nat)) ∧ (w = 2 → V1 124 17 = (ec_k (mm_E P1) (ec_panic (mm_E P1)) : Nat))) => ?_)
    obtain ⟨s9, e9, q9, I9⟩ := mm_pstd hN pp g1 g2
    have n0 := congrFun q9.N 0
    have n1 := congrFun q9.N 1
    have m0 : mm_E V1 0 0 = V1 125 0 := rfl
    have m1 : mm_E V1 0 1 = V1 125 1 := rfl
    refine fs_r_call (sta := false) (idx := 287) (as := [.inr (.ref 124)]) (rest := []) (L1 := [some (.inr (.ref 124)), some (.inl w)]) (st1 := [.inr (.ref 124)]) (M1 := V1) (ob := []) rfl rfl rfl trivial rfl rfl (Nat.le_of_ble_eq_true rfl) ⟨Or.inr (Nat.le_of_ble_eq_true rfl), Or.inr fs_ob124⟩ (by decide) ?_
    refine fs_m_indexNow (I9) (g3) ?_
    have ib := fl_i_b (fl_mm I9 g3)
    refine fs_r_nat (v := .inl (fl_i (mm_E V1) (mm_st V1)).toInt32.toInt) (sta := true) (idx := 291) (as := [.inr (.float (fl_i (mm_E V1) (mm_st V1)))]) (rest := []) (L1 := [some (.inr (.ref 124)), some (.inl w)]) (st1 := [.inr (.float (fl_i (mm_E V1) (mm_st V1)))]) (M1 := V1) (ob := []) rfl rfl rfl trivial rfl rfl (Nat.le_of_ble_eq_true rfl) ⟨Or.inl (by decide), trivial⟩ (by decide) (nat902 (vf32_of ib.nn)) ?_
    refine fs_r_iret (a := (fl_i (mm_E V1) (mm_st V1)).toInt32.toInt) (L1 := [some (.inr (.ref 124)), some (.inl w)]) (M1 := V1) (ob := []) rfl rfl trivial (Or.inl rfl) ?_
    exact fs_qi (by unfold rq_index; rw [if_pos (by assumption)]; rw [← s9, ← fl_i_eq e9 I9.1.1.1]) (hq0 _ q9)
  refine fs_r_if (a := 0) (L1 := [some (.inr (.ref 124)), some (.inl w)]) (st1 := []) (M1 := M) (ob := []) rfl rfl trivial (fun h => absurd h (by decide : ¬ (¬ (0 : Int) = 0))) (fun _ => ?_)
  refine fs_r_iret (a := (-1)) (L1 := [some (.inr (.ref 124)), some (.inl w)]) (M1 := M) (ob := []) rfl rfl trivial (Or.inl rfl) ?_
  exact fs_qi (by unfold rq_index; rw [if_neg (by assumption)]) (hq0 _ mm_q.rf)

theorem fs_m_drop {d : Nat} {M : fs_M} {Q : Option fs_V → fs_M → Prop} {w : Int}  (hI : fs_NI (M 125)) (hq0 : ∀ (M2 : fs_M), (mm_q M M2) → Q (some (.inl (rq_drop (M 125) w))) M2) : fs_W (d + 8) 248 0 [some (.inr (.ref 124)), some (.inl w)] [] M Q := by
  have hN := hI
  refine fs_r_call (sta := true) (idx := 68) (as := [.inl w, .inl 0, .inl 3]) (rest := []) (L1 := [some (.inr (.ref 124)), some (.inl w)]) (st1 := [.inl 3, .inl 0, .inl w]) (M1 := M) (ob := []) rfl rfl rfl trivial rfl rfl (Nat.le_of_ble_eq_true rfl) ⟨Or.inr (Nat.le_of_ble_eq_true rfl), trivial⟩ (by decide) ?_
  refine fs_m_isIn (fun (f1 : 0 ≤ w ∧ w ≤ 3) => ?_) (fun (f2 : ¬ (0 ≤ w ∧ w ≤ 3)) => ?_)
  · refine fs_r_if (a := 1) (L1 := [some (.inr (.ref 124)), some (.inl w)]) (st1 := []) (M1 := M) (ob := []) rfl rfl trivial (fun _ => ?_) (fun h => absurd (by decide : ¬ (1 : Int) = 0) h)
    refine fs_r_call (sta := false) (idx := 252) (as := [.inr (.ref 124)]) (rest := []) (L1 := [some (.inr (.ref 124)), some (.inl w)]) (st1 := [.inr (.ref 124)]) (M1 := M) (ob := []) rfl rfl rfl trivial rfl rfl (Nat.le_of_ble_eq_true rfl) ⟨Or.inr (Nat.le_of_ble_eq_true rfl), Or.inr fs_ob124⟩ (by decide) ?_
    refine fs_m_plain (fun (P1 : fs_M) (pp : mm_P M P1) => ?_)
    refine fs_r_call (sta := false) (idx := 270) (as := [.inr (.ref 124), .inl w]) (rest := []) (L1 := [some (.inr (.ref 124)), some (.inl w)]) (st1 := [.inl w, .inr (.ref 124)]) (M1 := P1) (ob := []) rfl rfl rfl trivial rfl rfl (Nat.le_of_ble_eq_true rfl) ⟨Or.inr (Nat.le_of_ble_eq_true rfl), Or.inr fs_ob124⟩ (by decide) ?_
    refine fs_m_stands (pp.I hN) (by omega) (fun (V1 : fs_M) (g1 : mm_f3 P1 V1) (g2 : mm_st V1 = ec_std (mm_E P1) w) (g3 : mm_J V1) (g4 : mm_Z V1) (g5 : (w = 1 → V1 124 17 = (ec_k (mm_E P1) (ec_calm (mm_E P1)) : Nat)) ∧ (w = 2 → V1 124 17 = (ec_k (mm_E P1) (ec_panic (mm_E P1)) : Nat))) => ?_)
    obtain ⟨s9, e9, q9, I9⟩ := mm_pstd hN pp g1 g2
    have n0 := congrFun q9.N 0
    have n1 := congrFun q9.N 1
    have m0 : mm_E V1 0 0 = V1 125 0 := rfl
    have m1 : mm_E V1 0 1 = V1 125 1 := rfl
    refine fs_r_call (sta := false) (idx := 287) (as := [.inr (.ref 124)]) (rest := [.inr (.float FP.fconst1)]) (L1 := [some (.inr (.ref 124)), some (.inl w)]) (st1 := [.inr (.ref 124), .inr (.float FP.fconst1)]) (M1 := V1) (ob := []) rfl rfl rfl trivial rfl rfl (Nat.le_of_ble_eq_true rfl) ⟨Or.inr (Nat.le_of_ble_eq_true rfl), Or.inr fs_ob124⟩ (by decide) ?_
    refine fs_m_indexNow (I9) (g3) ?_
    have ib := fl_i_b (fl_mm I9 g3)
    have n1 := n_fsub FB_one.1 ib
    have n2 := n_fmulc n1 val_1000 (by decide)
    refine fs_r_iret (a := (FP.f2i (FP.fmul (FP.fsub FP.fconst1 (fl_i (mm_E V1) (mm_st V1))) (UInt32.ofNat (Int.toNat 1148846080)))).toInt) (L1 := [some (.inr (.ref 124)), some (.inl w)]) (M1 := V1) (ob := [vf_n32 (FP.fsub FP.fconst1 (fl_i (mm_E V1) (mm_st V1))), vf_n32 (FP.fmul (FP.fsub FP.fconst1 (fl_i (mm_E V1) (mm_st V1))) (UInt32.ofNat (Int.toNat 1148846080)))]) rfl rfl (fs_oc (by first | exact vf32_of n1 | exact vf32_of n2) (fs_oc (by first | exact vf32_of n1 | exact vf32_of n2) trivial)) (Or.inl rfl) ?_
    exact fs_qi (by unfold rq_drop; rw [if_pos (by assumption)]; rw [← s9, ← fl_i_eq e9 I9.1.1.1]) (hq0 _ q9)
  refine fs_r_if (a := 0) (L1 := [some (.inr (.ref 124)), some (.inl w)]) (st1 := []) (M1 := M) (ob := []) rfl rfl trivial (fun h => absurd h (by decide : ¬ (¬ (0 : Int) = 0))) (fun _ => ?_)
  refine fs_r_iret (a := (-1)) (L1 := [some (.inr (.ref 124)), some (.inl w)]) (M1 := M) (ob := []) rfl rfl trivial (Or.inl rfl) ?_
  exact fs_qi (by unfold rq_drop; rw [if_neg (by assumption)]) (hq0 _ mm_q.rf)

theorem fs_m_ratio {d : Nat} {M : fs_M} {Q : Option fs_V → fs_M → Prop} {w : Int} {a : Int}  (hI : fs_NI (M 125)) (hq0 : ∀ (M2 : fs_M), (mm_q M M2) → Q (some (.inl (rq_ratio (M 125) w a))) M2) : fs_W (d + 8) 249 0 [some (.inr (.ref 124)), some (.inl w), some (.inl a)] [] M Q := by
  have hN := hI
  refine fs_r_call (sta := true) (idx := 68) (as := [.inl w, .inl 0, .inl 3]) (rest := []) (L1 := [some (.inr (.ref 124)), some (.inl w), some (.inl a)]) (st1 := [.inl 3, .inl 0, .inl w]) (M1 := M) (ob := []) rfl rfl rfl trivial rfl rfl (Nat.le_of_ble_eq_true rfl) ⟨Or.inr (Nat.le_of_ble_eq_true rfl), trivial⟩ (by decide) ?_
  refine fs_m_isIn (fun (f1 : 0 ≤ w ∧ w ≤ 3) => ?_) (fun (f2 : ¬ (0 ≤ w ∧ w ≤ 3)) => ?_)
  · refine fs_r_if (a := 1) (L1 := [some (.inr (.ref 124)), some (.inl w), some (.inl a)]) (st1 := []) (M1 := M) (ob := []) rfl rfl trivial (fun h => absurd h (by decide : ¬ ((1 : Int) = 0))) (fun _ => ?_)
    refine fs_r_call (sta := false) (idx := 224) (as := [.inr (.ref 124), .inl a]) (rest := []) (L1 := [some (.inr (.ref 124)), some (.inl w), some (.inl a)]) (st1 := [.inl a, .inr (.ref 124)]) (M1 := M) (ob := []) rfl rfl rfl trivial rfl rfl (Nat.le_of_ble_eq_true rfl) ⟨Or.inr (Nat.le_of_ble_eq_true rfl), Or.inr fs_ob124⟩ (by decide) ?_
    refine fs_m_isAsset (by assumption) (fun (f3 : 0 ≤ a ∧ a < M 125 0) => ?_) (fun (f4 : ¬ (0 ≤ a ∧ a < M 125 0)) => ?_)
    · refine fs_r_if (a := 1) (L1 := [some (.inr (.ref 124)), some (.inl w), some (.inl a)]) (st1 := []) (M1 := M) (ob := []) rfl rfl trivial (fun _ => ?_) (fun h => absurd (by decide : ¬ (1 : Int) = 0) h)
      refine fs_r_call (sta := false) (idx := 252) (as := [.inr (.ref 124)]) (rest := []) (L1 := [some (.inr (.ref 124)), some (.inl w), some (.inl a)]) (st1 := [.inr (.ref 124)]) (M1 := M) (ob := []) rfl rfl rfl trivial rfl rfl (Nat.le_of_ble_eq_true rfl) ⟨Or.inr (Nat.le_of_ble_eq_true rfl), Or.inr fs_ob124⟩ (by decide) ?_
      refine fs_m_plain (fun (P1 : fs_M) (pp : mm_P M P1) => ?_)
      refine fs_r_call (sta := false) (idx := 270) (as := [.inr (.ref 124), .inl w]) (rest := []) (L1 := [some (.inr (.ref 124)), some (.inl w), some (.inl a)]) (st1 := [.inl w, .inr (.ref 124)]) (M1 := P1) (ob := []) rfl rfl rfl trivial rfl rfl (Nat.le_of_ble_eq_true rfl) ⟨Or.inr (Nat.le_of_ble_eq_true rfl), Or.inr fs_ob124⟩ (by decide) ?_
      refine fs_m_stands (pp.I hN) (by omega) (fun (V1 : fs_M) (g1 : mm_f3 P1 V1) (g2 : mm_st V1 = ec_std (mm_E P1) w) (g3 : mm_J V1) (g4 : mm_Z V1) (g5 : (w = 1 → V1 124 17 = (ec_k (mm_E P1) (ec_calm (mm_E P1)) : Nat)) ∧ (w = 2 → V1 124 17 = (ec_k (mm_E P1) (ec_panic (mm_E P1)) : Nat))) => ?_)
      obtain ⟨s9, e9, q9, I9⟩ := mm_pstd hN pp g1 g2
      have n0 := congrFun q9.N 0
      have n1 := congrFun q9.N 1
      have m0 : mm_E V1 0 0 = V1 125 0 := rfl
      have m1 : mm_E V1 0 1 = V1 125 1 := rfl
      have a4 := hI.1.2
      refine fs_r_call (sta := false) (idx := 283) (as := [.inr (.ref 124), .inl a]) (rest := []) (L1 := [some (.inr (.ref 124)), some (.inl w), some (.inl a)]) (st1 := [.inl a, .inr (.ref 124)]) (M1 := V1) (ob := []) rfl rfl rfl trivial rfl rfl (Nat.le_of_ble_eq_true rfl) ⟨Or.inr (Nat.le_of_ble_eq_true rfl), Or.inr fs_ob124⟩ (by decide) ?_
      refine fs_m_ratioOf (I9) (g3) (by omega) ?_
      have oka := (fl_mm I9 g3).2 a (by omega) (by omega)
      have rb := rqR_b oka.1 (by omega)
      refine fs_r_nat (v := .inl (rqR (ec_price (mm_E V1) a 0) (ec_price (mm_E V1) a (mm_st V1 a))).toInt32.toInt) (sta := true) (idx := 291) (as := [.inr (.float (rqR (ec_price (mm_E V1) a 0) (ec_price (mm_E V1) a (mm_st V1 a))))]) (rest := []) (L1 := [some (.inr (.ref 124)), some (.inl w), some (.inl a)]) (st1 := [.inr (.float (rqR (ec_price (mm_E V1) a 0) (ec_price (mm_E V1) a (mm_st V1 a))))]) (M1 := V1) (ob := []) rfl rfl rfl trivial rfl rfl (Nat.le_of_ble_eq_true rfl) ⟨Or.inl (by decide), trivial⟩ (by decide) (nat902 (vf32_of rb.nn)) ?_
      refine fs_r_iret (a := (rqR (ec_price (mm_E V1) a 0) (ec_price (mm_E V1) a (mm_st V1 a))).toInt32.toInt) (L1 := [some (.inr (.ref 124)), some (.inl w), some (.inl a)]) (M1 := V1) (ob := []) rfl rfl trivial (Or.inl rfl) ?_
      exact fs_qi (by unfold rq_ratio; rw [if_pos ⟨by assumption, by first | assumption | (refine ⟨by assumption, by omega⟩)⟩]; rw [e9.price (by omega) (by omega), e9.price (by omega) (by omega), s9]) (hq0 _ q9)
    refine fs_r_if (a := 0) (L1 := [some (.inr (.ref 124)), some (.inl w), some (.inl a)]) (st1 := []) (M1 := M) (ob := []) rfl rfl trivial (fun h => absurd h (by decide : ¬ (¬ (0 : Int) = 0))) (fun _ => ?_)
    refine fs_r_iret (a := (-1)) (L1 := [some (.inr (.ref 124)), some (.inl w), some (.inl a)]) (M1 := M) (ob := []) rfl rfl trivial (Or.inl rfl) ?_
    exact fs_qi (by unfold rq_ratio; rw [if_neg (fun z => by first | exact absurd z.1 (by assumption) | exact absurd z.2 (by assumption) | exact absurd z.2.1 (by assumption) | (have := z.1; have := z.2; omega))]) (hq0 _ mm_q.rf)
  refine fs_r_if (a := 0) (L1 := [some (.inr (.ref 124)), some (.inl w), some (.inl a)]) (st1 := []) (M1 := M) (ob := []) rfl rfl trivial (fun _ => ?_) (fun h => absurd (by decide : (0 : Int) = 0) h)
  refine fs_r_iret (a := (-1)) (L1 := [some (.inr (.ref 124)), some (.inl w), some (.inl a)]) (M1 := M) (ob := []) rfl rfl trivial (Or.inl rfl) ?_
  exact fs_qi (by unfold rq_ratio; rw [if_neg (fun z => by first | exact absurd z.1 (by assumption) | exact absurd z.2 (by assumption) | exact absurd z.2.1 (by assumption) | (have := z.1; have := z.2; omega))]) (hq0 _ mm_q.rf)

theorem fs_m_moodNow {d : Nat} {M : fs_M} {Q : Option fs_V → fs_M → Prop}   (hI : fs_NI (M 125)) (hq0 : ∀ (M2 : fs_M), (mm_q M M2) → Q (some (.inr (.double (rq_md (M 125))))) M2) : fs_W (d + 6) 250 0 [some (.inr (.ref 124)), none, none] [] M Q := by
  have hN := hI
  have fbk : ∀ k, FB (fl_i (ec_pl (M 125)) (ec_it (ec_pl (M 125)) (ec_calm (ec_pl (M 125))) k)) 1 := fun k => fl_i_b (fl_bd (pl_bd hN) (fun a a0 a1 => ((ec_it_b (pl_bd hN) k).1 a a0 a1).1))
  refine fs_r_call (sta := false) (idx := 252) (as := [.inr (.ref 124)]) (rest := []) (L1 := [some (.inr (.ref 124)), none, none]) (st1 := [.inr (.ref 124)]) (M1 := M) (ob := []) rfl rfl rfl trivial rfl rfl (Nat.le_of_ble_eq_true rfl) ⟨Or.inr (Nat.le_of_ble_eq_true rfl), Or.inr fs_ob124⟩ (by decide) ?_
  refine fs_m_plain (fun (P1 : fs_M) (pp : mm_P M P1) => ?_)
  refine fs_r_call (sta := false) (idx := 215) (as := [.inr (.ref 124)]) (rest := []) (L1 := [some (.inr (.ref 124)), none, none]) (st1 := [.inr (.ref 124)]) (M1 := P1) (ob := []) rfl rfl rfl trivial rfl rfl (Nat.le_of_ble_eq_true rfl) ⟨Or.inr (Nat.le_of_ble_eq_true rfl), Or.inr fs_ob124⟩ (by decide) ?_
  refine fs_m_calm (pp.I hN) (fun (C1 : fs_M) (c1 : mm_f2 P1 C1) (c2 : mm_st C1 = ec_calm (mm_E P1)) (c3 : mm_J C1) (c4 : mm_Z C1) => ?_)
  have R0 := mm_R.start hN pp c1 c2 c3 c4
  have hk := mm_okpl hN pp
  refine fs_r_nop (L1 := [some (.inr (.ref 124)), some (.inr (.double FP.dconst1)), none]) (st1 := []) (M1 := C1) (ob := [1 + 1 < 3]) rfl rfl (fs_oc (by decide) trivial) ?_
  have loop10 : ∀ (n10 : Nat) (v : UInt64) (M3 : fs_M) (j : Nat), (j ≤ ec_k (ec_pl (M 125)) (ec_calm (ec_pl (M 125)))) → (mm_R M M3 j) → (v = fl_m (ec_pl (M 125)) j) → ((ec_k (ec_pl (M 125)) (ec_calm (ec_pl (M 125))) : Nat) : Int) - (j : Int) < (n10 : Int) → fs_W (d + 6) 250 10 [some (.inr (.ref 124)), some (.inr (.double v)), none] [] M3 Q := by
    intro n10
    induction n10 with
    | zero =>
      intro v M3 j i0 R0 v0 hm10
      exfalso
      omega
    | succ n10 ih10 =>
      intro v M3 j i0 R0 v0 hm10
      refine fs_r_call (sta := false) (idx := 211) (as := [.inr (.ref 124)]) (rest := []) (L1 := [some (.inr (.ref 124)), some (.inr (.double v)), none]) (st1 := [.inr (.ref 124)]) (M1 := M3) (ob := []) rfl rfl rfl trivial rfl rfl (Nat.le_of_ble_eq_true rfl) ⟨Or.inr (Nat.le_of_ble_eq_true rfl), Or.inr fs_ob124⟩ (by decide) ?_
      refine fs_m_goesOn (R0.2.1) (R0.2.2.1) (R0.2.2.2.1) (fun (V2 : fs_M) (d1 : mm_f2 M3 V2) (d2 : mm_st V2 = ec_next (mm_E M3) (mm_st M3)) (d3 : mm_J V2) (d4 : mm_Z V2) (d5 : ¬ mm_st V2 = mm_st M3) => ?_) (fun (V2 : fs_M) (d1 : mm_f2 M3 V2) (d2 : mm_st V2 = ec_next (mm_E M3) (mm_st M3)) (d3 : mm_J V2) (d4 : mm_Z V2) (d5 : mm_st V2 = mm_st M3) => ?_)
      · refine fs_r_if (a := 1) (L1 := [some (.inr (.ref 124)), some (.inr (.double v)), none]) (st1 := []) (M1 := V2) (ob := []) rfl rfl trivial (fun h => absurd h (by decide : ¬ ((1 : Int) = 0))) (fun _ => ?_)
        have R1 := R0.go d1 d2 d3 d4
        have jl := R0.lt hk R1 i0 d5
        have ixe : fl_i (mm_E V2) (mm_st V2) = fl_i (ec_pl (M 125)) (ec_it (ec_pl (M 125)) (ec_calm (ec_pl (M 125))) (j + 1)) := by rw [fl_i_eq R1.2.2.2.2.1 R1.2.1.1.1.1, R1.2.2.2.2.2]
        have ib := fl_i_b (fl_mm R1.2.1 d3)
        have mb := fl_m_b fbk j
        have mb1 := fl_m_b fbk (j + 1)
        rw [← v0] at mb
        refine fs_r_call (sta := false) (idx := 287) (as := [.inr (.ref 124)]) (rest := [.inr (.double (FP.ddiv v (UInt64.ofNat (Int.toNat 4611686018427387904))))]) (L1 := [some (.inr (.ref 124)), some (.inr (.double v)), none]) (st1 := [.inr (.ref 124), .inr (.double (FP.ddiv v (UInt64.ofNat (Int.toNat 4611686018427387904))))]) (M1 := V2) (ob := [vf_n64 (FP.ddiv v (UInt64.ofNat (Int.toNat 4611686018427387904)))]) rfl rfl rfl (fs_oc (vf64_of (DB_half mb).nn) trivial) rfl rfl (Nat.le_of_ble_eq_true rfl) ⟨Or.inr (Nat.le_of_ble_eq_true rfl), Or.inr fs_ob124⟩ (by decide) ?_
        refine fs_m_indexNow (R1.2.1) (d3) ?_
        have nh := DB_half mb
        have nf := DB_f2d ib
        have ng := DB_half nf
        have na := DB_add nh ng
        refine fs_r_goto (L1 := [some (.inr (.ref 124)), some (.inr (.double (FP.dadd (FP.ddiv v (UInt64.ofNat (Int.toNat 4611686018427387904))) (FP.ddiv (FP.f2d (fl_i (mm_E V2) (mm_st V2))) (UInt64.ofNat (Int.toNat 4611686018427387904)))))), none]) (st1 := []) (M1 := V2) (ob := [vf_n64 (FP.f2d (fl_i (mm_E V2) (mm_st V2))), vf_n64 (FP.ddiv (FP.f2d (fl_i (mm_E V2) (mm_st V2))) (UInt64.ofNat (Int.toNat 4611686018427387904))), vf_n64 (FP.dadd (FP.ddiv v (UInt64.ofNat (Int.toNat 4611686018427387904))) (FP.ddiv (FP.f2d (fl_i (mm_E V2) (mm_st V2))) (UInt64.ofNat (Int.toNat 4611686018427387904)))), 1 + 1 < 3]) rfl rfl (fs_oc (by first | exact vf64_of nf.nn | exact vf64_of ng.nn | exact vf64_of na.nn) (fs_oc (by first | exact vf64_of nf.nn | exact vf64_of ng.nn | exact vf64_of na.nn) (fs_oc (by first | exact vf64_of nf.nn | exact vf64_of ng.nn | exact vf64_of na.nn) (fs_oc (by decide) trivial)))) ?_
        exact ih10 ((FP.dadd (FP.ddiv v (UInt64.ofNat (Int.toNat 4611686018427387904))) (FP.ddiv (FP.f2d (fl_i (mm_E V2) (mm_st V2))) (UInt64.ofNat (Int.toNat 4611686018427387904))))) V2 ((j + 1)) (by omega) (R1) (by rw [ixe, v0]; rfl) (by omega)
      refine fs_r_if (a := 0) (L1 := [some (.inr (.ref 124)), some (.inr (.double v)), none]) (st1 := []) (M1 := V2) (ob := []) rfl rfl trivial (fun _ => ?_) (fun h => absurd (by decide : (0 : Int) = 0) h)
      refine fs_r_dret (a := v) (L1 := [some (.inr (.ref 124)), some (.inr (.double v)), none]) (M1 := V2) (ob := []) rfl rfl trivial ?_
      have R1 := R0.go d1 d2 d3 d4
      have je := R0.eq hk R1 i0 d5
      exact fs_qd (by unfold rq_md; rw [v0, je]) (hq0 _ R1.1)
  exact loop10 (((((ec_k (ec_pl (M 125)) (ec_calm (ec_pl (M 125))) : Nat) : Int) - ((0) : Int)) : Int) + 1).toNat (FP.dconst1) C1 (0) (Nat.zero_le _) (R0) (rfl) (by omega)

theorem fs_m_mood {d : Nat} {M : fs_M} {Q : Option fs_V → fs_M → Prop}   (hI : fs_NI (M 125)) (hq0 : ∀ (M2 : fs_M), (mm_q M M2) → Q (some (.inr (.long (rq_mood (M 125))))) M2) : fs_W (d + 7) 251 0 [some (.inr (.ref 124))] [] M Q := by
  have hN := hI
  have fbk : ∀ k, FB (fl_i (ec_pl (M 125)) (ec_it (ec_pl (M 125)) (ec_calm (ec_pl (M 125))) k)) 1 := fun k => fl_i_b (fl_bd (pl_bd hN) (fun a a0 a1 => ((ec_it_b (pl_bd hN) k).1 a a0 a1).1))
  have mdb : DB (rq_md (M 125)) FP.Core.one64 := fl_m_b fbk _
  refine fs_r_call (sta := false) (idx := 300) (as := [.inr (.ref 124)]) (rest := []) (L1 := [some (.inr (.ref 124))]) (st1 := [.inr (.ref 124)]) (M1 := M) (ob := []) rfl rfl rfl trivial rfl rfl (Nat.le_of_ble_eq_true rfl) ⟨Or.inr (Nat.le_of_ble_eq_true rfl), Or.inr fs_ob124⟩ (by decide) ?_
  refine fs_m_moodNow (by assumption) (fun (V : fs_M) (q1 : mm_q M V) => ?_)
  refine fs_r_nat (v := .inr (.long (rq_md (M 125)).toInt64)) (sta := true) (idx := 304) (as := [.inr (.double (rq_md (M 125)))]) (rest := []) (L1 := [some (.inr (.ref 124))]) (st1 := [.inr (.double (rq_md (M 125)))]) (M1 := V) (ob := []) rfl rfl rfl trivial rfl rfl (Nat.le_of_ble_eq_true rfl) ⟨Or.inl (by decide), trivial⟩ (by decide) (nat903 (vf64_of mdb.nn)) ?_
  refine fs_r_lret (a := (rq_md (M 125)).toInt64) (L1 := [some (.inr (.ref 124))]) (M1 := V) (ob := []) rfl rfl trivial ?_
  exact hq0 _ q1

theorem fs_m_hundredths {d : Nat} {M : fs_M} {Q : Option fs_V → fs_M → Prop}   (hI : fs_NI (M 125)) (hq0 : ∀ (M2 : fs_M), (mm_q M M2) → Q (some (.inl (rq_hundredths (M 125)))) M2) : fs_W (d + 7) 252 0 [some (.inr (.ref 124))] [] M Q := by
  have hN := hI
  have fbk : ∀ k, FB (fl_i (ec_pl (M 125)) (ec_it (ec_pl (M 125)) (ec_calm (ec_pl (M 125))) k)) 1 := fun k => fl_i_b (fl_bd (pl_bd hN) (fun a a0 a1 => ((ec_it_b (pl_bd hN) k).1 a a0 a1).1))
  have mdb : DB (rq_md (M 125)) FP.Core.one64 := fl_m_b fbk _
  refine fs_r_call (sta := false) (idx := 300) (as := [.inr (.ref 124)]) (rest := []) (L1 := [some (.inr (.ref 124))]) (st1 := [.inr (.ref 124)]) (M1 := M) (ob := []) rfl rfl rfl trivial rfl rfl (Nat.le_of_ble_eq_true rfl) ⟨Or.inr (Nat.le_of_ble_eq_true rfl), Or.inr fs_ob124⟩ (by decide) ?_
  refine fs_m_moodNow (by assumption) (fun (V : fs_M) (q1 : mm_q M V) => ?_)
  refine fs_r_iret (a := (FP.d2i (FP.dmul (rq_md (M 125)) (UInt64.ofNat (Int.toNat 4636737291354636288)))).toInt) (L1 := [some (.inr (.ref 124))]) (M1 := V) (ob := [vf_n64 (FP.dmul (rq_md (M 125)) (UInt64.ofNat (Int.toNat 4636737291354636288)))]) rfl rfl (fs_oc (vf64_of (n_dmulc mdb val_100)) trivial) (Or.inl rfl) ?_
  exact hq0 _ q1
