theorem fs_c_ratioOf {d : Nat} {M : fs_M} {Q : Option fs_V → fs_M → Prop} {a : Int} {n : Int}  (hM : mk_b M) (ha : 0 ≤ a ∧ a < M 20 0) (hn : 0 ≤ n ∧ n ≤ 400) (hq0 : Q (some (.inr (.float (rqR (ec_price (mk M) a 0) (ec_price (mk M) a n))))) M) : fs_W (d + 2) 47 0 [some (.inr (.ref 20)), some (.inl a), some (.inl n), none] [] M Q := by
  have p0 := mk_price_b (a := a) (n := 0) hM ha (by omega)
  have p1 := mk_price_b (a := a) (n := n) hM ha (by omega)
  have pm := ec_price_m (E := mk M) (a := a) (n := 0) (m := n) (hM.2.2.2.1 a ha.1 ha.2).2.1.1 hn.1
  have f0 := fcmp0 (n := (ec_price (mk M) a 0)) ⟨p0.1, by omega⟩
  refine fs_r_call (sta := false) (idx := 112) (as := [.inr (.ref 20), .inl a, .inl 0]) (rest := []) (L1 := [some (.inr (.ref 20)), some (.inl a), some (.inl n), none]) (st1 := [.inl 0, .inl a, .inr (.ref 20)]) (M1 := M) (ob := []) rfl rfl rfl trivial rfl rfl (Nat.le_of_ble_eq_true rfl) ⟨Or.inr (Nat.le_of_ble_eq_true rfl), Or.inr fs_ob20⟩ (by decide) ?_
  refine fs_c_priceAt (by assumption) (by omega) (by omega) ?_
  refine fs_r_if (a := (Op.cmpValue (FP.fcmp (FP.i2f (Int32.ofInt (ec_price (mk M) a 0))) FP.fconst0) .l).toInt) (L1 := [some (.inr (.ref 20)), some (.inl a), some (.inl n), some (.inr (.float (FP.i2f (Int32.ofInt (ec_price (mk M) a 0)))))]) (st1 := []) (M1 := M) (ob := [3 < 4]) rfl rfl (fs_oc (by decide) trivial) (fun (h1 : ¬ (Op.cmpValue (FP.fcmp (FP.i2f (Int32.ofInt (ec_price (mk M) a 0))) FP.fconst0) .l).toInt = 0) => ?_) (fun (h1 : ¬ (¬ (Op.cmpValue (FP.fcmp (FP.i2f (Int32.ofInt (ec_price (mk M) a 0))) FP.fconst0) .l).toInt = 0)) => ?_)
  · have pn : ¬ (ec_price (mk M) a 0) = 0 := fun z => absurd (f0.mpr z) (by assumption)
    refine fs_r_call (sta := false) (idx := 112) (as := [.inr (.ref 20), .inl a, .inl n]) (rest := []) (L1 := [some (.inr (.ref 20)), some (.inl a), some (.inl n), some (.inr (.float (FP.i2f (Int32.ofInt (ec_price (mk M) a 0)))))]) (st1 := [.inl n, .inl a, .inr (.ref 20)]) (M1 := M) (ob := []) rfl rfl rfl trivial rfl rfl (Nat.le_of_ble_eq_true rfl) ⟨Or.inr (Nat.le_of_ble_eq_true rfl), Or.inr fs_ob20⟩ (by decide) ?_
    refine fs_c_priceAt (by assumption) (by omega) (by omega) ?_
    have nb : FB (FP.fdiv (FP.i2f (Int32.ofInt (ec_price (mk M) a n))) (FP.i2f (Int32.ofInt (ec_price (mk M) a 0)))) 1 := by
      have w := rqR_b pm (by omega)
      unfold rqR at w
      rw [if_neg pn] at w
      exact w
    refine fs_r_fret (a := (FP.fdiv (FP.i2f (Int32.ofInt (ec_price (mk M) a n))) (FP.i2f (Int32.ofInt (ec_price (mk M) a 0))))) (L1 := [some (.inr (.ref 20)), some (.inl a), some (.inl n), some (.inr (.float (FP.i2f (Int32.ofInt (ec_price (mk M) a 0)))))]) (M1 := M) (ob := [vf_n32 (FP.fdiv (FP.i2f (Int32.ofInt (ec_price (mk M) a n))) (FP.i2f (Int32.ofInt (ec_price (mk M) a 0))))]) rfl rfl (fs_oc (vf32_of nb.nn) trivial) ?_
    exact fs_qf (by unfold rqR; rw [if_neg pn]) hq0
  have pz : (ec_price (mk M) a 0) = 0 := f0.mp (by omega)
  refine fs_r_fret (a := FP.fconst1) (L1 := [some (.inr (.ref 20)), some (.inl a), some (.inl n), some (.inr (.float (FP.i2f (Int32.ofInt (ec_price (mk M) a 0)))))]) (M1 := M) (ob := []) rfl rfl trivial ?_
  exact fs_qf (by unfold rqR; rw [if_pos pz]) hq0

theorem fs_c_indexOf {d : Nat} {M : fs_M} {Q : Option fs_V → fs_M → Prop}   (hM : mk_b M) (hS : sb M 32) (hq0 : Q (some (.inr (.float (fl_i (mk M) (sst M 32))))) M) : fs_W (d + 3) 48 0 [some (.inr (.ref 20)), some (.inr (.ref 32)), none, none, none] [] M Q := by
  have ok := fl_bd hM.bd (S := sst M 32) (fun a a0 a1 => by rw [sst_at ⟨a0, a1⟩]; exact (hS.2 a a0 a1).1)
  have hA := hM.1
  have e0 : mk M 0 0 = M 20 0 := rfl
  refine fs_r_nop (L1 := [some (.inr (.ref 20)), some (.inr (.ref 32)), some (.inr (.float FP.fconst0)), some (.inl 0), some (.inl 0)]) (st1 := []) (M1 := M) (ob := [2 < 5, 3 < 5, 4 < 5]) rfl rfl (fs_oc (by decide) (fs_oc (by decide) (fs_oc (by decide) trivial))) ?_
  have loop7 : ∀ (n7 : Nat) (s : UInt32) (n : Int) (a : Int), (0 ≤ a ∧ a ≤ M 20 0) → (s = fl_sum (mk M) (sst M 32) a.toNat) → (n = fs_sum a.toNat (fun q => M 25 q) ∧ 0 ≤ n ∧ n ≤ 360 * a) → M 20 0 - a < (n7 : Int) → fs_W (d + 3) 48 7 [some (.inr (.ref 20)), some (.inr (.ref 32)), some (.inr (.float s)), some (.inl n), some (.inl a)] [] M Q := by
    intro n7
    induction n7 with
    | zero =>
      intro s n a i0 s0 n0 hm7
      exfalso
      omega
    | succ n7 ih7 =>
      intro s n a i0 s0 n0 hm7
      refine fs_r_icmp (a := a) (y := (M 20 0)) (L1 := [some (.inr (.ref 20)), some (.inr (.ref 32)), some (.inr (.float s)), some (.inl n), some (.inl a)]) (st1 := []) (M1 := M) (ob := [20 < fs_N ∧ fs_kd 20 = 1]) rfl rfl (fs_oc fs_ob20 trivial) (fun (h1 : (M 20 0) ≤ a) => ?_) (fun (h1 : ¬ ((M 20 0) ≤ a)) => ?_)
      · refine fs_r_if (a := n) (L1 := [some (.inr (.ref 20)), some (.inr (.ref 32)), some (.inr (.float s)), some (.inl n), some (.inl a)]) (st1 := []) (M1 := M) (ob := []) rfl rfl trivial (fun (h2 : ¬ n = 0) => ?_) (fun (h2 : ¬ (¬ n = 0)) => ?_)
        · have ib := fl_i_b ok
          have en : fs_sum (mk M 0 0).toNat (fun q => mk M 5 q) = n := by rw [n0.1, e0, show a = M 20 0 by omega]; rfl
          unfold fl_i at ib
          rw [en, if_neg (by omega), e0, show (M 20 0).toNat = a.toNat by omega, ← s0] at ib
          refine fs_r_fret (a := (FP.fdiv s (FP.i2f (Int32.ofInt n)))) (L1 := [some (.inr (.ref 20)), some (.inr (.ref 32)), some (.inr (.float s)), some (.inl n), some (.inl a)]) (M1 := M) (ob := [vf_n32 (FP.fdiv s (FP.i2f (Int32.ofInt n)))]) rfl rfl (fs_oc (vf32_of ib.nn) trivial) ?_
          exact fs_qf (by unfold fl_i; rw [en, if_neg (by omega), e0, show (M 20 0).toNat = a.toNat by omega, ← s0]) hq0
        refine fs_r_fret (a := FP.fconst1) (L1 := [some (.inr (.ref 20)), some (.inr (.ref 32)), some (.inr (.float s)), some (.inl n), some (.inl a)]) (M1 := M) (ob := []) rfl rfl trivial ?_
        exact fs_qf (by unfold fl_i; rw [show fs_sum (mk M 0 0).toNat (fun q => mk M 5 q) = n by rw [n0.1, e0, show a = M 20 0 by omega]; rfl, if_pos (by omega)]) hq0
      have sa : 0 ≤ M 33 a ∧ M 33 a ≤ 360 := hS.2 a (by omega) (by omega)
      have oka0 := ok.2 a (by omega) (by rw [e0]; omega)
      have e50 : mk M 5 a = M 25 a := rfl
      rw [e50] at oka0
      refine fs_r_call (sta := false) (idx := 164) (as := [.inr (.ref 20), .inl a, .inl (M 33 a)]) (rest := [.inr (.float s)]) (L1 := [some (.inr (.ref 20)), some (.inr (.ref 32)), some (.inr (.float s)), some (.inl n), some (.inl a)]) (st1 := [.inl (M 33 a), .inl a, .inr (.ref 20), .inr (.float s)]) (M1 := M) (ob := [32 < fs_N ∧ fs_kd 32 = 3, (33 < fs_N ∧ fs_kd 33 = 100) ∧ (0 : Int) ≤ a ∧ a < fs_ln 33]) rfl rfl rfl (fs_oc fs_ob32 (fs_oc (fs_ar33 (by omega) (by omega)) trivial)) rfl rfl (Nat.le_of_ble_eq_true rfl) ⟨Or.inr (Nat.le_of_ble_eq_true rfl), Or.inr fs_ob20⟩ (by decide) ?_
      refine fs_c_ratioOf (by assumption) (by omega) (by omega) ?_
      have sb := fl_sum_b ok (a + 1).toNat (by rw [e0]; omega)
      have oka := ok.2 a (by omega) (by rw [e0]; omega)
      have rb := rqR_b oka.1 (by omega)
      rw [sst_at ⟨by omega, by omega⟩] at rb
      have ib := (FB_int (n := M 25 a) ⟨oka.2.2.1, Int.le_trans oka.2.2.2 (by decide)⟩).1
      have mb := FB_mul rb ib (by omega) oka.2.2.1 (by have w := oka.2.2.2; have e5 : mk M 5 a = M 25 a := rfl; omega)
      have e5 : mk M 5 a = M 25 a := rfl
      have fs := fl_sum_s (E := mk M) (S := sst M 32) (a := a) (by omega)
      rw [sst_at ⟨by omega, by omega⟩] at fs
      rw [fs, ← s0] at sb
      refine fs_r_goto (L1 := [some (.inr (.ref 20)), some (.inr (.ref 32)), some (.inr (.float (FP.fadd s (FP.fmul (rqR (ec_price (mk M) a 0) (ec_price (mk M) a (M 33 a))) (FP.i2f (Int32.ofInt (M 25 a))))))), some (.inl (n + (M 25 a))), some (.inl (a + 1))]) (st1 := []) (M1 := M) (ob := [20 < fs_N ∧ fs_kd 20 = 1, (25 < fs_N ∧ fs_kd 25 = 100) ∧ (0 : Int) ≤ a ∧ a < fs_ln 25, vf_n32 (FP.fmul (rqR (ec_price (mk M) a 0) (ec_price (mk M) a (M 33 a))) (FP.i2f (Int32.ofInt (M 25 a)))), vf_n32 (FP.fadd s (FP.fmul (rqR (ec_price (mk M) a 0) (ec_price (mk M) a (M 33 a))) (FP.i2f (Int32.ofInt (M 25 a))))), 2 < 5, 20 < fs_N ∧ fs_kd 20 = 1, (25 < fs_N ∧ fs_kd 25 = 100) ∧ (0 : Int) ≤ a ∧ a < fs_ln 25, fs_rg (n + (M 25 a)), 3 < 5, fs_rg (a + 1)]) rfl (fs_exA 6 (o1 := [20 < fs_N ∧ fs_kd 20 = 1, (25 < fs_N ∧ fs_kd 25 = 100) ∧ (0 : Int) ≤ a ∧ a < fs_ln 25, vf_n32 (FP.fmul (rqR (ec_price (mk M) a 0) (ec_price (mk M) a (M 33 a))) (FP.i2f (Int32.ofInt (M 25 a))))]) (L1 := [some (.inr (.ref 20)), some (.inr (.ref 32)), some (.inr (.float s)), some (.inl n), some (.inl a)]) (st1 := [.inr (.float (FP.fmul (rqR (ec_price (mk M) a 0) (ec_price (mk M) a (M 33 a))) (FP.i2f (Int32.ofInt (M 25 a))))), .inr (.float s)]) (M1 := M) (o2 := [vf_n32 (FP.fadd s (FP.fmul (rqR (ec_price (mk M) a 0) (ec_price (mk M) a (M 33 a))) (FP.i2f (Int32.ofInt (M 25 a))))), 2 < 5, 20 < fs_N ∧ fs_kd 20 = 1, (25 < fs_N ∧ fs_kd 25 = 100) ∧ (0 : Int) ≤ a ∧ a < fs_ln 25, fs_rg (n + (M 25 a)), 3 < 5, fs_rg (a + 1)]) rfl (fs_exA 6 (o1 := [vf_n32 (FP.fadd s (FP.fmul (rqR (ec_price (mk M) a 0) (ec_price (mk M) a (M 33 a))) (FP.i2f (Int32.ofInt (M 25 a))))), 2 < 5, 20 < fs_N ∧ fs_kd 20 = 1]) (L1 := [some (.inr (.ref 20)), some (.inr (.ref 32)), some (.inr (.float (FP.fadd s (FP.fmul (rqR (ec_price (mk M) a 0) (ec_price (mk M) a (M 33 a))) (FP.i2f (Int32.ofInt (M 25 a))))))), some (.inl n), some (.inl a)]) (st1 := [.inl a, .inr (.ref 25), .inl n]) (M1 := M) (o2 := [(25 < fs_N ∧ fs_kd 25 = 100) ∧ (0 : Int) ≤ a ∧ a < fs_ln 25, fs_rg (n + (M 25 a)), 3 < 5, fs_rg (a + 1)]) rfl rfl)) (fs_oc fs_ob20 (fs_oc (fs_ar25 (by first | omega | exact vf32_of mb.nn | exact vf32_of sb.1.nn) (by first | omega | exact vf32_of mb.nn | exact vf32_of sb.1.nn)) (fs_oc (by first | omega | exact vf32_of mb.nn | exact vf32_of sb.1.nn) (fs_oc (by first | omega | exact vf32_of mb.nn | exact vf32_of sb.1.nn) (fs_oc (by decide) (fs_oc fs_ob20 (fs_oc (fs_ar25 (by first | omega | exact vf32_of mb.nn | exact vf32_of sb.1.nn) (by first | omega | exact vf32_of mb.nn | exact vf32_of sb.1.nn)) (fs_oc ⟨by first | omega | exact vf32_of mb.nn | exact vf32_of sb.1.nn, by first | omega | exact vf32_of mb.nn | exact vf32_of sb.1.nn⟩ (fs_oc (by decide) (fs_oc ⟨by first | omega | exact vf32_of mb.nn | exact vf32_of sb.1.nn, by first | omega | exact vf32_of mb.nn | exact vf32_of sb.1.nn⟩ trivial)))))))))) ?_
      exact ih7 ((FP.fadd s (FP.fmul (rqR (ec_price (mk M) a 0) (ec_price (mk M) a (M 33 a))) (FP.i2f (Int32.ofInt (M 25 a)))))) ((n + (M 25 a))) ((a + 1)) (by omega) (by rw [fs, s0]; rfl) (⟨by rw [fs_sum_s i0.1, n0.1], by omega, by omega⟩) (by omega)
  exact loop7 (((M 20 0 - (0)) : Int) + 1).toNat (FP.fconst0) (0) (0) (by omega) (rfl) (⟨rfl, by omega, by omega⟩) (by omega)

theorem fs_c_bitsOf64 {d : Nat} {M : fs_M} {Q : Option fs_V → fs_M → Prop} {x : UInt64} {m : Nat} (hb : BO 52 m x 1023) (hq0 : Q (some (.inr (.long (Int64.ofInt ((m : Nat) : Int))))) M) : fs_W (d) 150 0 [some (.inr (.double x)), none, some (.inl 1023), some (.inl 52), none, none, none, none, none] [] M Q := by
  refine fs_r_if (a := (Op.cmpValue (FP.dcmp x FP.dconst0) .g).toInt) (L1 := [some (.inr (.double x)), none, some (.inl 1023), some (.inl 52), none, none, none, none, none]) (st1 := []) (M1 := M) (ob := []) rfl rfl trivial (fun (h1 : 0 < (Op.cmpValue (FP.dcmp x FP.dconst0) .g).toInt) => ?_) (fun (h1 : ¬ (0 < (Op.cmpValue (FP.dcmp x FP.dconst0) .g).toInt)) => ?_)
  · refine fs_r_nop (L1 := [some (.inr (.double x)), none, some (.inl 1023), some (.inl 52), some (.inr (.double x)), none, some (.inl 1023), none, none]) (st1 := []) (M1 := M) (ob := [4 + 1 < 9, 6 < 9]) rfl rfl (fs_oc (by decide) (fs_oc (by decide) trivial)) ?_
    have loop14 : ∀ (n14 : Nat) (z : UInt64) (e : Int) (zl7 : Option fs_V), (1 ≤ e ∧ e ≤ 1023) → (BO 52 m z e.toNat) → e < (n14 : Int) → fs_W (d) 150 14 [some (.inr (.double x)), none, some (.inl 1023), some (.inl 52), some (.inr (.double z)), none, some (.inl e), zl7, none] [] M Q := by
      intro n14
      induction n14 with
      | zero =>
        intro z e zl7 e0 z0 hm14
        exfalso
        omega
      | succ n14 ih14 =>
        intro z e zl7 e0 z0 hm14
        refine fs_r_if (a := (Op.cmpValue (FP.dcmp z FP.dconst1) .g).toInt) (L1 := [some (.inr (.double x)), none, some (.inl 1023), some (.inl 52), some (.inr (.double z)), none, some (.inl e), zl7, none]) (st1 := []) (M1 := M) (ob := []) rfl rfl trivial (fun (h2 : 0 ≤ (Op.cmpValue (FP.dcmp z FP.dconst1) .g).toInt) => ?_) (fun (h2 : ¬ (0 ≤ (Op.cmpValue (FP.dcmp z FP.dconst1) .g).toInt)) => ?_)
        · have b1 := bo_1 (W := 52) (m := m)
          have ee : e.toNat = bo_E 52 m := by
            first
              | exact z0.end1 (by decide) (z0.one.mp (by assumption))
              | (have w := z0.2.1; omega)
          have la := z0.last (by decide) ee un_52
          have pW : (2 : Nat) ^ 52 = 4503599627370496 := by decide
          refine fs_r_lret (a := (((Int32.ofInt e).toInt64 <<< ((Int32.ofInt 52).toInt64 &&& 63)) + (FP.d2l (FP.dmul (FP.dsub z FP.dconst1) (FP.l2d ((Int64.ofNat 1) <<< ((Int32.ofInt 52).toInt64 &&& 63))))))) (L1 := [some (.inr (.double x)), none, some (.inl 1023), some (.inl 52), some (.inr (.double z)), none, some (.inl e), some (.inr (.double (FP.l2d ((Int64.ofNat 1) <<< ((Int32.ofInt 52).toInt64 &&& 63))))), none]) (M1 := M) (ob := [7 + 1 < 9, vf_n64 (FP.dsub z FP.dconst1), vf_n64 (FP.dmul (FP.dsub z FP.dconst1) (FP.l2d ((Int64.ofNat 1) <<< ((Int32.ofInt 52).toInt64 &&& 63))))]) rfl (fs_exA 6 (o1 := [7 + 1 < 9]) (L1 := [some (.inr (.double x)), none, some (.inl 1023), some (.inl 52), some (.inr (.double z)), none, some (.inl e), some (.inr (.double (FP.l2d ((Int64.ofNat 1) <<< ((Int32.ofInt 52).toInt64 &&& 63))))), none]) (st1 := [.inl e]) (M1 := M) (o2 := [vf_n64 (FP.dsub z FP.dconst1), vf_n64 (FP.dmul (FP.dsub z FP.dconst1) (FP.l2d ((Int64.ofNat 1) <<< ((Int32.ofInt 52).toInt64 &&& 63))))]) rfl (fs_exA 6 (o1 := [vf_n64 (FP.dsub z FP.dconst1)]) (L1 := [some (.inr (.double x)), none, some (.inl 1023), some (.inl 52), some (.inr (.double z)), none, some (.inl e), some (.inr (.double (FP.l2d ((Int64.ofNat 1) <<< ((Int32.ofInt 52).toInt64 &&& 63))))), none]) (st1 := [.inr (.double (FP.dsub z FP.dconst1)), .inr (.long ((Int32.ofInt e).toInt64 <<< ((Int32.ofInt 52).toInt64 &&& 63)))]) (M1 := M) (o2 := [vf_n64 (FP.dmul (FP.dsub z FP.dconst1) (FP.l2d ((Int64.ofNat 1) <<< ((Int32.ofInt 52).toInt64 &&& 63))))]) rfl rfl)) (fs_oc (by decide) (fs_oc (by first | decide | exact vf64_of la.1 | exact vf64_of la.2.1) (fs_oc (by first | decide | exact vf64_of la.1 | exact vf64_of la.2.1) trivial))) ?_
          exact fs_ql (by
            rw [la.2.2, sh_52 (by omega), ← Int64.ofInt_add]
            congr 1
            have w := b1.2.2.2
            rw [pW] at w ⊢
            omega) hq0
        refine fs_r_icmp (a := e) (y := 1) (L1 := [some (.inr (.double x)), none, some (.inl 1023), some (.inl 52), some (.inr (.double z)), none, some (.inl e), zl7, none]) (st1 := []) (M1 := M) (ob := []) rfl rfl trivial (fun (h3 : e ≤ 1) => ?_) (fun (h3 : ¬ (e ≤ 1)) => ?_)
        · have b1 := bo_1 (W := 52) (m := m)
          have ee : e.toNat = bo_E 52 m := by
            first
              | exact z0.end1 (by decide) (z0.one.mp (by assumption))
              | (have w := z0.2.1; omega)
          have la := z0.last (by decide) ee un_52
          have pW : (2 : Nat) ^ 52 = 4503599627370496 := by decide
          refine fs_r_lret (a := (((Int32.ofInt e).toInt64 <<< ((Int32.ofInt 52).toInt64 &&& 63)) + (FP.d2l (FP.dmul (FP.dsub z FP.dconst1) (FP.l2d ((Int64.ofNat 1) <<< ((Int32.ofInt 52).toInt64 &&& 63))))))) (L1 := [some (.inr (.double x)), none, some (.inl 1023), some (.inl 52), some (.inr (.double z)), none, some (.inl e), some (.inr (.double (FP.l2d ((Int64.ofNat 1) <<< ((Int32.ofInt 52).toInt64 &&& 63))))), none]) (M1 := M) (ob := [7 + 1 < 9, vf_n64 (FP.dsub z FP.dconst1), vf_n64 (FP.dmul (FP.dsub z FP.dconst1) (FP.l2d ((Int64.ofNat 1) <<< ((Int32.ofInt 52).toInt64 &&& 63))))]) rfl (fs_exA 6 (o1 := [7 + 1 < 9]) (L1 := [some (.inr (.double x)), none, some (.inl 1023), some (.inl 52), some (.inr (.double z)), none, some (.inl e), some (.inr (.double (FP.l2d ((Int64.ofNat 1) <<< ((Int32.ofInt 52).toInt64 &&& 63))))), none]) (st1 := [.inl e]) (M1 := M) (o2 := [vf_n64 (FP.dsub z FP.dconst1), vf_n64 (FP.dmul (FP.dsub z FP.dconst1) (FP.l2d ((Int64.ofNat 1) <<< ((Int32.ofInt 52).toInt64 &&& 63))))]) rfl (fs_exA 6 (o1 := [vf_n64 (FP.dsub z FP.dconst1)]) (L1 := [some (.inr (.double x)), none, some (.inl 1023), some (.inl 52), some (.inr (.double z)), none, some (.inl e), some (.inr (.double (FP.l2d ((Int64.ofNat 1) <<< ((Int32.ofInt 52).toInt64 &&& 63))))), none]) (st1 := [.inr (.double (FP.dsub z FP.dconst1)), .inr (.long ((Int32.ofInt e).toInt64 <<< ((Int32.ofInt 52).toInt64 &&& 63)))]) (M1 := M) (o2 := [vf_n64 (FP.dmul (FP.dsub z FP.dconst1) (FP.l2d ((Int64.ofNat 1) <<< ((Int32.ofInt 52).toInt64 &&& 63))))]) rfl rfl)) (fs_oc (by decide) (fs_oc (by first | decide | exact vf64_of la.1 | exact vf64_of la.2.1) (fs_oc (by first | decide | exact vf64_of la.1 | exact vf64_of la.2.1) trivial))) ?_
          exact fs_ql (by
            rw [la.2.2, sh_52 (by omega), ← Int64.ofInt_add]
            congr 1
            have w := b1.2.2.2
            rw [pW] at w ⊢
            omega) hq0
        have nk : ¬ FP.Core.one64 ≤ FP.Core.zmag FP.Core.b64 (FP.Core.val64 z) := fun k => absurd (z0.one.mpr k) (by assumption)
        have gz := z0.go nk (z0.end2 (by decide) nk (by omega))
        refine fs_r_goto (L1 := [some (.inr (.double x)), none, some (.inl 1023), some (.inl 52), some (.inr (.double (FP.dmul z (UInt64.ofNat (Int.toNat 4611686018427387904))))), none, some (.inl (e + (-1))), zl7, none]) (st1 := []) (M1 := M) (ob := [vf_n64 (FP.dmul z (UInt64.ofNat (Int.toNat 4611686018427387904))), 4 + 1 < 9, fs_rg (e + (-1))]) rfl rfl (fs_oc (by first | omega | exact vf64_of (n_dmul2 z0.fin)) (fs_oc (by decide) (fs_oc ⟨by first | omega | exact vf64_of (n_dmul2 z0.fin), by first | omega | exact vf64_of (n_dmul2 z0.fin)⟩ trivial))) ?_
        exact ih14 ((FP.dmul z (UInt64.ofNat (Int.toNat 4611686018427387904)))) ((e + (-1))) (zl7) (by omega) (by rw [show (e + (-1)).toNat = e.toNat - 1 by omega]; exact gz) (by omega)
    exact loop14 ((((1023)) : Int) + 1).toNat (x) (1023) (none) (by omega) (hb) (by omega)
  have m0 := hb.pos (by omega)
  refine fs_r_lret (a := (Int64.ofNat 0)) (L1 := [some (.inr (.double x)), none, some (.inl 1023), some (.inl 52), none, none, none, none, none]) (M1 := M) (ob := []) rfl rfl trivial ?_
  exact fs_ql (by rw [m0]; decide) hq0

theorem fs_c_bitsOf32 {d : Nat} {M : fs_M} {Q : Option fs_V → fs_M → Prop} {x : UInt64} {m : Nat} (hb : BO 23 m x 127) (hq0 : Q (some (.inr (.long (Int64.ofInt ((m : Nat) : Int))))) M) : fs_W (d) 150 0 [some (.inr (.double x)), none, some (.inl 127), some (.inl 23), none, none, none, none, none] [] M Q := by
  refine fs_r_if (a := (Op.cmpValue (FP.dcmp x FP.dconst0) .g).toInt) (L1 := [some (.inr (.double x)), none, some (.inl 127), some (.inl 23), none, none, none, none, none]) (st1 := []) (M1 := M) (ob := []) rfl rfl trivial (fun (h1 : 0 < (Op.cmpValue (FP.dcmp x FP.dconst0) .g).toInt) => ?_) (fun (h1 : ¬ (0 < (Op.cmpValue (FP.dcmp x FP.dconst0) .g).toInt)) => ?_)
  · refine fs_r_nop (L1 := [some (.inr (.double x)), none, some (.inl 127), some (.inl 23), some (.inr (.double x)), none, some (.inl 127), none, none]) (st1 := []) (M1 := M) (ob := [4 + 1 < 9, 6 < 9]) rfl rfl (fs_oc (by decide) (fs_oc (by decide) trivial)) ?_
    have loop14 : ∀ (n14 : Nat) (z : UInt64) (e : Int) (zl7 : Option fs_V), (1 ≤ e ∧ e ≤ 127) → (BO 23 m z e.toNat) → e < (n14 : Int) → fs_W (d) 150 14 [some (.inr (.double x)), none, some (.inl 127), some (.inl 23), some (.inr (.double z)), none, some (.inl e), zl7, none] [] M Q := by
      intro n14
      induction n14 with
      | zero =>
        intro z e zl7 e0 z0 hm14
        exfalso
        omega
      | succ n14 ih14 =>
        intro z e zl7 e0 z0 hm14
        refine fs_r_if (a := (Op.cmpValue (FP.dcmp z FP.dconst1) .g).toInt) (L1 := [some (.inr (.double x)), none, some (.inl 127), some (.inl 23), some (.inr (.double z)), none, some (.inl e), zl7, none]) (st1 := []) (M1 := M) (ob := []) rfl rfl trivial (fun (h2 : 0 ≤ (Op.cmpValue (FP.dcmp z FP.dconst1) .g).toInt) => ?_) (fun (h2 : ¬ (0 ≤ (Op.cmpValue (FP.dcmp z FP.dconst1) .g).toInt)) => ?_)
        · have b1 := bo_1 (W := 23) (m := m)
          have ee : e.toNat = bo_E 23 m := by
            first
              | exact z0.end1 (by decide) (z0.one.mp (by assumption))
              | (have w := z0.2.1; omega)
          have la := z0.last (by decide) ee un_23
          have pW : (2 : Nat) ^ 23 = 8388608 := by decide
          refine fs_r_lret (a := (((Int32.ofInt e).toInt64 <<< ((Int32.ofInt 23).toInt64 &&& 63)) + (FP.d2l (FP.dmul (FP.dsub z FP.dconst1) (FP.l2d ((Int64.ofNat 1) <<< ((Int32.ofInt 23).toInt64 &&& 63))))))) (L1 := [some (.inr (.double x)), none, some (.inl 127), some (.inl 23), some (.inr (.double z)), none, some (.inl e), some (.inr (.double (FP.l2d ((Int64.ofNat 1) <<< ((Int32.ofInt 23).toInt64 &&& 63))))), none]) (M1 := M) (ob := [7 + 1 < 9, vf_n64 (FP.dsub z FP.dconst1), vf_n64 (FP.dmul (FP.dsub z FP.dconst1) (FP.l2d ((Int64.ofNat 1) <<< ((Int32.ofInt 23).toInt64 &&& 63))))]) rfl (fs_exA 6 (o1 := [7 + 1 < 9]) (L1 := [some (.inr (.double x)), none, some (.inl 127), some (.inl 23), some (.inr (.double z)), none, some (.inl e), some (.inr (.double (FP.l2d ((Int64.ofNat 1) <<< ((Int32.ofInt 23).toInt64 &&& 63))))), none]) (st1 := [.inl e]) (M1 := M) (o2 := [vf_n64 (FP.dsub z FP.dconst1), vf_n64 (FP.dmul (FP.dsub z FP.dconst1) (FP.l2d ((Int64.ofNat 1) <<< ((Int32.ofInt 23).toInt64 &&& 63))))]) rfl (fs_exA 6 (o1 := [vf_n64 (FP.dsub z FP.dconst1)]) (L1 := [some (.inr (.double x)), none, some (.inl 127), some (.inl 23), some (.inr (.double z)), none, some (.inl e), some (.inr (.double (FP.l2d ((Int64.ofNat 1) <<< ((Int32.ofInt 23).toInt64 &&& 63))))), none]) (st1 := [.inr (.double (FP.dsub z FP.dconst1)), .inr (.long ((Int32.ofInt e).toInt64 <<< ((Int32.ofInt 23).toInt64 &&& 63)))]) (M1 := M) (o2 := [vf_n64 (FP.dmul (FP.dsub z FP.dconst1) (FP.l2d ((Int64.ofNat 1) <<< ((Int32.ofInt 23).toInt64 &&& 63))))]) rfl rfl)) (fs_oc (by decide) (fs_oc (by first | decide | exact vf64_of la.1 | exact vf64_of la.2.1) (fs_oc (by first | decide | exact vf64_of la.1 | exact vf64_of la.2.1) trivial))) ?_
          exact fs_ql (by
            rw [la.2.2, sh_23 (by omega), ← Int64.ofInt_add]
            congr 1
            have w := b1.2.2.2
            rw [pW] at w ⊢
            omega) hq0
        refine fs_r_icmp (a := e) (y := 1) (L1 := [some (.inr (.double x)), none, some (.inl 127), some (.inl 23), some (.inr (.double z)), none, some (.inl e), zl7, none]) (st1 := []) (M1 := M) (ob := []) rfl rfl trivial (fun (h3 : e ≤ 1) => ?_) (fun (h3 : ¬ (e ≤ 1)) => ?_)
        · have b1 := bo_1 (W := 23) (m := m)
          have ee : e.toNat = bo_E 23 m := by
            first
              | exact z0.end1 (by decide) (z0.one.mp (by assumption))
              | (have w := z0.2.1; omega)
          have la := z0.last (by decide) ee un_23
          have pW : (2 : Nat) ^ 23 = 8388608 := by decide
          refine fs_r_lret (a := (((Int32.ofInt e).toInt64 <<< ((Int32.ofInt 23).toInt64 &&& 63)) + (FP.d2l (FP.dmul (FP.dsub z FP.dconst1) (FP.l2d ((Int64.ofNat 1) <<< ((Int32.ofInt 23).toInt64 &&& 63))))))) (L1 := [some (.inr (.double x)), none, some (.inl 127), some (.inl 23), some (.inr (.double z)), none, some (.inl e), some (.inr (.double (FP.l2d ((Int64.ofNat 1) <<< ((Int32.ofInt 23).toInt64 &&& 63))))), none]) (M1 := M) (ob := [7 + 1 < 9, vf_n64 (FP.dsub z FP.dconst1), vf_n64 (FP.dmul (FP.dsub z FP.dconst1) (FP.l2d ((Int64.ofNat 1) <<< ((Int32.ofInt 23).toInt64 &&& 63))))]) rfl (fs_exA 6 (o1 := [7 + 1 < 9]) (L1 := [some (.inr (.double x)), none, some (.inl 127), some (.inl 23), some (.inr (.double z)), none, some (.inl e), some (.inr (.double (FP.l2d ((Int64.ofNat 1) <<< ((Int32.ofInt 23).toInt64 &&& 63))))), none]) (st1 := [.inl e]) (M1 := M) (o2 := [vf_n64 (FP.dsub z FP.dconst1), vf_n64 (FP.dmul (FP.dsub z FP.dconst1) (FP.l2d ((Int64.ofNat 1) <<< ((Int32.ofInt 23).toInt64 &&& 63))))]) rfl (fs_exA 6 (o1 := [vf_n64 (FP.dsub z FP.dconst1)]) (L1 := [some (.inr (.double x)), none, some (.inl 127), some (.inl 23), some (.inr (.double z)), none, some (.inl e), some (.inr (.double (FP.l2d ((Int64.ofNat 1) <<< ((Int32.ofInt 23).toInt64 &&& 63))))), none]) (st1 := [.inr (.double (FP.dsub z FP.dconst1)), .inr (.long ((Int32.ofInt e).toInt64 <<< ((Int32.ofInt 23).toInt64 &&& 63)))]) (M1 := M) (o2 := [vf_n64 (FP.dmul (FP.dsub z FP.dconst1) (FP.l2d ((Int64.ofNat 1) <<< ((Int32.ofInt 23).toInt64 &&& 63))))]) rfl rfl)) (fs_oc (by decide) (fs_oc (by first | decide | exact vf64_of la.1 | exact vf64_of la.2.1) (fs_oc (by first | decide | exact vf64_of la.1 | exact vf64_of la.2.1) trivial))) ?_
          exact fs_ql (by
            rw [la.2.2, sh_23 (by omega), ← Int64.ofInt_add]
            congr 1
            have w := b1.2.2.2
            rw [pW] at w ⊢
            omega) hq0
        have nk : ¬ FP.Core.one64 ≤ FP.Core.zmag FP.Core.b64 (FP.Core.val64 z) := fun k => absurd (z0.one.mpr k) (by assumption)
        have gz := z0.go nk (z0.end2 (by decide) nk (by omega))
        refine fs_r_goto (L1 := [some (.inr (.double x)), none, some (.inl 127), some (.inl 23), some (.inr (.double (FP.dmul z (UInt64.ofNat (Int.toNat 4611686018427387904))))), none, some (.inl (e + (-1))), zl7, none]) (st1 := []) (M1 := M) (ob := [vf_n64 (FP.dmul z (UInt64.ofNat (Int.toNat 4611686018427387904))), 4 + 1 < 9, fs_rg (e + (-1))]) rfl rfl (fs_oc (by first | omega | exact vf64_of (n_dmul2 z0.fin)) (fs_oc (by decide) (fs_oc ⟨by first | omega | exact vf64_of (n_dmul2 z0.fin), by first | omega | exact vf64_of (n_dmul2 z0.fin)⟩ trivial))) ?_
        exact ih14 ((FP.dmul z (UInt64.ofNat (Int.toNat 4611686018427387904)))) ((e + (-1))) (zl7) (by omega) (by rw [show (e + (-1)).toNat = e.toNat - 1 by omega]; exact gz) (by omega)
    exact loop14 ((((127)) : Int) + 1).toNat (x) (127) (none) (by omega) (hb) (by omega)
  have m0 := hb.pos (by omega)
  refine fs_r_lret (a := (Int64.ofNat 0)) (L1 := [some (.inr (.double x)), none, some (.inl 127), some (.inl 23), none, none, none, none, none]) (M1 := M) (ob := []) rfl rfl trivial ?_
  exact fs_ql (by rw [m0]; decide) hq0

theorem fs_c_floatBits {d : Nat} {M : fs_M} {Q : Option fs_V → fs_M → Prop} {x : UInt32}  (hb : FB x 1) (hq0 : Q (some (.inl (x.toInt32.toInt))) M) : fs_W (d + 1) 149 0 [some (.inr (.float x))] [] M Q := by
  obtain ⟨sb1, sb2⟩ := BO.start32 hb
  refine fs_r_call (sta := true) (idx := 313) (as := [.inr (.double (FP.f2d x)), .inl 127, .inl 23]) (rest := []) (L1 := [some (.inr (.float x))]) (st1 := [.inl 23, .inl 127, .inr (.double (FP.f2d x))]) (M1 := M) (ob := [vf_n64 (FP.f2d x)]) rfl rfl rfl (fs_oc (vf64_of (DB_f2d hb).nn) trivial) rfl rfl (Nat.le_of_ble_eq_true rfl) ⟨Or.inr (Nat.le_of_ble_eq_true rfl), trivial⟩ (by decide) ?_
  refine fs_c_bitsOf32 (m := x.toNat) (sb1) ?_
  refine fs_r_iret (a := (Int64.ofInt ((x.toNat : Nat) : Int)).toInt32.toInt) (L1 := [some (.inr (.float x))]) (M1 := M) (ob := []) rfl rfl trivial (Or.inl rfl) ?_
  exact fs_qi (i32_of sb2) hq0

theorem fs_c_index {d : Nat} {M : fs_M} {Q : Option fs_V → fs_M → Prop} {w : Int} {N : Int → Int} (hV : vw 5 M N) (hN : fs_NI N) (hq0 : ∀ (M2 : fs_M), (cq M M2) → Q (some (.inl (rq_index N w))) M2) : fs_W (d + 6) 108 0 [some (.inr (.ref 0)), some (.inl w)] [] M Q := by
  obtain ⟨v0, v1, vcv, vfc, vhd, vln, vlc, vit⟩ := vw5 hV
  obtain ⟨⟨hA0, hA1⟩, ⟨hH0, hH1⟩, hcv, hfc, hhd, hln, hsh, hit, hst⟩ := id hN
  refine fs_r_call (sta := true) (idx := 243) (as := [.inl w]) (rest := []) (L1 := [some (.inr (.ref 0)), some (.inl w)]) (st1 := [.inl w]) (M1 := M) (ob := []) rfl rfl rfl trivial rfl rfl (Nat.le_of_ble_eq_true rfl) ⟨Or.inr (Nat.le_of_ble_eq_true rfl), trivial⟩ (by decide) ?_
  refine fs_c_isState (fun (f1 : 0 ≤ w ∧ w ≤ 3) => ?_) (fun (f2 : ¬ (0 ≤ w ∧ w ≤ 3)) => ?_)
  · refine fs_r_if (a := 1) (L1 := [some (.inr (.ref 0)), some (.inl w)]) (st1 := []) (M1 := M) (ob := []) rfl rfl trivial (fun _ => ?_) (fun h => absurd (by decide : ¬ (1 : Int) = 0) h)
    refine fs_r_call (sta := false) (idx := 181) (as := [.inr (.ref 0), .inl w]) (rest := []) (L1 := [some (.inr (.ref 0)), some (.inl w)]) (st1 := [.inl w, .inr (.ref 0)]) (M1 := M) (ob := []) rfl rfl rfl trivial rfl rfl (Nat.le_of_ble_eq_true rfl) ⟨Or.inr (Nat.le_of_ble_eq_true rfl), Or.inr fs_ob0⟩ (by decide) ?_
    refine fs_c_find (N := N) (by assumption) (by assumption) (by omega) (fun (xx : Int) (V : fs_M) (q1 : cq M V) (d1 : fdE V (ec_pl N) (ec_std (ec_pl N) w)) (k1 : (w = 1 → xx = (ec_k (ec_pl N) (ec_calm (ec_pl N)) : Nat)) ∧ (w = 2 → xx = (ec_k (ec_pl N) (ec_panic (ec_pl N)) : Nat))) => ?_)
    refine fs_r_call (sta := false) (idx := 296) (as := [.inr (.ref 20), .inr (.ref 32)]) (rest := []) (L1 := [some (.inr (.ref 0)), some (.inl w)]) (st1 := [.inr (.ref 32), .inr (.ref 20)]) (M1 := V) (ob := [0 < fs_N ∧ fs_kd 0 = 5, 0 < fs_N ∧ fs_kd 0 = 5]) rfl rfl rfl (fs_oc fs_ob0 (fs_oc fs_ob0 trivial)) rfl rfl (Nat.le_of_ble_eq_true rfl) ⟨Or.inr (Nat.le_of_ble_eq_true rfl), Or.inr fs_ob20⟩ (by decide) ?_
    refine fs_c_indexOf (d1.b) (d1.S) ?_
    have ib := fl_i_b (fl_bd d1.b.bd (S := sst V 32) (fun a a0 a1 => by rw [sst_at ⟨a0, a1⟩]; exact (d1.S.2 a a0 a1).1))
    have ixe : fl_i (mk V) (sst V 32) = fl_i (ec_pl N) (ec_std (ec_pl N) w) := by rw [fl_i_eq d1.2.1 d1.b.1.1, d1.2.2.1]
    refine fs_r_call (sta := true) (idx := 300) (as := [.inr (.float (fl_i (mk V) (sst V 32)))]) (rest := []) (L1 := [some (.inr (.ref 0)), some (.inl w)]) (st1 := [.inr (.float (fl_i (mk V) (sst V 32)))]) (M1 := V) (ob := []) rfl rfl rfl trivial rfl rfl (Nat.le_of_ble_eq_true rfl) ⟨Or.inr (Nat.le_of_ble_eq_true rfl), trivial⟩ (by decide) ?_
    refine fs_c_floatBits (ib) ?_
    refine fs_r_iret (a := ((fl_i (mk V) (sst V 32)).toInt32.toInt)) (L1 := [some (.inr (.ref 0)), some (.inl w)]) (M1 := V) (ob := []) rfl rfl trivial (Or.inl rfl) ?_
    exact fs_qi (by unfold rq_index; rw [if_pos (by omega), ixe]) (hq0 _ q1)
  refine fs_r_if (a := 0) (L1 := [some (.inr (.ref 0)), some (.inl w)]) (st1 := []) (M1 := M) (ob := []) rfl rfl trivial (fun h => absurd h (by decide : ¬ (¬ (0 : Int) = 0))) (fun _ => ?_)
  refine fs_r_iret (a := (-1)) (L1 := [some (.inr (.ref 0)), some (.inl w)]) (M1 := M) (ob := []) rfl rfl trivial (Or.inl rfl) ?_
  exact fs_qi (by unfold rq_index; rw [if_neg (by omega)]) (hq0 _ cq.rf)

theorem fs_c_drop {d : Nat} {M : fs_M} {Q : Option fs_V → fs_M → Prop} {w : Int} {N : Int → Int} (hV : vw 5 M N) (hN : fs_NI N) (hq0 : ∀ (M2 : fs_M), (cq M M2) → Q (some (.inl (rq_drop N w))) M2) : fs_W (d + 6) 109 0 [some (.inr (.ref 0)), some (.inl w)] [] M Q := by
  obtain ⟨v0, v1, vcv, vfc, vhd, vln, vlc, vit⟩ := vw5 hV
  obtain ⟨⟨hA0, hA1⟩, ⟨hH0, hH1⟩, hcv, hfc, hhd, hln, hsh, hit, hst⟩ := id hN
  refine fs_r_call (sta := true) (idx := 243) (as := [.inl w]) (rest := []) (L1 := [some (.inr (.ref 0)), some (.inl w)]) (st1 := [.inl w]) (M1 := M) (ob := []) rfl rfl rfl trivial rfl rfl (Nat.le_of_ble_eq_true rfl) ⟨Or.inr (Nat.le_of_ble_eq_true rfl), trivial⟩ (by decide) ?_
  refine fs_c_isState (fun (f1 : 0 ≤ w ∧ w ≤ 3) => ?_) (fun (f2 : ¬ (0 ≤ w ∧ w ≤ 3)) => ?_)
  · refine fs_r_if (a := 1) (L1 := [some (.inr (.ref 0)), some (.inl w)]) (st1 := []) (M1 := M) (ob := []) rfl rfl trivial (fun _ => ?_) (fun h => absurd (by decide : ¬ (1 : Int) = 0) h)
    refine fs_r_call (sta := false) (idx := 181) (as := [.inr (.ref 0), .inl w]) (rest := []) (L1 := [some (.inr (.ref 0)), some (.inl w)]) (st1 := [.inl w, .inr (.ref 0)]) (M1 := M) (ob := []) rfl rfl rfl trivial rfl rfl (Nat.le_of_ble_eq_true rfl) ⟨Or.inr (Nat.le_of_ble_eq_true rfl), Or.inr fs_ob0⟩ (by decide) ?_
    refine fs_c_find (N := N) (by assumption) (by assumption) (by omega) (fun (xx : Int) (V : fs_M) (q1 : cq M V) (d1 : fdE V (ec_pl N) (ec_std (ec_pl N) w)) (k1 : (w = 1 → xx = (ec_k (ec_pl N) (ec_calm (ec_pl N)) : Nat)) ∧ (w = 2 → xx = (ec_k (ec_pl N) (ec_panic (ec_pl N)) : Nat))) => ?_)
    refine fs_r_call (sta := false) (idx := 296) (as := [.inr (.ref 20), .inr (.ref 32)]) (rest := [.inr (.float FP.fconst1)]) (L1 := [some (.inr (.ref 0)), some (.inl w)]) (st1 := [.inr (.ref 32), .inr (.ref 20), .inr (.float FP.fconst1)]) (M1 := V) (ob := [0 < fs_N ∧ fs_kd 0 = 5, 0 < fs_N ∧ fs_kd 0 = 5]) rfl rfl rfl (fs_oc fs_ob0 (fs_oc fs_ob0 trivial)) rfl rfl (Nat.le_of_ble_eq_true rfl) ⟨Or.inr (Nat.le_of_ble_eq_true rfl), Or.inr fs_ob20⟩ (by decide) ?_
    refine fs_c_indexOf (d1.b) (d1.S) ?_
    have ib := fl_i_b (fl_bd d1.b.bd (S := sst V 32) (fun a a0 a1 => by rw [sst_at ⟨a0, a1⟩]; exact (d1.S.2 a a0 a1).1))
    have ixe : fl_i (mk V) (sst V 32) = fl_i (ec_pl N) (ec_std (ec_pl N) w) := by rw [fl_i_eq d1.2.1 d1.b.1.1, d1.2.2.1]
    have n1 := n_fsub FB_one.1 ib
    have n2 := n_fmulc n1 val_1000 (by decide)
    refine fs_r_iret (a := (FP.f2i (FP.fmul (FP.fsub FP.fconst1 (fl_i (mk V) (sst V 32))) (UInt32.ofNat (Int.toNat 1148846080)))).toInt) (L1 := [some (.inr (.ref 0)), some (.inl w)]) (M1 := V) (ob := [vf_n32 (FP.fsub FP.fconst1 (fl_i (mk V) (sst V 32))), vf_n32 (FP.fmul (FP.fsub FP.fconst1 (fl_i (mk V) (sst V 32))) (UInt32.ofNat (Int.toNat 1148846080)))]) rfl rfl (fs_oc (by first | exact vf32_of n1 | exact vf32_of n2) (fs_oc (by first | exact vf32_of n1 | exact vf32_of n2) trivial)) (Or.inl rfl) ?_
    exact fs_qi (by unfold rq_drop; rw [if_pos (by omega), ixe]) (hq0 _ q1)
  refine fs_r_if (a := 0) (L1 := [some (.inr (.ref 0)), some (.inl w)]) (st1 := []) (M1 := M) (ob := []) rfl rfl trivial (fun h => absurd h (by decide : ¬ (¬ (0 : Int) = 0))) (fun _ => ?_)
  refine fs_r_iret (a := (-1)) (L1 := [some (.inr (.ref 0)), some (.inl w)]) (M1 := M) (ob := []) rfl rfl trivial (Or.inl rfl) ?_
  exact fs_qi (by unfold rq_drop; rw [if_neg (by omega)]) (hq0 _ cq.rf)

theorem fs_c_ratio {d : Nat} {M : fs_M} {Q : Option fs_V → fs_M → Prop} {w : Int} {a : Int} {N : Int → Int} (hV : vw 5 M N) (hN : fs_NI N) (hq0 : ∀ (M2 : fs_M), (cq M M2) → Q (some (.inl (rq_ratio N w a))) M2) : fs_W (d + 6) 110 0 [some (.inr (.ref 0)), some (.inl w), some (.inl a)] [] M Q := by
  obtain ⟨v0, v1, vcv, vfc, vhd, vln, vlc, vit⟩ := vw5 hV
  obtain ⟨⟨hA0, hA1⟩, ⟨hH0, hH1⟩, hcv, hfc, hhd, hln, hsh, hit, hst⟩ := id hN
  refine fs_r_call (sta := true) (idx := 243) (as := [.inl w]) (rest := []) (L1 := [some (.inr (.ref 0)), some (.inl w), some (.inl a)]) (st1 := [.inl w]) (M1 := M) (ob := []) rfl rfl rfl trivial rfl rfl (Nat.le_of_ble_eq_true rfl) ⟨Or.inr (Nat.le_of_ble_eq_true rfl), trivial⟩ (by decide) ?_
  refine fs_c_isState (fun (f1 : 0 ≤ w ∧ w ≤ 3) => ?_) (fun (f2 : ¬ (0 ≤ w ∧ w ≤ 3)) => ?_)
  · refine fs_r_if (a := 1) (L1 := [some (.inr (.ref 0)), some (.inl w), some (.inl a)]) (st1 := []) (M1 := M) (ob := []) rfl rfl trivial (fun h => absurd h (by decide : ¬ ((1 : Int) = 0))) (fun _ => ?_)
    refine fs_r_call (sta := false) (idx := 128) (as := [.inr (.ref 5), .inl a]) (rest := []) (L1 := [some (.inr (.ref 0)), some (.inl w), some (.inl a)]) (st1 := [.inl a, .inr (.ref 5)]) (M1 := M) (ob := [0 < fs_N ∧ fs_kd 0 = 5]) rfl rfl rfl (fs_oc fs_ob0 trivial) rfl rfl (Nat.le_of_ble_eq_true rfl) ⟨Or.inr (Nat.le_of_ble_eq_true rfl), Or.inr fs_ob5⟩ (by decide) ?_
    refine fs_c_isAsset (fun (f3 : 0 ≤ a ∧ a < M 5 0) => ?_) (fun (f4 : ¬ (0 ≤ a ∧ a < M 5 0)) => ?_)
    · refine fs_r_if (a := 1) (L1 := [some (.inr (.ref 0)), some (.inl w), some (.inl a)]) (st1 := []) (M1 := M) (ob := []) rfl rfl trivial (fun _ => ?_) (fun h => absurd (by decide : ¬ (1 : Int) = 0) h)
      refine fs_r_call (sta := false) (idx := 181) (as := [.inr (.ref 0), .inl w]) (rest := []) (L1 := [some (.inr (.ref 0)), some (.inl w), some (.inl a)]) (st1 := [.inl w, .inr (.ref 0)]) (M1 := M) (ob := []) rfl rfl rfl trivial rfl rfl (Nat.le_of_ble_eq_true rfl) ⟨Or.inr (Nat.le_of_ble_eq_true rfl), Or.inr fs_ob0⟩ (by decide) ?_
      refine fs_c_find (N := N) (by assumption) (by assumption) (by omega) (fun (xx : Int) (V : fs_M) (q1 : cq M V) (d1 : fdE V (ec_pl N) (ec_std (ec_pl N) w)) (k1 : (w = 1 → xx = (ec_k (ec_pl N) (ec_calm (ec_pl N)) : Nat)) ∧ (w = 2 → xx = (ec_k (ec_pl N) (ec_panic (ec_pl N)) : Nat))) => ?_)
      have e0 := d1.n0
      have e00 : ec_pl N 0 0 = N 0 := rfl
      have e1 := d1.n1
      have e11 : ec_pl N 0 1 = N 1 := rfl
      obtain ⟨-, sd⟩ := sb32 d1.S
      have sa := sd a (by omega) (by omega)
      refine fs_r_call (sta := false) (idx := 305) (as := [.inr (.ref 20), .inl a, .inl (V 33 a)]) (rest := []) (L1 := [some (.inr (.ref 0)), some (.inl w), some (.inl a)]) (st1 := [.inl (V 33 a), .inl a, .inr (.ref 20)]) (M1 := V) (ob := [0 < fs_N ∧ fs_kd 0 = 5, 0 < fs_N ∧ fs_kd 0 = 5, 32 < fs_N ∧ fs_kd 32 = 3, (33 < fs_N ∧ fs_kd 33 = 100) ∧ (0 : Int) ≤ a ∧ a < fs_ln 33]) rfl rfl (fs_exA 6 (o1 := [0 < fs_N ∧ fs_kd 0 = 5, 0 < fs_N ∧ fs_kd 0 = 5]) (L1 := [some (.inr (.ref 0)), some (.inl w), some (.inl a)]) (st1 := [.inr (.ref 32), .inl a, .inr (.ref 20)]) (M1 := V) (o2 := [32 < fs_N ∧ fs_kd 32 = 3, (33 < fs_N ∧ fs_kd 33 = 100) ∧ (0 : Int) ≤ a ∧ a < fs_ln 33]) rfl rfl) (fs_oc fs_ob0 (fs_oc fs_ob0 (fs_oc fs_ob32 (fs_oc (fs_ar33 (by omega) (by omega)) trivial)))) rfl rfl (Nat.le_of_ble_eq_true rfl) ⟨Or.inr (Nat.le_of_ble_eq_true rfl), Or.inr fs_ob20⟩ (by decide) ?_
      refine fs_c_ratioOf (d1.b) (by omega) (by omega) ?_
      have okx := (fl_bd d1.b.bd (S := sst V 32) (fun a a0 a1 => by rw [sst_at ⟨a0, a1⟩]; exact (d1.S.2 a a0 a1).1)).2 a (by omega) (by show a < V 20 0; omega)
      rw [sst_at ⟨by omega, by omega⟩] at okx
      have rb := rqR_b okx.1 (by omega)
      refine fs_r_call (sta := true) (idx := 300) (as := [.inr (.float (rqR (ec_price (mk V) a 0) (ec_price (mk V) a (V 33 a))))]) (rest := []) (L1 := [some (.inr (.ref 0)), some (.inl w), some (.inl a)]) (st1 := [.inr (.float (rqR (ec_price (mk V) a 0) (ec_price (mk V) a (V 33 a))))]) (M1 := V) (ob := []) rfl rfl rfl trivial rfl rfl (Nat.le_of_ble_eq_true rfl) ⟨Or.inr (Nat.le_of_ble_eq_true rfl), trivial⟩ (by decide) ?_
      refine fs_c_floatBits (rb) ?_
      refine fs_r_iret (a := ((rqR (ec_price (mk V) a 0) (ec_price (mk V) a (V 33 a))).toInt32.toInt)) (L1 := [some (.inr (.ref 0)), some (.inl w), some (.inl a)]) (M1 := V) (ob := []) rfl rfl trivial (Or.inl rfl) ?_
      exact fs_qi (by unfold rq_ratio; rw [if_pos (by omega), ← d1.2.2.1, sst_at ⟨by omega, by omega⟩, ← d1.2.1.price (by omega) (by show a < V 20 0; omega), ← d1.2.1.price (by omega) (by show a < V 20 0; omega)]) (hq0 _ q1)
    refine fs_r_if (a := 0) (L1 := [some (.inr (.ref 0)), some (.inl w), some (.inl a)]) (st1 := []) (M1 := M) (ob := []) rfl rfl trivial (fun h => absurd h (by decide : ¬ (¬ (0 : Int) = 0))) (fun _ => ?_)
    refine fs_r_iret (a := (-1)) (L1 := [some (.inr (.ref 0)), some (.inl w), some (.inl a)]) (M1 := M) (ob := []) rfl rfl trivial (Or.inl rfl) ?_
    exact fs_qi (by unfold rq_ratio; rw [if_neg (by omega)]) (hq0 _ cq.rf)
  refine fs_r_if (a := 0) (L1 := [some (.inr (.ref 0)), some (.inl w), some (.inl a)]) (st1 := []) (M1 := M) (ob := []) rfl rfl trivial (fun _ => ?_) (fun h => absurd (by decide : (0 : Int) = 0) h)
  refine fs_r_iret (a := (-1)) (L1 := [some (.inr (.ref 0)), some (.inl w), some (.inl a)]) (M1 := M) (ob := []) rfl rfl trivial (Or.inl rfl) ?_
  exact fs_qi (by unfold rq_ratio; rw [if_neg (by omega)]) (hq0 _ cq.rf)

theorem fs_c_findMood {d : Nat} {M : fs_M} {Q : Option fs_V → fs_M → Prop}  {N : Int → Int} (hV : vw 5 M N) (hN : fs_NI N) (hq0 : ∀ (M2 : fs_M), (cq M M2) → Q (some (.inr (.double (rq_md N)))) M2) : fs_W (d + 5) 148 0 [some (.inr (.ref 0)), none, none, none] [] M Q := by
  obtain ⟨v0, v1, vcv, vfc, vhd, vln, vlc, vit⟩ := vw5 hV
  obtain ⟨⟨hA0, hA1⟩, ⟨hH0, hH1⟩, hcv, hfc, hhd, hln, hsh, hit, hst⟩ := id hN
  have hk := ec_okc (pl_bd hN)
  have kb := (ec_k_spec hk).1
  have fbk : ∀ k, FB (fl_i (ec_pl N) (ec_it (ec_pl N) (ec_calm (ec_pl N)) k)) 1 := fun k => fl_i_b (fl_bd (pl_bd hN) (fun a a0 a1 => ((ec_it_b (pl_bd hN) k).1 a a0 a1).1))
  refine fs_r_call (sta := false) (idx := 276) (as := [.inr (.ref 0), .inl 0]) (rest := []) (L1 := [some (.inr (.ref 0)), some (.inr (.double FP.dconst1)), none, none]) (st1 := [.inl 0, .inr (.ref 0)]) (M1 := M) (ob := [1 + 1 < 4]) rfl rfl rfl (fs_oc (by decide) trivial) rfl rfl (Nat.le_of_ble_eq_true rfl) ⟨Or.inr (Nat.le_of_ble_eq_true rfl), Or.inr fs_ob0⟩ (by decide) ?_
  refine fs_c_findRound (N := N) (by assumption) (by assumption) (by omega) (fun (V : fs_M) (q1 : cq M V) (d1 : fdE V (ec_pl N) (ec_it (ec_pl N) (ec_calm (ec_pl N)) (Int.toNat 0))) (f1 : ∀ r, (r < 20 ∨ 35 < r) → V r = M r) => ?_)
  have R0 : cR M V N 0 := ⟨q1, d1⟩
  refine fs_r_nop (L1 := [some (.inr (.ref 0)), some (.inr (.double FP.dconst1)), none, some (.inl 1)]) (st1 := []) (M1 := V) (ob := [3 < 4]) rfl rfl (fs_oc (by decide) trivial) ?_
  have loop9 : ∀ (n9 : Nat) (v : UInt64) (k : Int) (M3 : fs_M) (j : Nat), (j ≤ ec_k (ec_pl N) (ec_calm (ec_pl N))) → (cR M M3 N j) → (k = (j : Int) + 1) → (v = fl_m (ec_pl N) j) → ((ec_k (ec_pl N) (ec_calm (ec_pl N)) : Nat) : Int) - (j : Int) < (n9 : Int) → fs_W (d + 5) 148 9 [some (.inr (.ref 0)), some (.inr (.double v)), none, some (.inl k)] [] M3 Q := by
    intro n9
    induction n9 with
    | zero =>
      intro v k M3 j i0 R0 k0 v0 hm9
      exfalso
      omega
    | succ n9 ih9 =>
      intro v k M3 j i0 R0 k0 v0 hm9
      have join66 : ∀  (M9 : fs_M), (cq M M9 ∧ v = rq_md N) → fs_W (d + 5) 148 66 [some (.inr (.ref 0)), some (.inr (.double v)), none, some (.inl k)] [] M9 Q := by
        intro M9 F9
        refine fs_r_dret (a := v) (L1 := [some (.inr (.ref 0)), some (.inr (.double v)), none, some (.inl k)]) (M1 := M9) (ob := []) rfl rfl trivial ?_
        exact fs_qd F9.2 (hq0 _ F9.1)
      refine fs_r_icmp (a := k) (y := 2000) (L1 := [some (.inr (.ref 0)), some (.inr (.double v)), none, some (.inl k)]) (st1 := []) (M1 := M3) (ob := []) rfl rfl trivial (fun (h2 : 2000 < k) => ?_) (fun (h2 : ¬ (2000 < k)) => ?_)
      · exact join66 M3 (by first
              | exact ⟨R0.1, by rw [v0, show j = ec_k (ec_pl N) (ec_calm (ec_pl N)) by omega]; rfl⟩
              | exact ⟨R1.1, by rw [v0, je]; rfl⟩)
      refine fs_r_call (sta := false) (idx := 283) (as := [.inr (.ref 20), .inr (.ref 32), .inr (.ref 34)]) (rest := []) (L1 := [some (.inr (.ref 0)), some (.inr (.double v)), none, some (.inl k)]) (st1 := [.inr (.ref 34), .inr (.ref 32), .inr (.ref 20)]) (M1 := M3) (ob := [0 < fs_N ∧ fs_kd 0 = 5, 0 < fs_N ∧ fs_kd 0 = 5, 0 < fs_N ∧ fs_kd 0 = 5]) rfl rfl rfl (fs_oc fs_ob0 (fs_oc fs_ob0 (fs_oc fs_ob0 trivial))) rfl rfl (Nat.le_of_ble_eq_true rfl) ⟨Or.inr (Nat.le_of_ble_eq_true rfl), Or.inr fs_ob20⟩ (by decide) ?_
      refine fs_c_advance (R0.2.b) (R0.2.S) (fun (V2 : fs_M) (g1 : mk_f M3 V2) (g2 : sst V2 32 = ec_next (mk M3) (sst M3 32)) (g3 : sb V2 32) (g4 : ¬ sst V2 32 = sst M3 32) => ?_) (fun (V2 : fs_M) (g1 : mk_f M3 V2) (g2 : sst V2 32 = ec_next (mk M3) (sst M3 32)) (g3 : sb V2 32) (g4 : sst V2 32 = sst M3 32) => ?_)
      · refine fs_r_if (a := 1) (L1 := [some (.inr (.ref 0)), some (.inr (.double v)), none, some (.inl k)]) (st1 := []) (M1 := V2) (ob := []) rfl rfl trivial (fun _ => ?_) (fun h => absurd (by decide : ¬ (1 : Int) = 0) h)
        have R1 := R0.go g1 g2 g3
        have jl := R0.lt hk R1 i0 g4
        have ixe : fl_i (mk V2) (sst V2 32) = fl_i (ec_pl N) (ec_it (ec_pl N) (ec_calm (ec_pl N)) (j + 1)) := by rw [fl_i_eq R1.2.2.1 R1.2.b.1.1, R1.2.2.2.1]
        have ib := fl_i_b (fl_bd R1.2.b.bd (S := sst V2 32) (fun a a0 a1 => by rw [sst_at ⟨a0, a1⟩]; exact (g3.2 a a0 a1).1))
        have mb := fl_m_b fbk j
        rw [← v0] at mb
        refine fs_r_call (sta := false) (idx := 296) (as := [.inr (.ref 20), .inr (.ref 32)]) (rest := [.inr (.double (FP.ddiv v (UInt64.ofNat (Int.toNat 4611686018427387904))))]) (L1 := [some (.inr (.ref 0)), some (.inr (.double v)), none, some (.inl k)]) (st1 := [.inr (.ref 32), .inr (.ref 20), .inr (.double (FP.ddiv v (UInt64.ofNat (Int.toNat 4611686018427387904))))]) (M1 := V2) (ob := [vf_n64 (FP.ddiv v (UInt64.ofNat (Int.toNat 4611686018427387904))), 0 < fs_N ∧ fs_kd 0 = 5, 0 < fs_N ∧ fs_kd 0 = 5]) rfl rfl rfl (fs_oc (vf64_of (DB_half mb).nn) (fs_oc fs_ob0 (fs_oc fs_ob0 trivial))) rfl rfl (Nat.le_of_ble_eq_true rfl) ⟨Or.inr (Nat.le_of_ble_eq_true rfl), Or.inr fs_ob20⟩ (by decide) ?_
        refine fs_c_indexOf (R1.2.b) (g3) ?_
        have nh := DB_half mb
        have nf := DB_f2d ib
        have ng := DB_half nf
        have na := DB_add nh ng
        refine fs_r_goto (L1 := [some (.inr (.ref 0)), some (.inr (.double (FP.dadd (FP.ddiv v (UInt64.ofNat (Int.toNat 4611686018427387904))) (FP.ddiv (FP.f2d (fl_i (mk V2) (sst V2 32))) (UInt64.ofNat (Int.toNat 4611686018427387904)))))), none, some (.inl (k + 1))]) (st1 := []) (M1 := V2) (ob := [vf_n64 (FP.f2d (fl_i (mk V2) (sst V2 32))), vf_n64 (FP.ddiv (FP.f2d (fl_i (mk V2) (sst V2 32))) (UInt64.ofNat (Int.toNat 4611686018427387904))), vf_n64 (FP.dadd (FP.ddiv v (UInt64.ofNat (Int.toNat 4611686018427387904))) (FP.ddiv (FP.f2d (fl_i (mk V2) (sst V2 32))) (UInt64.ofNat (Int.toNat 4611686018427387904)))), 1 + 1 < 4, fs_rg (k + 1)]) rfl rfl (fs_oc (by first | omega | exact vf64_of nf.nn | exact vf64_of ng.nn | exact vf64_of na.nn) (fs_oc (by first | omega | exact vf64_of nf.nn | exact vf64_of ng.nn | exact vf64_of na.nn) (fs_oc (by first | omega | exact vf64_of nf.nn | exact vf64_of ng.nn | exact vf64_of na.nn) (fs_oc (by decide) (fs_oc ⟨by first | omega | exact vf64_of nf.nn | exact vf64_of ng.nn | exact vf64_of na.nn, by first | omega | exact vf64_of nf.nn | exact vf64_of ng.nn | exact vf64_of na.nn⟩ trivial))))) ?_
        exact ih9 ((FP.dadd (FP.ddiv v (UInt64.ofNat (Int.toNat 4611686018427387904))) (FP.ddiv (FP.f2d (fl_i (mk V2) (sst V2 32))) (UInt64.ofNat (Int.toNat 4611686018427387904))))) ((k + 1)) V2 ((j + 1)) (by omega) (R1) (by omega) (by rw [ixe, v0]; rfl) (by omega)
      refine fs_r_if (a := 0) (L1 := [some (.inr (.ref 0)), some (.inr (.double v)), none, some (.inl k)]) (st1 := []) (M1 := V2) (ob := []) rfl rfl trivial (fun h => absurd h (by decide : ¬ (¬ (0 : Int) = 0))) (fun _ => ?_)
      have R1 := R0.go g1 g2 g3
      have je := R0.eq hk R1 i0 g4
      refine fs_r_goto (L1 := [some (.inr (.ref 0)), some (.inr (.double v)), none, some (.inl k)]) (st1 := []) (M1 := V2) (ob := []) rfl rfl trivial ?_
      exact join66 V2 (by first
            | exact ⟨R0.1, by rw [v0, show j = ec_k (ec_pl N) (ec_calm (ec_pl N)) by omega]; rfl⟩
            | exact ⟨R1.1, by rw [v0, je]; rfl⟩)
  exact loop9 (((((ec_k (ec_pl N) (ec_calm (ec_pl N)) : Nat) : Int) - ((0) : Int)) : Int) + 1).toNat (FP.dconst1) (1) V (0) (Nat.zero_le _) (R0) (rfl) (rfl) (by omega)

theorem fs_c_mood {d : Nat} {M : fs_M} {Q : Option fs_V → fs_M → Prop}  {N : Int → Int} (hV : vw 5 M N) (hN : fs_NI N) (hq0 : ∀ (M2 : fs_M), (cq M M2) → Q (some (.inr (.long (rq_mood N)))) M2) : fs_W (d + 6) 111 0 [some (.inr (.ref 0))] [] M Q := by
  obtain ⟨v0, v1, vcv, vfc, vhd, vln, vlc, vit⟩ := vw5 hV
  obtain ⟨⟨hA0, hA1⟩, ⟨hH0, hH1⟩, hcv, hfc, hhd, hln, hsh, hit, hst⟩ := id hN
  have fbk : ∀ k, FB (fl_i (ec_pl N) (ec_it (ec_pl N) (ec_calm (ec_pl N)) k)) 1 := fun k => fl_i_b (fl_bd (pl_bd hN) (fun a a0 a1 => ((ec_it_b (pl_bd hN) k).1 a a0 a1).1))
  have mdb : DB (rq_md N) FP.Core.one64 := fl_m_b fbk _
  refine fs_r_call (sta := false) (idx := 309) (as := [.inr (.ref 0)]) (rest := []) (L1 := [some (.inr (.ref 0))]) (st1 := [.inr (.ref 0)]) (M1 := M) (ob := []) rfl rfl rfl trivial rfl rfl (Nat.le_of_ble_eq_true rfl) ⟨Or.inr (Nat.le_of_ble_eq_true rfl), Or.inr fs_ob0⟩ (by decide) ?_
  refine fs_c_findMood (N := N) (by assumption) (by assumption) (fun (V : fs_M) (q1 : cq M V) => ?_)
  obtain ⟨sb1, sb2⟩ := BO.start64 mdb
  refine fs_r_call (sta := true) (idx := 313) (as := [.inr (.double (rq_md N)), .inl 1023, .inl 52]) (rest := []) (L1 := [some (.inr (.ref 0))]) (st1 := [.inl 52, .inl 1023, .inr (.double (rq_md N))]) (M1 := V) (ob := []) rfl rfl rfl trivial rfl rfl (Nat.le_of_ble_eq_true rfl) ⟨Or.inr (Nat.le_of_ble_eq_true rfl), trivial⟩ (by decide) ?_
  refine fs_c_bitsOf64 (m := (rq_md N).toNat) (sb1) ?_
  refine fs_r_lret (a := (Int64.ofInt (((rq_md N).toNat : Nat) : Int))) (L1 := [some (.inr (.ref 0))]) (M1 := V) (ob := []) rfl rfl trivial ?_
  exact fs_ql i64_of (hq0 _ q1)

theorem fs_c_hundredths {d : Nat} {M : fs_M} {Q : Option fs_V → fs_M → Prop}  {N : Int → Int} (hV : vw 5 M N) (hN : fs_NI N) (hq0 : ∀ (M2 : fs_M), (cq M M2) → Q (some (.inl (rq_hundredths N))) M2) : fs_W (d + 6) 112 0 [some (.inr (.ref 0))] [] M Q := by
  obtain ⟨v0, v1, vcv, vfc, vhd, vln, vlc, vit⟩ := vw5 hV
  obtain ⟨⟨hA0, hA1⟩, ⟨hH0, hH1⟩, hcv, hfc, hhd, hln, hsh, hit, hst⟩ := id hN
  have fbk : ∀ k, FB (fl_i (ec_pl N) (ec_it (ec_pl N) (ec_calm (ec_pl N)) k)) 1 := fun k => fl_i_b (fl_bd (pl_bd hN) (fun a a0 a1 => ((ec_it_b (pl_bd hN) k).1 a a0 a1).1))
  have mdb : DB (rq_md N) FP.Core.one64 := fl_m_b fbk _
  refine fs_r_call (sta := false) (idx := 309) (as := [.inr (.ref 0)]) (rest := []) (L1 := [some (.inr (.ref 0))]) (st1 := [.inr (.ref 0)]) (M1 := M) (ob := []) rfl rfl rfl trivial rfl rfl (Nat.le_of_ble_eq_true rfl) ⟨Or.inr (Nat.le_of_ble_eq_true rfl), Or.inr fs_ob0⟩ (by decide) ?_
  refine fs_c_findMood (N := N) (by assumption) (by assumption) (fun (V : fs_M) (q1 : cq M V) => ?_)
  refine fs_r_iret (a := (FP.d2i (FP.dmul (rq_md N) (UInt64.ofNat (Int.toNat 4636737291354636288)))).toInt) (L1 := [some (.inr (.ref 0))]) (M1 := V) (ob := [vf_n64 (FP.dmul (rq_md N) (UInt64.ofNat (Int.toNat 4636737291354636288)))]) rfl rfl (fs_oc (vf64_of (n_dmulc mdb val_100)) trivial) (Or.inl rfl) ?_
  exact hq0 _ q1
