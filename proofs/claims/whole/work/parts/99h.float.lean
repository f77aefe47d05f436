/-! a float's bits by hand -/
theorem pw_move {c d a b x y : Nat} (h : c * 2 ^ a = d * 2 ^ b) (e : a + y = b + x) : c * 2 ^ x = d * 2 ^ y := by
  refine Nat.eq_of_mul_eq_mul_right (Nat.two_pow_pos b) ?_
  rw [Nat.mul_assoc, ← Nat.pow_add, show x + b = a + y by omega, Nat.pow_add, ← Nat.mul_assoc, h]
  ac_rfl
def bo_C (W m : Nat) : Nat := if m < 2 ^ W then m else 2 ^ W + m % 2 ^ W
def bo_E (W m : Nat) : Nat := if m < 2 ^ W then 1 else m / 2 ^ W
theorem bo_1 {W m : Nat} : 1 ≤ bo_E W m ∧ bo_C W m < 2 * 2 ^ W ∧ (1 < bo_E W m → 2 ^ W ≤ bo_C W m) ∧ bo_E W m * 2 ^ W + bo_C W m = m + 2 ^ W := by
  have p := Nat.two_pow_pos W
  unfold bo_C bo_E
  by_cases z : m < 2 ^ W
  · rw [if_pos z, if_pos z]
    omega
  · rw [if_neg z, if_neg z]
    have r := Nat.mod_lt m p
    have d := Nat.div_add_mod m (2 ^ W)
    have q : 1 ≤ m / 2 ^ W := (Nat.one_le_div_iff p).mpr (by omega)
    rw [Nat.mul_comm] at d
    omega
theorem bo_2 {W m B : Nat} (h : m ≤ B * 2 ^ W) (hB : 1 ≤ B) : bo_E W m ≤ B := by
  unfold bo_E
  split
  · exact hB
  · exact Nat.div_le_of_le_mul (by rw [Nat.mul_comm]; exact h)
theorem bo_u32 {m : Nat} : FP.Core.unitsOf FP.Core.b32 m = bo_C 23 m * 2 ^ (bo_E 23 m - 1) := by
  have t : FP.Core.b32.tails = 2 ^ 23 := FP.Core.tails_b32
  unfold FP.Core.unitsOf bo_C bo_E
  rw [t]
  by_cases z : m < 2 ^ 23
  · rw [if_pos z, if_pos z, if_pos z, Nat.sub_self, Nat.pow_zero, Nat.mul_one]
  · rw [if_neg z, if_neg z, if_neg z]
theorem bo_u64 {m : Nat} : FP.Core.unitsOf FP.Core.b64 m = bo_C 52 m * 2 ^ (bo_E 52 m - 1) := by
  have t : FP.Core.b64.tails = 2 ^ 52 := FP.Core.tails_b64
  unfold FP.Core.unitsOf bo_C bo_E
  rw [t]
  by_cases z : m < 2 ^ 52
  · rw [if_pos z, if_pos z, if_pos z, Nat.sub_self, Nat.pow_zero, Nat.mul_one]
  · rw [if_neg z, if_neg z, if_neg z]
/-- scaled so far -/
def BO (W m : Nat) (z : UInt64) (e : Nat) : Prop := (∃ c q, FP.Core.val64 z = .fin false c q) ∧ bo_E W m ≤ e ∧ FP.Core.zmag FP.Core.b64 (FP.Core.val64 z) * 2 ^ (e - bo_E W m) = bo_C W m * 2 ^ (1074 - W)
theorem BO.start64 {x : UInt64} (h : DB x FP.Core.one64) : BO 52 x.toNat x 1023 ∧ x.toNat < 2 ^ 63 := by
  have nn := h.nn
  obtain ⟨⟨c, q, e⟩, hb⟩ := h
  have sg := FP.Core.sgn_bits nn
  rw [e] at sg
  have lt : x.toNat < 2 ^ 63 := by
    have sg2 : decide (2 ^ 63 ≤ x.toNat) = false := sg.symm
    have w := of_decide_eq_false sg2
    omega
  have z := FP.Core.zmag_bits nn
  rw [Nat.mod_eq_of_lt lt] at z
  have m1 : FP.Core.one64 = FP.Core.unitsOf FP.Core.b64 (1023 * 2 ^ 52) := by
    rw [bo_u64]
    decide +kernel
  rw [z, m1, FP.Core.unitsOf_le_iff] at hb
  refine ⟨⟨⟨c, q, e⟩, bo_2 hb (by decide), ?_⟩, lt⟩
  rw [z, bo_u64, Nat.mul_assoc, ← Nat.pow_add]
  have b1 := bo_1 (W := 52) (m := x.toNat)
  have b2 := bo_2 hb (by decide)
  rw [show bo_E 52 x.toNat - 1 + (1023 - bo_E 52 x.toNat) = 1074 - 52 by omega]
theorem BO.start32 {y : UInt32} (h : FB y 1) : BO 23 y.toNat (FP.f2d y) 127 ∧ y.toNat < 2 ^ 31 := by
  have nn := h.nn
  have hz := h.z
  have hb := h.2
  obtain ⟨⟨c, q, e⟩, -⟩ := h
  have sg := FP.Core.sgn_bits32 nn
  rw [e] at sg
  have lt : y.toNat < 2 ^ 31 := by
    have sg2 : decide (2 ^ 31 ≤ y.toNat) = false := sg.symm
    have w := of_decide_eq_false sg2
    omega
  have z := FP.Core.zmag_bits32 nn
  rw [Nat.mod_eq_of_lt lt] at z
  have m1 : FP.Core.one32 = FP.Core.unitsOf FP.Core.b32 (127 * 2 ^ 23) := by
    rw [bo_u32]
    decide +kernel
  have hb2 : FP.Core.zmag FP.Core.b32 (FP.Core.val32 y) ≤ FP.Core.one32 := by omega
  rw [z, m1, FP.Core.unitsOf_le_iff] at hb2
  obtain ⟨f1, f2⟩ := f2d_mag e
  refine ⟨⟨f1, bo_2 hb2 (by decide), ?_⟩, lt⟩
  rw [f2, z, bo_u32, Nat.mul_assoc, Nat.mul_assoc, ← Nat.pow_add, ← Nat.pow_add]
  have b1 := bo_1 (W := 23) (m := y.toNat)
  have b2 := bo_2 hb2 (by decide)
  rw [show bo_E 23 y.toNat - 1 + (925 + (127 - bo_E 23 y.toNat)) = 1074 - 23 by omega]
theorem BO.pos {W m : Nat} {z : UInt64} {e : Nat} (h : BO W m z e) : (Op.cmpValue (FP.dcmp z FP.dconst0) .g).toInt ≤ 0 → m = 0 := by
  obtain ⟨⟨c, q, ez⟩, -, hm⟩ := h
  intro k
  have nz : FP.Core.val64 z ≠ .nan := by rw [ez]; exact FP.Core.Datum.noConfusion
  have n0 : FP.Core.val64 FP.Core.dconst0 ≠ .nan := by rw [FP.Core.val64_dconst0]; exact FP.Core.Datum.noConfusion
  have d : FP.dcmp z FP.dconst0 = some (compare (FP.Core.zval FP.Core.b64 (FP.Core.val64 z)) (FP.Core.zval FP.Core.b64 (FP.Core.val64 FP.Core.dconst0))) := FP.Core.dcmp_zval nz n0
  have z0 : FP.Core.zval FP.Core.b64 (FP.Core.val64 FP.Core.dconst0) = 0 := by decide +kernel
  have zz : FP.Core.zval FP.Core.b64 (FP.Core.val64 z) = (FP.Core.zmag FP.Core.b64 (FP.Core.val64 z) : Int) := by rw [ez]; rfl
  rw [d, z0, zz, FP.Core.compare_ite] at k
  by_cases y : FP.Core.zmag FP.Core.b64 (FP.Core.val64 z) = 0
  · rw [y, Nat.zero_mul] at hm
    have b1 := bo_1 (W := W) (m := m)
    have c0 : bo_C W m = 0 := by
      rcases Nat.mul_eq_zero.mp hm.symm with w | w
      · exact w
      · exact absurd w (Nat.ne_of_gt (Nat.two_pow_pos _))
    have p := Nat.two_pow_pos W
    have e1 : bo_E W m = 1 := by
      rcases (show bo_E W m = 1 ∨ 1 < bo_E W m by omega) with w | w
      · exact w
      · have := b1.2.2.1 w
        omega
    rw [e1, c0] at b1
    omega
  · rw [if_neg (by omega), if_neg (by omega)] at k
    exact absurd k (by decide)
theorem BO.one {W m : Nat} {z : UInt64} {e : Nat} (h : BO W m z e) : 0 ≤ (Op.cmpValue (FP.dcmp z FP.dconst1) .g).toInt ↔ FP.Core.one64 ≤ FP.Core.zmag FP.Core.b64 (FP.Core.val64 z) := by
  obtain ⟨⟨c, q, ez⟩, -, hm⟩ := h
  have nz : FP.Core.val64 z ≠ .nan := by rw [ez]; exact FP.Core.Datum.noConfusion
  have n0 : FP.Core.val64 FP.Core.dconst1 ≠ .nan := by rw [FP.Core.val64_dconst1]; exact FP.Core.Datum.noConfusion
  have d : FP.dcmp z FP.dconst1 = some (compare (FP.Core.zval FP.Core.b64 (FP.Core.val64 z)) (FP.Core.zval FP.Core.b64 (FP.Core.val64 FP.Core.dconst1))) := FP.Core.dcmp_zval nz n0
  have z0 : FP.Core.zval FP.Core.b64 (FP.Core.val64 FP.Core.dconst1) = (FP.Core.one64 : Int) := by decide +kernel
  have zz : FP.Core.zval FP.Core.b64 (FP.Core.val64 z) = (FP.Core.zmag FP.Core.b64 (FP.Core.val64 z) : Int) := by rw [ez]; rfl
  rw [d, z0, zz, FP.Core.compare_ite]
  generalize FP.Core.zmag FP.Core.b64 (FP.Core.val64 z) = u at *
  by_cases y : u < FP.Core.one64
  · rw [if_pos (by omega)]
    exact ⟨fun x => absurd x (by decide), fun x => by omega⟩
  · rw [if_neg (by omega)]
    by_cases w : u = FP.Core.one64
    · rw [if_pos (by omega)]
      exact ⟨fun _ => by omega, fun _ => by decide⟩
    · rw [if_neg (by omega)]
      exact ⟨fun _ => by omega, fun _ => by decide⟩
theorem BO.end1 {W m : Nat} {z : UInt64} {e : Nat} (h : BO W m z e) (hW : W ≤ 1074) (k : FP.Core.one64 ≤ FP.Core.zmag FP.Core.b64 (FP.Core.val64 z)) : e = bo_E W m := by
  obtain ⟨-, h1, h2⟩ := h
  rcases (show e = bo_E W m ∨ bo_E W m < e by omega) with w | w
  · exact w
  · exfalso
    have b1 := (bo_1 (W := W) (m := m)).2.1
    have a1 : FP.Core.one64 * 2 ^ 1 ≤ FP.Core.zmag FP.Core.b64 (FP.Core.val64 z) * 2 ^ (e - bo_E W m) := Nat.mul_le_mul k (Nat.pow_le_pow_right (by decide) (by omega))
    rw [h2] at a1
    have a2 : bo_C W m * 2 ^ (1074 - W) < 2 * 2 ^ W * 2 ^ (1074 - W) := Nat.mul_lt_mul_of_pos_right b1 (Nat.two_pow_pos _)
    rw [Nat.mul_assoc, ← Nat.pow_add, show W + (1074 - W) = 1074 by omega] at a2
    unfold FP.Core.one64 at a1
    omega
theorem BO.end2 {W m : Nat} {z : UInt64} {e : Nat} (h : BO W m z e) (hW : W ≤ 1074) (k : ¬ FP.Core.one64 ≤ FP.Core.zmag FP.Core.b64 (FP.Core.val64 z)) (k2 : 1 < e) : bo_E W m < e := by
  obtain ⟨-, h1, h2⟩ := h
  rcases (show e = bo_E W m ∨ bo_E W m < e by omega) with w | w
  · exfalso
    have b1 := (bo_1 (W := W) (m := m)).2.2.1 (by omega)
    rw [w, Nat.sub_self, Nat.pow_zero, Nat.mul_one] at h2
    apply k
    rw [h2]
    have a2 : 2 ^ W * 2 ^ (1074 - W) ≤ bo_C W m * 2 ^ (1074 - W) := Nat.mul_le_mul_right _ b1
    rw [← Nat.pow_add, show W + (1074 - W) = 1074 by omega] at a2
    exact a2
  · exact w
theorem BO.fin {W m : Nat} {z : UInt64} {e : Nat} (h : BO W m z e) : ∃ c q, FP.Core.val64 z = .fin false c q := h.1
theorem n_dmul2 {z : UInt64} (h : ∃ c q, FP.Core.val64 z = .fin false c q) : FP.Core.val64 (FP.dmul z d_two) ≠ .nan := by
  obtain ⟨c, q, e⟩ := h
  show FP.Core.val64 (FP.Core.dmul z d_two) ≠ .nan
  rw [FP.Core.val64_dmul, e, val_two]
  exact FP.Core.roundRatio_ne_nan _ _ _ _ _
theorem BO.go {W m : Nat} {z : UInt64} {e : Nat} (h : BO W m z e) (k : ¬ FP.Core.one64 ≤ FP.Core.zmag FP.Core.b64 (FP.Core.val64 z)) (k2 : bo_E W m < e) : BO W m (FP.dmul z d_two) (e - 1) := by
  obtain ⟨⟨c, q, ez⟩, h1, h2⟩ := h
  have fz := FP.Core.val64_fits z
  rw [ez] at fz k h2
  obtain ⟨f1, f2, f3, f4⟩ := fz
  have qM : FP.Core.b64.qmin = -1074 := FP.Core.qmin_b64
  have qX : FP.Core.b64.qmax = 971 := by decide
  have tl : FP.Core.b64.tails = 2 ^ 52 := FP.Core.tails_b64
  have q3 : q ≤ 0 := by
    rcases (show q ≤ 0 ∨ 0 < q by omega) with w | w
    · exact w
    · exfalso
      rcases f4 with f4 | f4
      · omega
      · apply k
        show FP.Core.one64 ≤ FP.Core.inUnits c q FP.Core.b64.qmin
        unfold FP.Core.inUnits FP.Core.one64
        rw [qM]
        have c1 : 1 ≤ c := by omega
        have a := Nat.mul_le_mul c1 (Nat.pow_le_pow_right (n := 2) (by decide) (show 1074 ≤ (q - -1074).toNat by omega))
        rw [Nat.one_mul] at a
        exact a
  have hv : FP.Core.val64 (FP.Core.dmul z d_two) = FP.Core.round FP.Core.b64 (.fin false c (q + 1)) := by
    rw [FP.Core.val64_dmul, ez, val_two]
    show FP.Core.roundRatio FP.Core.b64 false (c * 2 ^ 52) 1 (q + -51) = FP.Core.roundRatio FP.Core.b64 false c 1 (q + 1)
    refine FP.Core.roundRatio_congr (by decide) (by decide) ?_
    rw [show (q + -51 - (q + 1)).toNat = 0 by omega, show (q + 1 - (q + -51)).toNat = 52 by omega]
    omega
  obtain ⟨d, r, g1, g2⟩ := FP.Core.round_exact FP.Core.good_b64 false (c := c) (q := q + 1) f1 (by omega) (by omega)
  have hv2 : FP.Core.val64 (FP.dmul z d_two) = .fin false d r := hv.trans g1
  refine ⟨⟨d, r, hv2⟩, by omega, ?_⟩
  rw [hv2]
  have e2 : FP.Core.zmag FP.Core.b64 (.fin false d r) = FP.Core.zmag FP.Core.b64 (.fin false c q) * 2 := by
    show FP.Core.inUnits d r FP.Core.b64.qmin = FP.Core.inUnits c q FP.Core.b64.qmin * 2
    rw [g2]
    unfold FP.Core.inUnits
    rw [qM, show (q + 1 - -1074).toNat = (q - -1074).toNat + 1 by omega, Nat.pow_succ]
    ac_rfl
  rw [e2, ← h2, Nat.mul_assoc, Nat.mul_comm 2, ← Nat.pow_succ, show (e - 1 - bo_E W m).succ = e - bo_E W m by omega]
theorem n_dsub1 {z : UInt64} (h : ∃ c q, FP.Core.val64 z = .fin false c q) : ∃ s c q, FP.Core.val64 (FP.dsub z FP.dconst1) = FP.Core.round FP.Core.b64 (.fin s c q) ∧ FP.Core.val64 (FP.dsub z FP.dconst1) ≠ .nan := by
  obtain ⟨c, q, e⟩ := h
  have w : FP.Core.val64 (FP.dsub z FP.dconst1) = FP.Core.round FP.Core.b64 (FP.Core.exactSum (.fin false c q) (.fin true (2 ^ 52) (-52))) := by
    show FP.Core.val64 (FP.Core.dsub z FP.Core.dconst1) = _
    rw [FP.Core.val64_dsub, e, FP.Core.val64_dconst1]
    rfl
  exact ⟨_, _, _, w, by rw [w]; exact FP.Core.roundRatio_ne_nan _ _ _ _ _⟩
theorem BO.last {W m : Nat} {z unit : UInt64} {e : Nat} (h : BO W m z e) (hW : W ≤ 52) (he : e = bo_E W m) (hu : FP.Core.val64 unit = .fin false (2 ^ 52) ((W : Int) - 52)) :
    FP.Core.val64 (FP.dsub z FP.dconst1) ≠ .nan ∧ FP.Core.val64 (FP.dmul (FP.dsub z FP.dconst1) unit) ≠ .nan ∧ FP.d2l (FP.dmul (FP.dsub z FP.dconst1) unit) = Int64.ofInt ((bo_C W m : Int) - (2 ^ W : Nat)) := by
  obtain ⟨⟨c, q, ez⟩, h1, h2⟩ := h
  rw [he, Nat.sub_self, Nat.pow_zero, Nat.mul_one, ez] at h2
  have fz := FP.Core.val64_fits z
  rw [ez] at fz
  have f1 : FP.Core.fits FP.Core.b64 (.fin true (2 ^ 52) (-52)) := by
    have w := FP.Core.val64_fits FP.Core.dconst1
    rw [FP.Core.val64_dconst1] at w
    exact w
  have qM : FP.Core.b64.qmin = -1074 := FP.Core.qmin_b64
  have qX : FP.Core.b64.qmax = 971 := by decide
  have b1 := bo_1 (W := W) (m := m)
  have pW : 2 ^ W ≤ 2 ^ 52 := Nat.pow_le_pow_right (by decide) hW
  have p52 : (2 : Nat) ^ 52 = 4503599627370496 := by decide
  obtain ⟨sg, n, e0, s1, s2, s3⟩ := FP.Core.sum_units fz f1
  have z1 : FP.Core.zval FP.Core.b64 (.fin true (2 ^ 52) (-52)) = -(FP.Core.one64 : Int) := by decide +kernel
  have z2 : FP.Core.zval FP.Core.b64 (.fin false c q) = (FP.Core.zmag FP.Core.b64 (.fin false c q) : Int) := rfl
  have o64 : (FP.Core.one64 : Int) = ((2 ^ W : Nat) : Int) * ((2 ^ (1074 - W) : Nat) : Int) := by
    rw [← Int.natCast_mul, ← Nat.pow_add, show W + (1074 - W) = 1074 by omega]
    rfl
  rw [z1, z2, h2, o64, Int.natCast_mul, ← Int.sub_eq_add_neg, ← Int.sub_mul] at s3
  generalize hD : (bo_C W m : Int) - ((2 ^ W : Nat) : Int) = D at s3 ⊢
  have dn : D.natAbs ≤ 4503599627370496 := by omega
  have s4 : FP.Core.inUnits n e0 FP.Core.b64.qmin = D.natAbs * 2 ^ (1074 - W) := by
    have w := congrArg Int.natAbs s3
    rw [FP.Core.natAbs_signed, Int.natAbs_mul, Int.natAbs_natCast] at w
    exact w
  have s5 : FP.Core.signed sg D.natAbs = D := by
    rw [s4, FP.Core.signed_mul] at s3
    exact Int.eq_of_mul_eq_mul_right (by have := Nat.two_pow_pos (1074 - W); omega) s3
  unfold FP.Core.inUnits at s4
  rw [qM] at s4 s2
  have rd : FP.Core.round FP.Core.b64 (.fin sg n e0) = FP.Core.round FP.Core.b64 (.fin sg D.natAbs (-(W : Int))) := by
    show FP.Core.roundRatio FP.Core.b64 sg n 1 e0 = FP.Core.roundRatio FP.Core.b64 sg D.natAbs 1 (-(W : Int))
    refine FP.Core.roundRatio_congr (by decide) (by decide) ?_
    rw [Nat.mul_one, Nat.mul_one]
    exact pw_move s4 (by omega)
  obtain ⟨d, r, g1, g2⟩ := FP.Core.round_exact FP.Core.good_b64 sg (c := D.natAbs) (q := -(W : Int)) (Nat.lt_of_le_of_lt dn (by decide)) (by omega) (by omega)
  have hv : FP.Core.val64 (FP.dsub z FP.dconst1) = .fin sg d r := by
    show FP.Core.val64 (FP.Core.dsub z FP.Core.dconst1) = _
    rw [FP.Core.val64_dsub, ez, FP.Core.val64_dconst1]
    show FP.Core.round FP.Core.b64 (FP.Core.exactSum (.fin false c q) (.fin true (2 ^ 52) (-52))) = _
    rw [s1, rd, g1]
  have fr := FP.Core.val64_fits (FP.dsub z FP.dconst1)
  rw [hv] at fr
  have r1 := fr.2.1
  unfold FP.Core.inUnits at g2
  rw [qM] at g2 r1
  have pr : FP.Core.val64 (FP.dmul (FP.dsub z FP.dconst1) unit) = FP.Core.round FP.Core.b64 (.fin sg (d * 2 ^ 52) (r + ((W : Int) - 52))) := by
    show FP.Core.val64 (FP.Core.dmul (FP.dsub z FP.dconst1) unit) = _
    rw [FP.Core.val64_dmul, hv, hu]
    show FP.Core.round FP.Core.b64 (.fin (sg != false) (d * 2 ^ 52) (r + ((W : Int) - 52))) = _
    cases sg <;> rfl
  have wh : FP.Core.Whole D (.fin sg (d * 2 ^ 52) (r + ((W : Int) - 52))) := by
    show FP.Core.signed sg (d * 2 ^ 52 * 2 ^ (r + ((W : Int) - 52)).toNat) = D * ((2 ^ (-(r + ((W : Int) - 52))).toNat : Nat) : Int)
    have k := pw_move (x := 52 + (r + ((W : Int) - 52)).toNat) (y := (-(r + ((W : Int) - 52))).toNat) g2 (by omega)
    rw [Nat.mul_assoc, ← Nat.pow_add, k, FP.Core.signed_mul, s5]
  refine ⟨by rw [hv]; exact FP.Core.Datum.noConfusion, by rw [pr]; exact FP.Core.roundRatio_ne_nan _ _ _ _ _, ?_⟩
  refine FP.Core.d2l_int ?_
  rw [Int64.toInt_ofInt_of_le (by omega) (by omega)]
  show FP.Core.Whole D (FP.Core.val64 (FP.dmul (FP.dsub z FP.dconst1) unit))
  rw [pr]
  exact FP.Core.whole_round FP.Core.good_b64 FP.Core.wide_b64 (Nat.le_trans dn (by decide)) wh
theorem sh_52 {e : Int} (h : 0 ≤ e ∧ e < 1024) : (Int32.ofInt e).toInt64 <<< ((Int32.ofInt 52).toInt64 &&& 63) = Int64.ofInt (e * 4503599627370496) := by
  have key : ∀ k : Fin 1024, (Int32.ofInt (k.val : Int)).toInt64 <<< ((Int32.ofInt 52).toInt64 &&& 63) = Int64.ofInt ((k.val : Int) * 4503599627370496) := by decide +kernel
  have w := key ⟨e.toNat, by omega⟩
  simp only [Int.toNat_of_nonneg h.1] at w
  exact w
theorem sh_23 {e : Int} (h : 0 ≤ e ∧ e < 128) : (Int32.ofInt e).toInt64 <<< ((Int32.ofInt 23).toInt64 &&& 63) = Int64.ofInt (e * 8388608) := by
  have key : ∀ k : Fin 128, (Int32.ofInt (k.val : Int)).toInt64 <<< ((Int32.ofInt 23).toInt64 &&& 63) = Int64.ofInt ((k.val : Int) * 8388608) := by decide +kernel
  have w := key ⟨e.toNat, by omega⟩
  simp only [Int.toNat_of_nonneg h.1] at w
  exact w
theorem un_52 : FP.Core.val64 (FP.l2d ((Int64.ofNat 1) <<< ((Int32.ofInt 52).toInt64 &&& 63))) = .fin false (2 ^ 52) (((52 : Nat) : Int) - 52) := by decide +kernel
theorem un_23 : FP.Core.val64 (FP.l2d ((Int64.ofNat 1) <<< ((Int32.ofInt 23).toInt64 &&& 63))) = .fin false (2 ^ 52) (((23 : Nat) : Int) - 52) := by decide +kernel
theorem i64_of {x : UInt64} : Int64.ofInt (x.toNat : Int) = x.toInt64 := by
  refine Int64.toBitVec.inj ?_
  show BitVec.ofInt 64 (x.toNat : Int) = x.toBitVec
  rw [BitVec.ofInt_natCast]
  rw [show BitVec.ofNat 64 x.toNat = BitVec.ofNat 64 x.toBitVec.toNat from rfl, BitVec.ofNat_toNat, BitVec.setWidth_eq]
theorem i32_of {x : UInt32} (h : x.toNat < 2 ^ 31) : (Int64.ofInt (x.toNat : Int)).toInt32.toInt = x.toInt32.toInt := by
  have e1 : Int32.ofInt (x.toNat : Int) = x.toInt32 := by
    refine Int32.toBitVec.inj ?_
    show BitVec.ofInt 32 (x.toNat : Int) = x.toBitVec
    rw [BitVec.ofInt_natCast]
    rw [show BitVec.ofNat 32 x.toNat = BitVec.ofNat 32 x.toBitVec.toNat from rfl, BitVec.ofNat_toNat, BitVec.setWidth_eq]
  rw [← e1, Int64.toInt32_ofInt]