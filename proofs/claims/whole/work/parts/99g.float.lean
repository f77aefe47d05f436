/-! floats: not NaN, from 0 to a whole number -/
def FB (x : UInt32) (N : Int) : Prop := (∃ c q, FP.Core.val32 x = .fin false c q) ∧ FP.Core.zval FP.Core.b32 (FP.Core.val32 x) ≤ N * (FP.Core.one32 : Int)
def DB (x : UInt64) (u : Nat) : Prop := (∃ c q, FP.Core.val64 x = .fin false c q) ∧ FP.Core.zmag FP.Core.b64 (FP.Core.val64 x) ≤ u
theorem vf32_of {x : UInt32} (h : FP.Core.val32 x ≠ .nan) : vf_n32 x := by
  unfold vf_n32
  rw [UInt32.le_iff_toNat_le, FP.Core.mask_toNat32]
  exact (FP.Core.ne_nan32 x).mp h
theorem vf64_of {x : UInt64} (h : FP.Core.val64 x ≠ .nan) : vf_n64 x := by
  unfold vf_n64
  rw [UInt64.le_iff_toNat_le, FP.Core.mask_toNat]
  exact (FP.Core.ne_nan x).mp h
theorem FB.nn {x : UInt32} {N : Int} (h : FB x N) : FP.Core.val32 x ≠ .nan := by
  obtain ⟨⟨c, q, e⟩, -⟩ := h
  rw [e]
  exact FP.Core.Datum.noConfusion
theorem DB.nn {x : UInt64} {u : Nat} (h : DB x u) : FP.Core.val64 x ≠ .nan := by
  obtain ⟨⟨c, q, e⟩, -⟩ := h
  rw [e]
  exact FP.Core.Datum.noConfusion
theorem FB.z {x : UInt32} {N : Int} (h : FB x N) : FP.Core.zval FP.Core.b32 (FP.Core.val32 x) = (FP.Core.zmag FP.Core.b32 (FP.Core.val32 x) : Int) := by
  obtain ⟨⟨c, q, e⟩, -⟩ := h
  rw [e]
  rfl
theorem FB.le {x : UInt32} {N M : Int} (h : FB x N) (k : N ≤ M) : FB x M := ⟨h.1, Int.le_trans h.2 (Int.mul_le_mul_of_nonneg_right k (Int.natCast_nonneg _))⟩
theorem DB.le {x : UInt64} {u v : Nat} (h : DB x u) (k : u ≤ v) : DB x v := ⟨h.1, Nat.le_trans h.2 k⟩
theorem rr_fin {f : FP.Core.Fmt} {A B u : Nat} {e : Int} (h : FP.Core.zmag f (FP.Core.roundRatio f false A B e) ≤ u) (hu : u < f.tails * 2 ^ (f.exps - 2)) : ∃ c q, FP.Core.roundRatio f false A B e = .fin false c q := by
  rcases FP.Core.roundRatio_cases f false A B e with ⟨c, q, k⟩ | k
  · exact ⟨c, q, k⟩
  · rw [k] at h
    have h2 : f.tails * 2 ^ (f.exps - 2) ≤ u := h
    omega
theorem top32 {n : Nat} (h : n ≤ 16777216) : n * FP.Core.one32 < FP.Core.b32.tails * 2 ^ (FP.Core.b32.exps - 2) := by
  have e : FP.Core.b32.tails * 2 ^ (FP.Core.b32.exps - 2) = 2 ^ 128 * FP.Core.one32 := by decide +kernel
  rw [e]
  exact Nat.mul_lt_mul_of_pos_right (by omega) FP.Core.one32_pos
theorem top64 : FP.Core.one64 < FP.Core.b64.tails * 2 ^ (FP.Core.b64.exps - 2) := by decide +kernel
theorem FB_int {n : Int} (h : 0 ≤ n ∧ n ≤ 16777216) : FB (FP.i2f (Int32.ofInt n)) n ∧ FP.Core.zval FP.Core.b32 (FP.Core.val32 (FP.i2f (Int32.ofInt n))) = n * (FP.Core.one32 : Int) := by
  have e : (Int32.ofInt n).toInt = n := Int32.toInt_ofInt_of_le (by omega) (by omega)
  have w := FP.Core.i2f_int (a := Int32.ofInt n) (by rw [e]; omega)
  have z := FP.Core.FInt_zval w
  rw [e] at z
  refine ⟨⟨?_, Int.le_of_eq z⟩, z⟩
  have v : FP.Core.val32 (FP.Core.i2f (Int32.ofInt n)) = FP.Core.roundRatio FP.Core.b32 false n.natAbs 1 0 := by
    rw [FP.Core.val32_i2f, e]
    unfold FP.Core.ofInt
    rw [show decide (n < 0) = false from decide_eq_false (by omega)]
    rfl
  show ∃ c q, FP.Core.val32 (FP.Core.i2f (Int32.ofInt n)) = .fin false c q
  rcases FP.Core.roundRatio_cases FP.Core.b32 false n.natAbs 1 0 with ⟨c, q, k⟩ | k
  · exact ⟨c, q, v.trans k⟩
  · exfalso
    have w2 : FP.Core.Whole (Int32.ofInt n).toInt (FP.Core.val32 (FP.Core.i2f (Int32.ofInt n))) := w
    rw [v, k] at w2
    exact w2
theorem FB_one : FB FP.fconst1 1 ∧ FP.Core.zval FP.Core.b32 (FP.Core.val32 FP.fconst1) = (FP.Core.one32 : Int) := by
  have z : FP.Core.zval FP.Core.b32 (FP.Core.val32 FP.Core.fconst1) = (FP.Core.one32 : Int) := by decide +kernel
  exact ⟨⟨⟨_, _, FP.Core.val32_fconst1⟩, Int.le_of_eq (z.trans (by omega))⟩, z⟩
theorem FB_zero : FB FP.fconst0 0 := by
  have z : FP.Core.zval FP.Core.b32 (FP.Core.val32 FP.Core.fconst0) = 0 := by decide +kernel
  exact ⟨⟨_, _, FP.Core.val32_fconst0⟩, Int.le_of_eq (z.trans (by omega))⟩
theorem FB_div {x y : UInt32} {N K : Int} (hx : FB x N) (hy : FB y K) (h : FP.Core.zval FP.Core.b32 (FP.Core.val32 x) ≤ FP.Core.zval FP.Core.b32 (FP.Core.val32 y)) (h0 : 0 < FP.Core.zval FP.Core.b32 (FP.Core.val32 y)) : FB (FP.fdiv x y) 1 := by
  obtain ⟨⟨c, q, ex⟩, -⟩ := hx
  obtain ⟨⟨d, r, ey⟩, -⟩ := hy
  have fx := FP.Core.val32_fits x
  have fy := FP.Core.val32_fits y
  rw [ex] at fx h
  rw [ey] at fy h h0
  obtain ⟨-, q1, q2, -⟩ := fx
  obtain ⟨-, r1, r2, -⟩ := fy
  have qm : FP.Core.b32.qmin = -149 := FP.Core.qmin_b32
  have qx : FP.Core.b32.qmax = 104 := by decide
  replace h : ((FP.Core.inUnits c q FP.Core.b32.qmin : Nat) : Int) ≤ ((FP.Core.inUnits d r FP.Core.b32.qmin : Nat) : Int) := h
  replace h0 : (0 : Int) < ((FP.Core.inUnits d r FP.Core.b32.qmin : Nat) : Int) := h0
  have hd : d ≠ 0 := fun z => by
    rw [z] at h0
    unfold FP.Core.inUnits at h0
    rw [Nat.zero_mul] at h0
    omega
  have hv : FP.Core.val32 (FP.Core.fdiv x y) = FP.Core.roundRatio FP.Core.b32 false c d (q - r) := by
    rw [FP.Core.val32_fdiv, ex, ey]
    show (if d = 0 then _ else FP.Core.roundRatio FP.Core.b32 (false != false) c d (q - r)) = _
    rw [if_neg hd]
    rfl
  have m1 : FP.Core.zmag FP.Core.b32 (FP.Core.val32 FP.Core.fconst1) = FP.Core.one32 := by decide +kernel
  have le := FP.Core.zmag_roundRatio_le FP.Core.good_b32 (s := false) (A := c) (B := d) (e := q - r) (e0 := -449) (V := FP.Core.val32 FP.Core.fconst1) (by omega) (FP.Core.val32_fits _) (by rw [FP.Core.val32_fconst1]; exact FP.Core.Datum.noConfusion) (by omega) (by omega) (by
    rw [m1, qm]
    have h1 : c * 2 ^ (q + 149).toNat ≤ d * 2 ^ (r + 149).toNat := by
      have w : FP.Core.inUnits c q FP.Core.b32.qmin ≤ FP.Core.inUnits d r FP.Core.b32.qmin := by omega
      unfold FP.Core.inUnits at w
      rw [qm, show q - -149 = q + 149 by omega, show r - -149 = r + 149 by omega] at w
      exact w
    refine Nat.le_of_mul_le_mul_right (c := 2 ^ (r + 149).toNat) ?_ (Nat.two_pow_pos _)
    unfold FP.Core.inUnits FP.Core.one32
    rw [Nat.mul_assoc, ← Nat.pow_add, show (q - r - -449).toNat + (r + 149).toNat = (q + 149).toNat + 449 by omega, Nat.pow_add, ← Nat.mul_assoc]
    refine Nat.le_trans (Nat.mul_le_mul_right _ h1) (Nat.le_of_eq ?_)
    rw [show (-149 - -449 : Int).toNat = 300 by decide, ← Nat.pow_add 2 149 300]
    ac_rfl)
  rw [m1] at le
  have t := top32 (n := 1) (by omega)
  rw [Nat.one_mul] at t
  obtain ⟨c2, q2, k⟩ := rr_fin le t
  refine ⟨⟨c2, q2, hv.trans k⟩, ?_⟩
  show FP.Core.zval FP.Core.b32 (FP.Core.val32 (FP.Core.fdiv x y)) ≤ _
  rw [hv, k]
  rw [k] at le
  show ((FP.Core.zmag FP.Core.b32 (.fin false c2 q2) : Nat) : Int) ≤ _
  omega
theorem FB_mul {x y : UInt32} {a b : Int} (hx : FB x a) (hy : FB y b) (ha : 0 ≤ a) (hb : 0 ≤ b) (hab : a * b ≤ 16777216) : FB (FP.fmul x y) (a * b) := by
  have zx := hx.z
  have zy := hy.z
  have bx := hx.2
  have by_ := hy.2
  rw [zx] at bx
  rw [zy] at by_
  obtain ⟨⟨c, q, ex⟩, -⟩ := hx
  obtain ⟨⟨d, r, ey⟩, -⟩ := hy
  have fx := FP.Core.val32_fits x
  have fy := FP.Core.val32_fits y
  rw [ex] at fx bx
  rw [ey] at fy by_
  have qm : FP.Core.b32.qmin = -149 := FP.Core.qmin_b32
  obtain ⟨p1, p2, p3⟩ := FP.Core.product_units fx fy
  have V := FB_int (n := a * b) ⟨Int.mul_nonneg ha hb, hab⟩
  have hv : FP.Core.val32 (FP.Core.fmul x y) = FP.Core.round FP.Core.b32 (.fin false (c * d) (q + r)) := by
    rw [FP.Core.val32_fmul, ex, ey, p1]
    rfl
  have le := FP.Core.zval_round_le FP.Core.good_b32 (s := false) (c := c * d) (q := q + r) (e0 := 2 * FP.Core.b32.qmin) (V := FP.Core.val32 (FP.i2f (Int32.ofInt (a * b)))) (FP.Core.val32_fits _) V.1.nn (by omega) p2 (by
    rw [V.2, p3, show FP.Core.b32.qmin - 2 * FP.Core.b32.qmin = 149 by omega]
    generalize FP.Core.zmag FP.Core.b32 (.fin false c q) = X at *
    generalize FP.Core.zmag FP.Core.b32 (.fin false d r) = Y at *
    show ((X * Y : Nat) : Int) ≤ a * b * (FP.Core.one32 : Int) * ((2 ^ (149 : Int).toNat : Nat) : Int)
    have o : ((2 ^ (149 : Int).toNat : Nat) : Int) = (FP.Core.one32 : Int) := rfl
    rw [o, Int.natCast_mul]
    have w := Int.mul_le_mul bx by_ (Int.natCast_nonneg Y) (Int.mul_nonneg ha (Int.natCast_nonneg FP.Core.one32))
    refine Int.le_trans w (Int.le_of_eq ?_)
    ac_rfl)
  rw [V.2] at le
  have R : FP.Core.round FP.Core.b32 (.fin false (c * d) (q + r)) = FP.Core.roundRatio FP.Core.b32 false (c * d) 1 (q + r) := rfl
  have sg := FP.Core.sgn_roundRatio FP.Core.b32 false (c * d) 1 (q + r)
  have zr : FP.Core.zval FP.Core.b32 (FP.Core.roundRatio FP.Core.b32 false (c * d) 1 (q + r)) = (FP.Core.zmag FP.Core.b32 (FP.Core.roundRatio FP.Core.b32 false (c * d) 1 (q + r)) : Int) := by
    unfold FP.Core.zval
    rw [sg]
    rfl
  rw [R, zr] at le
  have an : a * b * (FP.Core.one32 : Int) = (((a * b).toNat * FP.Core.one32 : Nat) : Int) := by
    rw [Int.natCast_mul, Int.toNat_of_nonneg (Int.mul_nonneg ha hb)]
  obtain ⟨c2, q2, k⟩ := rr_fin (f := FP.Core.b32) (A := c * d) (B := 1) (e := q + r) (u := (a * b).toNat * FP.Core.one32) (by rw [an] at le; omega) (top32 (by omega))
  refine ⟨⟨c2, q2, (hv.trans R).trans k⟩, ?_⟩
  show FP.Core.zval FP.Core.b32 (FP.Core.val32 (FP.Core.fmul x y)) ≤ _
  rw [hv, R, zr]
  exact le
theorem FB_add {x y : UInt32} {a b : Int} (hx : FB x a) (hy : FB y b) (ha : 0 ≤ a) (hb : 0 ≤ b) (hab : a + b ≤ 16777216) : FB (FP.fadd x y) (a + b) := by
  have bx := hx.2
  have by_ := hy.2
  obtain ⟨⟨c, q, ex⟩, -⟩ := hx
  obtain ⟨⟨d, r, ey⟩, -⟩ := hy
  have fx := FP.Core.val32_fits x
  have fy := FP.Core.val32_fits y
  have V := FB_int (n := a + b) ⟨by omega, hab⟩
  have vnn : (0 : Int) ≤ FP.Core.sumUnits false c q false d r (min q r) := Int.add_nonneg (Int.natCast_nonneg _) (Int.natCast_nonneg _)
  have es : FP.Core.exactSum (.fin false c q) (.fin false d r) = .fin false (FP.Core.sumUnits false c q false d r (min q r)).natAbs (min q r) := by
    show FP.Core.Datum.fin (FP.Core.sumSign false false (FP.Core.sumUnits false c q false d r (min q r))) _ _ = _
    have s : FP.Core.sumSign false false (FP.Core.sumUnits false c q false d r (min q r)) = false := by
      unfold FP.Core.sumSign
      split
      · rfl
      · exact decide_eq_false (by omega)
    rw [s]
  have le := FP.Core.sum_le FP.Core.good_b32 (x := FP.Core.val32 x) (y := FP.Core.val32 y) (V := FP.Core.val32 (FP.i2f (Int32.ofInt (a + b)))) ⟨_, _, _, ex⟩ ⟨_, _, _, ey⟩ fx fy (FP.Core.val32_fits _) V.1.nn (by rw [V.2, Int.add_mul]; omega)
  rw [V.2, ex, ey, es] at le
  have hv : FP.Core.val32 (FP.Core.fadd x y) = FP.Core.roundRatio FP.Core.b32 false (FP.Core.sumUnits false c q false d r (min q r)).natAbs 1 (min q r) := by
    rw [FP.Core.val32_fadd, ex, ey, es]
    rfl
  have R : FP.Core.round FP.Core.b32 (.fin false (FP.Core.sumUnits false c q false d r (min q r)).natAbs (min q r)) = FP.Core.roundRatio FP.Core.b32 false (FP.Core.sumUnits false c q false d r (min q r)).natAbs 1 (min q r) := rfl
  generalize (FP.Core.sumUnits false c q false d r (min q r)).natAbs = A at *
  have sg := FP.Core.sgn_roundRatio FP.Core.b32 false A 1 (min q r)
  have zr : FP.Core.zval FP.Core.b32 (FP.Core.roundRatio FP.Core.b32 false A 1 (min q r)) = (FP.Core.zmag FP.Core.b32 (FP.Core.roundRatio FP.Core.b32 false A 1 (min q r)) : Int) := by
    unfold FP.Core.zval
    rw [sg]
    rfl
  rw [R, zr] at le
  have an : (a + b) * (FP.Core.one32 : Int) = (((a + b).toNat * FP.Core.one32 : Nat) : Int) := by
    rw [Int.natCast_mul, Int.toNat_of_nonneg (by omega)]
  obtain ⟨c2, q2, k⟩ := rr_fin (f := FP.Core.b32) (A := A) (B := 1) (e := min q r) (u := (a + b).toNat * FP.Core.one32) (by rw [an] at le; omega) (top32 (by omega))
  refine ⟨⟨c2, q2, hv.trans k⟩, ?_⟩
  show FP.Core.zval FP.Core.b32 (FP.Core.val32 (FP.Core.fadd x y)) ≤ _
  rw [hv, zr]
  exact le
theorem n_fsub {x y : UInt32} {a b : Int} (hx : FB x a) (hy : FB y b) : FP.Core.val32 (FP.fsub x y) ≠ .nan := by
  obtain ⟨⟨c, q, ex⟩, -⟩ := hx
  obtain ⟨⟨d, r, ey⟩, -⟩ := hy
  show FP.Core.val32 (FP.Core.fsub x y) ≠ .nan
  rw [FP.Core.val32_fsub, ex, ey]
  exact FP.Core.roundRatio_ne_nan _ _ _ _ _
theorem n_fmulc {x y : UInt32} {c : Nat} {q : Int} (hx : FP.Core.val32 x ≠ .nan) (hy : FP.Core.val32 y = .fin false c q) (h0 : c ≠ 0) : FP.Core.val32 (FP.fmul x y) ≠ .nan := by
  show FP.Core.val32 (FP.Core.fmul x y) ≠ .nan
  rw [FP.Core.val32_fmul, hy]
  cases hd : FP.Core.val32 x with
  | nan => exact absurd hd hx
  | inf s =>
    show FP.Core.round FP.Core.b32 (if c = 0 then .nan else .inf (s != false)) ≠ .nan
    rw [if_neg h0]
    exact FP.Core.Datum.noConfusion
  | fin s c q => exact FP.Core.roundRatio_ne_nan _ _ _ _ _
theorem n_dmulc {x y : UInt64} {u c : Nat} {q : Int} (hx : DB x u) (hy : FP.Core.val64 y = .fin false c q) : FP.Core.val64 (FP.dmul x y) ≠ .nan := by
  obtain ⟨⟨d, r, ex⟩, -⟩ := hx
  show FP.Core.val64 (FP.Core.dmul x y) ≠ .nan
  rw [FP.Core.val64_dmul, hy, ex]
  exact FP.Core.roundRatio_ne_nan _ _ _ _ _
/-! doubles from 0 to 1 -/
theorem f2d_core {x : UInt32} (h : FP.Core.val32 x ≠ .nan) : FP.f2d x = FP.Core.f2d x := by
  unfold FP.f2d
  rw [(FP.Core.notNaN_iff32 x).mpr h]
  rfl
theorem two64 : FP.Core.one64 = FP.Core.one32 * 2 ^ 925 := by decide +kernel
/-- widening is exact -/
theorem f2d_mag {x : UInt32} {c : Nat} {q : Int} (hx : FP.Core.val32 x = .fin false c q) : (∃ d r, FP.Core.val64 (FP.f2d x) = .fin false d r) ∧ FP.Core.zmag FP.Core.b64 (FP.Core.val64 (FP.f2d x)) = FP.Core.zmag FP.Core.b32 (FP.Core.val32 x) * 2 ^ 925 := by
  have fx := FP.Core.val32_fits x
  rw [hx] at fx
  have qm : FP.Core.b32.qmin = -149 := FP.Core.qmin_b32
  have qM : FP.Core.b64.qmin = -1074 := FP.Core.qmin_b64
  have qx : FP.Core.b32.qmax = 104 := by decide
  have qX : FP.Core.b64.qmax = 971 := by decide
  rw [f2d_core (by rw [hx]; exact FP.Core.Datum.noConfusion), FP.Core.val64_f2d, hx]
  have c1 : c < 2 ^ 24 := fx.1
  have q1 := fx.2.1
  have q2 := fx.2.2.1
  obtain ⟨d, r, h1, h2⟩ := FP.Core.round_exact FP.Core.good_b64 false (c := c) (q := q) (Nat.lt_trans c1 (by decide)) (by omega) (by omega)
  rw [h1]
  refine ⟨⟨d, r, rfl⟩, ?_⟩
  show FP.Core.inUnits d r FP.Core.b64.qmin = FP.Core.inUnits c q FP.Core.b32.qmin * 2 ^ 925
  rw [h2]
  unfold FP.Core.inUnits
  rw [qm, qM, Nat.mul_assoc, ← Nat.pow_add, show (q - -1074).toNat = (q - -149).toNat + 925 by omega]
theorem DB_f2d {x : UInt32} (h : FB x 1) : DB (FP.f2d x) FP.Core.one64 := by
  have z := h.z
  have b := h.2
  obtain ⟨⟨c, q, e⟩, -⟩ := h
  obtain ⟨f1, f2⟩ := f2d_mag e
  refine ⟨f1, ?_⟩
  rw [f2, two64]
  exact Nat.mul_le_mul_right _ (by omega)
abbrev d_two : UInt64 := (UInt64.ofNat (Int.toNat 4611686018427387904))
theorem val_two : FP.Core.val64 d_two = .fin false (2 ^ 52) (-51) := by decide +kernel
def one_half : Nat := 2 ^ 1073
theorem DB_half {x : UInt64} (h : DB x FP.Core.one64) : DB (FP.ddiv x d_two) one_half := by
  obtain ⟨⟨c, q, ex⟩, hb⟩ := h
  have fx := FP.Core.val64_fits x
  rw [ex] at fx hb
  have qM : FP.Core.b64.qmin = -1074 := FP.Core.qmin_b64
  have qX : FP.Core.b64.qmax = 971 := by decide
  obtain ⟨-, q1, q2, -⟩ := fx
  have hv : FP.Core.val64 (FP.Core.ddiv x d_two) = FP.Core.roundRatio FP.Core.b64 false c (2 ^ 52) (q - -51) := by
    rw [FP.Core.val64_ddiv, ex, val_two]
    rfl
  have hV : FP.Core.val64 (0x3fe0000000000000 : UInt64) = .fin false (2 ^ 52) (-53) := by decide +kernel
  have m1 : FP.Core.zmag FP.Core.b64 (FP.Core.val64 (0x3fe0000000000000 : UInt64)) = one_half := by
    rw [hV]
    decide +kernel
  have le := FP.Core.zmag_roundRatio_le FP.Core.good_b64 (s := false) (A := c) (B := 2 ^ 52) (e := q - -51) (e0 := -1074) (V := FP.Core.val64 (0x3fe0000000000000 : UInt64)) (Nat.two_pow_pos _) (FP.Core.val64_fits _) (by rw [hV]; exact FP.Core.Datum.noConfusion) (by omega) (by omega) (by
    rw [m1, qM]
    have h1 : c * 2 ^ (q + 1074).toNat ≤ 2 ^ 1074 := by
      have w : FP.Core.inUnits c q FP.Core.b64.qmin ≤ FP.Core.one64 := hb
      unfold FP.Core.inUnits FP.Core.one64 at w
      rw [qM, show q - -1074 = q + 1074 by omega] at w
      exact w
    unfold FP.Core.inUnits one_half
    rw [show (q - -51 - -1074).toNat = (q + 1074).toNat + 51 by omega, Nat.pow_add, ← Nat.mul_assoc, show (-1074 - -1074 : Int).toNat = 0 by decide]
    refine Nat.le_trans (Nat.mul_le_mul_right _ h1) (Nat.le_of_eq ?_)
    rw [← Nat.pow_add, Nat.pow_zero, Nat.mul_one, ← Nat.pow_add])
  rw [m1] at le
  obtain ⟨c2, q2, k⟩ := rr_fin le (Nat.lt_of_le_of_lt (by unfold one_half FP.Core.one64; exact Nat.pow_le_pow_right (by decide) (by decide)) top64)
  refine ⟨⟨c2, q2, hv.trans k⟩, ?_⟩
  show FP.Core.zmag FP.Core.b64 (FP.Core.val64 (FP.Core.ddiv x d_two)) ≤ _
  rw [hv]
  exact le
theorem halves : one_half + one_half = FP.Core.one64 := by
  unfold one_half FP.Core.one64
  rw [show 1074 = 1073 + 1 by decide, Nat.pow_succ]
  omega
theorem DB_one : DB FP.dconst1 FP.Core.one64 := by
  refine ⟨⟨_, _, FP.Core.val64_dconst1⟩, ?_⟩
  have z : FP.Core.zmag FP.Core.b64 (FP.Core.val64 FP.Core.dconst1) = FP.Core.one64 := by decide +kernel
  exact Nat.le_of_eq z
theorem DB_add {x y : UInt64} (hx : DB x one_half) (hy : DB y one_half) : DB (FP.dadd x y) FP.Core.one64 := by
  obtain ⟨⟨c, q, ex⟩, bx⟩ := hx
  obtain ⟨⟨d, r, ey⟩, by_⟩ := hy
  have fx := FP.Core.val64_fits x
  have fy := FP.Core.val64_fits y
  have vnn : (0 : Int) ≤ FP.Core.sumUnits false c q false d r (min q r) := Int.add_nonneg (Int.natCast_nonneg _) (Int.natCast_nonneg _)
  have es : FP.Core.exactSum (.fin false c q) (.fin false d r) = .fin false (FP.Core.sumUnits false c q false d r (min q r)).natAbs (min q r) := by
    show FP.Core.Datum.fin (FP.Core.sumSign false false (FP.Core.sumUnits false c q false d r (min q r))) _ _ = _
    have s : FP.Core.sumSign false false (FP.Core.sumUnits false c q false d r (min q r)) = false := by
      unfold FP.Core.sumSign
      split
      · rfl
      · exact decide_eq_false (by omega)
    rw [s]
  have z1 : FP.Core.zval FP.Core.b64 (FP.Core.val64 FP.Core.dconst1) = (FP.Core.one64 : Int) := by decide +kernel
  have hh := halves
  have le := FP.Core.sum_le FP.Core.good_b64 (x := FP.Core.val64 x) (y := FP.Core.val64 y) (V := FP.Core.val64 FP.Core.dconst1) ⟨_, _, _, ex⟩ ⟨_, _, _, ey⟩ fx fy (FP.Core.val64_fits _) (by rw [FP.Core.val64_dconst1]; exact FP.Core.Datum.noConfusion) (by
    rw [z1, ex, ey]
    rw [ex] at bx
    rw [ey] at by_
    show ((FP.Core.zmag FP.Core.b64 (.fin false c q) : Nat) : Int) + ((FP.Core.zmag FP.Core.b64 (.fin false d r) : Nat) : Int) ≤ _
    omega)
  rw [z1, ex, ey, es] at le
  have hv : FP.Core.val64 (FP.Core.dadd x y) = FP.Core.roundRatio FP.Core.b64 false (FP.Core.sumUnits false c q false d r (min q r)).natAbs 1 (min q r) := by
    rw [FP.Core.val64_dadd, ex, ey, es]
    rfl
  have R : FP.Core.round FP.Core.b64 (.fin false (FP.Core.sumUnits false c q false d r (min q r)).natAbs (min q r)) = FP.Core.roundRatio FP.Core.b64 false (FP.Core.sumUnits false c q false d r (min q r)).natAbs 1 (min q r) := rfl
  generalize (FP.Core.sumUnits false c q false d r (min q r)).natAbs = A at *
  have sg := FP.Core.sgn_roundRatio FP.Core.b64 false A 1 (min q r)
  have zr : FP.Core.zval FP.Core.b64 (FP.Core.roundRatio FP.Core.b64 false A 1 (min q r)) = (FP.Core.zmag FP.Core.b64 (FP.Core.roundRatio FP.Core.b64 false A 1 (min q r)) : Int) := by
    unfold FP.Core.zval
    rw [sg]
    rfl
  rw [R, zr] at le
  obtain ⟨c2, q2, k⟩ := rr_fin (f := FP.Core.b64) (A := A) (B := 1) (e := min q r) (u := FP.Core.one64) (by omega) top64
  refine ⟨⟨c2, q2, hv.trans k⟩, ?_⟩
  show FP.Core.zmag FP.Core.b64 (FP.Core.val64 (FP.Core.dadd x y)) ≤ _
  rw [hv]
  omega
/-! the words -/
def rqR (p0 p1 : Int) : UInt32 := if p0 = 0 then FP.fconst1 else FP.fdiv (FP.i2f (Int32.ofInt p1)) (FP.i2f (Int32.ofInt p0))
theorem rqR_b {p0 p1 : Int} (h : 0 ≤ p1 ∧ p1 ≤ p0) (h2 : p0 ≤ 16777216) : FB (rqR p0 p1) 1 := by
  unfold rqR
  by_cases z : p0 = 0
  · rw [if_pos z]
    exact FB_one.1
  · rw [if_neg z]
    have a := FB_int (n := p1) ⟨h.1, by omega⟩
    have b := FB_int (n := p0) ⟨by omega, h2⟩
    have o : (0 : Int) < (FP.Core.one32 : Int) := by
      have := FP.Core.one32_pos
      omega
    exact FB_div a.1 b.1 (by rw [a.2, b.2]; exact Int.mul_le_mul_of_nonneg_right h.2 (by omega)) (by rw [b.2]; exact Int.mul_pos (by omega) o)
def fl_sum (E : Nat → Int → Int) (S : Int → Int) : Nat → UInt32
  | 0 => FP.fconst0
  | a + 1 => FP.fadd (fl_sum E S a) (FP.fmul (rqR (ec_price E a 0) (ec_price E a (S a))) (FP.i2f (Int32.ofInt (E 5 a))))
theorem fl_sum_s {E : Nat → Int → Int} {S : Int → Int} {a : Int} (h : 0 ≤ a) : fl_sum E S (a + 1).toNat = FP.fadd (fl_sum E S a.toNat) (FP.fmul (rqR (ec_price E a 0) (ec_price E a (S a))) (FP.i2f (Int32.ofInt (E 5 a)))) := by
  obtain ⟨n, rfl⟩ := Int.eq_ofNat_of_zero_le h
  rfl
def fl_i (E : Nat → Int → Int) (S : Int → Int) : UInt32 := if fs_sum (E 0 0).toNat (fun a => E 5 a) = 0 then FP.fconst1 else FP.fdiv (fl_sum E S (E 0 0).toNat) (FP.i2f (Int32.ofInt (fs_sum (E 0 0).toNat (fun a => E 5 a))))
def fl_m (E : Nat → Int → Int) : Nat → UInt64
  | 0 => FP.dconst1
  | k + 1 => FP.dadd (FP.ddiv (fl_m E k) d_two) (FP.ddiv (FP.f2d (fl_i E (ec_it E (ec_calm E) (k + 1)))) d_two)
/-- what prices and holdings must be for it -/
def fl_hyp (E : Nat → Int → Int) (S : Int → Int) : Prop := (0 ≤ E 0 0 ∧ E 0 0 ≤ 4) ∧ ∀ a, 0 ≤ a → a < E 0 0 → (0 ≤ ec_price E a (S a) ∧ ec_price E a (S a) ≤ ec_price E a 0) ∧ ec_price E a 0 ≤ 200 ∧ (0 ≤ E 5 a ∧ E 5 a ≤ 360)
theorem fl_sum_b {E : Nat → Int → Int} {S : Int → Int} (h : fl_hyp E S) : ∀ n : Nat, (n : Int) ≤ E 0 0 → FB (fl_sum E S n) (fs_sum n (fun a => E 5 a)) ∧ (0 ≤ fs_sum n (fun a => E 5 a) ∧ fs_sum n (fun a => E 5 a) ≤ 360 * n)
  | 0, _ => ⟨FB_zero, by show (0 : Int) ≤ 0 ∧ (0 : Int) ≤ 360 * 0; omega⟩
  | n + 1, hn => by
    have ih := fl_sum_b h n (by omega)
    obtain ⟨p1, p2, w3⟩ := h.2 n (by omega) (by omega)
    have hA := h.1
    have r := rqR_b p1 (by omega)
    have i := (FB_int (n := E 5 n) ⟨w3.1, by omega⟩).1
    have m := FB_mul r i (by omega) w3.1 (by omega)
    rw [Int.one_mul] at m
    have s : fs_sum (n + 1) (fun a => E 5 a) = fs_sum n (fun a => E 5 a) + E 5 n := rfl
    rw [s]
    exact ⟨FB_add ih.1 m ih.2.1 w3.1 (by omega), by omega⟩
theorem fl_i_b {E : Nat → Int → Int} {S : Int → Int} (h : fl_hyp E S) : FB (fl_i E S) 1 := by
  have w := fl_sum_b h (E 0 0).toNat (by have := h.1; omega)
  have hA := h.1
  unfold fl_i
  by_cases z : fs_sum (E 0 0).toNat (fun a => E 5 a) = 0
  · rw [if_pos z]
    exact FB_one.1
  · rw [if_neg z]
    have b := FB_int (n := fs_sum (E 0 0).toNat (fun a => E 5 a)) ⟨w.2.1, by omega⟩
    have o : (0 : Int) < (FP.Core.one32 : Int) := by
      have := FP.Core.one32_pos
      omega
    exact FB_div w.1 b.1 (by rw [b.2]; exact w.1.2) (by rw [b.2]; exact Int.mul_pos (by omega) o)
theorem fl_m_b {E : Nat → Int → Int} (h : ∀ k, FB (fl_i E (ec_it E (ec_calm E) k)) 1) : ∀ k, DB (fl_m E k) FP.Core.one64
  | 0 => DB_one
  | k + 1 => DB_add (DB_half (fl_m_b h k)) (DB_half (DB_f2d (h (k + 1))))
theorem fl_i_eq {E F : Nat → Int → Int} (e : ec_eq E F) (hA : 0 ≤ E 0 0) {S : Int → Int} : fl_i E S = fl_i F S := by
  have s5 : ∀ n : Nat, (n : Int) ≤ E 0 0 → fs_sum n (fun a => E 5 a) = fs_sum n (fun a => F 5 a) := fun n hn => fs_sum_c (fun i i0 i1 => (e.2.2.2.1 i i0 (by omega)).2.2.2.2)
  have ss : ∀ n : Nat, (n : Int) ≤ E 0 0 → fl_sum E S n = fl_sum F S n := fun n => by
    induction n with
    | zero => exact fun _ => rfl
    | succ n ih =>
      intro hn
      show FP.fadd (fl_sum E S n) (FP.fmul (rqR (ec_price E n 0) (ec_price E n (S n))) (FP.i2f (Int32.ofInt (E 5 n)))) = FP.fadd (fl_sum F S n) (FP.fmul (rqR (ec_price F n 0) (ec_price F n (S n))) (FP.i2f (Int32.ofInt (F 5 n))))
      rw [ih (by omega), e.price (by omega) (by omega), e.price (by omega) (by omega), (e.2.2.2.1 n (by omega) (by omega)).2.2.2.2]
  unfold fl_i
  rw [← e.1, s5 _ (by omega), ss _ (by omega)]
theorem fl_bd {E : Nat → Int → Int} {S : Int → Int} (h : ec_bd E) (hS : ∀ a, 0 ≤ a → a < 4 → 0 ≤ S a) : fl_hyp E S := by
  refine ⟨h.1, fun a a0 a1 => ?_⟩
  have hA := h.1
  obtain ⟨x1, x2, x3, x4, x5⟩ := h.2.2.2.1 a a0 a1
  have p := ec_price_m (E := E) (a := a) (n := 0) (m := S a) x2.1 (hS a a0 (by omega))
  refine ⟨p, ?_, x5⟩
  unfold ec_price
  rw [show max 0 (0 - E 4 a) = 0 by omega, Int.mul_zero]
  omega
theorem fl_mm {M : fs_M} (hI : mm_I M) (hJ : mm_J M) : fl_hyp (mm_E M) (mm_st M) := by
  have hA := hI.1.1
  refine ⟨hA, fun a a0 a1 => ?_⟩
  have a2 : a < M 125 0 := a1
  have j := hJ.2 a a0 (by omega)
  have p := ec_price_m (E := mm_E M) (a := a) (n := 0) (m := mm_st M a) ((mm_em hI).2.2.2.1 a a0 a1).1 (by rw [mm_st_at ⟨a0, by omega⟩]; exact j.1)
  exact ⟨p, (mm_price_b (n := 0) hI ⟨a0, by omega⟩).2, mm_held_b hI.1 ⟨a0, by omega⟩⟩
theorem nat902 {x : UInt32} (h : vf_n32 x) : fs_nat 902 [.inr (.float x)] = some (.inl x.toInt32.toInt) := if_pos h
theorem nat903 {x : UInt64} (h : vf_n64 x) : fs_nat 903 [.inr (.double x)] = some (.inr (.long x.toInt64)) := if_pos h
noncomputable def rq_index (N : Int → Int) (w : Int) : Int := if 0 ≤ w ∧ w ≤ 3 then (fl_i (ec_pl N) (ec_std (ec_pl N) w)).toInt32.toInt else -1
noncomputable def rq_drop (N : Int → Int) (w : Int) : Int := if 0 ≤ w ∧ w ≤ 3 then (FP.f2i (FP.fmul (FP.fsub FP.fconst1 (fl_i (ec_pl N) (ec_std (ec_pl N) w))) (UInt32.ofNat (Int.toNat 1148846080)))).toInt else -1
noncomputable def rq_ratio (N : Int → Int) (w a : Int) : Int := if (0 ≤ w ∧ w ≤ 3) ∧ (0 ≤ a ∧ a < N 0) then (rqR (ec_price (ec_pl N) a 0) (ec_price (ec_pl N) a (ec_std (ec_pl N) w a))).toInt32.toInt else -1
noncomputable def rq_md (N : Int → Int) : UInt64 := fl_m (ec_pl N) (ec_k (ec_pl N) (ec_calm (ec_pl N)))
noncomputable def rq_mood (N : Int → Int) : Int64 := (rq_md N).toInt64
noncomputable def rq_hundredths (N : Int → Int) : Int := (FP.d2i (FP.dmul (rq_md N) (UInt64.ofNat (Int.toNat 4636737291354636288)))).toInt
theorem val_1000 : FP.Core.val32 (UInt32.ofNat (Int.toNat 1148846080)) = .fin false 16384000 (-14) := by decide +kernel
theorem val_100 : FP.Core.val64 (UInt64.ofNat (Int.toNat 4636737291354636288)) = .fin false 7036874417766400 (-46) := by decide +kernel
theorem fs_qf {Q : Option fs_V → fs_M → Prop} {M : fs_M} {a b : UInt32} (e : a = b) (h : Q (some (.inr (.float b))) M) : Q (some (.inr (.float a))) M := by rw [e]; exact h
theorem fs_qd {Q : Option fs_V → fs_M → Prop} {M : fs_M} {a b : UInt64} (e : a = b) (h : Q (some (.inr (.double b))) M) : Q (some (.inr (.double a))) M := by rw [e]; exact h
theorem fs_ql {Q : Option fs_V → fs_M → Prop} {M : fs_M} {a b : Int64} (e : a = b) (h : Q (some (.inr (.long b))) M) : Q (some (.inr (.long a))) M := by rw [e]; exact h
theorem fcmp0 {n : Int} (h : 0 ≤ n ∧ n ≤ 16777216) : (Op.cmpValue (FP.fcmp (FP.i2f (Int32.ofInt n)) FP.fconst0) .l).toInt = 0 ↔ n = 0 := by
  have e : (Int32.ofInt n).toInt = n := Int32.toInt_ofInt_of_le (by omega) (by omega)
  have w := FP.Core.i2f_int (a := Int32.ofInt n) (by rw [e]; omega)
  rw [e] at w
  have z : FP.Core.FInt 0 FP.Core.fconst0 := by
    show FP.Core.Whole 0 (FP.Core.val32 FP.Core.fconst0)
    rw [FP.Core.val32_fconst0]
    show FP.Core.signed false (0 * 2 ^ (FP.Core.b32.qmin).toNat) = 0 * ((2 ^ (-FP.Core.b32.qmin).toNat : Nat) : Int)
    rw [Nat.zero_mul, Int.zero_mul]
    rfl
  have k : FP.fcmp (FP.i2f (Int32.ofInt n)) FP.fconst0 = some (compare n 0) := FP.Core.fcmp_int w z
  rw [k, FP.Core.compare_ite]
  by_cases y : n = 0
  · rw [y]
    exact ⟨fun _ => rfl, fun _ => by decide⟩
  · rw [if_neg (by omega), if_neg y]
    exact ⟨fun x => absurd x (by decide), fun x => absurd x y⟩