/-! the text: places on a tape T of n bytes -/
abbrev xB (T : Int → Int) (n k : Int) : Prop := k < n ∧ (T k = 32 ∨ T k = 10)
abbrev xL (T : Int → Int) (n k : Int) : Prop := k < n ∧ 97 ≤ T k ∧ T k ≤ 122
abbrev xD (T : Int → Int) (n k : Int) : Prop := k < n ∧ 48 ≤ T k ∧ T k ≤ 57
noncomputable def skf (P : Int → Prop) : Nat → Int → Int
  | 0, p => p
  | f + 1, p => @ite _ (P p) (Classical.propDecidable _) (skf P f (p + 1)) p
noncomputable def skp (P : Int → Prop) (n p : Int) : Int := skf P (n - p).toNat p
theorem skp_s {P : Int → Prop} {n p : Int} (h : P p) (hn : p < n) : skp P n p = skp P n (p + 1) := by
  unfold skp
  rw [show (n - p).toNat = (n - (p + 1)).toNat + 1 by omega, skf, if_pos h]
theorem skp_z {P : Int → Prop} {n p : Int} (h : ¬ P p) : skp P n p = p := by
  unfold skp
  cases (n - p).toNat with
  | zero => rfl
  | succ f => rw [skf, if_neg h]
theorem skp_b {P : Int → Prop} {n : Int} (hP : ∀ k, P k → k < n) : ∀ (f : Nat) (p : Int), (n - p).toNat ≤ f → p ≤ skp P n p ∧ (p ≤ n → skp P n p ≤ n) ∧ ¬ P (skp P n p) ∧ ∀ k, p ≤ k → k < skp P n p → P k := by
  intro f
  induction f with
  | zero =>
    intro p hf
    have h : ¬ P p := fun z => by have := hP p z; omega
    rw [skp_z h]
    exact ⟨Int.le_refl _, fun z => z, h, fun k k0 k1 => by omega⟩
  | succ f ih =>
    intro p hf
    by_cases h : P p
    · have hn := hP p h
      have w := ih (p + 1) (by omega)
      rw [skp_s h hn]
      refine ⟨by omega, fun z => w.2.1 (by omega), w.2.2.1, fun k k0 k1 => ?_⟩
      rcases (show k = p ∨ p + 1 ≤ k by omega) with z | z
      · rw [z]; exact h
      · exact w.2.2.2 k z k1
    · rw [skp_z h]
      exact ⟨Int.le_refl _, fun z => z, h, fun k k0 k1 => by omega⟩
noncomputable def qB (T : Int → Int) (n p : Int) : Int := skp (xB T n) n p
noncomputable def eL (T : Int → Int) (n p : Int) : Int := skp (xL T n) n p
noncomputable def eD (T : Int → Int) (n p : Int) : Int := skp (xD T n) n p
theorem qB_b (T : Int → Int) (n p : Int) : p ≤ qB T n p ∧ (p ≤ n → qB T n p ≤ n) ∧ ¬ xB T n (qB T n p) ∧ ∀ k, p ≤ k → k < qB T n p → xB T n k := skp_b (fun k h => h.1) _ p (Nat.le_refl _)
theorem eL_b (T : Int → Int) (n p : Int) : p ≤ eL T n p ∧ (p ≤ n → eL T n p ≤ n) ∧ ¬ xL T n (eL T n p) ∧ ∀ k, p ≤ k → k < eL T n p → xL T n k := skp_b (fun k h => h.1) _ p (Nat.le_refl _)
theorem eD_b (T : Int → Int) (n p : Int) : p ≤ eD T n p ∧ (p ≤ n → eD T n p ≤ n) ∧ ¬ xD T n (eD T n p) ∧ ∀ k, p ≤ k → k < eD T n p → xD T n k := skp_b (fun k h => h.1) _ p (Nat.le_refl _)
/-- the number of k digits from q on -/
def dvN (T : Int → Int) (q : Int) : Nat → Int
  | 0 => 0
  | k + 1 => dvN T q k * 10 + T (q + k) - 48
theorem dvN_s {T : Int → Int} {q k : Int} (h : 0 ≤ k) : dvN T q (k + 1).toNat = dvN T q k.toNat * 10 + T (q + k) - 48 := by
  obtain ⟨m, rfl⟩ := Int.eq_ofNat_of_zero_le h
  rfl
theorem dvN_b {T : Int → Int} {n q : Int} : ∀ k : Nat, k ≤ 5 → (∀ j, q ≤ j → j < q + k → xD T n j) → 0 ≤ dvN T q k ∧ dvN T q k < 10 ^ k
  | 0, _, _ => by show (0 : Int) ≤ 0 ∧ (0 : Int) < 10 ^ 0; omega
  | k + 1, hk, h => by
    have ih := dvN_b k (by omega) (fun j j0 j1 => h j j0 (by omega))
    have w := h (q + k) (by omega) (by omega)
    have e : (10 : Int) ^ (k + 1) = 10 ^ k * 10 := Int.pow_succ 10 k
    show 0 ≤ dvN T q k * 10 + T (q + k) - 48 ∧ dvN T q k * 10 + T (q + k) - 48 < 10 ^ (k + 1)
    rw [e]
    omega
def gl (T : Int → Int) (n p : Int) : Prop := qB T n p = p ∧ 0 < p ∧ (xL T n p ∨ xD T n p) ∧ (xL T n (p - 1) ∨ xD T n (p - 1))
noncomputable def nE (T : Int → Int) (n p : Int) : Int := eD T n (qB T n p)
noncomputable def nV (T : Int → Int) (n p : Int) : Int := dvN T (qB T n p) (nE T n p - qB T n p).toNat
def nOk (T : Int → Int) (n lo hi p : Int) : Prop := xD T n (qB T n p) ∧ ¬ gl T n p ∧ nE T n p - qB T n p ≤ 4 ∧ lo ≤ nV T n p ∧ nV T n p ≤ hi
noncomputable def nF (T : Int → Int) (n lo hi f p : Int) : Int := if f = -1 then @ite _ (nOk T n lo hi p) (Classical.propDecidable _) (-1) (qB T n p) else f
noncomputable def eF (T : Int → Int) (n f p : Int) : Int := if f = -1 then (if qB T n p < n ∧ T (qB T n p) = 59 then -1 else qB T n p) else f
theorem nF_ne {T : Int → Int} {n lo hi f p : Int} (h : f ≠ -1) : nF T n lo hi f p = f := if_neg h
theorem nF_ok {T : Int → Int} {n lo hi f p : Int} (h : nF T n lo hi f p = -1) (hp : 0 ≤ p) : f = -1 ∧ nOk T n lo hi p := by
  unfold nF at h
  by_cases z : f = -1
  · rw [if_pos z] at h
    by_cases w : nOk T n lo hi p
    · exact ⟨z, w⟩
    · rw [if_neg w] at h
      have := (qB_b T n p).1
      omega
  · rw [if_neg z] at h
    exact absurd h z
theorem nE_b {T : Int → Int} {n p : Int} (hp : 0 ≤ p ∧ p ≤ n) : p ≤ nE T n p ∧ nE T n p ≤ n ∧ ¬ xD T n (nE T n p) := by
  have h1 := qB_b T n p
  have h2 := eD_b T n (qB T n p)
  have h3 := h1.2.1 hp.2
  exact ⟨by show p ≤ eD T n (qB T n p); omega, h2.2.1 h3, h2.2.2.1⟩
theorem nE_lt {T : Int → Int} {n lo hi p : Int} (h : nOk T n lo hi p) : p < nE T n p := by
  have h1 := qB_b T n p
  have h2 := eD_b T n (qB T n p)
  rcases (show eD T n (qB T n p) = qB T n p ∨ qB T n p < eD T n (qB T n p) by omega) with z | z
  · have w := h2.2.2.1
    rw [z] at w
    exact absurd h.1 w
  · show p < eD T n (qB T n p)
    omega
theorem fs_c_byteAt {d : Nat} {M : fs_M} {Q : Option fs_V → fs_M → Prop} {p : Int}  (ht : 0 ≤ M 1 1 ∧ M 1 1 ≤ 800) (hq0 : ∀ (x : Int), ((0 ≤ p ∧ p < M 1 1 → x = M 2 p) ∧ (¬ (0 ≤ p ∧ p < M 1 1) → x = 0)) → Q (some (.inl x)) M) : fs_W (d) 62 0 [some (.inr (.ref 1)), some (.inl p)] [] M Q := by
  refine fs_r_if (a := p) (L1 := [some (.inr (.ref 1)), some (.inl p)]) (st1 := []) (M1 := M) (ob := []) rfl rfl trivial (fun (h1 : p < 0) => ?_) (fun (h1 : ¬ (p < 0)) => ?_)
  · refine fs_r_nop (L1 := [some (.inr (.ref 1)), some (.inl p)]) (st1 := [.inl 0]) (M1 := M) (ob := []) rfl rfl trivial ?_
    refine fs_r_iret (a := 0) (L1 := [some (.inr (.ref 1)), some (.inl p)]) (M1 := M) (ob := []) rfl rfl trivial (Or.inl rfl) ?_
    first
      | exact hq0 _ ⟨fun z => by omega, fun _ => rfl⟩
      | exact hq0 _ ⟨fun _ => rfl, fun z => by omega⟩
  refine fs_r_icmp (a := p) (y := (M 1 1)) (L1 := [some (.inr (.ref 1)), some (.inl p)]) (st1 := []) (M1 := M) (ob := [1 < fs_N ∧ fs_kd 1 = 4]) rfl rfl (fs_oc fs_ob1 trivial) (fun (h2 : (M 1 1) ≤ p) => ?_) (fun (h2 : ¬ ((M 1 1) ≤ p)) => ?_)
  · refine fs_r_nop (L1 := [some (.inr (.ref 1)), some (.inl p)]) (st1 := [.inl 0]) (M1 := M) (ob := []) rfl rfl trivial ?_
    refine fs_r_iret (a := 0) (L1 := [some (.inr (.ref 1)), some (.inl p)]) (M1 := M) (ob := []) rfl rfl trivial (Or.inl rfl) ?_
    first
      | exact hq0 _ ⟨fun z => by omega, fun _ => rfl⟩
      | exact hq0 _ ⟨fun _ => rfl, fun z => by omega⟩
  refine fs_r_goto (L1 := [some (.inr (.ref 1)), some (.inl p)]) (st1 := [.inl (M 2 p)]) (M1 := M) (ob := [1 < fs_N ∧ fs_kd 1 = 4, (2 < fs_N ∧ fs_kd 2 = 100) ∧ (0 : Int) ≤ p ∧ p < fs_ln 2]) rfl rfl (fs_oc fs_ob1 (fs_oc (fs_ar2 (by omega) (by omega)) trivial)) ?_
  refine fs_r_iret (a := (M 2 p)) (L1 := [some (.inr (.ref 1)), some (.inl p)]) (M1 := M) (ob := []) rfl rfl trivial (Or.inl rfl) ?_
  first
    | exact hq0 _ ⟨fun z => by omega, fun _ => rfl⟩
    | exact hq0 _ ⟨fun _ => rfl, fun z => by omega⟩

theorem fs_c_isDigitAt {d : Nat} {M : fs_M} {Q : Option fs_V → fs_M → Prop} {p : Int}  (ht : 0 ≤ M 1 1 ∧ M 1 1 ≤ 800) (hq0 : (0 ≤ p ∧ xD (M 2) (M 1 1) p) → Q (some (.inl 1)) M) (hq1 : (¬ (0 ≤ p ∧ xD (M 2) (M 1 1) p)) → Q (some (.inl 0)) M) : fs_W (d + 1) 63 0 [some (.inr (.ref 1)), some (.inl p)] [] M Q := by
  refine fs_r_call (sta := false) (idx := 46) (as := [.inr (.ref 1), .inl p]) (rest := []) (L1 := [some (.inr (.ref 1)), some (.inl p)]) (st1 := [.inl p, .inr (.ref 1)]) (M1 := M) (ob := []) rfl rfl rfl trivial rfl rfl (Nat.le_of_ble_eq_true rfl) ⟨Or.inr (Nat.le_of_ble_eq_true rfl), Or.inr fs_ob1⟩ (by decide) ?_
  refine fs_c_byteAt (by omega) (fun (v1 : Int) (f2 : (0 ≤ p ∧ p < M 1 1 → v1 = M 2 p) ∧ (¬ (0 ≤ p ∧ p < M 1 1) → v1 = 0)) => ?_)
  refine fs_r_icmp (a := v1) (y := 48) (L1 := [some (.inr (.ref 1)), some (.inl p)]) (st1 := []) (M1 := M) (ob := []) rfl rfl trivial (fun (h3 : v1 < 48) => ?_) (fun (h3 : ¬ (v1 < 48)) => ?_)
  · refine fs_r_nop (L1 := [some (.inr (.ref 1)), some (.inl p)]) (st1 := [.inl 0]) (M1 := M) (ob := []) rfl rfl trivial ?_
    refine fs_r_iret (a := 0) (L1 := [some (.inr (.ref 1)), some (.inl p)]) (M1 := M) (ob := []) rfl rfl trivial (Or.inr (Or.inl rfl)) ?_
    exact hq1 (by omega)
  refine fs_r_call (sta := false) (idx := 46) (as := [.inr (.ref 1), .inl p]) (rest := []) (L1 := [some (.inr (.ref 1)), some (.inl p)]) (st1 := [.inl p, .inr (.ref 1)]) (M1 := M) (ob := []) rfl rfl rfl trivial rfl rfl (Nat.le_of_ble_eq_true rfl) ⟨Or.inr (Nat.le_of_ble_eq_true rfl), Or.inr fs_ob1⟩ (by decide) ?_
  refine fs_c_byteAt (by omega) (fun (v4 : Int) (f5 : (0 ≤ p ∧ p < M 1 1 → v4 = M 2 p) ∧ (¬ (0 ≤ p ∧ p < M 1 1) → v4 = 0)) => ?_)
  refine fs_r_icmp (a := v4) (y := 57) (L1 := [some (.inr (.ref 1)), some (.inl p)]) (st1 := []) (M1 := M) (ob := []) rfl rfl trivial (fun (h6 : 57 < v4) => ?_) (fun (h6 : ¬ (57 < v4)) => ?_)
  · refine fs_r_nop (L1 := [some (.inr (.ref 1)), some (.inl p)]) (st1 := [.inl 0]) (M1 := M) (ob := []) rfl rfl trivial ?_
    refine fs_r_iret (a := 0) (L1 := [some (.inr (.ref 1)), some (.inl p)]) (M1 := M) (ob := []) rfl rfl trivial (Or.inr (Or.inl rfl)) ?_
    exact hq1 (by omega)
  refine fs_r_goto (L1 := [some (.inr (.ref 1)), some (.inl p)]) (st1 := [.inl 1]) (M1 := M) (ob := []) rfl rfl trivial ?_
  refine fs_r_iret (a := 1) (L1 := [some (.inr (.ref 1)), some (.inl p)]) (M1 := M) (ob := []) rfl rfl trivial (Or.inr (Or.inr rfl)) ?_
  exact hq0 (by omega)

theorem fs_c_isLetterAt {d : Nat} {M : fs_M} {Q : Option fs_V → fs_M → Prop} {p : Int}  (ht : 0 ≤ M 1 1 ∧ M 1 1 ≤ 800) (hq0 : (0 ≤ p ∧ xL (M 2) (M 1 1) p) → Q (some (.inl 1)) M) (hq1 : (¬ (0 ≤ p ∧ xL (M 2) (M 1 1) p)) → Q (some (.inl 0)) M) : fs_W (d + 1) 64 0 [some (.inr (.ref 1)), some (.inl p)] [] M Q := by
  refine fs_r_call (sta := false) (idx := 46) (as := [.inr (.ref 1), .inl p]) (rest := []) (L1 := [some (.inr (.ref 1)), some (.inl p)]) (st1 := [.inl p, .inr (.ref 1)]) (M1 := M) (ob := []) rfl rfl rfl trivial rfl rfl (Nat.le_of_ble_eq_true rfl) ⟨Or.inr (Nat.le_of_ble_eq_true rfl), Or.inr fs_ob1⟩ (by decide) ?_
  refine fs_c_byteAt (by omega) (fun (v1 : Int) (f2 : (0 ≤ p ∧ p < M 1 1 → v1 = M 2 p) ∧ (¬ (0 ≤ p ∧ p < M 1 1) → v1 = 0)) => ?_)
  refine fs_r_icmp (a := v1) (y := 97) (L1 := [some (.inr (.ref 1)), some (.inl p)]) (st1 := []) (M1 := M) (ob := []) rfl rfl trivial (fun (h3 : v1 < 97) => ?_) (fun (h3 : ¬ (v1 < 97)) => ?_)
  · refine fs_r_nop (L1 := [some (.inr (.ref 1)), some (.inl p)]) (st1 := [.inl 0]) (M1 := M) (ob := []) rfl rfl trivial ?_
    refine fs_r_iret (a := 0) (L1 := [some (.inr (.ref 1)), some (.inl p)]) (M1 := M) (ob := []) rfl rfl trivial (Or.inr (Or.inl rfl)) ?_
    exact hq1 (by omega)
  refine fs_r_call (sta := false) (idx := 46) (as := [.inr (.ref 1), .inl p]) (rest := []) (L1 := [some (.inr (.ref 1)), some (.inl p)]) (st1 := [.inl p, .inr (.ref 1)]) (M1 := M) (ob := []) rfl rfl rfl trivial rfl rfl (Nat.le_of_ble_eq_true rfl) ⟨Or.inr (Nat.le_of_ble_eq_true rfl), Or.inr fs_ob1⟩ (by decide) ?_
  refine fs_c_byteAt (by omega) (fun (v4 : Int) (f5 : (0 ≤ p ∧ p < M 1 1 → v4 = M 2 p) ∧ (¬ (0 ≤ p ∧ p < M 1 1) → v4 = 0)) => ?_)
  refine fs_r_icmp (a := v4) (y := 122) (L1 := [some (.inr (.ref 1)), some (.inl p)]) (st1 := []) (M1 := M) (ob := []) rfl rfl trivial (fun (h6 : 122 < v4) => ?_) (fun (h6 : ¬ (122 < v4)) => ?_)
  · refine fs_r_nop (L1 := [some (.inr (.ref 1)), some (.inl p)]) (st1 := [.inl 0]) (M1 := M) (ob := []) rfl rfl trivial ?_
    refine fs_r_iret (a := 0) (L1 := [some (.inr (.ref 1)), some (.inl p)]) (M1 := M) (ob := []) rfl rfl trivial (Or.inr (Or.inl rfl)) ?_
    exact hq1 (by omega)
  refine fs_r_goto (L1 := [some (.inr (.ref 1)), some (.inl p)]) (st1 := [.inl 1]) (M1 := M) (ob := []) rfl rfl trivial ?_
  refine fs_r_iret (a := 1) (L1 := [some (.inr (.ref 1)), some (.inl p)]) (M1 := M) (ob := []) rfl rfl trivial (Or.inr (Or.inr rfl)) ?_
  exact hq0 (by omega)

theorem fs_c_skipBlanks {d : Nat} {M : fs_M} {Q : Option fs_V → fs_M → Prop}   (ha : 0 ≤ M 1 2 ∧ M 1 2 ≤ M 1 1 ∧ M 1 1 ≤ 800) (hq0 : Q none (fs_up M 1 2 (qB (M 2) (M 1 1) (M 1 2)))) : fs_W (d + 1) 65 0 [some (.inr (.ref 1))] [] M Q := by
  have loop0 : ∀ (n0 : Nat)  (M3 : fs_M) (a : Int), (M 1 2 ≤ a ∧ a ≤ M 1 1) → (M3 = fs_up M 1 2 a) → (qB (M 2) (M 1 1) a = qB (M 2) (M 1 1) (M 1 2)) → M 1 1 - a < (n0 : Int) → fs_W (d + 1) 65 0 [some (.inr (.ref 1))] [] M3 Q := by
    intro n0
    induction n0 with
    | zero =>
      intro M3 a i0 m3 s3 hm0
      exfalso
      omega
    | succ n0 ih0 =>
      intro M3 a i0 m3 s3 hm0
      have g1 : M3 1 1 = M 1 1 := by rw [m3, fs_up_at, if_neg (by omega)]
      have g2 : M3 1 2 = a := by rw [m3, fs_up_at, if_pos rfl]
      have g3 : M3 2 = M 2 := by rw [m3, fs_up_other (by decide)]
      have g4 : M3 2 (M3 1 2) = M 2 a := by rw [g3, g2]
      refine fs_r_icmp (a := (M3 1 2)) (y := (M3 1 1)) (L1 := [some (.inr (.ref 1))]) (st1 := []) (M1 := M3) (ob := [1 < fs_N ∧ fs_kd 1 = 4, 1 < fs_N ∧ fs_kd 1 = 4]) rfl rfl (fs_oc fs_ob1 (fs_oc fs_ob1 trivial)) (fun (h1 : (M3 1 1) ≤ (M3 1 2)) => ?_) (fun (h1 : ¬ ((M3 1 1) ≤ (M3 1 2))) => ?_)
      · refine fs_r_ret (L1 := [some (.inr (.ref 1))]) (M1 := M3) (ob := []) rfl rfl trivial ?_
        have nb : ¬ xB (M 2) (M 1 1) a := fun z => by omega
        exact fs_qv (by rw [m3, ← s3]; congr 1; exact (skp_z nb).symm) hq0
      refine fs_r_call (sta := false) (idx := 46) (as := [.inr (.ref 1), .inl (M3 1 2)]) (rest := []) (L1 := [some (.inr (.ref 1))]) (st1 := [.inl (M3 1 2), .inr (.ref 1)]) (M1 := M3) (ob := [1 < fs_N ∧ fs_kd 1 = 4]) rfl rfl rfl (fs_oc fs_ob1 trivial) rfl rfl (Nat.le_of_ble_eq_true rfl) ⟨Or.inr (Nat.le_of_ble_eq_true rfl), Or.inr fs_ob1⟩ (by decide) ?_
      refine fs_c_byteAt (by omega) (fun (v2 : Int) (f3 : (0 ≤ (M3 1 2) ∧ (M3 1 2) < M3 1 1 → v2 = M3 2 (M3 1 2)) ∧ (¬ (0 ≤ (M3 1 2) ∧ (M3 1 2) < M3 1 1) → v2 = 0)) => ?_)
      refine fs_r_icmp (a := v2) (y := 32) (L1 := [some (.inr (.ref 1))]) (st1 := []) (M1 := M3) (ob := []) rfl rfl trivial (fun (h4 : v2 = 32) => ?_) (fun (h4 : ¬ (v2 = 32)) => ?_)
      · refine fs_r_goto (L1 := [some (.inr (.ref 1))]) (st1 := []) (M1 := (fs_up M3 1 2 ((M3 1 2) + 1))) (ob := [1 < fs_N ∧ fs_kd 1 = 4, fs_rg ((M3 1 2) + 1), 1 < fs_N ∧ fs_kd 1 = 4]) rfl rfl (fs_oc fs_ob1 (fs_oc ⟨by omega, by omega⟩ (fs_oc fs_ob1 trivial))) ?_
        exact ih0 (fs_up M3 1 2 ((M3 1 2) + 1)) ((a + 1)) (by omega) (by rw [g2, m3, fs_up_up]) (by rw [← s3]; exact (skp_s (P := xB (M 2) (M 1 1)) ⟨by omega, by omega⟩ (by omega)).symm) (by omega)
      refine fs_r_call (sta := false) (idx := 46) (as := [.inr (.ref 1), .inl (M3 1 2)]) (rest := []) (L1 := [some (.inr (.ref 1))]) (st1 := [.inl (M3 1 2), .inr (.ref 1)]) (M1 := M3) (ob := [1 < fs_N ∧ fs_kd 1 = 4]) rfl rfl rfl (fs_oc fs_ob1 trivial) rfl rfl (Nat.le_of_ble_eq_true rfl) ⟨Or.inr (Nat.le_of_ble_eq_true rfl), Or.inr fs_ob1⟩ (by decide) ?_
      refine fs_c_byteAt (by omega) (fun (v5 : Int) (f6 : (0 ≤ (M3 1 2) ∧ (M3 1 2) < M3 1 1 → v5 = M3 2 (M3 1 2)) ∧ (¬ (0 ≤ (M3 1 2) ∧ (M3 1 2) < M3 1 1) → v5 = 0)) => ?_)
      refine fs_r_icmp (a := v5) (y := 10) (L1 := [some (.inr (.ref 1))]) (st1 := []) (M1 := M3) (ob := []) rfl rfl trivial (fun (h7 : ¬ v5 = 10) => ?_) (fun (h7 : ¬ (¬ v5 = 10)) => ?_)
      · refine fs_r_ret (L1 := [some (.inr (.ref 1))]) (M1 := M3) (ob := []) rfl rfl trivial ?_
        have nb : ¬ xB (M 2) (M 1 1) a := fun z => by omega
        exact fs_qv (by rw [m3, ← s3]; congr 1; exact (skp_z nb).symm) hq0
      refine fs_r_goto (L1 := [some (.inr (.ref 1))]) (st1 := []) (M1 := (fs_up M3 1 2 ((M3 1 2) + 1))) (ob := [1 < fs_N ∧ fs_kd 1 = 4, fs_rg ((M3 1 2) + 1), 1 < fs_N ∧ fs_kd 1 = 4]) rfl rfl (fs_oc fs_ob1 (fs_oc ⟨by omega, by omega⟩ (fs_oc fs_ob1 trivial))) ?_
      exact ih0 (fs_up M3 1 2 ((M3 1 2) + 1)) ((a + 1)) (by omega) (by rw [g2, m3, fs_up_up]) (by rw [← s3]; exact (skp_s (P := xB (M 2) (M 1 1)) ⟨by omega, by omega⟩ (by omega)).symm) (by omega)
  exact loop0 (((M 1 1 - ((M 1 2))) : Int) + 1).toNat M ((M 1 2)) (by omega) ((fs_up_id rfl).symm) (rfl) (by omega)

theorem fs_c_failAt {d : Nat} {M : fs_M} {Q : Option fs_V → fs_M → Prop} {x : Int}   (hq0 : Q none (fs_up M 1 3 (if M 1 3 = -1 then x else M 1 3))) : fs_W (d) 66 0 [some (.inr (.ref 1)), some (.inl x)] [] M Q := by
  refine fs_r_icmp (a := (M 1 3)) (y := (-1)) (L1 := [some (.inr (.ref 1)), some (.inl x)]) (st1 := []) (M1 := M) (ob := [1 < fs_N ∧ fs_kd 1 = 4]) rfl rfl (fs_oc fs_ob1 trivial) (fun (h1 : ¬ (M 1 3) = (-1)) => ?_) (fun (h1 : ¬ (¬ (M 1 3) = (-1))) => ?_)
  · refine fs_r_ret (L1 := [some (.inr (.ref 1)), some (.inl x)]) (M1 := M) (ob := []) rfl rfl trivial ?_
    first
      | exact fs_qv (by rw [if_pos (by omega)]) hq0
      | exact fs_qv (by rw [if_neg (by omega), fs_up_id rfl]) hq0
  refine fs_r_nop (L1 := [some (.inr (.ref 1)), some (.inl x)]) (st1 := []) (M1 := (fs_up M 1 3 x)) (ob := [1 < fs_N ∧ fs_kd 1 = 4]) rfl rfl (fs_oc fs_ob1 trivial) ?_
  refine fs_r_ret (L1 := [some (.inr (.ref 1)), some (.inl x)]) (M1 := (fs_up M 1 3 x)) (ob := []) rfl rfl trivial ?_
  first
    | exact fs_qv (by rw [if_pos (by omega)]) hq0
    | exact fs_qv (by rw [if_neg (by omega), fs_up_id rfl]) hq0

theorem fs_c_readNumber {d : Nat} {M : fs_M} {Q : Option fs_V → fs_M → Prop} {lo : Int} {hi : Int}  (ha : 0 ≤ M 1 2 ∧ M 1 2 ≤ M 1 1 ∧ M 1 1 ≤ 800) (hw : M 1 3 = -1 → (M 1 5 = M 1 2 ∧ 0 < M 1 2 ∧ xL (M 2) (M 1 1) (M 1 2 - 1)) ∨ (M 1 5 < M 1 2 ∧ (gl (M 2) (M 1 1) (M 1 2) → ¬ xD (M 2) (M 1 1) (M 1 2)))) (hq0 : ∀ (x : Int) (M2 : fs_M), (∀ r, r ≠ 1 → M2 r = M r) → (M2 1 1 = M 1 1 ∧ M2 1 4 = M 1 4 ∧ M2 1 5 = M 1 5 ∧ M2 1 6 = qB (M 2) (M 1 1) (M 1 2)) → (M2 1 2 = nE (M 2) (M 1 1) (M 1 2)) → (M2 1 3 = nF (M 2) (M 1 1) lo hi (M 1 3) (M 1 2)) → ((M2 1 3 = -1 → x = nV (M 2) (M 1 1) (M 1 2)) ∧ 0 ≤ x ∧ x ≤ 99999) → Q (some (.inl x)) M2) : fs_W (d + 2) 69 0 [some (.inr (.ref 1)), some (.inl lo), some (.inl hi), none, none, none] [] M Q := by
  have qb := qB_b (M 2) (M 1 1) (M 1 2)
  have eb := eD_b (M 2) (M 1 1) (qB (M 2) (M 1 1) (M 1 2))
  have eE : nE (M 2) (M 1 1) (M 1 2) = eD (M 2) (M 1 1) (qB (M 2) (M 1 1) (M 1 2)) := rfl
  have qn := qb.2.1 ha.2.1
  have en := eb.2.1 qn
  generalize hq : qB (M 2) (M 1 1) (M 1 2) = q at *
  refine fs_r_call (sta := false) (idx := 39) (as := [.inr (.ref 1)]) (rest := []) (L1 := [some (.inr (.ref 1)), some (.inl lo), some (.inl hi), none, none, none]) (st1 := [.inr (.ref 1)]) (M1 := M) (ob := []) rfl rfl rfl trivial rfl rfl (Nat.le_of_ble_eq_true rfl) ⟨Or.inr (Nat.le_of_ble_eq_true rfl), Or.inr fs_ob1⟩ (by decide) ?_
  refine fs_c_skipBlanks (by omega) ?_
  refine fs_r_nop (L1 := [some (.inr (.ref 1)), some (.inl lo), some (.inl hi), some (.inl 0), none, none]) (st1 := []) (M1 := (fs_up (fs_up M 1 2 (qB (M 2) (M 1 1) (M 1 2))) 1 6 ((fs_up M 1 2 (qB (M 2) (M 1 1) (M 1 2))) 1 2))) (ob := [1 < fs_N ∧ fs_kd 1 = 4, 1 < fs_N ∧ fs_kd 1 = 4, 3 < 6]) rfl rfl (fs_oc fs_ob1 (fs_oc fs_ob1 (fs_oc (by decide) trivial))) ?_
  have loop14 : ∀ (n14 : Nat) (v : Int) (zl4 : Option fs_V) (zl5 : Option fs_V) (M3 : fs_M) (a : Int), (q ≤ a ∧ a ≤ M 1 1) → (M3 = (fs_up (fs_up M 1 2 a) 1 6 q)) → (∀ j, q ≤ j → j < a → xD (M 2) (M 1 1) j) → (v = dvN (M 2) q (min (a - q) 5).toNat) → (eD (M 2) (M 1 1) a = eD (M 2) (M 1 1) q) → M 1 1 - a < (n14 : Int) → fs_W (d + 2) 69 14 [some (.inr (.ref 1)), some (.inl lo), some (.inl hi), some (.inl v), zl4, zl5] [] M3 Q := by
    intro n14
    induction n14 with
    | zero =>
      intro v zl4 zl5 M3 a i3 m3 d3 v0 e3 hm14
      exfalso
      omega
    | succ n14 ih14 =>
      intro v zl4 zl5 M3 a i3 m3 d3 v0 e3 hm14
      have mq : M3 1 6 = q := by rw [m3, fs_up_at, if_pos rfl]
      have ma : M3 1 2 = a := by rw [m3, fs_up_at, if_neg (by omega), fs_up_at, if_pos rfl]
      have mn : M3 1 1 = M 1 1 := by rw [m3, fs_up_at, if_neg (by omega), fs_up_at, if_neg (by omega)]
      have m13 : M3 1 3 = M 1 3 := by rw [m3, fs_up_at, if_neg (by omega), fs_up_at, if_neg (by omega)]
      have m14 : M3 1 4 = M 1 4 := by rw [m3, fs_up_at, if_neg (by omega), fs_up_at, if_neg (by omega)]
      have m15 : M3 1 5 = M 1 5 := by rw [m3, fs_up_at, if_neg (by omega), fs_up_at, if_neg (by omega)]
      have mt : M3 2 = M 2 := by rw [m3, fs_up_other (by decide), fs_up_other (by decide)]
      have db := dvN_b (T := M 2) (n := M 1 1) (q := q) (min (a - q) 5).toNat (by omega) (fun j j0 j1 => d3 j j0 (by omega))
      have pw : (10 : Int) ^ (min (a - q) 5).toNat ≤ 100000 := by
        have key : ∀ k : Fin 6, (10 : Int) ^ k.val ≤ 100000 := by decide
        exact key ⟨(min (a - q) 5).toNat, by omega⟩
      rw [← v0] at db
      refine fs_r_icmp (a := (M3 1 2)) (y := (M3 1 1)) (L1 := [some (.inr (.ref 1)), some (.inl lo), some (.inl hi), some (.inl v), zl4, zl5]) (st1 := []) (M1 := M3) (ob := [1 < fs_N ∧ fs_kd 1 = 4, 1 < fs_N ∧ fs_kd 1 = 4]) rfl rfl (fs_oc fs_ob1 (fs_oc fs_ob1 trivial)) (fun (h1 : (M3 1 1) ≤ (M3 1 2)) => ?_) (fun (h1 : ¬ ((M3 1 1) ≤ (M3 1 2))) => ?_)
      · have nd : ¬ xD (M 2) (M 1 1) a := fun z => by
          first
            | omega
            | (apply dg; rw [ma, mn, mt]; exact ⟨by omega, z⟩)
        have join106 : ∀ (gb : Int), ((gb = 1 ∧ q = M 1 5) ∨ (gb = 0 ∧ q ≠ M 1 5)) → fs_W (d + 2) 69 106 [some (.inr (.ref 1)), some (.inl lo), some (.inl hi), some (.inl v), some (.inl ((M3 1 2) - (M3 1 6))), zl5] [.inl gb] M3 Q := by
          intro gb g0
          refine fs_r_if (a := gb) (L1 := [some (.inr (.ref 1)), some (.inl lo), some (.inl hi), some (.inl v), some (.inl ((M3 1 2) - (M3 1 6))), some (.inl gb)]) (st1 := []) (M1 := M3) (ob := [5 < 6]) rfl rfl (fs_oc (by decide) trivial) (fun (h2 : ¬ gb = 0) => ?_) (fun (h2 : ¬ (¬ gb = 0)) => ?_)
          · refine fs_r_call (sta := false) (idx := 91) (as := [.inr (.ref 1), .inl (M3 1 6)]) (rest := []) (L1 := [some (.inr (.ref 1)), some (.inl lo), some (.inl hi), some (.inl v), some (.inl ((M3 1 2) - (M3 1 6))), some (.inl gb)]) (st1 := [.inl (M3 1 6), .inr (.ref 1)]) (M1 := M3) (ob := [1 < fs_N ∧ fs_kd 1 = 4]) rfl rfl rfl (fs_oc fs_ob1 trivial) rfl rfl (Nat.le_of_ble_eq_true rfl) ⟨Or.inr (Nat.le_of_ble_eq_true rfl), Or.inr fs_ob1⟩ (by decide) ?_
            refine fs_c_failAt ?_
            refine fs_r_iret (a := v) (L1 := [some (.inr (.ref 1)), some (.inl lo), some (.inl hi), some (.inl v), some (.inl ((M3 1 2) - (M3 1 6))), some (.inl gb)]) (M1 := (fs_up M3 1 3 (if M3 1 3 = -1 then (M3 1 6) else M3 1 3))) (ob := []) rfl rfl trivial (Or.inl rfl) ?_
            have ea : eD (M 2) (M 1 1) q = a := by rw [← e3]; exact skp_z nd
            have nv : a - q ≤ 4 → v = nV (M 2) (M 1 1) (M 1 2) := fun z => by
              show v = dvN (M 2) (qB (M 2) (M 1 1) (M 1 2)) (eD (M 2) (M 1 1) (qB (M 2) (M 1 1) (M 1 2)) - qB (M 2) (M 1 1) (M 1 2)).toNat
              rw [hq, ea, v0, show (min (a - q) 5).toNat = (a - q).toNat by omega]
            have ne : nE (M 2) (M 1 1) (M 1 2) = a := by rw [eE]; exact ea
            have fr : ∀ r, r ≠ 1 → M3 r = M r := fun r z => by rw [m3, fs_up_other z, fs_up_other z]
            first
              | (have ok : M 1 3 = -1 → nOk (M 2) (M 1 1) lo hi (M 1 2) := fun f0 => by
                   have xq := d3 q (by omega) (by omega)
                   have vv := nv (by omega)
                   refine ⟨by rw [hq]; exact xq, fun gg => ?_, by rw [ne, hq]; omega, by omega, by omega⟩
                   have gg2 := gg
                   obtain ⟨g1, g2, g3, g4⟩ := gg
                   rw [hq] at g1
                   rcases hw f0 with w | w
                   · omega
                   · exact w.2 gg2 (by rw [← g1]; exact xq)
                 refine hq0 _ _ fr ⟨mn, m14, m15, mq⟩ (by rw [ma, ne]) ?_ ⟨fun _ => nv (by omega), by omega, by omega⟩
                 rw [m13]
                 unfold nF
                 by_cases f0 : M 1 3 = -1
                 · rw [if_pos f0, if_pos (ok f0), f0]
                 · rw [if_neg f0])
              | (have no : M 1 3 = -1 → ¬ nOk (M 2) (M 1 1) lo hi (M 1 2) := fun f0 ok => by
                   obtain ⟨k1, k2, k3, k4, k5⟩ := ok
                   rw [hq] at k1 k3
                   rw [ne] at k3
                   have vv := nv k3
                   rcases hw f0 with w | w
                   · by_cases z : q = M 1 2
                     · exact k2 ⟨by rw [hq]; exact z, w.2.1, Or.inr (by rw [← z]; exact k1), Or.inl w.2.2⟩
                     · have aq : q < a := by
                         rcases (show q < a ∨ q = a by omega) with y | y
                         · exact y
                         · exact absurd (by rw [← y]; exact k1) nd
                       omega
                   · have aq : q < a := by
                       rcases (show q < a ∨ q = a by omega) with y | y
                       · exact y
                       · exact absurd (by rw [← y]; exact k1) nd
                     omega
                 refine hq0 _ _ (fun r z => by rw [fs_up_other z]; exact fr r z) ⟨by rw [fs_up_at, if_neg (by omega)]; exact mn, by rw [fs_up_at, if_neg (by omega)]; exact m14, by rw [fs_up_at, if_neg (by omega)]; exact m15, by rw [fs_up_at, if_neg (by omega)]; exact mq⟩ (by rw [fs_up_at, if_neg (by omega), ma, ne]) ?_ ⟨fun z => ?_, by omega, by omega⟩
                 · rw [fs_up_at, if_pos rfl, m13, mq]
                   unfold nF
                   by_cases f0 : M 1 3 = -1
                   · rw [if_pos f0, if_pos f0, if_neg (no f0), hq]
                   · rw [if_neg f0, if_neg f0]
                 · rw [fs_up_at, if_pos rfl, m13, mq] at z
                   split at z <;> omega)
          refine fs_r_if (a := ((M3 1 2) - (M3 1 6))) (L1 := [some (.inr (.ref 1)), some (.inl lo), some (.inl hi), some (.inl v), some (.inl ((M3 1 2) - (M3 1 6))), some (.inl gb)]) (st1 := []) (M1 := M3) (ob := []) rfl rfl trivial (fun (h3 : ((M3 1 2) - (M3 1 6)) = 0) => ?_) (fun (h3 : ¬ (((M3 1 2) - (M3 1 6)) = 0)) => ?_)
          · refine fs_r_call (sta := false) (idx := 91) (as := [.inr (.ref 1), .inl (M3 1 6)]) (rest := []) (L1 := [some (.inr (.ref 1)), some (.inl lo), some (.inl hi), some (.inl v), some (.inl ((M3 1 2) - (M3 1 6))), some (.inl gb)]) (st1 := [.inl (M3 1 6), .inr (.ref 1)]) (M1 := M3) (ob := [1 < fs_N ∧ fs_kd 1 = 4]) rfl rfl rfl (fs_oc fs_ob1 trivial) rfl rfl (Nat.le_of_ble_eq_true rfl) ⟨Or.inr (Nat.le_of_ble_eq_true rfl), Or.inr fs_ob1⟩ (by decide) ?_
            refine fs_c_failAt ?_
            refine fs_r_iret (a := v) (L1 := [some (.inr (.ref 1)), some (.inl lo), some (.inl hi), some (.inl v), some (.inl ((M3 1 2) - (M3 1 6))), some (.inl gb)]) (M1 := (fs_up M3 1 3 (if M3 1 3 = -1 then (M3 1 6) else M3 1 3))) (ob := []) rfl rfl trivial (Or.inl rfl) ?_
            have ea : eD (M 2) (M 1 1) q = a := by rw [← e3]; exact skp_z nd
            have nv : a - q ≤ 4 → v = nV (M 2) (M 1 1) (M 1 2) := fun z => by
              show v = dvN (M 2) (qB (M 2) (M 1 1) (M 1 2)) (eD (M 2) (M 1 1) (qB (M 2) (M 1 1) (M 1 2)) - qB (M 2) (M 1 1) (M 1 2)).toNat
              rw [hq, ea, v0, show (min (a - q) 5).toNat = (a - q).toNat by omega]
            have ne : nE (M 2) (M 1 1) (M 1 2) = a := by rw [eE]; exact ea
            have fr : ∀ r, r ≠ 1 → M3 r = M r := fun r z => by rw [m3, fs_up_other z, fs_up_other z]
            first
              | (have ok : M 1 3 = -1 → nOk (M 2) (M 1 1) lo hi (M 1 2) := fun f0 => by
                   have xq := d3 q (by omega) (by omega)
                   have vv := nv (by omega)
                   refine ⟨by rw [hq]; exact xq, fun gg => ?_, by rw [ne, hq]; omega, by omega, by omega⟩
                   have gg2 := gg
                   obtain ⟨g1, g2, g3, g4⟩ := gg
                   rw [hq] at g1
                   rcases hw f0 with w | w
                   · omega
                   · exact w.2 gg2 (by rw [← g1]; exact xq)
                 refine hq0 _ _ fr ⟨mn, m14, m15, mq⟩ (by rw [ma, ne]) ?_ ⟨fun _ => nv (by omega), by omega, by omega⟩
                 rw [m13]
                 unfold nF
                 by_cases f0 : M 1 3 = -1
                 · rw [if_pos f0, if_pos (ok f0), f0]
                 · rw [if_neg f0])
              | (have no : M 1 3 = -1 → ¬ nOk (M 2) (M 1 1) lo hi (M 1 2) := fun f0 ok => by
                   obtain ⟨k1, k2, k3, k4, k5⟩ := ok
                   rw [hq] at k1 k3
                   rw [ne] at k3
                   have vv := nv k3
                   rcases hw f0 with w | w
                   · by_cases z : q = M 1 2
                     · exact k2 ⟨by rw [hq]; exact z, w.2.1, Or.inr (by rw [← z]; exact k1), Or.inl w.2.2⟩
                     · have aq : q < a := by
                         rcases (show q < a ∨ q = a by omega) with y | y
                         · exact y
                         · exact absurd (by rw [← y]; exact k1) nd
                       omega
                   · have aq : q < a := by
                       rcases (show q < a ∨ q = a by omega) with y | y
                       · exact y
                       · exact absurd (by rw [← y]; exact k1) nd
                     omega
                 refine hq0 _ _ (fun r z => by rw [fs_up_other z]; exact fr r z) ⟨by rw [fs_up_at, if_neg (by omega)]; exact mn, by rw [fs_up_at, if_neg (by omega)]; exact m14, by rw [fs_up_at, if_neg (by omega)]; exact m15, by rw [fs_up_at, if_neg (by omega)]; exact mq⟩ (by rw [fs_up_at, if_neg (by omega), ma, ne]) ?_ ⟨fun z => ?_, by omega, by omega⟩
                 · rw [fs_up_at, if_pos rfl, m13, mq]
                   unfold nF
                   by_cases f0 : M 1 3 = -1
                   · rw [if_pos f0, if_pos f0, if_neg (no f0), hq]
                   · rw [if_neg f0, if_neg f0]
                 · rw [fs_up_at, if_pos rfl, m13, mq] at z
                   split at z <;> omega)
          refine fs_r_icmp (a := ((M3 1 2) - (M3 1 6))) (y := 4) (L1 := [some (.inr (.ref 1)), some (.inl lo), some (.inl hi), some (.inl v), some (.inl ((M3 1 2) - (M3 1 6))), some (.inl gb)]) (st1 := []) (M1 := M3) (ob := []) rfl rfl trivial (fun (h4 : 4 < ((M3 1 2) - (M3 1 6))) => ?_) (fun (h4 : ¬ (4 < ((M3 1 2) - (M3 1 6)))) => ?_)
          · refine fs_r_call (sta := false) (idx := 91) (as := [.inr (.ref 1), .inl (M3 1 6)]) (rest := []) (L1 := [some (.inr (.ref 1)), some (.inl lo), some (.inl hi), some (.inl v), some (.inl ((M3 1 2) - (M3 1 6))), some (.inl gb)]) (st1 := [.inl (M3 1 6), .inr (.ref 1)]) (M1 := M3) (ob := [1 < fs_N ∧ fs_kd 1 = 4]) rfl rfl rfl (fs_oc fs_ob1 trivial) rfl rfl (Nat.le_of_ble_eq_true rfl) ⟨Or.inr (Nat.le_of_ble_eq_true rfl), Or.inr fs_ob1⟩ (by decide) ?_
            refine fs_c_failAt ?_
            refine fs_r_iret (a := v) (L1 := [some (.inr (.ref 1)), some (.inl lo), some (.inl hi), some (.inl v), some (.inl ((M3 1 2) - (M3 1 6))), some (.inl gb)]) (M1 := (fs_up M3 1 3 (if M3 1 3 = -1 then (M3 1 6) else M3 1 3))) (ob := []) rfl rfl trivial (Or.inl rfl) ?_
            have ea : eD (M 2) (M 1 1) q = a := by rw [← e3]; exact skp_z nd
            have nv : a - q ≤ 4 → v = nV (M 2) (M 1 1) (M 1 2) := fun z => by
              show v = dvN (M 2) (qB (M 2) (M 1 1) (M 1 2)) (eD (M 2) (M 1 1) (qB (M 2) (M 1 1) (M 1 2)) - qB (M 2) (M 1 1) (M 1 2)).toNat
              rw [hq, ea, v0, show (min (a - q) 5).toNat = (a - q).toNat by omega]
            have ne : nE (M 2) (M 1 1) (M 1 2) = a := by rw [eE]; exact ea
            have fr : ∀ r, r ≠ 1 → M3 r = M r := fun r z => by rw [m3, fs_up_other z, fs_up_other z]
            first
              | (have ok : M 1 3 = -1 → nOk (M 2) (M 1 1) lo hi (M 1 2) := fun f0 => by
                   have xq := d3 q (by omega) (by omega)
                   have vv := nv (by omega)
                   refine ⟨by rw [hq]; exact xq, fun gg => ?_, by rw [ne, hq]; omega, by omega, by omega⟩
                   have gg2 := gg
                   obtain ⟨g1, g2, g3, g4⟩ := gg
                   rw [hq] at g1
                   rcases hw f0 with w | w
                   · omega
                   · exact w.2 gg2 (by rw [← g1]; exact xq)
                 refine hq0 _ _ fr ⟨mn, m14, m15, mq⟩ (by rw [ma, ne]) ?_ ⟨fun _ => nv (by omega), by omega, by omega⟩
                 rw [m13]
                 unfold nF
                 by_cases f0 : M 1 3 = -1
                 · rw [if_pos f0, if_pos (ok f0), f0]
                 · rw [if_neg f0])
              | (have no : M 1 3 = -1 → ¬ nOk (M 2) (M 1 1) lo hi (M 1 2) := fun f0 ok => by
                   obtain ⟨k1, k2, k3, k4, k5⟩ := ok
                   rw [hq] at k1 k3
                   rw [ne] at k3
                   have vv := nv k3
                   rcases hw f0 with w | w
                   · by_cases z : q = M 1 2
                     · exact k2 ⟨by rw [hq]; exact z, w.2.1, Or.inr (by rw [← z]; exact k1), Or.inl w.2.2⟩
                     · have aq : q < a := by
                         rcases (show q < a ∨ q = a by omega) with y | y
                         · exact y
                         · exact absurd (by rw [← y]; exact k1) nd
                       omega
                   · have aq : q < a := by
                       rcases (show q < a ∨ q = a by omega) with y | y
                       · exact y
                       · exact absurd (by rw [← y]; exact k1) nd
                     omega
                 refine hq0 _ _ (fun r z => by rw [fs_up_other z]; exact fr r z) ⟨by rw [fs_up_at, if_neg (by omega)]; exact mn, by rw [fs_up_at, if_neg (by omega)]; exact m14, by rw [fs_up_at, if_neg (by omega)]; exact m15, by rw [fs_up_at, if_neg (by omega)]; exact mq⟩ (by rw [fs_up_at, if_neg (by omega), ma, ne]) ?_ ⟨fun z => ?_, by omega, by omega⟩
                 · rw [fs_up_at, if_pos rfl, m13, mq]
                   unfold nF
                   by_cases f0 : M 1 3 = -1
                   · rw [if_pos f0, if_pos f0, if_neg (no f0), hq]
                   · rw [if_neg f0, if_neg f0]
                 · rw [fs_up_at, if_pos rfl, m13, mq] at z
                   split at z <;> omega)
          refine fs_r_icmp (a := v) (y := lo) (L1 := [some (.inr (.ref 1)), some (.inl lo), some (.inl hi), some (.inl v), some (.inl ((M3 1 2) - (M3 1 6))), some (.inl gb)]) (st1 := []) (M1 := M3) (ob := []) rfl rfl trivial (fun (h5 : v < lo) => ?_) (fun (h5 : ¬ (v < lo)) => ?_)
          · refine fs_r_call (sta := false) (idx := 91) (as := [.inr (.ref 1), .inl (M3 1 6)]) (rest := []) (L1 := [some (.inr (.ref 1)), some (.inl lo), some (.inl hi), some (.inl v), some (.inl ((M3 1 2) - (M3 1 6))), some (.inl gb)]) (st1 := [.inl (M3 1 6), .inr (.ref 1)]) (M1 := M3) (ob := [1 < fs_N ∧ fs_kd 1 = 4]) rfl rfl rfl (fs_oc fs_ob1 trivial) rfl rfl (Nat.le_of_ble_eq_true rfl) ⟨Or.inr (Nat.le_of_ble_eq_true rfl), Or.inr fs_ob1⟩ (by decide) ?_
            refine fs_c_failAt ?_
            refine fs_r_iret (a := v) (L1 := [some (.inr (.ref 1)), some (.inl lo), some (.inl hi), some (.inl v), some (.inl ((M3 1 2) - (M3 1 6))), some (.inl gb)]) (M1 := (fs_up M3 1 3 (if M3 1 3 = -1 then (M3 1 6) else M3 1 3))) (ob := []) rfl rfl trivial (Or.inl rfl) ?_
            have ea : eD (M 2) (M 1 1) q = a := by rw [← e3]; exact skp_z nd
            have nv : a - q ≤ 4 → v = nV (M 2) (M 1 1) (M 1 2) := fun z => by
              show v = dvN (M 2) (qB (M 2) (M 1 1) (M 1 2)) (eD (M 2) (M 1 1) (qB (M 2) (M 1 1) (M 1 2)) - qB (M 2) (M 1 1) (M 1 2)).toNat
              rw [hq, ea, v0, show (min (a - q) 5).toNat = (a - q).toNat by omega]
            have ne : nE (M 2) (M 1 1) (M 1 2) = a := by rw [eE]; exact ea
            have fr : ∀ r, r ≠ 1 → M3 r = M r := fun r z => by rw [m3, fs_up_other z, fs_up_other z]
            first
              | (have ok : M 1 3 = -1 → nOk (M 2) (M 1 1) lo hi (M 1 2) := fun f0 => by
                   have xq := d3 q (by omega) (by omega)
                   have vv := nv (by omega)
                   refine ⟨by rw [hq]; exact xq, fun gg => ?_, by rw [ne, hq]; omega, by omega, by omega⟩
                   have gg2 := gg
                   obtain ⟨g1, g2, g3, g4⟩ := gg
                   rw [hq] at g1
                   rcases hw f0 with w | w
                   · omega
                   · exact w.2 gg2 (by rw [← g1]; exact xq)
                 refine hq0 _ _ fr ⟨mn, m14, m15, mq⟩ (by rw [ma, ne]) ?_ ⟨fun _ => nv (by omega), by omega, by omega⟩
                 rw [m13]
                 unfold nF
                 by_cases f0 : M 1 3 = -1
                 · rw [if_pos f0, if_pos (ok f0), f0]
                 · rw [if_neg f0])
              | (have no : M 1 3 = -1 → ¬ nOk (M 2) (M 1 1) lo hi (M 1 2) := fun f0 ok => by
                   obtain ⟨k1, k2, k3, k4, k5⟩ := ok
                   rw [hq] at k1 k3
                   rw [ne] at k3
                   have vv := nv k3
                   rcases hw f0 with w | w
                   · by_cases z : q = M 1 2
                     · exact k2 ⟨by rw [hq]; exact z, w.2.1, Or.inr (by rw [← z]; exact k1), Or.inl w.2.2⟩
                     · have aq : q < a := by
                         rcases (show q < a ∨ q = a by omega) with y | y
                         · exact y
                         · exact absurd (by rw [← y]; exact k1) nd
                       omega
                   · have aq : q < a := by
                       rcases (show q < a ∨ q = a by omega) with y | y
                       · exact y
                       · exact absurd (by rw [← y]; exact k1) nd
                     omega
                 refine hq0 _ _ (fun r z => by rw [fs_up_other z]; exact fr r z) ⟨by rw [fs_up_at, if_neg (by omega)]; exact mn, by rw [fs_up_at, if_neg (by omega)]; exact m14, by rw [fs_up_at, if_neg (by omega)]; exact m15, by rw [fs_up_at, if_neg (by omega)]; exact mq⟩ (by rw [fs_up_at, if_neg (by omega), ma, ne]) ?_ ⟨fun z => ?_, by omega, by omega⟩
                 · rw [fs_up_at, if_pos rfl, m13, mq]
                   unfold nF
                   by_cases f0 : M 1 3 = -1
                   · rw [if_pos f0, if_pos f0, if_neg (no f0), hq]
                   · rw [if_neg f0, if_neg f0]
                 · rw [fs_up_at, if_pos rfl, m13, mq] at z
                   split at z <;> omega)
          refine fs_r_icmp (a := v) (y := hi) (L1 := [some (.inr (.ref 1)), some (.inl lo), some (.inl hi), some (.inl v), some (.inl ((M3 1 2) - (M3 1 6))), some (.inl gb)]) (st1 := []) (M1 := M3) (ob := []) rfl rfl trivial (fun (h6 : v ≤ hi) => ?_) (fun (h6 : ¬ (v ≤ hi)) => ?_)
          · refine fs_r_iret (a := v) (L1 := [some (.inr (.ref 1)), some (.inl lo), some (.inl hi), some (.inl v), some (.inl ((M3 1 2) - (M3 1 6))), some (.inl gb)]) (M1 := M3) (ob := []) rfl rfl trivial (Or.inl rfl) ?_
            have ea : eD (M 2) (M 1 1) q = a := by rw [← e3]; exact skp_z nd
            have nv : a - q ≤ 4 → v = nV (M 2) (M 1 1) (M 1 2) := fun z => by
              show v = dvN (M 2) (qB (M 2) (M 1 1) (M 1 2)) (eD (M 2) (M 1 1) (qB (M 2) (M 1 1) (M 1 2)) - qB (M 2) (M 1 1) (M 1 2)).toNat
              rw [hq, ea, v0, show (min (a - q) 5).toNat = (a - q).toNat by omega]
            have ne : nE (M 2) (M 1 1) (M 1 2) = a := by rw [eE]; exact ea
            have fr : ∀ r, r ≠ 1 → M3 r = M r := fun r z => by rw [m3, fs_up_other z, fs_up_other z]
            first
              | (have ok : M 1 3 = -1 → nOk (M 2) (M 1 1) lo hi (M 1 2) := fun f0 => by
                   have xq := d3 q (by omega) (by omega)
                   have vv := nv (by omega)
                   refine ⟨by rw [hq]; exact xq, fun gg => ?_, by rw [ne, hq]; omega, by omega, by omega⟩
                   have gg2 := gg
                   obtain ⟨g1, g2, g3, g4⟩ := gg
                   rw [hq] at g1
                   rcases hw f0 with w | w
                   · omega
                   · exact w.2 gg2 (by rw [← g1]; exact xq)
                 refine hq0 _ _ fr ⟨mn, m14, m15, mq⟩ (by rw [ma, ne]) ?_ ⟨fun _ => nv (by omega), by omega, by omega⟩
                 rw [m13]
                 unfold nF
                 by_cases f0 : M 1 3 = -1
                 · rw [if_pos f0, if_pos (ok f0), f0]
                 · rw [if_neg f0])
              | (have no : M 1 3 = -1 → ¬ nOk (M 2) (M 1 1) lo hi (M 1 2) := fun f0 ok => by
                   obtain ⟨k1, k2, k3, k4, k5⟩ := ok
                   rw [hq] at k1 k3
                   rw [ne] at k3
                   have vv := nv k3
                   rcases hw f0 with w | w
                   · by_cases z : q = M 1 2
                     · exact k2 ⟨by rw [hq]; exact z, w.2.1, Or.inr (by rw [← z]; exact k1), Or.inl w.2.2⟩
                     · have aq : q < a := by
                         rcases (show q < a ∨ q = a by omega) with y | y
                         · exact y
                         · exact absurd (by rw [← y]; exact k1) nd
                       omega
                   · have aq : q < a := by
                       rcases (show q < a ∨ q = a by omega) with y | y
                       · exact y
                       · exact absurd (by rw [← y]; exact k1) nd
                     omega
                 refine hq0 _ _ (fun r z => by rw [fs_up_other z]; exact fr r z) ⟨by rw [fs_up_at, if_neg (by omega)]; exact mn, by rw [fs_up_at, if_neg (by omega)]; exact m14, by rw [fs_up_at, if_neg (by omega)]; exact m15, by rw [fs_up_at, if_neg (by omega)]; exact mq⟩ (by rw [fs_up_at, if_neg (by omega), ma, ne]) ?_ ⟨fun z => ?_, by omega, by omega⟩
                 · rw [fs_up_at, if_pos rfl, m13, mq]
                   unfold nF
                   by_cases f0 : M 1 3 = -1
                   · rw [if_pos f0, if_pos f0, if_neg (no f0), hq]
                   · rw [if_neg f0, if_neg f0]
                 · rw [fs_up_at, if_pos rfl, m13, mq] at z
                   split at z <;> omega)
          refine fs_r_call (sta := false) (idx := 91) (as := [.inr (.ref 1), .inl (M3 1 6)]) (rest := []) (L1 := [some (.inr (.ref 1)), some (.inl lo), some (.inl hi), some (.inl v), some (.inl ((M3 1 2) - (M3 1 6))), some (.inl gb)]) (st1 := [.inl (M3 1 6), .inr (.ref 1)]) (M1 := M3) (ob := [1 < fs_N ∧ fs_kd 1 = 4]) rfl rfl rfl (fs_oc fs_ob1 trivial) rfl rfl (Nat.le_of_ble_eq_true rfl) ⟨Or.inr (Nat.le_of_ble_eq_true rfl), Or.inr fs_ob1⟩ (by decide) ?_
          refine fs_c_failAt ?_
          refine fs_r_iret (a := v) (L1 := [some (.inr (.ref 1)), some (.inl lo), some (.inl hi), some (.inl v), some (.inl ((M3 1 2) - (M3 1 6))), some (.inl gb)]) (M1 := (fs_up M3 1 3 (if M3 1 3 = -1 then (M3 1 6) else M3 1 3))) (ob := []) rfl rfl trivial (Or.inl rfl) ?_
          have ea : eD (M 2) (M 1 1) q = a := by rw [← e3]; exact skp_z nd
          have nv : a - q ≤ 4 → v = nV (M 2) (M 1 1) (M 1 2) := fun z => by
            show v = dvN (M 2) (qB (M 2) (M 1 1) (M 1 2)) (eD (M 2) (M 1 1) (qB (M 2) (M 1 1) (M 1 2)) - qB (M 2) (M 1 1) (M 1 2)).toNat
            rw [hq, ea, v0, show (min (a - q) 5).toNat = (a - q).toNat by omega]
          have ne : nE (M 2) (M 1 1) (M 1 2) = a := by rw [eE]; exact ea
          have fr : ∀ r, r ≠ 1 → M3 r = M r := fun r z => by rw [m3, fs_up_other z, fs_up_other z]
          first
            | (have ok : M 1 3 = -1 → nOk (M 2) (M 1 1) lo hi (M 1 2) := fun f0 => by
                 have xq := d3 q (by omega) (by omega)
                 have vv := nv (by omega)
                 refine ⟨by rw [hq]; exact xq, fun gg => ?_, by rw [ne, hq]; omega, by omega, by omega⟩
                 have gg2 := gg
                 obtain ⟨g1, g2, g3, g4⟩ := gg
                 rw [hq] at g1
                 rcases hw f0 with w | w
                 · omega
                 · exact w.2 gg2 (by rw [← g1]; exact xq)
               refine hq0 _ _ fr ⟨mn, m14, m15, mq⟩ (by rw [ma, ne]) ?_ ⟨fun _ => nv (by omega), by omega, by omega⟩
               rw [m13]
               unfold nF
               by_cases f0 : M 1 3 = -1
               · rw [if_pos f0, if_pos (ok f0), f0]
               · rw [if_neg f0])
            | (have no : M 1 3 = -1 → ¬ nOk (M 2) (M 1 1) lo hi (M 1 2) := fun f0 ok => by
                 obtain ⟨k1, k2, k3, k4, k5⟩ := ok
                 rw [hq] at k1 k3
                 rw [ne] at k3
                 have vv := nv k3
                 rcases hw f0 with w | w
                 · by_cases z : q = M 1 2
                   · exact k2 ⟨by rw [hq]; exact z, w.2.1, Or.inr (by rw [← z]; exact k1), Or.inl w.2.2⟩
                   · have aq : q < a := by
                       rcases (show q < a ∨ q = a by omega) with y | y
                       · exact y
                       · exact absurd (by rw [← y]; exact k1) nd
                     omega
                 · have aq : q < a := by
                     rcases (show q < a ∨ q = a by omega) with y | y
                     · exact y
                     · exact absurd (by rw [← y]; exact k1) nd
                   omega
               refine hq0 _ _ (fun r z => by rw [fs_up_other z]; exact fr r z) ⟨by rw [fs_up_at, if_neg (by omega)]; exact mn, by rw [fs_up_at, if_neg (by omega)]; exact m14, by rw [fs_up_at, if_neg (by omega)]; exact m15, by rw [fs_up_at, if_neg (by omega)]; exact mq⟩ (by rw [fs_up_at, if_neg (by omega), ma, ne]) ?_ ⟨fun z => ?_, by omega, by omega⟩
               · rw [fs_up_at, if_pos rfl, m13, mq]
                 unfold nF
                 by_cases f0 : M 1 3 = -1
                 · rw [if_pos f0, if_pos f0, if_neg (no f0), hq]
                 · rw [if_neg f0, if_neg f0]
               · rw [fs_up_at, if_pos rfl, m13, mq] at z
                 split at z <;> omega)
        refine fs_r_icmp (a := (M3 1 6)) (y := (M3 1 5)) (L1 := [some (.inr (.ref 1)), some (.inl lo), some (.inl hi), some (.inl v), some (.inl ((M3 1 2) - (M3 1 6))), zl5]) (st1 := []) (M1 := M3) (ob := [1 < fs_N ∧ fs_kd 1 = 4, 1 < fs_N ∧ fs_kd 1 = 4, fs_rg ((M3 1 2) - (M3 1 6)), 4 < 6, 1 < fs_N ∧ fs_kd 1 = 4, 1 < fs_N ∧ fs_kd 1 = 4]) rfl (fs_exA 6 (o1 := [1 < fs_N ∧ fs_kd 1 = 4, 1 < fs_N ∧ fs_kd 1 = 4, fs_rg ((M3 1 2) - (M3 1 6)), 4 < 6]) (L1 := [some (.inr (.ref 1)), some (.inl lo), some (.inl hi), some (.inl v), some (.inl ((M3 1 2) - (M3 1 6))), zl5]) (st1 := []) (M1 := M3) (o2 := [1 < fs_N ∧ fs_kd 1 = 4, 1 < fs_N ∧ fs_kd 1 = 4]) rfl rfl) (fs_oc fs_ob1 (fs_oc fs_ob1 (fs_oc ⟨by omega, by omega⟩ (fs_oc (by decide) (fs_oc fs_ob1 (fs_oc fs_ob1 trivial)))))) (fun (h7 : ¬ (M3 1 6) = (M3 1 5)) => ?_) (fun (h7 : ¬ (¬ (M3 1 6) = (M3 1 5))) => ?_)
        · refine fs_r_nop (L1 := [some (.inr (.ref 1)), some (.inl lo), some (.inl hi), some (.inl v), some (.inl ((M3 1 2) - (M3 1 6))), zl5]) (st1 := [.inl 0]) (M1 := M3) (ob := []) rfl rfl trivial ?_
          exact join106 (0) (by omega)
        refine fs_r_goto (L1 := [some (.inr (.ref 1)), some (.inl lo), some (.inl hi), some (.inl v), some (.inl ((M3 1 2) - (M3 1 6))), zl5]) (st1 := [.inl 1]) (M1 := M3) (ob := []) rfl rfl trivial ?_
        exact join106 (1) (by omega)
      refine fs_r_call (sta := false) (idx := 95) (as := [.inr (.ref 1), .inl (M3 1 2)]) (rest := []) (L1 := [some (.inr (.ref 1)), some (.inl lo), some (.inl hi), some (.inl v), zl4, zl5]) (st1 := [.inl (M3 1 2), .inr (.ref 1)]) (M1 := M3) (ob := [1 < fs_N ∧ fs_kd 1 = 4]) rfl rfl rfl (fs_oc fs_ob1 trivial) rfl rfl (Nat.le_of_ble_eq_true rfl) ⟨Or.inr (Nat.le_of_ble_eq_true rfl), Or.inr fs_ob1⟩ (by decide) ?_
      refine fs_c_isDigitAt (by omega) (fun (dg : 0 ≤ (M3 1 2) ∧ xD (M3 2) (M3 1 1) (M3 1 2)) => ?_) (fun (dg : ¬ (0 ≤ (M3 1 2) ∧ xD (M3 2) (M3 1 1) (M3 1 2))) => ?_)
      · refine fs_r_if (a := 1) (L1 := [some (.inr (.ref 1)), some (.inl lo), some (.inl hi), some (.inl v), zl4, zl5]) (st1 := []) (M1 := M3) (ob := []) rfl rfl trivial (fun h => absurd h (by decide : ¬ ((1 : Int) = 0))) (fun _ => ?_)
        have xd : xD (M 2) (M 1 1) a := by { have w := dg.2; rw [ma, mn, mt] at w; exact w }
        refine fs_r_icmp (a := ((M3 1 2) - (M3 1 6))) (y := 5) (L1 := [some (.inr (.ref 1)), some (.inl lo), some (.inl hi), some (.inl v), zl4, zl5]) (st1 := []) (M1 := M3) (ob := [1 < fs_N ∧ fs_kd 1 = 4, 1 < fs_N ∧ fs_kd 1 = 4, fs_rg ((M3 1 2) - (M3 1 6))]) rfl rfl (fs_oc fs_ob1 (fs_oc fs_ob1 (fs_oc ⟨by omega, by omega⟩ trivial))) (fun (h8 : 5 ≤ ((M3 1 2) - (M3 1 6))) => ?_) (fun (h8 : ¬ (5 ≤ ((M3 1 2) - (M3 1 6)))) => ?_)
        · refine fs_r_goto (L1 := [some (.inr (.ref 1)), some (.inl lo), some (.inl hi), some (.inl v), zl4, zl5]) (st1 := []) (M1 := (fs_up M3 1 2 ((M3 1 2) + 1))) (ob := [1 < fs_N ∧ fs_kd 1 = 4, fs_rg ((M3 1 2) + 1), 1 < fs_N ∧ fs_kd 1 = 4]) rfl rfl (fs_oc fs_ob1 (fs_oc ⟨by omega, by omega⟩ (fs_oc fs_ob1 trivial))) ?_
          exact ih14 (v) (zl4) (zl5) (fs_up M3 1 2 ((M3 1 2) + 1)) ((a + 1)) (by omega) (by rw [ma, m3]; funext r i; unfold fs_up; by_cases z : r = 1 ∧ i = 2; (rw [if_pos z, if_neg (by omega), if_pos z]); (rw [if_neg z]; by_cases y : r = 1 ∧ i = 6; (rw [if_pos y, if_pos y]); (rw [if_neg y, if_neg y, if_neg z, if_neg z]))) (fun j j0 j1 => by rcases (show j < a ∨ j = a by omega) with z | z; exact d3 j j0 z; (rw [z]; exact xd)) (by
                 first
                   | (rw [show (min (a + 1 - q) 5).toNat = (a - q + 1).toNat by omega, dvN_s (by omega), show (min (a - q) 5).toNat = (a - q).toNat by omega] at *
                      have bb := be.1 (by omega)
                      rw [ma, mt] at bb
                      rw [bb, v0, show q + (a - q) = a by omega])
                   | (rw [show (min (a + 1 - q) 5).toNat = (min (a - q) 5).toNat by omega]; exact v0)) (by rw [← e3]; exact (skp_s (P := xD (M 2) (M 1 1)) xd (by omega)).symm) (by omega)
        refine fs_r_call (sta := false) (idx := 46) (as := [.inr (.ref 1), .inl (M3 1 2)]) (rest := [.inl (v * 10)]) (L1 := [some (.inr (.ref 1)), some (.inl lo), some (.inl hi), some (.inl v), zl4, zl5]) (st1 := [.inl (M3 1 2), .inr (.ref 1), .inl (v * 10)]) (M1 := M3) (ob := [fs_rg (v * 10), 1 < fs_N ∧ fs_kd 1 = 4]) rfl rfl rfl (fs_oc ⟨by omega, by omega⟩ (fs_oc fs_ob1 trivial)) rfl rfl (Nat.le_of_ble_eq_true rfl) ⟨Or.inr (Nat.le_of_ble_eq_true rfl), Or.inr fs_ob1⟩ (by decide) ?_
        refine fs_c_byteAt (by omega) (fun (bx : Int) (be : (0 ≤ (M3 1 2) ∧ (M3 1 2) < M3 1 1 → bx = M3 2 (M3 1 2)) ∧ (¬ (0 ≤ (M3 1 2) ∧ (M3 1 2) < M3 1 1) → bx = 0)) => ?_)
        refine fs_r_nop (L1 := [some (.inr (.ref 1)), some (.inl lo), some (.inl hi), some (.inl (((v * 10) + bx) - 48)), zl4, zl5]) (st1 := []) (M1 := M3) (ob := [fs_rg ((v * 10) + bx), fs_rg (((v * 10) + bx) - 48), 3 < 6]) rfl rfl (fs_oc ⟨by omega, by omega⟩ (fs_oc ⟨by omega, by omega⟩ (fs_oc (by decide) trivial))) ?_
        refine fs_r_goto (L1 := [some (.inr (.ref 1)), some (.inl lo), some (.inl hi), some (.inl (((v * 10) + bx) - 48)), zl4, zl5]) (st1 := []) (M1 := (fs_up M3 1 2 ((M3 1 2) + 1))) (ob := [1 < fs_N ∧ fs_kd 1 = 4, fs_rg ((M3 1 2) + 1), 1 < fs_N ∧ fs_kd 1 = 4]) rfl rfl (fs_oc fs_ob1 (fs_oc ⟨by omega, by omega⟩ (fs_oc fs_ob1 trivial))) ?_
        exact ih14 ((((v * 10) + bx) - 48)) (zl4) (zl5) (fs_up M3 1 2 ((M3 1 2) + 1)) ((a + 1)) (by omega) (by rw [ma, m3]; funext r i; unfold fs_up; by_cases z : r = 1 ∧ i = 2; (rw [if_pos z, if_neg (by omega), if_pos z]); (rw [if_neg z]; by_cases y : r = 1 ∧ i = 6; (rw [if_pos y, if_pos y]); (rw [if_neg y, if_neg y, if_neg z, if_neg z]))) (fun j j0 j1 => by rcases (show j < a ∨ j = a by omega) with z | z; exact d3 j j0 z; (rw [z]; exact xd)) (by
               first
                 | (rw [show (min (a + 1 - q) 5).toNat = (a - q + 1).toNat by omega, dvN_s (by omega), show (min (a - q) 5).toNat = (a - q).toNat by omega] at *
                    have bb := be.1 (by omega)
                    rw [ma, mt] at bb
                    rw [bb, v0, show q + (a - q) = a by omega])
                 | (rw [show (min (a + 1 - q) 5).toNat = (min (a - q) 5).toNat by omega]; exact v0)) (by rw [← e3]; exact (skp_s (P := xD (M 2) (M 1 1)) xd (by omega)).symm) (by omega)
      refine fs_r_if (a := 0) (L1 := [some (.inr (.ref 1)), some (.inl lo), some (.inl hi), some (.inl v), zl4, zl5]) (st1 := []) (M1 := M3) (ob := []) rfl rfl trivial (fun _ => ?_) (fun h => absurd (by decide : (0 : Int) = 0) h)
      have nd : ¬ xD (M 2) (M 1 1) a := fun z => by
        first
          | omega
          | (apply dg; rw [ma, mn, mt]; exact ⟨by omega, z⟩)
      have join106 : ∀ (gb : Int), ((gb = 1 ∧ q = M 1 5) ∨ (gb = 0 ∧ q ≠ M 1 5)) → fs_W (d + 2) 69 106 [some (.inr (.ref 1)), some (.inl lo), some (.inl hi), some (.inl v), some (.inl ((M3 1 2) - (M3 1 6))), zl5] [.inl gb] M3 Q := by
        intro gb g0
        refine fs_r_if (a := gb) (L1 := [some (.inr (.ref 1)), some (.inl lo), some (.inl hi), some (.inl v), some (.inl ((M3 1 2) - (M3 1 6))), some (.inl gb)]) (st1 := []) (M1 := M3) (ob := [5 < 6]) rfl rfl (fs_oc (by decide) trivial) (fun (h9 : ¬ gb = 0) => ?_) (fun (h9 : ¬ (¬ gb = 0)) => ?_)
        · refine fs_r_call (sta := false) (idx := 91) (as := [.inr (.ref 1), .inl (M3 1 6)]) (rest := []) (L1 := [some (.inr (.ref 1)), some (.inl lo), some (.inl hi), some (.inl v), some (.inl ((M3 1 2) - (M3 1 6))), some (.inl gb)]) (st1 := [.inl (M3 1 6), .inr (.ref 1)]) (M1 := M3) (ob := [1 < fs_N ∧ fs_kd 1 = 4]) rfl rfl rfl (fs_oc fs_ob1 trivial) rfl rfl (Nat.le_of_ble_eq_true rfl) ⟨Or.inr (Nat.le_of_ble_eq_true rfl), Or.inr fs_ob1⟩ (by decide) ?_
          refine fs_c_failAt ?_
          refine fs_r_iret (a := v) (L1 := [some (.inr (.ref 1)), some (.inl lo), some (.inl hi), some (.inl v), some (.inl ((M3 1 2) - (M3 1 6))), some (.inl gb)]) (M1 := (fs_up M3 1 3 (if M3 1 3 = -1 then (M3 1 6) else M3 1 3))) (ob := []) rfl rfl trivial (Or.inl rfl) ?_
          have ea : eD (M 2) (M 1 1) q = a := by rw [← e3]; exact skp_z nd
          have nv : a - q ≤ 4 → v = nV (M 2) (M 1 1) (M 1 2) := fun z => by
            show v = dvN (M 2) (qB (M 2) (M 1 1) (M 1 2)) (eD (M 2) (M 1 1) (qB (M 2) (M 1 1) (M 1 2)) - qB (M 2) (M 1 1) (M 1 2)).toNat
            rw [hq, ea, v0, show (min (a - q) 5).toNat = (a - q).toNat by omega]
          have ne : nE (M 2) (M 1 1) (M 1 2) = a := by rw [eE]; exact ea
          have fr : ∀ r, r ≠ 1 → M3 r = M r := fun r z => by rw [m3, fs_up_other z, fs_up_other z]
          first
            | (have ok : M 1 3 = -1 → nOk (M 2) (M 1 1) lo hi (M 1 2) := fun f0 => by
                 have xq := d3 q (by omega) (by omega)
                 have vv := nv (by omega)
                 refine ⟨by rw [hq]; exact xq, fun gg => ?_, by rw [ne, hq]; omega, by omega, by omega⟩
                 have gg2 := gg
                 obtain ⟨g1, g2, g3, g4⟩ := gg
                 rw [hq] at g1
                 rcases hw f0 with w | w
                 · omega
                 · exact w.2 gg2 (by rw [← g1]; exact xq)
               refine hq0 _ _ fr ⟨mn, m14, m15, mq⟩ (by rw [ma, ne]) ?_ ⟨fun _ => nv (by omega), by omega, by omega⟩
               rw [m13]
               unfold nF
               by_cases f0 : M 1 3 = -1
               · rw [if_pos f0, if_pos (ok f0), f0]
               · rw [if_neg f0])
            | (have no : M 1 3 = -1 → ¬ nOk (M 2) (M 1 1) lo hi (M 1 2) := fun f0 ok => by
                 obtain ⟨k1, k2, k3, k4, k5⟩ := ok
                 rw [hq] at k1 k3
                 rw [ne] at k3
                 have vv := nv k3
                 rcases hw f0 with w | w
                 · by_cases z : q = M 1 2
                   · exact k2 ⟨by rw [hq]; exact z, w.2.1, Or.inr (by rw [← z]; exact k1), Or.inl w.2.2⟩
                   · have aq : q < a := by
                       rcases (show q < a ∨ q = a by omega) with y | y
                       · exact y
                       · exact absurd (by rw [← y]; exact k1) nd
                     omega
                 · have aq : q < a := by
                     rcases (show q < a ∨ q = a by omega) with y | y
                     · exact y
                     · exact absurd (by rw [← y]; exact k1) nd
                   omega
               refine hq0 _ _ (fun r z => by rw [fs_up_other z]; exact fr r z) ⟨by rw [fs_up_at, if_neg (by omega)]; exact mn, by rw [fs_up_at, if_neg (by omega)]; exact m14, by rw [fs_up_at, if_neg (by omega)]; exact m15, by rw [fs_up_at, if_neg (by omega)]; exact mq⟩ (by rw [fs_up_at, if_neg (by omega), ma, ne]) ?_ ⟨fun z => ?_, by omega, by omega⟩
               · rw [fs_up_at, if_pos rfl, m13, mq]
                 unfold nF
                 by_cases f0 : M 1 3 = -1
                 · rw [if_pos f0, if_pos f0, if_neg (no f0), hq]
                 · rw [if_neg f0, if_neg f0]
               · rw [fs_up_at, if_pos rfl, m13, mq] at z
                 split at z <;> omega)
        refine fs_r_if (a := ((M3 1 2) - (M3 1 6))) (L1 := [some (.inr (.ref 1)), some (.inl lo), some (.inl hi), some (.inl v), some (.inl ((M3 1 2) - (M3 1 6))), some (.inl gb)]) (st1 := []) (M1 := M3) (ob := []) rfl rfl trivial (fun (h10 : ((M3 1 2) - (M3 1 6)) = 0) => ?_) (fun (h10 : ¬ (((M3 1 2) - (M3 1 6)) = 0)) => ?_)
        · refine fs_r_call (sta := false) (idx := 91) (as := [.inr (.ref 1), .inl (M3 1 6)]) (rest := []) (L1 := [some (.inr (.ref 1)), some (.inl lo), some (.inl hi), some (.inl v), some (.inl ((M3 1 2) - (M3 1 6))), some (.inl gb)]) (st1 := [.inl (M3 1 6), .inr (.ref 1)]) (M1 := M3) (ob := [1 < fs_N ∧ fs_kd 1 = 4]) rfl rfl rfl (fs_oc fs_ob1 trivial) rfl rfl (Nat.le_of_ble_eq_true rfl) ⟨Or.inr (Nat.le_of_ble_eq_true rfl), Or.inr fs_ob1⟩ (by decide) ?_
          refine fs_c_failAt ?_
          refine fs_r_iret (a := v) (L1 := [some (.inr (.ref 1)), some (.inl lo), some (.inl hi), some (.inl v), some (.inl ((M3 1 2) - (M3 1 6))), some (.inl gb)]) (M1 := (fs_up M3 1 3 (if M3 1 3 = -1 then (M3 1 6) else M3 1 3))) (ob := []) rfl rfl trivial (Or.inl rfl) ?_
          have ea : eD (M 2) (M 1 1) q = a := by rw [← e3]; exact skp_z nd
          have nv : a - q ≤ 4 → v = nV (M 2) (M 1 1) (M 1 2) := fun z => by
            show v = dvN (M 2) (qB (M 2) (M 1 1) (M 1 2)) (eD (M 2) (M 1 1) (qB (M 2) (M 1 1) (M 1 2)) - qB (M 2) (M 1 1) (M 1 2)).toNat
            rw [hq, ea, v0, show (min (a - q) 5).toNat = (a - q).toNat by omega]
          have ne : nE (M 2) (M 1 1) (M 1 2) = a := by rw [eE]; exact ea
          have fr : ∀ r, r ≠ 1 → M3 r = M r := fun r z => by rw [m3, fs_up_other z, fs_up_other z]
          first
            | (have ok : M 1 3 = -1 → nOk (M 2) (M 1 1) lo hi (M 1 2) := fun f0 => by
                 have xq := d3 q (by omega) (by omega)
                 have vv := nv (by omega)
                 refine ⟨by rw [hq]; exact xq, fun gg => ?_, by rw [ne, hq]; omega, by omega, by omega⟩
                 have gg2 := gg
                 obtain ⟨g1, g2, g3, g4⟩ := gg
                 rw [hq] at g1
                 rcases hw f0 with w | w
                 · omega
                 · exact w.2 gg2 (by rw [← g1]; exact xq)
               refine hq0 _ _ fr ⟨mn, m14, m15, mq⟩ (by rw [ma, ne]) ?_ ⟨fun _ => nv (by omega), by omega, by omega⟩
               rw [m13]
               unfold nF
               by_cases f0 : M 1 3 = -1
               · rw [if_pos f0, if_pos (ok f0), f0]
               · rw [if_neg f0])
            | (have no : M 1 3 = -1 → ¬ nOk (M 2) (M 1 1) lo hi (M 1 2) := fun f0 ok => by
                 obtain ⟨k1, k2, k3, k4, k5⟩ := ok
                 rw [hq] at k1 k3
                 rw [ne] at k3
                 have vv := nv k3
                 rcases hw f0 with w | w
                 · by_cases z : q = M 1 2
                   · exact k2 ⟨by rw [hq]; exact z, w.2.1, Or.inr (by rw [← z]; exact k1), Or.inl w.2.2⟩
                   · have aq : q < a := by
                       rcases (show q < a ∨ q = a by omega) with y | y
                       · exact y
                       · exact absurd (by rw [← y]; exact k1) nd
                     omega
                 · have aq : q < a := by
                     rcases (show q < a ∨ q = a by omega) with y | y
                     · exact y
                     · exact absurd (by rw [← y]; exact k1) nd
                   omega
               refine hq0 _ _ (fun r z => by rw [fs_up_other z]; exact fr r z) ⟨by rw [fs_up_at, if_neg (by omega)]; exact mn, by rw [fs_up_at, if_neg (by omega)]; exact m14, by rw [fs_up_at, if_neg (by omega)]; exact m15, by rw [fs_up_at, if_neg (by omega)]; exact mq⟩ (by rw [fs_up_at, if_neg (by omega), ma, ne]) ?_ ⟨fun z => ?_, by omega, by omega⟩
               · rw [fs_up_at, if_pos rfl, m13, mq]
                 unfold nF
                 by_cases f0 : M 1 3 = -1
                 · rw [if_pos f0, if_pos f0, if_neg (no f0), hq]
                 · rw [if_neg f0, if_neg f0]
               · rw [fs_up_at, if_pos rfl, m13, mq] at z
                 split at z <;> omega)
        refine fs_r_icmp (a := ((M3 1 2) - (M3 1 6))) (y := 4) (L1 := [some (.inr (.ref 1)), some (.inl lo), some (.inl hi), some (.inl v), some (.inl ((M3 1 2) - (M3 1 6))), some (.inl gb)]) (st1 := []) (M1 := M3) (ob := []) rfl rfl trivial (fun (h11 : 4 < ((M3 1 2) - (M3 1 6))) => ?_) (fun (h11 : ¬ (4 < ((M3 1 2) - (M3 1 6)))) => ?_)
        · refine fs_r_call (sta := false) (idx := 91) (as := [.inr (.ref 1), .inl (M3 1 6)]) (rest := []) (L1 := [some (.inr (.ref 1)), some (.inl lo), some (.inl hi), some (.inl v), some (.inl ((M3 1 2) - (M3 1 6))), some (.inl gb)]) (st1 := [.inl (M3 1 6), .inr (.ref 1)]) (M1 := M3) (ob := [1 < fs_N ∧ fs_kd 1 = 4]) rfl rfl rfl (fs_oc fs_ob1 trivial) rfl rfl (Nat.le_of_ble_eq_true rfl) ⟨Or.inr (Nat.le_of_ble_eq_true rfl), Or.inr fs_ob1⟩ (by decide) ?_
          refine fs_c_failAt ?_
          refine fs_r_iret (a := v) (L1 := [some (.inr (.ref 1)), some (.inl lo), some (.inl hi), some (.inl v), some (.inl ((M3 1 2) - (M3 1 6))), some (.inl gb)]) (M1 := (fs_up M3 1 3 (if M3 1 3 = -1 then (M3 1 6) else M3 1 3))) (ob := []) rfl rfl trivial (Or.inl rfl) ?_
          have ea : eD (M 2) (M 1 1) q = a := by rw [← e3]; exact skp_z nd
          have nv : a - q ≤ 4 → v = nV (M 2) (M 1 1) (M 1 2) := fun z => by
            show v = dvN (M 2) (qB (M 2) (M 1 1) (M 1 2)) (eD (M 2) (M 1 1) (qB (M 2) (M 1 1) (M 1 2)) - qB (M 2) (M 1 1) (M 1 2)).toNat
            rw [hq, ea, v0, show (min (a - q) 5).toNat = (a - q).toNat by omega]
          have ne : nE (M 2) (M 1 1) (M 1 2) = a := by rw [eE]; exact ea
          have fr : ∀ r, r ≠ 1 → M3 r = M r := fun r z => by rw [m3, fs_up_other z, fs_up_other z]
          first
            | (have ok : M 1 3 = -1 → nOk (M 2) (M 1 1) lo hi (M 1 2) := fun f0 => by
                 have xq := d3 q (by omega) (by omega)
                 have vv := nv (by omega)
                 refine ⟨by rw [hq]; exact xq, fun gg => ?_, by rw [ne, hq]; omega, by omega, by omega⟩
                 have gg2 := gg
                 obtain ⟨g1, g2, g3, g4⟩ := gg
                 rw [hq] at g1
                 rcases hw f0 with w | w
                 · omega
                 · exact w.2 gg2 (by rw [← g1]; exact xq)
               refine hq0 _ _ fr ⟨mn, m14, m15, mq⟩ (by rw [ma, ne]) ?_ ⟨fun _ => nv (by omega), by omega, by omega⟩
               rw [m13]
               unfold nF
               by_cases f0 : M 1 3 = -1
               · rw [if_pos f0, if_pos (ok f0), f0]
               · rw [if_neg f0])
            | (have no : M 1 3 = -1 → ¬ nOk (M 2) (M 1 1) lo hi (M 1 2) := fun f0 ok => by
                 obtain ⟨k1, k2, k3, k4, k5⟩ := ok
                 rw [hq] at k1 k3
                 rw [ne] at k3
                 have vv := nv k3
                 rcases hw f0 with w | w
                 · by_cases z : q = M 1 2
                   · exact k2 ⟨by rw [hq]; exact z, w.2.1, Or.inr (by rw [← z]; exact k1), Or.inl w.2.2⟩
                   · have aq : q < a := by
                       rcases (show q < a ∨ q = a by omega) with y | y
                       · exact y
                       · exact absurd (by rw [← y]; exact k1) nd
                     omega
                 · have aq : q < a := by
                     rcases (show q < a ∨ q = a by omega) with y | y
                     · exact y
                     · exact absurd (by rw [← y]; exact k1) nd
                   omega
               refine hq0 _ _ (fun r z => by rw [fs_up_other z]; exact fr r z) ⟨by rw [fs_up_at, if_neg (by omega)]; exact mn, by rw [fs_up_at, if_neg (by omega)]; exact m14, by rw [fs_up_at, if_neg (by omega)]; exact m15, by rw [fs_up_at, if_neg (by omega)]; exact mq⟩ (by rw [fs_up_at, if_neg (by omega), ma, ne]) ?_ ⟨fun z => ?_, by omega, by omega⟩
               · rw [fs_up_at, if_pos rfl, m13, mq]
                 unfold nF
                 by_cases f0 : M 1 3 = -1
                 · rw [if_pos f0, if_pos f0, if_neg (no f0), hq]
                 · rw [if_neg f0, if_neg f0]
               · rw [fs_up_at, if_pos rfl, m13, mq] at z
                 split at z <;> omega)
        refine fs_r_icmp (a := v) (y := lo) (L1 := [some (.inr (.ref 1)), some (.inl lo), some (.inl hi), some (.inl v), some (.inl ((M3 1 2) - (M3 1 6))), some (.inl gb)]) (st1 := []) (M1 := M3) (ob := []) rfl rfl trivial (fun (h12 : v < lo) => ?_) (fun (h12 : ¬ (v < lo)) => ?_)
        · refine fs_r_call (sta := false) (idx := 91) (as := [.inr (.ref 1), .inl (M3 1 6)]) (rest := []) (L1 := [some (.inr (.ref 1)), some (.inl lo), some (.inl hi), some (.inl v), some (.inl ((M3 1 2) - (M3 1 6))), some (.inl gb)]) (st1 := [.inl (M3 1 6), .inr (.ref 1)]) (M1 := M3) (ob := [1 < fs_N ∧ fs_kd 1 = 4]) rfl rfl rfl (fs_oc fs_ob1 trivial) rfl rfl (Nat.le_of_ble_eq_true rfl) ⟨Or.inr (Nat.le_of_ble_eq_true rfl), Or.inr fs_ob1⟩ (by decide) ?_
          refine fs_c_failAt ?_
          refine fs_r_iret (a := v) (L1 := [some (.inr (.ref 1)), some (.inl lo), some (.inl hi), some (.inl v), some (.inl ((M3 1 2) - (M3 1 6))), some (.inl gb)]) (M1 := (fs_up M3 1 3 (if M3 1 3 = -1 then (M3 1 6) else M3 1 3))) (ob := []) rfl rfl trivial (Or.inl rfl) ?_
          have ea : eD (M 2) (M 1 1) q = a := by rw [← e3]; exact skp_z nd
          have nv : a - q ≤ 4 → v = nV (M 2) (M 1 1) (M 1 2) := fun z => by
            show v = dvN (M 2) (qB (M 2) (M 1 1) (M 1 2)) (eD (M 2) (M 1 1) (qB (M 2) (M 1 1) (M 1 2)) - qB (M 2) (M 1 1) (M 1 2)).toNat
            rw [hq, ea, v0, show (min (a - q) 5).toNat = (a - q).toNat by omega]
          have ne : nE (M 2) (M 1 1) (M 1 2) = a := by rw [eE]; exact ea
          have fr : ∀ r, r ≠ 1 → M3 r = M r := fun r z => by rw [m3, fs_up_other z, fs_up_other z]
          first
            | (have ok : M 1 3 = -1 → nOk (M 2) (M 1 1) lo hi (M 1 2) := fun f0 => by
                 have xq := d3 q (by omega) (by omega)
                 have vv := nv (by omega)
                 refine ⟨by rw [hq]; exact xq, fun gg => ?_, by rw [ne, hq]; omega, by omega, by omega⟩
                 have gg2 := gg
                 obtain ⟨g1, g2, g3, g4⟩ := gg
                 rw [hq] at g1
                 rcases hw f0 with w | w
                 · omega
                 · exact w.2 gg2 (by rw [← g1]; exact xq)
               refine hq0 _ _ fr ⟨mn, m14, m15, mq⟩ (by rw [ma, ne]) ?_ ⟨fun _ => nv (by omega), by omega, by omega⟩
               rw [m13]
               unfold nF
               by_cases f0 : M 1 3 = -1
               · rw [if_pos f0, if_pos (ok f0), f0]
               · rw [if_neg f0])
            | (have no : M 1 3 = -1 → ¬ nOk (M 2) (M 1 1) lo hi (M 1 2) := fun f0 ok => by
                 obtain ⟨k1, k2, k3, k4, k5⟩ := ok
                 rw [hq] at k1 k3
                 rw [ne] at k3
                 have vv := nv k3
                 rcases hw f0 with w | w
                 · by_cases z : q = M 1 2
                   · exact k2 ⟨by rw [hq]; exact z, w.2.1, Or.inr (by rw [← z]; exact k1), Or.inl w.2.2⟩
                   · have aq : q < a := by
                       rcases (show q < a ∨ q = a by omega) with y | y
                       · exact y
                       · exact absurd (by rw [← y]; exact k1) nd
                     omega
                 · have aq : q < a := by
                     rcases (show q < a ∨ q = a by omega) with y | y
                     · exact y
                     · exact absurd (by rw [← y]; exact k1) nd
                   omega
               refine hq0 _ _ (fun r z => by rw [fs_up_other z]; exact fr r z) ⟨by rw [fs_up_at, if_neg (by omega)]; exact mn, by rw [fs_up_at, if_neg (by omega)]; exact m14, by rw [fs_up_at, if_neg (by omega)]; exact m15, by rw [fs_up_at, if_neg (by omega)]; exact mq⟩ (by rw [fs_up_at, if_neg (by omega), ma, ne]) ?_ ⟨fun z => ?_, by omega, by omega⟩
               · rw [fs_up_at, if_pos rfl, m13, mq]
                 unfold nF
                 by_cases f0 : M 1 3 = -1
                 · rw [if_pos f0, if_pos f0, if_neg (no f0), hq]
                 · rw [if_neg f0, if_neg f0]
               · rw [fs_up_at, if_pos rfl, m13, mq] at z
                 split at z <;> omega)
        refine fs_r_icmp (a := v) (y := hi) (L1 := [some (.inr (.ref 1)), some (.inl lo), some (.inl hi), some (.inl v), some (.inl ((M3 1 2) - (M3 1 6))), some (.inl gb)]) (st1 := []) (M1 := M3) (ob := []) rfl rfl trivial (fun (h13 : v ≤ hi) => ?_) (fun (h13 : ¬ (v ≤ hi)) => ?_)
        · refine fs_r_iret (a := v) (L1 := [some (.inr (.ref 1)), some (.inl lo), some (.inl hi), some (.inl v), some (.inl ((M3 1 2) - (M3 1 6))), some (.inl gb)]) (M1 := M3) (ob := []) rfl rfl trivial (Or.inl rfl) ?_
          have ea : eD (M 2) (M 1 1) q = a := by rw [← e3]; exact skp_z nd
          have nv : a - q ≤ 4 → v = nV (M 2) (M 1 1) (M 1 2) := fun z => by
            show v = dvN (M 2) (qB (M 2) (M 1 1) (M 1 2)) (eD (M 2) (M 1 1) (qB (M 2) (M 1 1) (M 1 2)) - qB (M 2) (M 1 1) (M 1 2)).toNat
            rw [hq, ea, v0, show (min (a - q) 5).toNat = (a - q).toNat by omega]
          have ne : nE (M 2) (M 1 1) (M 1 2) = a := by rw [eE]; exact ea
          have fr : ∀ r, r ≠ 1 → M3 r = M r := fun r z => by rw [m3, fs_up_other z, fs_up_other z]
          first
            | (have ok : M 1 3 = -1 → nOk (M 2) (M 1 1) lo hi (M 1 2) := fun f0 => by
                 have xq := d3 q (by omega) (by omega)
                 have vv := nv (by omega)
                 refine ⟨by rw [hq]; exact xq, fun gg => ?_, by rw [ne, hq]; omega, by omega, by omega⟩
                 have gg2 := gg
                 obtain ⟨g1, g2, g3, g4⟩ := gg
                 rw [hq] at g1
                 rcases hw f0 with w | w
                 · omega
                 · exact w.2 gg2 (by rw [← g1]; exact xq)
               refine hq0 _ _ fr ⟨mn, m14, m15, mq⟩ (by rw [ma, ne]) ?_ ⟨fun _ => nv (by omega), by omega, by omega⟩
               rw [m13]
               unfold nF
               by_cases f0 : M 1 3 = -1
               · rw [if_pos f0, if_pos (ok f0), f0]
               · rw [if_neg f0])
            | (have no : M 1 3 = -1 → ¬ nOk (M 2) (M 1 1) lo hi (M 1 2) := fun f0 ok => by
                 obtain ⟨k1, k2, k3, k4, k5⟩ := ok
                 rw [hq] at k1 k3
                 rw [ne] at k3
                 have vv := nv k3
                 rcases hw f0 with w | w
                 · by_cases z : q = M 1 2
                   · exact k2 ⟨by rw [hq]; exact z, w.2.1, Or.inr (by rw [← z]; exact k1), Or.inl w.2.2⟩
                   · have aq : q < a := by
                       rcases (show q < a ∨ q = a by omega) with y | y
                       · exact y
                       · exact absurd (by rw [← y]; exact k1) nd
                     omega
                 · have aq : q < a := by
                     rcases (show q < a ∨ q = a by omega) with y | y
                     · exact y
                     · exact absurd (by rw [← y]; exact k1) nd
                   omega
               refine hq0 _ _ (fun r z => by rw [fs_up_other z]; exact fr r z) ⟨by rw [fs_up_at, if_neg (by omega)]; exact mn, by rw [fs_up_at, if_neg (by omega)]; exact m14, by rw [fs_up_at, if_neg (by omega)]; exact m15, by rw [fs_up_at, if_neg (by omega)]; exact mq⟩ (by rw [fs_up_at, if_neg (by omega), ma, ne]) ?_ ⟨fun z => ?_, by omega, by omega⟩
               · rw [fs_up_at, if_pos rfl, m13, mq]
                 unfold nF
                 by_cases f0 : M 1 3 = -1
                 · rw [if_pos f0, if_pos f0, if_neg (no f0), hq]
                 · rw [if_neg f0, if_neg f0]
               · rw [fs_up_at, if_pos rfl, m13, mq] at z
                 split at z <;> omega)
        refine fs_r_call (sta := false) (idx := 91) (as := [.inr (.ref 1), .inl (M3 1 6)]) (rest := []) (L1 := [some (.inr (.ref 1)), some (.inl lo), some (.inl hi), some (.inl v), some (.inl ((M3 1 2) - (M3 1 6))), some (.inl gb)]) (st1 := [.inl (M3 1 6), .inr (.ref 1)]) (M1 := M3) (ob := [1 < fs_N ∧ fs_kd 1 = 4]) rfl rfl rfl (fs_oc fs_ob1 trivial) rfl rfl (Nat.le_of_ble_eq_true rfl) ⟨Or.inr (Nat.le_of_ble_eq_true rfl), Or.inr fs_ob1⟩ (by decide) ?_
        refine fs_c_failAt ?_
        refine fs_r_iret (a := v) (L1 := [some (.inr (.ref 1)), some (.inl lo), some (.inl hi), some (.inl v), some (.inl ((M3 1 2) - (M3 1 6))), some (.inl gb)]) (M1 := (fs_up M3 1 3 (if M3 1 3 = -1 then (M3 1 6) else M3 1 3))) (ob := []) rfl rfl trivial (Or.inl rfl) ?_
        have ea : eD (M 2) (M 1 1) q = a := by rw [← e3]; exact skp_z nd
        have nv : a - q ≤ 4 → v = nV (M 2) (M 1 1) (M 1 2) := fun z => by
          show v = dvN (M 2) (qB (M 2) (M 1 1) (M 1 2)) (eD (M 2) (M 1 1) (qB (M 2) (M 1 1) (M 1 2)) - qB (M 2) (M 1 1) (M 1 2)).toNat
          rw [hq, ea, v0, show (min (a - q) 5).toNat = (a - q).toNat by omega]
        have ne : nE (M 2) (M 1 1) (M 1 2) = a := by rw [eE]; exact ea
        have fr : ∀ r, r ≠ 1 → M3 r = M r := fun r z => by rw [m3, fs_up_other z, fs_up_other z]
        first
          | (have ok : M 1 3 = -1 → nOk (M 2) (M 1 1) lo hi (M 1 2) := fun f0 => by
               have xq := d3 q (by omega) (by omega)
               have vv := nv (by omega)
               refine ⟨by rw [hq]; exact xq, fun gg => ?_, by rw [ne, hq]; omega, by omega, by omega⟩
               have gg2 := gg
               obtain ⟨g1, g2, g3, g4⟩ := gg
               rw [hq] at g1
               rcases hw f0 with w | w
               · omega
               · exact w.2 gg2 (by rw [← g1]; exact xq)
             refine hq0 _ _ fr ⟨mn, m14, m15, mq⟩ (by rw [ma, ne]) ?_ ⟨fun _ => nv (by omega), by omega, by omega⟩
             rw [m13]
             unfold nF
             by_cases f0 : M 1 3 = -1
             · rw [if_pos f0, if_pos (ok f0), f0]
             · rw [if_neg f0])
          | (have no : M 1 3 = -1 → ¬ nOk (M 2) (M 1 1) lo hi (M 1 2) := fun f0 ok => by
               obtain ⟨k1, k2, k3, k4, k5⟩ := ok
               rw [hq] at k1 k3
               rw [ne] at k3
               have vv := nv k3
               rcases hw f0 with w | w
               · by_cases z : q = M 1 2
                 · exact k2 ⟨by rw [hq]; exact z, w.2.1, Or.inr (by rw [← z]; exact k1), Or.inl w.2.2⟩
                 · have aq : q < a := by
                     rcases (show q < a ∨ q = a by omega) with y | y
                     · exact y
                     · exact absurd (by rw [← y]; exact k1) nd
                   omega
               · have aq : q < a := by
                   rcases (show q < a ∨ q = a by omega) with y | y
                   · exact y
                   · exact absurd (by rw [← y]; exact k1) nd
                 omega
             refine hq0 _ _ (fun r z => by rw [fs_up_other z]; exact fr r z) ⟨by rw [fs_up_at, if_neg (by omega)]; exact mn, by rw [fs_up_at, if_neg (by omega)]; exact m14, by rw [fs_up_at, if_neg (by omega)]; exact m15, by rw [fs_up_at, if_neg (by omega)]; exact mq⟩ (by rw [fs_up_at, if_neg (by omega), ma, ne]) ?_ ⟨fun z => ?_, by omega, by omega⟩
             · rw [fs_up_at, if_pos rfl, m13, mq]
               unfold nF
               by_cases f0 : M 1 3 = -1
               · rw [if_pos f0, if_pos f0, if_neg (no f0), hq]
               · rw [if_neg f0, if_neg f0]
             · rw [fs_up_at, if_pos rfl, m13, mq] at z
               split at z <;> omega)
      refine fs_r_icmp (a := (M3 1 6)) (y := (M3 1 5)) (L1 := [some (.inr (.ref 1)), some (.inl lo), some (.inl hi), some (.inl v), some (.inl ((M3 1 2) - (M3 1 6))), zl5]) (st1 := []) (M1 := M3) (ob := [1 < fs_N ∧ fs_kd 1 = 4, 1 < fs_N ∧ fs_kd 1 = 4, fs_rg ((M3 1 2) - (M3 1 6)), 4 < 6, 1 < fs_N ∧ fs_kd 1 = 4, 1 < fs_N ∧ fs_kd 1 = 4]) rfl (fs_exA 6 (o1 := [1 < fs_N ∧ fs_kd 1 = 4, 1 < fs_N ∧ fs_kd 1 = 4, fs_rg ((M3 1 2) - (M3 1 6)), 4 < 6]) (L1 := [some (.inr (.ref 1)), some (.inl lo), some (.inl hi), some (.inl v), some (.inl ((M3 1 2) - (M3 1 6))), zl5]) (st1 := []) (M1 := M3) (o2 := [1 < fs_N ∧ fs_kd 1 = 4, 1 < fs_N ∧ fs_kd 1 = 4]) rfl rfl) (fs_oc fs_ob1 (fs_oc fs_ob1 (fs_oc ⟨by omega, by omega⟩ (fs_oc (by decide) (fs_oc fs_ob1 (fs_oc fs_ob1 trivial)))))) (fun (h14 : ¬ (M3 1 6) = (M3 1 5)) => ?_) (fun (h14 : ¬ (¬ (M3 1 6) = (M3 1 5))) => ?_)
      · refine fs_r_nop (L1 := [some (.inr (.ref 1)), some (.inl lo), some (.inl hi), some (.inl v), some (.inl ((M3 1 2) - (M3 1 6))), zl5]) (st1 := [.inl 0]) (M1 := M3) (ob := []) rfl rfl trivial ?_
        exact join106 (0) (by omega)
      refine fs_r_goto (L1 := [some (.inr (.ref 1)), some (.inl lo), some (.inl hi), some (.inl v), some (.inl ((M3 1 2) - (M3 1 6))), zl5]) (st1 := [.inl 1]) (M1 := M3) (ob := []) rfl rfl trivial ?_
      exact join106 (1) (by omega)
  exact loop14 (((M 1 1 - (q)) : Int) + 1).toNat (0) (none) (none) (fs_up (fs_up M 1 2 (qB (M 2) (M 1 1) (M 1 2))) 1 6 ((fs_up M 1 2 (qB (M 2) (M 1 1) (M 1 2))) 1 2)) (q) (by omega) (by rw [fs_up_at, if_pos rfl, hq]) (fun j _ _ => by omega) (by rw [show (min (q - q) 5).toNat = 0 by omega]; rfl) (rfl) (by omega)
