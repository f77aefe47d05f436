/-! house sentences -/
theorem qB_q (T : Int → Int) (n p : Int) : qB T n (qB T n p) = qB T n p := skp_z (qB_b T n p).2.2.1
theorem nE_q (T : Int → Int) (n p : Int) : nE T n (qB T n p) = nE T n p := by unfold nE; rw [qB_q]
theorem nV_q (T : Int → Int) (n p : Int) : nV T n (qB T n p) = nV T n p := by unfold nV; rw [nE_q, qB_q]
theorem eF_q (T : Int → Int) (n f p : Int) : eF T n f (qB T n p) = eF T n f p := by unfold eF; rw [qB_q]
theorem gl_q {T : Int → Int} {n p : Int} (h : ¬ xD T n p) : gl T n (qB T n p) → ¬ xD T n (qB T n p) := fun g => by
  have b := qB_b T n p
  rcases (show qB T n p = p ∨ p < qB T n p by omega) with z | z
  · rw [z]; exact h
  · exfalso
    have w := b.2.2.2 (qB T n p - 1) (by omega) (by omega)
    rcases g.2.2.2 with x | x
    · omega
    · omega
theorem nF_q {T : Int → Int} {n lo hi f p : Int} (h : ¬ xD T n p) : nF T n lo hi f (qB T n p) = nF T n lo hi f p := by
  have key : nOk T n lo hi (qB T n p) ↔ nOk T n lo hi p := by
    unfold nOk
    rw [qB_q, nE_q, nV_q]
    constructor
    · rintro ⟨a, b, c⟩
      exact ⟨a, fun g => h (by rw [← g.1]; exact a), c⟩
    · rintro ⟨a, b, c⟩
      exact ⟨a, fun g => gl_q h g a, c⟩
  unfold nF
  rw [qB_q]
  by_cases z : nOk T n lo hi p
  · rw [if_pos z, if_pos (key.mpr z)]
  · rw [if_neg z, if_neg (fun w => z (key.mp w))]
noncomputable def tx_E (T : Int → Int) (n : Int) : Nat → Int → Int
  | 0, p => p
  | k + 1, p => nE T n (tx_E T n k p)
theorem tx_E_b {T : Int → Int} {n p : Int} (hp : 0 ≤ p ∧ p ≤ n) : ∀ k, p ≤ tx_E T n k p ∧ tx_E T n k p ≤ n
  | 0 => ⟨Int.le_refl _, hp.2⟩
  | k + 1 => by
    have ih := tx_E_b (T := T) hp k
    have b := nE_b (T := T) (n := n) (p := tx_E T n k p) ⟨by omega, ih.2⟩
    exact ⟨by show p ≤ nE T n _; omega, b.2.1⟩
theorem tx_E_d {T : Int → Int} {n p : Int} (hp : 0 ≤ p ∧ p ≤ n) (k : Nat) : ¬ xD T n (tx_E T n (k + 1) p) := by
  have ih := tx_E_b (T := T) hp k
  exact (nE_b (T := T) (n := n) (p := tx_E T n k p) ⟨by omega, ih.2⟩).2.2
theorem tx_E_s {T : Int → Int} {n p k : Int} (h : 0 ≤ k) : tx_E T n (k + 1).toNat p = nE T n (tx_E T n k.toNat p) := by
  obtain ⟨m, rfl⟩ := Int.eq_ofNat_of_zero_le h
  rfl
def tx_lo (k : Int) : Int := if k = 3 then 1 else 0
def tx_hi (k : Int) : Int := if 4 < k then 60 else if k = 3 then 99 else if k = 4 then 1 else 9999
noncomputable def tx_F (T : Int → Int) (n : Int) (N : Int → Int) (q e : Int) : Nat → Int
  | 0 => if N 1 = 6 then q else -1
  | k + 1 => nF T n (tx_lo k) (tx_hi k) (tx_F T n N q e k) (tx_E T n k e)
theorem tx_F_s {T : Int → Int} {n : Int} {N : Int → Int} {q e k : Int} (h : 0 ≤ k) : tx_F T n N q e (k + 1).toNat = nF T n (tx_lo k) (tx_hi k) (tx_F T n N q e k.toNat) (tx_E T n k.toNat e) := by
  obtain ⟨m, rfl⟩ := Int.eq_ofNat_of_zero_le h
  rfl
theorem tx_F_ne {T : Int → Int} {n : Int} {N : Int → Int} {q e : Int} (h : N 1 = 6) (hq : q ≠ -1) : ∀ k, tx_F T n N q e k = q
  | 0 => if_pos h
  | k + 1 => by
    show nF T n _ _ (tx_F T n N q e k) _ = q
    rw [tx_F_ne h hq k]
    exact nF_ne hq
theorem tx_F_lt {T : Int → Int} {n : Int} {N : Int → Int} {q e : Int} (he : 0 ≤ e ∧ e ≤ n) {k : Nat} (h : tx_F T n N q e (k + 1) = -1) : e < tx_E T n (k + 1) e := by
  have b := tx_E_b (T := T) he k
  have w := nE_lt (nF_ok h (by omega)).2
  show e < nE T n _
  omega
theorem tx_F_m {T : Int → Int} {n : Int} {N : Int → Int} {q e : Int} (he : 0 ≤ e ∧ e ≤ n) {k : Nat} : ∀ m, tx_F T n N q e (k + m) = -1 → tx_F T n N q e k = -1
  | 0, h => h
  | m + 1, h => by
    have b := tx_E_b (T := T) he (k + m)
    exact tx_F_m he m (nF_ok (p := tx_E T n (k + m) e) h (by omega)).1
def tx_Q (T : Int → Int) (n : Int) (N : Int → Int) (e a : Int) : Prop := a < N 0 ∧ xD T n (qB T n (tx_E T n (5 + a).toNat e))
noncomputable def tx_C (T : Int → Int) (n : Int) (N : Int → Int) (e : Int) : Int := skp (tx_Q T n N e) (N 0) 0
noncomputable def tx_S (T : Int → Int) (n : Int) (N : Int → Int) (q e : Int) : Int := eF T n (tx_F T n N q e (5 + tx_C T n N e).toNat) (tx_E T n (5 + tx_C T n N e).toNat e)
noncomputable def tx_P (T : Int → Int) (n : Int) (N : Int → Int) (e : Int) : Int := qB T n (tx_E T n (5 + tx_C T n N e).toNat e) + 1
noncomputable def tx_R (T : Int → Int) (n : Int) (N : Int → Int) (e : Int) : Int → Int := fun i =>
  if i = 1 then N 1 + 1 else if 10 + 5 * N 1 ≤ i ∧ i < 10 + 5 * N 1 + 5 then nV T n (tx_E T n (i - (10 + 5 * N 1)).toNat e)
  else if 40 + 4 * N 1 ≤ i ∧ i < 40 + 4 * N 1 + tx_C T n N e then nV T n (tx_E T n (5 + (i - (40 + 4 * N 1))).toNat e) else N i
theorem vw12_house {A M : fs_M} {N : Int → Int} {T : Int → Int} {n e : Int} (hV : vw 12 M N) (hN : fs_NI N) (hn : N 1 ≠ 6) (hc : 0 ≤ tx_C T n N e ∧ tx_C T n N e ≤ N 0)
    (f : ∀ r, 12 < r → r ≤ 18 → r ≠ 14 → r ≠ 15 → A r = M r) (x0 : A 12 0 = M 12 0) (x1 : A 12 1 = N 1 + 1)
    (k1 : ∀ j : Nat, j < 5 → A 14 (N 1 * 5 + j) = nV T n (tx_E T n j e)) (k2 : ∀ i, (i < N 1 * 5 ∨ N 1 * 5 + 5 ≤ i) → A 14 i = M 14 i)
    (k3 : ∀ j : Nat, (j : Int) < tx_C T n N e → A 15 (N 1 * 4 + j) = nV T n (tx_E T n (5 + j) e)) (k4 : ∀ i, (i < N 1 * 4 ∨ N 1 * 4 + tx_C T n N e ≤ i) → A 15 i = M 15 i) : vw 12 A (tx_R T n N e) := by
  obtain ⟨v0, v1, vcv, vfc, vhd, vln, vlc, vit⟩ := vw5 (vw12.mp hV)
  have hN2 := hN
  obtain ⟨hA, hH, -, -, -, -, hsh, -⟩ := hN2
  have e0 : ∀ i, i ≠ 1 → (i < 10 ∨ 64 ≤ i) → tx_R T n N e i = N i := fun i z w => by
    unfold tx_R
    rw [if_neg z, if_neg (by omega), if_neg (by omega)]
  have s : ∀ r, S7 A r = A (r + 7) := fun _ => rfl
  have s' : ∀ r, S7 M r = M (r + 7) := fun _ => rfl
  simp only [s'] at v0 v1 vcv vfc vhd vln vlc vit
  refine vw12.mpr (vw5.of ⟨?_, ?_, fun q q0 q1 => ⟨?_, ?_⟩, fun h w h0 h1 w0 w1 z => ?_, fun h w h0 h1 w0 w1 => ?_, fun h w h0 h1 w0 w1 => ?_, fun t h0 h1 => ?_, fun t p w h0 h1 p0 p1 w0 w1 => ?_⟩) <;> simp only [s]
  · rw [e0 0 (by omega) (by omega)]
    exact x0.trans v0
  · exact x1
  · rw [e0 _ (by omega) (by omega), f 13 (by decide) (by decide) (by decide) (by decide)]
    exact (vcv q q0 q1).1
  · rw [e0 _ (by omega) (by omega), f 13 (by decide) (by decide) (by decide) (by decide)]
    exact (vcv q q0 q1).2
  · by_cases y : h = N 1
    · subst y
      have kk := k1 w.toNat (by omega)
      rw [show ((w.toNat : Nat) : Int) = w by omega] at kk
      unfold tx_R
      rw [if_neg (by omega), if_pos (by omega), show (10 + 5 * N 1 + w - (10 + 5 * N 1)).toNat = w.toNat by omega]
      exact kk
    · have zz : tx_R T n N e 1 = N 1 + 1 := if_pos rfl
      rw [zz] at z
      have kk := k2 (h * 5 + w) (by omega)
      have kv := vfc h w h0 h1 w0 w1 (by omega)
      unfold tx_R
      rw [if_neg (by omega), if_neg (by omega), if_neg (by omega)]
      exact kk.trans kv
  · by_cases y : h = N 1 ∧ w < tx_C T n N e
    · obtain ⟨y, y2⟩ := y
      subst y
      have kk := k3 w.toNat (by omega)
      rw [show ((w.toNat : Nat) : Int) = w by omega] at kk
      unfold tx_R
      rw [if_neg (by omega), if_neg (by omega), if_pos (by omega), show (5 + (40 + 4 * N 1 + w - (40 + 4 * N 1))).toNat = 5 + w.toNat by omega]
      exact kk
    · have kk := k4 (h * 4 + w) (by omega)
      have kv := vhd h w h0 h1 w0 w1
      unfold tx_R
      rw [if_neg (by omega), if_neg (by omega), if_neg (by omega)]
      exact kk.trans kv
  · rw [e0 _ (by omega) (by omega), f 16 (by decide) (by decide) (by decide) (by decide)]
    exact vln h w h0 h1 w0 w1
  · rw [e0 _ (by omega) (by omega), f 17 (by decide) (by decide) (by decide) (by decide)]
    exact vlc t h0 h1
  · have st := hsh t h0 h1
    rw [e0 _ (by omega) (by omega)] at p1
    rw [e0 _ (by omega) (by omega), f 18 (by decide) (by decide) (by decide) (by decide)]
    exact vit t p w h0 h1 p0 p1 w0 w1
theorem fs_c_readHouse {d : Nat} {M : fs_M} {Q : Option fs_V → fs_M → Prop}  {N : Int → Int} (hV : vw 12 M N) (hN : fs_NI N) (hs : wst M) (hq0 : ∀ (M2 : fs_M), (∀ r, r ≠ 1 → (r < 12 ∨ 18 < r) → M2 r = M r) → (M2 1 1 = M 1 1) → (M2 1 3 = tx_S (M 2) (M 1 1) N (M 1 4) (M 1 2)) → (M2 1 3 = -1 → M2 1 2 = tx_P (M 2) (M 1 1) N (M 1 2) ∧ vw 12 M2 (tx_R (M 2) (M 1 1) N (M 1 2))) → (0 ≤ M2 1 2 ∧ M2 1 2 ≤ M 1 1) → Q none M2) : fs_W (d + 3) 72 0 [some (.inr (.ref 1)), some (.inr (.ref 12)), none, none] [] M Q := by
  obtain ⟨s3, ⟨s40, s45, s52⟩, ⟨s2n, sn8⟩, sx⟩ := id hs
  obtain ⟨v0, v1, -, -, -, -, vlc, -⟩ := id hV
  obtain ⟨hA, hH, -, -, -, -, hsh, -⟩ := id hN
  have hat : 0 ≤ M 1 2 ∧ M 1 2 ≤ M 1 1 ∧ M 1 1 ≤ 800 := ⟨by omega, s2n, sn8⟩
  have hb : 0 ≤ M 1 2 ∧ M 1 2 ≤ M 1 1 := ⟨by omega, s2n⟩
  refine fs_r_icmp (a := (M 12 1)) (y := 6) (L1 := [some (.inr (.ref 1)), some (.inr (.ref 12)), none, none]) (st1 := []) (M1 := M) (ob := [12 < fs_N ∧ fs_kd 12 = 0]) rfl rfl (fs_oc fs_ob12 trivial) (fun (h1 : (M 12 1) < 6) => ?_) (fun (h1 : ¬ ((M 12 1) < 6)) => ?_)
  · refine fs_r_call (sta := false) (idx := 114) (as := [.inr (.ref 12)]) (rest := []) (L1 := [some (.inr (.ref 1)), some (.inr (.ref 12)), none, none]) (st1 := [.inr (.ref 12)]) (M1 := M) (ob := []) rfl rfl rfl trivial rfl rfl (Nat.le_of_ble_eq_true rfl) ⟨Or.inr (Nat.le_of_ble_eq_true rfl), Or.inr fs_ob12⟩ (by decide) ?_
    refine fs_c_addHouse12 (by omega) ?_
    refine fs_r_nop (L1 := [some (.inr (.ref 1)), some (.inr (.ref 12)), some (.inl (M 12 1)), some (.inl 0)]) (st1 := []) (M1 := (fs_up (fs_up (fs_up M 12 1 ((M 12 1) + 1)) 14 (((M 12 1) * 5) + 3) 1) 14 (((M 12 1) * 5) + 4) 0)) (ob := [2 < 4, 3 < 4]) rfl rfl (fs_oc (by decide) (fs_oc (by decide) trivial)) ?_
    have loop25 : ∀ (n25 : Nat) (k : Int) (M3 : fs_M), (0 ≤ k ∧ k ≤ 5) → (∀ r, r ≠ 1 → r ≠ 12 → r ≠ 14 → M3 r = M r) → (M3 12 0 = M 12 0 ∧ M3 12 1 = N 1 + 1) → (M3 1 1 = M 1 1 ∧ M3 1 5 = M 1 5) → (M3 1 2 = tx_E (M 2) (M 1 1) k.toNat (M 1 2)) → (M3 1 3 = tx_F (M 2) (M 1 1) N (M 1 4) (M 1 2) k.toNat) → (M3 1 3 = -1 → ∀ j : Nat, (j : Int) < k → M3 14 (M 12 1 * 5 + j) = nV (M 2) (M 1 1) (tx_E (M 2) (M 1 1) j (M 1 2))) → (∀ i, (i < M 12 1 * 5 ∨ M 12 1 * 5 + 5 ≤ i) → M3 14 i = M 14 i) → 5 - k < (n25 : Int) → fs_W (d + 3) 72 25 [some (.inr (.ref 1)), some (.inr (.ref 12)), some (.inl (M 12 1)), some (.inl k)] [] M3 Q := by
      intro n25
      induction n25 with
      | zero =>
        intro k M3 i1 f1 h1 g1 t1 e1 k1 k2 hm25
        exfalso
        omega
      | succ n25 ih25 =>
        intro k M3 i1 f1 h1 g1 t1 e1 k1 k2 hm25
        have T3 : M3 2 = M 2 := f1 2 (by decide) (by decide) (by decide)
        have B3 := tx_E_b (T := M 2) hb k.toNat
        have at3 : 0 ≤ M3 1 2 ∧ M3 1 2 ≤ M3 1 1 ∧ M3 1 1 ≤ 800 := by rw [t1, g1.1]; omega
        have hw3 : M3 1 3 = -1 → (M3 1 5 = M3 1 2 ∧ 0 < M3 1 2 ∧ xL (M3 2) (M3 1 1) (M3 1 2 - 1)) ∨ (M3 1 5 < M3 1 2 ∧ (gl (M3 2) (M3 1 1) (M3 1 2) → ¬ xD (M3 2) (M3 1 1) (M3 1 2))) := fun z => by
          rw [T3, g1.1, g1.2, t1]
          rw [e1] at z
          rcases (show k = 0 ∨ 0 < k by omega) with y | y
          · subst y
            exact Or.inl ⟨s52, by show 0 < M 1 2; omega, sx⟩
          · rw [show k.toNat = (k.toNat - 1) + 1 by omega] at z ⊢
            have w := tx_F_lt hb z
            exact Or.inr ⟨by omega, fun _ => tx_E_d hb _⟩
        refine fs_r_icmp (a := k) (y := 4) (L1 := [some (.inr (.ref 1)), some (.inr (.ref 12)), some (.inl (M 12 1)), some (.inl k)]) (st1 := []) (M1 := M3) (ob := []) rfl rfl trivial (fun (h2 : 4 < k) => ?_) (fun (h2 : ¬ (4 < k)) => ?_)
        · refine fs_r_call (sta := false) (idx := 39) (as := [.inr (.ref 1)]) (rest := []) (L1 := [some (.inr (.ref 1)), some (.inr (.ref 12)), some (.inl (M 12 1)), some (.inl k)]) (st1 := [.inr (.ref 1)]) (M1 := M3) (ob := []) rfl rfl rfl trivial rfl rfl (Nat.le_of_ble_eq_true rfl) ⟨Or.inr (Nat.le_of_ble_eq_true rfl), Or.inr fs_ob1⟩ (by decide) ?_
          refine fs_c_skipBlanks (at3) ?_
          refine fs_r_nop (L1 := [some (.inr (.ref 1)), some (.inr (.ref 12)), some (.inl (M 12 1)), some (.inl 0)]) (st1 := []) (M1 := (fs_up M3 1 2 (qB (M3 2) (M3 1 1) (M3 1 2)))) (ob := [3 < 4]) rfl rfl (fs_oc (by decide) trivial) ?_
          have loop60 : ∀ (n60 : Nat) (a : Int) (M5 : fs_M), (0 ≤ a ∧ a ≤ N 0) → (∀ r, r ≠ 1 → r ≠ 12 → r ≠ 14 → r ≠ 15 → M5 r = M r) → (M5 12 0 = M 12 0 ∧ M5 12 1 = N 1 + 1) → (M5 1 1 = M 1 1 ∧ M5 1 5 = M 1 5) → (M5 1 2 = qB (M 2) (M 1 1) (tx_E (M 2) (M 1 1) (5 + a).toNat (M 1 2))) → (M5 1 3 = tx_F (M 2) (M 1 1) N (M 1 4) (M 1 2) (5 + a).toNat) → (M5 1 3 = -1 → ∀ j : Nat, j < 5 → M5 14 (M 12 1 * 5 + j) = nV (M 2) (M 1 1) (tx_E (M 2) (M 1 1) j (M 1 2))) → (∀ i, (i < M 12 1 * 5 ∨ M 12 1 * 5 + 5 ≤ i) → M5 14 i = M 14 i) → (M5 1 3 = -1 → ∀ j : Nat, (j : Int) < a → M5 15 (M 12 1 * 4 + j) = nV (M 2) (M 1 1) (tx_E (M 2) (M 1 1) (5 + j) (M 1 2))) → (∀ i, (i < M 12 1 * 4 ∨ M 12 1 * 4 + a ≤ i) → M5 15 i = M 15 i) → (skp (tx_Q (M 2) (M 1 1) N (M 1 2)) (N 0) a = tx_C (M 2) (M 1 1) N (M 1 2)) → N 0 - a < (n60 : Int) → fs_W (d + 3) 72 60 [some (.inr (.ref 1)), some (.inr (.ref 12)), some (.inl (M 12 1)), some (.inl a)] [] M5 Q := by
            intro n60
            induction n60 with
            | zero =>
              intro a M5 i2 f2 h2 g2 t2 e2 k3 k4 k5 k6 c2 hm60
              exfalso
              omega
            | succ n60 ih60 =>
              intro a M5 i2 f2 h2 g2 t2 e2 k3 k4 k5 k6 c2 hm60
              have T5 : M5 2 = M 2 := f2 2 (by decide) (by decide) (by decide) (by decide)
              have B5 := tx_E_b (T := M 2) hb (5 + a).toNat
              have Q5 := qB_b (M 2) (M 1 1) (tx_E (M 2) (M 1 1) (5 + a).toNat (M 1 2))
              have Q6 := Q5.2.1 B5.2
              have at5 : 0 ≤ M5 1 2 ∧ M5 1 2 ≤ M5 1 1 ∧ M5 1 1 ≤ 800 := by rw [t2, g2.1]; omega
              have nd5 : ¬ xD (M 2) (M 1 1) (tx_E (M 2) (M 1 1) (5 + a).toNat (M 1 2)) := by
                rw [show (5 + a).toNat = (4 + a).toNat + 1 by omega]
                exact tx_E_d hb _
              have hw5 : M5 1 3 = -1 → (M5 1 5 = M5 1 2 ∧ 0 < M5 1 2 ∧ xL (M5 2) (M5 1 1) (M5 1 2 - 1)) ∨ (M5 1 5 < M5 1 2 ∧ (gl (M5 2) (M5 1 1) (M5 1 2) → ¬ xD (M5 2) (M5 1 1) (M5 1 2))) := fun z => by
                rw [T5, g2.1, g2.2, t2]
                rw [e2, show (5 + a).toNat = (4 + a).toNat + 1 by omega] at z
                have w := tx_F_lt hb z
                rw [show (4 + a).toNat + 1 = (5 + a).toNat by omega] at w
                exact Or.inr ⟨by omega, gl_q nd5⟩
              refine fs_r_icmp (a := a) (y := (M5 12 0)) (L1 := [some (.inr (.ref 1)), some (.inr (.ref 12)), some (.inl (M 12 1)), some (.inl a)]) (st1 := []) (M1 := M5) (ob := [12 < fs_N ∧ fs_kd 12 = 0]) rfl rfl (fs_oc fs_ob12 trivial) (fun (h3 : (M5 12 0) ≤ a) => ?_) (fun (h3 : ¬ ((M5 12 0) ≤ a)) => ?_)
              · have nq : ¬ tx_Q (M 2) (M 1 1) N (M 1 2) a := fun z => by
                  first
                    | (have w := z.1; omega)
                    | (apply dg; rw [T5, g2.1, t2]; exact ⟨by omega, z.2⟩)
                have cE : tx_C (M 2) (M 1 1) N (M 1 2) = a := c2.symm.trans (skp_z nq)
                refine fs_r_call (sta := false) (idx := 105) (as := [.inr (.ref 1)]) (rest := []) (L1 := [some (.inr (.ref 1)), some (.inr (.ref 12)), some (.inl (M 12 1)), some (.inl a)]) (st1 := [.inr (.ref 1)]) (M1 := M5) (ob := []) rfl rfl rfl trivial rfl rfl (Nat.le_of_ble_eq_true rfl) ⟨Or.inr (Nat.le_of_ble_eq_true rfl), Or.inr fs_ob1⟩ (by decide) ?_
                refine fs_c_readEnd (at5) (fun (E : fs_M) (ef : ∀ r, r ≠ 1 → E r = M5 r) (eg : E 1 1 = M5 1 1 ∧ E 1 4 = M5 1 4 ∧ E 1 5 = M5 1 5) (ee : E 1 3 = eF (M5 2) (M5 1 1) (M5 1 3) (M5 1 2)) (et : (E 1 3 = -1 → E 1 2 = qB (M5 2) (M5 1 1) (M5 1 2) + 1) ∧ 0 ≤ E 1 2 ∧ E 1 2 ≤ M5 1 1) => ?_)
                refine fs_r_ret (L1 := [some (.inr (.ref 1)), some (.inr (.ref 12)), some (.inl (M 12 1)), some (.inl a)]) (M1 := E) (ob := []) rfl rfl trivial ?_
                have e9 : E 1 3 = tx_S (M 2) (M 1 1) N (M 1 4) (M 1 2) := by
                  rw [ee, T5, g2.1, t2, e2, eF_q]
                  unfold tx_S
                  rw [cE]
                refine hq0 E (fun r q1 q2 => by rw [ef r q1]; exact f2 r q1 (by omega) (by omega) (by omega)) (eg.1.trans g2.1) e9 (fun z => ?_) (by rw [← g2.1]; exact et.2)
                have zz := (eF_ok (ee.symm.trans z) (by omega)).1
                refine ⟨?_, vw12_house hV hN (by omega) (by rw [cE]; omega) (fun r q1 q2 q3 q4 => by rw [ef r (by omega)]; exact f2 r (by omega) (by omega) q3 q4) (by rw [ef 12 (by decide)]; exact h2.1) (by rw [ef 12 (by decide)]; exact h2.2) (fun j hj => by rw [← v1, ef 14 (by decide)]; exact k3 zz j hj) (fun i hi => by rw [ef 14 (by decide)]; exact k4 i (by omega)) (fun j hj => by rw [← v1, ef 15 (by decide)]; exact k5 zz j (by omega)) (fun i hi => by rw [ef 15 (by decide)]; exact k6 i (by omega))⟩
                rw [et.1 z, T5, g2.1, t2, qB_q]
                unfold tx_P
                rw [cE]
              refine fs_r_call (sta := false) (idx := 95) (as := [.inr (.ref 1), .inl (M5 1 2)]) (rest := []) (L1 := [some (.inr (.ref 1)), some (.inr (.ref 12)), some (.inl (M 12 1)), some (.inl a)]) (st1 := [.inl (M5 1 2), .inr (.ref 1)]) (M1 := M5) (ob := [1 < fs_N ∧ fs_kd 1 = 4]) rfl rfl rfl (fs_oc fs_ob1 trivial) rfl rfl (Nat.le_of_ble_eq_true rfl) ⟨Or.inr (Nat.le_of_ble_eq_true rfl), Or.inr fs_ob1⟩ (by decide) ?_
              refine fs_c_isDigitAt (by omega) (fun (dg : 0 ≤ (M5 1 2) ∧ xD (M5 2) (M5 1 1) (M5 1 2)) => ?_) (fun (dg : ¬ (0 ≤ (M5 1 2) ∧ xD (M5 2) (M5 1 1) (M5 1 2))) => ?_)
              · refine fs_r_if (a := 1) (L1 := [some (.inr (.ref 1)), some (.inr (.ref 12)), some (.inl (M 12 1)), some (.inl a)]) (st1 := []) (M1 := M5) (ob := []) rfl rfl trivial (fun h => absurd h (by decide : ¬ ((1 : Int) = 0))) (fun _ => ?_)
                have qa : tx_Q (M 2) (M 1 1) N (M 1 2) a := ⟨by omega, by have w := dg.2; rw [T5, g2.1, t2] at w; exact w⟩
                refine fs_r_call (sta := false) (idx := 101) (as := [.inr (.ref 1), .inl 0, .inl 60]) (rest := [.inl a, .inl (M 12 1), .inr (.ref 12)]) (L1 := [some (.inr (.ref 1)), some (.inr (.ref 12)), some (.inl (M 12 1)), some (.inl a)]) (st1 := [.inl 60, .inl 0, .inr (.ref 1), .inl a, .inl (M 12 1), .inr (.ref 12)]) (M1 := M5) (ob := []) rfl rfl rfl trivial rfl rfl (Nat.le_of_ble_eq_true rfl) ⟨Or.inr (Nat.le_of_ble_eq_true rfl), Or.inr fs_ob1⟩ (by decide) ?_
                refine fs_c_readNumber (at5) (hw5) (fun (x6 : Int) (A6 : fs_M) (f6_ : ∀ r, r ≠ 1 → A6 r = M5 r) (g6_ : A6 1 1 = M5 1 1 ∧ A6 1 4 = M5 1 4 ∧ A6 1 5 = M5 1 5 ∧ A6 1 6 = qB (M5 2) (M5 1 1) (M5 1 2)) (t6_ : A6 1 2 = nE (M5 2) (M5 1 1) (M5 1 2)) (e6_ : A6 1 3 = nF (M5 2) (M5 1 1) 0 60 (M5 1 3) (M5 1 2)) (w6_ : (A6 1 3 = -1 → x6 = nV (M5 2) (M5 1 1) (M5 1 2)) ∧ 0 ≤ x6 ∧ x6 ≤ 99999) => ?_)
                rw [T5, g2.1, t2, e2, nF_q nd5] at e6_
                rw [T5, g2.1, t2] at t6_ w6_
                rw [nE_q] at t6_
                rw [nV_q] at w6_
                have he6 : A6 1 3 = tx_F (M 2) (M 1 1) N (M 1 4) (M 1 2) (5 + (a + 1)).toNat := by
                  rw [e6_, show (5 + (a + 1)).toNat = ((5 + a) + 1).toNat by omega, tx_F_s (by omega)]
                  unfold tx_lo tx_hi
                  rw [if_neg (by omega), if_pos (by omega)]
                have ht6 : A6 1 2 = tx_E (M 2) (M 1 1) (5 + (a + 1)).toNat (M 1 2) := by
                  rw [t6_, show (5 + (a + 1)).toNat = ((5 + a) + 1).toNat by omega, tx_E_s (by omega)]
                have f6 : ∀ r, r ≠ 1 → r ≠ 12 → r ≠ 14 → r ≠ 15 → A6 r = M r := fun r x y z w => (f6_ r x).trans (f2 r x y z w)
                have x612 : A6 12 = M5 12 := f6_ 12 (by decide)
                have x614 : A6 14 = M5 14 := f6_ 14 (by decide)
                have x615 : A6 15 = M5 15 := f6_ 15 (by decide)
                refine fs_r_call (sta := false) (idx := 127) (as := [.inr (.ref 12), .inl (M 12 1), .inl a, .inl x6]) (rest := []) (L1 := [some (.inr (.ref 1)), some (.inr (.ref 12)), some (.inl (M 12 1)), some (.inl a)]) (st1 := [.inl x6, .inl a, .inl (M 12 1), .inr (.ref 12)]) (M1 := A6) (ob := []) rfl rfl rfl trivial rfl rfl (Nat.le_of_ble_eq_true rfl) ⟨Or.inr (Nat.le_of_ble_eq_true rfl), Or.inr fs_ob12⟩ (by decide) ?_
                refine fs_c_setHolding (Or.inr (Or.inl rfl)) (by omega) (by omega) ?_
                have u1 : (fs_up A6 15 (((M 12 1) * 4) + a) x6) 1 = A6 1 := fs_up_other (by decide)
                have u2 : (fs_up A6 15 (((M 12 1) * 4) + a) x6) 2 = M 2 := (fs_up_other (by decide)).trans (f6 2 (by decide) (by decide) (by decide) (by decide))
                have at7 : 0 ≤ (fs_up A6 15 (((M 12 1) * 4) + a) x6) 1 2 ∧ (fs_up A6 15 (((M 12 1) * 4) + a) x6) 1 2 ≤ (fs_up A6 15 (((M 12 1) * 4) + a) x6) 1 1 ∧ (fs_up A6 15 (((M 12 1) * 4) + a) x6) 1 1 ≤ 800 := by
                  rw [u1, ht6, g6_.1, g2.1]
                  have w := tx_E_b (T := M 2) hb (5 + (a + 1)).toNat
                  omega
                have z5 : A6 1 3 = -1 → M5 1 3 = -1 := fun z => e2.trans (nF_ok (e6_.symm.trans z) (by omega)).1
                refine fs_r_call (sta := false) (idx := 39) (as := [.inr (.ref 1)]) (rest := []) (L1 := [some (.inr (.ref 1)), some (.inr (.ref 12)), some (.inl (M 12 1)), some (.inl a)]) (st1 := [.inr (.ref 1)]) (M1 := (fs_up A6 15 (((M 12 1) * 4) + a) x6)) (ob := []) rfl rfl rfl trivial rfl rfl (Nat.le_of_ble_eq_true rfl) ⟨Or.inr (Nat.le_of_ble_eq_true rfl), Or.inr fs_ob1⟩ (by decide) ?_
                refine fs_c_skipBlanks (at7) ?_
                refine fs_r_goto (L1 := [some (.inr (.ref 1)), some (.inr (.ref 12)), some (.inl (M 12 1)), some (.inl (a + 1))]) (st1 := []) (M1 := (fs_up (fs_up A6 15 (((M 12 1) * 4) + a) x6) 1 2 (qB ((fs_up A6 15 (((M 12 1) * 4) + a) x6) 2) ((fs_up A6 15 (((M 12 1) * 4) + a) x6) 1 1) ((fs_up A6 15 (((M 12 1) * 4) + a) x6) 1 2)))) (ob := [fs_rg (a + 1)]) rfl rfl (fs_oc ⟨by omega, by omega⟩ trivial) ?_
                exact ih60 ((a + 1)) (fs_up (fs_up A6 15 (((M 12 1) * 4) + a) x6) 1 2 (qB ((fs_up A6 15 (((M 12 1) * 4) + a) x6) 2) ((fs_up A6 15 (((M 12 1) * 4) + a) x6) 1 1) ((fs_up A6 15 (((M 12 1) * 4) + a) x6) 1 2))) (by omega) (fun r a1 b c d9 => by rw [fs_up_other a1, fs_up_other d9]; exact f6 r a1 b c d9) (by rw [show (fs_up (fs_up A6 15 (((M 12 1) * 4) + a) x6) 1 2 (qB ((fs_up A6 15 (((M 12 1) * 4) + a) x6) 2) ((fs_up A6 15 (((M 12 1) * 4) + a) x6) 1 1) ((fs_up A6 15 (((M 12 1) * 4) + a) x6) 1 2))) 12 = M5 12 from (fs_up_other (by decide)).trans ((fs_up_other (by decide)).trans x612)]; exact h2) (⟨by rw [fs_up_at, if_neg (by omega), u1]; exact g6_.1.trans g2.1, by rw [fs_up_at, if_neg (by omega), u1]; exact g6_.2.2.1.trans g2.2⟩) (by rw [fs_up_at, if_pos rfl, u2, u1, ht6, g6_.1, g2.1]) (by rw [fs_up_at, if_neg (by omega), u1]; exact he6) (fun z j hj => by rw [fs_up_at, if_neg (by omega), u1] at z; rw [fs_up_other (by decide), fs_up_other (by decide), x614]; exact k3 (z5 z) j hj) (fun i hi => by rw [fs_up_other (by decide), fs_up_other (by decide), x614]; exact k4 i hi) (fun z j hj => by
                   rw [fs_up_at, if_neg (by omega), u1] at z
                   rw [fs_up_other (by decide), fs_up_at]
                   by_cases y : (j : Int) < a
                   · rw [if_neg (by omega), x615]
                     exact k5 (z5 z) j y
                   · rw [if_pos (by omega), w6_.1 z, show (5 + a).toNat = 5 + j by omega]) (fun i hi => by rw [fs_up_other (by decide), fs_up_at, if_neg (by omega), x615]; exact k6 i (by omega)) (by rw [← c2]; exact (skp_s qa (by omega)).symm) (by omega)
              refine fs_r_if (a := 0) (L1 := [some (.inr (.ref 1)), some (.inr (.ref 12)), some (.inl (M 12 1)), some (.inl a)]) (st1 := []) (M1 := M5) (ob := []) rfl rfl trivial (fun _ => ?_) (fun h => absurd (by decide : (0 : Int) = 0) h)
              have nq : ¬ tx_Q (M 2) (M 1 1) N (M 1 2) a := fun z => by
                first
                  | (have w := z.1; omega)
                  | (apply dg; rw [T5, g2.1, t2]; exact ⟨by omega, z.2⟩)
              have cE : tx_C (M 2) (M 1 1) N (M 1 2) = a := c2.symm.trans (skp_z nq)
              refine fs_r_call (sta := false) (idx := 105) (as := [.inr (.ref 1)]) (rest := []) (L1 := [some (.inr (.ref 1)), some (.inr (.ref 12)), some (.inl (M 12 1)), some (.inl a)]) (st1 := [.inr (.ref 1)]) (M1 := M5) (ob := []) rfl rfl rfl trivial rfl rfl (Nat.le_of_ble_eq_true rfl) ⟨Or.inr (Nat.le_of_ble_eq_true rfl), Or.inr fs_ob1⟩ (by decide) ?_
              refine fs_c_readEnd (at5) (fun (E : fs_M) (ef : ∀ r, r ≠ 1 → E r = M5 r) (eg : E 1 1 = M5 1 1 ∧ E 1 4 = M5 1 4 ∧ E 1 5 = M5 1 5) (ee : E 1 3 = eF (M5 2) (M5 1 1) (M5 1 3) (M5 1 2)) (et : (E 1 3 = -1 → E 1 2 = qB (M5 2) (M5 1 1) (M5 1 2) + 1) ∧ 0 ≤ E 1 2 ∧ E 1 2 ≤ M5 1 1) => ?_)
              refine fs_r_ret (L1 := [some (.inr (.ref 1)), some (.inr (.ref 12)), some (.inl (M 12 1)), some (.inl a)]) (M1 := E) (ob := []) rfl rfl trivial ?_
              have e9 : E 1 3 = tx_S (M 2) (M 1 1) N (M 1 4) (M 1 2) := by
                rw [ee, T5, g2.1, t2, e2, eF_q]
                unfold tx_S
                rw [cE]
              refine hq0 E (fun r q1 q2 => by rw [ef r q1]; exact f2 r q1 (by omega) (by omega) (by omega)) (eg.1.trans g2.1) e9 (fun z => ?_) (by rw [← g2.1]; exact et.2)
              have zz := (eF_ok (ee.symm.trans z) (by omega)).1
              refine ⟨?_, vw12_house hV hN (by omega) (by rw [cE]; omega) (fun r q1 q2 q3 q4 => by rw [ef r (by omega)]; exact f2 r (by omega) (by omega) q3 q4) (by rw [ef 12 (by decide)]; exact h2.1) (by rw [ef 12 (by decide)]; exact h2.2) (fun j hj => by rw [← v1, ef 14 (by decide)]; exact k3 zz j hj) (fun i hi => by rw [ef 14 (by decide)]; exact k4 i (by omega)) (fun j hj => by rw [← v1, ef 15 (by decide)]; exact k5 zz j (by omega)) (fun i hi => by rw [ef 15 (by decide)]; exact k6 i (by omega))⟩
              rw [et.1 z, T5, g2.1, t2, qB_q]
              unfold tx_P
              rw [cE]
          exact loop60 (((N 0 - (0)) : Int) + 1).toNat (0) (fs_up M3 1 2 (qB (M3 2) (M3 1 1) (M3 1 2))) (by omega) (fun r a b c _ => by rw [fs_up_other a]; exact f1 r a b c) (by rw [show (fs_up M3 1 2 (qB (M3 2) (M3 1 1) (M3 1 2))) 12 = M3 12 from fs_up_other (by decide)]; exact h1) (⟨by rw [fs_up_at, if_neg (by omega)]; exact g1.1, by rw [fs_up_at, if_neg (by omega)]; exact g1.2⟩) (by rw [fs_up_at, if_pos rfl, T3, g1.1, t1, show k.toNat = ((5 : Int) + 0).toNat by omega]) (by rw [fs_up_at, if_neg (by omega), e1, show k.toNat = ((5 : Int) + 0).toNat by omega]) (fun z j hj => by rw [fs_up_at, if_neg (by omega)] at z; rw [fs_up_other (by decide)]; exact k1 z j (by omega)) (fun i hi => by rw [fs_up_other (by decide)]; exact k2 i hi) (fun _ j hj => by omega) (fun i _ => by rw [fs_up_other (by decide), f1 15 (by decide) (by decide) (by decide)]) (rfl) (by omega)
        refine fs_r_call (sta := true) (idx := 117) (as := [.inl k]) (rest := [.inr (.ref 1), .inl k, .inl (M 12 1), .inr (.ref 12)]) (L1 := [some (.inr (.ref 1)), some (.inr (.ref 12)), some (.inl (M 12 1)), some (.inl k)]) (st1 := [.inl k, .inr (.ref 1), .inl k, .inl (M 12 1), .inr (.ref 12)]) (M1 := M3) (ob := []) rfl rfl rfl trivial rfl rfl (Nat.le_of_ble_eq_true rfl) ⟨Or.inr (Nat.le_of_ble_eq_true rfl), trivial⟩ (by decide) ?_
        refine fs_c_leastFact ?_
        refine fs_r_call (sta := true) (idx := 120) (as := [.inl k]) (rest := [.inl (if k = 3 then 1 else 0), .inr (.ref 1), .inl k, .inl (M 12 1), .inr (.ref 12)]) (L1 := [some (.inr (.ref 1)), some (.inr (.ref 12)), some (.inl (M 12 1)), some (.inl k)]) (st1 := [.inl k, .inl (if k = 3 then 1 else 0), .inr (.ref 1), .inl k, .inl (M 12 1), .inr (.ref 12)]) (M1 := M3) (ob := []) rfl rfl rfl trivial rfl rfl (Nat.le_of_ble_eq_true rfl) ⟨Or.inr (Nat.le_of_ble_eq_true rfl), trivial⟩ (by decide) ?_
        refine fs_c_mostFact ?_
        refine fs_r_call (sta := false) (idx := 101) (as := [.inr (.ref 1), .inl (if k = 3 then 1 else 0), .inl (if k = 3 then 99 else if k = 4 then 1 else 9999)]) (rest := [.inl k, .inl (M 12 1), .inr (.ref 12)]) (L1 := [some (.inr (.ref 1)), some (.inr (.ref 12)), some (.inl (M 12 1)), some (.inl k)]) (st1 := [.inl (if k = 3 then 99 else if k = 4 then 1 else 9999), .inl (if k = 3 then 1 else 0), .inr (.ref 1), .inl k, .inl (M 12 1), .inr (.ref 12)]) (M1 := M3) (ob := []) rfl rfl rfl trivial rfl rfl (Nat.le_of_ble_eq_true rfl) ⟨Or.inr (Nat.le_of_ble_eq_true rfl), Or.inr fs_ob1⟩ (by decide) ?_
        refine fs_c_readNumber (at3) (hw3) (fun (x4 : Int) (A4 : fs_M) (f4_ : ∀ r, r ≠ 1 → A4 r = M3 r) (g4_ : A4 1 1 = M3 1 1 ∧ A4 1 4 = M3 1 4 ∧ A4 1 5 = M3 1 5 ∧ A4 1 6 = qB (M3 2) (M3 1 1) (M3 1 2)) (t4_ : A4 1 2 = nE (M3 2) (M3 1 1) (M3 1 2)) (e4_ : A4 1 3 = nF (M3 2) (M3 1 1) (if k = 3 then 1 else 0) (if k = 3 then 99 else if k = 4 then 1 else 9999) (M3 1 3) (M3 1 2)) (w4_ : (A4 1 3 = -1 → x4 = nV (M3 2) (M3 1 1) (M3 1 2)) ∧ 0 ≤ x4 ∧ x4 ≤ 99999) => ?_)
        rw [T3, g1.1, t1, e1] at e4_
        rw [T3, g1.1, t1] at t4_ w4_
        have hik : 5 ≤ k ∨ tx_hi k = (if k = 3 then 99 else if k = 4 then 1 else 9999) := by
          by_cases z : 4 < k
          · exact Or.inl (by omega)
          · exact Or.inr (if_neg z)
        have hek : A4 1 3 = tx_F (M 2) (M 1 1) N (M 1 4) (M 1 2) (k + 1).toNat := by
          rcases hik with z | z
          · omega
          · rw [e4_, tx_F_s (by omega), z]
            rfl
        have f4 : ∀ r, r ≠ 1 → r ≠ 12 → r ≠ 14 → A4 r = M r := fun r a b c => (f4_ r a).trans (f1 r a b c)
        have x412 : A4 12 = M3 12 := f4_ 12 (by decide)
        have x414 : A4 14 = M3 14 := f4_ 14 (by decide)
        refine fs_r_call (sta := false) (idx := 123) (as := [.inr (.ref 12), .inl (M 12 1), .inl k, .inl x4]) (rest := []) (L1 := [some (.inr (.ref 1)), some (.inr (.ref 12)), some (.inl (M 12 1)), some (.inl k)]) (st1 := [.inl x4, .inl k, .inl (M 12 1), .inr (.ref 12)]) (M1 := A4) (ob := []) rfl rfl rfl trivial rfl rfl (Nat.le_of_ble_eq_true rfl) ⟨Or.inr (Nat.le_of_ble_eq_true rfl), Or.inr fs_ob12⟩ (by decide) ?_
        refine fs_c_setFact (Or.inr (Or.inl rfl)) (by omega) (by omega) ?_
        refine fs_r_goto (L1 := [some (.inr (.ref 1)), some (.inr (.ref 12)), some (.inl (M 12 1)), some (.inl (k + 1))]) (st1 := []) (M1 := (fs_up A4 14 (((M 12 1) * 5) + k) x4)) (ob := [fs_rg (k + 1)]) rfl rfl (fs_oc ⟨by omega, by omega⟩ trivial) ?_
        exact ih25 ((k + 1)) (fs_up A4 14 (((M 12 1) * 5) + k) x4) (by omega) (fun r a b c => by rw [fs_up_other c]; exact f4 r a b c) (by rw [show (fs_up A4 14 (((M 12 1) * 5) + k) x4) 12 = M3 12 from (fs_up_other (by decide)).trans x412]; exact h1) (by rw [show (fs_up A4 14 (((M 12 1) * 5) + k) x4) 1 = A4 1 from fs_up_other (by decide)]; exact ⟨g4_.1.trans g1.1, g4_.2.2.1.trans g1.2⟩) (by rw [show (fs_up A4 14 (((M 12 1) * 5) + k) x4) 1 = A4 1 from fs_up_other (by decide), t4_, tx_E_s (by omega)]) (by rw [show (fs_up A4 14 (((M 12 1) * 5) + k) x4) 1 = A4 1 from fs_up_other (by decide)]; exact hek) (fun z j hj => by
           rw [show (fs_up A4 14 (((M 12 1) * 5) + k) x4) 1 = A4 1 from fs_up_other (by decide)] at z
           by_cases y : (j : Int) < k
           · rw [fs_up_at, if_neg (by omega), x414]
             exact k1 (e1.trans (nF_ok (e4_.symm.trans z) (by omega)).1) j y
           · rw [fs_up_at, if_pos (by omega), w4_.1 z, show j = k.toNat by omega]) (fun i hi => by rw [fs_up_at, if_neg (by omega), x414]; exact k2 i hi) (by omega)
    exact loop25 (((5 - (0)) : Int) + 1).toNat (0) (fs_up (fs_up (fs_up M 12 1 ((M 12 1) + 1)) 14 (((M 12 1) * 5) + 3) 1) 14 (((M 12 1) * 5) + 4) 0) (by omega) (fun r a b c => by rw [fs_up_other c, fs_up_other c, fs_up_other b]) (⟨by rw [fs_up_other (by decide), fs_up_other (by decide), fs_up_at, if_neg (by omega)], by rw [fs_up_other (by decide), fs_up_other (by decide), fs_up_at, if_pos rfl, v1]⟩) (by rw [show (fs_up (fs_up (fs_up M 12 1 ((M 12 1) + 1)) 14 (((M 12 1) * 5) + 3) 1) 14 (((M 12 1) * 5) + 4) 0) 1 = M 1 from by rw [fs_up_other (by decide), fs_up_other (by decide), fs_up_other (by decide)]]; exact ⟨rfl, rfl⟩) (by rw [show (fs_up (fs_up (fs_up M 12 1 ((M 12 1) + 1)) 14 (((M 12 1) * 5) + 3) 1) 14 (((M 12 1) * 5) + 4) 0) 1 = M 1 from by rw [fs_up_other (by decide), fs_up_other (by decide), fs_up_other (by decide)]]; rfl) (by rw [show (fs_up (fs_up (fs_up M 12 1 ((M 12 1) + 1)) 14 (((M 12 1) * 5) + 3) 1) 14 (((M 12 1) * 5) + 4) 0) 1 = M 1 from by rw [fs_up_other (by decide), fs_up_other (by decide), fs_up_other (by decide)]]; exact s3.trans (if_neg (by omega)).symm) (fun _ j hj => by omega) (fun i hi => by rw [fs_up_at, if_neg (by omega), fs_up_at, if_neg (by omega), fs_up_other (by decide)]) (by omega)
  refine fs_r_call (sta := false) (idx := 91) (as := [.inr (.ref 1), .inl (M 1 4)]) (rest := []) (L1 := [some (.inr (.ref 1)), some (.inr (.ref 12)), none, none]) (st1 := [.inl (M 1 4), .inr (.ref 1)]) (M1 := M) (ob := [1 < fs_N ∧ fs_kd 1 = 4]) rfl rfl rfl (fs_oc fs_ob1 trivial) rfl rfl (Nat.le_of_ble_eq_true rfl) ⟨Or.inr (Nat.le_of_ble_eq_true rfl), Or.inr fs_ob1⟩ (by decide) ?_
  refine fs_c_failAt ?_
  refine fs_r_ret (L1 := [some (.inr (.ref 1)), some (.inr (.ref 12)), none, none]) (M1 := (fs_up M 1 3 (if M 1 3 = -1 then (M 1 4) else M 1 3))) (ob := []) rfl rfl trivial ?_
  have f9 : (fs_up M 1 3 (if M 1 3 = -1 then (M 1 4) else M 1 3)) 1 3 = M 1 4 := by rw [fs_up_at, if_pos rfl, if_pos s3]
  have fF : tx_S (M 2) (M 1 1) N (M 1 4) (M 1 2) = M 1 4 := by
    unfold tx_S
    rw [tx_F_ne (by omega) (by omega)]
    unfold eF
    exact if_neg (by omega)
  exact hq0 _ (fun r z _ => fs_up_other z) (by rw [fs_up_at, if_neg (by omega)]) (f9.trans fF.symm) (fun z => by rw [f9] at z; omega) (by rw [fs_up_at, if_neg (by omega)]; omega)
