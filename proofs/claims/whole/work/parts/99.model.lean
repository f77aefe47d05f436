/-! words, Model -/
def wc (T : Int → Int) (q : Int) : Nat → Int
  | 0 => 0
  | k + 1 => 27 * wc T q k + T (q + k) - 96
theorem wc_s {T : Int → Int} {q k : Int} (h : 0 ≤ k) : wc T q (k + 1).toNat = 27 * wc T q k.toNat + T (q + k) - 96 := by
  obtain ⟨m, rfl⟩ := Int.eq_ofNat_of_zero_le h
  rfl
theorem wc_b {T : Int → Int} {q : Int} : ∀ L : Nat, (∀ j : Nat, j < L → 97 ≤ T (q + j) ∧ T (q + j) ≤ 122) → (0 ≤ wc T q L ∧ (0 < L → 1 ≤ wc T q L)) ∧ wc T q L < 27 ^ L
  | 0, _ => by show ((0 : Int) ≤ 0 ∧ (0 < 0 → 1 ≤ (0 : Int))) ∧ (0 : Int) < 27 ^ 0; omega
  | L + 1, h => by
    have ih := wc_b L (fun j hj => h j (by omega))
    have w := h L (by omega)
    have e : (27 : Int) ^ (L + 1) = 27 ^ L * 27 := Int.pow_succ 27 L
    show (0 ≤ 27 * wc T q L + T (q + L) - 96 ∧ (0 < L + 1 → 1 ≤ 27 * wc T q L + T (q + L) - 96)) ∧ 27 * wc T q L + T (q + L) - 96 < 27 ^ (L + 1)
    rw [e]
    omega
theorem wc_inj {T U : Int → Int} {q u : Int} : ∀ (L K : Nat), (∀ j : Nat, j < L → 97 ≤ T (q + j) ∧ T (q + j) ≤ 122) → (∀ j : Nat, j < K → 97 ≤ U (u + j) ∧ U (u + j) ≤ 122) → (wc T q L = wc U u K ↔ L = K ∧ ∀ j : Nat, j < L → T (q + j) = U (u + j)) := by
  intro L
  induction L with
  | zero =>
    intro K hT hU
    cases K with
    | zero => exact ⟨fun _ => ⟨rfl, fun j hj => by omega⟩, fun _ => rfl⟩
    | succ K =>
      have b := wc_b (T := U) (q := u) (K + 1) hU
      have z : wc T q 0 = 0 := rfl
      exact ⟨fun h => by omega, fun h => by omega⟩
  | succ L ih =>
    intro K hT hU
    cases K with
    | zero =>
      have b := wc_b (T := T) (q := q) (L + 1) hT
      have z : wc U u 0 = 0 := rfl
      exact ⟨fun h => by omega, fun h => by omega⟩
    | succ K =>
      have a := hT L (by omega)
      have b := hU K (by omega)
      have i := ih K (fun j hj => hT j (by omega)) (fun j hj => hU j (by omega))
      have w1 : wc T q (L + 1) = 27 * wc T q L + T (q + L) - 96 := rfl
      have w2 : wc U u (K + 1) = 27 * wc U u K + U (u + K) - 96 := rfl
      rw [w1, w2]
      constructor
      · intro h
        obtain ⟨e, f⟩ := i.mp (by omega)
        subst e
        refine ⟨rfl, fun j hj => ?_⟩
        rcases (show j < L ∨ j = L by omega) with z | z
        · exact f j z
        · rw [z]; omega
      · rintro ⟨e, f⟩
        have e2 : L = K := by omega
        subst e2
        have g := i.mpr ⟨rfl, fun j hj => f j (by omega)⟩
        have g2 := f L (by omega)
        omega
theorem wc_long {c t : Int} (ht : 0 ≤ t ∧ t ≤ 122) : (Int64.ofInt 27) * (Int64.ofInt c) + (Int32.ofInt t).toInt64 - (Int64.ofInt 96) = Int64.ofInt (27 * c + t - 96) := by
  rw [Int64.ofInt_sub, Int64.ofInt_add, Int64.ofInt_mul]
  congr 2
  refine Int64.toInt_inj.mp ?_
  rw [Int32.toInt_toInt64, Int32.toInt_ofInt_of_le (by omega) (by omega), Int64.toInt_ofInt_of_le (by omega) (by omega)]
theorem lg_cmp_z {a b : Int64} : (lg_cmp a b).toInt = 0 ↔ a = b := by
  unfold lg_cmp
  by_cases h : a > b
  · rw [if_pos h]
    refine ⟨fun z => absurd z (by decide), fun z => ?_⟩
    rw [z] at h
    exact absurd h (Int64.lt_irrefl)
  · rw [if_neg h]
    by_cases e : a = b
    · rw [if_pos e]
      exact ⟨fun _ => e, fun _ => rfl⟩
    · rw [if_neg e]
      exact ⟨fun z => absurd z (by decide), fun z => absurd z e⟩
theorem wc_eq {a b : Int} (ha : 0 ≤ a ∧ a < 27 ^ 7) (hb : 0 ≤ b ∧ b < 27 ^ 7) : (Int64.ofInt a = Int64.ofInt b) ↔ a = b := by
  have p : (27 : Int) ^ 7 = 10460353203 := by decide
  rw [p] at ha hb
  constructor
  · intro h
    have w := congrArg Int64.toInt h
    rw [Int64.toInt_ofInt_of_le (by omega) (by omega), Int64.toInt_ofInt_of_le (by omega) (by omega)] at w
    exact w
  · intro h; rw [h]
theorem wd_iff {T : Int → Int} {q e : Int} (i : Nat) {W : Int} (hi : i < 5) (hW : wc (fun j => (wdL i).getD j.toNat 0) 0 (wdL i).length = W) (he : 0 ≤ e - q ∧ e - q ≤ 7) (hT : ∀ k, q ≤ k → k < e → 97 ≤ T k ∧ T k ≤ 122) : Int64.ofInt (wc T q (e - q).toNat) = Int64.ofInt W ↔ wdP T q e i := by
  have dl : ∀ i : Fin 5, (wdL i.val).length ≤ 7 ∧ ∀ j : Fin 7, j.val < (wdL i.val).length → 97 ≤ (wdL i.val).getD j.val 0 ∧ (wdL i.val).getD j.val 0 ≤ 122 := by decide
  have di := dl ⟨i, hi⟩
  have d1 : ∀ j : Nat, j < (wdL i).length → 97 ≤ (fun j : Int => (wdL i).getD j.toNat 0) (0 + j) ∧ (fun j : Int => (wdL i).getD j.toNat 0) (0 + j) ≤ 122 := fun j hj => by
    have w := di.2 ⟨j, by have := di.1; simp only at this; omega⟩ hj
    show 97 ≤ (wdL i).getD ((0 : Int) + j).toNat 0 ∧ (wdL i).getD ((0 : Int) + j).toNat 0 ≤ 122
    rw [show ((0 : Int) + (j : Int)).toNat = j by omega]
    exact w
  have d2 : ∀ j : Nat, j < (e - q).toNat → 97 ≤ T (q + j) ∧ T (q + j) ≤ 122 := fun j hj => hT _ (by omega) (by omega)
  have b1 := wc_b (T := T) (q := q) _ d2
  have b2 := wc_b (T := fun j : Int => (wdL i).getD j.toNat 0) (q := 0) _ d1
  have pw : ∀ n : Nat, n ≤ 7 → (27 : Int) ^ n ≤ 27 ^ 7 := fun n hn => by
    have key : ∀ k : Fin 8, (27 : Int) ^ k.val ≤ 27 ^ 7 := by decide
    exact key ⟨n, by omega⟩
  have p1 := pw (e - q).toNat (by omega)
  have p2 := pw (wdL i).length di.1
  rw [← hW]
  refine (wc_eq ⟨b1.1.1, by omega⟩ ⟨b2.1.1, by omega⟩).trans ((wc_inj _ _ d2 d1).trans ?_)
  unfold wdP
  constructor
  · rintro ⟨a, b⟩
    refine ⟨by omega, fun j hj => ?_⟩
    have w := b j (by omega)
    rw [w]
    show (wdL i).getD ((0 : Int) + j).toNat 0 = _
    rw [show ((0 : Int) + (j : Int)).toNat = j by omega]
  · rintro ⟨a, b⟩
    refine ⟨by omega, fun j hj => ?_⟩
    have w := b j (by omega)
    rw [w]
    show _ = (wdL i).getD ((0 : Int) + j).toNat 0
    rw [show ((0 : Int) + (j : Int)).toNat = j by omega]
theorem wd_len {T : Int → Int} {q e : Int} {i : Nat} (hi : i < 5) (h : wdP T q e i) : 1 ≤ e - q ∧ e - q ≤ 7 := by
  have dl : ∀ i : Fin 5, 1 ≤ (wdL i.val).length ∧ (wdL i.val).length ≤ 7 := by decide
  have w := dl ⟨i, hi⟩
  have z := h.1
  simp only at w
  omega
theorem fs_m_isWord0 {d : Nat} {M : fs_M} {Q : Option fs_V → fs_M → Prop}   (hw : (0 ≤ M 124 10 ∧ M 124 10 ≤ M 124 8) ∧ M 124 8 ≤ 800) (hl : M 124 9 = 1 → ∀ k, M 124 10 ≤ k → k < M 124 8 → 97 ≤ M 128 k ∧ M 128 k ≤ 122) (hq0 : (M 124 9 = 1 ∧ wdP (M 128) (M 124 10) (M 124 8) 0) → Q (some (.inl 1)) M) (hq1 : (¬ (M 124 9 = 1 ∧ wdP (M 128) (M 124 10) (M 124 8) 0)) → Q (some (.inl 0)) M) : fs_W (d) 177 0 [some (.inr (.ref 124)), some (.inr (.long (Int64.ofInt 919424))), none, none, none, none] [] M Q := by
  refine fs_r_nop (L1 := [some (.inr (.ref 124)), some (.inr (.long (Int64.ofInt 919424))), none, some (.inr (.long (Int64.ofNat 0))), none, some (.inl (M 124 10))]) (st1 := []) (M1 := M) (ob := [3 + 1 < 6, 124 < fs_N ∧ fs_kd 124 = 6, 5 < 6]) rfl rfl (fs_oc (by decide) (fs_oc fs_ob124 (fs_oc (by decide) trivial))) ?_
  have loop8 : ∀ (n8 : Nat) (v : Int64) (k : Int), (M 124 10 ≤ k ∧ k ≤ M 124 10 + 8 ∧ (k = M 124 10 ∨ k ≤ M 124 8)) → (v = Int64.ofInt (wc (M 128) (M 124 10) (k - M 124 10).toNat)) → M 124 10 + 8 - k < (n8 : Int) → fs_W (d) 177 8 [some (.inr (.ref 124)), some (.inr (.long (Int64.ofInt 919424))), none, some (.inr (.long v)), none, some (.inl k)] [] M Q := by
    intro n8
    induction n8 with
    | zero =>
      intro v k i0 v0 hm8
      exfalso
      omega
    | succ n8 ih8 =>
      intro v k i0 v0 hm8
      have join62 : (M 124 9 = 1 → M 124 8 - M 124 10 < 8 → k = M 124 8) → fs_W (d) 177 62 [some (.inr (.ref 124)), some (.inr (.long (Int64.ofInt 919424))), none, some (.inr (.long v)), none, some (.inl k)] [] M Q := by
        intro  j0
        have key : M 124 9 = 1 → M 124 8 - M 124 10 < 8 → (v = (Int64.ofInt 919424) ↔ wdP (M 128) (M 124 10) (M 124 8) 0) := fun z y => by
          rw [v0, j0 z y]
          exact wd_iff 0 (by decide) (by decide) (by omega) (hl z)
        refine fs_r_icmp (a := (M 124 9)) (y := 1) (L1 := [some (.inr (.ref 124)), some (.inr (.long (Int64.ofInt 919424))), none, some (.inr (.long v)), none, some (.inl k)]) (st1 := []) (M1 := M) (ob := [124 < fs_N ∧ fs_kd 124 = 6]) rfl rfl (fs_oc fs_ob124 trivial) (fun (h1 : ¬ (M 124 9) = 1) => ?_) (fun (h1 : ¬ (¬ (M 124 9) = 1)) => ?_)
        · refine fs_r_nop (L1 := [some (.inr (.ref 124)), some (.inr (.long (Int64.ofInt 919424))), none, some (.inr (.long v)), none, some (.inl k)]) (st1 := [.inl 0]) (M1 := M) (ob := []) rfl rfl trivial ?_
          refine fs_r_iret (a := 0) (L1 := [some (.inr (.ref 124)), some (.inr (.long (Int64.ofInt 919424))), none, some (.inr (.long v)), none, some (.inl k)]) (M1 := M) (ob := []) rfl rfl trivial (Or.inr (Or.inl rfl)) ?_
          first
            | (refine hq0 ⟨by omega, (key (by omega) (by omega)).mp (lg_cmp_z.mp (by omega))⟩)
            | (refine hq1 (fun z => ?_)
               have w := wd_len (by decide) z.2
               first
                 | omega
                 | (have y := (key (by omega) (by omega)).mpr z.2
                    have u := lg_cmp_z.mpr y
                    omega))
        refine fs_r_icmp (a := ((M 124 8) - (M 124 10))) (y := 8) (L1 := [some (.inr (.ref 124)), some (.inr (.long (Int64.ofInt 919424))), none, some (.inr (.long v)), none, some (.inl k)]) (st1 := []) (M1 := M) (ob := [124 < fs_N ∧ fs_kd 124 = 6, 124 < fs_N ∧ fs_kd 124 = 6, fs_rg ((M 124 8) - (M 124 10))]) rfl rfl (fs_oc fs_ob124 (fs_oc fs_ob124 (fs_oc ⟨by omega, by omega⟩ trivial))) (fun (h2 : 8 ≤ ((M 124 8) - (M 124 10))) => ?_) (fun (h2 : ¬ (8 ≤ ((M 124 8) - (M 124 10)))) => ?_)
        · refine fs_r_nop (L1 := [some (.inr (.ref 124)), some (.inr (.long (Int64.ofInt 919424))), none, some (.inr (.long v)), none, some (.inl k)]) (st1 := [.inl 0]) (M1 := M) (ob := []) rfl rfl trivial ?_
          refine fs_r_iret (a := 0) (L1 := [some (.inr (.ref 124)), some (.inr (.long (Int64.ofInt 919424))), none, some (.inr (.long v)), none, some (.inl k)]) (M1 := M) (ob := []) rfl rfl trivial (Or.inr (Or.inl rfl)) ?_
          first
            | (refine hq0 ⟨by omega, (key (by omega) (by omega)).mp (lg_cmp_z.mp (by omega))⟩)
            | (refine hq1 (fun z => ?_)
               have w := wd_len (by decide) z.2
               first
                 | omega
                 | (have y := (key (by omega) (by omega)).mpr z.2
                    have u := lg_cmp_z.mpr y
                    omega))
        refine fs_r_if (a := (lg_cmp v (Int64.ofInt 919424)).toInt) (L1 := [some (.inr (.ref 124)), some (.inr (.long (Int64.ofInt 919424))), none, some (.inr (.long v)), none, some (.inl k)]) (st1 := []) (M1 := M) (ob := []) rfl rfl trivial (fun (h3 : ¬ (lg_cmp v (Int64.ofInt 919424)).toInt = 0) => ?_) (fun (h3 : ¬ (¬ (lg_cmp v (Int64.ofInt 919424)).toInt = 0)) => ?_)
        · refine fs_r_nop (L1 := [some (.inr (.ref 124)), some (.inr (.long (Int64.ofInt 919424))), none, some (.inr (.long v)), none, some (.inl k)]) (st1 := [.inl 0]) (M1 := M) (ob := []) rfl rfl trivial ?_
          refine fs_r_iret (a := 0) (L1 := [some (.inr (.ref 124)), some (.inr (.long (Int64.ofInt 919424))), none, some (.inr (.long v)), none, some (.inl k)]) (M1 := M) (ob := []) rfl rfl trivial (Or.inr (Or.inl rfl)) ?_
          first
            | (refine hq0 ⟨by omega, (key (by omega) (by omega)).mp (lg_cmp_z.mp (by omega))⟩)
            | (refine hq1 (fun z => ?_)
               have w := wd_len (by decide) z.2
               first
                 | omega
                 | (have y := (key (by omega) (by omega)).mpr z.2
                    have u := lg_cmp_z.mpr y
                    omega))
        refine fs_r_goto (L1 := [some (.inr (.ref 124)), some (.inr (.long (Int64.ofInt 919424))), none, some (.inr (.long v)), none, some (.inl k)]) (st1 := [.inl 1]) (M1 := M) (ob := []) rfl rfl trivial ?_
        refine fs_r_iret (a := 1) (L1 := [some (.inr (.ref 124)), some (.inr (.long (Int64.ofInt 919424))), none, some (.inr (.long v)), none, some (.inl k)]) (M1 := M) (ob := []) rfl rfl trivial (Or.inr (Or.inr rfl)) ?_
        first
          | (refine hq0 ⟨by omega, (key (by omega) (by omega)).mp (lg_cmp_z.mp (by omega))⟩)
          | (refine hq1 (fun z => ?_)
             have w := wd_len (by decide) z.2
             first
               | omega
               | (have y := (key (by omega) (by omega)).mpr z.2
                  have u := lg_cmp_z.mpr y
                  omega))
      refine fs_r_icmp (a := (M 124 9)) (y := 1) (L1 := [some (.inr (.ref 124)), some (.inr (.long (Int64.ofInt 919424))), none, some (.inr (.long v)), none, some (.inl k)]) (st1 := []) (M1 := M) (ob := [124 < fs_N ∧ fs_kd 124 = 6]) rfl rfl (fs_oc fs_ob124 trivial) (fun (h4 : ¬ (M 124 9) = 1) => ?_) (fun (h4 : ¬ (¬ (M 124 9) = 1)) => ?_)
      · exact join62 (by omega)
      refine fs_r_icmp (a := k) (y := (M 124 8)) (L1 := [some (.inr (.ref 124)), some (.inr (.long (Int64.ofInt 919424))), none, some (.inr (.long v)), none, some (.inl k)]) (st1 := []) (M1 := M) (ob := [124 < fs_N ∧ fs_kd 124 = 6]) rfl rfl (fs_oc fs_ob124 trivial) (fun (h5 : (M 124 8) ≤ k) => ?_) (fun (h5 : ¬ ((M 124 8) ≤ k)) => ?_)
      · exact join62 (by omega)
      refine fs_r_icmp (a := k) (y := ((M 124 10) + 8)) (L1 := [some (.inr (.ref 124)), some (.inr (.long (Int64.ofInt 919424))), none, some (.inr (.long v)), none, some (.inl k)]) (st1 := []) (M1 := M) (ob := [124 < fs_N ∧ fs_kd 124 = 6, fs_rg ((M 124 10) + 8)]) rfl rfl (fs_oc fs_ob124 (fs_oc ⟨by omega, by omega⟩ trivial)) (fun (h6 : ((M 124 10) + 8) ≤ k) => ?_) (fun (h6 : ¬ (((M 124 10) + 8) ≤ k)) => ?_)
      · exact join62 (by omega)
      have lk := hl (by omega) k (by omega) (by omega)
      refine fs_r_goto (L1 := [some (.inr (.ref 124)), some (.inr (.long (Int64.ofInt 919424))), none, some (.inr (.long ((((Int64.ofInt 27) * v) + (Int32.ofInt (M 128 k)).toInt64) - (Int64.ofInt 96)))), none, some (.inl (k + 1))]) (st1 := []) (M1 := M) (ob := [124 < fs_N ∧ fs_kd 124 = 6, (128 < fs_N ∧ fs_kd 128 = 100) ∧ (0 : Int) ≤ k ∧ k < fs_ln 128, 3 + 1 < 6, fs_rg (k + 1)]) rfl (fs_exA 6 (o1 := [124 < fs_N ∧ fs_kd 124 = 6]) (L1 := [some (.inr (.ref 124)), some (.inr (.long (Int64.ofInt 919424))), none, some (.inr (.long v)), none, some (.inl k)]) (st1 := [.inl k, .inr (.ref 128), .inr (.long ((Int64.ofInt 27) * v))]) (M1 := M) (o2 := [(128 < fs_N ∧ fs_kd 128 = 100) ∧ (0 : Int) ≤ k ∧ k < fs_ln 128, 3 + 1 < 6, fs_rg (k + 1)]) rfl rfl) (fs_oc fs_ob124 (fs_oc (fs_ar128 (by omega) (by omega)) (fs_oc (by decide) (fs_oc ⟨by omega, by omega⟩ trivial)))) ?_
      exact ih8 (((((Int64.ofInt 27) * v) + (Int32.ofInt (M 128 k)).toInt64) - (Int64.ofInt 96))) ((k + 1)) (by omega) (by rw [v0, show (k + 1 - M 124 10).toNat = (k - M 124 10 + 1).toNat by omega, wc_s (by omega), show M 124 10 + (k - M 124 10) = k by omega]; exact wc_long (by omega)) (by omega)
  exact loop8 (((M 124 10 + 8 - ((M 124 10))) : Int) + 1).toNat ((Int64.ofNat 0)) ((M 124 10)) (by omega) (by rw [show (M 124 10 - M 124 10).toNat = 0 by omega]; exact (by decide : Int64.ofNat 0 = Int64.ofInt 0)) (by omega)

theorem fs_m_isWord1 {d : Nat} {M : fs_M} {Q : Option fs_V → fs_M → Prop}   (hw : (0 ≤ M 124 10 ∧ M 124 10 ≤ M 124 8) ∧ M 124 8 ≤ 800) (hl : M 124 9 = 1 → ∀ k, M 124 10 ≤ k → k < M 124 8 → 97 ≤ M 128 k ∧ M 128 k ≤ 122) (hq0 : (M 124 9 = 1 ∧ wdP (M 128) (M 124 10) (M 124 8) 1) → Q (some (.inl 1)) M) (hq1 : (¬ (M 124 9 = 1 ∧ wdP (M 128) (M 124 10) (M 124 8) 1)) → Q (some (.inl 0)) M) : fs_W (d) 177 0 [some (.inr (.ref 124)), some (.inr (.long (Int64.ofInt 4562600))), none, none, none, none] [] M Q := by
  refine fs_r_nop (L1 := [some (.inr (.ref 124)), some (.inr (.long (Int64.ofInt 4562600))), none, some (.inr (.long (Int64.ofNat 0))), none, some (.inl (M 124 10))]) (st1 := []) (M1 := M) (ob := [3 + 1 < 6, 124 < fs_N ∧ fs_kd 124 = 6, 5 < 6]) rfl rfl (fs_oc (by decide) (fs_oc fs_ob124 (fs_oc (by decide) trivial))) ?_
  have loop8 : ∀ (n8 : Nat) (v : Int64) (k : Int), (M 124 10 ≤ k ∧ k ≤ M 124 10 + 8 ∧ (k = M 124 10 ∨ k ≤ M 124 8)) → (v = Int64.ofInt (wc (M 128) (M 124 10) (k - M 124 10).toNat)) → M 124 10 + 8 - k < (n8 : Int) → fs_W (d) 177 8 [some (.inr (.ref 124)), some (.inr (.long (Int64.ofInt 4562600))), none, some (.inr (.long v)), none, some (.inl k)] [] M Q := by
    intro n8
    induction n8 with
    | zero =>
      intro v k i0 v0 hm8
      exfalso
      omega
    | succ n8 ih8 =>
      intro v k i0 v0 hm8
      have join62 : (M 124 9 = 1 → M 124 8 - M 124 10 < 8 → k = M 124 8) → fs_W (d) 177 62 [some (.inr (.ref 124)), some (.inr (.long (Int64.ofInt 4562600))), none, some (.inr (.long v)), none, some (.inl k)] [] M Q := by
        intro  j0
        have key : M 124 9 = 1 → M 124 8 - M 124 10 < 8 → (v = (Int64.ofInt 4562600) ↔ wdP (M 128) (M 124 10) (M 124 8) 1) := fun z y => by
          rw [v0, j0 z y]
          exact wd_iff 1 (by decide) (by decide) (by omega) (hl z)
        refine fs_r_icmp (a := (M 124 9)) (y := 1) (L1 := [some (.inr (.ref 124)), some (.inr (.long (Int64.ofInt 4562600))), none, some (.inr (.long v)), none, some (.inl k)]) (st1 := []) (M1 := M) (ob := [124 < fs_N ∧ fs_kd 124 = 6]) rfl rfl (fs_oc fs_ob124 trivial) (fun (h1 : ¬ (M 124 9) = 1) => ?_) (fun (h1 : ¬ (¬ (M 124 9) = 1)) => ?_)
        · refine fs_r_nop (L1 := [some (.inr (.ref 124)), some (.inr (.long (Int64.ofInt 4562600))), none, some (.inr (.long v)), none, some (.inl k)]) (st1 := [.inl 0]) (M1 := M) (ob := []) rfl rfl trivial ?_
          refine fs_r_iret (a := 0) (L1 := [some (.inr (.ref 124)), some (.inr (.long (Int64.ofInt 4562600))), none, some (.inr (.long v)), none, some (.inl k)]) (M1 := M) (ob := []) rfl rfl trivial (Or.inr (Or.inl rfl)) ?_
          first
            | (refine hq0 ⟨by omega, (key (by omega) (by omega)).mp (lg_cmp_z.mp (by omega))⟩)
            | (refine hq1 (fun z => ?_)
               have w := wd_len (by decide) z.2
               first
                 | omega
                 | (have y := (key (by omega) (by omega)).mpr z.2
                    have u := lg_cmp_z.mpr y
                    omega))
        refine fs_r_icmp (a := ((M 124 8) - (M 124 10))) (y := 8) (L1 := [some (.inr (.ref 124)), some (.inr (.long (Int64.ofInt 4562600))), none, some (.inr (.long v)), none, some (.inl k)]) (st1 := []) (M1 := M) (ob := [124 < fs_N ∧ fs_kd 124 = 6, 124 < fs_N ∧ fs_kd 124 = 6, fs_rg ((M 124 8) - (M 124 10))]) rfl rfl (fs_oc fs_ob124 (fs_oc fs_ob124 (fs_oc ⟨by omega, by omega⟩ trivial))) (fun (h2 : 8 ≤ ((M 124 8) - (M 124 10))) => ?_) (fun (h2 : ¬ (8 ≤ ((M 124 8) - (M 124 10)))) => ?_)
        · refine fs_r_nop (L1 := [some (.inr (.ref 124)), some (.inr (.long (Int64.ofInt 4562600))), none, some (.inr (.long v)), none, some (.inl k)]) (st1 := [.inl 0]) (M1 := M) (ob := []) rfl rfl trivial ?_
          refine fs_r_iret (a := 0) (L1 := [some (.inr (.ref 124)), some (.inr (.long (Int64.ofInt 4562600))), none, some (.inr (.long v)), none, some (.inl k)]) (M1 := M) (ob := []) rfl rfl trivial (Or.inr (Or.inl rfl)) ?_
          first
            | (refine hq0 ⟨by omega, (key (by omega) (by omega)).mp (lg_cmp_z.mp (by omega))⟩)
            | (refine hq1 (fun z => ?_)
               have w := wd_len (by decide) z.2
               first
                 | omega
                 | (have y := (key (by omega) (by omega)).mpr z.2
                    have u := lg_cmp_z.mpr y
                    omega))
        refine fs_r_if (a := (lg_cmp v (Int64.ofInt 4562600)).toInt) (L1 := [some (.inr (.ref 124)), some (.inr (.long (Int64.ofInt 4562600))), none, some (.inr (.long v)), none, some (.inl k)]) (st1 := []) (M1 := M) (ob := []) rfl rfl trivial (fun (h3 : ¬ (lg_cmp v (Int64.ofInt 4562600)).toInt = 0) => ?_) (fun (h3 : ¬ (¬ (lg_cmp v (Int64.ofInt 4562600)).toInt = 0)) => ?_)
        · refine fs_r_nop (L1 := [some (.inr (.ref 124)), some (.inr (.long (Int64.ofInt 4562600))), none, some (.inr (.long v)), none, some (.inl k)]) (st1 := [.inl 0]) (M1 := M) (ob := []) rfl rfl trivial ?_
          refine fs_r_iret (a := 0) (L1 := [some (.inr (.ref 124)), some (.inr (.long (Int64.ofInt 4562600))), none, some (.inr (.long v)), none, some (.inl k)]) (M1 := M) (ob := []) rfl rfl trivial (Or.inr (Or.inl rfl)) ?_
          first
            | (refine hq0 ⟨by omega, (key (by omega) (by omega)).mp (lg_cmp_z.mp (by omega))⟩)
            | (refine hq1 (fun z => ?_)
               have w := wd_len (by decide) z.2
               first
                 | omega
                 | (have y := (key (by omega) (by omega)).mpr z.2
                    have u := lg_cmp_z.mpr y
                    omega))
        refine fs_r_goto (L1 := [some (.inr (.ref 124)), some (.inr (.long (Int64.ofInt 4562600))), none, some (.inr (.long v)), none, some (.inl k)]) (st1 := [.inl 1]) (M1 := M) (ob := []) rfl rfl trivial ?_
        refine fs_r_iret (a := 1) (L1 := [some (.inr (.ref 124)), some (.inr (.long (Int64.ofInt 4562600))), none, some (.inr (.long v)), none, some (.inl k)]) (M1 := M) (ob := []) rfl rfl trivial (Or.inr (Or.inr rfl)) ?_
        first
          | (refine hq0 ⟨by omega, (key (by omega) (by omega)).mp (lg_cmp_z.mp (by omega))⟩)
          | (refine hq1 (fun z => ?_)
             have w := wd_len (by decide) z.2
             first
               | omega
               | (have y := (key (by omega) (by omega)).mpr z.2
                  have u := lg_cmp_z.mpr y
                  omega))
      refine fs_r_icmp (a := (M 124 9)) (y := 1) (L1 := [some (.inr (.ref 124)), some (.inr (.long (Int64.ofInt 4562600))), none, some (.inr (.long v)), none, some (.inl k)]) (st1 := []) (M1 := M) (ob := [124 < fs_N ∧ fs_kd 124 = 6]) rfl rfl (fs_oc fs_ob124 trivial) (fun (h4 : ¬ (M 124 9) = 1) => ?_) (fun (h4 : ¬ (¬ (M 124 9) = 1)) => ?_)
      · exact join62 (by omega)
      refine fs_r_icmp (a := k) (y := (M 124 8)) (L1 := [some (.inr (.ref 124)), some (.inr (.long (Int64.ofInt 4562600))), none, some (.inr (.long v)), none, some (.inl k)]) (st1 := []) (M1 := M) (ob := [124 < fs_N ∧ fs_kd 124 = 6]) rfl rfl (fs_oc fs_ob124 trivial) (fun (h5 : (M 124 8) ≤ k) => ?_) (fun (h5 : ¬ ((M 124 8) ≤ k)) => ?_)
      · exact join62 (by omega)
      refine fs_r_icmp (a := k) (y := ((M 124 10) + 8)) (L1 := [some (.inr (.ref 124)), some (.inr (.long (Int64.ofInt 4562600))), none, some (.inr (.long v)), none, some (.inl k)]) (st1 := []) (M1 := M) (ob := [124 < fs_N ∧ fs_kd 124 = 6, fs_rg ((M 124 10) + 8)]) rfl rfl (fs_oc fs_ob124 (fs_oc ⟨by omega, by omega⟩ trivial)) (fun (h6 : ((M 124 10) + 8) ≤ k) => ?_) (fun (h6 : ¬ (((M 124 10) + 8) ≤ k)) => ?_)
      · exact join62 (by omega)
      have lk := hl (by omega) k (by omega) (by omega)
      refine fs_r_goto (L1 := [some (.inr (.ref 124)), some (.inr (.long (Int64.ofInt 4562600))), none, some (.inr (.long ((((Int64.ofInt 27) * v) + (Int32.ofInt (M 128 k)).toInt64) - (Int64.ofInt 96)))), none, some (.inl (k + 1))]) (st1 := []) (M1 := M) (ob := [124 < fs_N ∧ fs_kd 124 = 6, (128 < fs_N ∧ fs_kd 128 = 100) ∧ (0 : Int) ≤ k ∧ k < fs_ln 128, 3 + 1 < 6, fs_rg (k + 1)]) rfl (fs_exA 6 (o1 := [124 < fs_N ∧ fs_kd 124 = 6]) (L1 := [some (.inr (.ref 124)), some (.inr (.long (Int64.ofInt 4562600))), none, some (.inr (.long v)), none, some (.inl k)]) (st1 := [.inl k, .inr (.ref 128), .inr (.long ((Int64.ofInt 27) * v))]) (M1 := M) (o2 := [(128 < fs_N ∧ fs_kd 128 = 100) ∧ (0 : Int) ≤ k ∧ k < fs_ln 128, 3 + 1 < 6, fs_rg (k + 1)]) rfl rfl) (fs_oc fs_ob124 (fs_oc (fs_ar128 (by omega) (by omega)) (fs_oc (by decide) (fs_oc ⟨by omega, by omega⟩ trivial)))) ?_
      exact ih8 (((((Int64.ofInt 27) * v) + (Int32.ofInt (M 128 k)).toInt64) - (Int64.ofInt 96))) ((k + 1)) (by omega) (by rw [v0, show (k + 1 - M 124 10).toNat = (k - M 124 10 + 1).toNat by omega, wc_s (by omega), show M 124 10 + (k - M 124 10) = k by omega]; exact wc_long (by omega)) (by omega)
  exact loop8 (((M 124 10 + 8 - ((M 124 10))) : Int) + 1).toNat ((Int64.ofNat 0)) ((M 124 10)) (by omega) (by rw [show (M 124 10 - M 124 10).toNat = 0 by omega]; exact (by decide : Int64.ofNat 0 = Int64.ofInt 0)) (by omega)

theorem fs_m_isWord2 {d : Nat} {M : fs_M} {Q : Option fs_V → fs_M → Prop}   (hw : (0 ≤ M 124 10 ∧ M 124 10 ≤ M 124 8) ∧ M 124 8 ≤ 800) (hl : M 124 9 = 1 → ∀ k, M 124 10 ≤ k → k < M 124 8 → 97 ≤ M 128 k ∧ M 128 k ≤ 122) (hq0 : (M 124 9 = 1 ∧ wdP (M 128) (M 124 10) (M 124 8) 2) → Q (some (.inl 1)) M) (hq1 : (¬ (M 124 9 = 1 ∧ wdP (M 128) (M 124 10) (M 124 8) 2)) → Q (some (.inl 0)) M) : fs_W (d) 177 0 [some (.inr (.ref 124)), some (.inr (.long (Int64.ofInt 247172))), none, none, none, none] [] M Q := by
  refine fs_r_nop (L1 := [some (.inr (.ref 124)), some (.inr (.long (Int64.ofInt 247172))), none, some (.inr (.long (Int64.ofNat 0))), none, some (.inl (M 124 10))]) (st1 := []) (M1 := M) (ob := [3 + 1 < 6, 124 < fs_N ∧ fs_kd 124 = 6, 5 < 6]) rfl rfl (fs_oc (by decide) (fs_oc fs_ob124 (fs_oc (by decide) trivial))) ?_
  have loop8 : ∀ (n8 : Nat) (v : Int64) (k : Int), (M 124 10 ≤ k ∧ k ≤ M 124 10 + 8 ∧ (k = M 124 10 ∨ k ≤ M 124 8)) → (v = Int64.ofInt (wc (M 128) (M 124 10) (k - M 124 10).toNat)) → M 124 10 + 8 - k < (n8 : Int) → fs_W (d) 177 8 [some (.inr (.ref 124)), some (.inr (.long (Int64.ofInt 247172))), none, some (.inr (.long v)), none, some (.inl k)] [] M Q := by
    intro n8
    induction n8 with
    | zero =>
      intro v k i0 v0 hm8
      exfalso
      omega
    | succ n8 ih8 =>
      intro v k i0 v0 hm8
      have join62 : (M 124 9 = 1 → M 124 8 - M 124 10 < 8 → k = M 124 8) → fs_W (d) 177 62 [some (.inr (.ref 124)), some (.inr (.long (Int64.ofInt 247172))), none, some (.inr (.long v)), none, some (.inl k)] [] M Q := by
        intro  j0
        have key : M 124 9 = 1 → M 124 8 - M 124 10 < 8 → (v = (Int64.ofInt 247172) ↔ wdP (M 128) (M 124 10) (M 124 8) 2) := fun z y => by
          rw [v0, j0 z y]
          exact wd_iff 2 (by decide) (by decide) (by omega) (hl z)
        refine fs_r_icmp (a := (M 124 9)) (y := 1) (L1 := [some (.inr (.ref 124)), some (.inr (.long (Int64.ofInt 247172))), none, some (.inr (.long v)), none, some (.inl k)]) (st1 := []) (M1 := M) (ob := [124 < fs_N ∧ fs_kd 124 = 6]) rfl rfl (fs_oc fs_ob124 trivial) (fun (h1 : ¬ (M 124 9) = 1) => ?_) (fun (h1 : ¬ (¬ (M 124 9) = 1)) => ?_)
        · refine fs_r_nop (L1 := [some (.inr (.ref 124)), some (.inr (.long (Int64.ofInt 247172))), none, some (.inr (.long v)), none, some (.inl k)]) (st1 := [.inl 0]) (M1 := M) (ob := []) rfl rfl trivial ?_
          refine fs_r_iret (a := 0) (L1 := [some (.inr (.ref 124)), some (.inr (.long (Int64.ofInt 247172))), none, some (.inr (.long v)), none, some (.inl k)]) (M1 := M) (ob := []) rfl rfl trivial (Or.inr (Or.inl rfl)) ?_
          first
            | (refine hq0 ⟨by omega, (key (by omega) (by omega)).mp (lg_cmp_z.mp (by omega))⟩)
            | (refine hq1 (fun z => ?_)
               have w := wd_len (by decide) z.2
               first
                 | omega
                 | (have y := (key (by omega) (by omega)).mpr z.2
                    have u := lg_cmp_z.mpr y
                    omega))
        refine fs_r_icmp (a := ((M 124 8) - (M 124 10))) (y := 8) (L1 := [some (.inr (.ref 124)), some (.inr (.long (Int64.ofInt 247172))), none, some (.inr (.long v)), none, some (.inl k)]) (st1 := []) (M1 := M) (ob := [124 < fs_N ∧ fs_kd 124 = 6, 124 < fs_N ∧ fs_kd 124 = 6, fs_rg ((M 124 8) - (M 124 10))]) rfl rfl (fs_oc fs_ob124 (fs_oc fs_ob124 (fs_oc ⟨by omega, by omega⟩ trivial))) (fun (h2 : 8 ≤ ((M 124 8) - (M 124 10))) => ?_) (fun (h2 : ¬ (8 ≤ ((M 124 8) - (M 124 10)))) => ?_)
        · refine fs_r_nop (L1 := [some (.inr (.ref 124)), some (.inr (.long (Int64.ofInt 247172))), none, some (.inr (.long v)), none, some (.inl k)]) (st1 := [.inl 0]) (M1 := M) (ob := []) rfl rfl trivial ?_
          refine fs_r_iret (a := 0) (L1 := [some (.inr (.ref 124)), some (.inr (.long (Int64.ofInt 247172))), none, some (.inr (.long v)), none, some (.inl k)]) (M1 := M) (ob := []) rfl rfl trivial (Or.inr (Or.inl rfl)) ?_
          first
            | (refine hq0 ⟨by omega, (key (by omega) (by omega)).mp (lg_cmp_z.mp (by omega))⟩)
            | (refine hq1 (fun z => ?_)
               have w := wd_len (by decide) z.2
               first
                 | omega
                 | (have y := (key (by omega) (by omega)).mpr z.2
                    have u := lg_cmp_z.mpr y
                    omega))
        refine fs_r_if (a := (lg_cmp v (Int64.ofInt 247172)).toInt) (L1 := [some (.inr (.ref 124)), some (.inr (.long (Int64.ofInt 247172))), none, some (.inr (.long v)), none, some (.inl k)]) (st1 := []) (M1 := M) (ob := []) rfl rfl trivial (fun (h3 : ¬ (lg_cmp v (Int64.ofInt 247172)).toInt = 0) => ?_) (fun (h3 : ¬ (¬ (lg_cmp v (Int64.ofInt 247172)).toInt = 0)) => ?_)
        · refine fs_r_nop (L1 := [some (.inr (.ref 124)), some (.inr (.long (Int64.ofInt 247172))), none, some (.inr (.long v)), none, some (.inl k)]) (st1 := [.inl 0]) (M1 := M) (ob := []) rfl rfl trivial ?_
          refine fs_r_iret (a := 0) (L1 := [some (.inr (.ref 124)), some (.inr (.long (Int64.ofInt 247172))), none, some (.inr (.long v)), none, some (.inl k)]) (M1 := M) (ob := []) rfl rfl trivial (Or.inr (Or.inl rfl)) ?_
          first
            | (refine hq0 ⟨by omega, (key (by omega) (by omega)).mp (lg_cmp_z.mp (by omega))⟩)
            | (refine hq1 (fun z => ?_)
               have w := wd_len (by decide) z.2
               first
                 | omega
                 | (have y := (key (by omega) (by omega)).mpr z.2
                    have u := lg_cmp_z.mpr y
                    omega))
        refine fs_r_goto (L1 := [some (.inr (.ref 124)), some (.inr (.long (Int64.ofInt 247172))), none, some (.inr (.long v)), none, some (.inl k)]) (st1 := [.inl 1]) (M1 := M) (ob := []) rfl rfl trivial ?_
        refine fs_r_iret (a := 1) (L1 := [some (.inr (.ref 124)), some (.inr (.long (Int64.ofInt 247172))), none, some (.inr (.long v)), none, some (.inl k)]) (M1 := M) (ob := []) rfl rfl trivial (Or.inr (Or.inr rfl)) ?_
        first
          | (refine hq0 ⟨by omega, (key (by omega) (by omega)).mp (lg_cmp_z.mp (by omega))⟩)
          | (refine hq1 (fun z => ?_)
             have w := wd_len (by decide) z.2
             first
               | omega
               | (have y := (key (by omega) (by omega)).mpr z.2
                  have u := lg_cmp_z.mpr y
                  omega))
      refine fs_r_icmp (a := (M 124 9)) (y := 1) (L1 := [some (.inr (.ref 124)), some (.inr (.long (Int64.ofInt 247172))), none, some (.inr (.long v)), none, some (.inl k)]) (st1 := []) (M1 := M) (ob := [124 < fs_N ∧ fs_kd 124 = 6]) rfl rfl (fs_oc fs_ob124 trivial) (fun (h4 : ¬ (M 124 9) = 1) => ?_) (fun (h4 : ¬ (¬ (M 124 9) = 1)) => ?_)
      · exact join62 (by omega)
      refine fs_r_icmp (a := k) (y := (M 124 8)) (L1 := [some (.inr (.ref 124)), some (.inr (.long (Int64.ofInt 247172))), none, some (.inr (.long v)), none, some (.inl k)]) (st1 := []) (M1 := M) (ob := [124 < fs_N ∧ fs_kd 124 = 6]) rfl rfl (fs_oc fs_ob124 trivial) (fun (h5 : (M 124 8) ≤ k) => ?_) (fun (h5 : ¬ ((M 124 8) ≤ k)) => ?_)
      · exact join62 (by omega)
      refine fs_r_icmp (a := k) (y := ((M 124 10) + 8)) (L1 := [some (.inr (.ref 124)), some (.inr (.long (Int64.ofInt 247172))), none, some (.inr (.long v)), none, some (.inl k)]) (st1 := []) (M1 := M) (ob := [124 < fs_N ∧ fs_kd 124 = 6, fs_rg ((M 124 10) + 8)]) rfl rfl (fs_oc fs_ob124 (fs_oc ⟨by omega, by omega⟩ trivial)) (fun (h6 : ((M 124 10) + 8) ≤ k) => ?_) (fun (h6 : ¬ (((M 124 10) + 8) ≤ k)) => ?_)
      · exact join62 (by omega)
      have lk := hl (by omega) k (by omega) (by omega)
      refine fs_r_goto (L1 := [some (.inr (.ref 124)), some (.inr (.long (Int64.ofInt 247172))), none, some (.inr (.long ((((Int64.ofInt 27) * v) + (Int32.ofInt (M 128 k)).toInt64) - (Int64.ofInt 96)))), none, some (.inl (k + 1))]) (st1 := []) (M1 := M) (ob := [124 < fs_N ∧ fs_kd 124 = 6, (128 < fs_N ∧ fs_kd 128 = 100) ∧ (0 : Int) ≤ k ∧ k < fs_ln 128, 3 + 1 < 6, fs_rg (k + 1)]) rfl (fs_exA 6 (o1 := [124 < fs_N ∧ fs_kd 124 = 6]) (L1 := [some (.inr (.ref 124)), some (.inr (.long (Int64.ofInt 247172))), none, some (.inr (.long v)), none, some (.inl k)]) (st1 := [.inl k, .inr (.ref 128), .inr (.long ((Int64.ofInt 27) * v))]) (M1 := M) (o2 := [(128 < fs_N ∧ fs_kd 128 = 100) ∧ (0 : Int) ≤ k ∧ k < fs_ln 128, 3 + 1 < 6, fs_rg (k + 1)]) rfl rfl) (fs_oc fs_ob124 (fs_oc (fs_ar128 (by omega) (by omega)) (fs_oc (by decide) (fs_oc ⟨by omega, by omega⟩ trivial)))) ?_
      exact ih8 (((((Int64.ofInt 27) * v) + (Int32.ofInt (M 128 k)).toInt64) - (Int64.ofInt 96))) ((k + 1)) (by omega) (by rw [v0, show (k + 1 - M 124 10).toNat = (k - M 124 10 + 1).toNat by omega, wc_s (by omega), show M 124 10 + (k - M 124 10) = k by omega]; exact wc_long (by omega)) (by omega)
  exact loop8 (((M 124 10 + 8 - ((M 124 10))) : Int) + 1).toNat ((Int64.ofNat 0)) ((M 124 10)) (by omega) (by rw [show (M 124 10 - M 124 10).toNat = 0 by omega]; exact (by decide : Int64.ofNat 0 = Int64.ofInt 0)) (by omega)

theorem fs_m_isWord3 {d : Nat} {M : fs_M} {Q : Option fs_V → fs_M → Prop}   (hw : (0 ≤ M 124 10 ∧ M 124 10 ≤ M 124 8) ∧ M 124 8 ≤ 800) (hl : M 124 9 = 1 → ∀ k, M 124 10 ≤ k → k < M 124 8 → 97 ≤ M 128 k ∧ M 128 k ≤ 122) (hq0 : (M 124 9 = 1 ∧ wdP (M 128) (M 124 10) (M 124 8) 3) → Q (some (.inl 1)) M) (hq1 : (¬ (M 124 9 = 1 ∧ wdP (M 128) (M 124 10) (M 124 8) 3)) → Q (some (.inl 0)) M) : fs_W (d) 177 0 [some (.inr (.ref 124)), some (.inr (.long (Int64.ofInt 2230))), none, none, none, none] [] M Q := by
  refine fs_r_nop (L1 := [some (.inr (.ref 124)), some (.inr (.long (Int64.ofInt 2230))), none, some (.inr (.long (Int64.ofNat 0))), none, some (.inl (M 124 10))]) (st1 := []) (M1 := M) (ob := [3 + 1 < 6, 124 < fs_N ∧ fs_kd 124 = 6, 5 < 6]) rfl rfl (fs_oc (by decide) (fs_oc fs_ob124 (fs_oc (by decide) trivial))) ?_
  have loop8 : ∀ (n8 : Nat) (v : Int64) (k : Int), (M 124 10 ≤ k ∧ k ≤ M 124 10 + 8 ∧ (k = M 124 10 ∨ k ≤ M 124 8)) → (v = Int64.ofInt (wc (M 128) (M 124 10) (k - M 124 10).toNat)) → M 124 10 + 8 - k < (n8 : Int) → fs_W (d) 177 8 [some (.inr (.ref 124)), some (.inr (.long (Int64.ofInt 2230))), none, some (.inr (.long v)), none, some (.inl k)] [] M Q := by
    intro n8
    induction n8 with
    | zero =>
      intro v k i0 v0 hm8
      exfalso
      omega
    | succ n8 ih8 =>
      intro v k i0 v0 hm8
      have join62 : (M 124 9 = 1 → M 124 8 - M 124 10 < 8 → k = M 124 8) → fs_W (d) 177 62 [some (.inr (.ref 124)), some (.inr (.long (Int64.ofInt 2230))), none, some (.inr (.long v)), none, some (.inl k)] [] M Q := by
        intro  j0
        have key : M 124 9 = 1 → M 124 8 - M 124 10 < 8 → (v = (Int64.ofInt 2230) ↔ wdP (M 128) (M 124 10) (M 124 8) 3) := fun z y => by
          rw [v0, j0 z y]
          exact wd_iff 3 (by decide) (by decide) (by omega) (hl z)
        refine fs_r_icmp (a := (M 124 9)) (y := 1) (L1 := [some (.inr (.ref 124)), some (.inr (.long (Int64.ofInt 2230))), none, some (.inr (.long v)), none, some (.inl k)]) (st1 := []) (M1 := M) (ob := [124 < fs_N ∧ fs_kd 124 = 6]) rfl rfl (fs_oc fs_ob124 trivial) (fun (h1 : ¬ (M 124 9) = 1) => ?_) (fun (h1 : ¬ (¬ (M 124 9) = 1)) => ?_)
        · refine fs_r_nop (L1 := [some (.inr (.ref 124)), some (.inr (.long (Int64.ofInt 2230))), none, some (.inr (.long v)), none, some (.inl k)]) (st1 := [.inl 0]) (M1 := M) (ob := []) rfl rfl trivial ?_
          refine fs_r_iret (a := 0) (L1 := [some (.inr (.ref 124)), some (.inr (.long (Int64.ofInt 2230))), none, some (.inr (.long v)), none, some (.inl k)]) (M1 := M) (ob := []) rfl rfl trivial (Or.inr (Or.inl rfl)) ?_
          first
            | (refine hq0 ⟨by omega, (key (by omega) (by omega)).mp (lg_cmp_z.mp (by omega))⟩)
            | (refine hq1 (fun z => ?_)
               have w := wd_len (by decide) z.2
               first
                 | omega
                 | (have y := (key (by omega) (by omega)).mpr z.2
                    have u := lg_cmp_z.mpr y
                    omega))
        refine fs_r_icmp (a := ((M 124 8) - (M 124 10))) (y := 8) (L1 := [some (.inr (.ref 124)), some (.inr (.long (Int64.ofInt 2230))), none, some (.inr (.long v)), none, some (.inl k)]) (st1 := []) (M1 := M) (ob := [124 < fs_N ∧ fs_kd 124 = 6, 124 < fs_N ∧ fs_kd 124 = 6, fs_rg ((M 124 8) - (M 124 10))]) rfl rfl (fs_oc fs_ob124 (fs_oc fs_ob124 (fs_oc ⟨by omega, by omega⟩ trivial))) (fun (h2 : 8 ≤ ((M 124 8) - (M 124 10))) => ?_) (fun (h2 : ¬ (8 ≤ ((M 124 8) - (M 124 10)))) => ?_)
        · refine fs_r_nop (L1 := [some (.inr (.ref 124)), some (.inr (.long (Int64.ofInt 2230))), none, some (.inr (.long v)), none, some (.inl k)]) (st1 := [.inl 0]) (M1 := M) (ob := []) rfl rfl trivial ?_
          refine fs_r_iret (a := 0) (L1 := [some (.inr (.ref 124)), some (.inr (.long (Int64.ofInt 2230))), none, some (.inr (.long v)), none, some (.inl k)]) (M1 := M) (ob := []) rfl rfl trivial (Or.inr (Or.inl rfl)) ?_
          first
            | (refine hq0 ⟨by omega, (key (by omega) (by omega)).mp (lg_cmp_z.mp (by omega))⟩)
            | (refine hq1 (fun z => ?_)
               have w := wd_len (by decide) z.2
               first
                 | omega
                 | (have y := (key (by omega) (by omega)).mpr z.2
                    have u := lg_cmp_z.mpr y
                    omega))
        refine fs_r_if (a := (lg_cmp v (Int64.ofInt 2230)).toInt) (L1 := [some (.inr (.ref 124)), some (.inr (.long (Int64.ofInt 2230))), none, some (.inr (.long v)), none, some (.inl k)]) (st1 := []) (M1 := M) (ob := []) rfl rfl trivial (fun (h3 : ¬ (lg_cmp v (Int64.ofInt 2230)).toInt = 0) => ?_) (fun (h3 : ¬ (¬ (lg_cmp v (Int64.ofInt 2230)).toInt = 0)) => ?_)
        · refine fs_r_nop (L1 := [some (.inr (.ref 124)), some (.inr (.long (Int64.ofInt 2230))), none, some (.inr (.long v)), none, some (.inl k)]) (st1 := [.inl 0]) (M1 := M) (ob := []) rfl rfl trivial ?_
          refine fs_r_iret (a := 0) (L1 := [some (.inr (.ref 124)), some (.inr (.long (Int64.ofInt 2230))), none, some (.inr (.long v)), none, some (.inl k)]) (M1 := M) (ob := []) rfl rfl trivial (Or.inr (Or.inl rfl)) ?_
          first
            | (refine hq0 ⟨by omega, (key (by omega) (by omega)).mp (lg_cmp_z.mp (by omega))⟩)
            | (refine hq1 (fun z => ?_)
               have w := wd_len (by decide) z.2
               first
                 | omega
                 | (have y := (key (by omega) (by omega)).mpr z.2
                    have u := lg_cmp_z.mpr y
                    omega))
        refine fs_r_goto (L1 := [some (.inr (.ref 124)), some (.inr (.long (Int64.ofInt 2230))), none, some (.inr (.long v)), none, some (.inl k)]) (st1 := [.inl 1]) (M1 := M) (ob := []) rfl rfl trivial ?_
        refine fs_r_iret (a := 1) (L1 := [some (.inr (.ref 124)), some (.inr (.long (Int64.ofInt 2230))), none, some (.inr (.long v)), none, some (.inl k)]) (M1 := M) (ob := []) rfl rfl trivial (Or.inr (Or.inr rfl)) ?_
        first
          | (refine hq0 ⟨by omega, (key (by omega) (by omega)).mp (lg_cmp_z.mp (by omega))⟩)
          | (refine hq1 (fun z => ?_)
             have w := wd_len (by decide) z.2
             first
               | omega
               | (have y := (key (by omega) (by omega)).mpr z.2
                  have u := lg_cmp_z.mpr y
                  omega))
      refine fs_r_icmp (a := (M 124 9)) (y := 1) (L1 := [some (.inr (.ref 124)), some (.inr (.long (Int64.ofInt 2230))), none, some (.inr (.long v)), none, some (.inl k)]) (st1 := []) (M1 := M) (ob := [124 < fs_N ∧ fs_kd 124 = 6]) rfl rfl (fs_oc fs_ob124 trivial) (fun (h4 : ¬ (M 124 9) = 1) => ?_) (fun (h4 : ¬ (¬ (M 124 9) = 1)) => ?_)
      · exact join62 (by omega)
      refine fs_r_icmp (a := k) (y := (M 124 8)) (L1 := [some (.inr (.ref 124)), some (.inr (.long (Int64.ofInt 2230))), none, some (.inr (.long v)), none, some (.inl k)]) (st1 := []) (M1 := M) (ob := [124 < fs_N ∧ fs_kd 124 = 6]) rfl rfl (fs_oc fs_ob124 trivial) (fun (h5 : (M 124 8) ≤ k) => ?_) (fun (h5 : ¬ ((M 124 8) ≤ k)) => ?_)
      · exact join62 (by omega)
      refine fs_r_icmp (a := k) (y := ((M 124 10) + 8)) (L1 := [some (.inr (.ref 124)), some (.inr (.long (Int64.ofInt 2230))), none, some (.inr (.long v)), none, some (.inl k)]) (st1 := []) (M1 := M) (ob := [124 < fs_N ∧ fs_kd 124 = 6, fs_rg ((M 124 10) + 8)]) rfl rfl (fs_oc fs_ob124 (fs_oc ⟨by omega, by omega⟩ trivial)) (fun (h6 : ((M 124 10) + 8) ≤ k) => ?_) (fun (h6 : ¬ (((M 124 10) + 8) ≤ k)) => ?_)
      · exact join62 (by omega)
      have lk := hl (by omega) k (by omega) (by omega)
      refine fs_r_goto (L1 := [some (.inr (.ref 124)), some (.inr (.long (Int64.ofInt 2230))), none, some (.inr (.long ((((Int64.ofInt 27) * v) + (Int32.ofInt (M 128 k)).toInt64) - (Int64.ofInt 96)))), none, some (.inl (k + 1))]) (st1 := []) (M1 := M) (ob := [124 < fs_N ∧ fs_kd 124 = 6, (128 < fs_N ∧ fs_kd 128 = 100) ∧ (0 : Int) ≤ k ∧ k < fs_ln 128, 3 + 1 < 6, fs_rg (k + 1)]) rfl (fs_exA 6 (o1 := [124 < fs_N ∧ fs_kd 124 = 6]) (L1 := [some (.inr (.ref 124)), some (.inr (.long (Int64.ofInt 2230))), none, some (.inr (.long v)), none, some (.inl k)]) (st1 := [.inl k, .inr (.ref 128), .inr (.long ((Int64.ofInt 27) * v))]) (M1 := M) (o2 := [(128 < fs_N ∧ fs_kd 128 = 100) ∧ (0 : Int) ≤ k ∧ k < fs_ln 128, 3 + 1 < 6, fs_rg (k + 1)]) rfl rfl) (fs_oc fs_ob124 (fs_oc (fs_ar128 (by omega) (by omega)) (fs_oc (by decide) (fs_oc ⟨by omega, by omega⟩ trivial)))) ?_
      exact ih8 (((((Int64.ofInt 27) * v) + (Int32.ofInt (M 128 k)).toInt64) - (Int64.ofInt 96))) ((k + 1)) (by omega) (by rw [v0, show (k + 1 - M 124 10).toNat = (k - M 124 10 + 1).toNat by omega, wc_s (by omega), show M 124 10 + (k - M 124 10) = k by omega]; exact wc_long (by omega)) (by omega)
  exact loop8 (((M 124 10 + 8 - ((M 124 10))) : Int) + 1).toNat ((Int64.ofNat 0)) ((M 124 10)) (by omega) (by rw [show (M 124 10 - M 124 10).toNat = 0 by omega]; exact (by decide : Int64.ofNat 0 = Int64.ofInt 0)) (by omega)

theorem fs_m_isWord4 {d : Nat} {M : fs_M} {Q : Option fs_V → fs_M → Prop}   (hw : (0 ≤ M 124 10 ∧ M 124 10 ≤ M 124 8) ∧ M 124 8 ≤ 800) (hl : M 124 9 = 1 → ∀ k, M 124 10 ≤ k → k < M 124 8 → 97 ≤ M 128 k ∧ M 128 k ≤ 122) (hq0 : (M 124 9 = 1 ∧ wdP (M 128) (M 124 10) (M 124 8) 4) → Q (some (.inl 1)) M) (hq1 : (¬ (M 124 9 = 1 ∧ wdP (M 128) (M 124 10) (M 124 8) 4)) → Q (some (.inl 0)) M) : fs_W (d) 177 0 [some (.inr (.ref 124)), some (.inr (.long (Int64.ofInt 10265870))), none, none, none, none] [] M Q := by
  refine fs_r_nop (L1 := [some (.inr (.ref 124)), some (.inr (.long (Int64.ofInt 10265870))), none, some (.inr (.long (Int64.ofNat 0))), none, some (.inl (M 124 10))]) (st1 := []) (M1 := M) (ob := [3 + 1 < 6, 124 < fs_N ∧ fs_kd 124 = 6, 5 < 6]) rfl rfl (fs_oc (by decide) (fs_oc fs_ob124 (fs_oc (by decide) trivial))) ?_
  have loop8 : ∀ (n8 : Nat) (v : Int64) (k : Int), (M 124 10 ≤ k ∧ k ≤ M 124 10 + 8 ∧ (k = M 124 10 ∨ k ≤ M 124 8)) → (v = Int64.ofInt (wc (M 128) (M 124 10) (k - M 124 10).toNat)) → M 124 10 + 8 - k < (n8 : Int) → fs_W (d) 177 8 [some (.inr (.ref 124)), some (.inr (.long (Int64.ofInt 10265870))), none, some (.inr (.long v)), none, some (.inl k)] [] M Q := by
    intro n8
    induction n8 with
    | zero =>
      intro v k i0 v0 hm8
      exfalso
      omega
    | succ n8 ih8 =>
      intro v k i0 v0 hm8
      have join62 : (M 124 9 = 1 → M 124 8 - M 124 10 < 8 → k = M 124 8) → fs_W (d) 177 62 [some (.inr (.ref 124)), some (.inr (.long (Int64.ofInt 10265870))), none, some (.inr (.long v)), none, some (.inl k)] [] M Q := by
        intro  j0
        have key : M 124 9 = 1 → M 124 8 - M 124 10 < 8 → (v = (Int64.ofInt 10265870) ↔ wdP (M 128) (M 124 10) (M 124 8) 4) := fun z y => by
          rw [v0, j0 z y]
          exact wd_iff 4 (by decide) (by decide) (by omega) (hl z)
        refine fs_r_icmp (a := (M 124 9)) (y := 1) (L1 := [some (.inr (.ref 124)), some (.inr (.long (Int64.ofInt 10265870))), none, some (.inr (.long v)), none, some (.inl k)]) (st1 := []) (M1 := M) (ob := [124 < fs_N ∧ fs_kd 124 = 6]) rfl rfl (fs_oc fs_ob124 trivial) (fun (h1 : ¬ (M 124 9) = 1) => ?_) (fun (h1 : ¬ (¬ (M 124 9) = 1)) => ?_)
        · refine fs_r_nop (L1 := [some (.inr (.ref 124)), some (.inr (.long (Int64.ofInt 10265870))), none, some (.inr (.long v)), none, some (.inl k)]) (st1 := [.inl 0]) (M1 := M) (ob := []) rfl rfl trivial ?_
          refine fs_r_iret (a := 0) (L1 := [some (.inr (.ref 124)), some (.inr (.long (Int64.ofInt 10265870))), none, some (.inr (.long v)), none, some (.inl k)]) (M1 := M) (ob := []) rfl rfl trivial (Or.inr (Or.inl rfl)) ?_
          first
            | (refine hq0 ⟨by omega, (key (by omega) (by omega)).mp (lg_cmp_z.mp (by omega))⟩)
            | (refine hq1 (fun z => ?_)
               have w := wd_len (by decide) z.2
               first
                 | omega
                 | (have y := (key (by omega) (by omega)).mpr z.2
                    have u := lg_cmp_z.mpr y
                    omega))
        refine fs_r_icmp (a := ((M 124 8) - (M 124 10))) (y := 8) (L1 := [some (.inr (.ref 124)), some (.inr (.long (Int64.ofInt 10265870))), none, some (.inr (.long v)), none, some (.inl k)]) (st1 := []) (M1 := M) (ob := [124 < fs_N ∧ fs_kd 124 = 6, 124 < fs_N ∧ fs_kd 124 = 6, fs_rg ((M 124 8) - (M 124 10))]) rfl rfl (fs_oc fs_ob124 (fs_oc fs_ob124 (fs_oc ⟨by omega, by omega⟩ trivial))) (fun (h2 : 8 ≤ ((M 124 8) - (M 124 10))) => ?_) (fun (h2 : ¬ (8 ≤ ((M 124 8) - (M 124 10)))) => ?_)
        · refine fs_r_nop (L1 := [some (.inr (.ref 124)), some (.inr (.long (Int64.ofInt 10265870))), none, some (.inr (.long v)), none, some (.inl k)]) (st1 := [.inl 0]) (M1 := M) (ob := []) rfl rfl trivial ?_
          refine fs_r_iret (a := 0) (L1 := [some (.inr (.ref 124)), some (.inr (.long (Int64.ofInt 10265870))), none, some (.inr (.long v)), none, some (.inl k)]) (M1 := M) (ob := []) rfl rfl trivial (Or.inr (Or.inl rfl)) ?_
          first
            | (refine hq0 ⟨by omega, (key (by omega) (by omega)).mp (lg_cmp_z.mp (by omega))⟩)
            | (refine hq1 (fun z => ?_)
               have w := wd_len (by decide) z.2
               first
                 | omega
                 | (have y := (key (by omega) (by omega)).mpr z.2
                    have u := lg_cmp_z.mpr y
                    omega))
        refine fs_r_if (a := (lg_cmp v (Int64.ofInt 10265870)).toInt) (L1 := [some (.inr (.ref 124)), some (.inr (.long (Int64.ofInt 10265870))), none, some (.inr (.long v)), none, some (.inl k)]) (st1 := []) (M1 := M) (ob := []) rfl rfl trivial (fun (h3 : ¬ (lg_cmp v (Int64.ofInt 10265870)).toInt = 0) => ?_) (fun (h3 : ¬ (¬ (lg_cmp v (Int64.ofInt 10265870)).toInt = 0)) => ?_)
        · refine fs_r_nop (L1 := [some (.inr (.ref 124)), some (.inr (.long (Int64.ofInt 10265870))), none, some (.inr (.long v)), none, some (.inl k)]) (st1 := [.inl 0]) (M1 := M) (ob := []) rfl rfl trivial ?_
          refine fs_r_iret (a := 0) (L1 := [some (.inr (.ref 124)), some (.inr (.long (Int64.ofInt 10265870))), none, some (.inr (.long v)), none, some (.inl k)]) (M1 := M) (ob := []) rfl rfl trivial (Or.inr (Or.inl rfl)) ?_
          first
            | (refine hq0 ⟨by omega, (key (by omega) (by omega)).mp (lg_cmp_z.mp (by omega))⟩)
            | (refine hq1 (fun z => ?_)
               have w := wd_len (by decide) z.2
               first
                 | omega
                 | (have y := (key (by omega) (by omega)).mpr z.2
                    have u := lg_cmp_z.mpr y
                    omega))
        refine fs_r_goto (L1 := [some (.inr (.ref 124)), some (.inr (.long (Int64.ofInt 10265870))), none, some (.inr (.long v)), none, some (.inl k)]) (st1 := [.inl 1]) (M1 := M) (ob := []) rfl rfl trivial ?_
        refine fs_r_iret (a := 1) (L1 := [some (.inr (.ref 124)), some (.inr (.long (Int64.ofInt 10265870))), none, some (.inr (.long v)), none, some (.inl k)]) (M1 := M) (ob := []) rfl rfl trivial (Or.inr (Or.inr rfl)) ?_
        first
          | (refine hq0 ⟨by omega, (key (by omega) (by omega)).mp (lg_cmp_z.mp (by omega))⟩)
          | (refine hq1 (fun z => ?_)
             have w := wd_len (by decide) z.2
             first
               | omega
               | (have y := (key (by omega) (by omega)).mpr z.2
                  have u := lg_cmp_z.mpr y
                  omega))
      refine fs_r_icmp (a := (M 124 9)) (y := 1) (L1 := [some (.inr (.ref 124)), some (.inr (.long (Int64.ofInt 10265870))), none, some (.inr (.long v)), none, some (.inl k)]) (st1 := []) (M1 := M) (ob := [124 < fs_N ∧ fs_kd 124 = 6]) rfl rfl (fs_oc fs_ob124 trivial) (fun (h4 : ¬ (M 124 9) = 1) => ?_) (fun (h4 : ¬ (¬ (M 124 9) = 1)) => ?_)
      · exact join62 (by omega)
      refine fs_r_icmp (a := k) (y := (M 124 8)) (L1 := [some (.inr (.ref 124)), some (.inr (.long (Int64.ofInt 10265870))), none, some (.inr (.long v)), none, some (.inl k)]) (st1 := []) (M1 := M) (ob := [124 < fs_N ∧ fs_kd 124 = 6]) rfl rfl (fs_oc fs_ob124 trivial) (fun (h5 : (M 124 8) ≤ k) => ?_) (fun (h5 : ¬ ((M 124 8) ≤ k)) => ?_)
      · exact join62 (by omega)
      refine fs_r_icmp (a := k) (y := ((M 124 10) + 8)) (L1 := [some (.inr (.ref 124)), some (.inr (.long (Int64.ofInt 10265870))), none, some (.inr (.long v)), none, some (.inl k)]) (st1 := []) (M1 := M) (ob := [124 < fs_N ∧ fs_kd 124 = 6, fs_rg ((M 124 10) + 8)]) rfl rfl (fs_oc fs_ob124 (fs_oc ⟨by omega, by omega⟩ trivial)) (fun (h6 : ((M 124 10) + 8) ≤ k) => ?_) (fun (h6 : ¬ (((M 124 10) + 8) ≤ k)) => ?_)
      · exact join62 (by omega)
      have lk := hl (by omega) k (by omega) (by omega)
      refine fs_r_goto (L1 := [some (.inr (.ref 124)), some (.inr (.long (Int64.ofInt 10265870))), none, some (.inr (.long ((((Int64.ofInt 27) * v) + (Int32.ofInt (M 128 k)).toInt64) - (Int64.ofInt 96)))), none, some (.inl (k + 1))]) (st1 := []) (M1 := M) (ob := [124 < fs_N ∧ fs_kd 124 = 6, (128 < fs_N ∧ fs_kd 128 = 100) ∧ (0 : Int) ≤ k ∧ k < fs_ln 128, 3 + 1 < 6, fs_rg (k + 1)]) rfl (fs_exA 6 (o1 := [124 < fs_N ∧ fs_kd 124 = 6]) (L1 := [some (.inr (.ref 124)), some (.inr (.long (Int64.ofInt 10265870))), none, some (.inr (.long v)), none, some (.inl k)]) (st1 := [.inl k, .inr (.ref 128), .inr (.long ((Int64.ofInt 27) * v))]) (M1 := M) (o2 := [(128 < fs_N ∧ fs_kd 128 = 100) ∧ (0 : Int) ≤ k ∧ k < fs_ln 128, 3 + 1 < 6, fs_rg (k + 1)]) rfl rfl) (fs_oc fs_ob124 (fs_oc (fs_ar128 (by omega) (by omega)) (fs_oc (by decide) (fs_oc ⟨by omega, by omega⟩ trivial)))) ?_
      exact ih8 (((((Int64.ofInt 27) * v) + (Int32.ofInt (M 128 k)).toInt64) - (Int64.ofInt 96))) ((k + 1)) (by omega) (by rw [v0, show (k + 1 - M 124 10).toNat = (k - M 124 10 + 1).toNat by omega, wc_s (by omega), show M 124 10 + (k - M 124 10) = k by omega]; exact wc_long (by omega)) (by omega)
  exact loop8 (((M 124 10 + 8 - ((M 124 10))) : Int) + 1).toNat ((Int64.ofNat 0)) ((M 124 10)) (by omega) (by rw [show (M 124 10 - M 124 10).toNat = 0 by omega]; exact (by decide : Int64.ofNat 0 = Int64.ofInt 0)) (by omega)
