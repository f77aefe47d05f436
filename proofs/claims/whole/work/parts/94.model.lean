/-! the Model reads a text -/
def sk (M M2 : fs_M) : Prop := (∀ r, r ≠ 124 → M2 r = M r) ∧ ∀ i, (i < 8 ∨ 12 < i) → M2 124 i = M 124 i
theorem sk.rf {M : fs_M} : sk M M := ⟨fun _ _ => rfl, fun _ _ => rfl⟩
theorem sk.tr {A B C : fs_M} (h : sk A B) (k : sk B C) : sk A C := ⟨fun r z => (k.1 r z).trans (h.1 r z), fun i z => (k.2 i z).trans (h.2 i z)⟩
theorem sk.up {A B : fs_M} {i v : Int} (h : sk A B) (z : 8 ≤ i ∧ i ≤ 12) : sk A (fs_up B 124 i v) := ⟨fun r y => by rw [fs_up_other y]; exact h.1 r y, fun j y => by rw [fs_up_at, if_neg (by omega)]; exact h.2 j y⟩
/-- a token lies at hand, read from p on -/
def TK (M : fs_M) (p : Int) : Prop :=
  M 124 12 = @ite _ (gl (M 128) (M 124 7) p) (Classical.propDecidable _) (qB (M 128) (M 124 7) p) (-1) ∧ M 124 10 = qB (M 128) (M 124 7) p ∧
  ((M 124 9 = 0 ∧ qB (M 128) (M 124 7) p = M 124 7 ∧ M 124 8 = qB (M 128) (M 124 7) p) ∨ (M 124 9 = 1 ∧ xL (M 128) (M 124 7) (qB (M 128) (M 124 7) p) ∧ M 124 8 = eL (M 128) (M 124 7) (qB (M 128) (M 124 7) p)) ∨
   (M 124 9 = 2 ∧ xD (M 128) (M 124 7) (qB (M 128) (M 124 7) p) ∧ M 124 8 = nE (M 128) (M 124 7) p ∧ M 124 11 = if 4 < nE (M 128) (M 124 7) p - qB (M 128) (M 124 7) p then 100000 else nV (M 128) (M 124 7) p) ∨
   (M 124 9 = 3 ∧ qB (M 128) (M 124 7) p < M 124 7 ∧ ¬ xL (M 128) (M 124 7) (qB (M 128) (M 124 7) p) ∧ ¬ xD (M 128) (M 124 7) (qB (M 128) (M 124 7) p) ∧ M 124 8 = qB (M 128) (M 124 7) p + 1 ∧ M 124 11 = M 128 (qB (M 128) (M 124 7) p)))
def TS (M : fs_M) (p f : Int) : Prop := (f ≠ -1 ∧ M 124 12 = f) ∨ (f = -1 ∧ TK M p)
def dvv (T : Int → Int) (q a : Int) : Int := if 4 < a - q then 100000 else dvN T q (a - q).toNat
theorem fs_m_isLetter {d : Nat} {M : fs_M} {Q : Option fs_V → fs_M → Prop} {k : Int}  (hn : 0 ≤ M 124 7 ∧ M 124 7 ≤ 800) (hk : 0 ≤ k) (hq0 : (xL (M 128) (M 124 7) k) → Q (some (.inl 1)) M) (hq1 : (¬ (xL (M 128) (M 124 7) k)) → Q (some (.inl 0)) M) : fs_W (d + 1) 173 0 [some (.inr (.ref 124)), some (.inl k)] [] M Q := by
  refine fs_r_icmp (a := k) (y := (M 124 7)) (L1 := [some (.inr (.ref 124)), some (.inl k)]) (st1 := []) (M1 := M) (ob := [124 < fs_N ∧ fs_kd 124 = 6]) rfl rfl (fs_oc fs_ob124 trivial) (fun (h1 : (M 124 7) ≤ k) => ?_) (fun (h1 : ¬ ((M 124 7) ≤ k)) => ?_)
  · refine fs_r_nop (L1 := [some (.inr (.ref 124)), some (.inl k)]) (st1 := [.inl 0]) (M1 := M) (ob := []) rfl rfl trivial ?_
    refine fs_r_iret (a := 0) (L1 := [some (.inr (.ref 124)), some (.inl k)]) (M1 := M) (ob := []) rfl rfl trivial (Or.inr (Or.inl rfl)) ?_
    exact hq1 (by omega)
  refine fs_r_call (sta := true) (idx := 68) (as := [.inl (M 128 k), .inl 97, .inl 122]) (rest := []) (L1 := [some (.inr (.ref 124)), some (.inl k)]) (st1 := [.inl 122, .inl 97, .inl (M 128 k)]) (M1 := M) (ob := [124 < fs_N ∧ fs_kd 124 = 6, (128 < fs_N ∧ fs_kd 128 = 100) ∧ (0 : Int) ≤ k ∧ k < fs_ln 128]) rfl rfl rfl (fs_oc fs_ob124 (fs_oc (fs_ar128 (by omega) (by omega)) trivial)) rfl rfl (Nat.le_of_ble_eq_true rfl) ⟨Or.inr (Nat.le_of_ble_eq_true rfl), trivial⟩ (by decide) ?_
  refine fs_m_isIn (fun (f2 : 97 ≤ (M 128 k) ∧ (M 128 k) ≤ 122) => ?_) (fun (f3 : ¬ (97 ≤ (M 128 k) ∧ (M 128 k) ≤ 122)) => ?_)
  · refine fs_r_if (a := 1) (L1 := [some (.inr (.ref 124)), some (.inl k)]) (st1 := []) (M1 := M) (ob := []) rfl rfl trivial (fun h => absurd h (by decide : ¬ ((1 : Int) = 0))) (fun _ => ?_)
    refine fs_r_goto (L1 := [some (.inr (.ref 124)), some (.inl k)]) (st1 := [.inl 1]) (M1 := M) (ob := []) rfl rfl trivial ?_
    refine fs_r_iret (a := 1) (L1 := [some (.inr (.ref 124)), some (.inl k)]) (M1 := M) (ob := []) rfl rfl trivial (Or.inr (Or.inr rfl)) ?_
    exact hq0 (by omega)
  refine fs_r_if (a := 0) (L1 := [some (.inr (.ref 124)), some (.inl k)]) (st1 := []) (M1 := M) (ob := []) rfl rfl trivial (fun _ => ?_) (fun h => absurd (by decide : (0 : Int) = 0) h)
  refine fs_r_nop (L1 := [some (.inr (.ref 124)), some (.inl k)]) (st1 := [.inl 0]) (M1 := M) (ob := []) rfl rfl trivial ?_
  refine fs_r_iret (a := 0) (L1 := [some (.inr (.ref 124)), some (.inl k)]) (M1 := M) (ob := []) rfl rfl trivial (Or.inr (Or.inl rfl)) ?_
  exact hq1 (by omega)

theorem fs_m_isDigit {d : Nat} {M : fs_M} {Q : Option fs_V → fs_M → Prop} {k : Int}  (hn : 0 ≤ M 124 7 ∧ M 124 7 ≤ 800) (hk : 0 ≤ k) (hq0 : (xD (M 128) (M 124 7) k) → Q (some (.inl 1)) M) (hq1 : (¬ (xD (M 128) (M 124 7) k)) → Q (some (.inl 0)) M) : fs_W (d + 1) 174 0 [some (.inr (.ref 124)), some (.inl k)] [] M Q := by
  refine fs_r_icmp (a := k) (y := (M 124 7)) (L1 := [some (.inr (.ref 124)), some (.inl k)]) (st1 := []) (M1 := M) (ob := [124 < fs_N ∧ fs_kd 124 = 6]) rfl rfl (fs_oc fs_ob124 trivial) (fun (h1 : (M 124 7) ≤ k) => ?_) (fun (h1 : ¬ ((M 124 7) ≤ k)) => ?_)
  · refine fs_r_nop (L1 := [some (.inr (.ref 124)), some (.inl k)]) (st1 := [.inl 0]) (M1 := M) (ob := []) rfl rfl trivial ?_
    refine fs_r_iret (a := 0) (L1 := [some (.inr (.ref 124)), some (.inl k)]) (M1 := M) (ob := []) rfl rfl trivial (Or.inr (Or.inl rfl)) ?_
    exact hq1 (by omega)
  refine fs_r_call (sta := true) (idx := 68) (as := [.inl (M 128 k), .inl 48, .inl 57]) (rest := []) (L1 := [some (.inr (.ref 124)), some (.inl k)]) (st1 := [.inl 57, .inl 48, .inl (M 128 k)]) (M1 := M) (ob := [124 < fs_N ∧ fs_kd 124 = 6, (128 < fs_N ∧ fs_kd 128 = 100) ∧ (0 : Int) ≤ k ∧ k < fs_ln 128]) rfl rfl rfl (fs_oc fs_ob124 (fs_oc (fs_ar128 (by omega) (by omega)) trivial)) rfl rfl (Nat.le_of_ble_eq_true rfl) ⟨Or.inr (Nat.le_of_ble_eq_true rfl), trivial⟩ (by decide) ?_
  refine fs_m_isIn (fun (f2 : 48 ≤ (M 128 k) ∧ (M 128 k) ≤ 57) => ?_) (fun (f3 : ¬ (48 ≤ (M 128 k) ∧ (M 128 k) ≤ 57)) => ?_)
  · refine fs_r_if (a := 1) (L1 := [some (.inr (.ref 124)), some (.inl k)]) (st1 := []) (M1 := M) (ob := []) rfl rfl trivial (fun h => absurd h (by decide : ¬ ((1 : Int) = 0))) (fun _ => ?_)
    refine fs_r_goto (L1 := [some (.inr (.ref 124)), some (.inl k)]) (st1 := [.inl 1]) (M1 := M) (ob := []) rfl rfl trivial ?_
    refine fs_r_iret (a := 1) (L1 := [some (.inr (.ref 124)), some (.inl k)]) (M1 := M) (ob := []) rfl rfl trivial (Or.inr (Or.inr rfl)) ?_
    exact hq0 (by omega)
  refine fs_r_if (a := 0) (L1 := [some (.inr (.ref 124)), some (.inl k)]) (st1 := []) (M1 := M) (ob := []) rfl rfl trivial (fun _ => ?_) (fun h => absurd (by decide : (0 : Int) = 0) h)
  refine fs_r_nop (L1 := [some (.inr (.ref 124)), some (.inl k)]) (st1 := [.inl 0]) (M1 := M) (ob := []) rfl rfl trivial ?_
  refine fs_r_iret (a := 0) (L1 := [some (.inr (.ref 124)), some (.inl k)]) (M1 := M) (ob := []) rfl rfl trivial (Or.inr (Or.inl rfl)) ?_
  exact hq1 (by omega)

theorem fs_m_wrong {d : Nat} {M : fs_M} {Q : Option fs_V → fs_M → Prop} {x : Int}   (hq0 : Q none (fs_up M 124 12 (if M 124 12 = -1 then x else M 124 12))) : fs_W (d) 175 0 [some (.inr (.ref 124)), some (.inl x)] [] M Q := by
  refine fs_r_icmp (a := (M 124 12)) (y := (-1)) (L1 := [some (.inr (.ref 124)), some (.inl x)]) (st1 := []) (M1 := M) (ob := [124 < fs_N ∧ fs_kd 124 = 6]) rfl rfl (fs_oc fs_ob124 trivial) (fun (h1 : ¬ (M 124 12) = (-1)) => ?_) (fun (h1 : ¬ (¬ (M 124 12) = (-1))) => ?_)
  · refine fs_r_ret (L1 := [some (.inr (.ref 124)), some (.inl x)]) (M1 := M) (ob := []) rfl rfl trivial ?_
    first
      | exact fs_qv (by rw [if_pos (by omega)]) hq0
      | exact fs_qv (by rw [if_neg (by omega), fs_up_id rfl]) hq0
  refine fs_r_nop (L1 := [some (.inr (.ref 124)), some (.inl x)]) (st1 := []) (M1 := (fs_up M 124 12 x)) (ob := [124 < fs_N ∧ fs_kd 124 = 6]) rfl rfl (fs_oc fs_ob124 trivial) ?_
  refine fs_r_ret (L1 := [some (.inr (.ref 124)), some (.inl x)]) (M1 := (fs_up M 124 12 x)) (ob := []) rfl rfl trivial ?_
  first
    | exact fs_qv (by rw [if_pos (by omega)]) hq0
    | exact fs_qv (by rw [if_neg (by omega), fs_up_id rfl]) hq0

theorem fs_m_nextToken {d : Nat} {M : fs_M} {Q : Option fs_V → fs_M → Prop}   (ha : 0 ≤ M 124 8 ∧ M 124 8 ≤ M 124 7 ∧ M 124 7 ≤ 800) (hq0 : ∀ (M2 : fs_M), (sk M M2) → (TS M2 (M 124 8) (M 124 12)) → Q none M2) : fs_W (d + 2) 176 0 [some (.inr (.ref 124)), none] [] M Q := by
  have qb := qB_b (M 128) (M 124 7) (M 124 8)
  have qn := qb.2.1 ha.2.1
  have lb := eL_b (M 128) (M 124 7) (qB (M 128) (M 124 7) (M 124 8))
  have ln := lb.2.1 qn
  have db := eD_b (M 128) (M 124 7) (qB (M 128) (M 124 7) (M 124 8))
  have dn := db.2.1 qn
  have eE : nE (M 128) (M 124 7) (M 124 8) = eD (M 128) (M 124 7) (qB (M 128) (M 124 7) (M 124 8)) := rfl
  refine fs_r_nop (L1 := [some (.inr (.ref 124)), some (.inl (M 124 8))]) (st1 := []) (M1 := M) (ob := [124 < fs_N ∧ fs_kd 124 = 6, 1 < 2]) rfl rfl (fs_oc fs_ob124 (fs_oc (by decide) trivial)) ?_
  have loop5 : ∀ (n5 : Nat)  (M3 : fs_M) (a : Int), (M 124 8 ≤ a ∧ a ≤ M 124 7) → (M3 = fs_up M 124 8 a) → (qB (M 128) (M 124 7) a = (qB (M 128) (M 124 7) (M 124 8))) → M 124 7 - a < (n5 : Int) → fs_W (d + 2) 176 5 [some (.inr (.ref 124)), some (.inl (M 124 8))] [] M3 Q := by
    intro n5
    induction n5 with
    | zero =>
      intro M3 a i0 m3 s3 hm5
      exfalso
      omega
    | succ n5 ih5 =>
      intro M3 a i0 m3 s3 hm5
      have g1 : M3 124 7 = M 124 7 := by rw [m3, fs_up_at, if_neg (by omega)]
      have g2 : M3 124 8 = a := by rw [m3, fs_up_at, if_pos rfl]
      have g3 : M3 128 = M 128 := by rw [m3, fs_up_other (by decide)]
      have g4 : M3 128 (M3 124 8) = M 128 a := by rw [g3, g2]
      have join57 : ∀  (M5 : fs_M), (M5 = fs_up M 124 8 (qB (M 128) (M 124 7) (M 124 8))) → fs_W (d + 2) 176 57 [some (.inr (.ref 124)), some (.inl (M 124 8))] [] M5 Q := by
        intro M5 m5
        have m57 : M5 124 7 = M 124 7 := by rw [m5, fs_up_at, if_neg (by omega)]
        have m58 : M5 124 8 = (qB (M 128) (M 124 7) (M 124 8)) := by rw [m5, fs_up_at, if_pos rfl]
        have m512 : M5 124 12 = M 124 12 := by rw [m5, fs_up_at, if_neg (by omega)]
        have m5t : M5 128 = M 128 := by rw [m5, fs_up_other (by decide)]
        have m5k : sk M M5 := by rw [m5]; exact sk.rf.up (by omega)
        have k7 : (fs_up (fs_up M5 124 10 (M5 124 8)) 124 11 0) 124 7 = M 124 7 := by rw [fs_up_at, if_neg (by omega), fs_up_at, if_neg (by omega), m57]
        have k8 : (fs_up (fs_up M5 124 10 (M5 124 8)) 124 11 0) 124 8 = (qB (M 128) (M 124 7) (M 124 8)) := by rw [fs_up_at, if_neg (by omega), fs_up_at, if_neg (by omega), m58]
        have kt : (fs_up (fs_up M5 124 10 (M5 124 8)) 124 11 0) 128 = M 128 := by rw [fs_up_other (by decide), fs_up_other (by decide), m5t]
        have k12 : (fs_up (fs_up M5 124 10 (M5 124 8)) 124 11 0) 124 12 = M 124 12 := by rw [fs_up_at, if_neg (by omega), fs_up_at, if_neg (by omega), m512]
        have k10 : (fs_up (fs_up M5 124 10 (M5 124 8)) 124 11 0) 124 10 = (qB (M 128) (M 124 7) (M 124 8)) := by rw [fs_up_at, if_neg (by omega), fs_up_at, if_pos rfl, m58]
        have k11 : (fs_up (fs_up M5 124 10 (M5 124 8)) 124 11 0) 124 11 = 0 := by rw [fs_up_at, if_pos rfl]
        have join141 : ∀  (M6 : fs_M), (sk M M6) → (M6 124 8 = (qB (M 128) (M 124 7) (M 124 8))) → (M6 124 10 = (qB (M 128) (M 124 7) (M 124 8))) → (M6 124 11 = 0) → ((M 124 12 = -1 → M6 124 12 = @ite _ (gl (M 128) (M 124 7) (M 124 8)) (Classical.propDecidable _) (qB (M 128) (M 124 7) (M 124 8)) (-1)) ∧ (M 124 12 ≠ -1 → M6 124 12 = M 124 12)) → fs_W (d + 2) 176 141 [some (.inr (.ref 124)), some (.inl (M 124 8))] [] M6 Q := by
          intro M6 f6 g68 g610 g611 w6
          have g67 : M6 124 7 = M 124 7 := f6.2 7 (by omega)
          have g6t : M6 128 = M 128 := f6.1 128 (by decide)
          refine fs_r_icmp (a := (M6 124 8)) (y := (M6 124 7)) (L1 := [some (.inr (.ref 124)), some (.inl (M 124 8))]) (st1 := []) (M1 := M6) (ob := [124 < fs_N ∧ fs_kd 124 = 6, 124 < fs_N ∧ fs_kd 124 = 6]) rfl rfl (fs_oc fs_ob124 (fs_oc fs_ob124 trivial)) (fun (h1 : ¬ (M6 124 8) = (M6 124 7)) => ?_) (fun (h1 : ¬ (¬ (M6 124 8) = (M6 124 7))) => ?_)
          · refine fs_r_call (sta := false) (idx := 94) (as := [.inr (.ref 124), .inl (M6 124 8)]) (rest := []) (L1 := [some (.inr (.ref 124)), some (.inl (M 124 8))]) (st1 := [.inl (M6 124 8), .inr (.ref 124)]) (M1 := M6) (ob := [124 < fs_N ∧ fs_kd 124 = 6]) rfl rfl rfl (fs_oc fs_ob124 trivial) rfl rfl (Nat.le_of_ble_eq_true rfl) ⟨Or.inr (Nat.le_of_ble_eq_true rfl), Or.inr fs_ob124⟩ (by decide) ?_
            refine fs_m_isLetter (by omega) (by omega) (fun (dl : xL (M6 128) (M6 124 7) (M6 124 8)) => ?_) (fun (dl : ¬ (xL (M6 128) (M6 124 7) (M6 124 8))) => ?_)
            · refine fs_r_if (a := 1) (L1 := [some (.inr (.ref 124)), some (.inl (M 124 8))]) (st1 := []) (M1 := M6) (ob := []) rfl rfl trivial (fun h => absurd h (by decide : ¬ ((1 : Int) = 0))) (fun _ => ?_)
              have l9 : xL (M 128) (M 124 7) (qB (M 128) (M 124 7) (M 124 8)) := by { rw [g6t, g67, g68] at dl; exact dl }
              refine fs_r_nop (L1 := [some (.inr (.ref 124)), some (.inl (M 124 8))]) (st1 := []) (M1 := (fs_up M6 124 9 1)) (ob := [124 < fs_N ∧ fs_kd 124 = 6]) rfl rfl (fs_oc fs_ob124 trivial) ?_
              have loop176 : ∀ (n176 : Nat)  (M7 : fs_M) (a : Int), ((qB (M 128) (M 124 7) (M 124 8)) ≤ a ∧ a ≤ M 124 7) → (M7 = fs_up (fs_up M6 124 9 1) 124 8 a) → (eL (M 128) (M 124 7) a = eL (M 128) (M 124 7) (qB (M 128) (M 124 7) (M 124 8))) → M 124 7 - a < (n176 : Int) → fs_W (d + 2) 176 176 [some (.inr (.ref 124)), some (.inl (M 124 8))] [] M7 Q := by
                intro n176
                induction n176 with
                | zero =>
                  intro M7 a i7 m7 s7 hm176
                  exfalso
                  omega
                | succ n176 ih176 =>
                  intro M7 a i7 m7 s7 hm176
                  have g77 : M7 124 7 = M 124 7 := by rw [m7, fs_up_at, if_neg (by omega), fs_up_at, if_neg (by omega), g67]
                  have g78 : M7 124 8 = a := by rw [m7, fs_up_at, if_pos rfl]
                  have g7t : M7 128 = M 128 := by rw [m7, fs_up_other (by decide), fs_up_other (by decide), g6t]
                  refine fs_r_call (sta := false) (idx := 94) (as := [.inr (.ref 124), .inl (M7 124 8)]) (rest := []) (L1 := [some (.inr (.ref 124)), some (.inl (M 124 8))]) (st1 := [.inl (M7 124 8), .inr (.ref 124)]) (M1 := M7) (ob := [124 < fs_N ∧ fs_kd 124 = 6]) rfl rfl rfl (fs_oc fs_ob124 trivial) rfl rfl (Nat.le_of_ble_eq_true rfl) ⟨Or.inr (Nat.le_of_ble_eq_true rfl), Or.inr fs_ob124⟩ (by decide) ?_
                  refine fs_m_isLetter (by omega) (by omega) (fun (dl2 : xL (M7 128) (M7 124 7) (M7 124 8)) => ?_) (fun (dl2 : ¬ (xL (M7 128) (M7 124 7) (M7 124 8))) => ?_)
                  · refine fs_r_if (a := 1) (L1 := [some (.inr (.ref 124)), some (.inl (M 124 8))]) (st1 := []) (M1 := M7) (ob := []) rfl rfl trivial (fun h => absurd h (by decide : ¬ ((1 : Int) = 0))) (fun _ => ?_)
                    have xl : xL (M 128) (M 124 7) a := by { rw [g7t, g77, g78] at dl2; exact dl2 }
                    refine fs_r_goto (L1 := [some (.inr (.ref 124)), some (.inl (M 124 8))]) (st1 := []) (M1 := (fs_up M7 124 8 ((M7 124 8) + 1))) (ob := [124 < fs_N ∧ fs_kd 124 = 6, fs_rg ((M7 124 8) + 1), 124 < fs_N ∧ fs_kd 124 = 6]) rfl rfl (fs_oc fs_ob124 (fs_oc ⟨by omega, by omega⟩ (fs_oc fs_ob124 trivial))) ?_
                    exact ih176 (fs_up M7 124 8 ((M7 124 8) + 1)) ((a + 1)) (by omega) (by rw [g78, m7, fs_up_up]) (by rw [← s7]; exact (skp_s (P := xL (M 128) (M 124 7)) xl (by omega)).symm) (by omega)
                  refine fs_r_if (a := 0) (L1 := [some (.inr (.ref 124)), some (.inl (M 124 8))]) (st1 := []) (M1 := M7) (ob := []) rfl rfl trivial (fun _ => ?_) (fun h => absurd (by decide : (0 : Int) = 0) h)
                  refine fs_r_ret (L1 := [some (.inr (.ref 124)), some (.inl (M 124 8))]) (M1 := M7) (ob := []) rfl rfl trivial ?_
                  first
                    | (have t9 : M7 128 = M 128 := g7t
                       have n9 : M7 124 7 = M 124 7 := g77
                       have fl9 : M7 124 12 = M6 124 12 := by rw [m7, fs_up_at, if_neg (by omega), fs_up_at, if_neg (by omega)]
                       have fr9 : M7 124 10 = (qB (M 128) (M 124 7) (M 124 8)) := by rw [m7, fs_up_at, if_neg (by omega), fs_up_at, if_neg (by omega), g610]
                       have f9 := f6
                       by_cases z : M 124 12 = -1
                       · refine hq0 _ (by rw [m7]; exact (f6.up (by omega)).up (by omega)) (Or.inr ⟨z, ?_⟩)
                         unfold TK
                         rw [t9, n9, fl9, fr9, w6.1 z]
                         refine ⟨rfl, rfl, ?_⟩
                         exact Or.inr (Or.inl ⟨by rw [m7, fs_up_at, if_neg (by omega), fs_up_at, if_pos rfl], l9, by rw [g78, ← s7]; exact (skp_z (P := xL (M 128) (M 124 7)) (by first | assumption | (rw [g7t, g77, g78] at *; assumption))).symm⟩)
                       · exact hq0 _ (by rw [m7]; exact (f6.up (by omega)).up (by omega)) (Or.inl ⟨z, fl9.trans (w6.2 z)⟩))
                    | (have t9 : M8 128 = M 128 := g8t
                       have n9 : M8 124 7 = M 124 7 := g87
                       have fl9 : M8 124 12 = M6 124 12 := k8_ 12 (by decide) (by decide) (by decide)
                       have fr9 : M8 124 10 = (qB (M 128) (M 124 7) (M 124 8)) := g810
                       have f9 := f6
                       by_cases z : M 124 12 = -1
                       · refine hq0 _ (f6.tr ⟨fun r y => r8 r y, fun i y => k8_ i (by omega) (by omega) (by omega)⟩) (Or.inr ⟨z, ?_⟩)
                         unfold TK
                         rw [t9, n9, fl9, fr9, w6.1 z]
                         refine ⟨rfl, rfl, ?_⟩
                         have ea : eD (M 128) (M 124 7) (qB (M 128) (M 124 7) (M 124 8)) = a := by { rw [← s8]; exact skp_z (P := xD (M 128) (M 124 7)) (by first | assumption | (rw [g8t, g87, a8] at *; assumption)) }
                         refine Or.inr (Or.inr (Or.inl ⟨t8, l9, by rw [a8, eE, ea], ?_⟩))
                         rw [v8]
                         unfold dvv nV
                         rw [eE, ea]
                       · exact hq0 _ (f6.tr ⟨fun r y => r8 r y, fun i y => k8_ i (by omega) (by omega) (by omega)⟩) (Or.inl ⟨z, fl9.trans (w6.2 z)⟩))
                    | (have t9 : (fs_up M6 124 9 0) 128 = M 128 := by rw [fs_up_other (by decide), g6t]
                       have n9 : (fs_up M6 124 9 0) 124 7 = M 124 7 := by rw [fs_up_at, if_neg (by omega), g67]
                       have fl9 : (fs_up M6 124 9 0) 124 12 = M6 124 12 := by rw [fs_up_at, if_neg (by omega)]
                       have fr9 : (fs_up M6 124 9 0) 124 10 = (qB (M 128) (M 124 7) (M 124 8)) := by rw [fs_up_at, if_neg (by omega), g610]
                       have f9 := f6
                       by_cases z : M 124 12 = -1
                       · refine hq0 _ (f6.up (by omega)) (Or.inr ⟨z, ?_⟩)
                         unfold TK
                         rw [t9, n9, fl9, fr9, w6.1 z]
                         refine ⟨rfl, rfl, ?_⟩
                         exact Or.inl ⟨by rw [fs_up_at, if_pos rfl], by omega, by rw [fs_up_at, if_neg (by omega), g68]⟩
                       · exact hq0 _ (f6.up (by omega)) (Or.inl ⟨z, fl9.trans (w6.2 z)⟩))
                    | (have t9 : (fs_up (fs_up (fs_up M6 124 9 3) 124 11 (M6 128 (M6 124 8))) 124 8 ((M6 124 8) + 1)) 128 = M 128 := by rw [fs_up_other (by decide), fs_up_other (by decide), fs_up_other (by decide), g6t]
                       have n9 : (fs_up (fs_up (fs_up M6 124 9 3) 124 11 (M6 128 (M6 124 8))) 124 8 ((M6 124 8) + 1)) 124 7 = M 124 7 := by rw [fs_up_at, if_neg (by omega), fs_up_at, if_neg (by omega), fs_up_at, if_neg (by omega), g67]
                       have fl9 : (fs_up (fs_up (fs_up M6 124 9 3) 124 11 (M6 128 (M6 124 8))) 124 8 ((M6 124 8) + 1)) 124 12 = M6 124 12 := by rw [fs_up_at, if_neg (by omega), fs_up_at, if_neg (by omega), fs_up_at, if_neg (by omega)]
                       have fr9 : (fs_up (fs_up (fs_up M6 124 9 3) 124 11 (M6 128 (M6 124 8))) 124 8 ((M6 124 8) + 1)) 124 10 = (qB (M 128) (M 124 7) (M 124 8)) := by rw [fs_up_at, if_neg (by omega), fs_up_at, if_neg (by omega), fs_up_at, if_neg (by omega), g610]
                       have f9 := f6
                       by_cases z : M 124 12 = -1
                       · refine hq0 _ (((f6.up (by omega)).up (by omega)).up (by omega)) (Or.inr ⟨z, ?_⟩)
                         unfold TK
                         rw [t9, n9, fl9, fr9, w6.1 z]
                         refine ⟨rfl, rfl, ?_⟩
                         exact Or.inr (Or.inr (Or.inr ⟨by rw [fs_up_at, if_neg (by omega), fs_up_at, if_neg (by omega), fs_up_at, if_pos rfl], by omega, nl9, nd9, by rw [fs_up_at, if_pos rfl, g68], by rw [fs_up_at, if_neg (by omega), fs_up_at, if_pos rfl, g6t, g68]⟩))
                       · exact hq0 _ (((f6.up (by omega)).up (by omega)).up (by omega)) (Or.inl ⟨z, fl9.trans (w6.2 z)⟩))
              exact loop176 (((M 124 7 - ((qB (M 128) (M 124 7) (M 124 8)))) : Int) + 1).toNat (fs_up M6 124 9 1) ((qB (M 128) (M 124 7) (M 124 8))) (by omega) ((fs_up_id (by rw [fs_up_at, if_neg (by omega), g68])).symm) (rfl) (by omega)
            refine fs_r_if (a := 0) (L1 := [some (.inr (.ref 124)), some (.inl (M 124 8))]) (st1 := []) (M1 := M6) (ob := []) rfl rfl trivial (fun _ => ?_) (fun h => absurd (by decide : (0 : Int) = 0) h)
            have nl9 : ¬ xL (M 128) (M 124 7) (qB (M 128) (M 124 7) (M 124 8)) := by { rw [g6t, g67, g68] at dl; exact dl }
            refine fs_r_call (sta := false) (idx := 98) (as := [.inr (.ref 124), .inl (M6 124 8)]) (rest := []) (L1 := [some (.inr (.ref 124)), some (.inl (M 124 8))]) (st1 := [.inl (M6 124 8), .inr (.ref 124)]) (M1 := M6) (ob := [124 < fs_N ∧ fs_kd 124 = 6]) rfl rfl rfl (fs_oc fs_ob124 trivial) rfl rfl (Nat.le_of_ble_eq_true rfl) ⟨Or.inr (Nat.le_of_ble_eq_true rfl), Or.inr fs_ob124⟩ (by decide) ?_
            refine fs_m_isDigit (by omega) (by omega) (fun (dd : xD (M6 128) (M6 124 7) (M6 124 8)) => ?_) (fun (dd : ¬ (xD (M6 128) (M6 124 7) (M6 124 8))) => ?_)
            · refine fs_r_if (a := 1) (L1 := [some (.inr (.ref 124)), some (.inl (M 124 8))]) (st1 := []) (M1 := M6) (ob := []) rfl rfl trivial (fun h => absurd h (by decide : ¬ ((1 : Int) = 0))) (fun _ => ?_)
              have l9 : xD (M 128) (M 124 7) (qB (M 128) (M 124 7) (M 124 8)) := by { rw [g6t, g67, g68] at dd; exact dd }
              refine fs_r_nop (L1 := [some (.inr (.ref 124)), some (.inl (M 124 8))]) (st1 := []) (M1 := (fs_up M6 124 9 2)) (ob := [124 < fs_N ∧ fs_kd 124 = 6]) rfl rfl (fs_oc fs_ob124 trivial) ?_
              have loop216 : ∀ (n216 : Nat)  (M8 : fs_M) (a : Int), ((qB (M 128) (M 124 7) (M 124 8)) ≤ a ∧ a ≤ M 124 7) → (∀ r, r ≠ 124 → M8 r = M6 r) → (∀ i, i ≠ 8 → i ≠ 9 → i ≠ 11 → M8 124 i = M6 124 i) → (M8 124 8 = a) → (M8 124 9 = 2) → (∀ j, (qB (M 128) (M 124 7) (M 124 8)) ≤ j → j < a → xD (M 128) (M 124 7) j) → (M8 124 11 = dvv (M 128) (qB (M 128) (M 124 7) (M 124 8)) a) → (eD (M 128) (M 124 7) a = eD (M 128) (M 124 7) (qB (M 128) (M 124 7) (M 124 8))) → M 124 7 - a < (n216 : Int) → fs_W (d + 2) 176 216 [some (.inr (.ref 124)), some (.inl (M 124 8))] [] M8 Q := by
                intro n216
                induction n216 with
                | zero =>
                  intro M8 a i8 r8 k8_ a8 t8 d8 v8 s8 hm216
                  exfalso
                  omega
                | succ n216 ih216 =>
                  intro M8 a i8 r8 k8_ a8 t8 d8 v8 s8 hm216
                  have g87 : M8 124 7 = M 124 7 := (k8_ 7 (by decide) (by decide) (by decide)).trans g67
                  have g8t : M8 128 = M 128 := (r8 128 (by decide)).trans g6t
                  have g810 : M8 124 10 = (qB (M 128) (M 124 7) (M 124 8)) := (k8_ 10 (by decide) (by decide) (by decide)).trans g610
                  have dvb := fun h : a - (qB (M 128) (M 124 7) (M 124 8)) ≤ 5 => dvN_b (T := M 128) (n := M 124 7) (q := (qB (M 128) (M 124 7) (M 124 8))) (a - (qB (M 128) (M 124 7) (M 124 8))).toNat (by omega) (fun j j0 j1 => d8 j j0 (by omega))
                  have pw : a - (qB (M 128) (M 124 7) (M 124 8)) ≤ 5 → (10 : Int) ^ (a - (qB (M 128) (M 124 7) (M 124 8))).toNat ≤ 100000 := fun h => by
                    have key : ∀ k : Fin 6, (10 : Int) ^ k.val ≤ 100000 := by decide
                    exact key ⟨(a - (qB (M 128) (M 124 7) (M 124 8))).toNat, by omega⟩
                  have pw3 : a - (qB (M 128) (M 124 7) (M 124 8)) ≤ 3 → (10 : Int) ^ (a - (qB (M 128) (M 124 7) (M 124 8))).toNat ≤ 1000 := fun h => by
                    have key : ∀ k : Fin 4, (10 : Int) ^ k.val ≤ 1000 := by decide
                    exact key ⟨(a - (qB (M 128) (M 124 7) (M 124 8))).toNat, by omega⟩
                  refine fs_r_call (sta := false) (idx := 98) (as := [.inr (.ref 124), .inl (M8 124 8)]) (rest := []) (L1 := [some (.inr (.ref 124)), some (.inl (M 124 8))]) (st1 := [.inl (M8 124 8), .inr (.ref 124)]) (M1 := M8) (ob := [124 < fs_N ∧ fs_kd 124 = 6]) rfl rfl rfl (fs_oc fs_ob124 trivial) rfl rfl (Nat.le_of_ble_eq_true rfl) ⟨Or.inr (Nat.le_of_ble_eq_true rfl), Or.inr fs_ob124⟩ (by decide) ?_
                  refine fs_m_isDigit (by omega) (by omega) (fun (dd2 : xD (M8 128) (M8 124 7) (M8 124 8)) => ?_) (fun (dd2 : ¬ (xD (M8 128) (M8 124 7) (M8 124 8))) => ?_)
                  · refine fs_r_if (a := 1) (L1 := [some (.inr (.ref 124)), some (.inl (M 124 8))]) (st1 := []) (M1 := M8) (ob := []) rfl rfl trivial (fun h => absurd h (by decide : ¬ ((1 : Int) = 0))) (fun _ => ?_)
                    have xd : xD (M 128) (M 124 7) a := by { rw [g8t, g87, a8] at dd2; exact dd2 }
                    have T8 : M8 128 (M8 124 8) = M 128 a := by rw [g8t, a8]
                    have dv3 : a - (qB (M 128) (M 124 7) (M 124 8)) ≤ 3 → M8 124 11 = dvN (M 128) (qB (M 128) (M 124 7) (M 124 8)) (a - (qB (M 128) (M 124 7) (M 124 8))).toNat := fun z => by rw [v8]; unfold dvv; rw [if_neg (by omega)]
                    have dv4 : a - (qB (M 128) (M 124 7) (M 124 8)) ≤ 3 → 0 ≤ M8 124 11 ∧ M8 124 11 < 1000 := fun z => by
                      have w1 := dvb (by omega)
                      have w2 := pw3 z
                      rw [dv3 z]
                      omega
                    refine fs_r_icmp (a := ((M8 124 8) - (M8 124 10))) (y := 3) (L1 := [some (.inr (.ref 124)), some (.inl (M 124 8))]) (st1 := [.inr (.ref 124)]) (M1 := M8) (ob := [124 < fs_N ∧ fs_kd 124 = 6, 124 < fs_N ∧ fs_kd 124 = 6, fs_rg ((M8 124 8) - (M8 124 10))]) rfl rfl (fs_oc fs_ob124 (fs_oc fs_ob124 (fs_oc ⟨by omega, by omega⟩ trivial))) (fun (h2 : ((M8 124 8) - (M8 124 10)) ≤ 3) => ?_) (fun (h2 : ¬ (((M8 124 8) - (M8 124 10)) ≤ 3)) => ?_)
                    · refine fs_r_nop (L1 := [some (.inr (.ref 124)), some (.inl (M 124 8))]) (st1 := [.inl (((10 * (M8 124 11)) + (M8 128 (M8 124 8))) - 48), .inr (.ref 124)]) (M1 := M8) (ob := [124 < fs_N ∧ fs_kd 124 = 6, fs_rg (10 * (M8 124 11)), 124 < fs_N ∧ fs_kd 124 = 6, 124 < fs_N ∧ fs_kd 124 = 6, (128 < fs_N ∧ fs_kd 128 = 100) ∧ (0 : Int) ≤ (M8 124 8) ∧ (M8 124 8) < fs_ln 128, fs_rg ((10 * (M8 124 11)) + (M8 128 (M8 124 8))), fs_rg (((10 * (M8 124 11)) + (M8 128 (M8 124 8))) - 48)]) rfl (fs_exA 6 (o1 := [124 < fs_N ∧ fs_kd 124 = 6, fs_rg (10 * (M8 124 11)), 124 < fs_N ∧ fs_kd 124 = 6]) (L1 := [some (.inr (.ref 124)), some (.inl (M 124 8))]) (st1 := [.inr (.ref 128), .inl (10 * (M8 124 11)), .inr (.ref 124)]) (M1 := M8) (o2 := [124 < fs_N ∧ fs_kd 124 = 6, (128 < fs_N ∧ fs_kd 128 = 100) ∧ (0 : Int) ≤ (M8 124 8) ∧ (M8 124 8) < fs_ln 128, fs_rg ((10 * (M8 124 11)) + (M8 128 (M8 124 8))), fs_rg (((10 * (M8 124 11)) + (M8 128 (M8 124 8))) - 48)]) rfl rfl) (fs_oc fs_ob124 (fs_oc ⟨by omega, by omega⟩ (fs_oc fs_ob124 (fs_oc fs_ob124 (fs_oc (fs_ar128 (by omega) (by omega)) (fs_oc ⟨by omega, by omega⟩ (fs_oc ⟨by omega, by omega⟩ trivial))))))) ?_
                      refine fs_r_goto (L1 := [some (.inr (.ref 124)), some (.inl (M 124 8))]) (st1 := []) (M1 := (fs_up (fs_up M8 124 11 (((10 * (M8 124 11)) + (M8 128 (M8 124 8))) - 48)) 124 8 ((M8 124 8) + 1))) (ob := [124 < fs_N ∧ fs_kd 124 = 6, 124 < fs_N ∧ fs_kd 124 = 6, fs_rg ((M8 124 8) + 1), 124 < fs_N ∧ fs_kd 124 = 6]) rfl rfl (fs_oc fs_ob124 (fs_oc fs_ob124 (fs_oc ⟨by omega, by omega⟩ (fs_oc fs_ob124 trivial)))) ?_
                      exact ih216 (fs_up (fs_up M8 124 11 (((10 * (M8 124 11)) + (M8 128 (M8 124 8))) - 48)) 124 8 ((M8 124 8) + 1)) ((a + 1)) (by omega) (fun r y => by rw [fs_up_other y, fs_up_other y]; exact r8 r y) (fun i y1 y2 y3 => by rw [fs_up_at, if_neg y1, fs_up_at, if_neg y3]; exact k8_ i y1 y2 y3) (by rw [fs_up_at, if_pos rfl, a8]) (by rw [fs_up_at, if_neg (by omega), fs_up_at, if_neg (by omega), t8]) (fun j j0 j1 => by rcases (show j < a ∨ j = a by omega) with z | z; exact d8 j j0 z; (rw [z]; exact xd)) (by
                              rw [fs_up_at, if_neg (by omega), fs_up_at, if_pos rfl]
                              unfold dvv
                              first
                                | (rw [if_pos (by omega)])
                                | (rw [if_neg (by omega), show (a + 1 - (qB (M 128) (M 124 7) (M 124 8))).toNat = (a - (qB (M 128) (M 124 7) (M 124 8)) + 1).toNat by omega, dvN_s (by omega), show (qB (M 128) (M 124 7) (M 124 8)) + (a - (qB (M 128) (M 124 7) (M 124 8))) = a by omega, ← dv3 (by omega)]
                                   omega)) (by rw [← s8]; exact (skp_s (P := xD (M 128) (M 124 7)) xd (by omega)).symm) (by omega)
                    refine fs_r_goto (L1 := [some (.inr (.ref 124)), some (.inl (M 124 8))]) (st1 := [.inl 100000, .inr (.ref 124)]) (M1 := M8) (ob := []) rfl rfl trivial ?_
                    refine fs_r_goto (L1 := [some (.inr (.ref 124)), some (.inl (M 124 8))]) (st1 := []) (M1 := (fs_up (fs_up M8 124 11 100000) 124 8 ((M8 124 8) + 1))) (ob := [124 < fs_N ∧ fs_kd 124 = 6, 124 < fs_N ∧ fs_kd 124 = 6, fs_rg ((M8 124 8) + 1), 124 < fs_N ∧ fs_kd 124 = 6]) rfl rfl (fs_oc fs_ob124 (fs_oc fs_ob124 (fs_oc ⟨by omega, by omega⟩ (fs_oc fs_ob124 trivial)))) ?_
                    exact ih216 (fs_up (fs_up M8 124 11 100000) 124 8 ((M8 124 8) + 1)) ((a + 1)) (by omega) (fun r y => by rw [fs_up_other y, fs_up_other y]; exact r8 r y) (fun i y1 y2 y3 => by rw [fs_up_at, if_neg y1, fs_up_at, if_neg y3]; exact k8_ i y1 y2 y3) (by rw [fs_up_at, if_pos rfl, a8]) (by rw [fs_up_at, if_neg (by omega), fs_up_at, if_neg (by omega), t8]) (fun j j0 j1 => by rcases (show j < a ∨ j = a by omega) with z | z; exact d8 j j0 z; (rw [z]; exact xd)) (by
                            rw [fs_up_at, if_neg (by omega), fs_up_at, if_pos rfl]
                            unfold dvv
                            first
                              | (rw [if_pos (by omega)])
                              | (rw [if_neg (by omega), show (a + 1 - (qB (M 128) (M 124 7) (M 124 8))).toNat = (a - (qB (M 128) (M 124 7) (M 124 8)) + 1).toNat by omega, dvN_s (by omega), show (qB (M 128) (M 124 7) (M 124 8)) + (a - (qB (M 128) (M 124 7) (M 124 8))) = a by omega, ← dv3 (by omega)]
                                 omega)) (by rw [← s8]; exact (skp_s (P := xD (M 128) (M 124 7)) xd (by omega)).symm) (by omega)
                  refine fs_r_if (a := 0) (L1 := [some (.inr (.ref 124)), some (.inl (M 124 8))]) (st1 := []) (M1 := M8) (ob := []) rfl rfl trivial (fun _ => ?_) (fun h => absurd (by decide : (0 : Int) = 0) h)
                  refine fs_r_ret (L1 := [some (.inr (.ref 124)), some (.inl (M 124 8))]) (M1 := M8) (ob := []) rfl rfl trivial ?_
                  first
                    | (have t9 : M7 128 = M 128 := g7t
                       have n9 : M7 124 7 = M 124 7 := g77
                       have fl9 : M7 124 12 = M6 124 12 := by rw [m7, fs_up_at, if_neg (by omega), fs_up_at, if_neg (by omega)]
                       have fr9 : M7 124 10 = (qB (M 128) (M 124 7) (M 124 8)) := by rw [m7, fs_up_at, if_neg (by omega), fs_up_at, if_neg (by omega), g610]
                       have f9 := f6
                       by_cases z : M 124 12 = -1
                       · refine hq0 _ (by rw [m7]; exact (f6.up (by omega)).up (by omega)) (Or.inr ⟨z, ?_⟩)
                         unfold TK
                         rw [t9, n9, fl9, fr9, w6.1 z]
                         refine ⟨rfl, rfl, ?_⟩
                         exact Or.inr (Or.inl ⟨by rw [m7, fs_up_at, if_neg (by omega), fs_up_at, if_pos rfl], l9, by rw [g78, ← s7]; exact (skp_z (P := xL (M 128) (M 124 7)) (by first | assumption | (rw [g7t, g77, g78] at *; assumption))).symm⟩)
                       · exact hq0 _ (by rw [m7]; exact (f6.up (by omega)).up (by omega)) (Or.inl ⟨z, fl9.trans (w6.2 z)⟩))
                    | (have t9 : M8 128 = M 128 := g8t
                       have n9 : M8 124 7 = M 124 7 := g87
                       have fl9 : M8 124 12 = M6 124 12 := k8_ 12 (by decide) (by decide) (by decide)
                       have fr9 : M8 124 10 = (qB (M 128) (M 124 7) (M 124 8)) := g810
                       have f9 := f6
                       by_cases z : M 124 12 = -1
                       · refine hq0 _ (f6.tr ⟨fun r y => r8 r y, fun i y => k8_ i (by omega) (by omega) (by omega)⟩) (Or.inr ⟨z, ?_⟩)
                         unfold TK
                         rw [t9, n9, fl9, fr9, w6.1 z]
                         refine ⟨rfl, rfl, ?_⟩
                         have ea : eD (M 128) (M 124 7) (qB (M 128) (M 124 7) (M 124 8)) = a := by { rw [← s8]; exact skp_z (P := xD (M 128) (M 124 7)) (by first | assumption | (rw [g8t, g87, a8] at *; assumption)) }
                         refine Or.inr (Or.inr (Or.inl ⟨t8, l9, by rw [a8, eE, ea], ?_⟩))
                         rw [v8]
                         unfold dvv nV
                         rw [eE, ea]
                       · exact hq0 _ (f6.tr ⟨fun r y => r8 r y, fun i y => k8_ i (by omega) (by omega) (by omega)⟩) (Or.inl ⟨z, fl9.trans (w6.2 z)⟩))
                    | (have t9 : (fs_up M6 124 9 0) 128 = M 128 := by rw [fs_up_other (by decide), g6t]
                       have n9 : (fs_up M6 124 9 0) 124 7 = M 124 7 := by rw [fs_up_at, if_neg (by omega), g67]
                       have fl9 : (fs_up M6 124 9 0) 124 12 = M6 124 12 := by rw [fs_up_at, if_neg (by omega)]
                       have fr9 : (fs_up M6 124 9 0) 124 10 = (qB (M 128) (M 124 7) (M 124 8)) := by rw [fs_up_at, if_neg (by omega), g610]
                       have f9 := f6
                       by_cases z : M 124 12 = -1
                       · refine hq0 _ (f6.up (by omega)) (Or.inr ⟨z, ?_⟩)
                         unfold TK
                         rw [t9, n9, fl9, fr9, w6.1 z]
                         refine ⟨rfl, rfl, ?_⟩
                         exact Or.inl ⟨by rw [fs_up_at, if_pos rfl], by omega, by rw [fs_up_at, if_neg (by omega), g68]⟩
                       · exact hq0 _ (f6.up (by omega)) (Or.inl ⟨z, fl9.trans (w6.2 z)⟩))
                    | (have t9 : (fs_up (fs_up (fs_up M6 124 9 3) 124 11 (M6 128 (M6 124 8))) 124 8 ((M6 124 8) + 1)) 128 = M 128 := by rw [fs_up_other (by decide), fs_up_other (by decide), fs_up_other (by decide), g6t]
                       have n9 : (fs_up (fs_up (fs_up M6 124 9 3) 124 11 (M6 128 (M6 124 8))) 124 8 ((M6 124 8) + 1)) 124 7 = M 124 7 := by rw [fs_up_at, if_neg (by omega), fs_up_at, if_neg (by omega), fs_up_at, if_neg (by omega), g67]
                       have fl9 : (fs_up (fs_up (fs_up M6 124 9 3) 124 11 (M6 128 (M6 124 8))) 124 8 ((M6 124 8) + 1)) 124 12 = M6 124 12 := by rw [fs_up_at, if_neg (by omega), fs_up_at, if_neg (by omega), fs_up_at, if_neg (by omega)]
                       have fr9 : (fs_up (fs_up (fs_up M6 124 9 3) 124 11 (M6 128 (M6 124 8))) 124 8 ((M6 124 8) + 1)) 124 10 = (qB (M 128) (M 124 7) (M 124 8)) := by rw [fs_up_at, if_neg (by omega), fs_up_at, if_neg (by omega), fs_up_at, if_neg (by omega), g610]
                       have f9 := f6
                       by_cases z : M 124 12 = -1
                       · refine hq0 _ (((f6.up (by omega)).up (by omega)).up (by omega)) (Or.inr ⟨z, ?_⟩)
                         unfold TK
                         rw [t9, n9, fl9, fr9, w6.1 z]
                         refine ⟨rfl, rfl, ?_⟩
                         exact Or.inr (Or.inr (Or.inr ⟨by rw [fs_up_at, if_neg (by omega), fs_up_at, if_neg (by omega), fs_up_at, if_pos rfl], by omega, nl9, nd9, by rw [fs_up_at, if_pos rfl, g68], by rw [fs_up_at, if_neg (by omega), fs_up_at, if_pos rfl, g6t, g68]⟩))
                       · exact hq0 _ (((f6.up (by omega)).up (by omega)).up (by omega)) (Or.inl ⟨z, fl9.trans (w6.2 z)⟩))
              exact loop216 (((M 124 7 - ((qB (M 128) (M 124 7) (M 124 8)))) : Int) + 1).toNat (fs_up M6 124 9 2) ((qB (M 128) (M 124 7) (M 124 8))) (by omega) (fun r y => fs_up_other y) (fun i y1 y2 y3 => by rw [fs_up_at, if_neg y2]) (by rw [fs_up_at, if_neg (by omega), g68]) (by rw [fs_up_at, if_pos rfl]) (fun j _ _ => by omega) (by rw [fs_up_at, if_neg (by omega), g611]; unfold dvv; rw [if_neg (by omega), show ((qB (M 128) (M 124 7) (M 124 8)) - (qB (M 128) (M 124 7) (M 124 8))).toNat = 0 by omega]; rfl) (rfl) (by omega)
            refine fs_r_if (a := 0) (L1 := [some (.inr (.ref 124)), some (.inl (M 124 8))]) (st1 := []) (M1 := M6) (ob := []) rfl rfl trivial (fun _ => ?_) (fun h => absurd (by decide : (0 : Int) = 0) h)
            have nd9 : ¬ xD (M 128) (M 124 7) (qB (M 128) (M 124 7) (M 124 8)) := by { rw [g6t, g67, g68] at dd; exact dd }
            refine fs_r_nop (L1 := [some (.inr (.ref 124)), some (.inl (M 124 8))]) (st1 := []) (M1 := (fs_up (fs_up (fs_up M6 124 9 3) 124 11 (M6 128 (M6 124 8))) 124 8 ((M6 124 8) + 1))) (ob := [124 < fs_N ∧ fs_kd 124 = 6, 124 < fs_N ∧ fs_kd 124 = 6, 124 < fs_N ∧ fs_kd 124 = 6, (128 < fs_N ∧ fs_kd 128 = 100) ∧ (0 : Int) ≤ (M6 124 8) ∧ (M6 124 8) < fs_ln 128, 124 < fs_N ∧ fs_kd 124 = 6, 124 < fs_N ∧ fs_kd 124 = 6, fs_rg ((M6 124 8) + 1), 124 < fs_N ∧ fs_kd 124 = 6]) rfl (fs_exA 6 (o1 := [124 < fs_N ∧ fs_kd 124 = 6, 124 < fs_N ∧ fs_kd 124 = 6]) (L1 := [some (.inr (.ref 124)), some (.inl (M 124 8))]) (st1 := [.inr (.ref 128), .inr (.ref 124)]) (M1 := (fs_up M6 124 9 3)) (o2 := [124 < fs_N ∧ fs_kd 124 = 6, (128 < fs_N ∧ fs_kd 128 = 100) ∧ (0 : Int) ≤ (M6 124 8) ∧ (M6 124 8) < fs_ln 128, 124 < fs_N ∧ fs_kd 124 = 6, 124 < fs_N ∧ fs_kd 124 = 6, fs_rg ((M6 124 8) + 1), 124 < fs_N ∧ fs_kd 124 = 6]) rfl (fs_exA 6 (o1 := [124 < fs_N ∧ fs_kd 124 = 6, (128 < fs_N ∧ fs_kd 128 = 100) ∧ (0 : Int) ≤ (M6 124 8) ∧ (M6 124 8) < fs_ln 128, 124 < fs_N ∧ fs_kd 124 = 6]) (L1 := [some (.inr (.ref 124)), some (.inl (M 124 8))]) (st1 := [.inr (.ref 124), .inr (.ref 124)]) (M1 := (fs_up (fs_up M6 124 9 3) 124 11 (M6 128 (M6 124 8)))) (o2 := [124 < fs_N ∧ fs_kd 124 = 6, fs_rg ((M6 124 8) + 1), 124 < fs_N ∧ fs_kd 124 = 6]) rfl rfl)) (fs_oc fs_ob124 (fs_oc fs_ob124 (fs_oc fs_ob124 (fs_oc (fs_ar128 (by omega) (by omega)) (fs_oc fs_ob124 (fs_oc fs_ob124 (fs_oc ⟨by omega, by omega⟩ (fs_oc fs_ob124 trivial)))))))) ?_
            refine fs_r_ret (L1 := [some (.inr (.ref 124)), some (.inl (M 124 8))]) (M1 := (fs_up (fs_up (fs_up M6 124 9 3) 124 11 (M6 128 (M6 124 8))) 124 8 ((M6 124 8) + 1))) (ob := []) rfl rfl trivial ?_
            first
              | (have t9 : M7 128 = M 128 := g7t
                 have n9 : M7 124 7 = M 124 7 := g77
                 have fl9 : M7 124 12 = M6 124 12 := by rw [m7, fs_up_at, if_neg (by omega), fs_up_at, if_neg (by omega)]
                 have fr9 : M7 124 10 = (qB (M 128) (M 124 7) (M 124 8)) := by rw [m7, fs_up_at, if_neg (by omega), fs_up_at, if_neg (by omega), g610]
                 have f9 := f6
                 by_cases z : M 124 12 = -1
                 · refine hq0 _ (by rw [m7]; exact (f6.up (by omega)).up (by omega)) (Or.inr ⟨z, ?_⟩)
                   unfold TK
                   rw [t9, n9, fl9, fr9, w6.1 z]
                   refine ⟨rfl, rfl, ?_⟩
                   exact Or.inr (Or.inl ⟨by rw [m7, fs_up_at, if_neg (by omega), fs_up_at, if_pos rfl], l9, by rw [g78, ← s7]; exact (skp_z (P := xL (M 128) (M 124 7)) (by first | assumption | (rw [g7t, g77, g78] at *; assumption))).symm⟩)
                 · exact hq0 _ (by rw [m7]; exact (f6.up (by omega)).up (by omega)) (Or.inl ⟨z, fl9.trans (w6.2 z)⟩))
              | (have t9 : M8 128 = M 128 := g8t
                 have n9 : M8 124 7 = M 124 7 := g87
                 have fl9 : M8 124 12 = M6 124 12 := k8_ 12 (by decide) (by decide) (by decide)
                 have fr9 : M8 124 10 = (qB (M 128) (M 124 7) (M 124 8)) := g810
                 have f9 := f6
                 by_cases z : M 124 12 = -1
                 · refine hq0 _ (f6.tr ⟨fun r y => r8 r y, fun i y => k8_ i (by omega) (by omega) (by omega)⟩) (Or.inr ⟨z, ?_⟩)
                   unfold TK
                   rw [t9, n9, fl9, fr9, w6.1 z]
                   refine ⟨rfl, rfl, ?_⟩
                   have ea : eD (M 128) (M 124 7) (qB (M 128) (M 124 7) (M 124 8)) = a := by { rw [← s8]; exact skp_z (P := xD (M 128) (M 124 7)) (by first | assumption | (rw [g8t, g87, a8] at *; assumption)) }
                   refine Or.inr (Or.inr (Or.inl ⟨t8, l9, by rw [a8, eE, ea], ?_⟩))
                   rw [v8]
                   unfold dvv nV
                   rw [eE, ea]
                 · exact hq0 _ (f6.tr ⟨fun r y => r8 r y, fun i y => k8_ i (by omega) (by omega) (by omega)⟩) (Or.inl ⟨z, fl9.trans (w6.2 z)⟩))
              | (have t9 : (fs_up M6 124 9 0) 128 = M 128 := by rw [fs_up_other (by decide), g6t]
                 have n9 : (fs_up M6 124 9 0) 124 7 = M 124 7 := by rw [fs_up_at, if_neg (by omega), g67]
                 have fl9 : (fs_up M6 124 9 0) 124 12 = M6 124 12 := by rw [fs_up_at, if_neg (by omega)]
                 have fr9 : (fs_up M6 124 9 0) 124 10 = (qB (M 128) (M 124 7) (M 124 8)) := by rw [fs_up_at, if_neg (by omega), g610]
                 have f9 := f6
                 by_cases z : M 124 12 = -1
                 · refine hq0 _ (f6.up (by omega)) (Or.inr ⟨z, ?_⟩)
                   unfold TK
                   rw [t9, n9, fl9, fr9, w6.1 z]
                   refine ⟨rfl, rfl, ?_⟩
                   exact Or.inl ⟨by rw [fs_up_at, if_pos rfl], by omega, by rw [fs_up_at, if_neg (by omega), g68]⟩
                 · exact hq0 _ (f6.up (by omega)) (Or.inl ⟨z, fl9.trans (w6.2 z)⟩))
              | (have t9 : (fs_up (fs_up (fs_up M6 124 9 3) 124 11 (M6 128 (M6 124 8))) 124 8 ((M6 124 8) + 1)) 128 = M 128 := by rw [fs_up_other (by decide), fs_up_other (by decide), fs_up_other (by decide), g6t]
                 have n9 : (fs_up (fs_up (fs_up M6 124 9 3) 124 11 (M6 128 (M6 124 8))) 124 8 ((M6 124 8) + 1)) 124 7 = M 124 7 := by rw [fs_up_at, if_neg (by omega), fs_up_at, if_neg (by omega), fs_up_at, if_neg (by omega), g67]
                 have fl9 : (fs_up (fs_up (fs_up M6 124 9 3) 124 11 (M6 128 (M6 124 8))) 124 8 ((M6 124 8) + 1)) 124 12 = M6 124 12 := by rw [fs_up_at, if_neg (by omega), fs_up_at, if_neg (by omega), fs_up_at, if_neg (by omega)]
                 have fr9 : (fs_up (fs_up (fs_up M6 124 9 3) 124 11 (M6 128 (M6 124 8))) 124 8 ((M6 124 8) + 1)) 124 10 = (qB (M 128) (M 124 7) (M 124 8)) := by rw [fs_up_at, if_neg (by omega), fs_up_at, if_neg (by omega), fs_up_at, if_neg (by omega), g610]
                 have f9 := f6
                 by_cases z : M 124 12 = -1
                 · refine hq0 _ (((f6.up (by omega)).up (by omega)).up (by omega)) (Or.inr ⟨z, ?_⟩)
                   unfold TK
                   rw [t9, n9, fl9, fr9, w6.1 z]
                   refine ⟨rfl, rfl, ?_⟩
                   exact Or.inr (Or.inr (Or.inr ⟨by rw [fs_up_at, if_neg (by omega), fs_up_at, if_neg (by omega), fs_up_at, if_pos rfl], by omega, nl9, nd9, by rw [fs_up_at, if_pos rfl, g68], by rw [fs_up_at, if_neg (by omega), fs_up_at, if_pos rfl, g6t, g68]⟩))
                 · exact hq0 _ (((f6.up (by omega)).up (by omega)).up (by omega)) (Or.inl ⟨z, fl9.trans (w6.2 z)⟩))
          refine fs_r_goto (L1 := [some (.inr (.ref 124)), some (.inl (M 124 8))]) (st1 := []) (M1 := (fs_up M6 124 9 0)) (ob := [124 < fs_N ∧ fs_kd 124 = 6]) rfl rfl (fs_oc fs_ob124 trivial) ?_
          refine fs_r_ret (L1 := [some (.inr (.ref 124)), some (.inl (M 124 8))]) (M1 := (fs_up M6 124 9 0)) (ob := []) rfl rfl trivial ?_
          first
            | (have t9 : M7 128 = M 128 := g7t
               have n9 : M7 124 7 = M 124 7 := g77
               have fl9 : M7 124 12 = M6 124 12 := by rw [m7, fs_up_at, if_neg (by omega), fs_up_at, if_neg (by omega)]
               have fr9 : M7 124 10 = (qB (M 128) (M 124 7) (M 124 8)) := by rw [m7, fs_up_at, if_neg (by omega), fs_up_at, if_neg (by omega), g610]
               have f9 := f6
               by_cases z : M 124 12 = -1
               · refine hq0 _ (by rw [m7]; exact (f6.up (by omega)).up (by omega)) (Or.inr ⟨z, ?_⟩)
                 unfold TK
                 rw [t9, n9, fl9, fr9, w6.1 z]
                 refine ⟨rfl, rfl, ?_⟩
                 exact Or.inr (Or.inl ⟨by rw [m7, fs_up_at, if_neg (by omega), fs_up_at, if_pos rfl], l9, by rw [g78, ← s7]; exact (skp_z (P := xL (M 128) (M 124 7)) (by first | assumption | (rw [g7t, g77, g78] at *; assumption))).symm⟩)
               · exact hq0 _ (by rw [m7]; exact (f6.up (by omega)).up (by omega)) (Or.inl ⟨z, fl9.trans (w6.2 z)⟩))
            | (have t9 : M8 128 = M 128 := g8t
               have n9 : M8 124 7 = M 124 7 := g87
               have fl9 : M8 124 12 = M6 124 12 := k8_ 12 (by decide) (by decide) (by decide)
               have fr9 : M8 124 10 = (qB (M 128) (M 124 7) (M 124 8)) := g810
               have f9 := f6
               by_cases z : M 124 12 = -1
               · refine hq0 _ (f6.tr ⟨fun r y => r8 r y, fun i y => k8_ i (by omega) (by omega) (by omega)⟩) (Or.inr ⟨z, ?_⟩)
                 unfold TK
                 rw [t9, n9, fl9, fr9, w6.1 z]
                 refine ⟨rfl, rfl, ?_⟩
                 have ea : eD (M 128) (M 124 7) (qB (M 128) (M 124 7) (M 124 8)) = a := by { rw [← s8]; exact skp_z (P := xD (M 128) (M 124 7)) (by first | assumption | (rw [g8t, g87, a8] at *; assumption)) }
                 refine Or.inr (Or.inr (Or.inl ⟨t8, l9, by rw [a8, eE, ea], ?_⟩))
                 rw [v8]
                 unfold dvv nV
                 rw [eE, ea]
               · exact hq0 _ (f6.tr ⟨fun r y => r8 r y, fun i y => k8_ i (by omega) (by omega) (by omega)⟩) (Or.inl ⟨z, fl9.trans (w6.2 z)⟩))
            | (have t9 : (fs_up M6 124 9 0) 128 = M 128 := by rw [fs_up_other (by decide), g6t]
               have n9 : (fs_up M6 124 9 0) 124 7 = M 124 7 := by rw [fs_up_at, if_neg (by omega), g67]
               have fl9 : (fs_up M6 124 9 0) 124 12 = M6 124 12 := by rw [fs_up_at, if_neg (by omega)]
               have fr9 : (fs_up M6 124 9 0) 124 10 = (qB (M 128) (M 124 7) (M 124 8)) := by rw [fs_up_at, if_neg (by omega), g610]
               have f9 := f6
               by_cases z : M 124 12 = -1
               · refine hq0 _ (f6.up (by omega)) (Or.inr ⟨z, ?_⟩)
                 unfold TK
                 rw [t9, n9, fl9, fr9, w6.1 z]
                 refine ⟨rfl, rfl, ?_⟩
                 exact Or.inl ⟨by rw [fs_up_at, if_pos rfl], by omega, by rw [fs_up_at, if_neg (by omega), g68]⟩
               · exact hq0 _ (f6.up (by omega)) (Or.inl ⟨z, fl9.trans (w6.2 z)⟩))
            | (have t9 : (fs_up (fs_up (fs_up M6 124 9 3) 124 11 (M6 128 (M6 124 8))) 124 8 ((M6 124 8) + 1)) 128 = M 128 := by rw [fs_up_other (by decide), fs_up_other (by decide), fs_up_other (by decide), g6t]
               have n9 : (fs_up (fs_up (fs_up M6 124 9 3) 124 11 (M6 128 (M6 124 8))) 124 8 ((M6 124 8) + 1)) 124 7 = M 124 7 := by rw [fs_up_at, if_neg (by omega), fs_up_at, if_neg (by omega), fs_up_at, if_neg (by omega), g67]
               have fl9 : (fs_up (fs_up (fs_up M6 124 9 3) 124 11 (M6 128 (M6 124 8))) 124 8 ((M6 124 8) + 1)) 124 12 = M6 124 12 := by rw [fs_up_at, if_neg (by omega), fs_up_at, if_neg (by omega), fs_up_at, if_neg (by omega)]
               have fr9 : (fs_up (fs_up (fs_up M6 124 9 3) 124 11 (M6 128 (M6 124 8))) 124 8 ((M6 124 8) + 1)) 124 10 = (qB (M 128) (M 124 7) (M 124 8)) := by rw [fs_up_at, if_neg (by omega), fs_up_at, if_neg (by omega), fs_up_at, if_neg (by omega), g610]
               have f9 := f6
               by_cases z : M 124 12 = -1
               · refine hq0 _ (((f6.up (by omega)).up (by omega)).up (by omega)) (Or.inr ⟨z, ?_⟩)
                 unfold TK
                 rw [t9, n9, fl9, fr9, w6.1 z]
                 refine ⟨rfl, rfl, ?_⟩
                 exact Or.inr (Or.inr (Or.inr ⟨by rw [fs_up_at, if_neg (by omega), fs_up_at, if_neg (by omega), fs_up_at, if_pos rfl], by omega, nl9, nd9, by rw [fs_up_at, if_pos rfl, g68], by rw [fs_up_at, if_neg (by omega), fs_up_at, if_pos rfl, g6t, g68]⟩))
               · exact hq0 _ (((f6.up (by omega)).up (by omega)).up (by omega)) (Or.inl ⟨z, fl9.trans (w6.2 z)⟩))
        refine fs_r_icmp (a := (M5 124 8)) (y := (M 124 8)) (L1 := [some (.inr (.ref 124)), some (.inl (M 124 8))]) (st1 := []) (M1 := (fs_up (fs_up M5 124 10 (M5 124 8)) 124 11 0)) (ob := [124 < fs_N ∧ fs_kd 124 = 6, 124 < fs_N ∧ fs_kd 124 = 6, 124 < fs_N ∧ fs_kd 124 = 6, 124 < fs_N ∧ fs_kd 124 = 6]) rfl (fs_exA 6 (o1 := [124 < fs_N ∧ fs_kd 124 = 6, 124 < fs_N ∧ fs_kd 124 = 6]) (L1 := [some (.inr (.ref 124)), some (.inl (M 124 8))]) (st1 := [.inl 0, .inr (.ref 124)]) (M1 := (fs_up M5 124 10 (M5 124 8))) (o2 := [124 < fs_N ∧ fs_kd 124 = 6, 124 < fs_N ∧ fs_kd 124 = 6]) rfl rfl) (fs_oc fs_ob124 (fs_oc fs_ob124 (fs_oc fs_ob124 (fs_oc fs_ob124 trivial)))) (fun (h3 : ¬ (M5 124 8) = (M 124 8)) => ?_) (fun (h3 : ¬ (¬ (M5 124 8) = (M 124 8))) => ?_)
        · exact join141 (fs_up (fs_up M5 124 10 (M5 124 8)) 124 11 0) (by first | exact ((m5k.up (by omega)).up (by omega)) | exact (((m5k.up (by omega)).up (by omega)).up (by omega))) (by first | exact k8 | (rw [fs_up_at, if_neg (by omega)]; exact k8)) (by first | exact k10 | (rw [fs_up_at, if_neg (by omega)]; exact k10)) (by first | exact k11 | (rw [fs_up_at, if_neg (by omega)]; exact k11)) (by
              first
                | (refine ⟨fun z => ?_, fun z => k12⟩
                   rw [k12, z]
                   exact (if_neg (by
                     rintro ⟨y1, y2, y3, y4⟩
                     first
                       | omega
                       | (rw [kt, k7, m58] at c2
                          rw [y1] at c1 c2
                          rcases y3 with y | y
                          · exact c1 y
                          · exact c2 y)
                       | (rw [kt, k7, m58] at c4
                          rw [y1] at c3 c4
                          rcases y4 with y | y
                          · exact c3 y
                          · exact c4 y))).symm)
                | (have y : qB (M 128) (M 124 7) (M 124 8) = M 124 8 := by omega
                   refine ⟨fun z => ?_, fun z => ?_⟩
                   · rw [fs_up_at, if_pos rfl, if_pos (by rw [k12]; exact z), m58]
                     rw [y] at g1 g2
                     exact (if_pos ⟨y, by omega, g1, g2⟩).symm
                   · rw [fs_up_at, if_pos rfl, if_neg (by rw [k12]; exact z)]
                     exact k12))
        refine fs_r_if (a := (M5 124 8)) (L1 := [some (.inr (.ref 124)), some (.inl (M 124 8))]) (st1 := []) (M1 := (fs_up (fs_up M5 124 10 (M5 124 8)) 124 11 0)) (ob := [124 < fs_N ∧ fs_kd 124 = 6]) rfl rfl (fs_oc fs_ob124 trivial) (fun (h4 : (M5 124 8) ≤ 0) => ?_) (fun (h4 : ¬ ((M5 124 8) ≤ 0)) => ?_)
        · exact join141 (fs_up (fs_up M5 124 10 (M5 124 8)) 124 11 0) (by first | exact ((m5k.up (by omega)).up (by omega)) | exact (((m5k.up (by omega)).up (by omega)).up (by omega))) (by first | exact k8 | (rw [fs_up_at, if_neg (by omega)]; exact k8)) (by first | exact k10 | (rw [fs_up_at, if_neg (by omega)]; exact k10)) (by first | exact k11 | (rw [fs_up_at, if_neg (by omega)]; exact k11)) (by
              first
                | (refine ⟨fun z => ?_, fun z => k12⟩
                   rw [k12, z]
                   exact (if_neg (by
                     rintro ⟨y1, y2, y3, y4⟩
                     first
                       | omega
                       | (rw [kt, k7, m58] at c2
                          rw [y1] at c1 c2
                          rcases y3 with y | y
                          · exact c1 y
                          · exact c2 y)
                       | (rw [kt, k7, m58] at c4
                          rw [y1] at c3 c4
                          rcases y4 with y | y
                          · exact c3 y
                          · exact c4 y))).symm)
                | (have y : qB (M 128) (M 124 7) (M 124 8) = M 124 8 := by omega
                   refine ⟨fun z => ?_, fun z => ?_⟩
                   · rw [fs_up_at, if_pos rfl, if_pos (by rw [k12]; exact z), m58]
                     rw [y] at g1 g2
                     exact (if_pos ⟨y, by omega, g1, g2⟩).symm
                   · rw [fs_up_at, if_pos rfl, if_neg (by rw [k12]; exact z)]
                     exact k12))
        refine fs_r_call (sta := false) (idx := 94) (as := [.inr (.ref 124), .inl (M5 124 8)]) (rest := []) (L1 := [some (.inr (.ref 124)), some (.inl (M 124 8))]) (st1 := [.inl (M5 124 8), .inr (.ref 124)]) (M1 := (fs_up (fs_up M5 124 10 (M5 124 8)) 124 11 0)) (ob := [124 < fs_N ∧ fs_kd 124 = 6]) rfl rfl rfl (fs_oc fs_ob124 trivial) rfl rfl (Nat.le_of_ble_eq_true rfl) ⟨Or.inr (Nat.le_of_ble_eq_true rfl), Or.inr fs_ob124⟩ (by decide) ?_
        refine fs_m_isLetter (by rw [k7]; omega) (by rw [m58]; omega) (fun (c1 : xL ((fs_up (fs_up M5 124 10 (M5 124 8)) 124 11 0) 128) ((fs_up (fs_up M5 124 10 (M5 124 8)) 124 11 0) 124 7) (M5 124 8)) => ?_) (fun (c1 : ¬ (xL ((fs_up (fs_up M5 124 10 (M5 124 8)) 124 11 0) 128) ((fs_up (fs_up M5 124 10 (M5 124 8)) 124 11 0) 124 7) (M5 124 8))) => ?_)
        · refine fs_r_if (a := 1) (L1 := [some (.inr (.ref 124)), some (.inl (M 124 8))]) (st1 := []) (M1 := (fs_up (fs_up M5 124 10 (M5 124 8)) 124 11 0)) (ob := []) rfl rfl trivial (fun _ => ?_) (fun h => absurd (by decide : ¬ (1 : Int) = 0) h)
          have g1 : xL (M 128) (M 124 7) (qB (M 128) (M 124 7) (M 124 8)) ∨ xD (M 128) (M 124 7) (qB (M 128) (M 124 7) (M 124 8)) := by first | (rw [kt, k7, m58] at c1; exact Or.inl c1) | (rw [kt, k7, m58] at c2; exact Or.inr c2)
          refine fs_r_call (sta := false) (idx := 94) (as := [.inr (.ref 124), .inl ((M5 124 8) - 1)]) (rest := []) (L1 := [some (.inr (.ref 124)), some (.inl (M 124 8))]) (st1 := [.inl ((M5 124 8) - 1), .inr (.ref 124)]) (M1 := (fs_up (fs_up M5 124 10 (M5 124 8)) 124 11 0)) (ob := [124 < fs_N ∧ fs_kd 124 = 6, fs_rg ((M5 124 8) - 1)]) rfl rfl rfl (fs_oc fs_ob124 (fs_oc ⟨by omega, by omega⟩ trivial)) rfl rfl (Nat.le_of_ble_eq_true rfl) ⟨Or.inr (Nat.le_of_ble_eq_true rfl), Or.inr fs_ob124⟩ (by decide) ?_
          refine fs_m_isLetter (by rw [k7]; omega) (by omega) (fun (c3 : xL ((fs_up (fs_up M5 124 10 (M5 124 8)) 124 11 0) 128) ((fs_up (fs_up M5 124 10 (M5 124 8)) 124 11 0) 124 7) ((M5 124 8) - 1)) => ?_) (fun (c3 : ¬ (xL ((fs_up (fs_up M5 124 10 (M5 124 8)) 124 11 0) 128) ((fs_up (fs_up M5 124 10 (M5 124 8)) 124 11 0) 124 7) ((M5 124 8) - 1))) => ?_)
          · refine fs_r_if (a := 1) (L1 := [some (.inr (.ref 124)), some (.inl (M 124 8))]) (st1 := []) (M1 := (fs_up (fs_up M5 124 10 (M5 124 8)) 124 11 0)) (ob := []) rfl rfl trivial (fun _ => ?_) (fun h => absurd (by decide : ¬ (1 : Int) = 0) h)
            have g2 : xL (M 128) (M 124 7) ((qB (M 128) (M 124 7) (M 124 8)) - 1) ∨ xD (M 128) (M 124 7) ((qB (M 128) (M 124 7) (M 124 8)) - 1) := by first | (rw [kt, k7, m58] at c3; exact Or.inl c3) | (rw [kt, k7, m58] at c4; exact Or.inr c4)
            refine fs_r_call (sta := false) (idx := 101) (as := [.inr (.ref 124), .inl (M5 124 8)]) (rest := []) (L1 := [some (.inr (.ref 124)), some (.inl (M 124 8))]) (st1 := [.inl (M5 124 8), .inr (.ref 124)]) (M1 := (fs_up (fs_up M5 124 10 (M5 124 8)) 124 11 0)) (ob := [124 < fs_N ∧ fs_kd 124 = 6]) rfl rfl rfl (fs_oc fs_ob124 trivial) rfl rfl (Nat.le_of_ble_eq_true rfl) ⟨Or.inr (Nat.le_of_ble_eq_true rfl), Or.inr fs_ob124⟩ (by decide) ?_
            refine fs_m_wrong ?_
            exact join141 (fs_up (fs_up (fs_up M5 124 10 (M5 124 8)) 124 11 0) 124 12 (if (fs_up (fs_up M5 124 10 (M5 124 8)) 124 11 0) 124 12 = -1 then (M5 124 8) else (fs_up (fs_up M5 124 10 (M5 124 8)) 124 11 0) 124 12)) (by first | exact ((m5k.up (by omega)).up (by omega)) | exact (((m5k.up (by omega)).up (by omega)).up (by omega))) (by first | exact k8 | (rw [fs_up_at, if_neg (by omega)]; exact k8)) (by first | exact k10 | (rw [fs_up_at, if_neg (by omega)]; exact k10)) (by first | exact k11 | (rw [fs_up_at, if_neg (by omega)]; exact k11)) (by
                first
                  | (refine ⟨fun z => ?_, fun z => k12⟩
                     rw [k12, z]
                     exact (if_neg (by
                       rintro ⟨y1, y2, y3, y4⟩
                       first
                         | omega
                         | (rw [kt, k7, m58] at c2
                            rw [y1] at c1 c2
                            rcases y3 with y | y
                            · exact c1 y
                            · exact c2 y)
                         | (rw [kt, k7, m58] at c4
                            rw [y1] at c3 c4
                            rcases y4 with y | y
                            · exact c3 y
                            · exact c4 y))).symm)
                  | (have y : qB (M 128) (M 124 7) (M 124 8) = M 124 8 := by omega
                     refine ⟨fun z => ?_, fun z => ?_⟩
                     · rw [fs_up_at, if_pos rfl, if_pos (by rw [k12]; exact z), m58]
                       rw [y] at g1 g2
                       exact (if_pos ⟨y, by omega, g1, g2⟩).symm
                     · rw [fs_up_at, if_pos rfl, if_neg (by rw [k12]; exact z)]
                       exact k12))
          refine fs_r_if (a := 0) (L1 := [some (.inr (.ref 124)), some (.inl (M 124 8))]) (st1 := []) (M1 := (fs_up (fs_up M5 124 10 (M5 124 8)) 124 11 0)) (ob := []) rfl rfl trivial (fun h => absurd h (by decide : ¬ (¬ (0 : Int) = 0))) (fun _ => ?_)
          rw [kt, k7, m58] at c3
          refine fs_r_call (sta := false) (idx := 98) (as := [.inr (.ref 124), .inl ((M5 124 8) - 1)]) (rest := []) (L1 := [some (.inr (.ref 124)), some (.inl (M 124 8))]) (st1 := [.inl ((M5 124 8) - 1), .inr (.ref 124)]) (M1 := (fs_up (fs_up M5 124 10 (M5 124 8)) 124 11 0)) (ob := [124 < fs_N ∧ fs_kd 124 = 6, fs_rg ((M5 124 8) - 1)]) rfl rfl rfl (fs_oc fs_ob124 (fs_oc ⟨by omega, by omega⟩ trivial)) rfl rfl (Nat.le_of_ble_eq_true rfl) ⟨Or.inr (Nat.le_of_ble_eq_true rfl), Or.inr fs_ob124⟩ (by decide) ?_
          refine fs_m_isDigit (by rw [k7]; omega) (by omega) (fun (c4 : xD ((fs_up (fs_up M5 124 10 (M5 124 8)) 124 11 0) 128) ((fs_up (fs_up M5 124 10 (M5 124 8)) 124 11 0) 124 7) ((M5 124 8) - 1)) => ?_) (fun (c4 : ¬ (xD ((fs_up (fs_up M5 124 10 (M5 124 8)) 124 11 0) 128) ((fs_up (fs_up M5 124 10 (M5 124 8)) 124 11 0) 124 7) ((M5 124 8) - 1))) => ?_)
          · refine fs_r_if (a := 1) (L1 := [some (.inr (.ref 124)), some (.inl (M 124 8))]) (st1 := []) (M1 := (fs_up (fs_up M5 124 10 (M5 124 8)) 124 11 0)) (ob := []) rfl rfl trivial (fun h => absurd h (by decide : ¬ ((1 : Int) = 0))) (fun _ => ?_)
            have g2 : xL (M 128) (M 124 7) ((qB (M 128) (M 124 7) (M 124 8)) - 1) ∨ xD (M 128) (M 124 7) ((qB (M 128) (M 124 7) (M 124 8)) - 1) := by first | (rw [kt, k7, m58] at c3; exact Or.inl c3) | (rw [kt, k7, m58] at c4; exact Or.inr c4)
            refine fs_r_call (sta := false) (idx := 101) (as := [.inr (.ref 124), .inl (M5 124 8)]) (rest := []) (L1 := [some (.inr (.ref 124)), some (.inl (M 124 8))]) (st1 := [.inl (M5 124 8), .inr (.ref 124)]) (M1 := (fs_up (fs_up M5 124 10 (M5 124 8)) 124 11 0)) (ob := [124 < fs_N ∧ fs_kd 124 = 6]) rfl rfl rfl (fs_oc fs_ob124 trivial) rfl rfl (Nat.le_of_ble_eq_true rfl) ⟨Or.inr (Nat.le_of_ble_eq_true rfl), Or.inr fs_ob124⟩ (by decide) ?_
            refine fs_m_wrong ?_
            exact join141 (fs_up (fs_up (fs_up M5 124 10 (M5 124 8)) 124 11 0) 124 12 (if (fs_up (fs_up M5 124 10 (M5 124 8)) 124 11 0) 124 12 = -1 then (M5 124 8) else (fs_up (fs_up M5 124 10 (M5 124 8)) 124 11 0) 124 12)) (by first | exact ((m5k.up (by omega)).up (by omega)) | exact (((m5k.up (by omega)).up (by omega)).up (by omega))) (by first | exact k8 | (rw [fs_up_at, if_neg (by omega)]; exact k8)) (by first | exact k10 | (rw [fs_up_at, if_neg (by omega)]; exact k10)) (by first | exact k11 | (rw [fs_up_at, if_neg (by omega)]; exact k11)) (by
                first
                  | (refine ⟨fun z => ?_, fun z => k12⟩
                     rw [k12, z]
                     exact (if_neg (by
                       rintro ⟨y1, y2, y3, y4⟩
                       first
                         | omega
                         | (rw [kt, k7, m58] at c2
                            rw [y1] at c1 c2
                            rcases y3 with y | y
                            · exact c1 y
                            · exact c2 y)
                         | (rw [kt, k7, m58] at c4
                            rw [y1] at c3 c4
                            rcases y4 with y | y
                            · exact c3 y
                            · exact c4 y))).symm)
                  | (have y : qB (M 128) (M 124 7) (M 124 8) = M 124 8 := by omega
                     refine ⟨fun z => ?_, fun z => ?_⟩
                     · rw [fs_up_at, if_pos rfl, if_pos (by rw [k12]; exact z), m58]
                       rw [y] at g1 g2
                       exact (if_pos ⟨y, by omega, g1, g2⟩).symm
                     · rw [fs_up_at, if_pos rfl, if_neg (by rw [k12]; exact z)]
                       exact k12))
          refine fs_r_if (a := 0) (L1 := [some (.inr (.ref 124)), some (.inl (M 124 8))]) (st1 := []) (M1 := (fs_up (fs_up M5 124 10 (M5 124 8)) 124 11 0)) (ob := []) rfl rfl trivial (fun _ => ?_) (fun h => absurd (by decide : (0 : Int) = 0) h)
          exact join141 (fs_up (fs_up M5 124 10 (M5 124 8)) 124 11 0) (by first | exact ((m5k.up (by omega)).up (by omega)) | exact (((m5k.up (by omega)).up (by omega)).up (by omega))) (by first | exact k8 | (rw [fs_up_at, if_neg (by omega)]; exact k8)) (by first | exact k10 | (rw [fs_up_at, if_neg (by omega)]; exact k10)) (by first | exact k11 | (rw [fs_up_at, if_neg (by omega)]; exact k11)) (by
              first
                | (refine ⟨fun z => ?_, fun z => k12⟩
                   rw [k12, z]
                   exact (if_neg (by
                     rintro ⟨y1, y2, y3, y4⟩
                     first
                       | omega
                       | (rw [kt, k7, m58] at c2
                          rw [y1] at c1 c2
                          rcases y3 with y | y
                          · exact c1 y
                          · exact c2 y)
                       | (rw [kt, k7, m58] at c4
                          rw [y1] at c3 c4
                          rcases y4 with y | y
                          · exact c3 y
                          · exact c4 y))).symm)
                | (have y : qB (M 128) (M 124 7) (M 124 8) = M 124 8 := by omega
                   refine ⟨fun z => ?_, fun z => ?_⟩
                   · rw [fs_up_at, if_pos rfl, if_pos (by rw [k12]; exact z), m58]
                     rw [y] at g1 g2
                     exact (if_pos ⟨y, by omega, g1, g2⟩).symm
                   · rw [fs_up_at, if_pos rfl, if_neg (by rw [k12]; exact z)]
                     exact k12))
        refine fs_r_if (a := 0) (L1 := [some (.inr (.ref 124)), some (.inl (M 124 8))]) (st1 := []) (M1 := (fs_up (fs_up M5 124 10 (M5 124 8)) 124 11 0)) (ob := []) rfl rfl trivial (fun h => absurd h (by decide : ¬ (¬ (0 : Int) = 0))) (fun _ => ?_)
        rw [kt, k7, m58] at c1
        refine fs_r_call (sta := false) (idx := 98) (as := [.inr (.ref 124), .inl (M5 124 8)]) (rest := []) (L1 := [some (.inr (.ref 124)), some (.inl (M 124 8))]) (st1 := [.inl (M5 124 8), .inr (.ref 124)]) (M1 := (fs_up (fs_up M5 124 10 (M5 124 8)) 124 11 0)) (ob := [124 < fs_N ∧ fs_kd 124 = 6]) rfl rfl rfl (fs_oc fs_ob124 trivial) rfl rfl (Nat.le_of_ble_eq_true rfl) ⟨Or.inr (Nat.le_of_ble_eq_true rfl), Or.inr fs_ob124⟩ (by decide) ?_
        refine fs_m_isDigit (by rw [k7]; omega) (by rw [m58]; omega) (fun (c2 : xD ((fs_up (fs_up M5 124 10 (M5 124 8)) 124 11 0) 128) ((fs_up (fs_up M5 124 10 (M5 124 8)) 124 11 0) 124 7) (M5 124 8)) => ?_) (fun (c2 : ¬ (xD ((fs_up (fs_up M5 124 10 (M5 124 8)) 124 11 0) 128) ((fs_up (fs_up M5 124 10 (M5 124 8)) 124 11 0) 124 7) (M5 124 8))) => ?_)
        · refine fs_r_if (a := 1) (L1 := [some (.inr (.ref 124)), some (.inl (M 124 8))]) (st1 := []) (M1 := (fs_up (fs_up M5 124 10 (M5 124 8)) 124 11 0)) (ob := []) rfl rfl trivial (fun h => absurd h (by decide : ¬ ((1 : Int) = 0))) (fun _ => ?_)
          have g1 : xL (M 128) (M 124 7) (qB (M 128) (M 124 7) (M 124 8)) ∨ xD (M 128) (M 124 7) (qB (M 128) (M 124 7) (M 124 8)) := by first | (rw [kt, k7, m58] at c1; exact Or.inl c1) | (rw [kt, k7, m58] at c2; exact Or.inr c2)
          refine fs_r_call (sta := false) (idx := 94) (as := [.inr (.ref 124), .inl ((M5 124 8) - 1)]) (rest := []) (L1 := [some (.inr (.ref 124)), some (.inl (M 124 8))]) (st1 := [.inl ((M5 124 8) - 1), .inr (.ref 124)]) (M1 := (fs_up (fs_up M5 124 10 (M5 124 8)) 124 11 0)) (ob := [124 < fs_N ∧ fs_kd 124 = 6, fs_rg ((M5 124 8) - 1)]) rfl rfl rfl (fs_oc fs_ob124 (fs_oc ⟨by omega, by omega⟩ trivial)) rfl rfl (Nat.le_of_ble_eq_true rfl) ⟨Or.inr (Nat.le_of_ble_eq_true rfl), Or.inr fs_ob124⟩ (by decide) ?_
          refine fs_m_isLetter (by rw [k7]; omega) (by omega) (fun (c3 : xL ((fs_up (fs_up M5 124 10 (M5 124 8)) 124 11 0) 128) ((fs_up (fs_up M5 124 10 (M5 124 8)) 124 11 0) 124 7) ((M5 124 8) - 1)) => ?_) (fun (c3 : ¬ (xL ((fs_up (fs_up M5 124 10 (M5 124 8)) 124 11 0) 128) ((fs_up (fs_up M5 124 10 (M5 124 8)) 124 11 0) 124 7) ((M5 124 8) - 1))) => ?_)
          · refine fs_r_if (a := 1) (L1 := [some (.inr (.ref 124)), some (.inl (M 124 8))]) (st1 := []) (M1 := (fs_up (fs_up M5 124 10 (M5 124 8)) 124 11 0)) (ob := []) rfl rfl trivial (fun _ => ?_) (fun h => absurd (by decide : ¬ (1 : Int) = 0) h)
            have g2 : xL (M 128) (M 124 7) ((qB (M 128) (M 124 7) (M 124 8)) - 1) ∨ xD (M 128) (M 124 7) ((qB (M 128) (M 124 7) (M 124 8)) - 1) := by first | (rw [kt, k7, m58] at c3; exact Or.inl c3) | (rw [kt, k7, m58] at c4; exact Or.inr c4)
            refine fs_r_call (sta := false) (idx := 101) (as := [.inr (.ref 124), .inl (M5 124 8)]) (rest := []) (L1 := [some (.inr (.ref 124)), some (.inl (M 124 8))]) (st1 := [.inl (M5 124 8), .inr (.ref 124)]) (M1 := (fs_up (fs_up M5 124 10 (M5 124 8)) 124 11 0)) (ob := [124 < fs_N ∧ fs_kd 124 = 6]) rfl rfl rfl (fs_oc fs_ob124 trivial) rfl rfl (Nat.le_of_ble_eq_true rfl) ⟨Or.inr (Nat.le_of_ble_eq_true rfl), Or.inr fs_ob124⟩ (by decide) ?_
            refine fs_m_wrong ?_
            exact join141 (fs_up (fs_up (fs_up M5 124 10 (M5 124 8)) 124 11 0) 124 12 (if (fs_up (fs_up M5 124 10 (M5 124 8)) 124 11 0) 124 12 = -1 then (M5 124 8) else (fs_up (fs_up M5 124 10 (M5 124 8)) 124 11 0) 124 12)) (by first | exact ((m5k.up (by omega)).up (by omega)) | exact (((m5k.up (by omega)).up (by omega)).up (by omega))) (by first | exact k8 | (rw [fs_up_at, if_neg (by omega)]; exact k8)) (by first | exact k10 | (rw [fs_up_at, if_neg (by omega)]; exact k10)) (by first | exact k11 | (rw [fs_up_at, if_neg (by omega)]; exact k11)) (by
                first
                  | (refine ⟨fun z => ?_, fun z => k12⟩
                     rw [k12, z]
                     exact (if_neg (by
                       rintro ⟨y1, y2, y3, y4⟩
                       first
                         | omega
                         | (rw [kt, k7, m58] at c2
                            rw [y1] at c1 c2
                            rcases y3 with y | y
                            · exact c1 y
                            · exact c2 y)
                         | (rw [kt, k7, m58] at c4
                            rw [y1] at c3 c4
                            rcases y4 with y | y
                            · exact c3 y
                            · exact c4 y))).symm)
                  | (have y : qB (M 128) (M 124 7) (M 124 8) = M 124 8 := by omega
                     refine ⟨fun z => ?_, fun z => ?_⟩
                     · rw [fs_up_at, if_pos rfl, if_pos (by rw [k12]; exact z), m58]
                       rw [y] at g1 g2
                       exact (if_pos ⟨y, by omega, g1, g2⟩).symm
                     · rw [fs_up_at, if_pos rfl, if_neg (by rw [k12]; exact z)]
                       exact k12))
          refine fs_r_if (a := 0) (L1 := [some (.inr (.ref 124)), some (.inl (M 124 8))]) (st1 := []) (M1 := (fs_up (fs_up M5 124 10 (M5 124 8)) 124 11 0)) (ob := []) rfl rfl trivial (fun h => absurd h (by decide : ¬ (¬ (0 : Int) = 0))) (fun _ => ?_)
          rw [kt, k7, m58] at c3
          refine fs_r_call (sta := false) (idx := 98) (as := [.inr (.ref 124), .inl ((M5 124 8) - 1)]) (rest := []) (L1 := [some (.inr (.ref 124)), some (.inl (M 124 8))]) (st1 := [.inl ((M5 124 8) - 1), .inr (.ref 124)]) (M1 := (fs_up (fs_up M5 124 10 (M5 124 8)) 124 11 0)) (ob := [124 < fs_N ∧ fs_kd 124 = 6, fs_rg ((M5 124 8) - 1)]) rfl rfl rfl (fs_oc fs_ob124 (fs_oc ⟨by omega, by omega⟩ trivial)) rfl rfl (Nat.le_of_ble_eq_true rfl) ⟨Or.inr (Nat.le_of_ble_eq_true rfl), Or.inr fs_ob124⟩ (by decide) ?_
          refine fs_m_isDigit (by rw [k7]; omega) (by omega) (fun (c4 : xD ((fs_up (fs_up M5 124 10 (M5 124 8)) 124 11 0) 128) ((fs_up (fs_up M5 124 10 (M5 124 8)) 124 11 0) 124 7) ((M5 124 8) - 1)) => ?_) (fun (c4 : ¬ (xD ((fs_up (fs_up M5 124 10 (M5 124 8)) 124 11 0) 128) ((fs_up (fs_up M5 124 10 (M5 124 8)) 124 11 0) 124 7) ((M5 124 8) - 1))) => ?_)
          · refine fs_r_if (a := 1) (L1 := [some (.inr (.ref 124)), some (.inl (M 124 8))]) (st1 := []) (M1 := (fs_up (fs_up M5 124 10 (M5 124 8)) 124 11 0)) (ob := []) rfl rfl trivial (fun h => absurd h (by decide : ¬ ((1 : Int) = 0))) (fun _ => ?_)
            have g2 : xL (M 128) (M 124 7) ((qB (M 128) (M 124 7) (M 124 8)) - 1) ∨ xD (M 128) (M 124 7) ((qB (M 128) (M 124 7) (M 124 8)) - 1) := by first | (rw [kt, k7, m58] at c3; exact Or.inl c3) | (rw [kt, k7, m58] at c4; exact Or.inr c4)
            refine fs_r_call (sta := false) (idx := 101) (as := [.inr (.ref 124), .inl (M5 124 8)]) (rest := []) (L1 := [some (.inr (.ref 124)), some (.inl (M 124 8))]) (st1 := [.inl (M5 124 8), .inr (.ref 124)]) (M1 := (fs_up (fs_up M5 124 10 (M5 124 8)) 124 11 0)) (ob := [124 < fs_N ∧ fs_kd 124 = 6]) rfl rfl rfl (fs_oc fs_ob124 trivial) rfl rfl (Nat.le_of_ble_eq_true rfl) ⟨Or.inr (Nat.le_of_ble_eq_true rfl), Or.inr fs_ob124⟩ (by decide) ?_
            refine fs_m_wrong ?_
            exact join141 (fs_up (fs_up (fs_up M5 124 10 (M5 124 8)) 124 11 0) 124 12 (if (fs_up (fs_up M5 124 10 (M5 124 8)) 124 11 0) 124 12 = -1 then (M5 124 8) else (fs_up (fs_up M5 124 10 (M5 124 8)) 124 11 0) 124 12)) (by first | exact ((m5k.up (by omega)).up (by omega)) | exact (((m5k.up (by omega)).up (by omega)).up (by omega))) (by first | exact k8 | (rw [fs_up_at, if_neg (by omega)]; exact k8)) (by first | exact k10 | (rw [fs_up_at, if_neg (by omega)]; exact k10)) (by first | exact k11 | (rw [fs_up_at, if_neg (by omega)]; exact k11)) (by
                first
                  | (refine ⟨fun z => ?_, fun z => k12⟩
                     rw [k12, z]
                     exact (if_neg (by
                       rintro ⟨y1, y2, y3, y4⟩
                       first
                         | omega
                         | (rw [kt, k7, m58] at c2
                            rw [y1] at c1 c2
                            rcases y3 with y | y
                            · exact c1 y
                            · exact c2 y)
                         | (rw [kt, k7, m58] at c4
                            rw [y1] at c3 c4
                            rcases y4 with y | y
                            · exact c3 y
                            · exact c4 y))).symm)
                  | (have y : qB (M 128) (M 124 7) (M 124 8) = M 124 8 := by omega
                     refine ⟨fun z => ?_, fun z => ?_⟩
                     · rw [fs_up_at, if_pos rfl, if_pos (by rw [k12]; exact z), m58]
                       rw [y] at g1 g2
                       exact (if_pos ⟨y, by omega, g1, g2⟩).symm
                     · rw [fs_up_at, if_pos rfl, if_neg (by rw [k12]; exact z)]
                       exact k12))
          refine fs_r_if (a := 0) (L1 := [some (.inr (.ref 124)), some (.inl (M 124 8))]) (st1 := []) (M1 := (fs_up (fs_up M5 124 10 (M5 124 8)) 124 11 0)) (ob := []) rfl rfl trivial (fun _ => ?_) (fun h => absurd (by decide : (0 : Int) = 0) h)
          exact join141 (fs_up (fs_up M5 124 10 (M5 124 8)) 124 11 0) (by first | exact ((m5k.up (by omega)).up (by omega)) | exact (((m5k.up (by omega)).up (by omega)).up (by omega))) (by first | exact k8 | (rw [fs_up_at, if_neg (by omega)]; exact k8)) (by first | exact k10 | (rw [fs_up_at, if_neg (by omega)]; exact k10)) (by first | exact k11 | (rw [fs_up_at, if_neg (by omega)]; exact k11)) (by
              first
                | (refine ⟨fun z => ?_, fun z => k12⟩
                   rw [k12, z]
                   exact (if_neg (by
                     rintro ⟨y1, y2, y3, y4⟩
                     first
                       | omega
                       | (rw [kt, k7, m58] at c2
                          rw [y1] at c1 c2
                          rcases y3 with y | y
                          · exact c1 y
                          · exact c2 y)
                       | (rw [kt, k7, m58] at c4
                          rw [y1] at c3 c4
                          rcases y4 with y | y
                          · exact c3 y
                          · exact c4 y))).symm)
                | (have y : qB (M 128) (M 124 7) (M 124 8) = M 124 8 := by omega
                   refine ⟨fun z => ?_, fun z => ?_⟩
                   · rw [fs_up_at, if_pos rfl, if_pos (by rw [k12]; exact z), m58]
                     rw [y] at g1 g2
                     exact (if_pos ⟨y, by omega, g1, g2⟩).symm
                   · rw [fs_up_at, if_pos rfl, if_neg (by rw [k12]; exact z)]
                     exact k12))
        refine fs_r_if (a := 0) (L1 := [some (.inr (.ref 124)), some (.inl (M 124 8))]) (st1 := []) (M1 := (fs_up (fs_up M5 124 10 (M5 124 8)) 124 11 0)) (ob := []) rfl rfl trivial (fun _ => ?_) (fun h => absurd (by decide : (0 : Int) = 0) h)
        exact join141 (fs_up (fs_up M5 124 10 (M5 124 8)) 124 11 0) (by first | exact ((m5k.up (by omega)).up (by omega)) | exact (((m5k.up (by omega)).up (by omega)).up (by omega))) (by first | exact k8 | (rw [fs_up_at, if_neg (by omega)]; exact k8)) (by first | exact k10 | (rw [fs_up_at, if_neg (by omega)]; exact k10)) (by first | exact k11 | (rw [fs_up_at, if_neg (by omega)]; exact k11)) (by
            first
              | (refine ⟨fun z => ?_, fun z => k12⟩
                 rw [k12, z]
                 exact (if_neg (by
                   rintro ⟨y1, y2, y3, y4⟩
                   first
                     | omega
                     | (rw [kt, k7, m58] at c2
                        rw [y1] at c1 c2
                        rcases y3 with y | y
                        · exact c1 y
                        · exact c2 y)
                     | (rw [kt, k7, m58] at c4
                        rw [y1] at c3 c4
                        rcases y4 with y | y
                        · exact c3 y
                        · exact c4 y))).symm)
              | (have y : qB (M 128) (M 124 7) (M 124 8) = M 124 8 := by omega
                 refine ⟨fun z => ?_, fun z => ?_⟩
                 · rw [fs_up_at, if_pos rfl, if_pos (by rw [k12]; exact z), m58]
                   rw [y] at g1 g2
                   exact (if_pos ⟨y, by omega, g1, g2⟩).symm
                 · rw [fs_up_at, if_pos rfl, if_neg (by rw [k12]; exact z)]
                   exact k12))
      refine fs_r_icmp (a := (M3 124 8)) (y := (M3 124 7)) (L1 := [some (.inr (.ref 124)), some (.inl (M 124 8))]) (st1 := []) (M1 := M3) (ob := [124 < fs_N ∧ fs_kd 124 = 6, 124 < fs_N ∧ fs_kd 124 = 6]) rfl rfl (fs_oc fs_ob124 (fs_oc fs_ob124 trivial)) (fun (h5 : (M3 124 7) ≤ (M3 124 8)) => ?_) (fun (h5 : ¬ ((M3 124 7) ≤ (M3 124 8))) => ?_)
      · exact join57 M3 (by { have nb : ¬ xB (M 128) (M 124 7) a := (fun z => by omega); exact m3.trans (by rw [← s3]; congr 1; exact (skp_z nb).symm) })
      refine fs_r_icmp (a := (M3 128 (M3 124 8))) (y := 32) (L1 := [some (.inr (.ref 124)), some (.inl (M 124 8))]) (st1 := []) (M1 := M3) (ob := [124 < fs_N ∧ fs_kd 124 = 6, 124 < fs_N ∧ fs_kd 124 = 6, (128 < fs_N ∧ fs_kd 128 = 100) ∧ (0 : Int) ≤ (M3 124 8) ∧ (M3 124 8) < fs_ln 128]) rfl rfl (fs_oc fs_ob124 (fs_oc fs_ob124 (fs_oc (fs_ar128 (by omega) (by omega)) trivial))) (fun (h6 : (M3 128 (M3 124 8)) = 32) => ?_) (fun (h6 : ¬ ((M3 128 (M3 124 8)) = 32)) => ?_)
      · refine fs_r_goto (L1 := [some (.inr (.ref 124)), some (.inl (M 124 8))]) (st1 := []) (M1 := (fs_up M3 124 8 ((M3 124 8) + 1))) (ob := [124 < fs_N ∧ fs_kd 124 = 6, fs_rg ((M3 124 8) + 1), 124 < fs_N ∧ fs_kd 124 = 6]) rfl rfl (fs_oc fs_ob124 (fs_oc ⟨by omega, by omega⟩ (fs_oc fs_ob124 trivial))) ?_
        exact ih5 (fs_up M3 124 8 ((M3 124 8) + 1)) ((a + 1)) (by omega) (by rw [g2, m3, fs_up_up]) (by rw [← s3]; exact (skp_s (P := xB (M 128) (M 124 7)) ⟨by omega, by omega⟩ (by omega)).symm) (by omega)
      refine fs_r_icmp (a := (M3 128 (M3 124 8))) (y := 10) (L1 := [some (.inr (.ref 124)), some (.inl (M 124 8))]) (st1 := []) (M1 := M3) (ob := [124 < fs_N ∧ fs_kd 124 = 6, 124 < fs_N ∧ fs_kd 124 = 6, (128 < fs_N ∧ fs_kd 128 = 100) ∧ (0 : Int) ≤ (M3 124 8) ∧ (M3 124 8) < fs_ln 128]) rfl rfl (fs_oc fs_ob124 (fs_oc fs_ob124 (fs_oc (fs_ar128 (by omega) (by omega)) trivial))) (fun (h7 : ¬ (M3 128 (M3 124 8)) = 10) => ?_) (fun (h7 : ¬ (¬ (M3 128 (M3 124 8)) = 10)) => ?_)
      · exact join57 M3 (by { have nb : ¬ xB (M 128) (M 124 7) a := (fun z => by omega); exact m3.trans (by rw [← s3]; congr 1; exact (skp_z nb).symm) })
      refine fs_r_goto (L1 := [some (.inr (.ref 124)), some (.inl (M 124 8))]) (st1 := []) (M1 := (fs_up M3 124 8 ((M3 124 8) + 1))) (ob := [124 < fs_N ∧ fs_kd 124 = 6, fs_rg ((M3 124 8) + 1), 124 < fs_N ∧ fs_kd 124 = 6]) rfl rfl (fs_oc fs_ob124 (fs_oc ⟨by omega, by omega⟩ (fs_oc fs_ob124 trivial))) ?_
      exact ih5 (fs_up M3 124 8 ((M3 124 8) + 1)) ((a + 1)) (by omega) (by rw [g2, m3, fs_up_up]) (by rw [← s3]; exact (skp_s (P := xB (M 128) (M 124 7)) ⟨by omega, by omega⟩ (by omega)).symm) (by omega)
  exact loop5 (((M 124 7 - ((M 124 8))) : Int) + 1).toNat M ((M 124 8)) (by omega) ((fs_up_id rfl).symm) (rfl) (by omega)
