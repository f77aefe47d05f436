/-! one sentence -/
noncomputable def tx_w (T : Int → Int) (q e : Int) : Int :=
  @ite _ (wdP T q e 0) (Classical.propDecidable _) 0 (@ite _ (wdP T q e 1) (Classical.propDecidable _) 1 (@ite _ (wdP T q e 2) (Classical.propDecidable _) 2
    (@ite _ (wdP T q e 3) (Classical.propDecidable _) 3 (@ite _ (wdP T q e 4) (Classical.propDecidable _) 4 5))))
noncomputable def stF (T : Int → Int) (n : Int) (N : Int → Int) (q : Int) : Int :=
  if tx_w T q (eL T n q) = 0 then aF T n N q (eL T n q) else if tx_w T q (eL T n q) = 1 then tx_S T n N q (eL T n q) else if tx_w T q (eL T n q) = 2 then jF T n N (eL T n q)
  else if tx_w T q (eL T n q) = 3 then iF T n N 0 q (eL T n q) else if tx_w T q (eL T n q) = 4 then iF T n N 1 q (eL T n q) else q
noncomputable def stP (T : Int → Int) (n : Int) (N : Int → Int) (q : Int) : Int :=
  if tx_w T q (eL T n q) = 1 then tx_P T n N (eL T n q) else if tx_w T q (eL T n q) = 2 then jP T n (eL T n q) else aP T n (eL T n q)
noncomputable def stN (T : Int → Int) (n : Int) (N : Int → Int) (q : Int) : Int → Int :=
  if tx_w T q (eL T n q) = 0 then aN T n N (eL T n q) else if tx_w T q (eL T n q) = 1 then tx_R T n N (eL T n q) else if tx_w T q (eL T n q) = 2 then jN T n N (eL T n q)
  else if tx_w T q (eL T n q) = 3 then iN T n N 0 (eL T n q) else iN T n N 1 (eL T n q)
theorem fs_c_readSentence {d : Nat} {M : fs_M} {Q : Option fs_V → fs_M → Prop}  {N : Int → Int} (hV : vw 12 M N) (hN : fs_NI N) (hf : M 1 3 = -1) (ha : 0 ≤ M 1 2 ∧ M 1 2 ≤ M 1 1 ∧ M 1 1 ≤ 800) (hq0 : ∀ (M2 : fs_M), (∀ r, r ≠ 1 → (r < 12 ∨ 18 < r) → M2 r = M r) → (M2 1 1 = M 1 1) → (M2 1 3 = stF (M 2) (M 1 1) N (M 1 2)) → (M2 1 3 = -1 → M2 1 2 = stP (M 2) (M 1 1) N (M 1 2) ∧ vw 12 M2 (stN (M 2) (M 1 1) N (M 1 2))) → (0 ≤ M2 1 2 ∧ M2 1 2 ≤ M 1 1) → Q none M2) : fs_W (d + 5) 68 0 [some (.inr (.ref 1)), some (.inr (.ref 12))] [] M Q := by
  have eb := eL_b (M 2) (M 1 1) (M 1 2)
  have en := eb.2.1 ha.2.1
  refine fs_r_nop (L1 := [some (.inr (.ref 1)), some (.inr (.ref 12))]) (st1 := []) (M1 := (fs_up M 1 4 (M 1 2))) (ob := [1 < fs_N ∧ fs_kd 1 = 4, 1 < fs_N ∧ fs_kd 1 = 4]) rfl rfl (fs_oc fs_ob1 (fs_oc fs_ob1 trivial)) ?_
  have loop8 : ∀ (n8 : Nat)  (M3 : fs_M) (a : Int), (M 1 2 ≤ a ∧ a ≤ M 1 1) → (M3 = fs_up (fs_up M 1 4 (M 1 2)) 1 2 a) → (eL (M 2) (M 1 1) a = eL (M 2) (M 1 1) (M 1 2)) → M 1 1 - a < (n8 : Int) → fs_W (d + 5) 68 8 [some (.inr (.ref 1)), some (.inr (.ref 12))] [] M3 Q := by
    intro n8
    induction n8 with
    | zero =>
      intro M3 a i0 m3 s3 hm8
      exfalso
      omega
    | succ n8 ih8 =>
      intro M3 a i0 m3 s3 hm8
      have g1 : M3 1 1 = M 1 1 := by rw [m3, fs_up_at, if_neg (by omega), fs_up_at, if_neg (by omega)]
      have g2 : M3 1 2 = a := by rw [m3, fs_up_at, if_pos rfl]
      have g3 : M3 2 = M 2 := by rw [m3, fs_up_other (by decide), fs_up_other (by decide)]
      have g4 : M3 2 (M3 1 2) = M 2 a := by rw [g3, g2]
      have join43 : ∀  (M6 : fs_M), (M6 = fs_up (fs_up M 1 4 (M 1 2)) 1 2 (eL (M 2) (M 1 1) (M 1 2))) → fs_W (d + 5) 68 43 [some (.inr (.ref 1)), some (.inr (.ref 12))] [] M6 Q := by
        intro M6 m6
        have mw2 : (fs_up M6 1 5 (M6 1 2)) 2 = M 2 := by rw [m6, fs_up_other (by decide), fs_up_other (by decide), fs_up_other (by decide)]
        have mw11 : (fs_up M6 1 5 (M6 1 2)) 1 1 = M 1 1 := by rw [m6, fs_up_at, if_neg (by omega), fs_up_at, if_neg (by omega), fs_up_at, if_neg (by omega)]
        have mw12 : (fs_up M6 1 5 (M6 1 2)) 1 2 = eL (M 2) (M 1 1) (M 1 2) := by rw [m6, fs_up_at, if_neg (by omega), fs_up_at, if_pos rfl]
        have mw13 : (fs_up M6 1 5 (M6 1 2)) 1 3 = -1 := by rw [m6, fs_up_at, if_neg (by omega), fs_up_at, if_neg (by omega), fs_up_at, if_neg (by omega)]; exact hf
        have mw14 : (fs_up M6 1 5 (M6 1 2)) 1 4 = M 1 2 := by rw [m6, fs_up_at, if_neg (by omega), fs_up_at, if_neg (by omega), fs_up_at, if_pos rfl]
        have mw15 : (fs_up M6 1 5 (M6 1 2)) 1 5 = eL (M 2) (M 1 1) (M 1 2) := by rw [fs_up_at, if_pos rfl, m6, fs_up_at, if_pos rfl]
        have mwf : ∀ r, r ≠ 1 → (fs_up M6 1 5 (M6 1 2)) r = M r := fun r z => by rw [m6, fs_up_other z, fs_up_other z, fs_up_other z]
        have vW : vw 12 (fs_up M6 1 5 (M6 1 2)) N := hV.fr (fun r q1 q2 => mwf r (by omega))
        have ht : 0 ≤ (fs_up M6 1 5 (M6 1 2)) 1 4 ∧ (fs_up M6 1 5 (M6 1 2)) 1 4 ≤ (fs_up M6 1 5 (M6 1 2)) 1 5 ∧ (fs_up M6 1 5 (M6 1 2)) 1 5 ≤ (fs_up M6 1 5 (M6 1 2)) 1 1 ∧ (fs_up M6 1 5 (M6 1 2)) 1 1 ≤ 800 := by rw [mw14, mw15, mw11]; omega
        have wW : M 1 2 < eL (M 2) (M 1 1) (M 1 2) → wst (fs_up M6 1 5 (M6 1 2)) := fun z => by
          have x := eb.2.2.2 (eL (M 2) (M 1 1) (M 1 2) - 1) (by omega) (by omega)
          unfold wst
          rw [mw13, mw14, mw15, mw11, mw12, mw2]
          exact ⟨rfl, ⟨by omega, z, rfl⟩, ⟨en, by omega⟩, x⟩
        refine fs_r_call (sta := false) (idx := 66) (as := [.inr (.ref 1), .inr (.ref 1000)]) (rest := []) (L1 := [some (.inr (.ref 1)), some (.inr (.ref 12))]) (st1 := [.inr (.ref 1000), .inr (.ref 1)]) (M1 := (fs_up M6 1 5 (M6 1 2))) (ob := [1 < fs_N ∧ fs_kd 1 = 4, 1 < fs_N ∧ fs_kd 1 = 4]) rfl rfl rfl (fs_oc fs_ob1 (fs_oc fs_ob1 trivial)) rfl rfl (Nat.le_of_ble_eq_true rfl) ⟨Or.inr (Nat.le_of_ble_eq_true rfl), Or.inr fs_ob1⟩ (by decide) ?_
        refine fs_c_isWord0 (ht) (fun (w0 : wdP ((fs_up M6 1 5 (M6 1 2)) 2) ((fs_up M6 1 5 (M6 1 2)) 1 4) ((fs_up M6 1 5 (M6 1 2)) 1 5) 0) => ?_) (fun (w0 : ¬ (wdP ((fs_up M6 1 5 (M6 1 2)) 2) ((fs_up M6 1 5 (M6 1 2)) 1 4) ((fs_up M6 1 5 (M6 1 2)) 1 5) 0)) => ?_)
        · refine fs_r_if (a := 1) (L1 := [some (.inr (.ref 1)), some (.inr (.ref 12))]) (st1 := []) (M1 := (fs_up M6 1 5 (M6 1 2))) (ob := []) rfl rfl trivial (fun h => absurd h (by decide : ¬ ((1 : Int) = 0))) (fun _ => ?_)
          rw [mw2, mw14, mw15] at w0
          have tw : tx_w (M 2) (M 1 2) (eL (M 2) (M 1 1) (M 1 2)) = 0 := by unfold tx_w; rw [if_pos w0]
          have wn : M 1 2 < (eL (M 2) (M 1 1) (M 1 2)) := by have w := w0.1; rw [show (wdL 0).length = 5 by decide] at w; omega
          have sF : stF (M 2) (M 1 1) N (M 1 2) = aF (M 2) (M 1 1) N (M 1 2) (eL (M 2) (M 1 1) (M 1 2)) := by unfold stF; rw [if_pos tw]
          have sP : stP (M 2) (M 1 1) N (M 1 2) = aP (M 2) (M 1 1) (eL (M 2) (M 1 1) (M 1 2)) := by unfold stP; rw [if_neg (by rw [tw]; decide), if_neg (by rw [tw]; decide)]
          have sN : stN (M 2) (M 1 1) N (M 1 2) = aN (M 2) (M 1 1) N (eL (M 2) (M 1 1) (M 1 2)) := by unfold stN; rw [if_pos tw]
          refine fs_r_call (sta := false) (idx := 70) (as := [.inr (.ref 1), .inr (.ref 12)]) (rest := []) (L1 := [some (.inr (.ref 1)), some (.inr (.ref 12))]) (st1 := [.inr (.ref 12), .inr (.ref 1)]) (M1 := (fs_up M6 1 5 (M6 1 2))) (ob := []) rfl rfl rfl trivial rfl rfl (Nat.le_of_ble_eq_true rfl) ⟨Or.inr (Nat.le_of_ble_eq_true rfl), Or.inr fs_ob1⟩ (by decide) ?_
          refine fs_c_readAsset (N := N) (vW) (by assumption) (wW wn) (fun (B : fs_M) (bf : ∀ r, r ≠ 1 → (r < 12 ∨ 18 < r) → B r = (fs_up M6 1 5 (M6 1 2)) r) (bg : B 1 1 = (fs_up M6 1 5 (M6 1 2)) 1 1) (be : B 1 3 = aF ((fs_up M6 1 5 (M6 1 2)) 2) ((fs_up M6 1 5 (M6 1 2)) 1 1) N ((fs_up M6 1 5 (M6 1 2)) 1 4) ((fs_up M6 1 5 (M6 1 2)) 1 2)) (bk : B 1 3 = -1 → B 1 2 = aP ((fs_up M6 1 5 (M6 1 2)) 2) ((fs_up M6 1 5 (M6 1 2)) 1 1) ((fs_up M6 1 5 (M6 1 2)) 1 2) ∧ vw 12 B (aN ((fs_up M6 1 5 (M6 1 2)) 2) ((fs_up M6 1 5 (M6 1 2)) 1 1) N ((fs_up M6 1 5 (M6 1 2)) 1 2))) (bb : 0 ≤ B 1 2 ∧ B 1 2 ≤ (fs_up M6 1 5 (M6 1 2)) 1 1) => ?_)
          refine fs_r_goto (L1 := [some (.inr (.ref 1)), some (.inr (.ref 12))]) (st1 := []) (M1 := B) (ob := []) rfl rfl trivial ?_
          refine fs_r_ret (L1 := [some (.inr (.ref 1)), some (.inr (.ref 12))]) (M1 := B) (ob := []) rfl rfl trivial ?_
          first
            | (simp only [mw2, mw11, mw14, mw12] at be bk bg bb
               exact hq0 B (fun r q1 q2 => (bf r q1 q2).trans (mwf r q1)) bg (be.trans sF.symm) (fun z => ⟨(bk z).1.trans sP.symm, by rw [sN]; exact (bk z).2⟩) bb)
            | (have f9 : (fs_up (fs_up M6 1 5 (M6 1 2)) 1 3 (if (fs_up M6 1 5 (M6 1 2)) 1 3 = -1 then ((fs_up M6 1 5 (M6 1 2)) 1 4) else (fs_up M6 1 5 (M6 1 2)) 1 3)) 1 3 = M 1 2 := by rw [fs_up_at, if_pos rfl, if_pos mw13, mw14]
               exact hq0 _ (fun r q1 q2 => (fs_up_other q1).trans (mwf r q1)) (by rw [fs_up_at, if_neg (by omega)]; exact mw11) (f9.trans sF.symm) (fun z => absurd (f9.symm.trans z) (by omega)) (by rw [fs_up_at, if_neg (by omega)]; rw [mw12]; omega))
        refine fs_r_if (a := 0) (L1 := [some (.inr (.ref 1)), some (.inr (.ref 12))]) (st1 := []) (M1 := (fs_up M6 1 5 (M6 1 2))) (ob := []) rfl rfl trivial (fun _ => ?_) (fun h => absurd (by decide : (0 : Int) = 0) h)
        rw [mw2, mw14, mw15] at w0
        refine fs_r_call (sta := false) (idx := 66) (as := [.inr (.ref 1), .inr (.ref 1001)]) (rest := []) (L1 := [some (.inr (.ref 1)), some (.inr (.ref 12))]) (st1 := [.inr (.ref 1001), .inr (.ref 1)]) (M1 := (fs_up M6 1 5 (M6 1 2))) (ob := []) rfl rfl rfl trivial rfl rfl (Nat.le_of_ble_eq_true rfl) ⟨Or.inr (Nat.le_of_ble_eq_true rfl), Or.inr fs_ob1⟩ (by decide) ?_
        refine fs_c_isWord1 (ht) (fun (w1 : wdP ((fs_up M6 1 5 (M6 1 2)) 2) ((fs_up M6 1 5 (M6 1 2)) 1 4) ((fs_up M6 1 5 (M6 1 2)) 1 5) 1) => ?_) (fun (w1 : ¬ (wdP ((fs_up M6 1 5 (M6 1 2)) 2) ((fs_up M6 1 5 (M6 1 2)) 1 4) ((fs_up M6 1 5 (M6 1 2)) 1 5) 1)) => ?_)
        · refine fs_r_if (a := 1) (L1 := [some (.inr (.ref 1)), some (.inr (.ref 12))]) (st1 := []) (M1 := (fs_up M6 1 5 (M6 1 2))) (ob := []) rfl rfl trivial (fun h => absurd h (by decide : ¬ ((1 : Int) = 0))) (fun _ => ?_)
          rw [mw2, mw14, mw15] at w1
          have tw : tx_w (M 2) (M 1 2) (eL (M 2) (M 1 1) (M 1 2)) = 1 := by unfold tx_w; rw [if_neg w0, if_pos w1]
          have wn : M 1 2 < (eL (M 2) (M 1 1) (M 1 2)) := by have w := w1.1; rw [show (wdL 1).length = 5 by decide] at w; omega
          have sF : stF (M 2) (M 1 1) N (M 1 2) = tx_S (M 2) (M 1 1) N (M 1 2) (eL (M 2) (M 1 1) (M 1 2)) := by unfold stF; rw [if_neg (by rw [tw]; decide), if_pos tw]
          have sP : stP (M 2) (M 1 1) N (M 1 2) = tx_P (M 2) (M 1 1) N (eL (M 2) (M 1 1) (M 1 2)) := by unfold stP; rw [if_pos tw]
          have sN : stN (M 2) (M 1 1) N (M 1 2) = tx_R (M 2) (M 1 1) N (eL (M 2) (M 1 1) (M 1 2)) := by unfold stN; rw [if_neg (by rw [tw]; decide), if_pos tw]
          refine fs_r_call (sta := false) (idx := 75) (as := [.inr (.ref 1), .inr (.ref 12)]) (rest := []) (L1 := [some (.inr (.ref 1)), some (.inr (.ref 12))]) (st1 := [.inr (.ref 12), .inr (.ref 1)]) (M1 := (fs_up M6 1 5 (M6 1 2))) (ob := []) rfl rfl rfl trivial rfl rfl (Nat.le_of_ble_eq_true rfl) ⟨Or.inr (Nat.le_of_ble_eq_true rfl), Or.inr fs_ob1⟩ (by decide) ?_
          refine fs_c_readHouse (N := N) (vW) (by assumption) (wW wn) (fun (B : fs_M) (bf : ∀ r, r ≠ 1 → (r < 12 ∨ 18 < r) → B r = (fs_up M6 1 5 (M6 1 2)) r) (bg : B 1 1 = (fs_up M6 1 5 (M6 1 2)) 1 1) (be : B 1 3 = tx_S ((fs_up M6 1 5 (M6 1 2)) 2) ((fs_up M6 1 5 (M6 1 2)) 1 1) N ((fs_up M6 1 5 (M6 1 2)) 1 4) ((fs_up M6 1 5 (M6 1 2)) 1 2)) (bk : B 1 3 = -1 → B 1 2 = tx_P ((fs_up M6 1 5 (M6 1 2)) 2) ((fs_up M6 1 5 (M6 1 2)) 1 1) N ((fs_up M6 1 5 (M6 1 2)) 1 2) ∧ vw 12 B (tx_R ((fs_up M6 1 5 (M6 1 2)) 2) ((fs_up M6 1 5 (M6 1 2)) 1 1) N ((fs_up M6 1 5 (M6 1 2)) 1 2))) (bb : 0 ≤ B 1 2 ∧ B 1 2 ≤ (fs_up M6 1 5 (M6 1 2)) 1 1) => ?_)
          refine fs_r_goto (L1 := [some (.inr (.ref 1)), some (.inr (.ref 12))]) (st1 := []) (M1 := B) (ob := []) rfl rfl trivial ?_
          refine fs_r_ret (L1 := [some (.inr (.ref 1)), some (.inr (.ref 12))]) (M1 := B) (ob := []) rfl rfl trivial ?_
          first
            | (simp only [mw2, mw11, mw14, mw12] at be bk bg bb
               exact hq0 B (fun r q1 q2 => (bf r q1 q2).trans (mwf r q1)) bg (be.trans sF.symm) (fun z => ⟨(bk z).1.trans sP.symm, by rw [sN]; exact (bk z).2⟩) bb)
            | (have f9 : (fs_up (fs_up M6 1 5 (M6 1 2)) 1 3 (if (fs_up M6 1 5 (M6 1 2)) 1 3 = -1 then ((fs_up M6 1 5 (M6 1 2)) 1 4) else (fs_up M6 1 5 (M6 1 2)) 1 3)) 1 3 = M 1 2 := by rw [fs_up_at, if_pos rfl, if_pos mw13, mw14]
               exact hq0 _ (fun r q1 q2 => (fs_up_other q1).trans (mwf r q1)) (by rw [fs_up_at, if_neg (by omega)]; exact mw11) (f9.trans sF.symm) (fun z => absurd (f9.symm.trans z) (by omega)) (by rw [fs_up_at, if_neg (by omega)]; rw [mw12]; omega))
        refine fs_r_if (a := 0) (L1 := [some (.inr (.ref 1)), some (.inr (.ref 12))]) (st1 := []) (M1 := (fs_up M6 1 5 (M6 1 2))) (ob := []) rfl rfl trivial (fun _ => ?_) (fun h => absurd (by decide : (0 : Int) = 0) h)
        rw [mw2, mw14, mw15] at w1
        refine fs_r_call (sta := false) (idx := 66) (as := [.inr (.ref 1), .inr (.ref 1002)]) (rest := []) (L1 := [some (.inr (.ref 1)), some (.inr (.ref 12))]) (st1 := [.inr (.ref 1002), .inr (.ref 1)]) (M1 := (fs_up M6 1 5 (M6 1 2))) (ob := []) rfl rfl rfl trivial rfl rfl (Nat.le_of_ble_eq_true rfl) ⟨Or.inr (Nat.le_of_ble_eq_true rfl), Or.inr fs_ob1⟩ (by decide) ?_
        refine fs_c_isWord2 (ht) (fun (w2 : wdP ((fs_up M6 1 5 (M6 1 2)) 2) ((fs_up M6 1 5 (M6 1 2)) 1 4) ((fs_up M6 1 5 (M6 1 2)) 1 5) 2) => ?_) (fun (w2 : ¬ (wdP ((fs_up M6 1 5 (M6 1 2)) 2) ((fs_up M6 1 5 (M6 1 2)) 1 4) ((fs_up M6 1 5 (M6 1 2)) 1 5) 2)) => ?_)
        · refine fs_r_if (a := 1) (L1 := [some (.inr (.ref 1)), some (.inr (.ref 12))]) (st1 := []) (M1 := (fs_up M6 1 5 (M6 1 2))) (ob := []) rfl rfl trivial (fun h => absurd h (by decide : ¬ ((1 : Int) = 0))) (fun _ => ?_)
          rw [mw2, mw14, mw15] at w2
          have tw : tx_w (M 2) (M 1 2) (eL (M 2) (M 1 1) (M 1 2)) = 2 := by unfold tx_w; rw [if_neg w0, if_neg w1, if_pos w2]
          have wn : M 1 2 < (eL (M 2) (M 1 1) (M 1 2)) := by have w := w2.1; rw [show (wdL 2).length = 4 by decide] at w; omega
          have sF : stF (M 2) (M 1 1) N (M 1 2) = jF (M 2) (M 1 1) N (eL (M 2) (M 1 1) (M 1 2)) := by unfold stF; rw [if_neg (by rw [tw]; decide), if_neg (by rw [tw]; decide), if_pos tw]
          have sP : stP (M 2) (M 1 1) N (M 1 2) = jP (M 2) (M 1 1) (eL (M 2) (M 1 1) (M 1 2)) := by unfold stP; rw [if_neg (by rw [tw]; decide), if_pos tw]
          have sN : stN (M 2) (M 1 1) N (M 1 2) = jN (M 2) (M 1 1) N (eL (M 2) (M 1 1) (M 1 2)) := by unfold stN; rw [if_neg (by rw [tw]; decide), if_neg (by rw [tw]; decide), if_pos tw]
          refine fs_r_call (sta := false) (idx := 80) (as := [.inr (.ref 1), .inr (.ref 12)]) (rest := []) (L1 := [some (.inr (.ref 1)), some (.inr (.ref 12))]) (st1 := [.inr (.ref 12), .inr (.ref 1)]) (M1 := (fs_up M6 1 5 (M6 1 2))) (ob := []) rfl rfl rfl trivial rfl rfl (Nat.le_of_ble_eq_true rfl) ⟨Or.inr (Nat.le_of_ble_eq_true rfl), Or.inr fs_ob1⟩ (by decide) ?_
          refine fs_c_readLoan (N := N) (vW) (by assumption) (wW wn) (fun (B : fs_M) (bf : ∀ r, r ≠ 1 → (r < 12 ∨ 18 < r) → B r = (fs_up M6 1 5 (M6 1 2)) r) (bg : B 1 1 = (fs_up M6 1 5 (M6 1 2)) 1 1) (be : B 1 3 = jF ((fs_up M6 1 5 (M6 1 2)) 2) ((fs_up M6 1 5 (M6 1 2)) 1 1) N ((fs_up M6 1 5 (M6 1 2)) 1 2)) (bk : B 1 3 = -1 → B 1 2 = jP ((fs_up M6 1 5 (M6 1 2)) 2) ((fs_up M6 1 5 (M6 1 2)) 1 1) ((fs_up M6 1 5 (M6 1 2)) 1 2) ∧ vw 12 B (jN ((fs_up M6 1 5 (M6 1 2)) 2) ((fs_up M6 1 5 (M6 1 2)) 1 1) N ((fs_up M6 1 5 (M6 1 2)) 1 2))) (bb : 0 ≤ B 1 2 ∧ B 1 2 ≤ (fs_up M6 1 5 (M6 1 2)) 1 1) => ?_)
          refine fs_r_goto (L1 := [some (.inr (.ref 1)), some (.inr (.ref 12))]) (st1 := []) (M1 := B) (ob := []) rfl rfl trivial ?_
          refine fs_r_ret (L1 := [some (.inr (.ref 1)), some (.inr (.ref 12))]) (M1 := B) (ob := []) rfl rfl trivial ?_
          first
            | (simp only [mw2, mw11, mw14, mw12] at be bk bg bb
               exact hq0 B (fun r q1 q2 => (bf r q1 q2).trans (mwf r q1)) bg (be.trans sF.symm) (fun z => ⟨(bk z).1.trans sP.symm, by rw [sN]; exact (bk z).2⟩) bb)
            | (have f9 : (fs_up (fs_up M6 1 5 (M6 1 2)) 1 3 (if (fs_up M6 1 5 (M6 1 2)) 1 3 = -1 then ((fs_up M6 1 5 (M6 1 2)) 1 4) else (fs_up M6 1 5 (M6 1 2)) 1 3)) 1 3 = M 1 2 := by rw [fs_up_at, if_pos rfl, if_pos mw13, mw14]
               exact hq0 _ (fun r q1 q2 => (fs_up_other q1).trans (mwf r q1)) (by rw [fs_up_at, if_neg (by omega)]; exact mw11) (f9.trans sF.symm) (fun z => absurd (f9.symm.trans z) (by omega)) (by rw [fs_up_at, if_neg (by omega)]; rw [mw12]; omega))
        refine fs_r_if (a := 0) (L1 := [some (.inr (.ref 1)), some (.inr (.ref 12))]) (st1 := []) (M1 := (fs_up M6 1 5 (M6 1 2))) (ob := []) rfl rfl trivial (fun _ => ?_) (fun h => absurd (by decide : (0 : Int) = 0) h)
        rw [mw2, mw14, mw15] at w2
        refine fs_r_call (sta := false) (idx := 66) (as := [.inr (.ref 1), .inr (.ref 1003)]) (rest := []) (L1 := [some (.inr (.ref 1)), some (.inr (.ref 12))]) (st1 := [.inr (.ref 1003), .inr (.ref 1)]) (M1 := (fs_up M6 1 5 (M6 1 2))) (ob := []) rfl rfl rfl trivial rfl rfl (Nat.le_of_ble_eq_true rfl) ⟨Or.inr (Nat.le_of_ble_eq_true rfl), Or.inr fs_ob1⟩ (by decide) ?_
        refine fs_c_isWord3 (ht) (fun (w3 : wdP ((fs_up M6 1 5 (M6 1 2)) 2) ((fs_up M6 1 5 (M6 1 2)) 1 4) ((fs_up M6 1 5 (M6 1 2)) 1 5) 3) => ?_) (fun (w3 : ¬ (wdP ((fs_up M6 1 5 (M6 1 2)) 2) ((fs_up M6 1 5 (M6 1 2)) 1 4) ((fs_up M6 1 5 (M6 1 2)) 1 5) 3)) => ?_)
        · refine fs_r_if (a := 1) (L1 := [some (.inr (.ref 1)), some (.inr (.ref 12))]) (st1 := []) (M1 := (fs_up M6 1 5 (M6 1 2))) (ob := []) rfl rfl trivial (fun h => absurd h (by decide : ¬ ((1 : Int) = 0))) (fun _ => ?_)
          rw [mw2, mw14, mw15] at w3
          have tw : tx_w (M 2) (M 1 2) (eL (M 2) (M 1 1) (M 1 2)) = 3 := by unfold tx_w; rw [if_neg w0, if_neg w1, if_neg w2, if_pos w3]
          have wn : M 1 2 < (eL (M 2) (M 1 1) (M 1 2)) := by have w := w3.1; rw [show (wdL 3).length = 3 by decide] at w; omega
          have sF : stF (M 2) (M 1 1) N (M 1 2) = iF (M 2) (M 1 1) N 0 (M 1 2) (eL (M 2) (M 1 1) (M 1 2)) := by unfold stF; rw [if_neg (by rw [tw]; decide), if_neg (by rw [tw]; decide), if_neg (by rw [tw]; decide), if_pos tw]
          have sP : stP (M 2) (M 1 1) N (M 1 2) = aP (M 2) (M 1 1) (eL (M 2) (M 1 1) (M 1 2)) := by unfold stP; rw [if_neg (by rw [tw]; decide), if_neg (by rw [tw]; decide)]
          have sN : stN (M 2) (M 1 1) N (M 1 2) = iN (M 2) (M 1 1) N 0 (eL (M 2) (M 1 1) (M 1 2)) := by unfold stN; rw [if_neg (by rw [tw]; decide), if_neg (by rw [tw]; decide), if_neg (by rw [tw]; decide), if_pos tw]
          refine fs_r_call (sta := false) (idx := 85) (as := [.inr (.ref 1), .inr (.ref 12), .inl 0]) (rest := []) (L1 := [some (.inr (.ref 1)), some (.inr (.ref 12))]) (st1 := [.inl 0, .inr (.ref 12), .inr (.ref 1)]) (M1 := (fs_up M6 1 5 (M6 1 2))) (ob := []) rfl rfl rfl trivial rfl rfl (Nat.le_of_ble_eq_true rfl) ⟨Or.inr (Nat.le_of_ble_eq_true rfl), Or.inr fs_ob1⟩ (by decide) ?_
          refine fs_c_readItem0 (N := N) (vW) (by assumption) (wW wn) (fun (B : fs_M) (bf : ∀ r, r ≠ 1 → (r < 12 ∨ 18 < r) → B r = (fs_up M6 1 5 (M6 1 2)) r) (bg : B 1 1 = (fs_up M6 1 5 (M6 1 2)) 1 1) (be : B 1 3 = iF ((fs_up M6 1 5 (M6 1 2)) 2) ((fs_up M6 1 5 (M6 1 2)) 1 1) N 0 ((fs_up M6 1 5 (M6 1 2)) 1 4) ((fs_up M6 1 5 (M6 1 2)) 1 2)) (bk : B 1 3 = -1 → B 1 2 = aP ((fs_up M6 1 5 (M6 1 2)) 2) ((fs_up M6 1 5 (M6 1 2)) 1 1) ((fs_up M6 1 5 (M6 1 2)) 1 2) ∧ vw 12 B (iN ((fs_up M6 1 5 (M6 1 2)) 2) ((fs_up M6 1 5 (M6 1 2)) 1 1) N 0 ((fs_up M6 1 5 (M6 1 2)) 1 2))) (bb : 0 ≤ B 1 2 ∧ B 1 2 ≤ (fs_up M6 1 5 (M6 1 2)) 1 1) => ?_)
          refine fs_r_goto (L1 := [some (.inr (.ref 1)), some (.inr (.ref 12))]) (st1 := []) (M1 := B) (ob := []) rfl rfl trivial ?_
          refine fs_r_ret (L1 := [some (.inr (.ref 1)), some (.inr (.ref 12))]) (M1 := B) (ob := []) rfl rfl trivial ?_
          first
            | (simp only [mw2, mw11, mw14, mw12] at be bk bg bb
               exact hq0 B (fun r q1 q2 => (bf r q1 q2).trans (mwf r q1)) bg (be.trans sF.symm) (fun z => ⟨(bk z).1.trans sP.symm, by rw [sN]; exact (bk z).2⟩) bb)
            | (have f9 : (fs_up (fs_up M6 1 5 (M6 1 2)) 1 3 (if (fs_up M6 1 5 (M6 1 2)) 1 3 = -1 then ((fs_up M6 1 5 (M6 1 2)) 1 4) else (fs_up M6 1 5 (M6 1 2)) 1 3)) 1 3 = M 1 2 := by rw [fs_up_at, if_pos rfl, if_pos mw13, mw14]
               exact hq0 _ (fun r q1 q2 => (fs_up_other q1).trans (mwf r q1)) (by rw [fs_up_at, if_neg (by omega)]; exact mw11) (f9.trans sF.symm) (fun z => absurd (f9.symm.trans z) (by omega)) (by rw [fs_up_at, if_neg (by omega)]; rw [mw12]; omega))
        refine fs_r_if (a := 0) (L1 := [some (.inr (.ref 1)), some (.inr (.ref 12))]) (st1 := []) (M1 := (fs_up M6 1 5 (M6 1 2))) (ob := []) rfl rfl trivial (fun _ => ?_) (fun h => absurd (by decide : (0 : Int) = 0) h)
        rw [mw2, mw14, mw15] at w3
        refine fs_r_call (sta := false) (idx := 66) (as := [.inr (.ref 1), .inr (.ref 1004)]) (rest := []) (L1 := [some (.inr (.ref 1)), some (.inr (.ref 12))]) (st1 := [.inr (.ref 1004), .inr (.ref 1)]) (M1 := (fs_up M6 1 5 (M6 1 2))) (ob := []) rfl rfl rfl trivial rfl rfl (Nat.le_of_ble_eq_true rfl) ⟨Or.inr (Nat.le_of_ble_eq_true rfl), Or.inr fs_ob1⟩ (by decide) ?_
        refine fs_c_isWord4 (ht) (fun (w4 : wdP ((fs_up M6 1 5 (M6 1 2)) 2) ((fs_up M6 1 5 (M6 1 2)) 1 4) ((fs_up M6 1 5 (M6 1 2)) 1 5) 4) => ?_) (fun (w4 : ¬ (wdP ((fs_up M6 1 5 (M6 1 2)) 2) ((fs_up M6 1 5 (M6 1 2)) 1 4) ((fs_up M6 1 5 (M6 1 2)) 1 5) 4)) => ?_)
        · refine fs_r_if (a := 1) (L1 := [some (.inr (.ref 1)), some (.inr (.ref 12))]) (st1 := []) (M1 := (fs_up M6 1 5 (M6 1 2))) (ob := []) rfl rfl trivial (fun h => absurd h (by decide : ¬ ((1 : Int) = 0))) (fun _ => ?_)
          rw [mw2, mw14, mw15] at w4
          have tw : tx_w (M 2) (M 1 2) (eL (M 2) (M 1 1) (M 1 2)) = 4 := by unfold tx_w; rw [if_neg w0, if_neg w1, if_neg w2, if_neg w3, if_pos w4]
          have wn : M 1 2 < (eL (M 2) (M 1 1) (M 1 2)) := by have w := w4.1; rw [show (wdL 4).length = 5 by decide] at w; omega
          have sF : stF (M 2) (M 1 1) N (M 1 2) = iF (M 2) (M 1 1) N 1 (M 1 2) (eL (M 2) (M 1 1) (M 1 2)) := by unfold stF; rw [if_neg (by rw [tw]; decide), if_neg (by rw [tw]; decide), if_neg (by rw [tw]; decide), if_neg (by rw [tw]; decide), if_pos tw]
          have sP : stP (M 2) (M 1 1) N (M 1 2) = aP (M 2) (M 1 1) (eL (M 2) (M 1 1) (M 1 2)) := by unfold stP; rw [if_neg (by rw [tw]; decide), if_neg (by rw [tw]; decide)]
          have sN : stN (M 2) (M 1 1) N (M 1 2) = iN (M 2) (M 1 1) N 1 (eL (M 2) (M 1 1) (M 1 2)) := by unfold stN; rw [if_neg (by rw [tw]; decide), if_neg (by rw [tw]; decide), if_neg (by rw [tw]; decide), if_neg (by rw [tw]; decide)]
          refine fs_r_call (sta := false) (idx := 85) (as := [.inr (.ref 1), .inr (.ref 12), .inl 1]) (rest := []) (L1 := [some (.inr (.ref 1)), some (.inr (.ref 12))]) (st1 := [.inl 1, .inr (.ref 12), .inr (.ref 1)]) (M1 := (fs_up M6 1 5 (M6 1 2))) (ob := []) rfl rfl rfl trivial rfl rfl (Nat.le_of_ble_eq_true rfl) ⟨Or.inr (Nat.le_of_ble_eq_true rfl), Or.inr fs_ob1⟩ (by decide) ?_
          refine fs_c_readItem1 (N := N) (vW) (by assumption) (wW wn) (fun (B : fs_M) (bf : ∀ r, r ≠ 1 → (r < 12 ∨ 18 < r) → B r = (fs_up M6 1 5 (M6 1 2)) r) (bg : B 1 1 = (fs_up M6 1 5 (M6 1 2)) 1 1) (be : B 1 3 = iF ((fs_up M6 1 5 (M6 1 2)) 2) ((fs_up M6 1 5 (M6 1 2)) 1 1) N 1 ((fs_up M6 1 5 (M6 1 2)) 1 4) ((fs_up M6 1 5 (M6 1 2)) 1 2)) (bk : B 1 3 = -1 → B 1 2 = aP ((fs_up M6 1 5 (M6 1 2)) 2) ((fs_up M6 1 5 (M6 1 2)) 1 1) ((fs_up M6 1 5 (M6 1 2)) 1 2) ∧ vw 12 B (iN ((fs_up M6 1 5 (M6 1 2)) 2) ((fs_up M6 1 5 (M6 1 2)) 1 1) N 1 ((fs_up M6 1 5 (M6 1 2)) 1 2))) (bb : 0 ≤ B 1 2 ∧ B 1 2 ≤ (fs_up M6 1 5 (M6 1 2)) 1 1) => ?_)
          refine fs_r_goto (L1 := [some (.inr (.ref 1)), some (.inr (.ref 12))]) (st1 := []) (M1 := B) (ob := []) rfl rfl trivial ?_
          refine fs_r_ret (L1 := [some (.inr (.ref 1)), some (.inr (.ref 12))]) (M1 := B) (ob := []) rfl rfl trivial ?_
          first
            | (simp only [mw2, mw11, mw14, mw12] at be bk bg bb
               exact hq0 B (fun r q1 q2 => (bf r q1 q2).trans (mwf r q1)) bg (be.trans sF.symm) (fun z => ⟨(bk z).1.trans sP.symm, by rw [sN]; exact (bk z).2⟩) bb)
            | (have f9 : (fs_up (fs_up M6 1 5 (M6 1 2)) 1 3 (if (fs_up M6 1 5 (M6 1 2)) 1 3 = -1 then ((fs_up M6 1 5 (M6 1 2)) 1 4) else (fs_up M6 1 5 (M6 1 2)) 1 3)) 1 3 = M 1 2 := by rw [fs_up_at, if_pos rfl, if_pos mw13, mw14]
               exact hq0 _ (fun r q1 q2 => (fs_up_other q1).trans (mwf r q1)) (by rw [fs_up_at, if_neg (by omega)]; exact mw11) (f9.trans sF.symm) (fun z => absurd (f9.symm.trans z) (by omega)) (by rw [fs_up_at, if_neg (by omega)]; rw [mw12]; omega))
        refine fs_r_if (a := 0) (L1 := [some (.inr (.ref 1)), some (.inr (.ref 12))]) (st1 := []) (M1 := (fs_up M6 1 5 (M6 1 2))) (ob := []) rfl rfl trivial (fun _ => ?_) (fun h => absurd (by decide : (0 : Int) = 0) h)
        rw [mw2, mw14, mw15] at w4
        have tw : tx_w (M 2) (M 1 2) (eL (M 2) (M 1 1) (M 1 2)) = 5 := by unfold tx_w; rw [if_neg w0, if_neg w1, if_neg w2, if_neg w3, if_neg w4]
        have sF : stF (M 2) (M 1 1) N (M 1 2) = M 1 2 := by unfold stF; rw [if_neg (by rw [tw]; decide), if_neg (by rw [tw]; decide), if_neg (by rw [tw]; decide), if_neg (by rw [tw]; decide), if_neg (by rw [tw]; decide)]
        refine fs_r_call (sta := false) (idx := 91) (as := [.inr (.ref 1), .inl (M6 1 4)]) (rest := []) (L1 := [some (.inr (.ref 1)), some (.inr (.ref 12))]) (st1 := [.inl (M6 1 4), .inr (.ref 1)]) (M1 := (fs_up M6 1 5 (M6 1 2))) (ob := [1 < fs_N ∧ fs_kd 1 = 4]) rfl rfl rfl (fs_oc fs_ob1 trivial) rfl rfl (Nat.le_of_ble_eq_true rfl) ⟨Or.inr (Nat.le_of_ble_eq_true rfl), Or.inr fs_ob1⟩ (by decide) ?_
        refine fs_c_failAt ?_
        refine fs_r_ret (L1 := [some (.inr (.ref 1)), some (.inr (.ref 12))]) (M1 := (fs_up (fs_up M6 1 5 (M6 1 2)) 1 3 (if (fs_up M6 1 5 (M6 1 2)) 1 3 = -1 then (M6 1 4) else (fs_up M6 1 5 (M6 1 2)) 1 3))) (ob := []) rfl rfl trivial ?_
        first
          | (simp only [mw2, mw11, mw14, mw12] at be bk bg bb
             exact hq0 B (fun r q1 q2 => (bf r q1 q2).trans (mwf r q1)) bg (be.trans sF.symm) (fun z => ⟨(bk z).1.trans sP.symm, by rw [sN]; exact (bk z).2⟩) bb)
          | (have f9 : (fs_up (fs_up M6 1 5 (M6 1 2)) 1 3 (if (fs_up M6 1 5 (M6 1 2)) 1 3 = -1 then ((fs_up M6 1 5 (M6 1 2)) 1 4) else (fs_up M6 1 5 (M6 1 2)) 1 3)) 1 3 = M 1 2 := by rw [fs_up_at, if_pos rfl, if_pos mw13, mw14]
             exact hq0 _ (fun r q1 q2 => (fs_up_other q1).trans (mwf r q1)) (by rw [fs_up_at, if_neg (by omega)]; exact mw11) (f9.trans sF.symm) (fun z => absurd (f9.symm.trans z) (by omega)) (by rw [fs_up_at, if_neg (by omega)]; rw [mw12]; omega))
      refine fs_r_icmp (a := (M3 1 2)) (y := (M3 1 1)) (L1 := [some (.inr (.ref 1)), some (.inr (.ref 12))]) (st1 := []) (M1 := M3) (ob := [1 < fs_N ∧ fs_kd 1 = 4, 1 < fs_N ∧ fs_kd 1 = 4]) rfl rfl (fs_oc fs_ob1 (fs_oc fs_ob1 trivial)) (fun (h1 : (M3 1 1) ≤ (M3 1 2)) => ?_) (fun (h1 : ¬ ((M3 1 1) ≤ (M3 1 2))) => ?_)
      · exact join43 M3 (by { have nl : ¬ xL (M 2) (M 1 1) a := (fun z => by first | omega | (apply dl; rw [g1, g2, g3]; exact ⟨by omega, z⟩)); exact m3.trans (by rw [← s3]; congr 1; exact (skp_z nl).symm) })
      refine fs_r_call (sta := false) (idx := 60) (as := [.inr (.ref 1), .inl (M3 1 2)]) (rest := []) (L1 := [some (.inr (.ref 1)), some (.inr (.ref 12))]) (st1 := [.inl (M3 1 2), .inr (.ref 1)]) (M1 := M3) (ob := [1 < fs_N ∧ fs_kd 1 = 4]) rfl rfl rfl (fs_oc fs_ob1 trivial) rfl rfl (Nat.le_of_ble_eq_true rfl) ⟨Or.inr (Nat.le_of_ble_eq_true rfl), Or.inr fs_ob1⟩ (by decide) ?_
      refine fs_c_isLetterAt (by omega) (fun (dl : 0 ≤ (M3 1 2) ∧ xL (M3 2) (M3 1 1) (M3 1 2)) => ?_) (fun (dl : ¬ (0 ≤ (M3 1 2) ∧ xL (M3 2) (M3 1 1) (M3 1 2))) => ?_)
      · refine fs_r_if (a := 1) (L1 := [some (.inr (.ref 1)), some (.inr (.ref 12))]) (st1 := []) (M1 := M3) (ob := []) rfl rfl trivial (fun h => absurd h (by decide : ¬ ((1 : Int) = 0))) (fun _ => ?_)
        have xl : xL (M 2) (M 1 1) a := by { have w := dl.2; rw [g1, g2, g3] at w; exact w }
        refine fs_r_goto (L1 := [some (.inr (.ref 1)), some (.inr (.ref 12))]) (st1 := []) (M1 := (fs_up M3 1 2 ((M3 1 2) + 1))) (ob := [1 < fs_N ∧ fs_kd 1 = 4, fs_rg ((M3 1 2) + 1), 1 < fs_N ∧ fs_kd 1 = 4]) rfl rfl (fs_oc fs_ob1 (fs_oc ⟨by omega, by omega⟩ (fs_oc fs_ob1 trivial))) ?_
        exact ih8 (fs_up M3 1 2 ((M3 1 2) + 1)) ((a + 1)) (by omega) (by rw [g2, m3, fs_up_up]) (by rw [← s3]; exact (skp_s (P := xL (M 2) (M 1 1)) xl (by omega)).symm) (by omega)
      refine fs_r_if (a := 0) (L1 := [some (.inr (.ref 1)), some (.inr (.ref 12))]) (st1 := []) (M1 := M3) (ob := []) rfl rfl trivial (fun _ => ?_) (fun h => absurd (by decide : (0 : Int) = 0) h)
      exact join43 M3 (by { have nl : ¬ xL (M 2) (M 1 1) a := (fun z => by first | omega | (apply dl; rw [g1, g2, g3]; exact ⟨by omega, z⟩)); exact m3.trans (by rw [← s3]; congr 1; exact (skp_z nl).symm) })
  exact loop8 (((M 1 1 - ((M 1 2))) : Int) + 1).toNat (fs_up M 1 4 (M 1 2)) ((M 1 2)) (by omega) ((fs_up_id (by rw [fs_up_at, if_neg (by omega)])).symm) (rfl) (by omega)
