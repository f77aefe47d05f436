theorem fs_m_readLine {d : Nat} {M : fs_M} {Q : Option fs_V → fs_M → Prop}  {p : Int} (hI : fs_NI (M 125)) (hz : M 124 12 = -1) (hT : TK M p) (hp : (0 ≤ p ∧ p ≤ M 124 7) ∧ M 124 7 ≤ 800) (h0 : M 124 9 ≠ 0) (hq0 : ∀ (M2 : fs_M), (sk5 M M2) → (M2 124 12 ≠ -1 → (stF (M 128) (M 124 7) (M 125) (M 124 10)) ≠ -1 ∧ M2 124 12 = (stF (M 128) (M 124 7) (M 125) (M 124 10))) → (M2 124 12 = -1 → (stF (M 128) (M 124 7) (M 125) (M 124 10)) = -1 ∧ TK M2 (stP (M 128) (M 124 7) (M 125) (M 124 10)) ∧ M2 125 = (stN (M 128) (M 124 7) (M 125) (M 124 10))) → Q none M2) : fs_W (d + 5) 183 0 [some (.inr (.ref 124))] [] M Q := by
  have qb := qB_b (M 128) (M 124 7) p
  have qn := qb.2.1 hp.1.2
  have r10 := hT.2.1
  have eb := eL_b (M 128) (M 124 7) (M 124 10)
  have en := eb.2.1 (by omega)
  have hat : (M 124 10 ≤ M 124 8 ∧ M 124 8 ≤ M 124 7) ∧ (M 124 9 = 1 → M 124 8 = eL (M 128) (M 124 7) (M 124 10)) ∧ (xL (M 128) (M 124 7) (M 124 10) → M 124 9 = 1) := by
    have nb := nE_b (T := M 128) (n := M 124 7) hp.1
    have db := eD_b (M 128) (M 124 7) (qB (M 128) (M 124 7) p)
    have de : nE (M 128) (M 124 7) p = eD (M 128) (M 124 7) (qB (M 128) (M 124 7) p) := rfl
    rw [r10] at eb en ⊢
    rcases hT.2.2 with ⟨c, d, e⟩ | ⟨c, d, e⟩ | ⟨c, d, e, _⟩ | ⟨c, d1, d2, d3, d4, d5⟩
    · omega
    · exact ⟨by omega, fun _ => e, fun _ => c⟩
    · exact ⟨by omega, fun y => by omega, fun y => by omega⟩
    · exact ⟨by omega, fun y => by omega, fun y => absurd y d2⟩
  obtain ⟨hat1, hat2, hat3⟩ := hat
  have hl : M 124 9 = 1 → ∀ k, M 124 10 ≤ k → k < M 124 8 → 97 ≤ M 128 k ∧ M 128 k ≤ 122 := fun z k k0 k1 => by
    rw [hat2 z] at k1
    exact (eb.2.2.2 k k0 k1).2
  have key : ∀ i, i < 5 → (wdP (M 128) (M 124 10) (eL (M 128) (M 124 7) (M 124 10)) i ↔ M 124 9 = 1 ∧ wdP (M 128) (M 124 10) (M 124 8) i) := fun i hi => by
    constructor
    · intro w
      have l := wd_len hi w
      have t := hat3 (eb.2.2.2 (M 124 10) (by omega) (by omega))
      exact ⟨t, by rw [hat2 t]; exact w⟩
    · rintro ⟨t, w⟩
      rw [← hat2 t]
      exact w
  have e1 := nE_b (T := M 128) (n := M 124 7) (p := M 124 8) ⟨by omega, by omega⟩
  have e2 := nE_b (T := M 128) (n := M 124 7) (p := nE (M 128) (M 124 7) (M 124 8)) ⟨by omega, e1.2.1⟩
  have e3 := nE_b (T := M 128) (n := M 124 7) (p := nE (M 128) (M 124 7) (nE (M 128) (M 124 7) (M 124 8))) ⟨by omega, e2.2.1⟩
  have join95 : ∀  (B : fs_M), (sk5 M B) → ((B 124 12 ≠ -1 ∧ (stF (M 128) (M 124 7) (M 125) (M 124 10)) ≠ -1 ∧ B 124 12 = (stF (M 128) (M 124 7) (M 125) (M 124 10))) ∨ (∃ P F, (TS B P F ∨ (B 124 12 ≠ -1 ∧ B 124 12 = eF (M 128) (M 124 7) F P)) ∧ eF (M 128) (M 124 7) F P = (stF (M 128) (M 124 7) (M 125) (M 124 10)) ∧ qB (M 128) (M 124 7) P + 1 = (stP (M 128) (M 124 7) (M 125) (M 124 10)) ∧ (B 124 12 = -1 → B 125 = (stN (M 128) (M 124 7) (M 125) (M 124 10))) ∧ 0 ≤ P)) → fs_W (d + 5) 183 95 [some (.inr (.ref 124))] [] B Q := by
    intro B k5 f5
    have tB : B 128 = M 128 := k5.1 128 (by decide) (by decide)
    have nB : B 124 7 = M 124 7 := k5.2 7 (by omega)
    have bad : B 124 12 ≠ -1 → (stF (M 128) (M 124 7) (M 125) (M 124 10)) ≠ -1 ∧ B 124 12 = (stF (M 128) (M 124 7) (M 125) (M 124 10)) := fun z => by
      rcases f5 with ⟨a, b, c⟩ | ⟨P, F, t, sF, sP, sN, p0⟩
      · exact ⟨b, c⟩
      · have w : B 124 12 = eF (M 128) (M 124 7) F P := by
          rcases t with t | t
          · have w := TS_end t z
            rw [tB, nB] at w
            exact w
          · exact t.2
        exact ⟨by rw [← sF, ← w]; exact z, by rw [← sF]; exact w⟩
    have good : B 124 12 = -1 → B 124 9 = 3 → B 124 11 = 59 → ((stF (M 128) (M 124 7) (M 125) (M 124 10)) = -1 ∧ B 124 8 = (stP (M 128) (M 124 7) (M 125) (M 124 10)) ∧ B 125 = (stN (M 128) (M 124 7) (M 125) (M 124 10))) ∧ (1 ≤ B 124 8 ∧ B 124 8 ≤ M 124 7) ∧ M 128 (B 124 8 - 1) = 59 := fun z t v => by
      rcases f5 with ⟨a, b, c⟩ | ⟨P, F, t2, sF, sP, sN, p0⟩
      · exact absurd z a
      · rcases t2 with t2 | t2
        · have w := TS_ok t2 z t v
          rw [tB, nB] at w
          have q := (qB_b (M 128) (M 124 7) P).1
          refine ⟨⟨by rw [← sF]; exact w.1, by rw [← sP]; exact w.2.1, sN z⟩, by omega, ?_⟩
          rw [w.2.1, show qB (M 128) (M 124 7) P + 1 - 1 = qB (M 128) (M 124 7) P by omega]
          exact w.2.2.2
        · exact absurd z t2.1
    have none_ : B 124 12 = -1 → ¬ (B 124 9 = 3 ∧ B 124 11 = 59) → (stF (M 128) (M 124 7) (M 125) (M 124 10)) ≠ -1 ∧ B 124 10 = (stF (M 128) (M 124 7) (M 125) (M 124 10)) := fun z t => by
      rcases f5 with ⟨a, b, c⟩ | ⟨P, F, t2, sF, sP, sN, p0⟩
      · exact absurd z a
      · rcases t2 with t2 | t2
        · have w := TS_no t2 z t
          rw [tB, nB, sF] at w
          have q := (qB_b (M 128) (M 124 7) P).1
          have r := (t2.fz z).2.2.1
          rw [tB, nB] at r
          exact ⟨by omega, w.symm⟩
        · exact absurd z t2.1
    have join128 : ∀  (D : fs_M), (sk5 M D) → ((D 124 12 ≠ -1 ∧ (stF (M 128) (M 124 7) (M 125) (M 124 10)) ≠ -1 ∧ D 124 12 = (stF (M 128) (M 124 7) (M 125) (M 124 10))) ∨ (D 124 12 = -1 ∧ ((stF (M 128) (M 124 7) (M 125) (M 124 10)) = -1 ∧ D 124 8 = (stP (M 128) (M 124 7) (M 125) (M 124 10)) ∧ D 125 = (stN (M 128) (M 124 7) (M 125) (M 124 10))) ∧ (1 ≤ D 124 8 ∧ D 124 8 ≤ M 124 7) ∧ M 128 (D 124 8 - 1) = 59)) → fs_W (d + 5) 183 128 [some (.inr (.ref 124))] [] D Q := by
      intro D k6 d6
      refine fs_r_icmp (a := (D 124 12)) (y := (-1)) (L1 := [some (.inr (.ref 124))]) (st1 := []) (M1 := D) (ob := [124 < fs_N ∧ fs_kd 124 = 6]) rfl rfl (fs_oc fs_ob124 trivial) (fun (h1 : ¬ (D 124 12) = (-1)) => ?_) (fun (h1 : ¬ (¬ (D 124 12) = (-1))) => ?_)
      · refine fs_r_ret (L1 := [some (.inr (.ref 124))]) (M1 := D) (ob := []) rfl rfl trivial ?_
        rcases d6 with ⟨y1, y2, y3⟩ | ⟨y1, ⟨y2, y3, y4⟩, y5, y6⟩
        · first
            | exact hq0 _ k6 (fun _ => ⟨y2, y3⟩) (fun z => absurd z y1)
            | (exfalso; omega)
        · first
            | (exfalso; omega)
            | (have tD : D 128 = M 128 := k6.1 128 (by decide) (by decide)
               have nD : D 124 7 = M 124 7 := k6.2 7 (by omega)
               have tE : E 128 = M 128 := (es.1 128 (by decide)).trans tD
               have nE9 : E 124 7 = M 124 7 := (es.2 7 (by omega)).trans nD
               have eT : TK E (D 124 8) := by
                 rcases et with ⟨a, _⟩ | ⟨_, b⟩
                 · exact absurd y1 a
                 · exact b
               have e12 : E 124 12 = -1 := by
                 have w := eT.1
                 rw [tE, nE9] at w
                 rw [if_neg (fun g => by
                   rcases g.2.2.2 with x | x
                   · omega
                   · omega)] at w
                 exact w
               exact hq0 _ (k6.tr (sk5.of es)) (fun z => absurd e12 z) (fun _ => ⟨y2, by rw [← y3]; exact eT, by rw [es.1 125 (by decide)]; exact y4⟩))
      have tD : D 128 = M 128 := k6.1 128 (by decide) (by decide)
      have nD : D 124 7 = M 124 7 := k6.2 7 (by omega)
      have d8 : 1 ≤ D 124 8 ∧ D 124 8 ≤ M 124 7 := by
        rcases d6 with ⟨y1, y2, y3⟩ | ⟨y1, ⟨y2, y3, y4⟩, y5, y6⟩
        · omega
        · exact y5
      refine fs_r_call (sta := false) (idx := 113) (as := [.inr (.ref 124)]) (rest := []) (L1 := [some (.inr (.ref 124))]) (st1 := [.inr (.ref 124)]) (M1 := D) (ob := []) rfl rfl rfl trivial rfl rfl (Nat.le_of_ble_eq_true rfl) ⟨Or.inr (Nat.le_of_ble_eq_true rfl), Or.inr fs_ob124⟩ (by decide) ?_
      refine fs_m_nextToken (by rw [nD]; omega) (fun (E : fs_M) (es : sk D E) (et : TS E (D 124 8) (D 124 12)) => ?_)
      refine fs_r_ret (L1 := [some (.inr (.ref 124))]) (M1 := E) (ob := []) rfl rfl trivial ?_
      rcases d6 with ⟨y1, y2, y3⟩ | ⟨y1, ⟨y2, y3, y4⟩, y5, y6⟩
      · first
          | exact hq0 _ k6 (fun _ => ⟨y2, y3⟩) (fun z => absurd z y1)
          | (exfalso; omega)
      · first
          | (exfalso; omega)
          | (have tD : D 128 = M 128 := k6.1 128 (by decide) (by decide)
             have nD : D 124 7 = M 124 7 := k6.2 7 (by omega)
             have tE : E 128 = M 128 := (es.1 128 (by decide)).trans tD
             have nE9 : E 124 7 = M 124 7 := (es.2 7 (by omega)).trans nD
             have eT : TK E (D 124 8) := by
               rcases et with ⟨a, _⟩ | ⟨_, b⟩
               · exact absurd y1 a
               · exact b
             have e12 : E 124 12 = -1 := by
               have w := eT.1
               rw [tE, nE9] at w
               rw [if_neg (fun g => by
                 rcases g.2.2.2 with x | x
                 · omega
                 · omega)] at w
               exact w
             exact hq0 _ (k6.tr (sk5.of es)) (fun z => absurd e12 z) (fun _ => ⟨y2, by rw [← y3]; exact eT, by rw [es.1 125 (by decide)]; exact y4⟩))
    refine fs_r_icmp (a := (B 124 12)) (y := (-1)) (L1 := [some (.inr (.ref 124))]) (st1 := []) (M1 := B) (ob := [124 < fs_N ∧ fs_kd 124 = 6]) rfl rfl (fs_oc fs_ob124 trivial) (fun (h2 : ¬ (B 124 12) = (-1)) => ?_) (fun (h2 : ¬ (¬ (B 124 12) = (-1))) => ?_)
    · exact join128 B (by first | exact k5 | exact k5.tr (sk5.of (sk.rf.up (by omega)))) (by
          first
            | (have z : B 124 12 ≠ -1 := by omega
               exact Or.inl ⟨z, bad z⟩)
            | (have z : B 124 12 = -1 := by omega
               exact Or.inr ⟨z, good z (by omega) (by omega)⟩)
            | (have z : B 124 12 = -1 := by omega
               have w := none_ z (by omega)
               refine Or.inl ⟨?_, w.1, ?_⟩
               · rw [fs_up_at, if_pos rfl, if_pos z, w.2]; exact w.1
               · rw [fs_up_at, if_pos rfl, if_pos z, w.2]))
    refine fs_r_icmp (a := (B 124 9)) (y := 3) (L1 := [some (.inr (.ref 124))]) (st1 := []) (M1 := B) (ob := [124 < fs_N ∧ fs_kd 124 = 6]) rfl rfl (fs_oc fs_ob124 trivial) (fun (h3 : ¬ (B 124 9) = 3) => ?_) (fun (h3 : ¬ (¬ (B 124 9) = 3)) => ?_)
    · refine fs_r_call (sta := false) (idx := 101) (as := [.inr (.ref 124), .inl (B 124 10)]) (rest := []) (L1 := [some (.inr (.ref 124))]) (st1 := [.inl (B 124 10), .inr (.ref 124)]) (M1 := B) (ob := [124 < fs_N ∧ fs_kd 124 = 6]) rfl rfl rfl (fs_oc fs_ob124 trivial) rfl rfl (Nat.le_of_ble_eq_true rfl) ⟨Or.inr (Nat.le_of_ble_eq_true rfl), Or.inr fs_ob124⟩ (by decide) ?_
      refine fs_m_wrong ?_
      exact join128 (fs_up B 124 12 (if B 124 12 = -1 then (B 124 10) else B 124 12)) (by first | exact k5 | exact k5.tr (sk5.of (sk.rf.up (by omega)))) (by
          first
            | (have z : B 124 12 ≠ -1 := by omega
               exact Or.inl ⟨z, bad z⟩)
            | (have z : B 124 12 = -1 := by omega
               exact Or.inr ⟨z, good z (by omega) (by omega)⟩)
            | (have z : B 124 12 = -1 := by omega
               have w := none_ z (by omega)
               refine Or.inl ⟨?_, w.1, ?_⟩
               · rw [fs_up_at, if_pos rfl, if_pos z, w.2]; exact w.1
               · rw [fs_up_at, if_pos rfl, if_pos z, w.2]))
    refine fs_r_icmp (a := (B 124 11)) (y := 59) (L1 := [some (.inr (.ref 124))]) (st1 := []) (M1 := B) (ob := [124 < fs_N ∧ fs_kd 124 = 6]) rfl rfl (fs_oc fs_ob124 trivial) (fun (h4 : (B 124 11) = 59) => ?_) (fun (h4 : ¬ ((B 124 11) = 59)) => ?_)
    · exact join128 B (by first | exact k5 | exact k5.tr (sk5.of (sk.rf.up (by omega)))) (by
          first
            | (have z : B 124 12 ≠ -1 := by omega
               exact Or.inl ⟨z, bad z⟩)
            | (have z : B 124 12 = -1 := by omega
               exact Or.inr ⟨z, good z (by omega) (by omega)⟩)
            | (have z : B 124 12 = -1 := by omega
               have w := none_ z (by omega)
               refine Or.inl ⟨?_, w.1, ?_⟩
               · rw [fs_up_at, if_pos rfl, if_pos z, w.2]; exact w.1
               · rw [fs_up_at, if_pos rfl, if_pos z, w.2]))
    refine fs_r_call (sta := false) (idx := 101) (as := [.inr (.ref 124), .inl (B 124 10)]) (rest := []) (L1 := [some (.inr (.ref 124))]) (st1 := [.inl (B 124 10), .inr (.ref 124)]) (M1 := B) (ob := [124 < fs_N ∧ fs_kd 124 = 6]) rfl rfl rfl (fs_oc fs_ob124 trivial) rfl rfl (Nat.le_of_ble_eq_true rfl) ⟨Or.inr (Nat.le_of_ble_eq_true rfl), Or.inr fs_ob124⟩ (by decide) ?_
    refine fs_m_wrong ?_
    exact join128 (fs_up B 124 12 (if B 124 12 = -1 then (B 124 10) else B 124 12)) (by first | exact k5 | exact k5.tr (sk5.of (sk.rf.up (by omega)))) (by
        first
          | (have z : B 124 12 ≠ -1 := by omega
             exact Or.inl ⟨z, bad z⟩)
          | (have z : B 124 12 = -1 := by omega
             exact Or.inr ⟨z, good z (by omega) (by omega)⟩)
          | (have z : B 124 12 = -1 := by omega
             have w := none_ z (by omega)
             refine Or.inl ⟨?_, w.1, ?_⟩
             · rw [fs_up_at, if_pos rfl, if_pos z, w.2]; exact w.1
             · rw [fs_up_at, if_pos rfl, if_pos z, w.2]))
  refine fs_r_call (sta := false) (idx := 125) (as := [.inr (.ref 124), .inr (.long (Int64.ofInt 919424))]) (rest := []) (L1 := [some (.inr (.ref 124))]) (st1 := [.inr (.long (Int64.ofInt 919424)), .inr (.ref 124)]) (M1 := M) (ob := []) rfl rfl rfl trivial rfl rfl (Nat.le_of_ble_eq_true rfl) ⟨Or.inr (Nat.le_of_ble_eq_true rfl), Or.inr fs_ob124⟩ (by decide) ?_
  refine fs_m_isWord0 (by omega) (hl) (fun (w0 : M 124 9 = 1 ∧ wdP (M 128) (M 124 10) (M 124 8) 0) => ?_) (fun (w0 : ¬ (M 124 9 = 1 ∧ wdP (M 128) (M 124 10) (M 124 8) 0)) => ?_)
  · refine fs_r_if (a := 1) (L1 := [some (.inr (.ref 124))]) (st1 := []) (M1 := M) (ob := []) rfl rfl trivial (fun h => absurd h (by decide : ¬ ((1 : Int) = 0))) (fun _ => ?_)
    have tw : tx_w (M 128) (M 124 10) (eL (M 128) (M 124 7) (M 124 10)) = 0 := by unfold tx_w; rw [if_pos ((key 0 (by decide)).mpr w0)]
    have e8 := hat2 w0.1
    have sF : stF (M 128) (M 124 7) (M 125) (M 124 10) = aF (M 128) (M 124 7) (M 125) (M 124 10) (M 124 8) := by unfold stF; rw [if_pos tw, e8]
    have sP : stP (M 128) (M 124 7) (M 125) (M 124 10) = aP (M 128) (M 124 7) (M 124 8) := by unfold stP; rw [if_neg (by rw [tw]; decide), if_neg (by rw [tw]; decide), e8]
    have sN : stN (M 128) (M 124 7) (M 125) (M 124 10) = aN (M 128) (M 124 7) (M 125) (M 124 8) := by unfold stN; rw [if_pos tw, e8]
    refine fs_r_call (sta := false) (idx := 129) (as := [.inr (.ref 124)]) (rest := []) (L1 := [some (.inr (.ref 124))]) (st1 := [.inr (.ref 124)]) (M1 := M) (ob := []) rfl rfl rfl trivial rfl rfl (Nat.le_of_ble_eq_true rfl) ⟨Or.inr (Nat.le_of_ble_eq_true rfl), Or.inr fs_ob124⟩ (by decide) ?_
    refine fs_m_readAsset (by assumption) (by assumption) (by omega) (fun (B : fs_M) (bs : sk5 M B) (bt : TS B (nE (M 128) (M 124 7) (nE (M 128) (M 124 7) (M 124 8))) ((nF (M 128) (M 124 7) 0 9 (nF (M 128) (M 124 7) 1 200 (if M 125 0 = 4 then M 124 10 else -1) (M 124 8)) (nE (M 128) (M 124 7) (M 124 8))))) (bk : B 124 12 = -1 → B 125 = aN (M 128) (M 124 7) (M 125) (M 124 8)) => ?_)
    refine fs_r_goto (L1 := [some (.inr (.ref 124))]) (st1 := []) (M1 := B) (ob := []) rfl rfl trivial ?_
    exact join95 B (by first | exact bs | exact sk5.of (sk.rf.up (by omega))) (by
        first
          | exact Or.inr ⟨_, _, Or.inl bt, sF.symm, sP.symm, fun z => (bk z).trans sN.symm, by omega⟩
          | exact Or.inr ⟨_, _, bt, sF.symm, sP.symm, fun z => (bk z).trans sN.symm, by omega⟩
          | (refine Or.inl ⟨?_, ?_, ?_⟩
             · rw [fs_up_at, if_pos rfl, if_pos hz]; omega
             · rw [sF]; omega
             · rw [fs_up_at, if_pos rfl, if_pos hz, sF]))
  refine fs_r_if (a := 0) (L1 := [some (.inr (.ref 124))]) (st1 := []) (M1 := M) (ob := []) rfl rfl trivial (fun _ => ?_) (fun h => absurd (by decide : (0 : Int) = 0) h)
  refine fs_r_call (sta := false) (idx := 125) (as := [.inr (.ref 124), .inr (.long (Int64.ofInt 4562600))]) (rest := []) (L1 := [some (.inr (.ref 124))]) (st1 := [.inr (.long (Int64.ofInt 4562600)), .inr (.ref 124)]) (M1 := M) (ob := []) rfl rfl rfl trivial rfl rfl (Nat.le_of_ble_eq_true rfl) ⟨Or.inr (Nat.le_of_ble_eq_true rfl), Or.inr fs_ob124⟩ (by decide) ?_
  refine fs_m_isWord1 (by omega) (hl) (fun (w1 : M 124 9 = 1 ∧ wdP (M 128) (M 124 10) (M 124 8) 1) => ?_) (fun (w1 : ¬ (M 124 9 = 1 ∧ wdP (M 128) (M 124 10) (M 124 8) 1)) => ?_)
  · refine fs_r_if (a := 1) (L1 := [some (.inr (.ref 124))]) (st1 := []) (M1 := M) (ob := []) rfl rfl trivial (fun h => absurd h (by decide : ¬ ((1 : Int) = 0))) (fun _ => ?_)
    have tw : tx_w (M 128) (M 124 10) (eL (M 128) (M 124 7) (M 124 10)) = 1 := by unfold tx_w; rw [if_neg (fun y => w0 ((key 0 (by decide)).mp y)), if_pos ((key 1 (by decide)).mpr w1)]
    have e8 := hat2 w1.1
    have sF : stF (M 128) (M 124 7) (M 125) (M 124 10) = tx_S (M 128) (M 124 7) (M 125) (M 124 10) (M 124 8) := by unfold stF; rw [if_neg (by rw [tw]; decide), if_pos tw, e8]
    have sP : stP (M 128) (M 124 7) (M 125) (M 124 10) = tx_P (M 128) (M 124 7) (M 125) (M 124 8) := by unfold stP; rw [if_pos tw, e8]
    have sN : stN (M 128) (M 124 7) (M 125) (M 124 10) = tx_R (M 128) (M 124 7) (M 125) (M 124 8) := by unfold stN; rw [if_neg (by rw [tw]; decide), if_pos tw, e8]
    have p9 := tx_E_b (T := M 128) (n := M 124 7) (p := M 124 8) ⟨by omega, by omega⟩ (5 + tx_C (M 128) (M 124 7) (M 125) (M 124 8)).toNat
    refine fs_r_call (sta := false) (idx := 134) (as := [.inr (.ref 124)]) (rest := []) (L1 := [some (.inr (.ref 124))]) (st1 := [.inr (.ref 124)]) (M1 := M) (ob := []) rfl rfl rfl trivial rfl rfl (Nat.le_of_ble_eq_true rfl) ⟨Or.inr (Nat.le_of_ble_eq_true rfl), Or.inr fs_ob124⟩ (by decide) ?_
    refine fs_m_readHouse (by assumption) (by assumption) (by omega) (fun (B : fs_M) (bs : sk5 M B) (bt : TS B (tx_E (M 128) (M 124 7) (5 + tx_C (M 128) (M 124 7) (M 125) (M 124 8)).toNat (M 124 8)) (tx_F (M 128) (M 124 7) (M 125) (M 124 10) (M 124 8) (5 + tx_C (M 128) (M 124 7) (M 125) (M 124 8)).toNat) ∨ (B 124 12 ≠ -1 ∧ B 124 12 = eF (M 128) (M 124 7) (tx_F (M 128) (M 124 7) (M 125) (M 124 10) (M 124 8) (5 + tx_C (M 128) (M 124 7) (M 125) (M 124 8)).toNat) (tx_E (M 128) (M 124 7) (5 + tx_C (M 128) (M 124 7) (M 125) (M 124 8)).toNat (M 124 8)))) (bk : B 124 12 = -1 → B 125 = tx_R (M 128) (M 124 7) (M 125) (M 124 8)) => ?_)
    refine fs_r_goto (L1 := [some (.inr (.ref 124))]) (st1 := []) (M1 := B) (ob := []) rfl rfl trivial ?_
    exact join95 B (by first | exact bs | exact sk5.of (sk.rf.up (by omega))) (by
        first
          | exact Or.inr ⟨_, _, Or.inl bt, sF.symm, sP.symm, fun z => (bk z).trans sN.symm, by omega⟩
          | exact Or.inr ⟨_, _, bt, sF.symm, sP.symm, fun z => (bk z).trans sN.symm, by omega⟩
          | (refine Or.inl ⟨?_, ?_, ?_⟩
             · rw [fs_up_at, if_pos rfl, if_pos hz]; omega
             · rw [sF]; omega
             · rw [fs_up_at, if_pos rfl, if_pos hz, sF]))
  refine fs_r_if (a := 0) (L1 := [some (.inr (.ref 124))]) (st1 := []) (M1 := M) (ob := []) rfl rfl trivial (fun _ => ?_) (fun h => absurd (by decide : (0 : Int) = 0) h)
  refine fs_r_call (sta := false) (idx := 125) (as := [.inr (.ref 124), .inr (.long (Int64.ofInt 247172))]) (rest := []) (L1 := [some (.inr (.ref 124))]) (st1 := [.inr (.long (Int64.ofInt 247172)), .inr (.ref 124)]) (M1 := M) (ob := []) rfl rfl rfl trivial rfl rfl (Nat.le_of_ble_eq_true rfl) ⟨Or.inr (Nat.le_of_ble_eq_true rfl), Or.inr fs_ob124⟩ (by decide) ?_
  refine fs_m_isWord2 (by omega) (hl) (fun (w2 : M 124 9 = 1 ∧ wdP (M 128) (M 124 10) (M 124 8) 2) => ?_) (fun (w2 : ¬ (M 124 9 = 1 ∧ wdP (M 128) (M 124 10) (M 124 8) 2)) => ?_)
  · refine fs_r_if (a := 1) (L1 := [some (.inr (.ref 124))]) (st1 := []) (M1 := M) (ob := []) rfl rfl trivial (fun h => absurd h (by decide : ¬ ((1 : Int) = 0))) (fun _ => ?_)
    have tw : tx_w (M 128) (M 124 10) (eL (M 128) (M 124 7) (M 124 10)) = 2 := by unfold tx_w; rw [if_neg (fun y => w0 ((key 0 (by decide)).mp y)), if_neg (fun y => w1 ((key 1 (by decide)).mp y)), if_pos ((key 2 (by decide)).mpr w2)]
    have e8 := hat2 w2.1
    have sF : stF (M 128) (M 124 7) (M 125) (M 124 10) = jF (M 128) (M 124 7) (M 125) (M 124 8) := by unfold stF; rw [if_neg (by rw [tw]; decide), if_neg (by rw [tw]; decide), if_pos tw, e8]
    have sP : stP (M 128) (M 124 7) (M 125) (M 124 10) = jP (M 128) (M 124 7) (M 124 8) := by unfold stP; rw [if_neg (by rw [tw]; decide), if_pos tw, e8]
    have sN : stN (M 128) (M 124 7) (M 125) (M 124 10) = jN (M 128) (M 124 7) (M 125) (M 124 8) := by unfold stN; rw [if_neg (by rw [tw]; decide), if_neg (by rw [tw]; decide), if_pos tw, e8]
    refine fs_r_call (sta := false) (idx := 139) (as := [.inr (.ref 124)]) (rest := []) (L1 := [some (.inr (.ref 124))]) (st1 := [.inr (.ref 124)]) (M1 := M) (ob := []) rfl rfl rfl trivial rfl rfl (Nat.le_of_ble_eq_true rfl) ⟨Or.inr (Nat.le_of_ble_eq_true rfl), Or.inr fs_ob124⟩ (by decide) ?_
    refine fs_m_readLoan (by assumption) (by assumption) (by omega) (fun (B : fs_M) (bs : sk5 M B) (bt : TS B (nE (M 128) (M 124 7) (nE (M 128) (M 124 7) (nE (M 128) (M 124 7) (M 124 8)))) ((nF (M 128) (M 124 7) 0 999 (j2F (M 128) (M 124 7) (M 125) (M 124 8)) (nE (M 128) (M 124 7) (nE (M 128) (M 124 7) (M 124 8)))))) (bk : B 124 12 = -1 → B 125 = jN (M 128) (M 124 7) (M 125) (M 124 8)) => ?_)
    refine fs_r_goto (L1 := [some (.inr (.ref 124))]) (st1 := []) (M1 := B) (ob := []) rfl rfl trivial ?_
    exact join95 B (by first | exact bs | exact sk5.of (sk.rf.up (by omega))) (by
        first
          | exact Or.inr ⟨_, _, Or.inl bt, sF.symm, sP.symm, fun z => (bk z).trans sN.symm, by omega⟩
          | exact Or.inr ⟨_, _, bt, sF.symm, sP.symm, fun z => (bk z).trans sN.symm, by omega⟩
          | (refine Or.inl ⟨?_, ?_, ?_⟩
             · rw [fs_up_at, if_pos rfl, if_pos hz]; omega
             · rw [sF]; omega
             · rw [fs_up_at, if_pos rfl, if_pos hz, sF]))
  refine fs_r_if (a := 0) (L1 := [some (.inr (.ref 124))]) (st1 := []) (M1 := M) (ob := []) rfl rfl trivial (fun _ => ?_) (fun h => absurd (by decide : (0 : Int) = 0) h)
  refine fs_r_call (sta := false) (idx := 125) (as := [.inr (.ref 124), .inr (.long (Int64.ofInt 2230))]) (rest := []) (L1 := [some (.inr (.ref 124))]) (st1 := [.inr (.long (Int64.ofInt 2230)), .inr (.ref 124)]) (M1 := M) (ob := []) rfl rfl rfl trivial rfl rfl (Nat.le_of_ble_eq_true rfl) ⟨Or.inr (Nat.le_of_ble_eq_true rfl), Or.inr fs_ob124⟩ (by decide) ?_
  refine fs_m_isWord3 (by omega) (hl) (fun (w3 : M 124 9 = 1 ∧ wdP (M 128) (M 124 10) (M 124 8) 3) => ?_) (fun (w3 : ¬ (M 124 9 = 1 ∧ wdP (M 128) (M 124 10) (M 124 8) 3)) => ?_)
  · refine fs_r_if (a := 1) (L1 := [some (.inr (.ref 124))]) (st1 := []) (M1 := M) (ob := []) rfl rfl trivial (fun h => absurd h (by decide : ¬ ((1 : Int) = 0))) (fun _ => ?_)
    have tw : tx_w (M 128) (M 124 10) (eL (M 128) (M 124 7) (M 124 10)) = 3 := by unfold tx_w; rw [if_neg (fun y => w0 ((key 0 (by decide)).mp y)), if_neg (fun y => w1 ((key 1 (by decide)).mp y)), if_neg (fun y => w2 ((key 2 (by decide)).mp y)), if_pos ((key 3 (by decide)).mpr w3)]
    have e8 := hat2 w3.1
    have sF : stF (M 128) (M 124 7) (M 125) (M 124 10) = iF (M 128) (M 124 7) (M 125) 0 (M 124 10) (M 124 8) := by unfold stF; rw [if_neg (by rw [tw]; decide), if_neg (by rw [tw]; decide), if_neg (by rw [tw]; decide), if_pos tw, e8]
    have sP : stP (M 128) (M 124 7) (M 125) (M 124 10) = aP (M 128) (M 124 7) (M 124 8) := by unfold stP; rw [if_neg (by rw [tw]; decide), if_neg (by rw [tw]; decide), e8]
    have sN : stN (M 128) (M 124 7) (M 125) (M 124 10) = iN (M 128) (M 124 7) (M 125) 0 (M 124 8) := by unfold stN; rw [if_neg (by rw [tw]; decide), if_neg (by rw [tw]; decide), if_neg (by rw [tw]; decide), if_pos tw, e8]
    refine fs_r_call (sta := false) (idx := 144) (as := [.inr (.ref 124), .inl 0]) (rest := []) (L1 := [some (.inr (.ref 124))]) (st1 := [.inl 0, .inr (.ref 124)]) (M1 := M) (ob := []) rfl rfl rfl trivial rfl rfl (Nat.le_of_ble_eq_true rfl) ⟨Or.inr (Nat.le_of_ble_eq_true rfl), Or.inr fs_ob124⟩ (by decide) ?_
    refine fs_m_readLaid0 (by assumption) (by assumption) (by omega) (fun (B : fs_M) (bs : sk5 M B) (bt : TS B (nE (M 128) (M 124 7) (nE (M 128) (M 124 7) (M 124 8))) ((nF (M 128) (M 124 7) 0 (iM 0) (nF (M 128) (M 124 7) 0 (M 125 0 - 1) (if M 125 (100 + 13 * 0) = 4 then M 124 10 else -1) (M 124 8)) (nE (M 128) (M 124 7) (M 124 8))))) (bk : B 124 12 = -1 → B 125 = iN (M 128) (M 124 7) (M 125) 0 (M 124 8)) => ?_)
    refine fs_r_goto (L1 := [some (.inr (.ref 124))]) (st1 := []) (M1 := B) (ob := []) rfl rfl trivial ?_
    exact join95 B (by first | exact bs | exact sk5.of (sk.rf.up (by omega))) (by
        first
          | exact Or.inr ⟨_, _, Or.inl bt, sF.symm, sP.symm, fun z => (bk z).trans sN.symm, by omega⟩
          | exact Or.inr ⟨_, _, bt, sF.symm, sP.symm, fun z => (bk z).trans sN.symm, by omega⟩
          | (refine Or.inl ⟨?_, ?_, ?_⟩
             · rw [fs_up_at, if_pos rfl, if_pos hz]; omega
             · rw [sF]; omega
             · rw [fs_up_at, if_pos rfl, if_pos hz, sF]))
  refine fs_r_if (a := 0) (L1 := [some (.inr (.ref 124))]) (st1 := []) (M1 := M) (ob := []) rfl rfl trivial (fun _ => ?_) (fun h => absurd (by decide : (0 : Int) = 0) h)
  refine fs_r_call (sta := false) (idx := 125) (as := [.inr (.ref 124), .inr (.long (Int64.ofInt 10265870))]) (rest := []) (L1 := [some (.inr (.ref 124))]) (st1 := [.inr (.long (Int64.ofInt 10265870)), .inr (.ref 124)]) (M1 := M) (ob := []) rfl rfl rfl trivial rfl rfl (Nat.le_of_ble_eq_true rfl) ⟨Or.inr (Nat.le_of_ble_eq_true rfl), Or.inr fs_ob124⟩ (by decide) ?_
  refine fs_m_isWord4 (by omega) (hl) (fun (w4 : M 124 9 = 1 ∧ wdP (M 128) (M 124 10) (M 124 8) 4) => ?_) (fun (w4 : ¬ (M 124 9 = 1 ∧ wdP (M 128) (M 124 10) (M 124 8) 4)) => ?_)
  · refine fs_r_if (a := 1) (L1 := [some (.inr (.ref 124))]) (st1 := []) (M1 := M) (ob := []) rfl rfl trivial (fun h => absurd h (by decide : ¬ ((1 : Int) = 0))) (fun _ => ?_)
    have tw : tx_w (M 128) (M 124 10) (eL (M 128) (M 124 7) (M 124 10)) = 4 := by unfold tx_w; rw [if_neg (fun y => w0 ((key 0 (by decide)).mp y)), if_neg (fun y => w1 ((key 1 (by decide)).mp y)), if_neg (fun y => w2 ((key 2 (by decide)).mp y)), if_neg (fun y => w3 ((key 3 (by decide)).mp y)), if_pos ((key 4 (by decide)).mpr w4)]
    have e8 := hat2 w4.1
    have sF : stF (M 128) (M 124 7) (M 125) (M 124 10) = iF (M 128) (M 124 7) (M 125) 1 (M 124 10) (M 124 8) := by unfold stF; rw [if_neg (by rw [tw]; decide), if_neg (by rw [tw]; decide), if_neg (by rw [tw]; decide), if_neg (by rw [tw]; decide), if_pos tw, e8]
    have sP : stP (M 128) (M 124 7) (M 125) (M 124 10) = aP (M 128) (M 124 7) (M 124 8) := by unfold stP; rw [if_neg (by rw [tw]; decide), if_neg (by rw [tw]; decide), e8]
    have sN : stN (M 128) (M 124 7) (M 125) (M 124 10) = iN (M 128) (M 124 7) (M 125) 1 (M 124 8) := by unfold stN; rw [if_neg (by rw [tw]; decide), if_neg (by rw [tw]; decide), if_neg (by rw [tw]; decide), if_neg (by rw [tw]; decide), e8]
    refine fs_r_call (sta := false) (idx := 144) (as := [.inr (.ref 124), .inl 1]) (rest := []) (L1 := [some (.inr (.ref 124))]) (st1 := [.inl 1, .inr (.ref 124)]) (M1 := M) (ob := []) rfl rfl rfl trivial rfl rfl (Nat.le_of_ble_eq_true rfl) ⟨Or.inr (Nat.le_of_ble_eq_true rfl), Or.inr fs_ob124⟩ (by decide) ?_
    refine fs_m_readLaid1 (by assumption) (by assumption) (by omega) (fun (B : fs_M) (bs : sk5 M B) (bt : TS B (nE (M 128) (M 124 7) (nE (M 128) (M 124 7) (M 124 8))) ((nF (M 128) (M 124 7) 0 (iM 1) (nF (M 128) (M 124 7) 0 (M 125 0 - 1) (if M 125 (100 + 13 * 1) = 4 then M 124 10 else -1) (M 124 8)) (nE (M 128) (M 124 7) (M 124 8))))) (bk : B 124 12 = -1 → B 125 = iN (M 128) (M 124 7) (M 125) 1 (M 124 8)) => ?_)
    refine fs_r_goto (L1 := [some (.inr (.ref 124))]) (st1 := []) (M1 := B) (ob := []) rfl rfl trivial ?_
    exact join95 B (by first | exact bs | exact sk5.of (sk.rf.up (by omega))) (by
        first
          | exact Or.inr ⟨_, _, Or.inl bt, sF.symm, sP.symm, fun z => (bk z).trans sN.symm, by omega⟩
          | exact Or.inr ⟨_, _, bt, sF.symm, sP.symm, fun z => (bk z).trans sN.symm, by omega⟩
          | (refine Or.inl ⟨?_, ?_, ?_⟩
             · rw [fs_up_at, if_pos rfl, if_pos hz]; omega
             · rw [sF]; omega
             · rw [fs_up_at, if_pos rfl, if_pos hz, sF]))
  refine fs_r_if (a := 0) (L1 := [some (.inr (.ref 124))]) (st1 := []) (M1 := M) (ob := []) rfl rfl trivial (fun _ => ?_) (fun h => absurd (by decide : (0 : Int) = 0) h)
  have tw : tx_w (M 128) (M 124 10) (eL (M 128) (M 124 7) (M 124 10)) = 5 := by unfold tx_w; rw [if_neg (fun y => w0 ((key 0 (by decide)).mp y)), if_neg (fun y => w1 ((key 1 (by decide)).mp y)), if_neg (fun y => w2 ((key 2 (by decide)).mp y)), if_neg (fun y => w3 ((key 3 (by decide)).mp y)), if_neg (fun y => w4 ((key 4 (by decide)).mp y))]
  have sF : stF (M 128) (M 124 7) (M 125) (M 124 10) = M 124 10 := by unfold stF; rw [if_neg (by rw [tw]; decide), if_neg (by rw [tw]; decide), if_neg (by rw [tw]; decide), if_neg (by rw [tw]; decide), if_neg (by rw [tw]; decide)]
  refine fs_r_call (sta := false) (idx := 101) (as := [.inr (.ref 124), .inl (M 124 10)]) (rest := []) (L1 := [some (.inr (.ref 124))]) (st1 := [.inl (M 124 10), .inr (.ref 124)]) (M1 := M) (ob := [124 < fs_N ∧ fs_kd 124 = 6]) rfl rfl rfl (fs_oc fs_ob124 trivial) rfl rfl (Nat.le_of_ble_eq_true rfl) ⟨Or.inr (Nat.le_of_ble_eq_true rfl), Or.inr fs_ob124⟩ (by decide) ?_
  refine fs_m_wrong ?_
  exact join95 (fs_up M 124 12 (if M 124 12 = -1 then (M 124 10) else M 124 12)) (by first | exact bs | exact sk5.of (sk.rf.up (by omega))) (by
      first
        | exact Or.inr ⟨_, _, Or.inl bt, sF.symm, sP.symm, fun z => (bk z).trans sN.symm, by omega⟩
        | exact Or.inr ⟨_, _, bt, sF.symm, sP.symm, fun z => (bk z).trans sN.symm, by omega⟩
        | (refine Or.inl ⟨?_, ?_, ?_⟩
           · rw [fs_up_at, if_pos rfl, if_pos hz]; omega
           · rw [sF]; omega
           · rw [fs_up_at, if_pos rfl, if_pos hz, sF]))
