theorem fs_m_readLaid0 {d : Nat} {M : fs_M} {Q : Option fs_V → fs_M → Prop}   (hI : fs_NI (M 125)) (hz : M 124 12 = -1) (he : (0 ≤ M 124 10 ∧ 0 ≤ M 124 8 ∧ M 124 8 ≤ M 124 7) ∧ M 124 7 ≤ 800) (hq0 : ∀ (M2 : fs_M), (sk5 M M2) → (TS M2 (nE (M 128) (M 124 7) (nE (M 128) (M 124 7) (M 124 8))) ((nF (M 128) (M 124 7) 0 (iM 0) (nF (M 128) (M 124 7) 0 (M 125 0 - 1) (if M 125 (100 + 13 * 0) = 4 then M 124 10 else -1) (M 124 8)) (nE (M 128) (M 124 7) (M 124 8))))) → (M2 124 12 = -1 → M2 125 = iN (M 128) (M 124 7) (M 125) 0 (M 124 8)) → Q none M2) : fs_W (d + 4) 182 0 [some (.inr (.ref 124)), some (.inl 0), none, none] [] M Q := by
  have hA := hI.1
  have b1 := nE_b (T := M 128) (n := M 124 7) (p := M 124 8) ⟨he.1.2.1, he.1.2.2⟩
  have b2 := nE_b (T := M 128) (n := M 124 7) (p := nE (M 128) (M 124 7) (M 124 8)) ⟨by omega, b1.2.1⟩
  have join24 : ∀  (A0 : fs_M), (sk M A0) → (A0 124 12 = if M 125 (100 + 13 * 0) = 4 then M 124 10 else -1) → (A0 124 8 = M 124 8) → fs_W (d + 4) 182 24 [some (.inr (.ref 124)), some (.inl 0), none, none] [] A0 Q := by
    intro A0 k0 f0 a0
    have n0 : A0 124 7 = M 124 7 := k0.2 7 (by omega)
    have t0 : A0 128 = M 128 := k0.1 128 (by decide)
    refine fs_r_call (sta := false) (idx := 113) (as := [.inr (.ref 124)]) (rest := []) (L1 := [some (.inr (.ref 124)), some (.inl 0), none, none]) (st1 := [.inr (.ref 124)]) (M1 := A0) (ob := []) rfl rfl rfl trivial rfl rfl (Nat.le_of_ble_eq_true rfl) ⟨Or.inr (Nat.le_of_ble_eq_true rfl), Or.inr fs_ob124⟩ (by decide) ?_
    refine fs_m_nextToken (by rw [a0, n0]; omega) (fun (A1 : fs_M) (s1 : sk A0 A1) (t1 : TS A1 (A0 124 8) (A0 124 12)) => ?_)
    rw [a0, f0] at t1
    have kA1 : sk M A1 := k0.tr s1
    have tA1 : A1 128 = M 128 := kA1.1 128 (by decide)
    have nA1 : A1 124 7 = M 124 7 := kA1.2 7 (by omega)
    have e51 : A1 125 = M 125 := kA1.1 125 (by decide)
    have e510 : A1 125 0 = M 125 0 := by rw [e51]
    refine fs_r_call (sta := false) (idx := 116) (as := [.inr (.ref 124), .inl 0, .inl ((A1 125 0) - 1)]) (rest := []) (L1 := [some (.inr (.ref 124)), some (.inl 0), none, none]) (st1 := [.inl ((A1 125 0) - 1), .inl 0, .inr (.ref 124)]) (M1 := A1) (ob := [124 < fs_N ∧ fs_kd 124 = 6, (125 < fs_N ∧ fs_kd 125 = 100) ∧ (0 : Int) ≤ 0 ∧ 0 < fs_ln 125, fs_rg ((A1 125 0) - 1)]) rfl rfl (fs_exA 6 (o1 := [124 < fs_N ∧ fs_kd 124 = 6, (125 < fs_N ∧ fs_kd 125 = 100) ∧ (0 : Int) ≤ 0 ∧ 0 < fs_ln 125]) (L1 := [some (.inr (.ref 124)), some (.inl 0), none, none]) (st1 := [.inl (A1 125 0), .inl 0, .inr (.ref 124)]) (M1 := A1) (o2 := [fs_rg ((A1 125 0) - 1)]) rfl rfl) (fs_oc fs_ob124 (fs_oc (fs_ar125 (by omega) (by omega)) (fs_oc ⟨by omega, by omega⟩ trivial))) rfl rfl (Nat.le_of_ble_eq_true rfl) ⟨Or.inr (Nat.le_of_ble_eq_true rfl), Or.inr fs_ob124⟩ (by decide) ?_
    refine fs_m_number (p := (M 124 8)) (f := (if M 125 (100 + 13 * 0) = 4 then M 124 10 else -1)) (t1) (by rw [nA1]; omega) (by omega) (fun (x2 : Int) (A2 : fs_M) (s2 : sk A1 A2) (t2 : TS A2 (nE (A1 128) (A1 124 7) (M 124 8)) (nF (A1 128) (A1 124 7) 0 ((A1 125 0) - 1) (if M 125 (100 + 13 * 0) = 4 then M 124 10 else -1) (M 124 8))) (v2 : nF (A1 128) (A1 124 7) 0 ((A1 125 0) - 1) (if M 125 (100 + 13 * 0) = 4 then M 124 10 else -1) (M 124 8) = -1 → x2 = nV (A1 128) (A1 124 7) (M 124 8)) => ?_)
    rw [e510] at t2 v2
    rw [tA1, nA1] at t2 v2
    have kA2 : sk M A2 := kA1.tr s2
    have tA2 : A2 128 = M 128 := kA2.1 128 (by decide)
    have nA2 : A2 124 7 = M 124 7 := kA2.2 7 (by omega)
    refine fs_r_if (a := 0) (L1 := [some (.inr (.ref 124)), some (.inl 0), some (.inl x2), none]) (st1 := [.inl 0, .inr (.ref 124)]) (M1 := A2) (ob := [2 < 4]) rfl rfl (fs_oc (by decide) trivial) (fun h => absurd h (by decide : ¬ (¬ (0 : Int) = 0))) (fun _ => ?_)
    refine fs_r_goto (L1 := [some (.inr (.ref 124)), some (.inl 0), some (.inl x2), none]) (st1 := [.inl 360, .inl 0, .inr (.ref 124)]) (M1 := A2) (ob := []) rfl rfl trivial ?_
    refine fs_r_call (sta := false) (idx := 116) (as := [.inr (.ref 124), .inl 0, .inl 360]) (rest := []) (L1 := [some (.inr (.ref 124)), some (.inl 0), some (.inl x2), none]) (st1 := [.inl 360, .inl 0, .inr (.ref 124)]) (M1 := A2) (ob := []) rfl rfl rfl trivial rfl rfl (Nat.le_of_ble_eq_true rfl) ⟨Or.inr (Nat.le_of_ble_eq_true rfl), Or.inr fs_ob124⟩ (by decide) ?_
    refine fs_m_number (p := (nE (M 128) (M 124 7) (M 124 8))) (f := (nF (M 128) (M 124 7) 0 (M 125 0 - 1) (if M 125 (100 + 13 * 0) = 4 then M 124 10 else -1) (M 124 8))) (t2) (by rw [nA2]; omega) (by omega) (fun (x3 : Int) (A3 : fs_M) (s3 : sk A2 A3) (t3 : TS A3 (nE (A2 128) (A2 124 7) (nE (M 128) (M 124 7) (M 124 8))) (nF (A2 128) (A2 124 7) 0 360 (nF (M 128) (M 124 7) 0 (M 125 0 - 1) (if M 125 (100 + 13 * 0) = 4 then M 124 10 else -1) (M 124 8)) (nE (M 128) (M 124 7) (M 124 8)))) (v3 : nF (A2 128) (A2 124 7) 0 360 (nF (M 128) (M 124 7) 0 (M 125 0 - 1) (if M 125 (100 + 13 * 0) = 4 then M 124 10 else -1) (M 124 8)) (nE (M 128) (M 124 7) (M 124 8)) = -1 → x3 = nV (A2 128) (A2 124 7) (nE (M 128) (M 124 7) (M 124 8))) => ?_)
    rw [tA2, nA2] at t3 v3
    have kA3 : sk M A3 := kA2.tr s3
    have tA3 : A3 128 = M 128 := kA3.1 128 (by decide)
    have nA3 : A3 124 7 = M 124 7 := kA3.2 7 (by omega)
    refine fs_r_icmp (a := (A3 124 12)) (y := (-1)) (L1 := [some (.inr (.ref 124)), some (.inl 0), some (.inl x2), some (.inl x3)]) (st1 := []) (M1 := A3) (ob := [3 < 4, 124 < fs_N ∧ fs_kd 124 = 6]) rfl rfl (fs_oc (by decide) (fs_oc fs_ob124 trivial)) (fun (h1 : ¬ (A3 124 12) = (-1)) => ?_) (fun (h1 : ¬ (¬ (A3 124 12) = (-1))) => ?_)
    · refine fs_r_ret (L1 := [some (.inr (.ref 124)), some (.inl 0), some (.inl x2), some (.inl x3)]) (M1 := A3) (ob := []) rfl rfl trivial ?_
      first
        | (refine hq0 L ((sk5.of kA3).tr ⟨fun r _ b => lf r b, fun i _ => by rw [lf 124 (by decide)]⟩) (t3.sk (lf 124 (by decide)) (lf 128 (by decide))) (fun _ => ?_)
           rw [ln9, e5, y2, y3]
           rfl)
        | exact hq0 _ (sk5.of kA3) t3 (fun z => absurd z (by omega))
    have z3 : A3 124 12 = -1 := by omega
    have w3 := (t3.fz z3).1
    have w2 := (nF_ok w3 (by omega)).1
    have w1 := (nF_ok w2 (by omega)).1
    have n4 : M 125 (100 + 13 * 0) ≠ 4 := fun y => by rw [if_pos y] at w1; omega
    have y3 := v3 w3
    have y2 := v2 w2
    have e5 : A3 125 = M 125 := kA3.1 125 (by decide)
    have hs9 := hI.2.2.2.2.2.2.1 0 (by omega) (by omega)
    refine fs_r_call (sta := false) (idx := 119) (as := [.inr (.ref 124), .inl 0, .inl 0, .inl x2, .inl x3]) (rest := []) (L1 := [some (.inr (.ref 124)), some (.inl 0), some (.inl x2), some (.inl x3)]) (st1 := [.inl x3, .inl x2, .inl 0, .inl 0, .inr (.ref 124)]) (M1 := A3) (ob := []) rfl rfl rfl trivial rfl rfl (Nat.le_of_ble_eq_true rfl) ⟨Or.inr (Nat.le_of_ble_eq_true rfl), Or.inr fs_ob124⟩ (by decide) ?_
    refine fs_m_lays (by omega) (by rw [e5]; omega) (fun (L : fs_M) (lf : ∀ r, r ≠ 125 → L r = A3 r) (ln9 : L 125 = up1 (up1 (up1 (up1 (A3 125) (100 + 13 * 0 + 1 + 3 * A3 125 (100 + 13 * 0)) 0) (100 + 13 * 0 + 1 + 3 * A3 125 (100 + 13 * 0) + 1) x2) (100 + 13 * 0 + 1 + 3 * A3 125 (100 + 13 * 0) + 2) x3) (100 + 13 * 0) (A3 125 (100 + 13 * 0) + 1)) => ?_)
    refine fs_r_ret (L1 := [some (.inr (.ref 124)), some (.inl 0), some (.inl x2), some (.inl x3)]) (M1 := L) (ob := []) rfl rfl trivial ?_
    first
      | (refine hq0 L ((sk5.of kA3).tr ⟨fun r _ b => lf r b, fun i _ => by rw [lf 124 (by decide)]⟩) (t3.sk (lf 124 (by decide)) (lf 128 (by decide))) (fun _ => ?_)
         rw [ln9, e5, y2, y3]
         rfl)
      | exact hq0 _ (sk5.of kA3) t3 (fun z => absurd z (by omega))
  refine fs_r_icmp (a := (M 125 (100 + (13 * 0)))) (y := 4) (L1 := [some (.inr (.ref 124)), some (.inl 0), none, none]) (st1 := []) (M1 := M) (ob := [124 < fs_N ∧ fs_kd 124 = 6, fs_rg (13 * 0), fs_rg (100 + (13 * 0)), (125 < fs_N ∧ fs_kd 125 = 100) ∧ (0 : Int) ≤ (100 + (13 * 0)) ∧ (100 + (13 * 0)) < fs_ln 125]) rfl (fs_exA 6 (o1 := [124 < fs_N ∧ fs_kd 124 = 6, fs_rg (13 * 0)]) (L1 := [some (.inr (.ref 124)), some (.inl 0), none, none]) (st1 := [.inl (13 * 0), .inl 100, .inr (.ref 125)]) (M1 := M) (o2 := [fs_rg (100 + (13 * 0)), (125 < fs_N ∧ fs_kd 125 = 100) ∧ (0 : Int) ≤ (100 + (13 * 0)) ∧ (100 + (13 * 0)) < fs_ln 125]) rfl rfl) (fs_oc fs_ob124 (fs_oc ⟨by omega, by omega⟩ (fs_oc ⟨by omega, by omega⟩ (fs_oc (fs_ar125 (by omega) (by omega)) trivial)))) (fun (h2 : ¬ (M 125 (100 + (13 * 0))) = 4) => ?_) (fun (h2 : ¬ (¬ (M 125 (100 + (13 * 0))) = 4)) => ?_)
  · exact join24 M (by first | exact sk.rf | exact sk.rf.up (by omega)) (by first | (rw [if_neg (by omega)]; exact hz) | (rw [fs_up_at, if_pos rfl, if_pos hz, if_pos (by omega)])) (by first | rfl | rw [fs_up_at, if_neg (by omega)])
  refine fs_r_call (sta := false) (idx := 101) (as := [.inr (.ref 124), .inl (M 124 10)]) (rest := []) (L1 := [some (.inr (.ref 124)), some (.inl 0), none, none]) (st1 := [.inl (M 124 10), .inr (.ref 124)]) (M1 := M) (ob := [124 < fs_N ∧ fs_kd 124 = 6]) rfl rfl rfl (fs_oc fs_ob124 trivial) rfl rfl (Nat.le_of_ble_eq_true rfl) ⟨Or.inr (Nat.le_of_ble_eq_true rfl), Or.inr fs_ob124⟩ (by decide) ?_
  refine fs_m_wrong ?_
  exact join24 (fs_up M 124 12 (if M 124 12 = -1 then (M 124 10) else M 124 12)) (by first | exact sk.rf | exact sk.rf.up (by omega)) (by first | (rw [if_neg (by omega)]; exact hz) | (rw [fs_up_at, if_pos rfl, if_pos hz, if_pos (by omega)])) (by first | rfl | rw [fs_up_at, if_neg (by omega)])

theorem fs_m_readLaid1 {d : Nat} {M : fs_M} {Q : Option fs_V → fs_M → Prop}   (hI : fs_NI (M 125)) (hz : M 124 12 = -1) (he : (0 ≤ M 124 10 ∧ 0 ≤ M 124 8 ∧ M 124 8 ≤ M 124 7) ∧ M 124 7 ≤ 800) (hq0 : ∀ (M2 : fs_M), (sk5 M M2) → (TS M2 (nE (M 128) (M 124 7) (nE (M 128) (M 124 7) (M 124 8))) ((nF (M 128) (M 124 7) 0 (iM 1) (nF (M 128) (M 124 7) 0 (M 125 0 - 1) (if M 125 (100 + 13 * 1) = 4 then M 124 10 else -1) (M 124 8)) (nE (M 128) (M 124 7) (M 124 8))))) → (M2 124 12 = -1 → M2 125 = iN (M 128) (M 124 7) (M 125) 1 (M 124 8)) → Q none M2) : fs_W (d + 4) 182 0 [some (.inr (.ref 124)), some (.inl 1), none, none] [] M Q := by
  have hA := hI.1
  have b1 := nE_b (T := M 128) (n := M 124 7) (p := M 124 8) ⟨he.1.2.1, he.1.2.2⟩
  have b2 := nE_b (T := M 128) (n := M 124 7) (p := nE (M 128) (M 124 7) (M 124 8)) ⟨by omega, b1.2.1⟩
  have join24 : ∀  (A0 : fs_M), (sk M A0) → (A0 124 12 = if M 125 (100 + 13 * 1) = 4 then M 124 10 else -1) → (A0 124 8 = M 124 8) → fs_W (d + 4) 182 24 [some (.inr (.ref 124)), some (.inl 1), none, none] [] A0 Q := by
    intro A0 k0 f0 a0
    have n0 : A0 124 7 = M 124 7 := k0.2 7 (by omega)
    have t0 : A0 128 = M 128 := k0.1 128 (by decide)
    refine fs_r_call (sta := false) (idx := 113) (as := [.inr (.ref 124)]) (rest := []) (L1 := [some (.inr (.ref 124)), some (.inl 1), none, none]) (st1 := [.inr (.ref 124)]) (M1 := A0) (ob := []) rfl rfl rfl trivial rfl rfl (Nat.le_of_ble_eq_true rfl) ⟨Or.inr (Nat.le_of_ble_eq_true rfl), Or.inr fs_ob124⟩ (by decide) ?_
    refine fs_m_nextToken (by rw [a0, n0]; omega) (fun (A1 : fs_M) (s1 : sk A0 A1) (t1 : TS A1 (A0 124 8) (A0 124 12)) => ?_)
    rw [a0, f0] at t1
    have kA1 : sk M A1 := k0.tr s1
    have tA1 : A1 128 = M 128 := kA1.1 128 (by decide)
    have nA1 : A1 124 7 = M 124 7 := kA1.2 7 (by omega)
    have e51 : A1 125 = M 125 := kA1.1 125 (by decide)
    have e510 : A1 125 0 = M 125 0 := by rw [e51]
    refine fs_r_call (sta := false) (idx := 116) (as := [.inr (.ref 124), .inl 0, .inl ((A1 125 0) - 1)]) (rest := []) (L1 := [some (.inr (.ref 124)), some (.inl 1), none, none]) (st1 := [.inl ((A1 125 0) - 1), .inl 0, .inr (.ref 124)]) (M1 := A1) (ob := [124 < fs_N ∧ fs_kd 124 = 6, (125 < fs_N ∧ fs_kd 125 = 100) ∧ (0 : Int) ≤ 0 ∧ 0 < fs_ln 125, fs_rg ((A1 125 0) - 1)]) rfl rfl (fs_exA 6 (o1 := [124 < fs_N ∧ fs_kd 124 = 6, (125 < fs_N ∧ fs_kd 125 = 100) ∧ (0 : Int) ≤ 0 ∧ 0 < fs_ln 125]) (L1 := [some (.inr (.ref 124)), some (.inl 1), none, none]) (st1 := [.inl (A1 125 0), .inl 0, .inr (.ref 124)]) (M1 := A1) (o2 := [fs_rg ((A1 125 0) - 1)]) rfl rfl) (fs_oc fs_ob124 (fs_oc (fs_ar125 (by omega) (by omega)) (fs_oc ⟨by omega, by omega⟩ trivial))) rfl rfl (Nat.le_of_ble_eq_true rfl) ⟨Or.inr (Nat.le_of_ble_eq_true rfl), Or.inr fs_ob124⟩ (by decide) ?_
    refine fs_m_number (p := (M 124 8)) (f := (if M 125 (100 + 13 * 1) = 4 then M 124 10 else -1)) (t1) (by rw [nA1]; omega) (by omega) (fun (x2 : Int) (A2 : fs_M) (s2 : sk A1 A2) (t2 : TS A2 (nE (A1 128) (A1 124 7) (M 124 8)) (nF (A1 128) (A1 124 7) 0 ((A1 125 0) - 1) (if M 125 (100 + 13 * 1) = 4 then M 124 10 else -1) (M 124 8))) (v2 : nF (A1 128) (A1 124 7) 0 ((A1 125 0) - 1) (if M 125 (100 + 13 * 1) = 4 then M 124 10 else -1) (M 124 8) = -1 → x2 = nV (A1 128) (A1 124 7) (M 124 8)) => ?_)
    rw [e510] at t2 v2
    rw [tA1, nA1] at t2 v2
    have kA2 : sk M A2 := kA1.tr s2
    have tA2 : A2 128 = M 128 := kA2.1 128 (by decide)
    have nA2 : A2 124 7 = M 124 7 := kA2.2 7 (by omega)
    refine fs_r_if (a := 1) (L1 := [some (.inr (.ref 124)), some (.inl 1), some (.inl x2), none]) (st1 := [.inl 0, .inr (.ref 124)]) (M1 := A2) (ob := [2 < 4]) rfl rfl (fs_oc (by decide) trivial) (fun _ => ?_) (fun h => absurd (by decide : ¬ (1 : Int) = 0) h)
    refine fs_r_nop (L1 := [some (.inr (.ref 124)), some (.inl 1), some (.inl x2), none]) (st1 := [.inl 200, .inl 0, .inr (.ref 124)]) (M1 := A2) (ob := []) rfl rfl trivial ?_
    refine fs_r_call (sta := false) (idx := 116) (as := [.inr (.ref 124), .inl 0, .inl 200]) (rest := []) (L1 := [some (.inr (.ref 124)), some (.inl 1), some (.inl x2), none]) (st1 := [.inl 200, .inl 0, .inr (.ref 124)]) (M1 := A2) (ob := []) rfl rfl rfl trivial rfl rfl (Nat.le_of_ble_eq_true rfl) ⟨Or.inr (Nat.le_of_ble_eq_true rfl), Or.inr fs_ob124⟩ (by decide) ?_
    refine fs_m_number (p := (nE (M 128) (M 124 7) (M 124 8))) (f := (nF (M 128) (M 124 7) 0 (M 125 0 - 1) (if M 125 (100 + 13 * 1) = 4 then M 124 10 else -1) (M 124 8))) (t2) (by rw [nA2]; omega) (by omega) (fun (x3 : Int) (A3 : fs_M) (s3 : sk A2 A3) (t3 : TS A3 (nE (A2 128) (A2 124 7) (nE (M 128) (M 124 7) (M 124 8))) (nF (A2 128) (A2 124 7) 0 200 (nF (M 128) (M 124 7) 0 (M 125 0 - 1) (if M 125 (100 + 13 * 1) = 4 then M 124 10 else -1) (M 124 8)) (nE (M 128) (M 124 7) (M 124 8)))) (v3 : nF (A2 128) (A2 124 7) 0 200 (nF (M 128) (M 124 7) 0 (M 125 0 - 1) (if M 125 (100 + 13 * 1) = 4 then M 124 10 else -1) (M 124 8)) (nE (M 128) (M 124 7) (M 124 8)) = -1 → x3 = nV (A2 128) (A2 124 7) (nE (M 128) (M 124 7) (M 124 8))) => ?_)
    rw [tA2, nA2] at t3 v3
    have kA3 : sk M A3 := kA2.tr s3
    have tA3 : A3 128 = M 128 := kA3.1 128 (by decide)
    have nA3 : A3 124 7 = M 124 7 := kA3.2 7 (by omega)
    refine fs_r_icmp (a := (A3 124 12)) (y := (-1)) (L1 := [some (.inr (.ref 124)), some (.inl 1), some (.inl x2), some (.inl x3)]) (st1 := []) (M1 := A3) (ob := [3 < 4, 124 < fs_N ∧ fs_kd 124 = 6]) rfl rfl (fs_oc (by decide) (fs_oc fs_ob124 trivial)) (fun (h1 : ¬ (A3 124 12) = (-1)) => ?_) (fun (h1 : ¬ (¬ (A3 124 12) = (-1))) => ?_)
    · refine fs_r_ret (L1 := [some (.inr (.ref 124)), some (.inl 1), some (.inl x2), some (.inl x3)]) (M1 := A3) (ob := []) rfl rfl trivial ?_
      first
        | (refine hq0 L ((sk5.of kA3).tr ⟨fun r _ b => lf r b, fun i _ => by rw [lf 124 (by decide)]⟩) (t3.sk (lf 124 (by decide)) (lf 128 (by decide))) (fun _ => ?_)
           rw [ln9, e5, y2, y3]
           rfl)
        | exact hq0 _ (sk5.of kA3) t3 (fun z => absurd z (by omega))
    have z3 : A3 124 12 = -1 := by omega
    have w3 := (t3.fz z3).1
    have w2 := (nF_ok w3 (by omega)).1
    have w1 := (nF_ok w2 (by omega)).1
    have n4 : M 125 (100 + 13 * 1) ≠ 4 := fun y => by rw [if_pos y] at w1; omega
    have y3 := v3 w3
    have y2 := v2 w2
    have e5 : A3 125 = M 125 := kA3.1 125 (by decide)
    have hs9 := hI.2.2.2.2.2.2.1 1 (by omega) (by omega)
    refine fs_r_call (sta := false) (idx := 119) (as := [.inr (.ref 124), .inl 1, .inl 1, .inl x2, .inl x3]) (rest := []) (L1 := [some (.inr (.ref 124)), some (.inl 1), some (.inl x2), some (.inl x3)]) (st1 := [.inl x3, .inl x2, .inl 1, .inl 1, .inr (.ref 124)]) (M1 := A3) (ob := []) rfl rfl rfl trivial rfl rfl (Nat.le_of_ble_eq_true rfl) ⟨Or.inr (Nat.le_of_ble_eq_true rfl), Or.inr fs_ob124⟩ (by decide) ?_
    refine fs_m_lays (by omega) (by rw [e5]; omega) (fun (L : fs_M) (lf : ∀ r, r ≠ 125 → L r = A3 r) (ln9 : L 125 = up1 (up1 (up1 (up1 (A3 125) (100 + 13 * 1 + 1 + 3 * A3 125 (100 + 13 * 1)) 1) (100 + 13 * 1 + 1 + 3 * A3 125 (100 + 13 * 1) + 1) x2) (100 + 13 * 1 + 1 + 3 * A3 125 (100 + 13 * 1) + 2) x3) (100 + 13 * 1) (A3 125 (100 + 13 * 1) + 1)) => ?_)
    refine fs_r_ret (L1 := [some (.inr (.ref 124)), some (.inl 1), some (.inl x2), some (.inl x3)]) (M1 := L) (ob := []) rfl rfl trivial ?_
    first
      | (refine hq0 L ((sk5.of kA3).tr ⟨fun r _ b => lf r b, fun i _ => by rw [lf 124 (by decide)]⟩) (t3.sk (lf 124 (by decide)) (lf 128 (by decide))) (fun _ => ?_)
         rw [ln9, e5, y2, y3]
         rfl)
      | exact hq0 _ (sk5.of kA3) t3 (fun z => absurd z (by omega))
  refine fs_r_icmp (a := (M 125 (100 + (13 * 1)))) (y := 4) (L1 := [some (.inr (.ref 124)), some (.inl 1), none, none]) (st1 := []) (M1 := M) (ob := [124 < fs_N ∧ fs_kd 124 = 6, fs_rg (13 * 1), fs_rg (100 + (13 * 1)), (125 < fs_N ∧ fs_kd 125 = 100) ∧ (0 : Int) ≤ (100 + (13 * 1)) ∧ (100 + (13 * 1)) < fs_ln 125]) rfl (fs_exA 6 (o1 := [124 < fs_N ∧ fs_kd 124 = 6, fs_rg (13 * 1)]) (L1 := [some (.inr (.ref 124)), some (.inl 1), none, none]) (st1 := [.inl (13 * 1), .inl 100, .inr (.ref 125)]) (M1 := M) (o2 := [fs_rg (100 + (13 * 1)), (125 < fs_N ∧ fs_kd 125 = 100) ∧ (0 : Int) ≤ (100 + (13 * 1)) ∧ (100 + (13 * 1)) < fs_ln 125]) rfl rfl) (fs_oc fs_ob124 (fs_oc ⟨by omega, by omega⟩ (fs_oc ⟨by omega, by omega⟩ (fs_oc (fs_ar125 (by omega) (by omega)) trivial)))) (fun (h2 : ¬ (M 125 (100 + (13 * 1))) = 4) => ?_) (fun (h2 : ¬ (¬ (M 125 (100 + (13 * 1))) = 4)) => ?_)
  · exact join24 M (by first | exact sk.rf | exact sk.rf.up (by omega)) (by first | (rw [if_neg (by omega)]; exact hz) | (rw [fs_up_at, if_pos rfl, if_pos hz, if_pos (by omega)])) (by first | rfl | rw [fs_up_at, if_neg (by omega)])
  refine fs_r_call (sta := false) (idx := 101) (as := [.inr (.ref 124), .inl (M 124 10)]) (rest := []) (L1 := [some (.inr (.ref 124)), some (.inl 1), none, none]) (st1 := [.inl (M 124 10), .inr (.ref 124)]) (M1 := M) (ob := [124 < fs_N ∧ fs_kd 124 = 6]) rfl rfl rfl (fs_oc fs_ob124 trivial) rfl rfl (Nat.le_of_ble_eq_true rfl) ⟨Or.inr (Nat.le_of_ble_eq_true rfl), Or.inr fs_ob124⟩ (by decide) ?_
  refine fs_m_wrong ?_
  exact join24 (fs_up M 124 12 (if M 124 12 = -1 then (M 124 10) else M 124 12)) (by first | exact sk.rf | exact sk.rf.up (by omega)) (by first | (rw [if_neg (by omega)]; exact hz) | (rw [fs_up_at, if_pos rfl, if_pos hz, if_pos (by omega)])) (by first | rfl | rw [fs_up_at, if_neg (by omega)])

theorem fs_m_readLoan {d : Nat} {M : fs_M} {Q : Option fs_V → fs_M → Prop}   (hI : fs_NI (M 125)) (hz : M 124 12 = -1) (he : (0 ≤ M 124 10 ∧ 0 ≤ M 124 8 ∧ M 124 8 ≤ M 124 7) ∧ M 124 7 ≤ 800) (hq0 : ∀ (M2 : fs_M), (sk5 M M2) → (TS M2 (nE (M 128) (M 124 7) (nE (M 128) (M 124 7) (nE (M 128) (M 124 7) (M 124 8)))) ((nF (M 128) (M 124 7) 0 999 (j2F (M 128) (M 124 7) (M 125) (M 124 8)) (nE (M 128) (M 124 7) (nE (M 128) (M 124 7) (M 124 8)))))) → (M2 124 12 = -1 → M2 125 = jN (M 128) (M 124 7) (M 125) (M 124 8)) → Q none M2) : fs_W (d + 4) 181 0 [some (.inr (.ref 124)), none, none, none] [] M Q := by
  have hH := hI.2.1
  have b1 := nE_b (T := M 128) (n := M 124 7) (p := M 124 8) ⟨he.1.2.1, he.1.2.2⟩
  have b2 := nE_b (T := M 128) (n := M 124 7) (p := nE (M 128) (M 124 7) (M 124 8)) ⟨by omega, b1.2.1⟩
  have b3 := nE_b (T := M 128) (n := M 124 7) (p := nE (M 128) (M 124 7) (nE (M 128) (M 124 7) (M 124 8))) ⟨by omega, b2.2.1⟩
  refine fs_r_call (sta := false) (idx := 113) (as := [.inr (.ref 124)]) (rest := []) (L1 := [some (.inr (.ref 124)), none, none, none]) (st1 := [.inr (.ref 124)]) (M1 := M) (ob := []) rfl rfl rfl trivial rfl rfl (Nat.le_of_ble_eq_true rfl) ⟨Or.inr (Nat.le_of_ble_eq_true rfl), Or.inr fs_ob124⟩ (by decide) ?_
  refine fs_m_nextToken (by omega) (fun (A1 : fs_M) (s1 : sk M A1) (t1 : TS A1 (M 124 8) (M 124 12)) => ?_)
  rw [hz] at t1
  have kA1 := s1
  have tA1 : A1 128 = M 128 := kA1.1 128 (by decide)
  have nA1 : A1 124 7 = M 124 7 := kA1.2 7 (by omega)
  have e51 : A1 125 = M 125 := kA1.1 125 (by decide)
  have e511 : A1 125 1 = M 125 1 := by rw [e51]
  refine fs_r_call (sta := false) (idx := 116) (as := [.inr (.ref 124), .inl 0, .inl ((A1 125 1) - 1)]) (rest := []) (L1 := [some (.inr (.ref 124)), none, none, none]) (st1 := [.inl ((A1 125 1) - 1), .inl 0, .inr (.ref 124)]) (M1 := A1) (ob := [124 < fs_N ∧ fs_kd 124 = 6, (125 < fs_N ∧ fs_kd 125 = 100) ∧ (0 : Int) ≤ 1 ∧ 1 < fs_ln 125, fs_rg ((A1 125 1) - 1)]) rfl rfl (fs_exA 6 (o1 := [124 < fs_N ∧ fs_kd 124 = 6, (125 < fs_N ∧ fs_kd 125 = 100) ∧ (0 : Int) ≤ 1 ∧ 1 < fs_ln 125]) (L1 := [some (.inr (.ref 124)), none, none, none]) (st1 := [.inl (A1 125 1), .inl 0, .inr (.ref 124)]) (M1 := A1) (o2 := [fs_rg ((A1 125 1) - 1)]) rfl rfl) (fs_oc fs_ob124 (fs_oc (fs_ar125 (by omega) (by omega)) (fs_oc ⟨by omega, by omega⟩ trivial))) rfl rfl (Nat.le_of_ble_eq_true rfl) ⟨Or.inr (Nat.le_of_ble_eq_true rfl), Or.inr fs_ob124⟩ (by decide) ?_
  refine fs_m_number (p := (M 124 8)) (f := (-1)) (t1) (by rw [nA1]; omega) (by omega) (fun (x2 : Int) (A2 : fs_M) (s2 : sk A1 A2) (t2 : TS A2 (nE (A1 128) (A1 124 7) (M 124 8)) (nF (A1 128) (A1 124 7) 0 ((A1 125 1) - 1) (-1) (M 124 8))) (v2 : nF (A1 128) (A1 124 7) 0 ((A1 125 1) - 1) (-1) (M 124 8) = -1 → x2 = nV (A1 128) (A1 124 7) (M 124 8)) => ?_)
  rw [e511] at t2 v2
  rw [tA1, nA1] at t2 v2
  have kA2 : sk M A2 := kA1.tr s2
  have tA2 : A2 128 = M 128 := kA2.1 128 (by decide)
  have nA2 : A2 124 7 = M 124 7 := kA2.2 7 (by omega)
  have join50 : ∀  (A4 : fs_M), (sk M A4) → (∃ f, TS A4 (nE (M 128) (M 124 7) (M 124 8)) f ∧ nF (M 128) (M 124 7) 0 (M 125 1 - 1) f (nE (M 128) (M 124 7) (M 124 8)) = j2F (M 128) (M 124 7) (M 125) (M 124 8)) → fs_W (d + 4) 181 50 [some (.inr (.ref 124)), some (.inl x2), none, none] [] A4 Q := by
    intro A4 k4 e4
    obtain ⟨f4, t4, j4⟩ := e4
    have kA4 := k4
    have tA4 : A4 128 = M 128 := kA4.1 128 (by decide)
    have nA4 : A4 124 7 = M 124 7 := kA4.2 7 (by omega)
    have e45 : A4 125 = M 125 := kA4.1 125 (by decide)
    have e451 : A4 125 1 = M 125 1 := by rw [e45]
    refine fs_r_call (sta := false) (idx := 116) (as := [.inr (.ref 124), .inl 0, .inl ((A4 125 1) - 1)]) (rest := []) (L1 := [some (.inr (.ref 124)), some (.inl x2), none, none]) (st1 := [.inl ((A4 125 1) - 1), .inl 0, .inr (.ref 124)]) (M1 := A4) (ob := [124 < fs_N ∧ fs_kd 124 = 6, (125 < fs_N ∧ fs_kd 125 = 100) ∧ (0 : Int) ≤ 1 ∧ 1 < fs_ln 125, fs_rg ((A4 125 1) - 1)]) rfl rfl (fs_exA 6 (o1 := [124 < fs_N ∧ fs_kd 124 = 6, (125 < fs_N ∧ fs_kd 125 = 100) ∧ (0 : Int) ≤ 1 ∧ 1 < fs_ln 125]) (L1 := [some (.inr (.ref 124)), some (.inl x2), none, none]) (st1 := [.inl (A4 125 1), .inl 0, .inr (.ref 124)]) (M1 := A4) (o2 := [fs_rg ((A4 125 1) - 1)]) rfl rfl) (fs_oc fs_ob124 (fs_oc (fs_ar125 (by omega) (by omega)) (fs_oc ⟨by omega, by omega⟩ trivial))) rfl rfl (Nat.le_of_ble_eq_true rfl) ⟨Or.inr (Nat.le_of_ble_eq_true rfl), Or.inr fs_ob124⟩ (by decide) ?_
    refine fs_m_number (p := (nE (M 128) (M 124 7) (M 124 8))) (f := f4) (t4) (by rw [nA4]; omega) (by omega) (fun (x5 : Int) (A5 : fs_M) (s5 : sk A4 A5) (t5 : TS A5 (nE (A4 128) (A4 124 7) (nE (M 128) (M 124 7) (M 124 8))) (nF (A4 128) (A4 124 7) 0 ((A4 125 1) - 1) f4 (nE (M 128) (M 124 7) (M 124 8)))) (v5 : nF (A4 128) (A4 124 7) 0 ((A4 125 1) - 1) f4 (nE (M 128) (M 124 7) (M 124 8)) = -1 → x5 = nV (A4 128) (A4 124 7) (nE (M 128) (M 124 7) (M 124 8))) => ?_)
    rw [e451] at t5 v5
    rw [tA4, nA4] at t5 v5
    rw [j4] at t5
    have kA5 : sk M A5 := kA4.tr s5
    have tA5 : A5 128 = M 128 := kA5.1 128 (by decide)
    have nA5 : A5 124 7 = M 124 7 := kA5.2 7 (by omega)
    refine fs_r_call (sta := false) (idx := 116) (as := [.inr (.ref 124), .inl 0, .inl 999]) (rest := []) (L1 := [some (.inr (.ref 124)), some (.inl x2), some (.inl x5), none]) (st1 := [.inl 999, .inl 0, .inr (.ref 124)]) (M1 := A5) (ob := [2 < 4]) rfl rfl rfl (fs_oc (by decide) trivial) rfl rfl (Nat.le_of_ble_eq_true rfl) ⟨Or.inr (Nat.le_of_ble_eq_true rfl), Or.inr fs_ob124⟩ (by decide) ?_
    refine fs_m_number (p := (nE (M 128) (M 124 7) (nE (M 128) (M 124 7) (M 124 8)))) (f := (j2F (M 128) (M 124 7) (M 125) (M 124 8))) (t5) (by rw [nA5]; omega) (by omega) (fun (x6 : Int) (A6 : fs_M) (s6 : sk A5 A6) (t6 : TS A6 (nE (A5 128) (A5 124 7) (nE (M 128) (M 124 7) (nE (M 128) (M 124 7) (M 124 8)))) (nF (A5 128) (A5 124 7) 0 999 (j2F (M 128) (M 124 7) (M 125) (M 124 8)) (nE (M 128) (M 124 7) (nE (M 128) (M 124 7) (M 124 8))))) (v6 : nF (A5 128) (A5 124 7) 0 999 (j2F (M 128) (M 124 7) (M 125) (M 124 8)) (nE (M 128) (M 124 7) (nE (M 128) (M 124 7) (M 124 8))) = -1 → x6 = nV (A5 128) (A5 124 7) (nE (M 128) (M 124 7) (nE (M 128) (M 124 7) (M 124 8)))) => ?_)
    rw [tA5, nA5] at t6 v6
    have kA6 : sk M A6 := kA5.tr s6
    have tA6 : A6 128 = M 128 := kA6.1 128 (by decide)
    have nA6 : A6 124 7 = M 124 7 := kA6.2 7 (by omega)
    refine fs_r_icmp (a := (A6 124 12)) (y := (-1)) (L1 := [some (.inr (.ref 124)), some (.inl x2), some (.inl x5), some (.inl x6)]) (st1 := []) (M1 := A6) (ob := [3 < 4, 124 < fs_N ∧ fs_kd 124 = 6]) rfl rfl (fs_oc (by decide) (fs_oc fs_ob124 trivial)) (fun (h1 : ¬ (A6 124 12) = (-1)) => ?_) (fun (h1 : ¬ (¬ (A6 124 12) = (-1))) => ?_)
    · refine fs_r_ret (L1 := [some (.inr (.ref 124)), some (.inl x2), some (.inl x5), some (.inl x6)]) (M1 := A6) (ob := []) rfl rfl trivial ?_
      first
        | (refine hq0 _ (sk5.of kA6).up t6.u5 (fun _ => ?_)
           rw [fs_up_self, e5, y2, y5, y6]
           rfl)
        | exact hq0 _ (sk5.of kA6) t6 (fun z => absurd z (by omega))
    have z6 : A6 124 12 = -1 := by omega
    have w6 := (t6.fz z6).1
    have w5 := (nF_ok w6 (by omega)).1
    have jo := j2F_ok w5 ⟨he.1.2.1, he.1.2.2⟩
    have o2 := nF_ok jo (by omega)
    have o1 := nF_ok o2.1 (by omega)
    have y6 := v6 w6
    have y5 := v5 (by rw [j4]; exact w5)
    have y2 := v2 o2.1
    have r1 := o1.2.2.2.2
    have r2 := o2.2.2.2.2
    have e5 : A6 125 = M 125 := kA6.1 125 (by decide)
    refine fs_r_nop (L1 := [some (.inr (.ref 124)), some (.inl x2), some (.inl x5), some (.inl x6)]) (st1 := []) (M1 := (fs_up A6 125 ((64 + (6 * x2)) + x5) x6)) (ob := [124 < fs_N ∧ fs_kd 124 = 6, fs_rg (6 * x2), fs_rg (64 + (6 * x2)), fs_rg ((64 + (6 * x2)) + x5), (125 < fs_N ∧ fs_kd 125 = 100) ∧ (0 : Int) ≤ ((64 + (6 * x2)) + x5) ∧ ((64 + (6 * x2)) + x5) < fs_ln 125]) rfl (fs_exA 6 (o1 := [124 < fs_N ∧ fs_kd 124 = 6, fs_rg (6 * x2)]) (L1 := [some (.inr (.ref 124)), some (.inl x2), some (.inl x5), some (.inl x6)]) (st1 := [.inl (6 * x2), .inl 64, .inr (.ref 125)]) (M1 := A6) (o2 := [fs_rg (64 + (6 * x2)), fs_rg ((64 + (6 * x2)) + x5), (125 < fs_N ∧ fs_kd 125 = 100) ∧ (0 : Int) ≤ ((64 + (6 * x2)) + x5) ∧ ((64 + (6 * x2)) + x5) < fs_ln 125]) rfl rfl) (fs_oc fs_ob124 (fs_oc ⟨by omega, by omega⟩ (fs_oc ⟨by omega, by omega⟩ (fs_oc ⟨by omega, by omega⟩ (fs_oc (fs_ar125 (by omega) (by omega)) trivial))))) ?_
    refine fs_r_ret (L1 := [some (.inr (.ref 124)), some (.inl x2), some (.inl x5), some (.inl x6)]) (M1 := (fs_up A6 125 ((64 + (6 * x2)) + x5) x6)) (ob := []) rfl rfl trivial ?_
    first
      | (refine hq0 _ (sk5.of kA6).up t6.u5 (fun _ => ?_)
         rw [fs_up_self, e5, y2, y5, y6]
         rfl)
      | exact hq0 _ (sk5.of kA6) t6 (fun z => absurd z (by omega))
  refine fs_r_icmp (a := (A2 124 12)) (y := (-1)) (L1 := [some (.inr (.ref 124)), some (.inl x2), none, none]) (st1 := []) (M1 := A2) (ob := [1 < 4, 124 < fs_N ∧ fs_kd 124 = 6]) rfl rfl (fs_oc (by decide) (fs_oc fs_ob124 trivial)) (fun (h2 : ¬ (A2 124 12) = (-1)) => ?_) (fun (h2 : ¬ (¬ (A2 124 12) = (-1))) => ?_)
  · exact join50 A2 (by first | exact kA2 | exact kA2.up (by omega)) (by
        first
          | (refine ⟨_, t2, ?_⟩
             unfold j2F
             refine (if_neg (fun y => ?_)).symm
             obtain ⟨y1, y2⟩ := y
             have o := nF_ok y1 (by omega)
             have x := v2 o.1
             have tk : TK A2 (nE (M 128) (M 124 7) (M 124 8)) := by rcases t2 with w | w; exact absurd o.1 w.1; exact w.2
             have nk := o.2
             have z2 : A2 124 12 = -1 := by
               have w := tk.1
               rw [tA2, nA2, if_neg nk.2.1] at w
               exact w
             have w := (tk.n (lo := 0) (hi := M 125 1 - 1) (by omega) z2 (by omega)).mpr (by rw [tA2, nA2]; exact nk)
             have v := tk.v w.1
             rw [tA2, nA2, if_neg (by have u := nk.2.2.1; omega)] at v
             omega)
          | (have z2 : A2 124 12 = -1 := by omega
             obtain ⟨o, tk⟩ := t2.fz z2
             have o1 := (nF_ok o (by omega)).2.2.2.2
             have x := v2 o
             have v := tk.v (by omega)
             have q9 := tk.2.1
             rw [tA2, nA2] at v q9
             have le : ¬ 4 < nE (M 128) (M 124 7) (nE (M 128) (M 124 7) (M 124 8)) - qB (M 128) (M 124 7) (nE (M 128) (M 124 7) (M 124 8)) := fun y => by
               rw [if_pos y] at v
               omega
             rw [if_neg le] at v
             have nk : nOk (M 128) (M 124 7) 0 (M 125 1 - 1) (nE (M 128) (M 124 7) (M 124 8)) := by
               have w := (tk.n (lo := 0) (hi := M 125 1 - 1) (by omega) z2 (by omega)).mp ⟨by omega, by omega, by omega⟩
               rw [tA2, nA2] at w
               exact w
             have qq := qB_b (M 128) (M 124 7) (nE (M 128) (M 124 7) (M 124 8))
             refine ⟨qB (M 128) (M 124 7) (nE (M 128) (M 124 7) (M 124 8)), Or.inl ⟨by omega, ?_⟩, ?_⟩
             · rw [fs_up_at, if_pos rfl, if_pos z2, q9]
             · rw [nF_ne (by omega)]
               unfold j2F
               refine (if_pos ⟨?_, by omega⟩).symm
               rw [o]
               unfold nF
               rw [if_pos rfl, if_pos nk]))
  refine fs_r_icmp (a := (A2 124 9)) (y := 2) (L1 := [some (.inr (.ref 124)), some (.inl x2), none, none]) (st1 := []) (M1 := A2) (ob := [124 < fs_N ∧ fs_kd 124 = 6]) rfl rfl (fs_oc fs_ob124 trivial) (fun (h3 : ¬ (A2 124 9) = 2) => ?_) (fun (h3 : ¬ (¬ (A2 124 9) = 2)) => ?_)
  · exact join50 A2 (by first | exact kA2 | exact kA2.up (by omega)) (by
        first
          | (refine ⟨_, t2, ?_⟩
             unfold j2F
             refine (if_neg (fun y => ?_)).symm
             obtain ⟨y1, y2⟩ := y
             have o := nF_ok y1 (by omega)
             have x := v2 o.1
             have tk : TK A2 (nE (M 128) (M 124 7) (M 124 8)) := by rcases t2 with w | w; exact absurd o.1 w.1; exact w.2
             have nk := o.2
             have z2 : A2 124 12 = -1 := by
               have w := tk.1
               rw [tA2, nA2, if_neg nk.2.1] at w
               exact w
             have w := (tk.n (lo := 0) (hi := M 125 1 - 1) (by omega) z2 (by omega)).mpr (by rw [tA2, nA2]; exact nk)
             have v := tk.v w.1
             rw [tA2, nA2, if_neg (by have u := nk.2.2.1; omega)] at v
             omega)
          | (have z2 : A2 124 12 = -1 := by omega
             obtain ⟨o, tk⟩ := t2.fz z2
             have o1 := (nF_ok o (by omega)).2.2.2.2
             have x := v2 o
             have v := tk.v (by omega)
             have q9 := tk.2.1
             rw [tA2, nA2] at v q9
             have le : ¬ 4 < nE (M 128) (M 124 7) (nE (M 128) (M 124 7) (M 124 8)) - qB (M 128) (M 124 7) (nE (M 128) (M 124 7) (M 124 8)) := fun y => by
               rw [if_pos y] at v
               omega
             rw [if_neg le] at v
             have nk : nOk (M 128) (M 124 7) 0 (M 125 1 - 1) (nE (M 128) (M 124 7) (M 124 8)) := by
               have w := (tk.n (lo := 0) (hi := M 125 1 - 1) (by omega) z2 (by omega)).mp ⟨by omega, by omega, by omega⟩
               rw [tA2, nA2] at w
               exact w
             have qq := qB_b (M 128) (M 124 7) (nE (M 128) (M 124 7) (M 124 8))
             refine ⟨qB (M 128) (M 124 7) (nE (M 128) (M 124 7) (M 124 8)), Or.inl ⟨by omega, ?_⟩, ?_⟩
             · rw [fs_up_at, if_pos rfl, if_pos z2, q9]
             · rw [nF_ne (by omega)]
               unfold j2F
               refine (if_pos ⟨?_, by omega⟩).symm
               rw [o]
               unfold nF
               rw [if_pos rfl, if_pos nk]))
  refine fs_r_icmp (a := (A2 124 11)) (y := x2) (L1 := [some (.inr (.ref 124)), some (.inl x2), none, none]) (st1 := []) (M1 := A2) (ob := [124 < fs_N ∧ fs_kd 124 = 6]) rfl rfl (fs_oc fs_ob124 trivial) (fun (h4 : ¬ (A2 124 11) = x2) => ?_) (fun (h4 : ¬ (¬ (A2 124 11) = x2)) => ?_)
  · exact join50 A2 (by first | exact kA2 | exact kA2.up (by omega)) (by
        first
          | (refine ⟨_, t2, ?_⟩
             unfold j2F
             refine (if_neg (fun y => ?_)).symm
             obtain ⟨y1, y2⟩ := y
             have o := nF_ok y1 (by omega)
             have x := v2 o.1
             have tk : TK A2 (nE (M 128) (M 124 7) (M 124 8)) := by rcases t2 with w | w; exact absurd o.1 w.1; exact w.2
             have nk := o.2
             have z2 : A2 124 12 = -1 := by
               have w := tk.1
               rw [tA2, nA2, if_neg nk.2.1] at w
               exact w
             have w := (tk.n (lo := 0) (hi := M 125 1 - 1) (by omega) z2 (by omega)).mpr (by rw [tA2, nA2]; exact nk)
             have v := tk.v w.1
             rw [tA2, nA2, if_neg (by have u := nk.2.2.1; omega)] at v
             omega)
          | (have z2 : A2 124 12 = -1 := by omega
             obtain ⟨o, tk⟩ := t2.fz z2
             have o1 := (nF_ok o (by omega)).2.2.2.2
             have x := v2 o
             have v := tk.v (by omega)
             have q9 := tk.2.1
             rw [tA2, nA2] at v q9
             have le : ¬ 4 < nE (M 128) (M 124 7) (nE (M 128) (M 124 7) (M 124 8)) - qB (M 128) (M 124 7) (nE (M 128) (M 124 7) (M 124 8)) := fun y => by
               rw [if_pos y] at v
               omega
             rw [if_neg le] at v
             have nk : nOk (M 128) (M 124 7) 0 (M 125 1 - 1) (nE (M 128) (M 124 7) (M 124 8)) := by
               have w := (tk.n (lo := 0) (hi := M 125 1 - 1) (by omega) z2 (by omega)).mp ⟨by omega, by omega, by omega⟩
               rw [tA2, nA2] at w
               exact w
             have qq := qB_b (M 128) (M 124 7) (nE (M 128) (M 124 7) (M 124 8))
             refine ⟨qB (M 128) (M 124 7) (nE (M 128) (M 124 7) (M 124 8)), Or.inl ⟨by omega, ?_⟩, ?_⟩
             · rw [fs_up_at, if_pos rfl, if_pos z2, q9]
             · rw [nF_ne (by omega)]
               unfold j2F
               refine (if_pos ⟨?_, by omega⟩).symm
               rw [o]
               unfold nF
               rw [if_pos rfl, if_pos nk]))
  refine fs_r_call (sta := false) (idx := 101) (as := [.inr (.ref 124), .inl (A2 124 10)]) (rest := []) (L1 := [some (.inr (.ref 124)), some (.inl x2), none, none]) (st1 := [.inl (A2 124 10), .inr (.ref 124)]) (M1 := A2) (ob := [124 < fs_N ∧ fs_kd 124 = 6]) rfl rfl rfl (fs_oc fs_ob124 trivial) rfl rfl (Nat.le_of_ble_eq_true rfl) ⟨Or.inr (Nat.le_of_ble_eq_true rfl), Or.inr fs_ob124⟩ (by decide) ?_
  refine fs_m_wrong ?_
  exact join50 (fs_up A2 124 12 (if A2 124 12 = -1 then (A2 124 10) else A2 124 12)) (by first | exact kA2 | exact kA2.up (by omega)) (by
      first
        | (refine ⟨_, t2, ?_⟩
           unfold j2F
           refine (if_neg (fun y => ?_)).symm
           obtain ⟨y1, y2⟩ := y
           have o := nF_ok y1 (by omega)
           have x := v2 o.1
           have tk : TK A2 (nE (M 128) (M 124 7) (M 124 8)) := by rcases t2 with w | w; exact absurd o.1 w.1; exact w.2
           have nk := o.2
           have z2 : A2 124 12 = -1 := by
             have w := tk.1
             rw [tA2, nA2, if_neg nk.2.1] at w
             exact w
           have w := (tk.n (lo := 0) (hi := M 125 1 - 1) (by omega) z2 (by omega)).mpr (by rw [tA2, nA2]; exact nk)
           have v := tk.v w.1
           rw [tA2, nA2, if_neg (by have u := nk.2.2.1; omega)] at v
           omega)
        | (have z2 : A2 124 12 = -1 := by omega
           obtain ⟨o, tk⟩ := t2.fz z2
           have o1 := (nF_ok o (by omega)).2.2.2.2
           have x := v2 o
           have v := tk.v (by omega)
           have q9 := tk.2.1
           rw [tA2, nA2] at v q9
           have le : ¬ 4 < nE (M 128) (M 124 7) (nE (M 128) (M 124 7) (M 124 8)) - qB (M 128) (M 124 7) (nE (M 128) (M 124 7) (M 124 8)) := fun y => by
             rw [if_pos y] at v
             omega
           rw [if_neg le] at v
           have nk : nOk (M 128) (M 124 7) 0 (M 125 1 - 1) (nE (M 128) (M 124 7) (M 124 8)) := by
             have w := (tk.n (lo := 0) (hi := M 125 1 - 1) (by omega) z2 (by omega)).mp ⟨by omega, by omega, by omega⟩
             rw [tA2, nA2] at w
             exact w
           have qq := qB_b (M 128) (M 124 7) (nE (M 128) (M 124 7) (M 124 8))
           refine ⟨qB (M 128) (M 124 7) (nE (M 128) (M 124 7) (M 124 8)), Or.inl ⟨by omega, ?_⟩, ?_⟩
           · rw [fs_up_at, if_pos rfl, if_pos z2, q9]
           · rw [nF_ne (by omega)]
             unfold j2F
             refine (if_pos ⟨?_, by omega⟩).symm
             rw [o]
             unfold nF
             rw [if_pos rfl, if_pos nk]))
