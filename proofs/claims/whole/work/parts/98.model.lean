/-! a house sentence, Model: what a fault at hand says of the words -/
theorem TS_nF {M : fs_M} {p f lo hi : Int} (h : TS M p f) (z : ¬ M 124 12 = -1) : nF (M 128) (M 124 7) lo hi f p = M 124 12 := by
  rcases h with ⟨a, b⟩ | ⟨a, b⟩
  · rw [nF_ne a, b]
  · have w := b.f z
    unfold nF
    rw [if_pos a, if_neg (fun y => y.2.1 w.1), w.2]
theorem tx_F_st {T : Int → Int} {n : Int} {N : Int → Int} {q e : Int} {k : Nat} (h : tx_F T n N q e k ≠ -1) : ∀ m, tx_F T n N q e (k + m) = tx_F T n N q e k
  | 0 => rfl
  | m + 1 => by
    have ih := tx_F_st h m
    show nF T n _ _ (tx_F T n N q e (k + m)) _ = _
    rw [ih]
    exact nF_ne h
theorem tx_C_le {T : Int → Int} {n : Int} {N : Int → Int} {e a : Int} (h : skp (tx_Q T n N e) (N 0) a = tx_C T n N e) : a ≤ tx_C T n N e := by
  rw [← h]
  exact (skp_b (P := tx_Q T n N e) (n := N 0) (fun k h => h.1) _ a (Nat.le_refl _)).1
theorem fs_m_readHouse {d : Nat} {M : fs_M} {Q : Option fs_V → fs_M → Prop}   (hI : fs_NI (M 125)) (hz : M 124 12 = -1) (he : (0 ≤ M 124 10 ∧ 0 ≤ M 124 8 ∧ M 124 8 ≤ M 124 7) ∧ M 124 7 ≤ 800) (hq0 : ∀ (M2 : fs_M), (sk5 M M2) → (TS M2 (tx_E (M 128) (M 124 7) (5 + tx_C (M 128) (M 124 7) (M 125) (M 124 8)).toNat (M 124 8)) (tx_F (M 128) (M 124 7) (M 125) (M 124 10) (M 124 8) (5 + tx_C (M 128) (M 124 7) (M 125) (M 124 8)).toNat) ∨ (M2 124 12 ≠ -1 ∧ M2 124 12 = eF (M 128) (M 124 7) (tx_F (M 128) (M 124 7) (M 125) (M 124 10) (M 124 8) (5 + tx_C (M 128) (M 124 7) (M 125) (M 124 8)).toNat) (tx_E (M 128) (M 124 7) (5 + tx_C (M 128) (M 124 7) (M 125) (M 124 8)).toNat (M 124 8)))) → (M2 124 12 = -1 → M2 125 = tx_R (M 128) (M 124 7) (M 125) (M 124 8)) → Q none M2) : fs_W (d + 4) 180 0 [some (.inr (.ref 124)), none, none] [] M Q := by
  have hA := hI.1
  have hH := hI.2.1
  have hb : 0 ≤ M 124 8 ∧ M 124 8 ≤ M 124 7 := ⟨he.1.2.1, he.1.2.2⟩
  have join19 : ∀  (A0 : fs_M), (sk M A0) → (A0 124 12 = if M 125 1 = 6 then M 124 10 else -1) → (A0 124 8 = M 124 8) → fs_W (d + 4) 180 19 [some (.inr (.ref 124)), none, none] [] A0 Q := by
    intro A0 k0 f0 a0
    have n0 : A0 124 7 = M 124 7 := k0.2 7 (by omega)
    have t0 : A0 128 = M 128 := k0.1 128 (by decide)
    refine fs_r_call (sta := false) (idx := 113) (as := [.inr (.ref 124)]) (rest := []) (L1 := [some (.inr (.ref 124)), none, none]) (st1 := [.inr (.ref 124)]) (M1 := A0) (ob := []) rfl rfl rfl trivial rfl rfl (Nat.le_of_ble_eq_true rfl) ⟨Or.inr (Nat.le_of_ble_eq_true rfl), Or.inr fs_ob124⟩ (by decide) ?_
    refine fs_m_nextToken (by rw [a0, n0]; omega) (fun (A1 : fs_M) (s1 : sk A0 A1) (t1 : TS A1 (A0 124 8) (A0 124 12)) => ?_)
    rw [a0, f0] at t1
    have kA1 : sk M A1 := k0.tr s1
    have tA1 : A1 128 = M 128 := kA1.1 128 (by decide)
    have nA1 : A1 124 7 = M 124 7 := kA1.2 7 (by omega)
    have e51 : A1 125 = M 125 := kA1.1 125 (by decide)
    have e511 : A1 125 1 = M 125 1 := by rw [e51]
    refine fs_r_nop (L1 := [some (.inr (.ref 124)), some (.inl (A1 125 1)), some (.inl 0)]) (st1 := []) (M1 := A1) (ob := [124 < fs_N ∧ fs_kd 124 = 6, (125 < fs_N ∧ fs_kd 125 = 100) ∧ (0 : Int) ≤ 1 ∧ 1 < fs_ln 125, 1 < 3, 2 < 3]) rfl rfl (fs_oc fs_ob124 (fs_oc (fs_ar125 (by omega) (by omega)) (fs_oc (by decide) (fs_oc (by decide) trivial)))) ?_
    have loop32 : ∀ (n32 : Nat) (k : Int) (M3 : fs_M), (0 ≤ k ∧ k ≤ 5) → (sk5 M M3) → (TS M3 (tx_E (M 128) (M 124 7) k.toNat (M 124 8)) (tx_F (M 128) (M 124 7) (M 125) (M 124 10) (M 124 8) k.toNat)) → (M3 124 12 = -1 → ∀ j : Nat, (j : Int) < k → M3 125 (10 + 5 * M 125 1 + j) = nV (M 128) (M 124 7) (tx_E (M 128) (M 124 7) j (M 124 8))) → (∀ i, (i < 10 + 5 * M 125 1 ∨ 10 + 5 * M 125 1 + 5 ≤ i) → M3 125 i = M 125 i) → 5 - k < (n32 : Int) → fs_W (d + 4) 180 32 [some (.inr (.ref 124)), some (.inl (A1 125 1)), some (.inl k)] [] M3 Q := by
      intro n32
      induction n32 with
      | zero =>
        intro k M3 i3 k3 t3 c3 d3 hm32
        exfalso
        omega
      | succ n32 ih32 =>
        intro k M3 i3 k3 t3 c3 d3 hm32
        have T3 : M3 128 = M 128 := k3.1 128 (by decide) (by decide)
        have n3 : M3 124 7 = M 124 7 := k3.2 7 (by omega)
        have B3 := tx_E_b (T := M 128) hb k.toNat
        have join100 : ∀  (M4 : fs_M), (sk5 M M4) → (TS M4 (tx_E (M 128) (M 124 7) 5 (M 124 8)) (tx_F (M 128) (M 124 7) (M 125) (M 124 10) (M 124 8) 5)) → (M4 124 12 = -1 → ∀ j : Nat, j < 5 → M4 125 (10 + 5 * M 125 1 + j) = nV (M 128) (M 124 7) (tx_E (M 128) (M 124 7) j (M 124 8))) → (∀ i, (i < 10 + 5 * M 125 1 ∨ 10 + 5 * M 125 1 + 5 ≤ i) → M4 125 i = M 125 i) → fs_W (d + 4) 180 100 [some (.inr (.ref 124)), some (.inl (A1 125 1)), some (.inl k)] [] M4 Q := by
          intro M4 k4 t4 c4 d4
          refine fs_r_nop (L1 := [some (.inr (.ref 124)), some (.inl (A1 125 1)), some (.inl 0)]) (st1 := []) (M1 := M4) (ob := [2 < 3]) rfl rfl (fs_oc (by decide) trivial) ?_
          have loop102 : ∀ (n102 : Nat) (a : Int) (M5 : fs_M), (0 ≤ a ∧ a ≤ M 125 0) → (sk5 M M5) → (TS M5 (tx_E (M 128) (M 124 7) (5 + a).toNat (M 124 8)) (tx_F (M 128) (M 124 7) (M 125) (M 124 10) (M 124 8) (5 + a).toNat)) → (M5 124 12 = -1 → ∀ j : Nat, j < 5 → M5 125 (10 + 5 * M 125 1 + j) = nV (M 128) (M 124 7) (tx_E (M 128) (M 124 7) j (M 124 8))) → (M5 124 12 = -1 → ∀ j : Nat, (j : Int) < a → M5 125 (40 + 4 * M 125 1 + j) = nV (M 128) (M 124 7) (tx_E (M 128) (M 124 7) (5 + j) (M 124 8))) → (∀ i, (i < 10 + 5 * M 125 1 ∨ 10 + 5 * M 125 1 + 5 ≤ i) → (i < 40 + 4 * M 125 1 ∨ 40 + 4 * M 125 1 + a ≤ i) → M5 125 i = M 125 i) → (skp (tx_Q (M 128) (M 124 7) (M 125) (M 124 8)) (M 125 0) a = (tx_C (M 128) (M 124 7) (M 125) (M 124 8))) → M 125 0 - a < (n102 : Int) → fs_W (d + 4) 180 102 [some (.inr (.ref 124)), some (.inl (A1 125 1)), some (.inl a)] [] M5 Q := by
            intro n102
            induction n102 with
            | zero =>
              intro a M5 i5 k5 t5 c5 g5 d5 s5 hm102
              exfalso
              omega
            | succ n102 ih102 =>
              intro a M5 i5 k5 t5 c5 g5 d5 s5 hm102
              have T5 : M5 128 = M 128 := k5.1 128 (by decide) (by decide)
              have n5 : M5 124 7 = M 124 7 := k5.2 7 (by omega)
              have B5 := tx_E_b (T := M 128) hb (5 + a).toNat
              have Q5 := qB_b (M 128) (M 124 7) (tx_E (M 128) (M 124 7) (5 + a).toNat (M 124 8))
              have d50 : M5 125 0 = M 125 0 := d5 0 (by omega) (by omega)
              have d51 : M5 125 1 = M 125 1 := d5 1 (by omega) (by omega)
              have cl := tx_C_le s5
              refine fs_r_icmp (a := (M5 124 12)) (y := (-1)) (L1 := [some (.inr (.ref 124)), some (.inl (A1 125 1)), some (.inl a)]) (st1 := []) (M1 := M5) (ob := [124 < fs_N ∧ fs_kd 124 = 6]) rfl rfl (fs_oc fs_ob124 trivial) (fun (h1 : ¬ (M5 124 12) = (-1)) => ?_) (fun (h1 : ¬ (¬ (M5 124 12) = (-1))) => ?_)
              · refine fs_r_icmp (a := (M5 124 12)) (y := (-1)) (L1 := [some (.inr (.ref 124)), some (.inl (A1 125 1)), some (.inl a)]) (st1 := [.inl (M5 125 1), .inl 1, .inr (.ref 125)]) (M1 := M5) (ob := [124 < fs_N ∧ fs_kd 124 = 6, (125 < fs_N ∧ fs_kd 125 = 100) ∧ (0 : Int) ≤ 1 ∧ 1 < fs_ln 125, 124 < fs_N ∧ fs_kd 124 = 6]) rfl (fs_exA 6 (o1 := [124 < fs_N ∧ fs_kd 124 = 6, (125 < fs_N ∧ fs_kd 125 = 100) ∧ (0 : Int) ≤ 1 ∧ 1 < fs_ln 125]) (L1 := [some (.inr (.ref 124)), some (.inl (A1 125 1)), some (.inl a)]) (st1 := [.inr (.ref 124), .inl (M5 125 1), .inl 1, .inr (.ref 125)]) (M1 := M5) (o2 := [124 < fs_N ∧ fs_kd 124 = 6]) rfl rfl) (fs_oc fs_ob124 (fs_oc (fs_ar125 (by omega) (by omega)) (fs_oc fs_ob124 trivial))) (fun (h2 : ¬ (M5 124 12) = (-1)) => ?_) (fun (h2 : ¬ (¬ (M5 124 12) = (-1))) => ?_)
                · refine fs_r_nop (L1 := [some (.inr (.ref 124)), some (.inl (A1 125 1)), some (.inl a)]) (st1 := [.inl 0, .inl (M5 125 1), .inl 1, .inr (.ref 125)]) (M1 := M5) (ob := []) rfl rfl trivial ?_
                  refine fs_r_ret (L1 := [some (.inr (.ref 124)), some (.inl (A1 125 1)), some (.inl a)]) (M1 := (fs_up M5 125 1 ((M5 125 1) + 0))) (ob := [fs_rg ((M5 125 1) + 0), (125 < fs_N ∧ fs_kd 125 = 100) ∧ (0 : Int) ≤ 1 ∧ 1 < fs_ln 125]) rfl rfl (fs_oc ⟨by omega, by omega⟩ (fs_oc (fs_ar125 (by omega) (by omega)) trivial)) ?_
                  first
                    | (exfalso; omega)
                    | (have z0 : M5 124 12 = -1 := by omega
                       obtain ⟨fz, tk⟩ := t5.fz z0
                       have nd : ¬ xD (M 128) (M 124 7) (qB (M 128) (M 124 7) (tx_E (M 128) (M 124 7) (5 + a).toNat (M 124 8))) := fun y => by
                         have w := tk.d
                         rw [T5, n5] at w
                         have w2 := w.mpr y
                         omega
                       have nq : ¬ tx_Q (M 128) (M 124 7) (M 125) (M 124 8) a := fun y => nd y.2
                       have cE := s5.symm.trans (skp_z nq)
                       refine hq0 _ k5.up (Or.inl (by rw [cE]; exact t5.u5)) (fun _ => ?_)
                       funext i
                       rw [fs_up_at]
                       unfold tx_R
                       by_cases y1 : i = 1
                       · rw [if_pos y1, if_pos y1, d51]
                       rw [if_neg y1, if_neg y1]
                       by_cases y2 : 10 + 5 * M 125 1 ≤ i ∧ i < 10 + 5 * M 125 1 + 5
                       · rw [if_pos y2]
                         have w := c5 z0 (i - (10 + 5 * M 125 1)).toNat (by omega)
                         rw [show 10 + 5 * M 125 1 + (((i - (10 + 5 * M 125 1)).toNat : Nat) : Int) = i by omega] at w
                         exact w
                       rw [if_neg y2]
                       by_cases y3 : 40 + 4 * M 125 1 ≤ i ∧ i < 40 + 4 * M 125 1 + (tx_C (M 128) (M 124 7) (M 125) (M 124 8))
                       · rw [if_pos y3]
                         rw [cE] at y3
                         have w := g5 z0 (i - (40 + 4 * M 125 1)).toNat (by omega)
                         rw [show 40 + 4 * M 125 1 + (((i - (40 + 4 * M 125 1)).toNat : Nat) : Int) = i by omega] at w
                         rw [show (5 + (i - (40 + 4 * M 125 1))).toNat = 5 + (i - (40 + 4 * M 125 1)).toNat by omega]
                         exact w
                       rw [if_neg y3]
                       rw [cE] at y3
                       exact d5 i (by omega) (by omega))
                    | (have z : ¬ M5 124 12 = -1 := by omega
                       have tS : TS M5 (tx_E (M 128) (M 124 7) (5 + (tx_C (M 128) (M 124 7) (M 125) (M 124 8))).toNat (M 124 8)) (tx_F (M 128) (M 124 7) (M 125) (M 124 10) (M 124 8) (5 + (tx_C (M 128) (M 124 7) (M 125) (M 124 8))).toNat) := by
                         rcases (show (tx_C (M 128) (M 124 7) (M 125) (M 124 8)) = a ∨ a < (tx_C (M 128) (M 124 7) (M 125) (M 124 8)) by omega) with y | y
                         · rw [y]; exact t5
                         · have w := TS_nF (lo := tx_lo (5 + a)) (hi := tx_hi (5 + a)) t5 z
                           rw [T5, n5, ← tx_F_s (k := 5 + a) (by omega)] at w
                           have st := tx_F_st (k := (5 + a + 1).toNat) (by rw [w]; exact z) ((5 + (tx_C (M 128) (M 124 7) (M 125) (M 124 8))).toNat - (5 + a + 1).toNat)
                           rw [show (5 + a + 1).toNat + ((5 + (tx_C (M 128) (M 124 7) (M 125) (M 124 8))).toNat - (5 + a + 1).toNat) = (5 + (tx_C (M 128) (M 124 7) (M 125) (M 124 8))).toNat by omega, w] at st
                           exact Or.inl ⟨by rw [st]; exact z, st.symm⟩
                       exact hq0 _ k5.up (Or.inl tS.u5) (fun y => by rw [fs_up_other (by decide)] at y; exact absurd y z))
                refine fs_r_goto (L1 := [some (.inr (.ref 124)), some (.inl (A1 125 1)), some (.inl a)]) (st1 := [.inl 1, .inl (M5 125 1), .inl 1, .inr (.ref 125)]) (M1 := M5) (ob := []) rfl rfl trivial ?_
                refine fs_r_ret (L1 := [some (.inr (.ref 124)), some (.inl (A1 125 1)), some (.inl a)]) (M1 := (fs_up M5 125 1 ((M5 125 1) + 1))) (ob := [fs_rg ((M5 125 1) + 1), (125 < fs_N ∧ fs_kd 125 = 100) ∧ (0 : Int) ≤ 1 ∧ 1 < fs_ln 125]) rfl rfl (fs_oc ⟨by omega, by omega⟩ (fs_oc (fs_ar125 (by omega) (by omega)) trivial)) ?_
                first
                  | (exfalso; omega)
                  | (have z0 : M5 124 12 = -1 := by omega
                     obtain ⟨fz, tk⟩ := t5.fz z0
                     have nd : ¬ xD (M 128) (M 124 7) (qB (M 128) (M 124 7) (tx_E (M 128) (M 124 7) (5 + a).toNat (M 124 8))) := fun y => by
                       have w := tk.d
                       rw [T5, n5] at w
                       have w2 := w.mpr y
                       omega
                     have nq : ¬ tx_Q (M 128) (M 124 7) (M 125) (M 124 8) a := fun y => nd y.2
                     have cE := s5.symm.trans (skp_z nq)
                     refine hq0 _ k5.up (Or.inl (by rw [cE]; exact t5.u5)) (fun _ => ?_)
                     funext i
                     rw [fs_up_at]
                     unfold tx_R
                     by_cases y1 : i = 1
                     · rw [if_pos y1, if_pos y1, d51]
                     rw [if_neg y1, if_neg y1]
                     by_cases y2 : 10 + 5 * M 125 1 ≤ i ∧ i < 10 + 5 * M 125 1 + 5
                     · rw [if_pos y2]
                       have w := c5 z0 (i - (10 + 5 * M 125 1)).toNat (by omega)
                       rw [show 10 + 5 * M 125 1 + (((i - (10 + 5 * M 125 1)).toNat : Nat) : Int) = i by omega] at w
                       exact w
                     rw [if_neg y2]
                     by_cases y3 : 40 + 4 * M 125 1 ≤ i ∧ i < 40 + 4 * M 125 1 + (tx_C (M 128) (M 124 7) (M 125) (M 124 8))
                     · rw [if_pos y3]
                       rw [cE] at y3
                       have w := g5 z0 (i - (40 + 4 * M 125 1)).toNat (by omega)
                       rw [show 40 + 4 * M 125 1 + (((i - (40 + 4 * M 125 1)).toNat : Nat) : Int) = i by omega] at w
                       rw [show (5 + (i - (40 + 4 * M 125 1))).toNat = 5 + (i - (40 + 4 * M 125 1)).toNat by omega]
                       exact w
                     rw [if_neg y3]
                     rw [cE] at y3
                     exact d5 i (by omega) (by omega))
                  | (have z : ¬ M5 124 12 = -1 := by omega
                     have tS : TS M5 (tx_E (M 128) (M 124 7) (5 + (tx_C (M 128) (M 124 7) (M 125) (M 124 8))).toNat (M 124 8)) (tx_F (M 128) (M 124 7) (M 125) (M 124 10) (M 124 8) (5 + (tx_C (M 128) (M 124 7) (M 125) (M 124 8))).toNat) := by
                       rcases (show (tx_C (M 128) (M 124 7) (M 125) (M 124 8)) = a ∨ a < (tx_C (M 128) (M 124 7) (M 125) (M 124 8)) by omega) with y | y
                       · rw [y]; exact t5
                       · have w := TS_nF (lo := tx_lo (5 + a)) (hi := tx_hi (5 + a)) t5 z
                         rw [T5, n5, ← tx_F_s (k := 5 + a) (by omega)] at w
                         have st := tx_F_st (k := (5 + a + 1).toNat) (by rw [w]; exact z) ((5 + (tx_C (M 128) (M 124 7) (M 125) (M 124 8))).toNat - (5 + a + 1).toNat)
                         rw [show (5 + a + 1).toNat + ((5 + (tx_C (M 128) (M 124 7) (M 125) (M 124 8))).toNat - (5 + a + 1).toNat) = (5 + (tx_C (M 128) (M 124 7) (M 125) (M 124 8))).toNat by omega, w] at st
                         exact Or.inl ⟨by rw [st]; exact z, st.symm⟩
                     exact hq0 _ k5.up (Or.inl tS.u5) (fun y => by rw [fs_up_other (by decide)] at y; exact absurd y z))
              refine fs_r_icmp (a := (M5 124 9)) (y := 2) (L1 := [some (.inr (.ref 124)), some (.inl (A1 125 1)), some (.inl a)]) (st1 := []) (M1 := M5) (ob := [124 < fs_N ∧ fs_kd 124 = 6]) rfl rfl (fs_oc fs_ob124 trivial) (fun (h3 : ¬ (M5 124 9) = 2) => ?_) (fun (h3 : ¬ (¬ (M5 124 9) = 2)) => ?_)
              · refine fs_r_icmp (a := (M5 124 12)) (y := (-1)) (L1 := [some (.inr (.ref 124)), some (.inl (A1 125 1)), some (.inl a)]) (st1 := [.inl (M5 125 1), .inl 1, .inr (.ref 125)]) (M1 := M5) (ob := [124 < fs_N ∧ fs_kd 124 = 6, (125 < fs_N ∧ fs_kd 125 = 100) ∧ (0 : Int) ≤ 1 ∧ 1 < fs_ln 125, 124 < fs_N ∧ fs_kd 124 = 6]) rfl (fs_exA 6 (o1 := [124 < fs_N ∧ fs_kd 124 = 6, (125 < fs_N ∧ fs_kd 125 = 100) ∧ (0 : Int) ≤ 1 ∧ 1 < fs_ln 125]) (L1 := [some (.inr (.ref 124)), some (.inl (A1 125 1)), some (.inl a)]) (st1 := [.inr (.ref 124), .inl (M5 125 1), .inl 1, .inr (.ref 125)]) (M1 := M5) (o2 := [124 < fs_N ∧ fs_kd 124 = 6]) rfl rfl) (fs_oc fs_ob124 (fs_oc (fs_ar125 (by omega) (by omega)) (fs_oc fs_ob124 trivial))) (fun (h4 : ¬ (M5 124 12) = (-1)) => ?_) (fun (h4 : ¬ (¬ (M5 124 12) = (-1))) => ?_)
                · refine fs_r_nop (L1 := [some (.inr (.ref 124)), some (.inl (A1 125 1)), some (.inl a)]) (st1 := [.inl 0, .inl (M5 125 1), .inl 1, .inr (.ref 125)]) (M1 := M5) (ob := []) rfl rfl trivial ?_
                  refine fs_r_ret (L1 := [some (.inr (.ref 124)), some (.inl (A1 125 1)), some (.inl a)]) (M1 := (fs_up M5 125 1 ((M5 125 1) + 0))) (ob := [fs_rg ((M5 125 1) + 0), (125 < fs_N ∧ fs_kd 125 = 100) ∧ (0 : Int) ≤ 1 ∧ 1 < fs_ln 125]) rfl rfl (fs_oc ⟨by omega, by omega⟩ (fs_oc (fs_ar125 (by omega) (by omega)) trivial)) ?_
                  first
                    | (exfalso; omega)
                    | (have z0 : M5 124 12 = -1 := by omega
                       obtain ⟨fz, tk⟩ := t5.fz z0
                       have nd : ¬ xD (M 128) (M 124 7) (qB (M 128) (M 124 7) (tx_E (M 128) (M 124 7) (5 + a).toNat (M 124 8))) := fun y => by
                         have w := tk.d
                         rw [T5, n5] at w
                         have w2 := w.mpr y
                         omega
                       have nq : ¬ tx_Q (M 128) (M 124 7) (M 125) (M 124 8) a := fun y => nd y.2
                       have cE := s5.symm.trans (skp_z nq)
                       refine hq0 _ k5.up (Or.inl (by rw [cE]; exact t5.u5)) (fun _ => ?_)
                       funext i
                       rw [fs_up_at]
                       unfold tx_R
                       by_cases y1 : i = 1
                       · rw [if_pos y1, if_pos y1, d51]
                       rw [if_neg y1, if_neg y1]
                       by_cases y2 : 10 + 5 * M 125 1 ≤ i ∧ i < 10 + 5 * M 125 1 + 5
                       · rw [if_pos y2]
                         have w := c5 z0 (i - (10 + 5 * M 125 1)).toNat (by omega)
                         rw [show 10 + 5 * M 125 1 + (((i - (10 + 5 * M 125 1)).toNat : Nat) : Int) = i by omega] at w
                         exact w
                       rw [if_neg y2]
                       by_cases y3 : 40 + 4 * M 125 1 ≤ i ∧ i < 40 + 4 * M 125 1 + (tx_C (M 128) (M 124 7) (M 125) (M 124 8))
                       · rw [if_pos y3]
                         rw [cE] at y3
                         have w := g5 z0 (i - (40 + 4 * M 125 1)).toNat (by omega)
                         rw [show 40 + 4 * M 125 1 + (((i - (40 + 4 * M 125 1)).toNat : Nat) : Int) = i by omega] at w
                         rw [show (5 + (i - (40 + 4 * M 125 1))).toNat = 5 + (i - (40 + 4 * M 125 1)).toNat by omega]
                         exact w
                       rw [if_neg y3]
                       rw [cE] at y3
                       exact d5 i (by omega) (by omega))
                    | (have z : ¬ M5 124 12 = -1 := by omega
                       have tS : TS M5 (tx_E (M 128) (M 124 7) (5 + (tx_C (M 128) (M 124 7) (M 125) (M 124 8))).toNat (M 124 8)) (tx_F (M 128) (M 124 7) (M 125) (M 124 10) (M 124 8) (5 + (tx_C (M 128) (M 124 7) (M 125) (M 124 8))).toNat) := by
                         rcases (show (tx_C (M 128) (M 124 7) (M 125) (M 124 8)) = a ∨ a < (tx_C (M 128) (M 124 7) (M 125) (M 124 8)) by omega) with y | y
                         · rw [y]; exact t5
                         · have w := TS_nF (lo := tx_lo (5 + a)) (hi := tx_hi (5 + a)) t5 z
                           rw [T5, n5, ← tx_F_s (k := 5 + a) (by omega)] at w
                           have st := tx_F_st (k := (5 + a + 1).toNat) (by rw [w]; exact z) ((5 + (tx_C (M 128) (M 124 7) (M 125) (M 124 8))).toNat - (5 + a + 1).toNat)
                           rw [show (5 + a + 1).toNat + ((5 + (tx_C (M 128) (M 124 7) (M 125) (M 124 8))).toNat - (5 + a + 1).toNat) = (5 + (tx_C (M 128) (M 124 7) (M 125) (M 124 8))).toNat by omega, w] at st
                           exact Or.inl ⟨by rw [st]; exact z, st.symm⟩
                       exact hq0 _ k5.up (Or.inl tS.u5) (fun y => by rw [fs_up_other (by decide)] at y; exact absurd y z))
                refine fs_r_goto (L1 := [some (.inr (.ref 124)), some (.inl (A1 125 1)), some (.inl a)]) (st1 := [.inl 1, .inl (M5 125 1), .inl 1, .inr (.ref 125)]) (M1 := M5) (ob := []) rfl rfl trivial ?_
                refine fs_r_ret (L1 := [some (.inr (.ref 124)), some (.inl (A1 125 1)), some (.inl a)]) (M1 := (fs_up M5 125 1 ((M5 125 1) + 1))) (ob := [fs_rg ((M5 125 1) + 1), (125 < fs_N ∧ fs_kd 125 = 100) ∧ (0 : Int) ≤ 1 ∧ 1 < fs_ln 125]) rfl rfl (fs_oc ⟨by omega, by omega⟩ (fs_oc (fs_ar125 (by omega) (by omega)) trivial)) ?_
                first
                  | (exfalso; omega)
                  | (have z0 : M5 124 12 = -1 := by omega
                     obtain ⟨fz, tk⟩ := t5.fz z0
                     have nd : ¬ xD (M 128) (M 124 7) (qB (M 128) (M 124 7) (tx_E (M 128) (M 124 7) (5 + a).toNat (M 124 8))) := fun y => by
                       have w := tk.d
                       rw [T5, n5] at w
                       have w2 := w.mpr y
                       omega
                     have nq : ¬ tx_Q (M 128) (M 124 7) (M 125) (M 124 8) a := fun y => nd y.2
                     have cE := s5.symm.trans (skp_z nq)
                     refine hq0 _ k5.up (Or.inl (by rw [cE]; exact t5.u5)) (fun _ => ?_)
                     funext i
                     rw [fs_up_at]
                     unfold tx_R
                     by_cases y1 : i = 1
                     · rw [if_pos y1, if_pos y1, d51]
                     rw [if_neg y1, if_neg y1]
                     by_cases y2 : 10 + 5 * M 125 1 ≤ i ∧ i < 10 + 5 * M 125 1 + 5
                     · rw [if_pos y2]
                       have w := c5 z0 (i - (10 + 5 * M 125 1)).toNat (by omega)
                       rw [show 10 + 5 * M 125 1 + (((i - (10 + 5 * M 125 1)).toNat : Nat) : Int) = i by omega] at w
                       exact w
                     rw [if_neg y2]
                     by_cases y3 : 40 + 4 * M 125 1 ≤ i ∧ i < 40 + 4 * M 125 1 + (tx_C (M 128) (M 124 7) (M 125) (M 124 8))
                     · rw [if_pos y3]
                       rw [cE] at y3
                       have w := g5 z0 (i - (40 + 4 * M 125 1)).toNat (by omega)
                       rw [show 40 + 4 * M 125 1 + (((i - (40 + 4 * M 125 1)).toNat : Nat) : Int) = i by omega] at w
                       rw [show (5 + (i - (40 + 4 * M 125 1))).toNat = 5 + (i - (40 + 4 * M 125 1)).toNat by omega]
                       exact w
                     rw [if_neg y3]
                     rw [cE] at y3
                     exact d5 i (by omega) (by omega))
                  | (have z : ¬ M5 124 12 = -1 := by omega
                     have tS : TS M5 (tx_E (M 128) (M 124 7) (5 + (tx_C (M 128) (M 124 7) (M 125) (M 124 8))).toNat (M 124 8)) (tx_F (M 128) (M 124 7) (M 125) (M 124 10) (M 124 8) (5 + (tx_C (M 128) (M 124 7) (M 125) (M 124 8))).toNat) := by
                       rcases (show (tx_C (M 128) (M 124 7) (M 125) (M 124 8)) = a ∨ a < (tx_C (M 128) (M 124 7) (M 125) (M 124 8)) by omega) with y | y
                       · rw [y]; exact t5
                       · have w := TS_nF (lo := tx_lo (5 + a)) (hi := tx_hi (5 + a)) t5 z
                         rw [T5, n5, ← tx_F_s (k := 5 + a) (by omega)] at w
                         have st := tx_F_st (k := (5 + a + 1).toNat) (by rw [w]; exact z) ((5 + (tx_C (M 128) (M 124 7) (M 125) (M 124 8))).toNat - (5 + a + 1).toNat)
                         rw [show (5 + a + 1).toNat + ((5 + (tx_C (M 128) (M 124 7) (M 125) (M 124 8))).toNat - (5 + a + 1).toNat) = (5 + (tx_C (M 128) (M 124 7) (M 125) (M 124 8))).toNat by omega, w] at st
                         exact Or.inl ⟨by rw [st]; exact z, st.symm⟩
                     exact hq0 _ k5.up (Or.inl tS.u5) (fun y => by rw [fs_up_other (by decide)] at y; exact absurd y z))
              refine fs_r_icmp (a := a) (y := (M5 125 0)) (L1 := [some (.inr (.ref 124)), some (.inl (A1 125 1)), some (.inl a)]) (st1 := []) (M1 := M5) (ob := [124 < fs_N ∧ fs_kd 124 = 6, (125 < fs_N ∧ fs_kd 125 = 100) ∧ (0 : Int) ≤ 0 ∧ 0 < fs_ln 125]) rfl rfl (fs_oc fs_ob124 (fs_oc (fs_ar125 (by omega) (by omega)) trivial)) (fun (h5 : ¬ a = (M5 125 0)) => ?_) (fun (h5 : ¬ (¬ a = (M5 125 0))) => ?_)
              · have z0 : M5 124 12 = -1 := by omega
                obtain ⟨fz, tk⟩ := t5.fz z0
                have dg := tk.d.mp (by omega)
                rw [T5, n5] at dg
                have n6 : M 125 1 ≠ 6 := fun y => by
                  have w := tx_F_m hb (k := 0) (5 + a).toNat (by rw [Nat.zero_add]; exact fz)
                  have w2 : (if M 125 1 = 6 then M 124 10 else -1) = -1 := w
                  rw [if_pos y] at w2
                  omega
                have qa : tx_Q (M 128) (M 124 7) (M 125) (M 124 8) a := ⟨by omega, dg⟩
                refine fs_r_call (sta := false) (idx := 116) (as := [.inr (.ref 124), .inl 0, .inl 60]) (rest := [.inl ((40 + (4 * (A1 125 1))) + a), .inr (.ref 125)]) (L1 := [some (.inr (.ref 124)), some (.inl (A1 125 1)), some (.inl a)]) (st1 := [.inl 60, .inl 0, .inr (.ref 124), .inl ((40 + (4 * (A1 125 1))) + a), .inr (.ref 125)]) (M1 := M5) (ob := [124 < fs_N ∧ fs_kd 124 = 6, fs_rg (4 * (A1 125 1)), fs_rg (40 + (4 * (A1 125 1))), fs_rg ((40 + (4 * (A1 125 1))) + a)]) rfl rfl (fs_exA 6 (o1 := [124 < fs_N ∧ fs_kd 124 = 6, fs_rg (4 * (A1 125 1))]) (L1 := [some (.inr (.ref 124)), some (.inl (A1 125 1)), some (.inl a)]) (st1 := [.inl (4 * (A1 125 1)), .inl 40, .inr (.ref 125)]) (M1 := M5) (o2 := [fs_rg (40 + (4 * (A1 125 1))), fs_rg ((40 + (4 * (A1 125 1))) + a)]) rfl rfl) (fs_oc fs_ob124 (fs_oc ⟨by omega, by omega⟩ (fs_oc ⟨by omega, by omega⟩ (fs_oc ⟨by omega, by omega⟩ trivial)))) rfl rfl (Nat.le_of_ble_eq_true rfl) ⟨Or.inr (Nat.le_of_ble_eq_true rfl), Or.inr fs_ob124⟩ (by decide) ?_
                refine fs_m_number (p := (tx_E (M 128) (M 124 7) (5 + a).toNat (M 124 8))) (f := (tx_F (M 128) (M 124 7) (M 125) (M 124 10) (M 124 8) (5 + a).toNat)) (t5) (by rw [n5]; omega) (by omega) (fun (x6 : Int) (B6 : fs_M) (s6 : sk M5 B6) (t6 : TS B6 (nE (M5 128) (M5 124 7) (tx_E (M 128) (M 124 7) (5 + a).toNat (M 124 8))) (nF (M5 128) (M5 124 7) 0 60 (tx_F (M 128) (M 124 7) (M 125) (M 124 10) (M 124 8) (5 + a).toNat) (tx_E (M 128) (M 124 7) (5 + a).toNat (M 124 8)))) (v6 : nF (M5 128) (M5 124 7) 0 60 (tx_F (M 128) (M 124 7) (M 125) (M 124 10) (M 124 8) (5 + a).toNat) (tx_E (M 128) (M 124 7) (5 + a).toNat (M 124 8)) = -1 → x6 = nV (M5 128) (M5 124 7) (tx_E (M 128) (M 124 7) (5 + a).toNat (M 124 8))) => ?_)
                rw [T5, n5] at t6 v6
                have he6 : tx_F (M 128) (M 124 7) (M 125) (M 124 10) (M 124 8) (5 + (a + 1)).toNat = nF (M 128) (M 124 7) 0 60 (tx_F (M 128) (M 124 7) (M 125) (M 124 10) (M 124 8) (5 + a).toNat) (tx_E (M 128) (M 124 7) (5 + a).toNat (M 124 8)) := by
                  rw [show (5 + (a + 1)).toNat = ((5 + a) + 1).toNat by omega, tx_F_s (k := 5 + a) (by omega)]
                  unfold tx_lo tx_hi
                  rw [if_neg (by omega), if_pos (by omega)]
                have ht6 : tx_E (M 128) (M 124 7) (5 + (a + 1)).toNat (M 124 8) = nE (M 128) (M 124 7) (tx_E (M 128) (M 124 7) (5 + a).toNat (M 124 8)) := by
                  rw [show (5 + (a + 1)).toNat = ((5 + a) + 1).toNat by omega, tx_E_s (k := 5 + a) (by omega)]
                have x65 : B6 125 = M5 125 := s6.1 125 (by decide)
                refine fs_r_goto (L1 := [some (.inr (.ref 124)), some (.inl (A1 125 1)), some (.inl (a + 1))]) (st1 := []) (M1 := (fs_up B6 125 ((40 + (4 * (A1 125 1))) + a) x6)) (ob := [(125 < fs_N ∧ fs_kd 125 = 100) ∧ (0 : Int) ≤ ((40 + (4 * (A1 125 1))) + a) ∧ ((40 + (4 * (A1 125 1))) + a) < fs_ln 125, fs_rg (a + 1)]) rfl rfl (fs_oc (fs_ar125 (by omega) (by omega)) (fs_oc ⟨by omega, by omega⟩ trivial)) ?_
                exact ih102 ((a + 1)) (fs_up B6 125 ((40 + (4 * (A1 125 1))) + a) x6) (by omega) ((k5.tr (sk5.of s6)).up) (by rw [ht6, he6]; exact t6.u5) (fun z j hj => by rw [fs_up_at, if_neg (by omega), x65]; exact c5 z0 j hj) (fun z j hj => by
                   rw [fs_up_other (by decide)] at z
                   have w6 := (t6.fz z).1
                   by_cases y : (j : Int) < a
                   · rw [fs_up_at, if_neg (by omega), x65]
                     exact g5 z0 j y
                   · rw [fs_up_at, if_pos (by omega), v6 w6, show (5 + a).toNat = 5 + j by omega]) (fun i i1 i2 => by rw [fs_up_at, if_neg (by omega), x65]; exact d5 i i1 (by omega)) (by rw [← s5]; exact (skp_s qa (by omega)).symm) (by omega)
              refine fs_r_call (sta := false) (idx := 101) (as := [.inr (.ref 124), .inl (M5 124 10)]) (rest := []) (L1 := [some (.inr (.ref 124)), some (.inl (A1 125 1)), some (.inl a)]) (st1 := [.inl (M5 124 10), .inr (.ref 124)]) (M1 := M5) (ob := [124 < fs_N ∧ fs_kd 124 = 6]) rfl rfl rfl (fs_oc fs_ob124 trivial) rfl rfl (Nat.le_of_ble_eq_true rfl) ⟨Or.inr (Nat.le_of_ble_eq_true rfl), Or.inr fs_ob124⟩ (by decide) ?_
              refine fs_m_wrong ?_
              refine fs_r_ret (L1 := [some (.inr (.ref 124)), some (.inl (A1 125 1)), some (.inl a)]) (M1 := (fs_up M5 124 12 (if M5 124 12 = -1 then (M5 124 10) else M5 124 12))) (ob := []) rfl rfl trivial ?_
              have z0 : M5 124 12 = -1 := by omega
              obtain ⟨fz, tk⟩ := t5.fz z0
              have dg := tk.d.mp (by omega)
              have fr := tk.2.1
              rw [T5, n5] at dg fr
              have nq : ¬ tx_Q (M 128) (M 124 7) (M 125) (M 124 8) a := fun y => by
                have w := y.1
                omega
              have cE := s5.symm.trans (skp_z nq)
              have u12 : (fs_up M5 124 12 (if M5 124 12 = -1 then (M5 124 10) else M5 124 12)) 124 12 = qB (M 128) (M 124 7) (tx_E (M 128) (M 124 7) (5 + a).toNat (M 124 8)) := by rw [fs_up_at, if_pos rfl, if_pos z0, fr]
              have eE : eF (M 128) (M 124 7) (tx_F (M 128) (M 124 7) (M 125) (M 124 10) (M 124 8) (5 + (tx_C (M 128) (M 124 7) (M 125) (M 124 8))).toNat) (tx_E (M 128) (M 124 7) (5 + (tx_C (M 128) (M 124 7) (M 125) (M 124 8))).toNat (M 124 8)) = qB (M 128) (M 124 7) (tx_E (M 128) (M 124 7) (5 + a).toNat (M 124 8)) := by
                rw [cE, fz]
                unfold eF
                rw [if_pos rfl, if_neg (fun y => by omega)]
              exact hq0 _ (k5.tr (sk5.of (sk.rf.up (by omega)))) (Or.inr ⟨by rw [u12]; omega, by rw [u12, eE]⟩) (fun z => absurd (u12.symm.trans z) (by omega))
          exact loop102 (((M 125 0 - (0)) : Int) + 1).toNat (0) M4 (by omega) (k4) (by rw [show ((5 : Int) + 0).toNat = 5 by decide]; exact t4) (fun z j hj => c4 z j hj) (fun _ j hj => by omega) (fun i i1 _ => d4 i i1) (rfl) (by omega)
        refine fs_r_icmp (a := k) (y := 5) (L1 := [some (.inr (.ref 124)), some (.inl (A1 125 1)), some (.inl k)]) (st1 := []) (M1 := M3) (ob := []) rfl rfl trivial (fun (h6 : 5 ≤ k) => ?_) (fun (h6 : ¬ (5 ≤ k)) => ?_)
        · exact join100 M3 (k3) (by
            first
              | (have k5 : k.toNat = 5 := by omega
                 rw [k5] at t3
                 exact t3)
              | (have z : ¬ M3 124 12 = -1 := by omega
                 have w := TS_nF (lo := tx_lo k) (hi := tx_hi k) t3 z
                 rw [T3, n3, ← tx_F_s (k := k) (by omega)] at w
                 have st := tx_F_st (k := (k + 1).toNat) (by rw [w]; exact z) (5 - (k + 1).toNat)
                 rw [show (k + 1).toNat + (5 - (k + 1).toNat) = 5 by omega, w] at st
                 exact Or.inl ⟨by rw [st]; exact z, st.symm⟩)) (by first | (intro z j hj; exact c3 z j (by omega)) | (intro z; exact absurd z (by omega))) (d3)
        refine fs_r_icmp (a := (M3 124 12)) (y := (-1)) (L1 := [some (.inr (.ref 124)), some (.inl (A1 125 1)), some (.inl k)]) (st1 := []) (M1 := M3) (ob := [124 < fs_N ∧ fs_kd 124 = 6]) rfl rfl (fs_oc fs_ob124 trivial) (fun (h7 : ¬ (M3 124 12) = (-1)) => ?_) (fun (h7 : ¬ (¬ (M3 124 12) = (-1))) => ?_)
        · exact join100 M3 (k3) (by
            first
              | (have k5 : k.toNat = 5 := by omega
                 rw [k5] at t3
                 exact t3)
              | (have z : ¬ M3 124 12 = -1 := by omega
                 have w := TS_nF (lo := tx_lo k) (hi := tx_hi k) t3 z
                 rw [T3, n3, ← tx_F_s (k := k) (by omega)] at w
                 have st := tx_F_st (k := (k + 1).toNat) (by rw [w]; exact z) (5 - (k + 1).toNat)
                 rw [show (k + 1).toNat + (5 - (k + 1).toNat) = 5 by omega, w] at st
                 exact Or.inl ⟨by rw [st]; exact z, st.symm⟩)) (by first | (intro z j hj; exact c3 z j (by omega)) | (intro z; exact absurd z (by omega))) (d3)
        have z0 : M3 124 12 = -1 := by omega
        have fz := (t3.fz z0).1
        have n6 : M 125 1 ≠ 6 := fun y => by
          have w := tx_F_m hb (k := 0) k.toNat (by rw [Nat.zero_add]; exact fz)
          have w2 : (if M 125 1 = 6 then M 124 10 else -1) = -1 := w
          rw [if_pos y] at w2
          omega
        have join68 : ∀ (lo : Int), (lo = tx_lo k) → fs_W (d + 4) 180 68 [some (.inr (.ref 124)), some (.inl (A1 125 1)), some (.inl k)] [.inl lo, .inr (.ref 124), .inl ((10 + (5 * (A1 125 1))) + k), .inr (.ref 125)] M3 Q := by
          intro lo lo0
          have join90 : ∀ (hi : Int), (hi = tx_hi k) → fs_W (d + 4) 180 90 [some (.inr (.ref 124)), some (.inl (A1 125 1)), some (.inl k)] [.inl hi, .inl lo, .inr (.ref 124), .inl ((10 + (5 * (A1 125 1))) + k), .inr (.ref 125)] M3 Q := by
            intro hi hi0
            refine fs_r_call (sta := false) (idx := 116) (as := [.inr (.ref 124), .inl lo, .inl hi]) (rest := [.inl ((10 + (5 * (A1 125 1))) + k), .inr (.ref 125)]) (L1 := [some (.inr (.ref 124)), some (.inl (A1 125 1)), some (.inl k)]) (st1 := [.inl hi, .inl lo, .inr (.ref 124), .inl ((10 + (5 * (A1 125 1))) + k), .inr (.ref 125)]) (M1 := M3) (ob := []) rfl rfl rfl trivial rfl rfl (Nat.le_of_ble_eq_true rfl) ⟨Or.inr (Nat.le_of_ble_eq_true rfl), Or.inr fs_ob124⟩ (by decide) ?_
            refine fs_m_number (p := (tx_E (M 128) (M 124 7) k.toNat (M 124 8))) (f := (tx_F (M 128) (M 124 7) (M 125) (M 124 10) (M 124 8) k.toNat)) (t3) (by rw [n3]; omega) (by rw [hi0]; unfold tx_hi; (repeat' split) <;> omega) (fun (x4 : Int) (B4 : fs_M) (s4 : sk M3 B4) (t4 : TS B4 (nE (M3 128) (M3 124 7) (tx_E (M 128) (M 124 7) k.toNat (M 124 8))) (nF (M3 128) (M3 124 7) lo hi (tx_F (M 128) (M 124 7) (M 125) (M 124 10) (M 124 8) k.toNat) (tx_E (M 128) (M 124 7) k.toNat (M 124 8)))) (v4 : nF (M3 128) (M3 124 7) lo hi (tx_F (M 128) (M 124 7) (M 125) (M 124 10) (M 124 8) k.toNat) (tx_E (M 128) (M 124 7) k.toNat (M 124 8)) = -1 → x4 = nV (M3 128) (M3 124 7) (tx_E (M 128) (M 124 7) k.toNat (M 124 8))) => ?_)
            rw [T3, n3, lo0, hi0] at t4 v4
            have hE4 : tx_E (M 128) (M 124 7) (k + 1).toNat (M 124 8) = nE (M 128) (M 124 7) (tx_E (M 128) (M 124 7) k.toNat (M 124 8)) := tx_E_s (k := k) (by omega)
            have hF4 : tx_F (M 128) (M 124 7) (M 125) (M 124 10) (M 124 8) (k + 1).toNat = nF (M 128) (M 124 7) (tx_lo k) (tx_hi k) (tx_F (M 128) (M 124 7) (M 125) (M 124 10) (M 124 8) k.toNat) (tx_E (M 128) (M 124 7) k.toNat (M 124 8)) := tx_F_s (k := k) (by omega)
            have x45 : B4 125 = M3 125 := s4.1 125 (by decide)
            refine fs_r_goto (L1 := [some (.inr (.ref 124)), some (.inl (A1 125 1)), some (.inl (k + 1))]) (st1 := []) (M1 := (fs_up B4 125 ((10 + (5 * (A1 125 1))) + k) x4)) (ob := [(125 < fs_N ∧ fs_kd 125 = 100) ∧ (0 : Int) ≤ ((10 + (5 * (A1 125 1))) + k) ∧ ((10 + (5 * (A1 125 1))) + k) < fs_ln 125, fs_rg (k + 1)]) rfl rfl (fs_oc (fs_ar125 (by omega) (by omega)) (fs_oc ⟨by omega, by omega⟩ trivial)) ?_
            exact ih32 ((k + 1)) (fs_up B4 125 ((10 + (5 * (A1 125 1))) + k) x4) (by omega) ((k3.tr (sk5.of s4)).up) (by rw [hE4, hF4]; exact t4.u5) (fun z j hj => by
               rw [fs_up_other (by decide)] at z
               have w4 := (t4.fz z).1
               by_cases y : (j : Int) < k
               · rw [fs_up_at, if_neg (by omega), x45]
                 exact c3 z0 j y
               · rw [fs_up_at, if_pos (by omega), v4 w4, show j = k.toNat by omega]) (fun i hi => by rw [fs_up_at, if_neg (by omega), x45]; exact d3 i hi) (by omega)
          refine fs_r_icmp (a := k) (y := 3) (L1 := [some (.inr (.ref 124)), some (.inl (A1 125 1)), some (.inl k)]) (st1 := [.inl lo, .inr (.ref 124), .inl ((10 + (5 * (A1 125 1))) + k), .inr (.ref 125)]) (M1 := M3) (ob := []) rfl rfl trivial (fun (h8 : ¬ k = 3) => ?_) (fun (h8 : ¬ (¬ k = 3)) => ?_)
          · refine fs_r_icmp (a := k) (y := 4) (L1 := [some (.inr (.ref 124)), some (.inl (A1 125 1)), some (.inl k)]) (st1 := [.inl lo, .inr (.ref 124), .inl ((10 + (5 * (A1 125 1))) + k), .inr (.ref 125)]) (M1 := M3) (ob := []) rfl rfl trivial (fun (h9 : ¬ k = 4) => ?_) (fun (h9 : ¬ (¬ k = 4)) => ?_)
            · refine fs_r_nop (L1 := [some (.inr (.ref 124)), some (.inl (A1 125 1)), some (.inl k)]) (st1 := [.inl 9999, .inl lo, .inr (.ref 124), .inl ((10 + (5 * (A1 125 1))) + k), .inr (.ref 125)]) (M1 := M3) (ob := []) rfl rfl trivial ?_
              exact join90 (9999) (by unfold tx_hi; rw [if_neg (by omega)]; first | (rw [if_pos (by omega)]) | (rw [if_neg (by omega), if_pos (by omega)]) | (rw [if_neg (by omega), if_neg (by omega)]))
            refine fs_r_goto (L1 := [some (.inr (.ref 124)), some (.inl (A1 125 1)), some (.inl k)]) (st1 := [.inl 1, .inl lo, .inr (.ref 124), .inl ((10 + (5 * (A1 125 1))) + k), .inr (.ref 125)]) (M1 := M3) (ob := []) rfl rfl trivial ?_
            exact join90 (1) (by unfold tx_hi; rw [if_neg (by omega)]; first | (rw [if_pos (by omega)]) | (rw [if_neg (by omega), if_pos (by omega)]) | (rw [if_neg (by omega), if_neg (by omega)]))
          refine fs_r_goto (L1 := [some (.inr (.ref 124)), some (.inl (A1 125 1)), some (.inl k)]) (st1 := [.inl 99, .inl lo, .inr (.ref 124), .inl ((10 + (5 * (A1 125 1))) + k), .inr (.ref 125)]) (M1 := M3) (ob := []) rfl rfl trivial ?_
          exact join90 (99) (by unfold tx_hi; rw [if_neg (by omega)]; first | (rw [if_pos (by omega)]) | (rw [if_neg (by omega), if_pos (by omega)]) | (rw [if_neg (by omega), if_neg (by omega)]))
        refine fs_r_icmp (a := k) (y := 3) (L1 := [some (.inr (.ref 124)), some (.inl (A1 125 1)), some (.inl k)]) (st1 := [.inr (.ref 124), .inl ((10 + (5 * (A1 125 1))) + k), .inr (.ref 125)]) (M1 := M3) (ob := [124 < fs_N ∧ fs_kd 124 = 6, fs_rg (5 * (A1 125 1)), fs_rg (10 + (5 * (A1 125 1))), fs_rg ((10 + (5 * (A1 125 1))) + k)]) rfl (fs_exA 6 (o1 := [124 < fs_N ∧ fs_kd 124 = 6, fs_rg (5 * (A1 125 1))]) (L1 := [some (.inr (.ref 124)), some (.inl (A1 125 1)), some (.inl k)]) (st1 := [.inl (5 * (A1 125 1)), .inl 10, .inr (.ref 125)]) (M1 := M3) (o2 := [fs_rg (10 + (5 * (A1 125 1))), fs_rg ((10 + (5 * (A1 125 1))) + k)]) rfl rfl) (fs_oc fs_ob124 (fs_oc ⟨by omega, by omega⟩ (fs_oc ⟨by omega, by omega⟩ (fs_oc ⟨by omega, by omega⟩ trivial)))) (fun (h10 : ¬ k = 3) => ?_) (fun (h10 : ¬ (¬ k = 3)) => ?_)
        · refine fs_r_nop (L1 := [some (.inr (.ref 124)), some (.inl (A1 125 1)), some (.inl k)]) (st1 := [.inl 0, .inr (.ref 124), .inl ((10 + (5 * (A1 125 1))) + k), .inr (.ref 125)]) (M1 := M3) (ob := []) rfl rfl trivial ?_
          exact join68 (0) (by unfold tx_lo; first | (rw [if_pos (by omega)]) | (rw [if_neg (by omega)]))
        refine fs_r_goto (L1 := [some (.inr (.ref 124)), some (.inl (A1 125 1)), some (.inl k)]) (st1 := [.inl 1, .inr (.ref 124), .inl ((10 + (5 * (A1 125 1))) + k), .inr (.ref 125)]) (M1 := M3) (ob := []) rfl rfl trivial ?_
        exact join68 (1) (by unfold tx_lo; first | (rw [if_pos (by omega)]) | (rw [if_neg (by omega)]))
    exact loop32 (((5 - (0)) : Int) + 1).toNat (0) A1 (by omega) (sk5.of kA1) (by exact t1) (fun _ j hj => by omega) (fun i _ => by rw [e51]) (by omega)
  refine fs_r_icmp (a := (M 125 1)) (y := 6) (L1 := [some (.inr (.ref 124)), none, none]) (st1 := []) (M1 := M) (ob := [124 < fs_N ∧ fs_kd 124 = 6, (125 < fs_N ∧ fs_kd 125 = 100) ∧ (0 : Int) ≤ 1 ∧ 1 < fs_ln 125]) rfl rfl (fs_oc fs_ob124 (fs_oc (fs_ar125 (by omega) (by omega)) trivial)) (fun (h11 : ¬ (M 125 1) = 6) => ?_) (fun (h11 : ¬ (¬ (M 125 1) = 6)) => ?_)
  · exact join19 M (by first | exact sk.rf | exact sk.rf.up (by omega)) (by first | (rw [if_neg (by omega)]; exact hz) | (rw [fs_up_at, if_pos rfl, if_pos hz, if_pos (by omega)])) (by first | rfl | rw [fs_up_at, if_neg (by omega)])
  refine fs_r_call (sta := false) (idx := 101) (as := [.inr (.ref 124), .inl (M 124 10)]) (rest := []) (L1 := [some (.inr (.ref 124)), none, none]) (st1 := [.inl (M 124 10), .inr (.ref 124)]) (M1 := M) (ob := [124 < fs_N ∧ fs_kd 124 = 6]) rfl rfl rfl (fs_oc fs_ob124 trivial) rfl rfl (Nat.le_of_ble_eq_true rfl) ⟨Or.inr (Nat.le_of_ble_eq_true rfl), Or.inr fs_ob124⟩ (by decide) ?_
  refine fs_m_wrong ?_
  exact join19 (fs_up M 124 12 (if M 124 12 = -1 then (M 124 10) else M 124 12)) (by first | exact sk.rf | exact sk.rf.up (by omega)) (by first | (rw [if_neg (by omega)]; exact hz) | (rw [fs_up_at, if_pos rfl, if_pos hz, if_pos (by omega)])) (by first | rfl | rw [fs_up_at, if_neg (by omega)])
