/-- AID: the row of coins and of gifts, gift by gift -/
noncomputable def ad_c (N : Int → Int) (v : Int) : Nat → Int → Int
  | 0 => fun _ => 0
  | k + 1 => gv_p (ad_c N v k) (aa_b N (ad_c N v k) v (N 1).toNat) v
noncomputable def ad_g (N : Int → Int) (v : Int) : Nat → Int → Int
  | 0 => fun _ => 0
  | k + 1 => gv_p (ad_g N v k) (aa_b N (ad_c N v k) v (N 1).toNat) 1
theorem ad_c_b {N : Int → Int} {v : Int} (hv : 0 ≤ v ∧ v ≤ 999) : ∀ (k : Nat) (h : Int), 0 ≤ ad_c N v k h ∧ ad_c N v k h ≤ 999 * k
  | 0, h => by show (0 : Int) ≤ 0 ∧ (0 : Int) ≤ 999 * ((0 : Nat) : Int); omega
  | k + 1, h => by
    have ih := ad_c_b (N := N) hv k h
    show 0 ≤ (if h = _ then ad_c N v k h + v else ad_c N v k h) ∧ (if h = _ then ad_c N v k h + v else ad_c N v k h) ≤ _
    split <;> omega
theorem ad_g_b {N : Int → Int} {v : Int} : ∀ (k : Nat) (h : Int), 0 ≤ ad_g N v k h ∧ ad_g N v k h ≤ k
  | 0, h => by show (0 : Int) ≤ 0 ∧ (0 : Int) ≤ ((0 : Nat) : Int); omega
  | k + 1, h => by
    have ih := ad_g_b (N := N) (v := v) k h
    show 0 ≤ (if h = _ then ad_g N v k h + 1 else ad_g N v k h) ∧ (if h = _ then ad_g N v k h + 1 else ad_g N v k h) ≤ _
    split <;> omega
noncomputable def rq_aid (N : Int → Int) (n v h : Int) : Int := if (0 ≤ n ∧ n ≤ 6) ∧ (1 ≤ v ∧ v ≤ 999) ∧ (h = -1 ∨ (0 ≤ h ∧ h < N 1)) then (if N 1 = 0 then -2 else if h = -1 then gv_l N (ad_c N v n.toNat) else ad_g N v n.toNat h) else -1
theorem fs_m_helper {d : Nat} {M : fs_M} {Q : Option fs_V → fs_M → Prop} {c : Int} {w : Int}  (hI : fs_NI (M 125)) (hq0 : ∀ (M2 : fs_M), (mm_q M M2) → Q (some (.inl (rq_helper (M 125) c w))) M2) : fs_W (d + 10) 256 0 [some (.inr (.ref 124)), some (.inl c), some (.inl w), none] [] M Q := by
  have hN := hI
  have hb := hN.2.1
  refine fs_r_call (sta := true) (idx := 68) (as := [.inl c, .inl 0, .inl 9999]) (rest := []) (L1 := [some (.inr (.ref 124)), some (.inl c), some (.inl w), none]) (st1 := [.inl 9999, .inl 0, .inl c]) (M1 := M) (ob := []) rfl rfl rfl trivial rfl rfl (Nat.le_of_ble_eq_true rfl) ⟨Or.inr (Nat.le_of_ble_eq_true rfl), trivial⟩ (by decide) ?_
  refine fs_m_isIn (fun (f1 : 0 ≤ c ∧ c ≤ 9999) => ?_) (fun (f2 : ¬ (0 ≤ c ∧ c ≤ 9999)) => ?_)
  · refine fs_r_if (a := 1) (L1 := [some (.inr (.ref 124)), some (.inl c), some (.inl w), none]) (st1 := []) (M1 := M) (ob := []) rfl rfl trivial (fun h => absurd h (by decide : ¬ ((1 : Int) = 0))) (fun _ => ?_)
    refine fs_r_call (sta := true) (idx := 68) (as := [.inl w, .inl 0, .inl 1]) (rest := []) (L1 := [some (.inr (.ref 124)), some (.inl c), some (.inl w), none]) (st1 := [.inl 1, .inl 0, .inl w]) (M1 := M) (ob := []) rfl rfl rfl trivial rfl rfl (Nat.le_of_ble_eq_true rfl) ⟨Or.inr (Nat.le_of_ble_eq_true rfl), trivial⟩ (by decide) ?_
    refine fs_m_isIn (fun (f3 : 0 ≤ w ∧ w ≤ 1) => ?_) (fun (f4 : ¬ (0 ≤ w ∧ w ≤ 1)) => ?_)
    · refine fs_r_if (a := 1) (L1 := [some (.inr (.ref 124)), some (.inl c), some (.inl w), none]) (st1 := []) (M1 := M) (ob := []) rfl rfl trivial (fun _ => ?_) (fun h => absurd (by decide : ¬ (1 : Int) = 0) h)
      refine fs_r_call (sta := false) (idx := 252) (as := [.inr (.ref 124)]) (rest := []) (L1 := [some (.inr (.ref 124)), some (.inl c), some (.inl w), none]) (st1 := [.inr (.ref 124)]) (M1 := M) (ob := []) rfl rfl rfl trivial rfl rfl (Nat.le_of_ble_eq_true rfl) ⟨Or.inr (Nat.le_of_ble_eq_true rfl), Or.inr fs_ob124⟩ (by decide) ?_
      refine fs_m_plain (fun (P1 : fs_M) (pp : mm_P M P1) => ?_)
      refine fs_r_call (sta := false) (idx := 318) (as := [.inr (.ref 124), .inl c]) (rest := []) (L1 := [some (.inr (.ref 124)), some (.inl c), some (.inl w), none]) (st1 := [.inl c, .inr (.ref 124)]) (M1 := P1) (ob := []) rfl rfl rfl trivial rfl rfl (Nat.le_of_ble_eq_true rfl) ⟨Or.inr (Nat.le_of_ble_eq_true rfl), Or.inr fs_ob124⟩ (by decide) ?_
      refine fs_m_helped (hN) (mm_G.P pp) (⟨fun _ _ _ => ⟨(by decide : (0 : Int) ≤ 0), (by decide : (0 : Int) ≤ 9999)⟩, fun _ _ _ => by show (0 : Int) + c ≤ 9999; omega⟩) (by omega) (fun (bb : Int) (V1 : fs_M) (hb2 : bb = aa_b (M 125) (fun _ => 0) c (M 125 1).toNat) (G1 : mm_G M V1 (fun _ => 0)) (l1 : 0 < M 125 1 → V1 124 30 = aa_m (M 125) (fun _ => 0) c (M 125 1).toNat) (k1 : V1 136 = P1 136) => ?_)
      have ab := aa_b_b (N := M 125) (g := fun _ => 0) (v := c) (M 125 1).toNat
      rw [← hb2] at ab
      refine fs_r_icmp (a := bb) (y := (-2)) (L1 := [some (.inr (.ref 124)), some (.inl c), some (.inl w), some (.inl bb)]) (st1 := []) (M1 := V1) (ob := [3 < 4]) rfl rfl (fs_oc (by decide) trivial) (fun (h5 : bb = (-2)) => ?_) (fun (h5 : ¬ (bb = (-2))) => ?_)
      · refine fs_r_goto (L1 := [some (.inr (.ref 124)), some (.inl c), some (.inl w), some (.inl bb)]) (st1 := [.inl bb]) (M1 := V1) (ob := []) rfl rfl trivial ?_
        refine fs_r_iret (a := bb) (L1 := [some (.inr (.ref 124)), some (.inl c), some (.inl w), some (.inl bb)]) (M1 := V1) (ob := []) rfl rfl trivial (Or.inl rfl) ?_
        first
          | exact fs_qi (by unfold rq_helper; rw [if_pos ⟨by assumption, by assumption⟩, if_pos (by omega)]; exact hb2) (hq0 _ G1.1)
          | exact fs_qi (by unfold rq_helper; rw [if_pos ⟨by assumption, by assumption⟩, if_neg (by omega)]; exact l1 (by omega)) (hq0 _ G1.1)
      refine fs_r_if (a := w) (L1 := [some (.inr (.ref 124)), some (.inl c), some (.inl w), some (.inl bb)]) (st1 := []) (M1 := V1) (ob := []) rfl rfl trivial (fun (h6 : ¬ w = 0) => ?_) (fun (h6 : ¬ (¬ w = 0)) => ?_)
      · refine fs_r_nop (L1 := [some (.inr (.ref 124)), some (.inl c), some (.inl w), some (.inl bb)]) (st1 := [.inl (V1 124 30)]) (M1 := V1) (ob := [124 < fs_N ∧ fs_kd 124 = 6]) rfl rfl (fs_oc fs_ob124 trivial) ?_
        refine fs_r_iret (a := (V1 124 30)) (L1 := [some (.inr (.ref 124)), some (.inl c), some (.inl w), some (.inl bb)]) (M1 := V1) (ob := []) rfl rfl trivial (Or.inl rfl) ?_
        first
          | exact fs_qi (by unfold rq_helper; rw [if_pos ⟨by assumption, by assumption⟩, if_pos (by omega)]; exact hb2) (hq0 _ G1.1)
          | exact fs_qi (by unfold rq_helper; rw [if_pos ⟨by assumption, by assumption⟩, if_neg (by omega)]; exact l1 (by omega)) (hq0 _ G1.1)
      refine fs_r_goto (L1 := [some (.inr (.ref 124)), some (.inl c), some (.inl w), some (.inl bb)]) (st1 := [.inl bb]) (M1 := V1) (ob := []) rfl rfl trivial ?_
      refine fs_r_iret (a := bb) (L1 := [some (.inr (.ref 124)), some (.inl c), some (.inl w), some (.inl bb)]) (M1 := V1) (ob := []) rfl rfl trivial (Or.inl rfl) ?_
      first
        | exact fs_qi (by unfold rq_helper; rw [if_pos ⟨by assumption, by assumption⟩, if_pos (by omega)]; exact hb2) (hq0 _ G1.1)
        | exact fs_qi (by unfold rq_helper; rw [if_pos ⟨by assumption, by assumption⟩, if_neg (by omega)]; exact l1 (by omega)) (hq0 _ G1.1)
    refine fs_r_if (a := 0) (L1 := [some (.inr (.ref 124)), some (.inl c), some (.inl w), none]) (st1 := []) (M1 := M) (ob := []) rfl rfl trivial (fun h => absurd h (by decide : ¬ (¬ (0 : Int) = 0))) (fun _ => ?_)
    refine fs_r_iret (a := (-1)) (L1 := [some (.inr (.ref 124)), some (.inl c), some (.inl w), none]) (M1 := M) (ob := []) rfl rfl trivial (Or.inl rfl) ?_
    exact fs_qi (by unfold rq_helper; rw [if_neg (fun z => by first | exact absurd z (by assumption) | exact absurd z.1 (by assumption) | exact absurd z.2 (by assumption) | exact absurd z.2.1 (by assumption) | exact absurd z.2.2 (by assumption))]) (hq0 _ mm_q.rf)
  refine fs_r_if (a := 0) (L1 := [some (.inr (.ref 124)), some (.inl c), some (.inl w), none]) (st1 := []) (M1 := M) (ob := []) rfl rfl trivial (fun _ => ?_) (fun h => absurd (by decide : (0 : Int) = 0) h)
  refine fs_r_iret (a := (-1)) (L1 := [some (.inr (.ref 124)), some (.inl c), some (.inl w), none]) (M1 := M) (ob := []) rfl rfl trivial (Or.inl rfl) ?_
  exact fs_qi (by unfold rq_helper; rw [if_neg (fun z => by first | exact absurd z (by assumption) | exact absurd z.1 (by assumption) | exact absurd z.2 (by assumption) | exact absurd z.2.1 (by assumption) | exact absurd z.2.2 (by assumption))]) (hq0 _ mm_q.rf)

theorem fs_m_aid {d : Nat} {M : fs_M} {Q : Option fs_V → fs_M → Prop} {n : Int} {v : Int} {h : Int}  (hI : fs_NI (M 125)) (hq0 : ∀ (M2 : fs_M), (mm_q M M2) → Q (some (.inl (rq_aid (M 125) n v h))) M2) : fs_W (d + 10) 259 0 [some (.inr (.ref 124)), some (.inl n), some (.inl v), some (.inl h), none, none] [] M Q := by
  have hN := hI
  have hb := hN.2.1
  refine fs_r_call (sta := true) (idx := 68) (as := [.inl n, .inl 0, .inl 6]) (rest := []) (L1 := [some (.inr (.ref 124)), some (.inl n), some (.inl v), some (.inl h), none, none]) (st1 := [.inl 6, .inl 0, .inl n]) (M1 := M) (ob := []) rfl rfl rfl trivial rfl rfl (Nat.le_of_ble_eq_true rfl) ⟨Or.inr (Nat.le_of_ble_eq_true rfl), trivial⟩ (by decide) ?_
  refine fs_m_isIn (fun (f1 : 0 ≤ n ∧ n ≤ 6) => ?_) (fun (f2 : ¬ (0 ≤ n ∧ n ≤ 6)) => ?_)
  · refine fs_r_if (a := 1) (L1 := [some (.inr (.ref 124)), some (.inl n), some (.inl v), some (.inl h), none, none]) (st1 := []) (M1 := M) (ob := []) rfl rfl trivial (fun h => absurd h (by decide : ¬ ((1 : Int) = 0))) (fun _ => ?_)
    refine fs_r_call (sta := true) (idx := 68) (as := [.inl v, .inl 1, .inl 999]) (rest := []) (L1 := [some (.inr (.ref 124)), some (.inl n), some (.inl v), some (.inl h), none, none]) (st1 := [.inl 999, .inl 1, .inl v]) (M1 := M) (ob := []) rfl rfl rfl trivial rfl rfl (Nat.le_of_ble_eq_true rfl) ⟨Or.inr (Nat.le_of_ble_eq_true rfl), trivial⟩ (by decide) ?_
    refine fs_m_isIn (fun (f3 : 1 ≤ v ∧ v ≤ 999) => ?_) (fun (f4 : ¬ (1 ≤ v ∧ v ≤ 999)) => ?_)
    · refine fs_r_if (a := 1) (L1 := [some (.inr (.ref 124)), some (.inl n), some (.inl v), some (.inl h), none, none]) (st1 := []) (M1 := M) (ob := []) rfl rfl trivial (fun h => absurd h (by decide : ¬ ((1 : Int) = 0))) (fun _ => ?_)
      refine fs_r_icmp (a := h) (y := (-1)) (L1 := [some (.inr (.ref 124)), some (.inl n), some (.inl v), some (.inl h), none, none]) (st1 := []) (M1 := M) (ob := []) rfl rfl trivial (fun (h5 : h = (-1)) => ?_) (fun (h5 : ¬ (h = (-1))) => ?_)
      · refine fs_r_if (a := (M 125 1)) (L1 := [some (.inr (.ref 124)), some (.inl n), some (.inl v), some (.inl h), none, none]) (st1 := []) (M1 := M) (ob := [124 < fs_N ∧ fs_kd 124 = 6, (125 < fs_N ∧ fs_kd 125 = 100) ∧ (0 : Int) ≤ 1 ∧ 1 < fs_ln 125]) rfl rfl (fs_oc fs_ob124 (fs_oc (fs_ar125 (by omega) (by omega)) trivial)) (fun (h6 : ¬ (M 125 1) = 0) => ?_) (fun (h6 : ¬ (¬ (M 125 1) = 0)) => ?_)
        · refine fs_r_call (sta := false) (idx := 252) (as := [.inr (.ref 124)]) (rest := []) (L1 := [some (.inr (.ref 124)), some (.inl n), some (.inl v), some (.inl h), none, none]) (st1 := [.inr (.ref 124)]) (M1 := M) (ob := []) rfl rfl rfl trivial rfl rfl (Nat.le_of_ble_eq_true rfl) ⟨Or.inr (Nat.le_of_ble_eq_true rfl), Or.inr fs_ob124⟩ (by decide) ?_
          refine fs_m_plain (fun (P1 : fs_M) (pp : mm_P M P1) => ?_)
          refine fs_r_nop (L1 := [some (.inr (.ref 124)), some (.inl n), some (.inl v), some (.inl h), some (.inl 0), none]) (st1 := []) (M1 := P1) (ob := [4 < 6]) rfl rfl (fs_oc (by decide) trivial) ?_
          have loop55 : ∀ (n55 : Nat) (a : Int) (zl5 : Option fs_V) (M4 : fs_M), (0 ≤ a ∧ a ≤ 6) → (mm_G M M4 (fun _ => 0)) → (∀ q, 0 ≤ q → q < a → M4 136 q = 0) → 6 - a < (n55 : Int) → fs_W (d + 10) 259 55 [some (.inr (.ref 124)), some (.inl n), some (.inl v), some (.inl h), some (.inl a), zl5] [] M4 Q := by
            intro n55
            induction n55 with
            | zero =>
              intro a zl5 M4 a0 G4 t4 hm55
              exfalso
              omega
            | succ n55 ih55 =>
              intro a zl5 M4 a0 G4 t4 hm55
              refine fs_r_icmp (a := a) (y := 6) (L1 := [some (.inr (.ref 124)), some (.inl n), some (.inl v), some (.inl h), some (.inl a), zl5]) (st1 := []) (M1 := M4) (ob := []) rfl rfl trivial (fun (h7 : 6 ≤ a) => ?_) (fun (h7 : ¬ (6 ≤ a)) => ?_)
              · refine fs_r_nop (L1 := [some (.inr (.ref 124)), some (.inl n), some (.inl v), some (.inl h), some (.inl 0), zl5]) (st1 := []) (M1 := M4) (ob := [4 < 6]) rfl rfl (fs_oc (by decide) trivial) ?_
                have loop79 : ∀ (n79 : Nat) (k : Int) (zl5 : Option fs_V) (M3 : fs_M), (0 ≤ k ∧ k ≤ n) → (mm_G M M3 (ad_c (M 125) v k.toNat)) → (∀ q, 0 ≤ q → q < 6 → M3 136 q = ad_g (M 125) v k.toNat q) → n - k < (n79 : Int) → fs_W (d + 10) 259 79 [some (.inr (.ref 124)), some (.inl n), some (.inl v), some (.inl h), some (.inl k), zl5] [] M3 Q := by
                  intro n79
                  induction n79 with
                  | zero =>
                    intro k zl5 M3 i0 G3 t3 hm79
                    exfalso
                    omega
                  | succ n79 ih79 =>
                    intro k zl5 M3 i0 G3 t3 hm79
                    refine fs_r_icmp (a := k) (y := n) (L1 := [some (.inr (.ref 124)), some (.inl n), some (.inl v), some (.inl h), some (.inl k), zl5]) (st1 := []) (M1 := M3) (ob := []) rfl rfl trivial (fun (h8 : n ≤ k) => ?_) (fun (h8 : ¬ (n ≤ k)) => ?_)
                    · have kn : k = n := by omega
                      refine fs_r_icmp (a := h) (y := (-1)) (L1 := [some (.inr (.ref 124)), some (.inl n), some (.inl v), some (.inl h), some (.inl k), zl5]) (st1 := []) (M1 := M3) (ob := []) rfl rfl trivial (fun (h9 : ¬ h = (-1)) => ?_) (fun (h9 : ¬ (¬ h = (-1))) => ?_)
                      · refine fs_r_nop (L1 := [some (.inr (.ref 124)), some (.inl n), some (.inl v), some (.inl h), some (.inl k), zl5]) (st1 := [.inl (M3 136 h)]) (M1 := M3) (ob := [124 < fs_N ∧ fs_kd 124 = 6, (136 < fs_N ∧ fs_kd 136 = 100) ∧ (0 : Int) ≤ h ∧ h < fs_ln 136]) rfl rfl (fs_oc fs_ob124 (fs_oc (fs_ar136 (by omega) (by omega)) trivial)) ?_
                        refine fs_r_iret (a := (M3 136 h)) (L1 := [some (.inr (.ref 124)), some (.inl n), some (.inl v), some (.inl h), some (.inl k), zl5]) (M1 := M3) (ob := []) rfl rfl trivial (Or.inl rfl) ?_
                        first
                          | (exfalso; omega)
                          | exact fs_qi (by unfold rq_aid; rw [if_pos ⟨by assumption, by assumption, by omega⟩, if_neg (by omega), if_pos (by omega), xe, kn]) (hq0 _ (G3.1.tr (mm_q.f3 g1)))
                          | exact fs_qi (by unfold rq_aid; rw [if_pos ⟨by assumption, by assumption, by omega⟩, if_neg (by omega), if_neg (by omega), t3 h (by omega) (by omega), kn]) (hq0 _ G3.1)
                      have og : gv_ok (ad_c (M 125) v k.toNat) := fun q q0 q1 => by have := ad_c_b (N := M 125) (v := v) (by omega) k.toNat q; omega
                      have IG := G3.I hN og
                      have lG := G3.l hN og
                      refine fs_r_call (sta := false) (idx := 312) (as := [.inr (.ref 124)]) (rest := []) (L1 := [some (.inr (.ref 124)), some (.inl n), some (.inl v), some (.inl h), some (.inl k), zl5]) (st1 := [.inr (.ref 124)]) (M1 := M3) (ob := []) rfl rfl rfl trivial rfl rfl (Nat.le_of_ble_eq_true rfl) ⟨Or.inr (Nat.le_of_ble_eq_true rfl), Or.inr fs_ob124⟩ (by decide) ?_
                      refine fs_m_lostNow (IG) (fun (x : Int) (V2 : fs_M) (g1 : mm_f3 M3 V2) (xe : x = ec_lost (mm_E M3) (ec_lst (mm_E M3))) (gg : 0 ≤ x ∧ x ≤ 288000) => ?_)
                      rw [lG] at xe
                      refine fs_r_goto (L1 := [some (.inr (.ref 124)), some (.inl n), some (.inl v), some (.inl h), some (.inl k), zl5]) (st1 := [.inl x]) (M1 := V2) (ob := []) rfl rfl trivial ?_
                      refine fs_r_iret (a := x) (L1 := [some (.inr (.ref 124)), some (.inl n), some (.inl v), some (.inl h), some (.inl k), zl5]) (M1 := V2) (ob := []) rfl rfl trivial (Or.inl rfl) ?_
                      first
                        | (exfalso; omega)
                        | exact fs_qi (by unfold rq_aid; rw [if_pos ⟨by assumption, by assumption, by omega⟩, if_neg (by omega), if_pos (by omega), xe, kn]) (hq0 _ (G3.1.tr (mm_q.f3 g1)))
                        | exact fs_qi (by unfold rq_aid; rw [if_pos ⟨by assumption, by assumption, by omega⟩, if_neg (by omega), if_neg (by omega), t3 h (by omega) (by omega), kn]) (hq0 _ G3.1)
                    have og : gv_ok (ad_c (M 125) v k.toNat) := fun q q0 q1 => by have := ad_c_b (N := M 125) (v := v) (by omega) k.toNat q; omega
                    refine fs_r_call (sta := false) (idx := 318) (as := [.inr (.ref 124), .inl v]) (rest := []) (L1 := [some (.inr (.ref 124)), some (.inl n), some (.inl v), some (.inl h), some (.inl k), zl5]) (st1 := [.inl v, .inr (.ref 124)]) (M1 := M3) (ob := []) rfl rfl rfl trivial rfl rfl (Nat.le_of_ble_eq_true rfl) ⟨Or.inr (Nat.le_of_ble_eq_true rfl), Or.inr fs_ob124⟩ (by decide) ?_
                    refine fs_m_helped (hN) (G3) (⟨og, fun q q0 q1 => by have := ad_c_b (N := M 125) (v := v) (by omega) k.toNat q; omega⟩) (by omega) (fun (bb : Int) (V1 : fs_M) (hb2 : bb = aa_b (M 125) (ad_c (M 125) v k.toNat) v (M 125 1).toNat) (G1 : mm_G M V1 (ad_c (M 125) v k.toNat)) (l1 : 0 < M 125 1 → V1 124 30 = aa_m (M 125) (ad_c (M 125) v k.toNat) v (M 125 1).toNat) (k1 : V1 136 = M3 136) => ?_)
                    have ab := (aa_b_b (N := M 125) (g := ad_c (M 125) v k.toNat) (v := v) (M 125 1).toNat).2 (by omega)
                    rw [← hb2] at ab
                    have g3 := G1.2.2 bb (by omega) (by omega)
                    have gb := ad_c_b (N := M 125) (v := v) (by omega) k.toNat bb
                    have gg := ad_g_b (N := M 125) (v := v) k.toNat bb
                    have g9 : V1 136 bb = ad_g (M 125) v k.toNat bb := by rw [k1]; exact t3 bb (by omega) (by omega)
                    have ek : (k + 1).toNat = k.toNat + 1 := by omega
                    have ec : ad_c (M 125) v (k + 1).toNat = gv_p (ad_c (M 125) v k.toNat) bb v := by rw [ek, hb2]; rfl
                    have eg : ad_g (M 125) v (k + 1).toNat = gv_p (ad_g (M 125) v k.toNat) bb 1 := by rw [ek, hb2]; rfl
                    have G4 : mm_G M (fs_up V1 131 bb ((V1 131 bb) + v)) (ad_c (M 125) v (k + 1).toNat) := G1.u.to (fun q _ _ => by rw [ec]; unfold gv_p; split; (rename_i z; rw [z, g3]); rfl)
                    refine fs_r_goto (L1 := [some (.inr (.ref 124)), some (.inl n), some (.inl v), some (.inl h), some (.inl (k + 1)), some (.inl bb)]) (st1 := []) (M1 := (fs_up (fs_up V1 131 bb ((V1 131 bb) + v)) 136 bb ((V1 136 bb) + 1))) (ob := [5 < 6, 124 < fs_N ∧ fs_kd 124 = 6, (131 < fs_N ∧ fs_kd 131 = 100) ∧ (0 : Int) ≤ bb ∧ bb < fs_ln 131, fs_rg ((V1 131 bb) + v), (131 < fs_N ∧ fs_kd 131 = 100) ∧ (0 : Int) ≤ bb ∧ bb < fs_ln 131, 124 < fs_N ∧ fs_kd 124 = 6, (136 < fs_N ∧ fs_kd 136 = 100) ∧ (0 : Int) ≤ bb ∧ bb < fs_ln 136, fs_rg ((V1 136 bb) + 1), (136 < fs_N ∧ fs_kd 136 = 100) ∧ (0 : Int) ≤ bb ∧ bb < fs_ln 136, fs_rg (k + 1)]) rfl (fs_exA 6 (o1 := [5 < 6, 124 < fs_N ∧ fs_kd 124 = 6, (131 < fs_N ∧ fs_kd 131 = 100) ∧ (0 : Int) ≤ bb ∧ bb < fs_ln 131]) (L1 := [some (.inr (.ref 124)), some (.inl n), some (.inl v), some (.inl h), some (.inl k), some (.inl bb)]) (st1 := [.inl (V1 131 bb), .inl bb, .inr (.ref 131)]) (M1 := V1) (o2 := [fs_rg ((V1 131 bb) + v), (131 < fs_N ∧ fs_kd 131 = 100) ∧ (0 : Int) ≤ bb ∧ bb < fs_ln 131, 124 < fs_N ∧ fs_kd 124 = 6, (136 < fs_N ∧ fs_kd 136 = 100) ∧ (0 : Int) ≤ bb ∧ bb < fs_ln 136, fs_rg ((V1 136 bb) + 1), (136 < fs_N ∧ fs_kd 136 = 100) ∧ (0 : Int) ≤ bb ∧ bb < fs_ln 136, fs_rg (k + 1)]) rfl (fs_exA 6 (o1 := [fs_rg ((V1 131 bb) + v), (131 < fs_N ∧ fs_kd 131 = 100) ∧ (0 : Int) ≤ bb ∧ bb < fs_ln 131, 124 < fs_N ∧ fs_kd 124 = 6]) (L1 := [some (.inr (.ref 124)), some (.inl n), some (.inl v), some (.inl h), some (.inl k), some (.inl bb)]) (st1 := [.inl bb, .inr (.ref 136)]) (M1 := (fs_up V1 131 bb ((V1 131 bb) + v))) (o2 := [(136 < fs_N ∧ fs_kd 136 = 100) ∧ (0 : Int) ≤ bb ∧ bb < fs_ln 136, fs_rg ((V1 136 bb) + 1), (136 < fs_N ∧ fs_kd 136 = 100) ∧ (0 : Int) ≤ bb ∧ bb < fs_ln 136, fs_rg (k + 1)]) rfl rfl)) (fs_oc (by decide) (fs_oc fs_ob124 (fs_oc (fs_ar131 (by omega) (by omega)) (fs_oc ⟨by omega, by omega⟩ (fs_oc (fs_ar131 (by omega) (by omega)) (fs_oc fs_ob124 (fs_oc (fs_ar136 (by omega) (by omega)) (fs_oc ⟨by omega, by omega⟩ (fs_oc (fs_ar136 (by omega) (by omega)) (fs_oc ⟨by omega, by omega⟩ trivial)))))))))) ?_
                    exact ih79 ((k + 1)) (some (.inl bb)) (fs_up (fs_up V1 131 bb ((V1 131 bb) + v)) 136 bb ((V1 136 bb) + 1)) (by omega) (G4.u136) (fun q q0 q1 => by rw [fs_up_at, eg]; unfold gv_p; show (if q = bb then V1 136 bb + 1 else V1 136 q) = _; split; (rename_i z; rw [z, g9]); (rw [k1]; exact t3 q q0 q1)) (by omega)
                exact loop79 (((n - (0)) : Int) + 1).toNat (0) (zl5) M4 (by omega) (G4) (fun q q0 q1 => t4 q q0 (by omega)) (by omega)
              refine fs_r_goto (L1 := [some (.inr (.ref 124)), some (.inl n), some (.inl v), some (.inl h), some (.inl (a + 1)), zl5]) (st1 := []) (M1 := (fs_up M4 136 a 0)) (ob := [124 < fs_N ∧ fs_kd 124 = 6, (136 < fs_N ∧ fs_kd 136 = 100) ∧ (0 : Int) ≤ a ∧ a < fs_ln 136, fs_rg (a + 1)]) rfl rfl (fs_oc fs_ob124 (fs_oc (fs_ar136 (by omega) (by omega)) (fs_oc ⟨by omega, by omega⟩ trivial))) ?_
              exact ih55 ((a + 1)) (zl5) (fs_up M4 136 a 0) (by omega) (G4.u136) (fun q q0 q1 => by rw [fs_up_at]; split; rfl; exact t4 q q0 (by omega)) (by omega)
          exact loop55 (((6 - (0)) : Int) + 1).toNat (0) (none) P1 (by omega) (mm_G.P pp) (fun q q0 q1 => by omega) (by omega)
        refine fs_r_iret (a := (-2)) (L1 := [some (.inr (.ref 124)), some (.inl n), some (.inl v), some (.inl h), none, none]) (M1 := M) (ob := []) rfl rfl trivial (Or.inl rfl) ?_
        exact fs_qi (by unfold rq_aid; rw [if_pos ⟨by assumption, by assumption, by first | exact Or.inl (by assumption) | exact Or.inr (by assumption)⟩, if_pos (by omega)]) (hq0 _ mm_q.rf)
      refine fs_r_call (sta := false) (idx := 237) (as := [.inr (.ref 124), .inl h]) (rest := []) (L1 := [some (.inr (.ref 124)), some (.inl n), some (.inl v), some (.inl h), none, none]) (st1 := [.inl h, .inr (.ref 124)]) (M1 := M) (ob := []) rfl rfl rfl trivial rfl rfl (Nat.le_of_ble_eq_true rfl) ⟨Or.inr (Nat.le_of_ble_eq_true rfl), Or.inr fs_ob124⟩ (by decide) ?_
      refine fs_m_isHouse (by assumption) (fun (f10 : 0 ≤ h ∧ h < M 125 1) => ?_) (fun (f11 : ¬ (0 ≤ h ∧ h < M 125 1)) => ?_)
      · refine fs_r_if (a := 1) (L1 := [some (.inr (.ref 124)), some (.inl n), some (.inl v), some (.inl h), none, none]) (st1 := []) (M1 := M) (ob := []) rfl rfl trivial (fun _ => ?_) (fun h => absurd (by decide : ¬ (1 : Int) = 0) h)
        refine fs_r_if (a := (M 125 1)) (L1 := [some (.inr (.ref 124)), some (.inl n), some (.inl v), some (.inl h), none, none]) (st1 := []) (M1 := M) (ob := [124 < fs_N ∧ fs_kd 124 = 6, (125 < fs_N ∧ fs_kd 125 = 100) ∧ (0 : Int) ≤ 1 ∧ 1 < fs_ln 125]) rfl rfl (fs_oc fs_ob124 (fs_oc (fs_ar125 (by omega) (by omega)) trivial)) (fun (h12 : ¬ (M 125 1) = 0) => ?_) (fun (h12 : ¬ (¬ (M 125 1) = 0)) => ?_)
        · refine fs_r_call (sta := false) (idx := 252) (as := [.inr (.ref 124)]) (rest := []) (L1 := [some (.inr (.ref 124)), some (.inl n), some (.inl v), some (.inl h), none, none]) (st1 := [.inr (.ref 124)]) (M1 := M) (ob := []) rfl rfl rfl trivial rfl rfl (Nat.le_of_ble_eq_true rfl) ⟨Or.inr (Nat.le_of_ble_eq_true rfl), Or.inr fs_ob124⟩ (by decide) ?_
          refine fs_m_plain (fun (P1 : fs_M) (pp : mm_P M P1) => ?_)
          refine fs_r_nop (L1 := [some (.inr (.ref 124)), some (.inl n), some (.inl v), some (.inl h), some (.inl 0), none]) (st1 := []) (M1 := P1) (ob := [4 < 6]) rfl rfl (fs_oc (by decide) trivial) ?_
          have loop55 : ∀ (n55 : Nat) (a : Int) (zl5 : Option fs_V) (M4 : fs_M), (0 ≤ a ∧ a ≤ 6) → (mm_G M M4 (fun _ => 0)) → (∀ q, 0 ≤ q → q < a → M4 136 q = 0) → 6 - a < (n55 : Int) → fs_W (d + 10) 259 55 [some (.inr (.ref 124)), some (.inl n), some (.inl v), some (.inl h), some (.inl a), zl5] [] M4 Q := by
            intro n55
            induction n55 with
            | zero =>
              intro a zl5 M4 a0 G4 t4 hm55
              exfalso
              omega
            | succ n55 ih55 =>
              intro a zl5 M4 a0 G4 t4 hm55
              refine fs_r_icmp (a := a) (y := 6) (L1 := [some (.inr (.ref 124)), some (.inl n), some (.inl v), some (.inl h), some (.inl a), zl5]) (st1 := []) (M1 := M4) (ob := []) rfl rfl trivial (fun (h13 : 6 ≤ a) => ?_) (fun (h13 : ¬ (6 ≤ a)) => ?_)
              · refine fs_r_nop (L1 := [some (.inr (.ref 124)), some (.inl n), some (.inl v), some (.inl h), some (.inl 0), zl5]) (st1 := []) (M1 := M4) (ob := [4 < 6]) rfl rfl (fs_oc (by decide) trivial) ?_
                have loop79 : ∀ (n79 : Nat) (k : Int) (zl5 : Option fs_V) (M3 : fs_M), (0 ≤ k ∧ k ≤ n) → (mm_G M M3 (ad_c (M 125) v k.toNat)) → (∀ q, 0 ≤ q → q < 6 → M3 136 q = ad_g (M 125) v k.toNat q) → n - k < (n79 : Int) → fs_W (d + 10) 259 79 [some (.inr (.ref 124)), some (.inl n), some (.inl v), some (.inl h), some (.inl k), zl5] [] M3 Q := by
                  intro n79
                  induction n79 with
                  | zero =>
                    intro k zl5 M3 i0 G3 t3 hm79
                    exfalso
                    omega
                  | succ n79 ih79 =>
                    intro k zl5 M3 i0 G3 t3 hm79
                    refine fs_r_icmp (a := k) (y := n) (L1 := [some (.inr (.ref 124)), some (.inl n), some (.inl v), some (.inl h), some (.inl k), zl5]) (st1 := []) (M1 := M3) (ob := []) rfl rfl trivial (fun (h14 : n ≤ k) => ?_) (fun (h14 : ¬ (n ≤ k)) => ?_)
                    · have kn : k = n := by omega
                      refine fs_r_icmp (a := h) (y := (-1)) (L1 := [some (.inr (.ref 124)), some (.inl n), some (.inl v), some (.inl h), some (.inl k), zl5]) (st1 := []) (M1 := M3) (ob := []) rfl rfl trivial (fun (h15 : ¬ h = (-1)) => ?_) (fun (h15 : ¬ (¬ h = (-1))) => ?_)
                      · refine fs_r_nop (L1 := [some (.inr (.ref 124)), some (.inl n), some (.inl v), some (.inl h), some (.inl k), zl5]) (st1 := [.inl (M3 136 h)]) (M1 := M3) (ob := [124 < fs_N ∧ fs_kd 124 = 6, (136 < fs_N ∧ fs_kd 136 = 100) ∧ (0 : Int) ≤ h ∧ h < fs_ln 136]) rfl rfl (fs_oc fs_ob124 (fs_oc (fs_ar136 (by omega) (by omega)) trivial)) ?_
                        refine fs_r_iret (a := (M3 136 h)) (L1 := [some (.inr (.ref 124)), some (.inl n), some (.inl v), some (.inl h), some (.inl k), zl5]) (M1 := M3) (ob := []) rfl rfl trivial (Or.inl rfl) ?_
                        first
                          | (exfalso; omega)
                          | exact fs_qi (by unfold rq_aid; rw [if_pos ⟨by assumption, by assumption, by omega⟩, if_neg (by omega), if_pos (by omega), xe, kn]) (hq0 _ (G3.1.tr (mm_q.f3 g1)))
                          | exact fs_qi (by unfold rq_aid; rw [if_pos ⟨by assumption, by assumption, by omega⟩, if_neg (by omega), if_neg (by omega), t3 h (by omega) (by omega), kn]) (hq0 _ G3.1)
                      have og : gv_ok (ad_c (M 125) v k.toNat) := fun q q0 q1 => by have := ad_c_b (N := M 125) (v := v) (by omega) k.toNat q; omega
                      have IG := G3.I hN og
                      have lG := G3.l hN og
                      refine fs_r_call (sta := false) (idx := 312) (as := [.inr (.ref 124)]) (rest := []) (L1 := [some (.inr (.ref 124)), some (.inl n), some (.inl v), some (.inl h), some (.inl k), zl5]) (st1 := [.inr (.ref 124)]) (M1 := M3) (ob := []) rfl rfl rfl trivial rfl rfl (Nat.le_of_ble_eq_true rfl) ⟨Or.inr (Nat.le_of_ble_eq_true rfl), Or.inr fs_ob124⟩ (by decide) ?_
                      refine fs_m_lostNow (IG) (fun (x : Int) (V2 : fs_M) (g1 : mm_f3 M3 V2) (xe : x = ec_lost (mm_E M3) (ec_lst (mm_E M3))) (gg : 0 ≤ x ∧ x ≤ 288000) => ?_)
                      rw [lG] at xe
                      refine fs_r_goto (L1 := [some (.inr (.ref 124)), some (.inl n), some (.inl v), some (.inl h), some (.inl k), zl5]) (st1 := [.inl x]) (M1 := V2) (ob := []) rfl rfl trivial ?_
                      refine fs_r_iret (a := x) (L1 := [some (.inr (.ref 124)), some (.inl n), some (.inl v), some (.inl h), some (.inl k), zl5]) (M1 := V2) (ob := []) rfl rfl trivial (Or.inl rfl) ?_
                      first
                        | (exfalso; omega)
                        | exact fs_qi (by unfold rq_aid; rw [if_pos ⟨by assumption, by assumption, by omega⟩, if_neg (by omega), if_pos (by omega), xe, kn]) (hq0 _ (G3.1.tr (mm_q.f3 g1)))
                        | exact fs_qi (by unfold rq_aid; rw [if_pos ⟨by assumption, by assumption, by omega⟩, if_neg (by omega), if_neg (by omega), t3 h (by omega) (by omega), kn]) (hq0 _ G3.1)
                    have og : gv_ok (ad_c (M 125) v k.toNat) := fun q q0 q1 => by have := ad_c_b (N := M 125) (v := v) (by omega) k.toNat q; omega
                    refine fs_r_call (sta := false) (idx := 318) (as := [.inr (.ref 124), .inl v]) (rest := []) (L1 := [some (.inr (.ref 124)), some (.inl n), some (.inl v), some (.inl h), some (.inl k), zl5]) (st1 := [.inl v, .inr (.ref 124)]) (M1 := M3) (ob := []) rfl rfl rfl trivial rfl rfl (Nat.le_of_ble_eq_true rfl) ⟨Or.inr (Nat.le_of_ble_eq_true rfl), Or.inr fs_ob124⟩ (by decide) ?_
                    refine fs_m_helped (hN) (G3) (⟨og, fun q q0 q1 => by have := ad_c_b (N := M 125) (v := v) (by omega) k.toNat q; omega⟩) (by omega) (fun (bb : Int) (V1 : fs_M) (hb2 : bb = aa_b (M 125) (ad_c (M 125) v k.toNat) v (M 125 1).toNat) (G1 : mm_G M V1 (ad_c (M 125) v k.toNat)) (l1 : 0 < M 125 1 → V1 124 30 = aa_m (M 125) (ad_c (M 125) v k.toNat) v (M 125 1).toNat) (k1 : V1 136 = M3 136) => ?_)
                    have ab := (aa_b_b (N := M 125) (g := ad_c (M 125) v k.toNat) (v := v) (M 125 1).toNat).2 (by omega)
                    rw [← hb2] at ab
                    have g3 := G1.2.2 bb (by omega) (by omega)
                    have gb := ad_c_b (N := M 125) (v := v) (by omega) k.toNat bb
                    have gg := ad_g_b (N := M 125) (v := v) k.toNat bb
                    have g9 : V1 136 bb = ad_g (M 125) v k.toNat bb := by rw [k1]; exact t3 bb (by omega) (by omega)
                    have ek : (k + 1).toNat = k.toNat + 1 := by omega
                    have ec : ad_c (M 125) v (k + 1).toNat = gv_p (ad_c (M 125) v k.toNat) bb v := by rw [ek, hb2]; rfl
                    have eg : ad_g (M 125) v (k + 1).toNat = gv_p (ad_g (M 125) v k.toNat) bb 1 := by rw [ek, hb2]; rfl
                    have G4 : mm_G M (fs_up V1 131 bb ((V1 131 bb) + v)) (ad_c (M 125) v (k + 1).toNat) := G1.u.to (fun q _ _ => by rw [ec]; unfold gv_p; split; (rename_i z; rw [z, g3]); rfl)
                    refine fs_r_goto (L1 := [some (.inr (.ref 124)), some (.inl n), some (.inl v), some (.inl h), some (.inl (k + 1)), some (.inl bb)]) (st1 := []) (M1 := (fs_up (fs_up V1 131 bb ((V1 131 bb) + v)) 136 bb ((V1 136 bb) + 1))) (ob := [5 < 6, 124 < fs_N ∧ fs_kd 124 = 6, (131 < fs_N ∧ fs_kd 131 = 100) ∧ (0 : Int) ≤ bb ∧ bb < fs_ln 131, fs_rg ((V1 131 bb) + v), (131 < fs_N ∧ fs_kd 131 = 100) ∧ (0 : Int) ≤ bb ∧ bb < fs_ln 131, 124 < fs_N ∧ fs_kd 124 = 6, (136 < fs_N ∧ fs_kd 136 = 100) ∧ (0 : Int) ≤ bb ∧ bb < fs_ln 136, fs_rg ((V1 136 bb) + 1), (136 < fs_N ∧ fs_kd 136 = 100) ∧ (0 : Int) ≤ bb ∧ bb < fs_ln 136, fs_rg (k + 1)]) rfl (fs_exA 6 (o1 := [5 < 6, 124 < fs_N ∧ fs_kd 124 = 6, (131 < fs_N ∧ fs_kd 131 = 100) ∧ (0 : Int) ≤ bb ∧ bb < fs_ln 131]) (L1 := [some (.inr (.ref 124)), some (.inl n), some (.inl v), some (.inl h), some (.inl k), some (.inl bb)]) (st1 := [.inl (V1 131 bb), .inl bb, .inr (.ref 131)]) (M1 := V1) (o2 := [fs_rg ((V1 131 bb) + v), (131 < fs_N ∧ fs_kd 131 = 100) ∧ (0 : Int) ≤ bb ∧ bb < fs_ln 131, 124 < fs_N ∧ fs_kd 124 = 6, (136 < fs_N ∧ fs_kd 136 = 100) ∧ (0 : Int) ≤ bb ∧ bb < fs_ln 136, fs_rg ((V1 136 bb) + 1), (136 < fs_N ∧ fs_kd 136 = 100) ∧ (0 : Int) ≤ bb ∧ bb < fs_ln 136, fs_rg (k + 1)]) rfl (fs_exA 6 (o1 := [fs_rg ((V1 131 bb) + v), (131 < fs_N ∧ fs_kd 131 = 100) ∧ (0 : Int) ≤ bb ∧ bb < fs_ln 131, 124 < fs_N ∧ fs_kd 124 = 6]) (L1 := [some (.inr (.ref 124)), some (.inl n), some (.inl v), some (.inl h), some (.inl k), some (.inl bb)]) (st1 := [.inl bb, .inr (.ref 136)]) (M1 := (fs_up V1 131 bb ((V1 131 bb) + v))) (o2 := [(136 < fs_N ∧ fs_kd 136 = 100) ∧ (0 : Int) ≤ bb ∧ bb < fs_ln 136, fs_rg ((V1 136 bb) + 1), (136 < fs_N ∧ fs_kd 136 = 100) ∧ (0 : Int) ≤ bb ∧ bb < fs_ln 136, fs_rg (k + 1)]) rfl rfl)) (fs_oc (by decide) (fs_oc fs_ob124 (fs_oc (fs_ar131 (by omega) (by omega)) (fs_oc ⟨by omega, by omega⟩ (fs_oc (fs_ar131 (by omega) (by omega)) (fs_oc fs_ob124 (fs_oc (fs_ar136 (by omega) (by omega)) (fs_oc ⟨by omega, by omega⟩ (fs_oc (fs_ar136 (by omega) (by omega)) (fs_oc ⟨by omega, by omega⟩ trivial)))))))))) ?_
                    exact ih79 ((k + 1)) (some (.inl bb)) (fs_up (fs_up V1 131 bb ((V1 131 bb) + v)) 136 bb ((V1 136 bb) + 1)) (by omega) (G4.u136) (fun q q0 q1 => by rw [fs_up_at, eg]; unfold gv_p; show (if q = bb then V1 136 bb + 1 else V1 136 q) = _; split; (rename_i z; rw [z, g9]); (rw [k1]; exact t3 q q0 q1)) (by omega)
                exact loop79 (((n - (0)) : Int) + 1).toNat (0) (zl5) M4 (by omega) (G4) (fun q q0 q1 => t4 q q0 (by omega)) (by omega)
              refine fs_r_goto (L1 := [some (.inr (.ref 124)), some (.inl n), some (.inl v), some (.inl h), some (.inl (a + 1)), zl5]) (st1 := []) (M1 := (fs_up M4 136 a 0)) (ob := [124 < fs_N ∧ fs_kd 124 = 6, (136 < fs_N ∧ fs_kd 136 = 100) ∧ (0 : Int) ≤ a ∧ a < fs_ln 136, fs_rg (a + 1)]) rfl rfl (fs_oc fs_ob124 (fs_oc (fs_ar136 (by omega) (by omega)) (fs_oc ⟨by omega, by omega⟩ trivial))) ?_
              exact ih55 ((a + 1)) (zl5) (fs_up M4 136 a 0) (by omega) (G4.u136) (fun q q0 q1 => by rw [fs_up_at]; split; rfl; exact t4 q q0 (by omega)) (by omega)
          exact loop55 (((6 - (0)) : Int) + 1).toNat (0) (none) P1 (by omega) (mm_G.P pp) (fun q q0 q1 => by omega) (by omega)
        refine fs_r_iret (a := (-2)) (L1 := [some (.inr (.ref 124)), some (.inl n), some (.inl v), some (.inl h), none, none]) (M1 := M) (ob := []) rfl rfl trivial (Or.inl rfl) ?_
        exact fs_qi (by unfold rq_aid; rw [if_pos ⟨by assumption, by assumption, by first | exact Or.inl (by assumption) | exact Or.inr (by assumption)⟩, if_pos (by omega)]) (hq0 _ mm_q.rf)
      refine fs_r_if (a := 0) (L1 := [some (.inr (.ref 124)), some (.inl n), some (.inl v), some (.inl h), none, none]) (st1 := []) (M1 := M) (ob := []) rfl rfl trivial (fun h => absurd h (by decide : ¬ (¬ (0 : Int) = 0))) (fun _ => ?_)
      refine fs_r_iret (a := (-1)) (L1 := [some (.inr (.ref 124)), some (.inl n), some (.inl v), some (.inl h), none, none]) (M1 := M) (ob := []) rfl rfl trivial (Or.inl rfl) ?_
      exact fs_qi (by unfold rq_aid; rw [if_neg (fun z => by first | exact absurd z.1 (by assumption) | exact absurd z.2.1 (by assumption) | (obtain ⟨-, -, z3⟩ := z; omega))]) (hq0 _ mm_q.rf)
    refine fs_r_if (a := 0) (L1 := [some (.inr (.ref 124)), some (.inl n), some (.inl v), some (.inl h), none, none]) (st1 := []) (M1 := M) (ob := []) rfl rfl trivial (fun _ => ?_) (fun h => absurd (by decide : (0 : Int) = 0) h)
    refine fs_r_iret (a := (-1)) (L1 := [some (.inr (.ref 124)), some (.inl n), some (.inl v), some (.inl h), none, none]) (M1 := M) (ob := []) rfl rfl trivial (Or.inl rfl) ?_
    exact fs_qi (by unfold rq_aid; rw [if_neg (fun z => by first | exact absurd z.1 (by assumption) | exact absurd z.2.1 (by assumption) | (obtain ⟨-, -, z3⟩ := z; omega))]) (hq0 _ mm_q.rf)
  refine fs_r_if (a := 0) (L1 := [some (.inr (.ref 124)), some (.inl n), some (.inl v), some (.inl h), none, none]) (st1 := []) (M1 := M) (ob := []) rfl rfl trivial (fun _ => ?_) (fun h => absurd (by decide : (0 : Int) = 0) h)
  refine fs_r_iret (a := (-1)) (L1 := [some (.inr (.ref 124)), some (.inl n), some (.inl v), some (.inl h), none, none]) (M1 := M) (ob := []) rfl rfl trivial (Or.inl rfl) ?_
  exact fs_qi (by unfold rq_aid; rw [if_neg (fun z => by first | exact absurd z.1 (by assumption) | exact absurd z.2.1 (by assumption) | (obtain ⟨-, -, z3⟩ := z; omega))]) (hq0 _ mm_q.rf)
