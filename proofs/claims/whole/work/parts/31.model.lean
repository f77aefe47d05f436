/-- ROUND j stands in the Model's memory -/
def mm_R (M V : fs_M) (j : Nat) : Prop := mm_q M V ∧ mm_I V ∧ mm_J V ∧ mm_Z V ∧ ec_eq (mm_E V) (ec_pl (M 125)) ∧ mm_st V = ec_it (ec_pl (M 125)) (ec_calm (ec_pl (M 125))) j
theorem mm_okpl {M P : fs_M} (hN : fs_NI (M 125)) (p : mm_P M P) : ec_ok (ec_pl (M 125)) (ec_calm (ec_pl (M 125))) := by
  have e := p.eq hN
  have h := mm_okc (p.I hN)
  rw [e.ok (p.I hN).1.2.1.1, e.calm] at h
  exact h
theorem mm_R.start {M P V : fs_M} (hN : fs_NI (M 125)) (p : mm_P M P) (f : mm_f2 P V) (s : mm_st V = ec_calm (mm_E P)) (j : mm_J V) (z : mm_Z V) : mm_R M V 0 :=
  ⟨(mm_q.P p).tr (mm_q.f2 f), f.I (p.I hN), j, z, by rw [f.E]; exact p.eq hN, by rw [s, (p.eq hN).calm]; rfl⟩
theorem mm_R.go {M V V2 : fs_M} {j : Nat} (h : mm_R M V j) (f : mm_f2 V V2) (s : mm_st V2 = ec_next (mm_E V) (mm_st V)) (k : mm_J V2) (z : mm_Z V2) : mm_R M V2 (j + 1) := by
  obtain ⟨h1, h2, h3, h4, h5, h6⟩ := h
  exact ⟨h1.tr (mm_q.f2 f), f.I h2, k, z, by rw [f.E]; exact h5, by rw [s, h5.next h2.1.2.1.1, h6]; rfl⟩
theorem mm_R.lt {M V V2 : fs_M} {j : Nat} (hk : ec_ok (ec_pl (M 125)) (ec_calm (ec_pl (M 125)))) (h : mm_R M V j) (h2 : mm_R M V2 (j + 1)) (hj : j ≤ ec_k (ec_pl (M 125)) (ec_calm (ec_pl (M 125)))) (c : ¬ mm_st V2 = mm_st V) : j < ec_k (ec_pl (M 125)) (ec_calm (ec_pl (M 125))) := by
  rcases Nat.lt_or_ge j (ec_k (ec_pl (M 125)) (ec_calm (ec_pl (M 125)))) with q | q
  · exact q
  · exfalso
    apply c
    rw [h2.2.2.2.2.2, h.2.2.2.2.2, show j = ec_k (ec_pl (M 125)) (ec_calm (ec_pl (M 125))) by omega]
    exact (ec_k_spec hk).2.2
theorem mm_R.eq {M V V2 : fs_M} {j : Nat} (hk : ec_ok (ec_pl (M 125)) (ec_calm (ec_pl (M 125)))) (h : mm_R M V j) (h2 : mm_R M V2 (j + 1)) (hj : j ≤ ec_k (ec_pl (M 125)) (ec_calm (ec_pl (M 125)))) (c : mm_st V2 = mm_st V) : j = ec_k (ec_pl (M 125)) (ec_calm (ec_pl (M 125))) := by
  rcases Nat.lt_or_ge j (ec_k (ec_pl (M 125)) (ec_calm (ec_pl (M 125)))) with q | q
  · rw [h2.2.2.2.2.2, h.2.2.2.2.2] at c
    exact absurd c ((ec_k_spec hk).2.1 j q)
  · omega
noncomputable def sp_l (N : Int → Int) (k : Nat) : Int := ec_lost (ec_pl N) (ec_it (ec_pl N) (ec_calm (ec_pl N)) k)
noncomputable def sp_m (N : Int → Int) : Nat → Int
  | 0 => 0
  | k + 1 => if sp_m N k < sp_l N (k + 1) - sp_l N k then sp_l N (k + 1) - sp_l N k else sp_m N k
noncomputable def sp_b (N : Int → Int) : Nat → Int
  | 0 => -2
  | k + 1 => if sp_m N k < sp_l N (k + 1) - sp_l N k then ((k + 1 : Nat) : Int) else sp_b N k
noncomputable def rq_sharpest (N : Int → Int) : Int := sp_b N (ec_k (ec_pl N) (ec_calm (ec_pl N)))
theorem mm_lostS_b {M : fs_M} (hI : mm_I M) (hJ : mm_J M) : 0 ≤ ec_lost (mm_E M) (mm_st M) ∧ ec_lost (mm_E M) (mm_st M) ≤ 72000 * (M 125 0).toNat := by
  refine fs_sum_b (n := (M 125 0).toNat) fun a a0 a1 => ?_
  have hA := hI.1.1
  have h1 := hJ.2 a a0 (by omega)
  rw [← mm_st_at (M := M) (a := a) ⟨a0, by omega⟩] at h1
  exact mm_lost_b hI ⟨a0, by omega⟩ h1.1
/-- the first ROUND up to k in which a house is fallen; -2: none -/
noncomputable def fl_f (N : Int → Int) (h : Int) : Nat → Int
  | 0 => -2
  | k + 1 => if fl_f N h k = -2 ∧ fs_bt (ec_it (ec_pl N) (ec_calm (ec_pl N)) (k + 1) 4) h = 1 then ((k + 1 : Nat) : Int) else fl_f N h k
noncomputable def rq_fell (N : Int → Int) (h : Int) : Int := fl_f N h (ec_k (ec_pl N) (ec_calm (ec_pl N)))
theorem fs_m_sharpest {d : Nat} {M : fs_M} {Q : Option fs_V → fs_M → Prop}   (hI : fs_NI (M 125)) (hq0 : ∀ (M2 : fs_M), (mm_q M M2) → Q (some (.inl (rq_sharpest (M 125)))) M2) : fs_W (d + 6) 238 0 [some (.inr (.ref 124)), none, none, none, none, none] [] M Q := by
  have hN := hI
  refine fs_r_call (sta := false) (idx := 252) (as := [.inr (.ref 124)]) (rest := []) (L1 := [some (.inr (.ref 124)), none, none, none, none, none]) (st1 := [.inr (.ref 124)]) (M1 := M) (ob := []) rfl rfl rfl trivial rfl rfl (Nat.le_of_ble_eq_true rfl) ⟨Or.inr (Nat.le_of_ble_eq_true rfl), Or.inr fs_ob124⟩ (by decide) ?_
  refine fs_m_plain (fun (P1 : fs_M) (pp : mm_P M P1) => ?_)
  refine fs_r_call (sta := false) (idx := 215) (as := [.inr (.ref 124)]) (rest := []) (L1 := [some (.inr (.ref 124)), none, none, none, none, none]) (st1 := [.inr (.ref 124)]) (M1 := P1) (ob := []) rfl rfl rfl trivial rfl rfl (Nat.le_of_ble_eq_true rfl) ⟨Or.inr (Nat.le_of_ble_eq_true rfl), Or.inr fs_ob124⟩ (by decide) ?_
  refine fs_m_calm (pp.I hN) (fun (C1 : fs_M) (c1 : mm_f2 P1 C1) (c2 : mm_st C1 = ec_calm (mm_E P1)) (c3 : mm_J C1) (c4 : mm_Z C1) => ?_)
  have R0 := mm_R.start hN pp c1 c2 c3 c4
  have hk := mm_okpl hN pp
  have kb := (ec_k_spec hk).1
  have L0 := mm_lostS_b R0.2.1 c3
  have nn := R0.2.1.1.1
  refine fs_r_call (sta := false) (idx := 227) (as := [.inr (.ref 124)]) (rest := []) (L1 := [some (.inr (.ref 124)), some (.inl (-2)), some (.inl 0), none, none, none]) (st1 := [.inr (.ref 124)]) (M1 := C1) (ob := [1 < 6, 2 < 6]) rfl rfl rfl (fs_oc (by decide) (fs_oc (by decide) trivial)) rfl rfl (Nat.le_of_ble_eq_true rfl) ⟨Or.inr (Nat.le_of_ble_eq_true rfl), Or.inr fs_ob124⟩ (by decide) ?_
  refine fs_m_lost (R0.2.1) (c3) ?_
  refine fs_r_nop (L1 := [some (.inr (.ref 124)), some (.inl (-2)), some (.inl 0), some (.inl (ec_lost (mm_E C1) (mm_st C1))), some (.inl 1), none]) (st1 := []) (M1 := C1) (ob := [3 < 6, 4 < 6]) rfl rfl (fs_oc (by decide) (fs_oc (by decide) trivial)) ?_
  have loop21 : ∀ (n21 : Nat) (b : Int) (m : Int) (had : Int) (k : Int) (zl5 : Option fs_V) (M3 : fs_M) (j : Nat), (j ≤ ec_k (ec_pl (M 125)) (ec_calm (ec_pl (M 125)))) → (mm_R M M3 j) → (k = (j : Int) + 1) → (b = sp_b (M 125) j) → (m = sp_m (M 125) j) → (had = sp_l (M 125) j) → (0 ≤ had ∧ had ≤ 300000) → ((ec_k (ec_pl (M 125)) (ec_calm (ec_pl (M 125))) : Nat) : Int) - (j : Int) < (n21 : Int) → fs_W (d + 6) 238 21 [some (.inr (.ref 124)), some (.inl b), some (.inl m), some (.inl had), some (.inl k), zl5] [] M3 Q := by
    intro n21
    induction n21 with
    | zero =>
      intro b m had k zl5 M3 j i0 R0 k0 b0 m0 h0 h1 hm21
      exfalso
      omega
    | succ n21 ih21 =>
      intro b m had k zl5 M3 j i0 R0 k0 b0 m0 h0 h1 hm21
      refine fs_r_call (sta := false) (idx := 211) (as := [.inr (.ref 124)]) (rest := []) (L1 := [some (.inr (.ref 124)), some (.inl b), some (.inl m), some (.inl had), some (.inl k), zl5]) (st1 := [.inr (.ref 124)]) (M1 := M3) (ob := []) rfl rfl rfl trivial rfl rfl (Nat.le_of_ble_eq_true rfl) ⟨Or.inr (Nat.le_of_ble_eq_true rfl), Or.inr fs_ob124⟩ (by decide) ?_
      refine fs_m_goesOn (R0.2.1) (R0.2.2.1) (R0.2.2.2.1) (fun (V2 : fs_M) (d1 : mm_f2 M3 V2) (d2 : mm_st V2 = ec_next (mm_E M3) (mm_st M3)) (d3 : mm_J V2) (d4 : mm_Z V2) (d5 : ¬ mm_st V2 = mm_st M3) => ?_) (fun (V2 : fs_M) (d1 : mm_f2 M3 V2) (d2 : mm_st V2 = ec_next (mm_E M3) (mm_st M3)) (d3 : mm_J V2) (d4 : mm_Z V2) (d5 : mm_st V2 = mm_st M3) => ?_)
      · refine fs_r_if (a := 1) (L1 := [some (.inr (.ref 124)), some (.inl b), some (.inl m), some (.inl had), some (.inl k), zl5]) (st1 := []) (M1 := V2) (ob := []) rfl rfl trivial (fun h => absurd h (by decide : ¬ ((1 : Int) = 0))) (fun _ => ?_)
        have R1 := R0.go d1 d2 d3 d4
        have jl := R0.lt hk R1 i0 d5
        have L1 := mm_lostS_b R1.2.1 d3
        have nn := R1.2.1.1.1
        have la : ec_lost (mm_E V2) (mm_st V2) = sp_l (M 125) (j + 1) := by rw [R1.2.2.2.2.1.lost, R1.2.2.2.2.2]; rfl
        have sm : sp_m (M 125) (j + 1) = if sp_m (M 125) j < sp_l (M 125) (j + 1) - sp_l (M 125) j then sp_l (M 125) (j + 1) - sp_l (M 125) j else sp_m (M 125) j := rfl
        have sb : sp_b (M 125) (j + 1) = if sp_m (M 125) j < sp_l (M 125) (j + 1) - sp_l (M 125) j then ((j + 1 : Nat) : Int) else sp_b (M 125) j := rfl
        refine fs_r_call (sta := false) (idx := 227) (as := [.inr (.ref 124)]) (rest := []) (L1 := [some (.inr (.ref 124)), some (.inl b), some (.inl m), some (.inl had), some (.inl k), zl5]) (st1 := [.inr (.ref 124)]) (M1 := V2) (ob := []) rfl rfl rfl trivial rfl rfl (Nat.le_of_ble_eq_true rfl) ⟨Or.inr (Nat.le_of_ble_eq_true rfl), Or.inr fs_ob124⟩ (by decide) ?_
        refine fs_m_lost (R1.2.1) (d3) ?_
        refine fs_r_call (sta := false) (idx := 227) (as := [.inr (.ref 124)]) (rest := []) (L1 := [some (.inr (.ref 124)), some (.inl b), some (.inl m), some (.inl had), some (.inl k), some (.inl ((ec_lost (mm_E V2) (mm_st V2)) - had))]) (st1 := [.inr (.ref 124)]) (M1 := V2) (ob := [fs_rg ((ec_lost (mm_E V2) (mm_st V2)) - had), 5 < 6]) rfl rfl rfl (fs_oc ⟨by omega, by omega⟩ (fs_oc (by decide) trivial)) rfl rfl (Nat.le_of_ble_eq_true rfl) ⟨Or.inr (Nat.le_of_ble_eq_true rfl), Or.inr fs_ob124⟩ (by decide) ?_
        refine fs_m_lost (R1.2.1) (d3) ?_
        refine fs_r_icmp (a := ((ec_lost (mm_E V2) (mm_st V2)) - had)) (y := m) (L1 := [some (.inr (.ref 124)), some (.inl b), some (.inl m), some (.inl (ec_lost (mm_E V2) (mm_st V2))), some (.inl k), some (.inl ((ec_lost (mm_E V2) (mm_st V2)) - had))]) (st1 := []) (M1 := V2) (ob := [3 < 6]) rfl rfl (fs_oc (by decide) trivial) (fun (h1 : ((ec_lost (mm_E V2) (mm_st V2)) - had) ≤ m) => ?_) (fun (h1 : ¬ (((ec_lost (mm_E V2) (mm_st V2)) - had) ≤ m)) => ?_)
        · refine fs_r_nop (L1 := [some (.inr (.ref 124)), some (.inl b), some (.inl m), some (.inl (ec_lost (mm_E V2) (mm_st V2))), some (.inl k), some (.inl ((ec_lost (mm_E V2) (mm_st V2)) - had))]) (st1 := [.inl b]) (M1 := V2) (ob := []) rfl rfl trivial ?_
          refine fs_r_icmp (a := ((ec_lost (mm_E V2) (mm_st V2)) - had)) (y := m) (L1 := [some (.inr (.ref 124)), some (.inl b), some (.inl m), some (.inl (ec_lost (mm_E V2) (mm_st V2))), some (.inl k), some (.inl ((ec_lost (mm_E V2) (mm_st V2)) - had))]) (st1 := []) (M1 := V2) (ob := [1 < 6]) rfl rfl (fs_oc (by decide) trivial) (fun (h2 : ((ec_lost (mm_E V2) (mm_st V2)) - had) ≤ m) => ?_) (fun (h2 : ¬ (((ec_lost (mm_E V2) (mm_st V2)) - had) ≤ m)) => ?_)
          · refine fs_r_nop (L1 := [some (.inr (.ref 124)), some (.inl b), some (.inl m), some (.inl (ec_lost (mm_E V2) (mm_st V2))), some (.inl k), some (.inl ((ec_lost (mm_E V2) (mm_st V2)) - had))]) (st1 := [.inl m]) (M1 := V2) (ob := []) rfl rfl trivial ?_
            refine fs_r_goto (L1 := [some (.inr (.ref 124)), some (.inl b), some (.inl m), some (.inl (ec_lost (mm_E V2) (mm_st V2))), some (.inl (k + 1)), some (.inl ((ec_lost (mm_E V2) (mm_st V2)) - had))]) (st1 := []) (M1 := V2) (ob := [2 < 6, fs_rg (k + 1)]) rfl rfl (fs_oc (by decide) (fs_oc ⟨by omega, by omega⟩ trivial)) ?_
            exact ih21 (b) (m) ((ec_lost (mm_E V2) (mm_st V2))) ((k + 1)) (some (.inl ((ec_lost (mm_E V2) (mm_st V2)) - had))) V2 ((j + 1)) (by omega) (R1) (by omega) (by rw [sb, ← m0, ← la, ← h0]; first | (exfalso; omega) | (rw [if_pos (by omega)]; omega) | (rw [if_neg (by omega)]; exact b0)) (by rw [sm, ← m0, ← la, ← h0]; first | (exfalso; omega) | (rw [if_pos (by omega)]) | (rw [if_neg (by omega)])) (la) (by omega) (by omega)
          refine fs_r_goto (L1 := [some (.inr (.ref 124)), some (.inl b), some (.inl m), some (.inl (ec_lost (mm_E V2) (mm_st V2))), some (.inl k), some (.inl ((ec_lost (mm_E V2) (mm_st V2)) - had))]) (st1 := [.inl ((ec_lost (mm_E V2) (mm_st V2)) - had)]) (M1 := V2) (ob := []) rfl rfl trivial ?_
          refine fs_r_goto (L1 := [some (.inr (.ref 124)), some (.inl b), some (.inl ((ec_lost (mm_E V2) (mm_st V2)) - had)), some (.inl (ec_lost (mm_E V2) (mm_st V2))), some (.inl (k + 1)), some (.inl ((ec_lost (mm_E V2) (mm_st V2)) - had))]) (st1 := []) (M1 := V2) (ob := [2 < 6, fs_rg (k + 1)]) rfl rfl (fs_oc (by decide) (fs_oc ⟨by omega, by omega⟩ trivial)) ?_
          exact ih21 (b) (((ec_lost (mm_E V2) (mm_st V2)) - had)) ((ec_lost (mm_E V2) (mm_st V2))) ((k + 1)) (some (.inl ((ec_lost (mm_E V2) (mm_st V2)) - had))) V2 ((j + 1)) (by omega) (R1) (by omega) (by rw [sb, ← m0, ← la, ← h0]; first | (exfalso; omega) | (rw [if_pos (by omega)]; omega) | (rw [if_neg (by omega)]; exact b0)) (by rw [sm, ← m0, ← la, ← h0]; first | (exfalso; omega) | (rw [if_pos (by omega)]) | (rw [if_neg (by omega)])) (la) (by omega) (by omega)
        refine fs_r_goto (L1 := [some (.inr (.ref 124)), some (.inl b), some (.inl m), some (.inl (ec_lost (mm_E V2) (mm_st V2))), some (.inl k), some (.inl ((ec_lost (mm_E V2) (mm_st V2)) - had))]) (st1 := [.inl k]) (M1 := V2) (ob := []) rfl rfl trivial ?_
        refine fs_r_icmp (a := ((ec_lost (mm_E V2) (mm_st V2)) - had)) (y := m) (L1 := [some (.inr (.ref 124)), some (.inl k), some (.inl m), some (.inl (ec_lost (mm_E V2) (mm_st V2))), some (.inl k), some (.inl ((ec_lost (mm_E V2) (mm_st V2)) - had))]) (st1 := []) (M1 := V2) (ob := [1 < 6]) rfl rfl (fs_oc (by decide) trivial) (fun (h3 : ((ec_lost (mm_E V2) (mm_st V2)) - had) ≤ m) => ?_) (fun (h3 : ¬ (((ec_lost (mm_E V2) (mm_st V2)) - had) ≤ m)) => ?_)
        · refine fs_r_nop (L1 := [some (.inr (.ref 124)), some (.inl k), some (.inl m), some (.inl (ec_lost (mm_E V2) (mm_st V2))), some (.inl k), some (.inl ((ec_lost (mm_E V2) (mm_st V2)) - had))]) (st1 := [.inl m]) (M1 := V2) (ob := []) rfl rfl trivial ?_
          refine fs_r_goto (L1 := [some (.inr (.ref 124)), some (.inl k), some (.inl m), some (.inl (ec_lost (mm_E V2) (mm_st V2))), some (.inl (k + 1)), some (.inl ((ec_lost (mm_E V2) (mm_st V2)) - had))]) (st1 := []) (M1 := V2) (ob := [2 < 6, fs_rg (k + 1)]) rfl rfl (fs_oc (by decide) (fs_oc ⟨by omega, by omega⟩ trivial)) ?_
          exact ih21 (k) (m) ((ec_lost (mm_E V2) (mm_st V2))) ((k + 1)) (some (.inl ((ec_lost (mm_E V2) (mm_st V2)) - had))) V2 ((j + 1)) (by omega) (R1) (by omega) (by rw [sb, ← m0, ← la, ← h0]; first | (exfalso; omega) | (rw [if_pos (by omega)]; omega) | (rw [if_neg (by omega)]; exact b0)) (by rw [sm, ← m0, ← la, ← h0]; first | (exfalso; omega) | (rw [if_pos (by omega)]) | (rw [if_neg (by omega)])) (la) (by omega) (by omega)
        refine fs_r_goto (L1 := [some (.inr (.ref 124)), some (.inl k), some (.inl m), some (.inl (ec_lost (mm_E V2) (mm_st V2))), some (.inl k), some (.inl ((ec_lost (mm_E V2) (mm_st V2)) - had))]) (st1 := [.inl ((ec_lost (mm_E V2) (mm_st V2)) - had)]) (M1 := V2) (ob := []) rfl rfl trivial ?_
        refine fs_r_goto (L1 := [some (.inr (.ref 124)), some (.inl k), some (.inl ((ec_lost (mm_E V2) (mm_st V2)) - had)), some (.inl (ec_lost (mm_E V2) (mm_st V2))), some (.inl (k + 1)), some (.inl ((ec_lost (mm_E V2) (mm_st V2)) - had))]) (st1 := []) (M1 := V2) (ob := [2 < 6, fs_rg (k + 1)]) rfl rfl (fs_oc (by decide) (fs_oc ⟨by omega, by omega⟩ trivial)) ?_
        exact ih21 (k) (((ec_lost (mm_E V2) (mm_st V2)) - had)) ((ec_lost (mm_E V2) (mm_st V2))) ((k + 1)) (some (.inl ((ec_lost (mm_E V2) (mm_st V2)) - had))) V2 ((j + 1)) (by omega) (R1) (by omega) (by rw [sb, ← m0, ← la, ← h0]; first | (exfalso; omega) | (rw [if_pos (by omega)]; omega) | (rw [if_neg (by omega)]; exact b0)) (by rw [sm, ← m0, ← la, ← h0]; first | (exfalso; omega) | (rw [if_pos (by omega)]) | (rw [if_neg (by omega)])) (la) (by omega) (by omega)
      refine fs_r_if (a := 0) (L1 := [some (.inr (.ref 124)), some (.inl b), some (.inl m), some (.inl had), some (.inl k), zl5]) (st1 := []) (M1 := V2) (ob := []) rfl rfl trivial (fun _ => ?_) (fun h => absurd (by decide : (0 : Int) = 0) h)
      refine fs_r_iret (a := b) (L1 := [some (.inr (.ref 124)), some (.inl b), some (.inl m), some (.inl had), some (.inl k), zl5]) (M1 := V2) (ob := []) rfl rfl trivial (Or.inl rfl) ?_
      have R1 := R0.go d1 d2 d3 d4
      have je := R0.eq hk R1 i0 d5
      exact fs_qi (by unfold rq_sharpest; rw [b0, je]) (hq0 _ R1.1)
  exact loop21 (((((ec_k (ec_pl (M 125)) (ec_calm (ec_pl (M 125))) : Nat) : Int) - ((0) : Int)) : Int) + 1).toNat ((-2)) (0) ((ec_lost (mm_E C1) (mm_st C1))) (1) (none) C1 (0) (Nat.zero_le _) (R0) (rfl) (rfl) (rfl) (by rw [R0.2.2.2.2.1.lost, R0.2.2.2.2.2]; rfl) (by omega) (by omega)

/-- the scratch of who fell does not count -/
theorem mm_R.u135 {M V : fs_M} {j : Nat} {i v : Int} (h : mm_R M V j) : mm_R M (fs_up V 135 i v) j := by
  obtain ⟨h1, h2, h3, h4, h5, h6⟩ := h
  have f : ∀ r, r ≠ 135 → fs_up V 135 i v r = V r := fun r q => fs_up_other q
  have eE : mm_E (fs_up V 135 i v) = mm_E V := by
    unfold mm_E
    rw [f 125 (by decide), f 131 (by decide), f 124 (by decide)]
  have eS : mm_st (fs_up V 135 i v) = mm_st V := by
    unfold mm_st
    rw [f 129 (by decide), f 124 (by decide)]
  refine ⟨⟨fun r q => by rw [f r (by omega)]; exact h1.1 r q, h1.2.1, h1.2.2⟩, ?_, ?_, ?_, by rw [eE]; exact h5, by rw [eS]; exact h6⟩
  · unfold mm_I at *
    rw [f 125 (by decide), f 131 (by decide), f 124 (by decide)]
    exact h2
  · unfold mm_J at *
    rw [f 129 (by decide), f 124 (by decide)]
    exact h3
  · unfold mm_Z at *
    rw [f 129 (by decide), f 125 (by decide)]
    exact h4
theorem fs_m_layFell {d : Nat} {M : fs_M} {Q : Option fs_V → fs_M → Prop}   (hI : fs_NI (M 125)) (hq0 : ∀ (M2 : fs_M), (mm_q M M2) → (∀ h, 0 ≤ h → h < M 125 1 → M2 135 h = rq_fell (M 125) h ∧ -2 ≤ M2 135 h ∧ M2 135 h ≤ 2000) → Q none M2) : fs_W (d + 6) 239 0 [some (.inr (.ref 124)), none, none] [] M Q := by
  have hN := hI
  have hb := hN.2.1
  refine fs_r_call (sta := false) (idx := 252) (as := [.inr (.ref 124)]) (rest := []) (L1 := [some (.inr (.ref 124)), none, none]) (st1 := [.inr (.ref 124)]) (M1 := M) (ob := []) rfl rfl rfl trivial rfl rfl (Nat.le_of_ble_eq_true rfl) ⟨Or.inr (Nat.le_of_ble_eq_true rfl), Or.inr fs_ob124⟩ (by decide) ?_
  refine fs_m_plain (fun (P1 : fs_M) (pp : mm_P M P1) => ?_)
  refine fs_r_call (sta := false) (idx := 215) (as := [.inr (.ref 124)]) (rest := []) (L1 := [some (.inr (.ref 124)), none, none]) (st1 := [.inr (.ref 124)]) (M1 := P1) (ob := []) rfl rfl rfl trivial rfl rfl (Nat.le_of_ble_eq_true rfl) ⟨Or.inr (Nat.le_of_ble_eq_true rfl), Or.inr fs_ob124⟩ (by decide) ?_
  refine fs_m_calm (pp.I hN) (fun (C1 : fs_M) (c1 : mm_f2 P1 C1) (c2 : mm_st C1 = ec_calm (mm_E P1)) (c3 : mm_J C1) (c4 : mm_Z C1) => ?_)
  have R0 := mm_R.start hN pp c1 c2 c3 c4
  have hk := mm_okpl hN pp
  have kb := (ec_k_spec hk).1
  refine fs_r_nop (L1 := [some (.inr (.ref 124)), some (.inl 0), none]) (st1 := []) (M1 := C1) (ob := [1 < 3]) rfl rfl (fs_oc (by decide) trivial) ?_
  have loop10 : ∀ (n10 : Nat) (a : Int) (zl2 : Option fs_V) (M4 : fs_M), (0 ≤ a ∧ a ≤ 6) → (mm_R M M4 0) → (∀ q, 0 ≤ q → q < a → M4 135 q = -2) → 6 - a < (n10 : Int) → fs_W (d + 6) 239 10 [some (.inr (.ref 124)), some (.inl a), zl2] [] M4 Q := by
    intro n10
    induction n10 with
    | zero =>
      intro a zl2 M4 a0 RA za hm10
      exfalso
      omega
    | succ n10 ih10 =>
      intro a zl2 M4 a0 RA za hm10
      refine fs_r_icmp (a := a) (y := 6) (L1 := [some (.inr (.ref 124)), some (.inl a), zl2]) (st1 := []) (M1 := M4) (ob := []) rfl rfl trivial (fun (h1 : 6 ≤ a) => ?_) (fun (h1 : ¬ (6 ≤ a)) => ?_)
      · refine fs_r_nop (L1 := [some (.inr (.ref 124)), some (.inl 1), zl2]) (st1 := []) (M1 := M4) (ob := [1 < 3]) rfl rfl (fs_oc (by decide) trivial) ?_
        have loop32 : ∀ (n32 : Nat) (k : Int) (zl2 : Option fs_V) (M3 : fs_M) (j : Nat), (j ≤ ec_k (ec_pl (M 125)) (ec_calm (ec_pl (M 125)))) → (mm_R M M3 j) → (k = (j : Int) + 1) → (∀ h, 0 ≤ h → h < M 125 1 → M3 135 h = fl_f (M 125) h j ∧ -2 ≤ M3 135 h ∧ M3 135 h ≤ 2000) → ((ec_k (ec_pl (M 125)) (ec_calm (ec_pl (M 125))) : Nat) : Int) - (j : Int) < (n32 : Int) → fs_W (d + 6) 239 32 [some (.inr (.ref 124)), some (.inl k), zl2] [] M3 Q := by
          intro n32
          induction n32 with
          | zero =>
            intro k zl2 M3 j i0 R0 k0 z0 hm32
            exfalso
            omega
          | succ n32 ih32 =>
            intro k zl2 M3 j i0 R0 k0 z0 hm32
            refine fs_r_call (sta := false) (idx := 211) (as := [.inr (.ref 124)]) (rest := []) (L1 := [some (.inr (.ref 124)), some (.inl k), zl2]) (st1 := [.inr (.ref 124)]) (M1 := M3) (ob := []) rfl rfl rfl trivial rfl rfl (Nat.le_of_ble_eq_true rfl) ⟨Or.inr (Nat.le_of_ble_eq_true rfl), Or.inr fs_ob124⟩ (by decide) ?_
            refine fs_m_goesOn (R0.2.1) (R0.2.2.1) (R0.2.2.2.1) (fun (V2 : fs_M) (d1 : mm_f2 M3 V2) (d2 : mm_st V2 = ec_next (mm_E M3) (mm_st M3)) (d3 : mm_J V2) (d4 : mm_Z V2) (d5 : ¬ mm_st V2 = mm_st M3) => ?_) (fun (V2 : fs_M) (d1 : mm_f2 M3 V2) (d2 : mm_st V2 = ec_next (mm_E M3) (mm_st M3)) (d3 : mm_J V2) (d4 : mm_Z V2) (d5 : mm_st V2 = mm_st M3) => ?_)
            · refine fs_r_if (a := 1) (L1 := [some (.inr (.ref 124)), some (.inl k), zl2]) (st1 := []) (M1 := V2) (ob := []) rfl rfl trivial (fun h => absurd h (by decide : ¬ ((1 : Int) = 0))) (fun _ => ?_)
              have R1 := R0.go d1 d2 d3 d4
              have jl := R0.lt hk R1 i0 d5
              have e5 : V2 135 = M3 135 := d1.1 135 (by decide) (by decide) (by decide)
              refine fs_r_nop (L1 := [some (.inr (.ref 124)), some (.inl k), some (.inl 0)]) (st1 := []) (M1 := V2) (ob := [2 < 3]) rfl rfl (fs_oc (by decide) trivial) ?_
              have loop41 : ∀ (n41 : Nat) (c : Int) (M5 : fs_M), (0 ≤ c ∧ c ≤ M 125 1) → (mm_R M M5 (j + 1)) → (∀ q, 0 ≤ q → q < M 125 1 → M5 135 q = (if q < c then fl_f (M 125) q (j + 1) else fl_f (M 125) q j) ∧ -2 ≤ M5 135 q ∧ M5 135 q ≤ 2000) → M 125 1 - c < (n41 : Int) → fs_W (d + 6) 239 41 [some (.inr (.ref 124)), some (.inl k), some (.inl c)] [] M5 Q := by
                intro n41
                induction n41 with
                | zero =>
                  intro c M5 c0 RB zb hm41
                  exfalso
                  omega
                | succ n41 ih41 =>
                  intro c M5 c0 RB zb hm41
                  have nB := congrFun RB.1.N 1
                  have sB : M5 124 15 = ec_it (ec_pl (M 125)) (ec_calm (ec_pl (M 125))) (j + 1) 4 := by rw [← mm_st_4 (M := M5), RB.2.2.2.2.2]
                  have jB := RB.2.2.1.1
                  refine fs_r_icmp (a := c) (y := (M5 125 1)) (L1 := [some (.inr (.ref 124)), some (.inl k), some (.inl c)]) (st1 := []) (M1 := M5) (ob := [124 < fs_N ∧ fs_kd 124 = 6, (125 < fs_N ∧ fs_kd 125 = 100) ∧ (0 : Int) ≤ 1 ∧ 1 < fs_ln 125]) rfl rfl (fs_oc fs_ob124 (fs_oc (fs_ar125 (by omega) (by omega)) trivial)) (fun (h2 : (M5 125 1) ≤ c) => ?_) (fun (h2 : ¬ ((M5 125 1) ≤ c)) => ?_)
                  · refine fs_r_goto (L1 := [some (.inr (.ref 124)), some (.inl (k + 1)), some (.inl c)]) (st1 := []) (M1 := M5) (ob := [fs_rg (k + 1)]) rfl rfl (fs_oc ⟨by omega, by omega⟩ trivial) ?_
                    exact ih32 ((k + 1)) (some (.inl c)) M5 ((j + 1)) (by omega) (RB) (by omega) (fun q q0 q1 => by have := zb q q0 q1; rw [if_pos (by omega)] at this; exact this) (by omega)
                  refine fs_r_icmp (a := (M5 135 c)) (y := (-2)) (L1 := [some (.inr (.ref 124)), some (.inl k), some (.inl c)]) (st1 := [.inl c, .inr (.ref 135)]) (M1 := M5) (ob := [124 < fs_N ∧ fs_kd 124 = 6, 124 < fs_N ∧ fs_kd 124 = 6, (135 < fs_N ∧ fs_kd 135 = 100) ∧ (0 : Int) ≤ c ∧ c < fs_ln 135]) rfl (fs_exA 6 (o1 := [124 < fs_N ∧ fs_kd 124 = 6, 124 < fs_N ∧ fs_kd 124 = 6]) (L1 := [some (.inr (.ref 124)), some (.inl k), some (.inl c)]) (st1 := [.inl c, .inr (.ref 135), .inl c, .inr (.ref 135)]) (M1 := M5) (o2 := [(135 < fs_N ∧ fs_kd 135 = 100) ∧ (0 : Int) ≤ c ∧ c < fs_ln 135]) rfl rfl) (fs_oc fs_ob124 (fs_oc fs_ob124 (fs_oc (fs_ar135 (by omega) (by omega)) trivial))) (fun (h3 : ¬ (M5 135 c) = (-2)) => ?_) (fun (h3 : ¬ (¬ (M5 135 c) = (-2))) => ?_)
                  · refine fs_r_nop (L1 := [some (.inr (.ref 124)), some (.inl k), some (.inl c)]) (st1 := [.inl (M5 135 c), .inl c, .inr (.ref 135)]) (M1 := M5) (ob := [124 < fs_N ∧ fs_kd 124 = 6, (135 < fs_N ∧ fs_kd 135 = 100) ∧ (0 : Int) ≤ c ∧ c < fs_ln 135]) rfl rfl (fs_oc fs_ob124 (fs_oc (fs_ar135 (by omega) (by omega)) trivial)) ?_
                    refine fs_r_goto (L1 := [some (.inr (.ref 124)), some (.inl k), some (.inl (c + 1))]) (st1 := []) (M1 := (fs_up M5 135 c (M5 135 c))) (ob := [(135 < fs_N ∧ fs_kd 135 = 100) ∧ (0 : Int) ≤ c ∧ c < fs_ln 135, fs_rg (c + 1)]) rfl rfl (fs_oc (fs_ar135 (by omega) (by omega)) (fs_oc ⟨by omega, by omega⟩ trivial)) ?_
                    exact ih41 ((c + 1)) (fs_up M5 135 c (M5 135 c)) (by omega) (RB.u135) (fun q q0 q1 => by
                          have w := zb q q0 q1
                          have wc := (zb c (by omega) (by omega)).1
                          rw [if_neg (by omega)] at wc
                          have fs : fl_f (M 125) c (j + 1) = if fl_f (M 125) c j = -2 ∧ fs_bt (ec_it (ec_pl (M 125)) (ec_calm (ec_pl (M 125))) (j + 1) 4) c = 1 then ((j + 1 : Nat) : Int) else fl_f (M 125) c j := rfl
                          rw [← sB, ← wc] at fs
                          unfold fs_bt at fs
                          rw [fs_up_at]
                          by_cases z : q = c
                          · have w2 := w.2
                            rw [z] at w2 ⊢
                            rw [if_pos rfl, if_pos (by omega), fs]
                            first
                              | (rw [if_pos (by omega)]; omega)
                              | (rw [if_neg (by omega)]; omega)
                          · rw [if_neg z]
                            by_cases z2 : q < c
                            · rw [if_pos z2] at w
                              rw [if_pos (by omega)]
                              exact w
                            · rw [if_neg z2] at w
                              rw [if_neg (by omega)]
                              exact w) (by omega)
                  refine fs_r_icmp (a := (fs_and (fs_shr (M5 124 15) c) 1)) (y := 1) (L1 := [some (.inr (.ref 124)), some (.inl k), some (.inl c)]) (st1 := [.inl c, .inr (.ref 135)]) (M1 := M5) (ob := [124 < fs_N ∧ fs_kd 124 = 6]) rfl rfl (fs_oc fs_ob124 trivial) (fun (h4 : ¬ (fs_and (fs_shr (M5 124 15) c) 1) = 1) => ?_) (fun (h4 : ¬ (¬ (fs_and (fs_shr (M5 124 15) c) 1) = 1)) => ?_)
                  · refine fs_r_nop (L1 := [some (.inr (.ref 124)), some (.inl k), some (.inl c)]) (st1 := [.inl (M5 135 c), .inl c, .inr (.ref 135)]) (M1 := M5) (ob := [124 < fs_N ∧ fs_kd 124 = 6, (135 < fs_N ∧ fs_kd 135 = 100) ∧ (0 : Int) ≤ c ∧ c < fs_ln 135]) rfl rfl (fs_oc fs_ob124 (fs_oc (fs_ar135 (by omega) (by omega)) trivial)) ?_
                    refine fs_r_goto (L1 := [some (.inr (.ref 124)), some (.inl k), some (.inl (c + 1))]) (st1 := []) (M1 := (fs_up M5 135 c (M5 135 c))) (ob := [(135 < fs_N ∧ fs_kd 135 = 100) ∧ (0 : Int) ≤ c ∧ c < fs_ln 135, fs_rg (c + 1)]) rfl rfl (fs_oc (fs_ar135 (by omega) (by omega)) (fs_oc ⟨by omega, by omega⟩ trivial)) ?_
                    exact ih41 ((c + 1)) (fs_up M5 135 c (M5 135 c)) (by omega) (RB.u135) (fun q q0 q1 => by
                          have w := zb q q0 q1
                          have wc := (zb c (by omega) (by omega)).1
                          rw [if_neg (by omega)] at wc
                          have fs : fl_f (M 125) c (j + 1) = if fl_f (M 125) c j = -2 ∧ fs_bt (ec_it (ec_pl (M 125)) (ec_calm (ec_pl (M 125))) (j + 1) 4) c = 1 then ((j + 1 : Nat) : Int) else fl_f (M 125) c j := rfl
                          rw [← sB, ← wc] at fs
                          unfold fs_bt at fs
                          rw [fs_up_at]
                          by_cases z : q = c
                          · have w2 := w.2
                            rw [z] at w2 ⊢
                            rw [if_pos rfl, if_pos (by omega), fs]
                            first
                              | (rw [if_pos (by omega)]; omega)
                              | (rw [if_neg (by omega)]; omega)
                          · rw [if_neg z]
                            by_cases z2 : q < c
                            · rw [if_pos z2] at w
                              rw [if_pos (by omega)]
                              exact w
                            · rw [if_neg z2] at w
                              rw [if_neg (by omega)]
                              exact w) (by omega)
                  refine fs_r_goto (L1 := [some (.inr (.ref 124)), some (.inl k), some (.inl c)]) (st1 := [.inl k, .inl c, .inr (.ref 135)]) (M1 := M5) (ob := []) rfl rfl trivial ?_
                  refine fs_r_goto (L1 := [some (.inr (.ref 124)), some (.inl k), some (.inl (c + 1))]) (st1 := []) (M1 := (fs_up M5 135 c k)) (ob := [(135 < fs_N ∧ fs_kd 135 = 100) ∧ (0 : Int) ≤ c ∧ c < fs_ln 135, fs_rg (c + 1)]) rfl rfl (fs_oc (fs_ar135 (by omega) (by omega)) (fs_oc ⟨by omega, by omega⟩ trivial)) ?_
                  exact ih41 ((c + 1)) (fs_up M5 135 c k) (by omega) (RB.u135) (fun q q0 q1 => by
                        have w := zb q q0 q1
                        have wc := (zb c (by omega) (by omega)).1
                        rw [if_neg (by omega)] at wc
                        have fs : fl_f (M 125) c (j + 1) = if fl_f (M 125) c j = -2 ∧ fs_bt (ec_it (ec_pl (M 125)) (ec_calm (ec_pl (M 125))) (j + 1) 4) c = 1 then ((j + 1 : Nat) : Int) else fl_f (M 125) c j := rfl
                        rw [← sB, ← wc] at fs
                        unfold fs_bt at fs
                        rw [fs_up_at]
                        by_cases z : q = c
                        · have w2 := w.2
                          rw [z] at w2 ⊢
                          rw [if_pos rfl, if_pos (by omega), fs]
                          first
                            | (rw [if_pos (by omega)]; omega)
                            | (rw [if_neg (by omega)]; omega)
                        · rw [if_neg z]
                          by_cases z2 : q < c
                          · rw [if_pos z2] at w
                            rw [if_pos (by omega)]
                            exact w
                          · rw [if_neg z2] at w
                            rw [if_neg (by omega)]
                            exact w) (by omega)
              exact loop41 (((M 125 1 - (0)) : Int) + 1).toNat (0) V2 (by omega) (R1) (fun q q0 q1 => by rw [if_neg (by omega), e5]; exact z0 q q0 q1) (by omega)
            refine fs_r_if (a := 0) (L1 := [some (.inr (.ref 124)), some (.inl k), zl2]) (st1 := []) (M1 := V2) (ob := []) rfl rfl trivial (fun _ => ?_) (fun h => absurd (by decide : (0 : Int) = 0) h)
            refine fs_r_ret (L1 := [some (.inr (.ref 124)), some (.inl k), zl2]) (M1 := V2) (ob := []) rfl rfl trivial ?_
            have R1 := R0.go d1 d2 d3 d4
            have je := R0.eq hk R1 i0 d5
            have e5 : V2 135 = M3 135 := d1.1 135 (by decide) (by decide) (by decide)
            exact hq0 _ R1.1 (fun q q0 q1 => by rw [e5]; have := z0 q q0 q1; rw [je] at this; exact this)
        exact loop32 (((((ec_k (ec_pl (M 125)) (ec_calm (ec_pl (M 125))) : Nat) : Int) - ((0) : Int)) : Int) + 1).toNat (1) (zl2) M4 (0) (Nat.zero_le _) (RA) (rfl) (fun q q0 q1 => by rw [za q q0 (by omega)]; exact ⟨rfl, by omega⟩) (by omega)
      refine fs_r_goto (L1 := [some (.inr (.ref 124)), some (.inl (a + 1)), zl2]) (st1 := []) (M1 := (fs_up M4 135 a (-2))) (ob := [124 < fs_N ∧ fs_kd 124 = 6, (135 < fs_N ∧ fs_kd 135 = 100) ∧ (0 : Int) ≤ a ∧ a < fs_ln 135, fs_rg (a + 1)]) rfl rfl (fs_oc fs_ob124 (fs_oc (fs_ar135 (by omega) (by omega)) (fs_oc ⟨by omega, by omega⟩ trivial))) ?_
      exact ih10 ((a + 1)) (zl2) (fs_up M4 135 a (-2)) (by omega) (RA.u135) (fun q q0 q1 => by rw [fs_up_at]; split; rfl; exact za q q0 (by omega)) (by omega)
  exact loop10 (((6 - (0)) : Int) + 1).toNat (0) (none) C1 (by omega) (R0) (fun q q0 q1 => by omega) (by omega)

noncomputable def rq_fellIn (N : Int → Int) (h : Int) : Int := if 0 ≤ h ∧ h < N 1 then rq_fell N h else -1
theorem fs_m_fellIn {d : Nat} {M : fs_M} {Q : Option fs_V → fs_M → Prop} {h : Int}  (hI : fs_NI (M 125)) (hq0 : ∀ (M2 : fs_M), (mm_q M M2) → Q (some (.inl (rq_fellIn (M 125) h))) M2) : fs_W (d + 7) 241 0 [some (.inr (.ref 124)), some (.inl h)] [] M Q := by
  have hN := hI
  have hb := hN.2.1
  refine fs_r_call (sta := false) (idx := 237) (as := [.inr (.ref 124), .inl h]) (rest := []) (L1 := [some (.inr (.ref 124)), some (.inl h)]) (st1 := [.inl h, .inr (.ref 124)]) (M1 := M) (ob := []) rfl rfl rfl trivial rfl rfl (Nat.le_of_ble_eq_true rfl) ⟨Or.inr (Nat.le_of_ble_eq_true rfl), Or.inr fs_ob124⟩ (by decide) ?_
  refine fs_m_isHouse (by assumption) (fun (f1 : 0 ≤ h ∧ h < M 125 1) => ?_) (fun (f2 : ¬ (0 ≤ h ∧ h < M 125 1)) => ?_)
  · refine fs_r_if (a := 1) (L1 := [some (.inr (.ref 124)), some (.inl h)]) (st1 := []) (M1 := M) (ob := []) rfl rfl trivial (fun _ => ?_) (fun h => absurd (by decide : ¬ (1 : Int) = 0) h)
    refine fs_r_call (sta := false) (idx := 277) (as := [.inr (.ref 124)]) (rest := []) (L1 := [some (.inr (.ref 124)), some (.inl h)]) (st1 := [.inr (.ref 124)]) (M1 := M) (ob := []) rfl rfl rfl trivial rfl rfl (Nat.le_of_ble_eq_true rfl) ⟨Or.inr (Nat.le_of_ble_eq_true rfl), Or.inr fs_ob124⟩ (by decide) ?_
    refine fs_m_layFell (by assumption) (fun (V1 : fs_M) (q1 : mm_q M V1) (z1 : ∀ h, 0 ≤ h → h < M 125 1 → V1 135 h = rq_fell (M 125) h ∧ -2 ≤ V1 135 h ∧ V1 135 h ≤ 2000) => ?_)
    refine fs_r_iret (a := (V1 135 h)) (L1 := [some (.inr (.ref 124)), some (.inl h)]) (M1 := V1) (ob := [124 < fs_N ∧ fs_kd 124 = 6, (135 < fs_N ∧ fs_kd 135 = 100) ∧ (0 : Int) ≤ h ∧ h < fs_ln 135]) rfl rfl (fs_oc fs_ob124 (fs_oc (fs_ar135 (by omega) (by omega)) trivial)) (Or.inl rfl) ?_
    exact fs_qi (by unfold rq_fellIn; rw [if_pos (by assumption), (z1 h (by omega) (by omega)).1]) (hq0 _ q1)
  refine fs_r_if (a := 0) (L1 := [some (.inr (.ref 124)), some (.inl h)]) (st1 := []) (M1 := M) (ob := []) rfl rfl trivial (fun h => absurd h (by decide : ¬ (¬ (0 : Int) = 0))) (fun _ => ?_)
  refine fs_r_iret (a := (-1)) (L1 := [some (.inr (.ref 124)), some (.inl h)]) (M1 := M) (ob := []) rfl rfl trivial (Or.inl rfl) ?_
  exact fs_qi (by unfold rq_fellIn; rw [if_neg (by assumption)]) (hq0 _ mm_q.rf)
