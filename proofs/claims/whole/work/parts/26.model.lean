theorem mm_pstd {M P V : fs_M} {w : Int} (hN : fs_NI (M 125)) (p : mm_P M P) (f : mm_f3 P V) (s : mm_st V = ec_std (mm_E P) w) : mm_st V = ec_std (ec_pl (M 125)) w ∧ ec_eq (mm_E V) (ec_pl (M 125)) ∧ mm_q M V ∧ mm_I V := by
  have hI := p.I hN
  have e := p.eq hN
  have hH : 0 ≤ mm_E P 0 1 := hI.1.2.1.1
  exact ⟨by rw [s, e.std hH (mm_okc hI) (mm_okp hI)], by rw [f.E]; exact e, (mm_q.P p).tr (mm_q.f3 f), f.I hI⟩
theorem mm_Hn {N : Int → Int} (hN : fs_NI N) : 0 ≤ ec_pl N 0 1 := hN.2.1.1
theorem ec_it_stay {E : Nat → Int → Int} {S : Int → Int} {j : Nat} (h : ec_next E (ec_it E S j) = ec_it E S j) : ∀ k, j ≤ k → ec_it E S k = ec_it E S j := by
  intro k hk
  obtain ⟨n, rfl⟩ := Nat.exists_eq_add_of_le hk
  clear hk
  induction n with
  | zero => rfl
  | succ n ih =>
    show ec_next E (ec_it E S (j + n)) = _
    rw [ih, h]
noncomputable def rq_state (N : Int → Int) (w x : Int) : Int := if (0 ≤ w ∧ w ≤ 3) ∧ mm_ask N x then ec_tell (ec_pl N) (ec_std (ec_pl N) w) x else -1
noncomputable def rq_rounds (N : Int → Int) (g : Int) : Int := if g = 0 then (ec_k (ec_pl N) (ec_calm (ec_pl N)) : Nat) else (ec_k (ec_pl N) (ec_panic (ec_pl N)) : Nat)
noncomputable def rq_price (N : Int → Int) (w a : Int) : Int := if (0 ≤ w ∧ w ≤ 3) ∧ (0 ≤ a ∧ a < N 0) then ec_price (ec_pl N) a (ec_std (ec_pl N) w a) else -1
noncomputable def rq_worth (N : Int → Int) (w h : Int) : Int := if (0 ≤ w ∧ w ≤ 3) ∧ (0 ≤ h ∧ h < N 1) then ec_worth (ec_pl N) (ec_std (ec_pl N) w) h else -1000000
noncomputable def rq_mustSell (N : Int → Int) (w h a : Int) : Int := if (0 ≤ w ∧ w ≤ 3) ∧ (0 ≤ h ∧ h < N 1) ∧ (a = -1 ∨ (0 ≤ a ∧ a < N 0)) then (if a = -1 then ec_due (ec_pl N) h (ec_worth (ec_pl N) (ec_std (ec_pl N) w) h) else ec_part (ec_pl N) h (ec_due (ec_pl N) h (ec_worth (ec_pl N) (ec_std (ec_pl N) w) h)) a) else -1
noncomputable def rq_round (N : Int → Int) (k x : Int) : Int := if (0 ≤ k ∧ k ≤ 2000) ∧ mm_ask N x then ec_tell (ec_pl N) (ec_it (ec_pl N) (ec_calm (ec_pl N)) k.toNat) x else -1
noncomputable def rq_worthIn (N : Int → Int) (k h : Int) : Int := if (0 ≤ k ∧ k ≤ 2000) ∧ (0 ≤ h ∧ h < N 1) then ec_worth (ec_pl N) (ec_it (ec_pl N) (ec_calm (ec_pl N)) k.toNat) h else -1000000
theorem fs_m_state {d : Nat} {M : fs_M} {Q : Option fs_V → fs_M → Prop} {w : Int} {x : Int}  (hI : fs_NI (M 125)) (hq0 : ∀ (M2 : fs_M), (mm_q M M2) → Q (some (.inl (rq_state (M 125) w x))) M2) : fs_W (d + 8) 230 0 [some (.inr (.ref 124)), some (.inl w), some (.inl x)] [] M Q := by
  have hN := hI
  refine fs_r_call (sta := true) (idx := 68) (as := [.inl w, .inl 0, .inl 3]) (rest := []) (L1 := [some (.inr (.ref 124)), some (.inl w), some (.inl x)]) (st1 := [.inl 3, .inl 0, .inl w]) (M1 := M) (ob := []) rfl rfl rfl trivial rfl rfl (Nat.le_of_ble_eq_true rfl) ⟨Or.inr (Nat.le_of_ble_eq_true rfl), trivial⟩ (by decide) ?_
  refine fs_m_isIn (fun (f1 : 0 ≤ w ∧ w ≤ 3) => ?_) (fun (f2 : ¬ (0 ≤ w ∧ w ≤ 3)) => ?_)
  · refine fs_r_if (a := 1) (L1 := [some (.inr (.ref 124)), some (.inl w), some (.inl x)]) (st1 := []) (M1 := M) (ob := []) rfl rfl trivial (fun h => absurd h (by decide : ¬ ((1 : Int) = 0))) (fun _ => ?_)
    refine fs_r_call (sta := false) (idx := 267) (as := [.inr (.ref 124), .inl x]) (rest := []) (L1 := [some (.inr (.ref 124)), some (.inl w), some (.inl x)]) (st1 := [.inl x, .inr (.ref 124)]) (M1 := M) (ob := []) rfl rfl rfl trivial rfl rfl (Nat.le_of_ble_eq_true rfl) ⟨Or.inr (Nat.le_of_ble_eq_true rfl), Or.inr fs_ob124⟩ (by decide) ?_
    refine fs_m_isAsked (by assumption) (fun (f3 : mm_ask (M 125) x) => ?_) (fun (f4 : ¬ (mm_ask (M 125) x)) => ?_)
    · refine fs_r_if (a := 1) (L1 := [some (.inr (.ref 124)), some (.inl w), some (.inl x)]) (st1 := []) (M1 := M) (ob := []) rfl rfl trivial (fun _ => ?_) (fun h => absurd (by decide : ¬ (1 : Int) = 0) h)
      refine fs_r_call (sta := false) (idx := 252) (as := [.inr (.ref 124)]) (rest := []) (L1 := [some (.inr (.ref 124)), some (.inl w), some (.inl x)]) (st1 := [.inr (.ref 124)]) (M1 := M) (ob := []) rfl rfl rfl trivial rfl rfl (Nat.le_of_ble_eq_true rfl) ⟨Or.inr (Nat.le_of_ble_eq_true rfl), Or.inr fs_ob124⟩ (by decide) ?_
      refine fs_m_plain (fun (P1 : fs_M) (pp : mm_P M P1) => ?_)
      refine fs_r_call (sta := false) (idx := 270) (as := [.inr (.ref 124), .inl w]) (rest := []) (L1 := [some (.inr (.ref 124)), some (.inl w), some (.inl x)]) (st1 := [.inl w, .inr (.ref 124)]) (M1 := P1) (ob := []) rfl rfl rfl trivial rfl rfl (Nat.le_of_ble_eq_true rfl) ⟨Or.inr (Nat.le_of_ble_eq_true rfl), Or.inr fs_ob124⟩ (by decide) ?_
      refine fs_m_stands (pp.I hN) (by omega) (fun (V1 : fs_M) (g1 : mm_f3 P1 V1) (g2 : mm_st V1 = ec_std (mm_E P1) w) (g3 : mm_J V1) (g4 : mm_Z V1) (g5 : (w = 1 → V1 124 17 = (ec_k (mm_E P1) (ec_calm (mm_E P1)) : Nat)) ∧ (w = 2 → V1 124 17 = (ec_k (mm_E P1) (ec_panic (mm_E P1)) : Nat))) => ?_)
      obtain ⟨s9, e9, q9, I9⟩ := mm_pstd hN pp g1 g2
      have n0 := congrFun q9.N 0
      have n1 := congrFun q9.N 1
      have m0 : mm_E V1 0 0 = V1 125 0 := rfl
      have m1 : mm_E V1 0 1 = V1 125 1 := rfl
      refine fs_r_call (sta := false) (idx := 258) (as := [.inr (.ref 124), .inl x]) (rest := []) (L1 := [some (.inr (.ref 124)), some (.inl w), some (.inl x)]) (st1 := [.inl x, .inr (.ref 124)]) (M1 := V1) (ob := []) rfl rfl rfl trivial rfl rfl (Nat.le_of_ble_eq_true rfl) ⟨Or.inr (Nat.le_of_ble_eq_true rfl), Or.inr fs_ob124⟩ (by decide) ?_
      refine fs_m_told (I9) (by assumption) (by rw [q9.N]; assumption) ?_
      refine fs_r_iret (a := (ec_tell (mm_E V1) (mm_st V1) x)) (L1 := [some (.inr (.ref 124)), some (.inl w), some (.inl x)]) (M1 := V1) (ob := []) rfl rfl trivial (Or.inl rfl) ?_
      exact fs_qi (by unfold rq_state; rw [if_pos ⟨by assumption, by first | assumption | (refine ⟨by assumption, by omega⟩)⟩]; rw [e9.tell, s9]) (hq0 _ q9)
    refine fs_r_if (a := 0) (L1 := [some (.inr (.ref 124)), some (.inl w), some (.inl x)]) (st1 := []) (M1 := M) (ob := []) rfl rfl trivial (fun h => absurd h (by decide : ¬ (¬ (0 : Int) = 0))) (fun _ => ?_)
    refine fs_r_iret (a := (-1)) (L1 := [some (.inr (.ref 124)), some (.inl w), some (.inl x)]) (M1 := M) (ob := []) rfl rfl trivial (Or.inl rfl) ?_
    exact fs_qi (by unfold rq_state; rw [if_neg (fun z => by first | exact absurd z.1 (by assumption) | exact absurd z.2 (by assumption) | exact absurd z.2.1 (by assumption) | (have := z.1; have := z.2; omega))]) (hq0 _ mm_q.rf)
  refine fs_r_if (a := 0) (L1 := [some (.inr (.ref 124)), some (.inl w), some (.inl x)]) (st1 := []) (M1 := M) (ob := []) rfl rfl trivial (fun _ => ?_) (fun h => absurd (by decide : (0 : Int) = 0) h)
  refine fs_r_iret (a := (-1)) (L1 := [some (.inr (.ref 124)), some (.inl w), some (.inl x)]) (M1 := M) (ob := []) rfl rfl trivial (Or.inl rfl) ?_
  exact fs_qi (by unfold rq_state; rw [if_neg (fun z => by first | exact absurd z.1 (by assumption) | exact absurd z.2 (by assumption) | exact absurd z.2.1 (by assumption) | (have := z.1; have := z.2; omega))]) (hq0 _ mm_q.rf)

theorem fs_m_rounds {d : Nat} {M : fs_M} {Q : Option fs_V → fs_M → Prop} {g : Int}  (hI : fs_NI (M 125)) (hq0 : ∀ (M2 : fs_M), (mm_q M M2) → Q (some (.inl (rq_rounds (M 125) g))) M2) : fs_W (d + 8) 231 0 [some (.inr (.ref 124)), some (.inl g)] [] M Q := by
  have hN := hI
  refine fs_r_call (sta := false) (idx := 252) (as := [.inr (.ref 124)]) (rest := []) (L1 := [some (.inr (.ref 124)), some (.inl g)]) (st1 := [.inr (.ref 124)]) (M1 := M) (ob := []) rfl rfl rfl trivial rfl rfl (Nat.le_of_ble_eq_true rfl) ⟨Or.inr (Nat.le_of_ble_eq_true rfl), Or.inr fs_ob124⟩ (by decide) ?_
  refine fs_m_plain (fun (P1 : fs_M) (pp : mm_P M P1) => ?_)
  refine fs_r_if (a := g) (L1 := [some (.inr (.ref 124)), some (.inl g)]) (st1 := [.inr (.ref 124)]) (M1 := P1) (ob := []) rfl rfl trivial (fun (h1 : g = 0) => ?_) (fun (h1 : ¬ (g = 0)) => ?_)
  · refine fs_r_nop (L1 := [some (.inr (.ref 124)), some (.inl g)]) (st1 := [.inl 1, .inr (.ref 124)]) (M1 := P1) (ob := []) rfl rfl trivial ?_
    refine fs_r_call (sta := false) (idx := 270) (as := [.inr (.ref 124), .inl 1]) (rest := []) (L1 := [some (.inr (.ref 124)), some (.inl g)]) (st1 := [.inl 1, .inr (.ref 124)]) (M1 := P1) (ob := []) rfl rfl rfl trivial rfl rfl (Nat.le_of_ble_eq_true rfl) ⟨Or.inr (Nat.le_of_ble_eq_true rfl), Or.inr fs_ob124⟩ (by decide) ?_
    refine fs_m_stands (pp.I hN) (by omega) (fun (V1 : fs_M) (g1 : mm_f3 P1 V1) (g2 : mm_st V1 = ec_std (mm_E P1) 1) (g3 : mm_J V1) (g4 : mm_Z V1) (g5 : (1 = 1 → V1 124 17 = (ec_k (mm_E P1) (ec_calm (mm_E P1)) : Nat)) ∧ (1 = 2 → V1 124 17 = (ec_k (mm_E P1) (ec_panic (mm_E P1)) : Nat))) => ?_)
    obtain ⟨s9, e9, q9, I9⟩ := mm_pstd hN pp g1 g2
    have n0 := congrFun q9.N 0
    have n1 := congrFun q9.N 1
    have m0 : mm_E V1 0 0 = V1 125 0 := rfl
    have m1 : mm_E V1 0 1 = V1 125 1 := rfl
    refine fs_r_iret (a := (V1 124 17)) (L1 := [some (.inr (.ref 124)), some (.inl g)]) (M1 := V1) (ob := [124 < fs_N ∧ fs_kd 124 = 6]) rfl rfl (fs_oc fs_ob124 trivial) (Or.inl rfl) ?_
    have e8 := pp.eq hN
    have hH : 0 ≤ mm_E P1 0 1 := (pp.I hN).1.2.1.1
    exact fs_qi (by unfold rq_rounds; first | (rw [if_pos (by omega), g5.1 rfl, e8.k hH (mm_okc (pp.I hN)), e8.calm]) | (rw [if_neg (by omega), g5.2 rfl, e8.k hH (mm_okp (pp.I hN)), e8.panic])) (hq0 _ q9)
  refine fs_r_goto (L1 := [some (.inr (.ref 124)), some (.inl g)]) (st1 := [.inl 2, .inr (.ref 124)]) (M1 := P1) (ob := []) rfl rfl trivial ?_
  refine fs_r_call (sta := false) (idx := 270) (as := [.inr (.ref 124), .inl 2]) (rest := []) (L1 := [some (.inr (.ref 124)), some (.inl g)]) (st1 := [.inl 2, .inr (.ref 124)]) (M1 := P1) (ob := []) rfl rfl rfl trivial rfl rfl (Nat.le_of_ble_eq_true rfl) ⟨Or.inr (Nat.le_of_ble_eq_true rfl), Or.inr fs_ob124⟩ (by decide) ?_
  refine fs_m_stands (pp.I hN) (by omega) (fun (V1 : fs_M) (g1 : mm_f3 P1 V1) (g2 : mm_st V1 = ec_std (mm_E P1) 2) (g3 : mm_J V1) (g4 : mm_Z V1) (g5 : (2 = 1 → V1 124 17 = (ec_k (mm_E P1) (ec_calm (mm_E P1)) : Nat)) ∧ (2 = 2 → V1 124 17 = (ec_k (mm_E P1) (ec_panic (mm_E P1)) : Nat))) => ?_)
  obtain ⟨s9, e9, q9, I9⟩ := mm_pstd hN pp g1 g2
  have n0 := congrFun q9.N 0
  have n1 := congrFun q9.N 1
  have m0 : mm_E V1 0 0 = V1 125 0 := rfl
  have m1 : mm_E V1 0 1 = V1 125 1 := rfl
  refine fs_r_iret (a := (V1 124 17)) (L1 := [some (.inr (.ref 124)), some (.inl g)]) (M1 := V1) (ob := [124 < fs_N ∧ fs_kd 124 = 6]) rfl rfl (fs_oc fs_ob124 trivial) (Or.inl rfl) ?_
  have e8 := pp.eq hN
  have hH : 0 ≤ mm_E P1 0 1 := (pp.I hN).1.2.1.1
  exact fs_qi (by unfold rq_rounds; first | (rw [if_pos (by omega), g5.1 rfl, e8.k hH (mm_okc (pp.I hN)), e8.calm]) | (rw [if_neg (by omega), g5.2 rfl, e8.k hH (mm_okp (pp.I hN)), e8.panic])) (hq0 _ q9)

theorem fs_m_price {d : Nat} {M : fs_M} {Q : Option fs_V → fs_M → Prop} {w : Int} {a : Int}  (hI : fs_NI (M 125)) (hq0 : ∀ (M2 : fs_M), (mm_q M M2) → Q (some (.inl (rq_price (M 125) w a))) M2) : fs_W (d + 8) 232 0 [some (.inr (.ref 124)), some (.inl w), some (.inl a)] [] M Q := by
  have hN := hI
  refine fs_r_call (sta := true) (idx := 68) (as := [.inl w, .inl 0, .inl 3]) (rest := []) (L1 := [some (.inr (.ref 124)), some (.inl w), some (.inl a)]) (st1 := [.inl 3, .inl 0, .inl w]) (M1 := M) (ob := []) rfl rfl rfl trivial rfl rfl (Nat.le_of_ble_eq_true rfl) ⟨Or.inr (Nat.le_of_ble_eq_true rfl), trivial⟩ (by decide) ?_
  refine fs_m_isIn (fun (f1 : 0 ≤ w ∧ w ≤ 3) => ?_) (fun (f2 : ¬ (0 ≤ w ∧ w ≤ 3)) => ?_)
  · refine fs_r_if (a := 1) (L1 := [some (.inr (.ref 124)), some (.inl w), some (.inl a)]) (st1 := []) (M1 := M) (ob := []) rfl rfl trivial (fun h => absurd h (by decide : ¬ ((1 : Int) = 0))) (fun _ => ?_)
    refine fs_r_call (sta := false) (idx := 224) (as := [.inr (.ref 124), .inl a]) (rest := []) (L1 := [some (.inr (.ref 124)), some (.inl w), some (.inl a)]) (st1 := [.inl a, .inr (.ref 124)]) (M1 := M) (ob := []) rfl rfl rfl trivial rfl rfl (Nat.le_of_ble_eq_true rfl) ⟨Or.inr (Nat.le_of_ble_eq_true rfl), Or.inr fs_ob124⟩ (by decide) ?_
    refine fs_m_isAsset (by assumption) (fun (f3 : 0 ≤ a ∧ a < M 125 0) => ?_) (fun (f4 : ¬ (0 ≤ a ∧ a < M 125 0)) => ?_)
    · refine fs_r_if (a := 1) (L1 := [some (.inr (.ref 124)), some (.inl w), some (.inl a)]) (st1 := []) (M1 := M) (ob := []) rfl rfl trivial (fun _ => ?_) (fun h => absurd (by decide : ¬ (1 : Int) = 0) h)
      refine fs_r_call (sta := false) (idx := 252) (as := [.inr (.ref 124)]) (rest := []) (L1 := [some (.inr (.ref 124)), some (.inl w), some (.inl a)]) (st1 := [.inr (.ref 124)]) (M1 := M) (ob := []) rfl rfl rfl trivial rfl rfl (Nat.le_of_ble_eq_true rfl) ⟨Or.inr (Nat.le_of_ble_eq_true rfl), Or.inr fs_ob124⟩ (by decide) ?_
      refine fs_m_plain (fun (P1 : fs_M) (pp : mm_P M P1) => ?_)
      refine fs_r_call (sta := false) (idx := 270) (as := [.inr (.ref 124), .inl w]) (rest := []) (L1 := [some (.inr (.ref 124)), some (.inl w), some (.inl a)]) (st1 := [.inl w, .inr (.ref 124)]) (M1 := P1) (ob := []) rfl rfl rfl trivial rfl rfl (Nat.le_of_ble_eq_true rfl) ⟨Or.inr (Nat.le_of_ble_eq_true rfl), Or.inr fs_ob124⟩ (by decide) ?_
      refine fs_m_stands (pp.I hN) (by omega) (fun (V1 : fs_M) (g1 : mm_f3 P1 V1) (g2 : mm_st V1 = ec_std (mm_E P1) w) (g3 : mm_J V1) (g4 : mm_Z V1) (g5 : (w = 1 → V1 124 17 = (ec_k (mm_E P1) (ec_calm (mm_E P1)) : Nat)) ∧ (w = 2 → V1 124 17 = (ec_k (mm_E P1) (ec_panic (mm_E P1)) : Nat))) => ?_)
      obtain ⟨s9, e9, q9, I9⟩ := mm_pstd hN pp g1 g2
      have n0 := congrFun q9.N 0
      have n1 := congrFun q9.N 1
      have m0 : mm_E V1 0 0 = V1 125 0 := rfl
      have m1 : mm_E V1 0 1 = V1 125 1 := rfl
      have a4 := hI.1.2
      have j9 := g3.2 a (by omega) (by omega)
      refine fs_r_call (sta := false) (idx := 178) (as := [.inr (.ref 124), .inl a, .inl (V1 129 a)]) (rest := []) (L1 := [some (.inr (.ref 124)), some (.inl w), some (.inl a)]) (st1 := [.inl (V1 129 a), .inl a, .inr (.ref 124)]) (M1 := V1) (ob := [124 < fs_N ∧ fs_kd 124 = 6, (129 < fs_N ∧ fs_kd 129 = 100) ∧ (0 : Int) ≤ a ∧ a < fs_ln 129]) rfl rfl rfl (fs_oc fs_ob124 (fs_oc (fs_ar129 (by omega) (by omega)) trivial)) rfl rfl (Nat.le_of_ble_eq_true rfl) ⟨Or.inr (Nat.le_of_ble_eq_true rfl), Or.inr fs_ob124⟩ (by decide) ?_
      refine fs_m_priceBy (I9) (by omega) (by omega) ?_
      refine fs_r_iret (a := (ec_price (mm_E V1) a (V1 129 a))) (L1 := [some (.inr (.ref 124)), some (.inl w), some (.inl a)]) (M1 := V1) (ob := []) rfl rfl trivial (Or.inl rfl) ?_
      exact fs_qi (by unfold rq_price; rw [if_pos ⟨by assumption, by first | assumption | (refine ⟨by assumption, by omega⟩)⟩]; rw [← e9.price (by omega) (by omega), ← s9, mm_st_at (by omega)]) (hq0 _ q9)
    refine fs_r_if (a := 0) (L1 := [some (.inr (.ref 124)), some (.inl w), some (.inl a)]) (st1 := []) (M1 := M) (ob := []) rfl rfl trivial (fun h => absurd h (by decide : ¬ (¬ (0 : Int) = 0))) (fun _ => ?_)
    refine fs_r_iret (a := (-1)) (L1 := [some (.inr (.ref 124)), some (.inl w), some (.inl a)]) (M1 := M) (ob := []) rfl rfl trivial (Or.inl rfl) ?_
    exact fs_qi (by unfold rq_price; rw [if_neg (fun z => by first | exact absurd z.1 (by assumption) | exact absurd z.2 (by assumption) | exact absurd z.2.1 (by assumption) | (have := z.1; have := z.2; omega))]) (hq0 _ mm_q.rf)
  refine fs_r_if (a := 0) (L1 := [some (.inr (.ref 124)), some (.inl w), some (.inl a)]) (st1 := []) (M1 := M) (ob := []) rfl rfl trivial (fun _ => ?_) (fun h => absurd (by decide : (0 : Int) = 0) h)
  refine fs_r_iret (a := (-1)) (L1 := [some (.inr (.ref 124)), some (.inl w), some (.inl a)]) (M1 := M) (ob := []) rfl rfl trivial (Or.inl rfl) ?_
  exact fs_qi (by unfold rq_price; rw [if_neg (fun z => by first | exact absurd z.1 (by assumption) | exact absurd z.2 (by assumption) | exact absurd z.2.1 (by assumption) | (have := z.1; have := z.2; omega))]) (hq0 _ mm_q.rf)

theorem fs_m_worth {d : Nat} {M : fs_M} {Q : Option fs_V → fs_M → Prop} {w : Int} {h : Int}  (hI : fs_NI (M 125)) (hq0 : ∀ (M2 : fs_M), (mm_q M M2) → Q (some (.inl (rq_worth (M 125) w h))) M2) : fs_W (d + 8) 233 0 [some (.inr (.ref 124)), some (.inl w), some (.inl h)] [] M Q := by
  have hN := hI
  refine fs_r_call (sta := true) (idx := 68) (as := [.inl w, .inl 0, .inl 3]) (rest := []) (L1 := [some (.inr (.ref 124)), some (.inl w), some (.inl h)]) (st1 := [.inl 3, .inl 0, .inl w]) (M1 := M) (ob := []) rfl rfl rfl trivial rfl rfl (Nat.le_of_ble_eq_true rfl) ⟨Or.inr (Nat.le_of_ble_eq_true rfl), trivial⟩ (by decide) ?_
  refine fs_m_isIn (fun (f1 : 0 ≤ w ∧ w ≤ 3) => ?_) (fun (f2 : ¬ (0 ≤ w ∧ w ≤ 3)) => ?_)
  · refine fs_r_if (a := 1) (L1 := [some (.inr (.ref 124)), some (.inl w), some (.inl h)]) (st1 := []) (M1 := M) (ob := []) rfl rfl trivial (fun h => absurd h (by decide : ¬ ((1 : Int) = 0))) (fun _ => ?_)
    refine fs_r_call (sta := false) (idx := 237) (as := [.inr (.ref 124), .inl h]) (rest := []) (L1 := [some (.inr (.ref 124)), some (.inl w), some (.inl h)]) (st1 := [.inl h, .inr (.ref 124)]) (M1 := M) (ob := []) rfl rfl rfl trivial rfl rfl (Nat.le_of_ble_eq_true rfl) ⟨Or.inr (Nat.le_of_ble_eq_true rfl), Or.inr fs_ob124⟩ (by decide) ?_
    refine fs_m_isHouse (by assumption) (fun (f3 : 0 ≤ h ∧ h < M 125 1) => ?_) (fun (f4 : ¬ (0 ≤ h ∧ h < M 125 1)) => ?_)
    · refine fs_r_if (a := 1) (L1 := [some (.inr (.ref 124)), some (.inl w), some (.inl h)]) (st1 := []) (M1 := M) (ob := []) rfl rfl trivial (fun _ => ?_) (fun h => absurd (by decide : ¬ (1 : Int) = 0) h)
      refine fs_r_call (sta := false) (idx := 252) (as := [.inr (.ref 124)]) (rest := []) (L1 := [some (.inr (.ref 124)), some (.inl w), some (.inl h)]) (st1 := [.inr (.ref 124)]) (M1 := M) (ob := []) rfl rfl rfl trivial rfl rfl (Nat.le_of_ble_eq_true rfl) ⟨Or.inr (Nat.le_of_ble_eq_true rfl), Or.inr fs_ob124⟩ (by decide) ?_
      refine fs_m_plain (fun (P1 : fs_M) (pp : mm_P M P1) => ?_)
      refine fs_r_call (sta := false) (idx := 270) (as := [.inr (.ref 124), .inl w]) (rest := []) (L1 := [some (.inr (.ref 124)), some (.inl w), some (.inl h)]) (st1 := [.inl w, .inr (.ref 124)]) (M1 := P1) (ob := []) rfl rfl rfl trivial rfl rfl (Nat.le_of_ble_eq_true rfl) ⟨Or.inr (Nat.le_of_ble_eq_true rfl), Or.inr fs_ob124⟩ (by decide) ?_
      refine fs_m_stands (pp.I hN) (by omega) (fun (V1 : fs_M) (g1 : mm_f3 P1 V1) (g2 : mm_st V1 = ec_std (mm_E P1) w) (g3 : mm_J V1) (g4 : mm_Z V1) (g5 : (w = 1 → V1 124 17 = (ec_k (mm_E P1) (ec_calm (mm_E P1)) : Nat)) ∧ (w = 2 → V1 124 17 = (ec_k (mm_E P1) (ec_panic (mm_E P1)) : Nat))) => ?_)
      obtain ⟨s9, e9, q9, I9⟩ := mm_pstd hN pp g1 g2
      have n0 := congrFun q9.N 0
      have n1 := congrFun q9.N 1
      have m0 : mm_E V1 0 0 = V1 125 0 := rfl
      have m1 : mm_E V1 0 1 = V1 125 1 := rfl
      have a4 := hI.2.1.2
      refine fs_r_call (sta := false) (idx := 187) (as := [.inr (.ref 124), .inl h]) (rest := []) (L1 := [some (.inr (.ref 124)), some (.inl w), some (.inl h)]) (st1 := [.inl h, .inr (.ref 124)]) (M1 := V1) (ob := []) rfl rfl rfl trivial rfl rfl (Nat.le_of_ble_eq_true rfl) ⟨Or.inr (Nat.le_of_ble_eq_true rfl), Or.inr fs_ob124⟩ (by decide) ?_
      refine fs_m_worthNow (I9) (by assumption) (by omega) ?_
      refine fs_r_iret (a := (ec_worth (mm_E V1) (mm_st V1) h)) (L1 := [some (.inr (.ref 124)), some (.inl w), some (.inl h)]) (M1 := V1) (ob := []) rfl rfl trivial (Or.inl rfl) ?_
      exact fs_qi (by unfold rq_worth; rw [if_pos ⟨by assumption, by first | assumption | (refine ⟨by assumption, by omega⟩)⟩]; rw [e9.worth (by omega) (by omega), s9]) (hq0 _ q9)
    refine fs_r_if (a := 0) (L1 := [some (.inr (.ref 124)), some (.inl w), some (.inl h)]) (st1 := []) (M1 := M) (ob := []) rfl rfl trivial (fun h => absurd h (by decide : ¬ (¬ (0 : Int) = 0))) (fun _ => ?_)
    refine fs_r_iret (a := (-1000000)) (L1 := [some (.inr (.ref 124)), some (.inl w), some (.inl h)]) (M1 := M) (ob := []) rfl rfl trivial (Or.inl rfl) ?_
    exact fs_qi (by unfold rq_worth; rw [if_neg (fun z => by first | exact absurd z.1 (by assumption) | exact absurd z.2 (by assumption) | exact absurd z.2.1 (by assumption) | (have := z.1; have := z.2; omega))]) (hq0 _ mm_q.rf)
  refine fs_r_if (a := 0) (L1 := [some (.inr (.ref 124)), some (.inl w), some (.inl h)]) (st1 := []) (M1 := M) (ob := []) rfl rfl trivial (fun _ => ?_) (fun h => absurd (by decide : (0 : Int) = 0) h)
  refine fs_r_iret (a := (-1000000)) (L1 := [some (.inr (.ref 124)), some (.inl w), some (.inl h)]) (M1 := M) (ob := []) rfl rfl trivial (Or.inl rfl) ?_
  exact fs_qi (by unfold rq_worth; rw [if_neg (fun z => by first | exact absurd z.1 (by assumption) | exact absurd z.2 (by assumption) | exact absurd z.2.1 (by assumption) | (have := z.1; have := z.2; omega))]) (hq0 _ mm_q.rf)

theorem fs_m_mustSell {d : Nat} {M : fs_M} {Q : Option fs_V → fs_M → Prop} {w : Int} {h : Int} {a : Int}  (hI : fs_NI (M 125)) (hq0 : ∀ (M2 : fs_M), (mm_q M M2) → Q (some (.inl (rq_mustSell (M 125) w h a))) M2) : fs_W (d + 8) 234 0 [some (.inr (.ref 124)), some (.inl w), some (.inl h), some (.inl a), none] [] M Q := by
  have hN := hI
  refine fs_r_call (sta := true) (idx := 68) (as := [.inl w, .inl 0, .inl 3]) (rest := []) (L1 := [some (.inr (.ref 124)), some (.inl w), some (.inl h), some (.inl a), none]) (st1 := [.inl 3, .inl 0, .inl w]) (M1 := M) (ob := []) rfl rfl rfl trivial rfl rfl (Nat.le_of_ble_eq_true rfl) ⟨Or.inr (Nat.le_of_ble_eq_true rfl), trivial⟩ (by decide) ?_
  refine fs_m_isIn (fun (f1 : 0 ≤ w ∧ w ≤ 3) => ?_) (fun (f2 : ¬ (0 ≤ w ∧ w ≤ 3)) => ?_)
  · refine fs_r_if (a := 1) (L1 := [some (.inr (.ref 124)), some (.inl w), some (.inl h), some (.inl a), none]) (st1 := []) (M1 := M) (ob := []) rfl rfl trivial (fun h => absurd h (by decide : ¬ ((1 : Int) = 0))) (fun _ => ?_)
    refine fs_r_call (sta := false) (idx := 237) (as := [.inr (.ref 124), .inl h]) (rest := []) (L1 := [some (.inr (.ref 124)), some (.inl w), some (.inl h), some (.inl a), none]) (st1 := [.inl h, .inr (.ref 124)]) (M1 := M) (ob := []) rfl rfl rfl trivial rfl rfl (Nat.le_of_ble_eq_true rfl) ⟨Or.inr (Nat.le_of_ble_eq_true rfl), Or.inr fs_ob124⟩ (by decide) ?_
    refine fs_m_isHouse (by assumption) (fun (f3 : 0 ≤ h ∧ h < M 125 1) => ?_) (fun (f4 : ¬ (0 ≤ h ∧ h < M 125 1)) => ?_)
    · refine fs_r_if (a := 1) (L1 := [some (.inr (.ref 124)), some (.inl w), some (.inl h), some (.inl a), none]) (st1 := []) (M1 := M) (ob := []) rfl rfl trivial (fun h => absurd h (by decide : ¬ ((1 : Int) = 0))) (fun _ => ?_)
      refine fs_r_icmp (a := a) (y := (-1)) (L1 := [some (.inr (.ref 124)), some (.inl w), some (.inl h), some (.inl a), none]) (st1 := []) (M1 := M) (ob := []) rfl rfl trivial (fun (h5 : a = (-1)) => ?_) (fun (h5 : ¬ (a = (-1))) => ?_)
      · refine fs_r_call (sta := false) (idx := 252) (as := [.inr (.ref 124)]) (rest := []) (L1 := [some (.inr (.ref 124)), some (.inl w), some (.inl h), some (.inl a), none]) (st1 := [.inr (.ref 124)]) (M1 := M) (ob := []) rfl rfl rfl trivial rfl rfl (Nat.le_of_ble_eq_true rfl) ⟨Or.inr (Nat.le_of_ble_eq_true rfl), Or.inr fs_ob124⟩ (by decide) ?_
        refine fs_m_plain (fun (P1 : fs_M) (pp : mm_P M P1) => ?_)
        refine fs_r_call (sta := false) (idx := 270) (as := [.inr (.ref 124), .inl w]) (rest := []) (L1 := [some (.inr (.ref 124)), some (.inl w), some (.inl h), some (.inl a), none]) (st1 := [.inl w, .inr (.ref 124)]) (M1 := P1) (ob := []) rfl rfl rfl trivial rfl rfl (Nat.le_of_ble_eq_true rfl) ⟨Or.inr (Nat.le_of_ble_eq_true rfl), Or.inr fs_ob124⟩ (by decide) ?_
        refine fs_m_stands (pp.I hN) (by omega) (fun (V1 : fs_M) (g1 : mm_f3 P1 V1) (g2 : mm_st V1 = ec_std (mm_E P1) w) (g3 : mm_J V1) (g4 : mm_Z V1) (g5 : (w = 1 → V1 124 17 = (ec_k (mm_E P1) (ec_calm (mm_E P1)) : Nat)) ∧ (w = 2 → V1 124 17 = (ec_k (mm_E P1) (ec_panic (mm_E P1)) : Nat))) => ?_)
        obtain ⟨s9, e9, q9, I9⟩ := mm_pstd hN pp g1 g2
        have n0 := congrFun q9.N 0
        have n1 := congrFun q9.N 1
        have m0 : mm_E V1 0 0 = V1 125 0 := rfl
        have m1 : mm_E V1 0 1 = V1 125 1 := rfl
        have a4 := hI.2.1.2
        refine fs_r_call (sta := false) (idx := 196) (as := [.inr (.ref 124), .inl h]) (rest := []) (L1 := [some (.inr (.ref 124)), some (.inl w), some (.inl h), some (.inl a), none]) (st1 := [.inl h, .inr (.ref 124)]) (M1 := V1) (ob := []) rfl rfl rfl trivial rfl rfl (Nat.le_of_ble_eq_true rfl) ⟨Or.inr (Nat.le_of_ble_eq_true rfl), Or.inr fs_ob124⟩ (by decide) ?_
        refine fs_m_must (I9) (by assumption) (by omega) ?_
        have hl : 0 ≤ h ∧ h < V1 125 1 := by rw [q9.N]; assumption
        have db := mm_due_b (h := h) (w := ec_worth (mm_E V1) (mm_st V1) h) I9 hl
        refine fs_r_icmp (a := a) (y := (-1)) (L1 := [some (.inr (.ref 124)), some (.inl w), some (.inl h), some (.inl a), some (.inl (ec_due (mm_E V1) h (ec_worth (mm_E V1) (mm_st V1) h)))]) (st1 := []) (M1 := V1) (ob := [4 < 5]) rfl rfl (fs_oc (by decide) trivial) (fun (h6 : ¬ a = (-1)) => ?_) (fun (h6 : ¬ (¬ a = (-1))) => ?_)
        · refine fs_r_call (sta := false) (idx := 199) (as := [.inr (.ref 124), .inl h, .inl a, .inl (ec_due (mm_E V1) h (ec_worth (mm_E V1) (mm_st V1) h))]) (rest := []) (L1 := [some (.inr (.ref 124)), some (.inl w), some (.inl h), some (.inl a), some (.inl (ec_due (mm_E V1) h (ec_worth (mm_E V1) (mm_st V1) h)))]) (st1 := [.inl (ec_due (mm_E V1) h (ec_worth (mm_E V1) (mm_st V1) h)), .inl a, .inl h, .inr (.ref 124)]) (M1 := V1) (ob := []) rfl rfl rfl trivial rfl rfl (Nat.le_of_ble_eq_true rfl) ⟨Or.inr (Nat.le_of_ble_eq_true rfl), Or.inr fs_ob124⟩ (by decide) ?_
          refine fs_m_mustOf (I9) (by omega) (by omega) (by omega) ?_
          refine fs_r_iret (a := (ec_part (mm_E V1) h (ec_due (mm_E V1) h (ec_worth (mm_E V1) (mm_st V1) h)) a)) (L1 := [some (.inr (.ref 124)), some (.inl w), some (.inl h), some (.inl a), some (.inl (ec_due (mm_E V1) h (ec_worth (mm_E V1) (mm_st V1) h)))]) (M1 := V1) (ob := []) rfl rfl trivial (Or.inl rfl) ?_
          first
            | (exfalso; omega)
            | exact fs_qi (by unfold rq_mustSell; rw [if_pos ⟨by assumption, by first | assumption | (refine ⟨by assumption, by omega⟩)⟩]; first | (rw [if_pos (by omega), e9.due hl.1 hl.2, e9.worth hl.1 hl.2, s9]) | (rw [if_neg (by omega), e9.part hl.1 hl.2 (by omega) (by omega), e9.due hl.1 hl.2, e9.worth hl.1 hl.2, s9])) (hq0 _ q9)
        refine fs_r_goto (L1 := [some (.inr (.ref 124)), some (.inl w), some (.inl h), some (.inl a), some (.inl (ec_due (mm_E V1) h (ec_worth (mm_E V1) (mm_st V1) h)))]) (st1 := [.inl (ec_due (mm_E V1) h (ec_worth (mm_E V1) (mm_st V1) h))]) (M1 := V1) (ob := []) rfl rfl trivial ?_
        refine fs_r_iret (a := (ec_due (mm_E V1) h (ec_worth (mm_E V1) (mm_st V1) h))) (L1 := [some (.inr (.ref 124)), some (.inl w), some (.inl h), some (.inl a), some (.inl (ec_due (mm_E V1) h (ec_worth (mm_E V1) (mm_st V1) h)))]) (M1 := V1) (ob := []) rfl rfl trivial (Or.inl rfl) ?_
        first
          | (exfalso; omega)
          | exact fs_qi (by unfold rq_mustSell; rw [if_pos ⟨by assumption, by first | assumption | (refine ⟨by assumption, by omega⟩)⟩]; first | (rw [if_pos (by omega), e9.due hl.1 hl.2, e9.worth hl.1 hl.2, s9]) | (rw [if_neg (by omega), e9.part hl.1 hl.2 (by omega) (by omega), e9.due hl.1 hl.2, e9.worth hl.1 hl.2, s9])) (hq0 _ q9)
      refine fs_r_call (sta := false) (idx := 224) (as := [.inr (.ref 124), .inl a]) (rest := []) (L1 := [some (.inr (.ref 124)), some (.inl w), some (.inl h), some (.inl a), none]) (st1 := [.inl a, .inr (.ref 124)]) (M1 := M) (ob := []) rfl rfl rfl trivial rfl rfl (Nat.le_of_ble_eq_true rfl) ⟨Or.inr (Nat.le_of_ble_eq_true rfl), Or.inr fs_ob124⟩ (by decide) ?_
      refine fs_m_isAsset (by assumption) (fun (f7 : 0 ≤ a ∧ a < M 125 0) => ?_) (fun (f8 : ¬ (0 ≤ a ∧ a < M 125 0)) => ?_)
      · refine fs_r_if (a := 1) (L1 := [some (.inr (.ref 124)), some (.inl w), some (.inl h), some (.inl a), none]) (st1 := []) (M1 := M) (ob := []) rfl rfl trivial (fun _ => ?_) (fun h => absurd (by decide : ¬ (1 : Int) = 0) h)
        refine fs_r_call (sta := false) (idx := 252) (as := [.inr (.ref 124)]) (rest := []) (L1 := [some (.inr (.ref 124)), some (.inl w), some (.inl h), some (.inl a), none]) (st1 := [.inr (.ref 124)]) (M1 := M) (ob := []) rfl rfl rfl trivial rfl rfl (Nat.le_of_ble_eq_true rfl) ⟨Or.inr (Nat.le_of_ble_eq_true rfl), Or.inr fs_ob124⟩ (by decide) ?_
        refine fs_m_plain (fun (P1 : fs_M) (pp : mm_P M P1) => ?_)
        refine fs_r_call (sta := false) (idx := 270) (as := [.inr (.ref 124), .inl w]) (rest := []) (L1 := [some (.inr (.ref 124)), some (.inl w), some (.inl h), some (.inl a), none]) (st1 := [.inl w, .inr (.ref 124)]) (M1 := P1) (ob := []) rfl rfl rfl trivial rfl rfl (Nat.le_of_ble_eq_true rfl) ⟨Or.inr (Nat.le_of_ble_eq_true rfl), Or.inr fs_ob124⟩ (by decide) ?_
        refine fs_m_stands (pp.I hN) (by omega) (fun (V1 : fs_M) (g1 : mm_f3 P1 V1) (g2 : mm_st V1 = ec_std (mm_E P1) w) (g3 : mm_J V1) (g4 : mm_Z V1) (g5 : (w = 1 → V1 124 17 = (ec_k (mm_E P1) (ec_calm (mm_E P1)) : Nat)) ∧ (w = 2 → V1 124 17 = (ec_k (mm_E P1) (ec_panic (mm_E P1)) : Nat))) => ?_)
        obtain ⟨s9, e9, q9, I9⟩ := mm_pstd hN pp g1 g2
        have n0 := congrFun q9.N 0
        have n1 := congrFun q9.N 1
        have m0 : mm_E V1 0 0 = V1 125 0 := rfl
        have m1 : mm_E V1 0 1 = V1 125 1 := rfl
        have a4 := hI.2.1.2
        refine fs_r_call (sta := false) (idx := 196) (as := [.inr (.ref 124), .inl h]) (rest := []) (L1 := [some (.inr (.ref 124)), some (.inl w), some (.inl h), some (.inl a), none]) (st1 := [.inl h, .inr (.ref 124)]) (M1 := V1) (ob := []) rfl rfl rfl trivial rfl rfl (Nat.le_of_ble_eq_true rfl) ⟨Or.inr (Nat.le_of_ble_eq_true rfl), Or.inr fs_ob124⟩ (by decide) ?_
        refine fs_m_must (I9) (by assumption) (by omega) ?_
        have hl : 0 ≤ h ∧ h < V1 125 1 := by rw [q9.N]; assumption
        have db := mm_due_b (h := h) (w := ec_worth (mm_E V1) (mm_st V1) h) I9 hl
        refine fs_r_icmp (a := a) (y := (-1)) (L1 := [some (.inr (.ref 124)), some (.inl w), some (.inl h), some (.inl a), some (.inl (ec_due (mm_E V1) h (ec_worth (mm_E V1) (mm_st V1) h)))]) (st1 := []) (M1 := V1) (ob := [4 < 5]) rfl rfl (fs_oc (by decide) trivial) (fun (h9 : ¬ a = (-1)) => ?_) (fun (h9 : ¬ (¬ a = (-1))) => ?_)
        · refine fs_r_call (sta := false) (idx := 199) (as := [.inr (.ref 124), .inl h, .inl a, .inl (ec_due (mm_E V1) h (ec_worth (mm_E V1) (mm_st V1) h))]) (rest := []) (L1 := [some (.inr (.ref 124)), some (.inl w), some (.inl h), some (.inl a), some (.inl (ec_due (mm_E V1) h (ec_worth (mm_E V1) (mm_st V1) h)))]) (st1 := [.inl (ec_due (mm_E V1) h (ec_worth (mm_E V1) (mm_st V1) h)), .inl a, .inl h, .inr (.ref 124)]) (M1 := V1) (ob := []) rfl rfl rfl trivial rfl rfl (Nat.le_of_ble_eq_true rfl) ⟨Or.inr (Nat.le_of_ble_eq_true rfl), Or.inr fs_ob124⟩ (by decide) ?_
          refine fs_m_mustOf (I9) (by omega) (by omega) (by omega) ?_
          refine fs_r_iret (a := (ec_part (mm_E V1) h (ec_due (mm_E V1) h (ec_worth (mm_E V1) (mm_st V1) h)) a)) (L1 := [some (.inr (.ref 124)), some (.inl w), some (.inl h), some (.inl a), some (.inl (ec_due (mm_E V1) h (ec_worth (mm_E V1) (mm_st V1) h)))]) (M1 := V1) (ob := []) rfl rfl trivial (Or.inl rfl) ?_
          first
            | (exfalso; omega)
            | exact fs_qi (by unfold rq_mustSell; rw [if_pos ⟨by assumption, by first | assumption | (refine ⟨by assumption, by omega⟩)⟩]; first | (rw [if_pos (by omega), e9.due hl.1 hl.2, e9.worth hl.1 hl.2, s9]) | (rw [if_neg (by omega), e9.part hl.1 hl.2 (by omega) (by omega), e9.due hl.1 hl.2, e9.worth hl.1 hl.2, s9])) (hq0 _ q9)
        refine fs_r_goto (L1 := [some (.inr (.ref 124)), some (.inl w), some (.inl h), some (.inl a), some (.inl (ec_due (mm_E V1) h (ec_worth (mm_E V1) (mm_st V1) h)))]) (st1 := [.inl (ec_due (mm_E V1) h (ec_worth (mm_E V1) (mm_st V1) h))]) (M1 := V1) (ob := []) rfl rfl trivial ?_
        refine fs_r_iret (a := (ec_due (mm_E V1) h (ec_worth (mm_E V1) (mm_st V1) h))) (L1 := [some (.inr (.ref 124)), some (.inl w), some (.inl h), some (.inl a), some (.inl (ec_due (mm_E V1) h (ec_worth (mm_E V1) (mm_st V1) h)))]) (M1 := V1) (ob := []) rfl rfl trivial (Or.inl rfl) ?_
        first
          | (exfalso; omega)
          | exact fs_qi (by unfold rq_mustSell; rw [if_pos ⟨by assumption, by first | assumption | (refine ⟨by assumption, by omega⟩)⟩]; first | (rw [if_pos (by omega), e9.due hl.1 hl.2, e9.worth hl.1 hl.2, s9]) | (rw [if_neg (by omega), e9.part hl.1 hl.2 (by omega) (by omega), e9.due hl.1 hl.2, e9.worth hl.1 hl.2, s9])) (hq0 _ q9)
      refine fs_r_if (a := 0) (L1 := [some (.inr (.ref 124)), some (.inl w), some (.inl h), some (.inl a), none]) (st1 := []) (M1 := M) (ob := []) rfl rfl trivial (fun h => absurd h (by decide : ¬ (¬ (0 : Int) = 0))) (fun _ => ?_)
      refine fs_r_iret (a := (-1)) (L1 := [some (.inr (.ref 124)), some (.inl w), some (.inl h), some (.inl a), none]) (M1 := M) (ob := []) rfl rfl trivial (Or.inl rfl) ?_
      exact fs_qi (by unfold rq_mustSell; rw [if_neg (fun z => by first | exact absurd z.1 (by assumption) | exact absurd z.2 (by assumption) | exact absurd z.2.1 (by assumption) | (have := z.1; have := z.2; omega))]) (hq0 _ mm_q.rf)
    refine fs_r_if (a := 0) (L1 := [some (.inr (.ref 124)), some (.inl w), some (.inl h), some (.inl a), none]) (st1 := []) (M1 := M) (ob := []) rfl rfl trivial (fun _ => ?_) (fun h => absurd (by decide : (0 : Int) = 0) h)
    refine fs_r_iret (a := (-1)) (L1 := [some (.inr (.ref 124)), some (.inl w), some (.inl h), some (.inl a), none]) (M1 := M) (ob := []) rfl rfl trivial (Or.inl rfl) ?_
    exact fs_qi (by unfold rq_mustSell; rw [if_neg (fun z => by first | exact absurd z.1 (by assumption) | exact absurd z.2 (by assumption) | exact absurd z.2.1 (by assumption) | (have := z.1; have := z.2; omega))]) (hq0 _ mm_q.rf)
  refine fs_r_if (a := 0) (L1 := [some (.inr (.ref 124)), some (.inl w), some (.inl h), some (.inl a), none]) (st1 := []) (M1 := M) (ob := []) rfl rfl trivial (fun _ => ?_) (fun h => absurd (by decide : (0 : Int) = 0) h)
  refine fs_r_iret (a := (-1)) (L1 := [some (.inr (.ref 124)), some (.inl w), some (.inl h), some (.inl a), none]) (M1 := M) (ob := []) rfl rfl trivial (Or.inl rfl) ?_
  exact fs_qi (by unfold rq_mustSell; rw [if_neg (fun z => by first | exact absurd z.1 (by assumption) | exact absurd z.2 (by assumption) | exact absurd z.2.1 (by assumption) | (have := z.1; have := z.2; omega))]) (hq0 _ mm_q.rf)

theorem fs_m_goesTo {d : Nat} {M : fs_M} {Q : Option fs_V → fs_M → Prop} {k : Int}  (hI : fs_NI (M 125)) (hk : 0 ≤ k ∧ k ≤ 2000) (hq0 : ∀ (M2 : fs_M), (mm_q M M2) → (mm_I M2) → (mm_J M2) → (ec_eq (mm_E M2) (ec_pl (M 125))) → (mm_st M2 = ec_it (ec_pl (M 125)) (ec_calm (ec_pl (M 125))) k.toNat) → Q none M2) : fs_W (d + 6) 235 0 [some (.inr (.ref 124)), some (.inl k), none, none] [] M Q := by
  have hN := hI
  refine fs_r_call (sta := false) (idx := 252) (as := [.inr (.ref 124)]) (rest := []) (L1 := [some (.inr (.ref 124)), some (.inl k), none, none]) (st1 := [.inr (.ref 124)]) (M1 := M) (ob := []) rfl rfl rfl trivial rfl rfl (Nat.le_of_ble_eq_true rfl) ⟨Or.inr (Nat.le_of_ble_eq_true rfl), Or.inr fs_ob124⟩ (by decide) ?_
  refine fs_m_plain (fun (P1 : fs_M) (pp : mm_P M P1) => ?_)
  refine fs_r_call (sta := false) (idx := 215) (as := [.inr (.ref 124)]) (rest := []) (L1 := [some (.inr (.ref 124)), some (.inl k), none, none]) (st1 := [.inr (.ref 124)]) (M1 := P1) (ob := []) rfl rfl rfl trivial rfl rfl (Nat.le_of_ble_eq_true rfl) ⟨Or.inr (Nat.le_of_ble_eq_true rfl), Or.inr fs_ob124⟩ (by decide) ?_
  refine fs_m_calm (pp.I hN) (fun (v1 : fs_M) (c1 : mm_f2 P1 v1) (c2 : mm_st v1 = ec_calm (mm_E P1)) (c3 : mm_J v1) (c4 : mm_Z v1) => ?_)
  have IP := pp.I hN
  have hH : 0 ≤ mm_E P1 0 1 := IP.1.2.1.1
  have e0 := pp.eq hN
  refine fs_r_nop (L1 := [some (.inr (.ref 124)), some (.inl k), some (.inl 1), some (.inl 0)]) (st1 := []) (M1 := v1) (ob := [2 < 4, 3 < 4]) rfl rfl (fs_oc (by decide) (fs_oc (by decide) trivial)) ?_
  have loop12 : ∀ (n12 : Nat) (mo : Int) (i : Int) (M3 : fs_M), (0 ≤ i ∧ i ≤ k) → (mm_f2 P1 M3) → (mm_J M3) → (mm_Z M3) → (mm_st M3 = ec_it (mm_E P1) (ec_calm (mm_E P1)) i.toNat) → (mo = 1 ∨ (mo = 0 ∧ ec_next (mm_E P1) (mm_st M3) = mm_st M3)) → k - i < (n12 : Int) → fs_W (d + 6) 235 12 [some (.inr (.ref 124)), some (.inl k), some (.inl mo), some (.inl i)] [] M3 Q := by
    intro n12
    induction n12 with
    | zero =>
      intro mo i M3 i0 f0 j0 z0 s0 b0 hm12
      exfalso
      omega
    | succ n12 ih12 =>
      intro mo i M3 i0 f0 j0 z0 s0 b0 hm12
      refine fs_r_icmp (a := i) (y := k) (L1 := [some (.inr (.ref 124)), some (.inl k), some (.inl mo), some (.inl i)]) (st1 := []) (M1 := M3) (ob := []) rfl rfl trivial (fun (h2 : k ≤ i) => ?_) (fun (h2 : ¬ (k ≤ i)) => ?_)
      · refine fs_r_ret (L1 := [some (.inr (.ref 124)), some (.inl k), some (.inl mo), some (.inl i)]) (M1 := M3) (ob := []) rfl rfl trivial ?_
        have sk : mm_st M3 = ec_it (mm_E P1) (ec_calm (mm_E P1)) k.toNat := by
          rcases b0 with b | ⟨b1, b2⟩
          · rw [s0, show i = k by omega]
          · rw [s0] at b2 ⊢
            exact (ec_it_stay b2 _ (by omega)).symm
        exact hq0 _ ((mm_q.P pp).tr (mm_q.f2 f0)) (f0.I IP) j0 (by rw [f0.E]; exact e0) (by rw [sk, e0.it hH, e0.calm])
      refine fs_r_if (a := mo) (L1 := [some (.inr (.ref 124)), some (.inl k), some (.inl mo), some (.inl i)]) (st1 := []) (M1 := M3) (ob := []) rfl rfl trivial (fun (h3 : mo = 0) => ?_) (fun (h3 : ¬ (mo = 0)) => ?_)
      · refine fs_r_ret (L1 := [some (.inr (.ref 124)), some (.inl k), some (.inl mo), some (.inl i)]) (M1 := M3) (ob := []) rfl rfl trivial ?_
        have sk : mm_st M3 = ec_it (mm_E P1) (ec_calm (mm_E P1)) k.toNat := by
          rcases b0 with b | ⟨b1, b2⟩
          · rw [s0, show i = k by omega]
          · rw [s0] at b2 ⊢
            exact (ec_it_stay b2 _ (by omega)).symm
        exact hq0 _ ((mm_q.P pp).tr (mm_q.f2 f0)) (f0.I IP) j0 (by rw [f0.E]; exact e0) (by rw [sk, e0.it hH, e0.calm])
      refine fs_r_call (sta := false) (idx := 211) (as := [.inr (.ref 124)]) (rest := []) (L1 := [some (.inr (.ref 124)), some (.inl k), some (.inl mo), some (.inl i)]) (st1 := [.inr (.ref 124)]) (M1 := M3) (ob := []) rfl rfl rfl trivial rfl rfl (Nat.le_of_ble_eq_true rfl) ⟨Or.inr (Nat.le_of_ble_eq_true rfl), Or.inr fs_ob124⟩ (by decide) ?_
      refine fs_m_goesOn (f0.I IP) (j0) (z0) (fun (v4 : fs_M) (d1 : mm_f2 M3 v4) (d2 : mm_st v4 = ec_next (mm_E M3) (mm_st M3)) (d3 : mm_J v4) (d4 : mm_Z v4) (d5 : ¬ mm_st v4 = mm_st M3) => ?_) (fun (v5 : fs_M) (d1 : mm_f2 M3 v5) (d2 : mm_st v5 = ec_next (mm_E M3) (mm_st M3)) (d3 : mm_J v5) (d4 : mm_Z v5) (d5 : mm_st v5 = mm_st M3) => ?_)
      · refine fs_r_goto (L1 := [some (.inr (.ref 124)), some (.inl k), some (.inl 1), some (.inl (i + 1))]) (st1 := []) (M1 := v4) (ob := [2 < 4, fs_rg (i + 1)]) rfl rfl (fs_oc (by decide) (fs_oc ⟨by omega, by omega⟩ trivial)) ?_
        exact ih12 (1) ((i + 1)) v4 (by omega) (f0.tr d1) (d3) (d4) (by rw [d2, f0.E, s0, show (i + 1).toNat = i.toNat + 1 by omega]; rfl) (by first | exact Or.inl rfl | exact Or.inr ⟨rfl, by rw [d5, ← f0.E, ← d2, d5]⟩) (by omega)
      refine fs_r_goto (L1 := [some (.inr (.ref 124)), some (.inl k), some (.inl 0), some (.inl (i + 1))]) (st1 := []) (M1 := v5) (ob := [2 < 4, fs_rg (i + 1)]) rfl rfl (fs_oc (by decide) (fs_oc ⟨by omega, by omega⟩ trivial)) ?_
      exact ih12 (0) ((i + 1)) v5 (by omega) (f0.tr d1) (d3) (d4) (by rw [d2, f0.E, s0, show (i + 1).toNat = i.toNat + 1 by omega]; rfl) (by first | exact Or.inl rfl | exact Or.inr ⟨rfl, by rw [d5, ← f0.E, ← d2, d5]⟩) (by omega)
  exact loop12 (((k - (0)) : Int) + 1).toNat (1) (0) v1 (by omega) (c1) (c3) (c4) (c2) (Or.inl rfl) (by omega)

theorem fs_m_round {d : Nat} {M : fs_M} {Q : Option fs_V → fs_M → Prop} {k : Int} {x : Int}  (hI : fs_NI (M 125)) (hq0 : ∀ (M2 : fs_M), (mm_q M M2) → Q (some (.inl (rq_round (M 125) k x))) M2) : fs_W (d + 7) 236 0 [some (.inr (.ref 124)), some (.inl k), some (.inl x)] [] M Q := by
  have hN := hI
  refine fs_r_call (sta := true) (idx := 68) (as := [.inl k, .inl 0, .inl 2000]) (rest := []) (L1 := [some (.inr (.ref 124)), some (.inl k), some (.inl x)]) (st1 := [.inl 2000, .inl 0, .inl k]) (M1 := M) (ob := []) rfl rfl rfl trivial rfl rfl (Nat.le_of_ble_eq_true rfl) ⟨Or.inr (Nat.le_of_ble_eq_true rfl), trivial⟩ (by decide) ?_
  refine fs_m_isIn (fun (f1 : 0 ≤ k ∧ k ≤ 2000) => ?_) (fun (f2 : ¬ (0 ≤ k ∧ k ≤ 2000)) => ?_)
  · refine fs_r_if (a := 1) (L1 := [some (.inr (.ref 124)), some (.inl k), some (.inl x)]) (st1 := []) (M1 := M) (ob := []) rfl rfl trivial (fun h => absurd h (by decide : ¬ ((1 : Int) = 0))) (fun _ => ?_)
    refine fs_r_call (sta := false) (idx := 267) (as := [.inr (.ref 124), .inl x]) (rest := []) (L1 := [some (.inr (.ref 124)), some (.inl k), some (.inl x)]) (st1 := [.inl x, .inr (.ref 124)]) (M1 := M) (ob := []) rfl rfl rfl trivial rfl rfl (Nat.le_of_ble_eq_true rfl) ⟨Or.inr (Nat.le_of_ble_eq_true rfl), Or.inr fs_ob124⟩ (by decide) ?_
    refine fs_m_isAsked (by assumption) (fun (f3 : mm_ask (M 125) x) => ?_) (fun (f4 : ¬ (mm_ask (M 125) x)) => ?_)
    · refine fs_r_if (a := 1) (L1 := [some (.inr (.ref 124)), some (.inl k), some (.inl x)]) (st1 := []) (M1 := M) (ob := []) rfl rfl trivial (fun _ => ?_) (fun h => absurd (by decide : ¬ (1 : Int) = 0) h)
      refine fs_r_call (sta := false) (idx := 274) (as := [.inr (.ref 124), .inl k]) (rest := []) (L1 := [some (.inr (.ref 124)), some (.inl k), some (.inl x)]) (st1 := [.inl k, .inr (.ref 124)]) (M1 := M) (ob := []) rfl rfl rfl trivial rfl rfl (Nat.le_of_ble_eq_true rfl) ⟨Or.inr (Nat.le_of_ble_eq_true rfl), Or.inr fs_ob124⟩ (by decide) ?_
      refine fs_m_goesTo (by assumption) (by omega) (fun (V1 : fs_M) (q9 : mm_q M V1) (I9 : mm_I V1) (g3 : mm_J V1) (e9 : ec_eq (mm_E V1) (ec_pl (M 125))) (s9 : mm_st V1 = ec_it (ec_pl (M 125)) (ec_calm (ec_pl (M 125))) k.toNat) => ?_)
      have n0 := congrFun q9.N 0
      have n1 := congrFun q9.N 1
      have m0 : mm_E V1 0 0 = V1 125 0 := rfl
      have m1 : mm_E V1 0 1 = V1 125 1 := rfl
      refine fs_r_call (sta := false) (idx := 258) (as := [.inr (.ref 124), .inl x]) (rest := []) (L1 := [some (.inr (.ref 124)), some (.inl k), some (.inl x)]) (st1 := [.inl x, .inr (.ref 124)]) (M1 := V1) (ob := []) rfl rfl rfl trivial rfl rfl (Nat.le_of_ble_eq_true rfl) ⟨Or.inr (Nat.le_of_ble_eq_true rfl), Or.inr fs_ob124⟩ (by decide) ?_
      refine fs_m_told (I9) (g3) (by rw [q9.N]; assumption) ?_
      refine fs_r_iret (a := (ec_tell (mm_E V1) (mm_st V1) x)) (L1 := [some (.inr (.ref 124)), some (.inl k), some (.inl x)]) (M1 := V1) (ob := []) rfl rfl trivial (Or.inl rfl) ?_
      exact fs_qi (by unfold rq_round; rw [if_pos ⟨by assumption, by first | assumption | (refine ⟨by assumption, by omega⟩)⟩]; rw [e9.tell, s9]) (hq0 _ q9)
    refine fs_r_if (a := 0) (L1 := [some (.inr (.ref 124)), some (.inl k), some (.inl x)]) (st1 := []) (M1 := M) (ob := []) rfl rfl trivial (fun h => absurd h (by decide : ¬ (¬ (0 : Int) = 0))) (fun _ => ?_)
    refine fs_r_iret (a := (-1)) (L1 := [some (.inr (.ref 124)), some (.inl k), some (.inl x)]) (M1 := M) (ob := []) rfl rfl trivial (Or.inl rfl) ?_
    exact fs_qi (by unfold rq_round; rw [if_neg (fun z => by first | exact absurd z.1 (by assumption) | exact absurd z.2 (by assumption) | exact absurd z.2.1 (by assumption) | (have := z.1; have := z.2; omega))]) (hq0 _ mm_q.rf)
  refine fs_r_if (a := 0) (L1 := [some (.inr (.ref 124)), some (.inl k), some (.inl x)]) (st1 := []) (M1 := M) (ob := []) rfl rfl trivial (fun _ => ?_) (fun h => absurd (by decide : (0 : Int) = 0) h)
  refine fs_r_iret (a := (-1)) (L1 := [some (.inr (.ref 124)), some (.inl k), some (.inl x)]) (M1 := M) (ob := []) rfl rfl trivial (Or.inl rfl) ?_
  exact fs_qi (by unfold rq_round; rw [if_neg (fun z => by first | exact absurd z.1 (by assumption) | exact absurd z.2 (by assumption) | exact absurd z.2.1 (by assumption) | (have := z.1; have := z.2; omega))]) (hq0 _ mm_q.rf)

theorem fs_m_worthIn {d : Nat} {M : fs_M} {Q : Option fs_V → fs_M → Prop} {k : Int} {h : Int}  (hI : fs_NI (M 125)) (hq0 : ∀ (M2 : fs_M), (mm_q M M2) → Q (some (.inl (rq_worthIn (M 125) k h))) M2) : fs_W (d + 7) 237 0 [some (.inr (.ref 124)), some (.inl k), some (.inl h)] [] M Q := by
  have hN := hI
  refine fs_r_call (sta := true) (idx := 68) (as := [.inl k, .inl 0, .inl 2000]) (rest := []) (L1 := [some (.inr (.ref 124)), some (.inl k), some (.inl h)]) (st1 := [.inl 2000, .inl 0, .inl k]) (M1 := M) (ob := []) rfl rfl rfl trivial rfl rfl (Nat.le_of_ble_eq_true rfl) ⟨Or.inr (Nat.le_of_ble_eq_true rfl), trivial⟩ (by decide) ?_
  refine fs_m_isIn (fun (f1 : 0 ≤ k ∧ k ≤ 2000) => ?_) (fun (f2 : ¬ (0 ≤ k ∧ k ≤ 2000)) => ?_)
  · refine fs_r_if (a := 1) (L1 := [some (.inr (.ref 124)), some (.inl k), some (.inl h)]) (st1 := []) (M1 := M) (ob := []) rfl rfl trivial (fun h => absurd h (by decide : ¬ ((1 : Int) = 0))) (fun _ => ?_)
    refine fs_r_call (sta := false) (idx := 237) (as := [.inr (.ref 124), .inl h]) (rest := []) (L1 := [some (.inr (.ref 124)), some (.inl k), some (.inl h)]) (st1 := [.inl h, .inr (.ref 124)]) (M1 := M) (ob := []) rfl rfl rfl trivial rfl rfl (Nat.le_of_ble_eq_true rfl) ⟨Or.inr (Nat.le_of_ble_eq_true rfl), Or.inr fs_ob124⟩ (by decide) ?_
    refine fs_m_isHouse (by assumption) (fun (f3 : 0 ≤ h ∧ h < M 125 1) => ?_) (fun (f4 : ¬ (0 ≤ h ∧ h < M 125 1)) => ?_)
    · refine fs_r_if (a := 1) (L1 := [some (.inr (.ref 124)), some (.inl k), some (.inl h)]) (st1 := []) (M1 := M) (ob := []) rfl rfl trivial (fun _ => ?_) (fun h => absurd (by decide : ¬ (1 : Int) = 0) h)
      refine fs_r_call (sta := false) (idx := 274) (as := [.inr (.ref 124), .inl k]) (rest := []) (L1 := [some (.inr (.ref 124)), some (.inl k), some (.inl h)]) (st1 := [.inl k, .inr (.ref 124)]) (M1 := M) (ob := []) rfl rfl rfl trivial rfl rfl (Nat.le_of_ble_eq_true rfl) ⟨Or.inr (Nat.le_of_ble_eq_true rfl), Or.inr fs_ob124⟩ (by decide) ?_
      refine fs_m_goesTo (by assumption) (by omega) (fun (V1 : fs_M) (q9 : mm_q M V1) (I9 : mm_I V1) (g3 : mm_J V1) (e9 : ec_eq (mm_E V1) (ec_pl (M 125))) (s9 : mm_st V1 = ec_it (ec_pl (M 125)) (ec_calm (ec_pl (M 125))) k.toNat) => ?_)
      have n0 := congrFun q9.N 0
      have n1 := congrFun q9.N 1
      have m0 : mm_E V1 0 0 = V1 125 0 := rfl
      have m1 : mm_E V1 0 1 = V1 125 1 := rfl
      have a4 := hI.2.1.2
      refine fs_r_call (sta := false) (idx := 187) (as := [.inr (.ref 124), .inl h]) (rest := []) (L1 := [some (.inr (.ref 124)), some (.inl k), some (.inl h)]) (st1 := [.inl h, .inr (.ref 124)]) (M1 := V1) (ob := []) rfl rfl rfl trivial rfl rfl (Nat.le_of_ble_eq_true rfl) ⟨Or.inr (Nat.le_of_ble_eq_true rfl), Or.inr fs_ob124⟩ (by decide) ?_
      refine fs_m_worthNow (I9) (g3) (by omega) ?_
      refine fs_r_iret (a := (ec_worth (mm_E V1) (mm_st V1) h)) (L1 := [some (.inr (.ref 124)), some (.inl k), some (.inl h)]) (M1 := V1) (ob := []) rfl rfl trivial (Or.inl rfl) ?_
      exact fs_qi (by unfold rq_worthIn; rw [if_pos ⟨by assumption, by first | assumption | (refine ⟨by assumption, by omega⟩)⟩]; rw [e9.worth (by omega) (by omega), s9]) (hq0 _ q9)
    refine fs_r_if (a := 0) (L1 := [some (.inr (.ref 124)), some (.inl k), some (.inl h)]) (st1 := []) (M1 := M) (ob := []) rfl rfl trivial (fun h => absurd h (by decide : ¬ (¬ (0 : Int) = 0))) (fun _ => ?_)
    refine fs_r_iret (a := (-1000000)) (L1 := [some (.inr (.ref 124)), some (.inl k), some (.inl h)]) (M1 := M) (ob := []) rfl rfl trivial (Or.inl rfl) ?_
    exact fs_qi (by unfold rq_worthIn; rw [if_neg (fun z => by first | exact absurd z.1 (by assumption) | exact absurd z.2 (by assumption) | exact absurd z.2.1 (by assumption) | (have := z.1; have := z.2; omega))]) (hq0 _ mm_q.rf)
  refine fs_r_if (a := 0) (L1 := [some (.inr (.ref 124)), some (.inl k), some (.inl h)]) (st1 := []) (M1 := M) (ob := []) rfl rfl trivial (fun _ => ?_) (fun h => absurd (by decide : (0 : Int) = 0) h)
  refine fs_r_iret (a := (-1000000)) (L1 := [some (.inr (.ref 124)), some (.inl k), some (.inl h)]) (M1 := M) (ob := []) rfl rfl trivial (Or.inl rfl) ?_
  exact fs_qi (by unfold rq_worthIn; rw [if_neg (fun z => by first | exact absurd z.1 (by assumption) | exact absurd z.2 (by assumption) | exact absurd z.2.1 (by assumption) | (have := z.1; have := z.2; omega))]) (hq0 _ mm_q.rf)
