noncomputable def rq_holding (N : Int → Int) (h a : Int) : Int := if (0 ≤ h ∧ h < N 1) ∧ (0 ≤ a ∧ a < N 0) then N (40 + 4 * h + a) else -1
noncomputable def rq_owes (N : Int → Int) (h o : Int) : Int := if (0 ≤ h ∧ h < N 1) ∧ (0 ≤ o ∧ o < N 1) then N (64 + 6 * h + o) else -1
noncomputable def rq_ofAsset (N : Int → Int) (a w : Int) : Int := if (0 ≤ a ∧ a < N 0) ∧ (0 ≤ w ∧ w ≤ 4) then (if w = 0 then N (2 + a) else if w = 1 then N (6 + a) else if w = 2 then mm_held N a else if w = 3 then mm_cap N a else mm_shock N a) else -1
noncomputable def rq_shelf (N : Int → Int) (s p w : Int) : Int := if (0 ≤ s ∧ s ≤ 2) ∧ (0 ≤ p ∧ p < N (100 + 13 * s)) ∧ (0 ≤ w ∧ w ≤ 2) then N (100 + 13 * s + 1 + 3 * p + w) else -1
def mm_from (N : Int → Int) (h : Int) : Int := fs_sum (N 1).toNat (fun o => N (64 + 6 * h + o))
def mm_into (N : Int → Int) (h : Int) : Int := fs_sum (N 1).toNat (fun o => N (64 + 6 * o + h))
noncomputable def rq_of (N : Int → Int) (h w : Int) : Int := if (0 ≤ h ∧ h < N 1) ∧ (0 ≤ w ∧ w ≤ 7) then (if w < 5 then N (10 + 5 * h + w) else if w = 5 then mm_pieces N h else if w = 6 then mm_from N h else mm_into N h) else -1
def mm_loans (N : Int → Int) : Int := fs_sum 36 (fun k => if 0 < N (64 + k) then 1 else 0)
noncomputable def rq_count (N : Int → Int) (u t w : Int) : Int := if w = 0 then N 0 else if w = 1 then N 1 else if w = 2 then u else if w = 3 then t else if w = 4 then N 100 else if w = 5 then N 113 else if w = 6 then N 126 else if w = 7 then mm_loans N else if w = 8 then mm_held N 0 + mm_held N 1 + mm_held N 2 + mm_held N 3 else -1
theorem fs_m_holding {d : Nat} {M : fs_M} {Q : Option fs_V → fs_M → Prop} {h : Int} {a : Int}  (hI : fs_NI (M 125)) (hq0 : Q (some (.inl (rq_holding (M 125) h a))) M) : fs_W (d + 2) 226 0 [some (.inr (.ref 124)), some (.inl h), some (.inl a)] [] M Q := by
  have hN := hI
  obtain ⟨⟨hA0, hA1⟩, ⟨hH0, hH1⟩, hcv, hfc, hhd, hln, hsh, hit, hst⟩ := id hN
  refine fs_r_call (sta := false) (idx := 237) (as := [.inr (.ref 124), .inl h]) (rest := []) (L1 := [some (.inr (.ref 124)), some (.inl h), some (.inl a)]) (st1 := [.inl h, .inr (.ref 124)]) (M1 := M) (ob := []) rfl rfl rfl trivial rfl rfl (Nat.le_of_ble_eq_true rfl) ⟨Or.inr (Nat.le_of_ble_eq_true rfl), Or.inr fs_ob124⟩ (by decide) ?_
  refine fs_m_isHouse (by assumption) (fun (f1 : 0 ≤ h ∧ h < M 125 1) => ?_) (fun (f2 : ¬ (0 ≤ h ∧ h < M 125 1)) => ?_)
  · refine fs_r_if (a := 1) (L1 := [some (.inr (.ref 124)), some (.inl h), some (.inl a)]) (st1 := []) (M1 := M) (ob := []) rfl rfl trivial (fun h => absurd h (by decide : ¬ ((1 : Int) = 0))) (fun _ => ?_)
    refine fs_r_call (sta := false) (idx := 224) (as := [.inr (.ref 124), .inl a]) (rest := []) (L1 := [some (.inr (.ref 124)), some (.inl h), some (.inl a)]) (st1 := [.inl a, .inr (.ref 124)]) (M1 := M) (ob := []) rfl rfl rfl trivial rfl rfl (Nat.le_of_ble_eq_true rfl) ⟨Or.inr (Nat.le_of_ble_eq_true rfl), Or.inr fs_ob124⟩ (by decide) ?_
    refine fs_m_isAsset (by assumption) (fun (f3 : 0 ≤ a ∧ a < M 125 0) => ?_) (fun (f4 : ¬ (0 ≤ a ∧ a < M 125 0)) => ?_)
    · refine fs_r_if (a := 1) (L1 := [some (.inr (.ref 124)), some (.inl h), some (.inl a)]) (st1 := []) (M1 := M) (ob := []) rfl rfl trivial (fun h => absurd h (by decide : ¬ ((1 : Int) = 0))) (fun _ => ?_)
      refine fs_r_call (sta := false) (idx := 72) (as := [.inr (.ref 124), .inl h, .inl a]) (rest := []) (L1 := [some (.inr (.ref 124)), some (.inl h), some (.inl a)]) (st1 := [.inl a, .inl h, .inr (.ref 124)]) (M1 := M) (ob := []) rfl rfl rfl trivial rfl rfl (Nat.le_of_ble_eq_true rfl) ⟨Or.inr (Nat.le_of_ble_eq_true rfl), Or.inr fs_ob124⟩ (by decide) ?_
      refine fs_m_holds (by omega) (by omega) ?_
      refine fs_r_goto (L1 := [some (.inr (.ref 124)), some (.inl h), some (.inl a)]) (st1 := [.inl (M 125 (40 + 4 * h + a))]) (M1 := M) (ob := []) rfl rfl trivial ?_
      refine fs_r_iret (a := (M 125 (40 + 4 * h + a))) (L1 := [some (.inr (.ref 124)), some (.inl h), some (.inl a)]) (M1 := M) (ob := []) rfl rfl trivial (Or.inl rfl) ?_
      exact fs_qi (by unfold rq_holding; first | (rw [if_pos (by omega)]) | (rw [if_neg (by omega)])) hq0
    refine fs_r_if (a := 0) (L1 := [some (.inr (.ref 124)), some (.inl h), some (.inl a)]) (st1 := []) (M1 := M) (ob := []) rfl rfl trivial (fun _ => ?_) (fun h => absurd (by decide : (0 : Int) = 0) h)
    refine fs_r_nop (L1 := [some (.inr (.ref 124)), some (.inl h), some (.inl a)]) (st1 := [.inl (-1)]) (M1 := M) (ob := []) rfl rfl trivial ?_
    refine fs_r_iret (a := (-1)) (L1 := [some (.inr (.ref 124)), some (.inl h), some (.inl a)]) (M1 := M) (ob := []) rfl rfl trivial (Or.inl rfl) ?_
    exact fs_qi (by unfold rq_holding; first | (rw [if_pos (by omega)]) | (rw [if_neg (by omega)])) hq0
  refine fs_r_if (a := 0) (L1 := [some (.inr (.ref 124)), some (.inl h), some (.inl a)]) (st1 := []) (M1 := M) (ob := []) rfl rfl trivial (fun _ => ?_) (fun h => absurd (by decide : (0 : Int) = 0) h)
  refine fs_r_nop (L1 := [some (.inr (.ref 124)), some (.inl h), some (.inl a)]) (st1 := [.inl (-1)]) (M1 := M) (ob := []) rfl rfl trivial ?_
  refine fs_r_iret (a := (-1)) (L1 := [some (.inr (.ref 124)), some (.inl h), some (.inl a)]) (M1 := M) (ob := []) rfl rfl trivial (Or.inl rfl) ?_
  exact fs_qi (by unfold rq_holding; first | (rw [if_pos (by omega)]) | (rw [if_neg (by omega)])) hq0

theorem fs_m_owes {d : Nat} {M : fs_M} {Q : Option fs_V → fs_M → Prop} {h : Int} {o : Int}  (hI : fs_NI (M 125)) (hq0 : Q (some (.inl (rq_owes (M 125) h o))) M) : fs_W (d + 2) 227 0 [some (.inr (.ref 124)), some (.inl h), some (.inl o)] [] M Q := by
  have hN := hI
  obtain ⟨⟨hA0, hA1⟩, ⟨hH0, hH1⟩, hcv, hfc, hhd, hln, hsh, hit, hst⟩ := id hN
  refine fs_r_call (sta := false) (idx := 237) (as := [.inr (.ref 124), .inl h]) (rest := []) (L1 := [some (.inr (.ref 124)), some (.inl h), some (.inl o)]) (st1 := [.inl h, .inr (.ref 124)]) (M1 := M) (ob := []) rfl rfl rfl trivial rfl rfl (Nat.le_of_ble_eq_true rfl) ⟨Or.inr (Nat.le_of_ble_eq_true rfl), Or.inr fs_ob124⟩ (by decide) ?_
  refine fs_m_isHouse (by assumption) (fun (f1 : 0 ≤ h ∧ h < M 125 1) => ?_) (fun (f2 : ¬ (0 ≤ h ∧ h < M 125 1)) => ?_)
  · refine fs_r_if (a := 1) (L1 := [some (.inr (.ref 124)), some (.inl h), some (.inl o)]) (st1 := []) (M1 := M) (ob := []) rfl rfl trivial (fun h => absurd h (by decide : ¬ ((1 : Int) = 0))) (fun _ => ?_)
    refine fs_r_call (sta := false) (idx := 237) (as := [.inr (.ref 124), .inl o]) (rest := []) (L1 := [some (.inr (.ref 124)), some (.inl h), some (.inl o)]) (st1 := [.inl o, .inr (.ref 124)]) (M1 := M) (ob := []) rfl rfl rfl trivial rfl rfl (Nat.le_of_ble_eq_true rfl) ⟨Or.inr (Nat.le_of_ble_eq_true rfl), Or.inr fs_ob124⟩ (by decide) ?_
    refine fs_m_isHouse (by assumption) (fun (f3 : 0 ≤ o ∧ o < M 125 1) => ?_) (fun (f4 : ¬ (0 ≤ o ∧ o < M 125 1)) => ?_)
    · refine fs_r_if (a := 1) (L1 := [some (.inr (.ref 124)), some (.inl h), some (.inl o)]) (st1 := []) (M1 := M) (ob := []) rfl rfl trivial (fun h => absurd h (by decide : ¬ ((1 : Int) = 0))) (fun _ => ?_)
      refine fs_r_call (sta := false) (idx := 181) (as := [.inr (.ref 124), .inl h, .inl o]) (rest := []) (L1 := [some (.inr (.ref 124)), some (.inl h), some (.inl o)]) (st1 := [.inl o, .inl h, .inr (.ref 124)]) (M1 := M) (ob := []) rfl rfl rfl trivial rfl rfl (Nat.le_of_ble_eq_true rfl) ⟨Or.inr (Nat.le_of_ble_eq_true rfl), Or.inr fs_ob124⟩ (by decide) ?_
      refine fs_m_loanOf (by omega) (by omega) ?_
      refine fs_r_goto (L1 := [some (.inr (.ref 124)), some (.inl h), some (.inl o)]) (st1 := [.inl (M 125 (64 + 6 * h + o))]) (M1 := M) (ob := []) rfl rfl trivial ?_
      refine fs_r_iret (a := (M 125 (64 + 6 * h + o))) (L1 := [some (.inr (.ref 124)), some (.inl h), some (.inl o)]) (M1 := M) (ob := []) rfl rfl trivial (Or.inl rfl) ?_
      exact fs_qi (by unfold rq_owes; first | (rw [if_pos (by omega)]) | (rw [if_neg (by omega)])) hq0
    refine fs_r_if (a := 0) (L1 := [some (.inr (.ref 124)), some (.inl h), some (.inl o)]) (st1 := []) (M1 := M) (ob := []) rfl rfl trivial (fun _ => ?_) (fun h => absurd (by decide : (0 : Int) = 0) h)
    refine fs_r_nop (L1 := [some (.inr (.ref 124)), some (.inl h), some (.inl o)]) (st1 := [.inl (-1)]) (M1 := M) (ob := []) rfl rfl trivial ?_
    refine fs_r_iret (a := (-1)) (L1 := [some (.inr (.ref 124)), some (.inl h), some (.inl o)]) (M1 := M) (ob := []) rfl rfl trivial (Or.inl rfl) ?_
    exact fs_qi (by unfold rq_owes; first | (rw [if_pos (by omega)]) | (rw [if_neg (by omega)])) hq0
  refine fs_r_if (a := 0) (L1 := [some (.inr (.ref 124)), some (.inl h), some (.inl o)]) (st1 := []) (M1 := M) (ob := []) rfl rfl trivial (fun _ => ?_) (fun h => absurd (by decide : (0 : Int) = 0) h)
  refine fs_r_nop (L1 := [some (.inr (.ref 124)), some (.inl h), some (.inl o)]) (st1 := [.inl (-1)]) (M1 := M) (ob := []) rfl rfl trivial ?_
  refine fs_r_iret (a := (-1)) (L1 := [some (.inr (.ref 124)), some (.inl h), some (.inl o)]) (M1 := M) (ob := []) rfl rfl trivial (Or.inl rfl) ?_
  exact fs_qi (by unfold rq_owes; first | (rw [if_pos (by omega)]) | (rw [if_neg (by omega)])) hq0

theorem fs_m_ofAsset {d : Nat} {M : fs_M} {Q : Option fs_V → fs_M → Prop} {a : Int} {w : Int}  (hI : fs_NI (M 125)) (hq0 : Q (some (.inl (rq_ofAsset (M 125) a w))) M) : fs_W (d + 2) 228 0 [some (.inr (.ref 124)), some (.inl a), some (.inl w)] [] M Q := by
  have hN := hI
  obtain ⟨⟨hA0, hA1⟩, ⟨hH0, hH1⟩, hcv, hfc, hhd, hln, hsh, hit, hst⟩ := id hN
  refine fs_r_call (sta := false) (idx := 224) (as := [.inr (.ref 124), .inl a]) (rest := []) (L1 := [some (.inr (.ref 124)), some (.inl a), some (.inl w)]) (st1 := [.inl a, .inr (.ref 124)]) (M1 := M) (ob := []) rfl rfl rfl trivial rfl rfl (Nat.le_of_ble_eq_true rfl) ⟨Or.inr (Nat.le_of_ble_eq_true rfl), Or.inr fs_ob124⟩ (by decide) ?_
  refine fs_m_isAsset (by assumption) (fun (f1 : 0 ≤ a ∧ a < M 125 0) => ?_) (fun (f2 : ¬ (0 ≤ a ∧ a < M 125 0)) => ?_)
  · refine fs_r_if (a := 1) (L1 := [some (.inr (.ref 124)), some (.inl a), some (.inl w)]) (st1 := []) (M1 := M) (ob := []) rfl rfl trivial (fun _ => ?_) (fun h => absurd (by decide : ¬ (1 : Int) = 0) h)
    refine fs_r_sw (a := w) (L1 := [some (.inr (.ref 124)), some (.inl a), some (.inl w)]) (st1 := []) (M1 := M) (ob := []) rfl rfl trivial ?_
    by_cases h3 : w = 0
    · have eh3 : ((11 : Nat) + fs_sw 70 0 4 #[33, 42, 52, 58, 64] w : Int).toNat = 44 := by rw [h3]; decide
      rw [eh3]
      refine fs_r_iret (a := (M 125 (2 + a))) (L1 := [some (.inr (.ref 124)), some (.inl a), some (.inl w)]) (M1 := M) (ob := [124 < fs_N ∧ fs_kd 124 = 6, fs_rg (2 + a), (125 < fs_N ∧ fs_kd 125 = 100) ∧ (0 : Int) ≤ (2 + a) ∧ (2 + a) < fs_ln 125]) rfl rfl (fs_oc fs_ob124 (fs_oc ⟨by omega, by omega⟩ (fs_oc (fs_ar125 (by omega) (by omega)) trivial))) (Or.inl rfl) ?_
      exact fs_qi (by unfold rq_ofAsset; first | (rw [if_neg (by omega)]; done) | (rw [if_pos (by omega)]; first | (rw [if_pos (by omega)]; done) | (rw [if_neg (by omega), if_pos (by omega)]; done) | (rw [if_neg (by omega), if_neg (by omega), if_pos (by omega)]; done) | (rw [if_neg (by omega), if_neg (by omega), if_neg (by omega), if_pos (by omega)]; done) | (rw [if_neg (by omega), if_neg (by omega), if_neg (by omega), if_neg (by omega)]))) hq0
    by_cases h4 : w = 1
    · have eh4 : ((11 : Nat) + fs_sw 70 0 4 #[33, 42, 52, 58, 64] w : Int).toNat = 53 := by rw [h4]; decide
      rw [eh4]
      refine fs_r_iret (a := (M 125 (6 + a))) (L1 := [some (.inr (.ref 124)), some (.inl a), some (.inl w)]) (M1 := M) (ob := [124 < fs_N ∧ fs_kd 124 = 6, fs_rg (6 + a), (125 < fs_N ∧ fs_kd 125 = 100) ∧ (0 : Int) ≤ (6 + a) ∧ (6 + a) < fs_ln 125]) rfl rfl (fs_oc fs_ob124 (fs_oc ⟨by omega, by omega⟩ (fs_oc (fs_ar125 (by omega) (by omega)) trivial))) (Or.inl rfl) ?_
      exact fs_qi (by unfold rq_ofAsset; first | (rw [if_neg (by omega)]; done) | (rw [if_pos (by omega)]; first | (rw [if_pos (by omega)]; done) | (rw [if_neg (by omega), if_pos (by omega)]; done) | (rw [if_neg (by omega), if_neg (by omega), if_pos (by omega)]; done) | (rw [if_neg (by omega), if_neg (by omega), if_neg (by omega), if_pos (by omega)]; done) | (rw [if_neg (by omega), if_neg (by omega), if_neg (by omega), if_neg (by omega)]))) hq0
    by_cases h5 : w = 2
    · have eh5 : ((11 : Nat) + fs_sw 70 0 4 #[33, 42, 52, 58, 64] w : Int).toNat = 63 := by rw [h5]; decide
      rw [eh5]
      refine fs_r_call (sta := false) (idx := 205) (as := [.inr (.ref 124), .inl a]) (rest := []) (L1 := [some (.inr (.ref 124)), some (.inl a), some (.inl w)]) (st1 := [.inl a, .inr (.ref 124)]) (M1 := M) (ob := []) rfl rfl rfl trivial rfl rfl (Nat.le_of_ble_eq_true rfl) ⟨Or.inr (Nat.le_of_ble_eq_true rfl), Or.inr fs_ob124⟩ (by decide) ?_
      refine fs_m_heldOf (by assumption) (by omega) ?_
      refine fs_r_iret (a := (mm_held (M 125) a)) (L1 := [some (.inr (.ref 124)), some (.inl a), some (.inl w)]) (M1 := M) (ob := []) rfl rfl trivial (Or.inl rfl) ?_
      exact fs_qi (by unfold rq_ofAsset; first | (rw [if_neg (by omega)]; done) | (rw [if_pos (by omega)]; first | (rw [if_pos (by omega)]; done) | (rw [if_neg (by omega), if_pos (by omega)]; done) | (rw [if_neg (by omega), if_neg (by omega), if_pos (by omega)]; done) | (rw [if_neg (by omega), if_neg (by omega), if_neg (by omega), if_pos (by omega)]; done) | (rw [if_neg (by omega), if_neg (by omega), if_neg (by omega), if_neg (by omega)]))) hq0
    by_cases h6 : w = 3
    · have eh6 : ((11 : Nat) + fs_sw 70 0 4 #[33, 42, 52, 58, 64] w : Int).toNat = 69 := by rw [h6]; decide
      rw [eh6]
      refine fs_r_call (sta := false) (idx := 168) (as := [.inr (.ref 124), .inl a]) (rest := []) (L1 := [some (.inr (.ref 124)), some (.inl a), some (.inl w)]) (st1 := [.inl a, .inr (.ref 124)]) (M1 := M) (ob := []) rfl rfl rfl trivial rfl rfl (Nat.le_of_ble_eq_true rfl) ⟨Or.inr (Nat.le_of_ble_eq_true rfl), Or.inr fs_ob124⟩ (by decide) ?_
      refine fs_m_capNow (by assumption) ?_
      refine fs_r_iret (a := (mm_cap (M 125) a)) (L1 := [some (.inr (.ref 124)), some (.inl a), some (.inl w)]) (M1 := M) (ob := []) rfl rfl trivial (Or.inl rfl) ?_
      exact fs_qi (by unfold rq_ofAsset; first | (rw [if_neg (by omega)]; done) | (rw [if_pos (by omega)]; first | (rw [if_pos (by omega)]; done) | (rw [if_neg (by omega), if_pos (by omega)]; done) | (rw [if_neg (by omega), if_neg (by omega), if_pos (by omega)]; done) | (rw [if_neg (by omega), if_neg (by omega), if_neg (by omega), if_pos (by omega)]; done) | (rw [if_neg (by omega), if_neg (by omega), if_neg (by omega), if_neg (by omega)]))) hq0
    by_cases h7 : w = 4
    · have eh7 : ((11 : Nat) + fs_sw 70 0 4 #[33, 42, 52, 58, 64] w : Int).toNat = 75 := by rw [h7]; decide
      rw [eh7]
      refine fs_r_call (sta := false) (idx := 172) (as := [.inr (.ref 124), .inl a]) (rest := []) (L1 := [some (.inr (.ref 124)), some (.inl a), some (.inl w)]) (st1 := [.inl a, .inr (.ref 124)]) (M1 := M) (ob := []) rfl rfl rfl trivial rfl rfl (Nat.le_of_ble_eq_true rfl) ⟨Or.inr (Nat.le_of_ble_eq_true rfl), Or.inr fs_ob124⟩ (by decide) ?_
      refine fs_m_shockNow (by assumption) ?_
      refine fs_r_iret (a := (mm_shock (M 125) a)) (L1 := [some (.inr (.ref 124)), some (.inl a), some (.inl w)]) (M1 := M) (ob := []) rfl rfl trivial (Or.inl rfl) ?_
      exact fs_qi (by unfold rq_ofAsset; first | (rw [if_neg (by omega)]; done) | (rw [if_pos (by omega)]; first | (rw [if_pos (by omega)]; done) | (rw [if_neg (by omega), if_pos (by omega)]; done) | (rw [if_neg (by omega), if_neg (by omega), if_pos (by omega)]; done) | (rw [if_neg (by omega), if_neg (by omega), if_neg (by omega), if_pos (by omega)]; done) | (rw [if_neg (by omega), if_neg (by omega), if_neg (by omega), if_neg (by omega)]))) hq0
    have h8 : ((11 : Nat) + fs_sw 70 0 4 #[33, 42, 52, 58, 64] w : Int).toNat = 81 := by unfold fs_sw; rw [if_pos (by omega)]; rfl
    rw [h8]
    refine fs_r_iret (a := (-1)) (L1 := [some (.inr (.ref 124)), some (.inl a), some (.inl w)]) (M1 := M) (ob := []) rfl rfl trivial (Or.inl rfl) ?_
    exact fs_qi (by unfold rq_ofAsset; first | (rw [if_neg (by omega)]; done) | (rw [if_pos (by omega)]; first | (rw [if_pos (by omega)]; done) | (rw [if_neg (by omega), if_pos (by omega)]; done) | (rw [if_neg (by omega), if_neg (by omega), if_pos (by omega)]; done) | (rw [if_neg (by omega), if_neg (by omega), if_neg (by omega), if_pos (by omega)]; done) | (rw [if_neg (by omega), if_neg (by omega), if_neg (by omega), if_neg (by omega)]))) hq0
  refine fs_r_if (a := 0) (L1 := [some (.inr (.ref 124)), some (.inl a), some (.inl w)]) (st1 := []) (M1 := M) (ob := []) rfl rfl trivial (fun h => absurd h (by decide : ¬ (¬ (0 : Int) = 0))) (fun _ => ?_)
  refine fs_r_iret (a := (-1)) (L1 := [some (.inr (.ref 124)), some (.inl a), some (.inl w)]) (M1 := M) (ob := []) rfl rfl trivial (Or.inl rfl) ?_
  exact fs_qi (by unfold rq_ofAsset; first | (rw [if_neg (by omega)]; done) | (rw [if_pos (by omega)]; first | (rw [if_pos (by omega)]; done) | (rw [if_neg (by omega), if_pos (by omega)]; done) | (rw [if_neg (by omega), if_neg (by omega), if_pos (by omega)]; done) | (rw [if_neg (by omega), if_neg (by omega), if_neg (by omega), if_pos (by omega)]; done) | (rw [if_neg (by omega), if_neg (by omega), if_neg (by omega), if_neg (by omega)]))) hq0

theorem fs_m_shelf {d : Nat} {M : fs_M} {Q : Option fs_V → fs_M → Prop} {s : Int} {p : Int} {w : Int}  (hI : fs_NI (M 125)) (hq0 : Q (some (.inl (rq_shelf (M 125) s p w))) M) : fs_W (d + 1) 229 0 [some (.inr (.ref 124)), some (.inl s), some (.inl p), some (.inl w)] [] M Q := by
  have hN := hI
  obtain ⟨⟨hA0, hA1⟩, ⟨hH0, hH1⟩, hcv, hfc, hhd, hln, hsh, hit, hst⟩ := id hN
  refine fs_r_call (sta := true) (idx := 68) (as := [.inl s, .inl 0, .inl 2]) (rest := []) (L1 := [some (.inr (.ref 124)), some (.inl s), some (.inl p), some (.inl w)]) (st1 := [.inl 2, .inl 0, .inl s]) (M1 := M) (ob := []) rfl rfl rfl trivial rfl rfl (Nat.le_of_ble_eq_true rfl) ⟨Or.inr (Nat.le_of_ble_eq_true rfl), trivial⟩ (by decide) ?_
  refine fs_m_isIn (fun (f1 : 0 ≤ s ∧ s ≤ 2) => ?_) (fun (f2 : ¬ (0 ≤ s ∧ s ≤ 2)) => ?_)
  · refine fs_r_if (a := 1) (L1 := [some (.inr (.ref 124)), some (.inl s), some (.inl p), some (.inl w)]) (st1 := []) (M1 := M) (ob := []) rfl rfl trivial (fun h => absurd h (by decide : ¬ ((1 : Int) = 0))) (fun _ => ?_)
    have q := hsh s (by omega) (by omega)
    refine fs_r_call (sta := true) (idx := 68) (as := [.inl p, .inl 0, .inl ((M 125 (100 + (13 * s))) - 1)]) (rest := []) (L1 := [some (.inr (.ref 124)), some (.inl s), some (.inl p), some (.inl w)]) (st1 := [.inl ((M 125 (100 + (13 * s))) - 1), .inl 0, .inl p]) (M1 := M) (ob := [124 < fs_N ∧ fs_kd 124 = 6, fs_rg (13 * s), fs_rg (100 + (13 * s)), (125 < fs_N ∧ fs_kd 125 = 100) ∧ (0 : Int) ≤ (100 + (13 * s)) ∧ (100 + (13 * s)) < fs_ln 125, fs_rg ((M 125 (100 + (13 * s))) - 1)]) rfl rfl (fs_exA 6 (o1 := [124 < fs_N ∧ fs_kd 124 = 6]) (L1 := [some (.inr (.ref 124)), some (.inl s), some (.inl p), some (.inl w)]) (st1 := [.inl 13, .inl 100, .inr (.ref 125), .inl 0, .inl p]) (M1 := M) (o2 := [fs_rg (13 * s), fs_rg (100 + (13 * s)), (125 < fs_N ∧ fs_kd 125 = 100) ∧ (0 : Int) ≤ (100 + (13 * s)) ∧ (100 + (13 * s)) < fs_ln 125, fs_rg ((M 125 (100 + (13 * s))) - 1)]) rfl rfl) (fs_oc fs_ob124 (fs_oc ⟨by omega, by omega⟩ (fs_oc ⟨by omega, by omega⟩ (fs_oc (fs_ar125 (by omega) (by omega)) (fs_oc ⟨by omega, by omega⟩ trivial))))) rfl rfl (Nat.le_of_ble_eq_true rfl) ⟨Or.inr (Nat.le_of_ble_eq_true rfl), trivial⟩ (by decide) ?_
    refine fs_m_isIn (fun (f3 : 0 ≤ p ∧ p ≤ ((M 125 (100 + (13 * s))) - 1)) => ?_) (fun (f4 : ¬ (0 ≤ p ∧ p ≤ ((M 125 (100 + (13 * s))) - 1))) => ?_)
    · refine fs_r_if (a := 1) (L1 := [some (.inr (.ref 124)), some (.inl s), some (.inl p), some (.inl w)]) (st1 := []) (M1 := M) (ob := []) rfl rfl trivial (fun h => absurd h (by decide : ¬ ((1 : Int) = 0))) (fun _ => ?_)
      refine fs_r_call (sta := true) (idx := 68) (as := [.inl w, .inl 0, .inl 2]) (rest := []) (L1 := [some (.inr (.ref 124)), some (.inl s), some (.inl p), some (.inl w)]) (st1 := [.inl 2, .inl 0, .inl w]) (M1 := M) (ob := []) rfl rfl rfl trivial rfl rfl (Nat.le_of_ble_eq_true rfl) ⟨Or.inr (Nat.le_of_ble_eq_true rfl), trivial⟩ (by decide) ?_
      refine fs_m_isIn (fun (f5 : 0 ≤ w ∧ w ≤ 2) => ?_) (fun (f6 : ¬ (0 ≤ w ∧ w ≤ 2)) => ?_)
      · refine fs_r_if (a := 1) (L1 := [some (.inr (.ref 124)), some (.inl s), some (.inl p), some (.inl w)]) (st1 := []) (M1 := M) (ob := []) rfl rfl trivial (fun _ => ?_) (fun h => absurd (by decide : ¬ (1 : Int) = 0) h)
        refine fs_r_call (sta := false) (idx := 155) (as := [.inr (.ref 124), .inl s, .inl p, .inl w]) (rest := []) (L1 := [some (.inr (.ref 124)), some (.inl s), some (.inl p), some (.inl w)]) (st1 := [.inl w, .inl p, .inl s, .inr (.ref 124)]) (M1 := M) (ob := []) rfl rfl rfl trivial rfl rfl (Nat.le_of_ble_eq_true rfl) ⟨Or.inr (Nat.le_of_ble_eq_true rfl), Or.inr fs_ob124⟩ (by decide) ?_
        refine fs_m_laidOf (by omega) (by omega) (by omega) ?_
        refine fs_r_iret (a := (M 125 (100 + 13 * s + 1 + 3 * p + w))) (L1 := [some (.inr (.ref 124)), some (.inl s), some (.inl p), some (.inl w)]) (M1 := M) (ob := []) rfl rfl trivial (Or.inl rfl) ?_
        exact fs_qi (by unfold rq_shelf; first | (rw [if_pos (by omega)]) | (rw [if_neg (by omega)])) hq0
      refine fs_r_if (a := 0) (L1 := [some (.inr (.ref 124)), some (.inl s), some (.inl p), some (.inl w)]) (st1 := []) (M1 := M) (ob := []) rfl rfl trivial (fun h => absurd h (by decide : ¬ (¬ (0 : Int) = 0))) (fun _ => ?_)
      refine fs_r_iret (a := (-1)) (L1 := [some (.inr (.ref 124)), some (.inl s), some (.inl p), some (.inl w)]) (M1 := M) (ob := []) rfl rfl trivial (Or.inl rfl) ?_
      exact fs_qi (by unfold rq_shelf; first | (rw [if_pos (by omega)]) | (rw [if_neg (by omega)])) hq0
    refine fs_r_if (a := 0) (L1 := [some (.inr (.ref 124)), some (.inl s), some (.inl p), some (.inl w)]) (st1 := []) (M1 := M) (ob := []) rfl rfl trivial (fun _ => ?_) (fun h => absurd (by decide : (0 : Int) = 0) h)
    refine fs_r_iret (a := (-1)) (L1 := [some (.inr (.ref 124)), some (.inl s), some (.inl p), some (.inl w)]) (M1 := M) (ob := []) rfl rfl trivial (Or.inl rfl) ?_
    exact fs_qi (by unfold rq_shelf; first | (rw [if_pos (by omega)]) | (rw [if_neg (by omega)])) hq0
  refine fs_r_if (a := 0) (L1 := [some (.inr (.ref 124)), some (.inl s), some (.inl p), some (.inl w)]) (st1 := []) (M1 := M) (ob := []) rfl rfl trivial (fun _ => ?_) (fun h => absurd (by decide : (0 : Int) = 0) h)
  refine fs_r_iret (a := (-1)) (L1 := [some (.inr (.ref 124)), some (.inl s), some (.inl p), some (.inl w)]) (M1 := M) (ob := []) rfl rfl trivial (Or.inl rfl) ?_
  exact fs_qi (by unfold rq_shelf; first | (rw [if_pos (by omega)]) | (rw [if_neg (by omega)])) hq0

theorem fs_m_loans {d : Nat} {M : fs_M} {Q : Option fs_V → fs_M → Prop}    (hq0 : Q (some (.inl (mm_loans (M 125)))) M) : fs_W (d) 282 0 [some (.inr (.ref 124)), none, none] [] M Q := by
  refine fs_r_nop (L1 := [some (.inr (.ref 124)), some (.inl 0), some (.inl 0)]) (st1 := []) (M1 := M) (ob := [1 < 3, 2 < 3]) rfl rfl (fs_oc (by decide) (fs_oc (by decide) trivial)) ?_
  have loop4 : ∀ (n4 : Nat) (n : Int) (k : Int), (0 ≤ k ∧ k ≤ 36) → (n = fs_sum k.toNat (fun q => if 0 < M 125 (64 + q) then 1 else 0)) → (0 ≤ n ∧ n ≤ k) → 36 - k < (n4 : Int) → fs_W (d) 282 4 [some (.inr (.ref 124)), some (.inl n), some (.inl k)] [] M Q := by
    intro n4
    induction n4 with
    | zero =>
      intro n k i0 i1 i2 hm4
      exfalso
      omega
    | succ n4 ih4 =>
      intro n k i0 i1 i2 hm4
      refine fs_r_icmp (a := k) (y := 36) (L1 := [some (.inr (.ref 124)), some (.inl n), some (.inl k)]) (st1 := []) (M1 := M) (ob := []) rfl rfl trivial (fun (h1 : 36 ≤ k) => ?_) (fun (h1 : ¬ (36 ≤ k)) => ?_)
      · refine fs_r_iret (a := n) (L1 := [some (.inr (.ref 124)), some (.inl n), some (.inl k)]) (M1 := M) (ob := []) rfl rfl trivial (Or.inl rfl) ?_
        exact fs_qi (by rw [i1, show k = 36 by omega]; rfl) hq0
      refine fs_r_if (a := (M 125 (64 + k))) (L1 := [some (.inr (.ref 124)), some (.inl n), some (.inl k)]) (st1 := [.inl n]) (M1 := M) (ob := [124 < fs_N ∧ fs_kd 124 = 6, fs_rg (64 + k), (125 < fs_N ∧ fs_kd 125 = 100) ∧ (0 : Int) ≤ (64 + k) ∧ (64 + k) < fs_ln 125]) rfl rfl (fs_oc fs_ob124 (fs_oc ⟨by omega, by omega⟩ (fs_oc (fs_ar125 (by omega) (by omega)) trivial))) (fun (h2 : (M 125 (64 + k)) ≤ 0) => ?_) (fun (h2 : ¬ ((M 125 (64 + k)) ≤ 0)) => ?_)
      · refine fs_r_nop (L1 := [some (.inr (.ref 124)), some (.inl n), some (.inl k)]) (st1 := [.inl 0, .inl n]) (M1 := M) (ob := []) rfl rfl trivial ?_
        refine fs_r_goto (L1 := [some (.inr (.ref 124)), some (.inl (n + 0)), some (.inl (k + 1))]) (st1 := []) (M1 := M) (ob := [fs_rg (n + 0), 1 < 3, fs_rg (k + 1)]) rfl rfl (fs_oc ⟨by omega, by omega⟩ (fs_oc (by decide) (fs_oc ⟨by omega, by omega⟩ trivial))) ?_
        exact ih4 ((n + 0)) ((k + 1)) (by omega) (by rw [fs_sum_s i0.1, i1]; first | (rw [if_pos (by omega)]) | (rw [if_neg (by omega)])) (by omega) (by omega)
      refine fs_r_goto (L1 := [some (.inr (.ref 124)), some (.inl n), some (.inl k)]) (st1 := [.inl 1, .inl n]) (M1 := M) (ob := []) rfl rfl trivial ?_
      refine fs_r_goto (L1 := [some (.inr (.ref 124)), some (.inl (n + 1)), some (.inl (k + 1))]) (st1 := []) (M1 := M) (ob := [fs_rg (n + 1), 1 < 3, fs_rg (k + 1)]) rfl rfl (fs_oc ⟨by omega, by omega⟩ (fs_oc (by decide) (fs_oc ⟨by omega, by omega⟩ trivial))) ?_
      exact ih4 ((n + 1)) ((k + 1)) (by omega) (by rw [fs_sum_s i0.1, i1]; first | (rw [if_pos (by omega)]) | (rw [if_neg (by omega)])) (by omega) (by omega)
  exact loop4 (((36 - (0)) : Int) + 1).toNat (0) (0) (by omega) (rfl) (by omega) (by omega)
