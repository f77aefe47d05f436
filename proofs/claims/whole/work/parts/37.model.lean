theorem fs_m_of {d : Nat} {M : fs_M} {Q : Option fs_V → fs_M → Prop} {h : Int} {w : Int}  (hI : fs_NI (M 125)) (hq0 : Q (some (.inl (rq_of (M 125) h w))) M) : fs_W (d + 2) 225 0 [some (.inr (.ref 124)), some (.inl h), some (.inl w), none, none] [] M Q := by
  have hN := hI
  obtain ⟨⟨hA0, hA1⟩, ⟨hH0, hH1⟩, hcv, hfc, hhd, hln, hsh, hit, hst⟩ := id hN
  refine fs_r_call (sta := false) (idx := 237) (as := [.inr (.ref 124), .inl h]) (rest := []) (L1 := [some (.inr (.ref 124)), some (.inl h), some (.inl w), none, none]) (st1 := [.inl h, .inr (.ref 124)]) (M1 := M) (ob := []) rfl rfl rfl trivial rfl rfl (Nat.le_of_ble_eq_true rfl) ⟨Or.inr (Nat.le_of_ble_eq_true rfl), Or.inr fs_ob124⟩ (by decide) ?_
  refine fs_m_isHouse (by assumption) (fun (f1 : 0 ≤ h ∧ h < M 125 1) => ?_) (fun (f2 : ¬ (0 ≤ h ∧ h < M 125 1)) => ?_)
  · refine fs_r_if (a := 1) (L1 := [some (.inr (.ref 124)), some (.inl h), some (.inl w), none, none]) (st1 := []) (M1 := M) (ob := []) rfl rfl trivial (fun h => absurd h (by decide : ¬ ((1 : Int) = 0))) (fun _ => ?_)
    refine fs_r_call (sta := true) (idx := 68) (as := [.inl w, .inl 0, .inl 7]) (rest := []) (L1 := [some (.inr (.ref 124)), some (.inl h), some (.inl w), none, none]) (st1 := [.inl 7, .inl 0, .inl w]) (M1 := M) (ob := []) rfl rfl rfl trivial rfl rfl (Nat.le_of_ble_eq_true rfl) ⟨Or.inr (Nat.le_of_ble_eq_true rfl), trivial⟩ (by decide) ?_
    refine fs_m_isIn (fun (f3 : 0 ≤ w ∧ w ≤ 7) => ?_) (fun (f4 : ¬ (0 ≤ w ∧ w ≤ 7)) => ?_)
    · refine fs_r_if (a := 1) (L1 := [some (.inr (.ref 124)), some (.inl h), some (.inl w), none, none]) (st1 := []) (M1 := M) (ob := []) rfl rfl trivial (fun _ => ?_) (fun h => absurd (by decide : ¬ (1 : Int) = 0) h)
      refine fs_r_icmp (a := w) (y := 5) (L1 := [some (.inr (.ref 124)), some (.inl h), some (.inl w), none, none]) (st1 := []) (M1 := M) (ob := []) rfl rfl trivial (fun (h5 : 5 ≤ w) => ?_) (fun (h5 : ¬ (5 ≤ w)) => ?_)
      · refine fs_r_icmp (a := w) (y := 5) (L1 := [some (.inr (.ref 124)), some (.inl h), some (.inl w), none, none]) (st1 := []) (M1 := M) (ob := []) rfl rfl trivial (fun (h6 : ¬ w = 5) => ?_) (fun (h6 : ¬ (¬ w = 5)) => ?_)
        · refine fs_r_nop (L1 := [some (.inr (.ref 124)), some (.inl h), some (.inl w), some (.inl 0), some (.inl 0)]) (st1 := []) (M1 := M) (ob := [3 < 5, 4 < 5]) rfl rfl (fs_oc (by decide) (fs_oc (by decide) trivial)) ?_
          have loop48 : ∀ (n48 : Nat) (n : Int) (o : Int), (0 ≤ o ∧ o ≤ M 125 1) → (n = fs_sum o.toNat (fun q => if w = 6 then M 125 (64 + 6 * h + q) else M 125 (64 + 6 * q + h))) → (0 ≤ n ∧ n ≤ 999 * o) → M 125 1 - o < (n48 : Int) → fs_W (d + 2) 225 48 [some (.inr (.ref 124)), some (.inl h), some (.inl w), some (.inl n), some (.inl o)] [] M Q := by
            intro n48
            induction n48 with
            | zero =>
              intro n o i0 i1 i2 hm48
              exfalso
              omega
            | succ n48 ih48 =>
              intro n o i0 i1 i2 hm48
              refine fs_r_icmp (a := o) (y := (M 125 1)) (L1 := [some (.inr (.ref 124)), some (.inl h), some (.inl w), some (.inl n), some (.inl o)]) (st1 := []) (M1 := M) (ob := [124 < fs_N ∧ fs_kd 124 = 6, (125 < fs_N ∧ fs_kd 125 = 100) ∧ (0 : Int) ≤ 1 ∧ 1 < fs_ln 125]) rfl rfl (fs_oc fs_ob124 (fs_oc (fs_ar125 (by omega) (by omega)) trivial)) (fun (h7 : (M 125 1) ≤ o) => ?_) (fun (h7 : ¬ ((M 125 1) ≤ o)) => ?_)
              · refine fs_r_iret (a := n) (L1 := [some (.inr (.ref 124)), some (.inl h), some (.inl w), some (.inl n), some (.inl o)]) (M1 := M) (ob := []) rfl rfl trivial (Or.inl rfl) ?_
                rcases (show w = 6 ∨ w = 7 by omega) with z | z
                · exact fs_qi (by unfold rq_of; rw [if_pos (by omega), if_neg (by omega), if_neg (by omega), if_pos z, i1, show o = M 125 1 by omega]; unfold mm_from; exact fs_sum_c (fun q _ _ => if_pos z)) hq0
                · exact fs_qi (by unfold rq_of; rw [if_pos (by omega), if_neg (by omega), if_neg (by omega), if_neg (by omega), i1, show o = M 125 1 by omega]; unfold mm_into; exact fs_sum_c (fun q _ _ => if_neg (by omega))) hq0
              have b0 := hln h o (by omega) (by omega) (by omega) (by omega)
              have b1 := hln o h (by omega) (by omega) (by omega) (by omega)
              refine fs_r_icmp (a := w) (y := 6) (L1 := [some (.inr (.ref 124)), some (.inl h), some (.inl w), some (.inl n), some (.inl o)]) (st1 := [.inl n]) (M1 := M) (ob := []) rfl rfl trivial (fun (h8 : ¬ w = 6) => ?_) (fun (h8 : ¬ (¬ w = 6)) => ?_)
              · refine fs_r_call (sta := false) (idx := 181) (as := [.inr (.ref 124), .inl o, .inl h]) (rest := [.inl n]) (L1 := [some (.inr (.ref 124)), some (.inl h), some (.inl w), some (.inl n), some (.inl o)]) (st1 := [.inl h, .inl o, .inr (.ref 124), .inl n]) (M1 := M) (ob := []) rfl rfl rfl trivial rfl rfl (Nat.le_of_ble_eq_true rfl) ⟨Or.inr (Nat.le_of_ble_eq_true rfl), Or.inr fs_ob124⟩ (by decide) ?_
                refine fs_m_loanOf (by omega) (by omega) ?_
                refine fs_r_goto (L1 := [some (.inr (.ref 124)), some (.inl h), some (.inl w), some (.inl (n + (M 125 (64 + 6 * o + h)))), some (.inl (o + 1))]) (st1 := []) (M1 := M) (ob := [fs_rg (n + (M 125 (64 + 6 * o + h))), 3 < 5, fs_rg (o + 1)]) rfl rfl (fs_oc ⟨by omega, by omega⟩ (fs_oc (by decide) (fs_oc ⟨by omega, by omega⟩ trivial))) ?_
                exact ih48 ((n + (M 125 (64 + 6 * o + h)))) ((o + 1)) (by omega) (by rw [fs_sum_s i0.1, i1]; first | (rw [if_pos (by omega)]; done) | (rw [if_neg (by omega)])) (by omega) (by omega)
              refine fs_r_call (sta := false) (idx := 181) (as := [.inr (.ref 124), .inl h, .inl o]) (rest := [.inl n]) (L1 := [some (.inr (.ref 124)), some (.inl h), some (.inl w), some (.inl n), some (.inl o)]) (st1 := [.inl o, .inl h, .inr (.ref 124), .inl n]) (M1 := M) (ob := []) rfl rfl rfl trivial rfl rfl (Nat.le_of_ble_eq_true rfl) ⟨Or.inr (Nat.le_of_ble_eq_true rfl), Or.inr fs_ob124⟩ (by decide) ?_
              refine fs_m_loanOf (by omega) (by omega) ?_
              refine fs_r_goto (L1 := [some (.inr (.ref 124)), some (.inl h), some (.inl w), some (.inl n), some (.inl o)]) (st1 := [.inl (M 125 (64 + 6 * h + o)), .inl n]) (M1 := M) (ob := []) rfl rfl trivial ?_
              refine fs_r_goto (L1 := [some (.inr (.ref 124)), some (.inl h), some (.inl w), some (.inl (n + (M 125 (64 + 6 * h + o)))), some (.inl (o + 1))]) (st1 := []) (M1 := M) (ob := [fs_rg (n + (M 125 (64 + 6 * h + o))), 3 < 5, fs_rg (o + 1)]) rfl rfl (fs_oc ⟨by omega, by omega⟩ (fs_oc (by decide) (fs_oc ⟨by omega, by omega⟩ trivial))) ?_
              exact ih48 ((n + (M 125 (64 + 6 * h + o)))) ((o + 1)) (by omega) (by rw [fs_sum_s i0.1, i1]; first | (rw [if_pos (by omega)]; done) | (rw [if_neg (by omega)])) (by omega) (by omega)
          exact loop48 (((M 125 1 - (0)) : Int) + 1).toNat (0) (0) (by omega) (rfl) (by omega) (by omega)
        refine fs_r_call (sta := false) (idx := 190) (as := [.inr (.ref 124), .inl h]) (rest := []) (L1 := [some (.inr (.ref 124)), some (.inl h), some (.inl w), none, none]) (st1 := [.inl h, .inr (.ref 124)]) (M1 := M) (ob := []) rfl rfl rfl trivial rfl rfl (Nat.le_of_ble_eq_true rfl) ⟨Or.inr (Nat.le_of_ble_eq_true rfl), Or.inr fs_ob124⟩ (by decide) ?_
        refine fs_m_piecesOf (by assumption) (by omega) ?_
        refine fs_r_iret (a := (mm_pieces (M 125) h)) (L1 := [some (.inr (.ref 124)), some (.inl h), some (.inl w), none, none]) (M1 := M) (ob := []) rfl rfl trivial (Or.inl rfl) ?_
        exact fs_qi (by unfold rq_of; rw [if_pos (by omega), if_neg (by omega), if_pos (by omega)]) hq0
      refine fs_r_call (sta := false) (idx := 175) (as := [.inr (.ref 124), .inl h, .inl w]) (rest := []) (L1 := [some (.inr (.ref 124)), some (.inl h), some (.inl w), none, none]) (st1 := [.inl w, .inl h, .inr (.ref 124)]) (M1 := M) (ob := []) rfl rfl rfl trivial rfl rfl (Nat.le_of_ble_eq_true rfl) ⟨Or.inr (Nat.le_of_ble_eq_true rfl), Or.inr fs_ob124⟩ (by decide) ?_
      refine fs_m_houseOf (by omega) (by omega) ?_
      refine fs_r_iret (a := (M 125 (10 + 5 * h + w))) (L1 := [some (.inr (.ref 124)), some (.inl h), some (.inl w), none, none]) (M1 := M) (ob := []) rfl rfl trivial (Or.inl rfl) ?_
      exact fs_qi (by unfold rq_of; rw [if_pos (by omega), if_pos (by omega)]) hq0
    refine fs_r_if (a := 0) (L1 := [some (.inr (.ref 124)), some (.inl h), some (.inl w), none, none]) (st1 := []) (M1 := M) (ob := []) rfl rfl trivial (fun h => absurd h (by decide : ¬ (¬ (0 : Int) = 0))) (fun _ => ?_)
    refine fs_r_iret (a := (-1)) (L1 := [some (.inr (.ref 124)), some (.inl h), some (.inl w), none, none]) (M1 := M) (ob := []) rfl rfl trivial (Or.inl rfl) ?_
    exact fs_qi (by unfold rq_of; rw [if_neg (by omega)]) hq0
  refine fs_r_if (a := 0) (L1 := [some (.inr (.ref 124)), some (.inl h), some (.inl w), none, none]) (st1 := []) (M1 := M) (ob := []) rfl rfl trivial (fun _ => ?_) (fun h => absurd (by decide : (0 : Int) = 0) h)
  refine fs_r_iret (a := (-1)) (L1 := [some (.inr (.ref 124)), some (.inl h), some (.inl w), none, none]) (M1 := M) (ob := []) rfl rfl trivial (Or.inl rfl) ?_
  exact fs_qi (by unfold rq_of; rw [if_neg (by omega)]) hq0

theorem fs_m_count {d : Nat} {M : fs_M} {Q : Option fs_V → fs_M → Prop} {w : Int}  (hI : fs_NI (M 125)) (hq0 : Q (some (.inl (rq_count (M 125) (M 124 4) (M 124 6) w))) M) : fs_W (d + 2) 281 0 [some (.inr (.ref 124)), some (.inl w)] [] M Q := by
  have hN := hI
  obtain ⟨⟨hA0, hA1⟩, ⟨hH0, hH1⟩, hcv, hfc, hhd, hln, hsh, hit, hst⟩ := id hN
  refine fs_r_sw (a := w) (L1 := [some (.inr (.ref 124)), some (.inl w)]) (st1 := []) (M1 := M) (ob := []) rfl rfl trivial ?_
  by_cases h1 : w = 0
  · have eh1 : ((1 : Nat) + fs_sw 119 0 8 #[51, 58, 65, 70, 75, 75, 75, 90, 95] w : Int).toNat = 52 := by rw [h1]; decide
    rw [eh1]
    refine fs_r_iret (a := (M 125 0)) (L1 := [some (.inr (.ref 124)), some (.inl w)]) (M1 := M) (ob := [124 < fs_N ∧ fs_kd 124 = 6, (125 < fs_N ∧ fs_kd 125 = 100) ∧ (0 : Int) ≤ 0 ∧ 0 < fs_ln 125]) rfl rfl (fs_oc fs_ob124 (fs_oc (fs_ar125 (by omega) (by omega)) trivial)) (Or.inl rfl) ?_
    exact fs_qi (by subst_vars; rfl) hq0
  by_cases h2 : w = 1
  · have eh2 : ((1 : Nat) + fs_sw 119 0 8 #[51, 58, 65, 70, 75, 75, 75, 90, 95] w : Int).toNat = 59 := by rw [h2]; decide
    rw [eh2]
    refine fs_r_iret (a := (M 125 1)) (L1 := [some (.inr (.ref 124)), some (.inl w)]) (M1 := M) (ob := [124 < fs_N ∧ fs_kd 124 = 6, (125 < fs_N ∧ fs_kd 125 = 100) ∧ (0 : Int) ≤ 1 ∧ 1 < fs_ln 125]) rfl rfl (fs_oc fs_ob124 (fs_oc (fs_ar125 (by omega) (by omega)) trivial)) (Or.inl rfl) ?_
    exact fs_qi (by subst_vars; rfl) hq0
  by_cases h3 : w = 2
  · have eh3 : ((1 : Nat) + fs_sw 119 0 8 #[51, 58, 65, 70, 75, 75, 75, 90, 95] w : Int).toNat = 66 := by rw [h3]; decide
    rw [eh3]
    refine fs_r_iret (a := (M 124 4)) (L1 := [some (.inr (.ref 124)), some (.inl w)]) (M1 := M) (ob := [124 < fs_N ∧ fs_kd 124 = 6]) rfl rfl (fs_oc fs_ob124 trivial) (Or.inl rfl) ?_
    exact fs_qi (by subst_vars; rfl) hq0
  by_cases h4 : w = 3
  · have eh4 : ((1 : Nat) + fs_sw 119 0 8 #[51, 58, 65, 70, 75, 75, 75, 90, 95] w : Int).toNat = 71 := by rw [h4]; decide
    rw [eh4]
    refine fs_r_iret (a := (M 124 6)) (L1 := [some (.inr (.ref 124)), some (.inl w)]) (M1 := M) (ob := [124 < fs_N ∧ fs_kd 124 = 6]) rfl rfl (fs_oc fs_ob124 trivial) (Or.inl rfl) ?_
    exact fs_qi (by subst_vars; rfl) hq0
  by_cases h5 : w = 4
  · have eh5 : ((1 : Nat) + fs_sw 119 0 8 #[51, 58, 65, 70, 75, 75, 75, 90, 95] w : Int).toNat = 76 := by rw [h5]; decide
    rw [eh5]
    refine fs_r_iret (a := (M 125 (100 + (13 * (w - 4))))) (L1 := [some (.inr (.ref 124)), some (.inl w)]) (M1 := M) (ob := [124 < fs_N ∧ fs_kd 124 = 6, fs_rg (w - 4), fs_rg (13 * (w - 4)), fs_rg (100 + (13 * (w - 4))), (125 < fs_N ∧ fs_kd 125 = 100) ∧ (0 : Int) ≤ (100 + (13 * (w - 4))) ∧ (100 + (13 * (w - 4))) < fs_ln 125]) rfl (fs_exA 6 (o1 := [124 < fs_N ∧ fs_kd 124 = 6]) (L1 := [some (.inr (.ref 124)), some (.inl w)]) (st1 := [.inl 4, .inl w, .inl 13, .inl 100, .inr (.ref 125)]) (M1 := M) (o2 := [fs_rg (w - 4), fs_rg (13 * (w - 4)), fs_rg (100 + (13 * (w - 4))), (125 < fs_N ∧ fs_kd 125 = 100) ∧ (0 : Int) ≤ (100 + (13 * (w - 4))) ∧ (100 + (13 * (w - 4))) < fs_ln 125]) rfl rfl) (fs_oc fs_ob124 (fs_oc ⟨by omega, by omega⟩ (fs_oc ⟨by omega, by omega⟩ (fs_oc ⟨by omega, by omega⟩ (fs_oc (fs_ar125 (by omega) (by omega)) trivial))))) (Or.inl rfl) ?_
    exact fs_qi (by subst_vars; rfl) hq0
  by_cases h6 : w = 5
  · have eh6 : ((1 : Nat) + fs_sw 119 0 8 #[51, 58, 65, 70, 75, 75, 75, 90, 95] w : Int).toNat = 76 := by rw [h6]; decide
    rw [eh6]
    refine fs_r_iret (a := (M 125 (100 + (13 * (w - 4))))) (L1 := [some (.inr (.ref 124)), some (.inl w)]) (M1 := M) (ob := [124 < fs_N ∧ fs_kd 124 = 6, fs_rg (w - 4), fs_rg (13 * (w - 4)), fs_rg (100 + (13 * (w - 4))), (125 < fs_N ∧ fs_kd 125 = 100) ∧ (0 : Int) ≤ (100 + (13 * (w - 4))) ∧ (100 + (13 * (w - 4))) < fs_ln 125]) rfl (fs_exA 6 (o1 := [124 < fs_N ∧ fs_kd 124 = 6]) (L1 := [some (.inr (.ref 124)), some (.inl w)]) (st1 := [.inl 4, .inl w, .inl 13, .inl 100, .inr (.ref 125)]) (M1 := M) (o2 := [fs_rg (w - 4), fs_rg (13 * (w - 4)), fs_rg (100 + (13 * (w - 4))), (125 < fs_N ∧ fs_kd 125 = 100) ∧ (0 : Int) ≤ (100 + (13 * (w - 4))) ∧ (100 + (13 * (w - 4))) < fs_ln 125]) rfl rfl) (fs_oc fs_ob124 (fs_oc ⟨by omega, by omega⟩ (fs_oc ⟨by omega, by omega⟩ (fs_oc ⟨by omega, by omega⟩ (fs_oc (fs_ar125 (by omega) (by omega)) trivial))))) (Or.inl rfl) ?_
    exact fs_qi (by subst_vars; rfl) hq0
  by_cases h7 : w = 6
  · have eh7 : ((1 : Nat) + fs_sw 119 0 8 #[51, 58, 65, 70, 75, 75, 75, 90, 95] w : Int).toNat = 76 := by rw [h7]; decide
    rw [eh7]
    refine fs_r_iret (a := (M 125 (100 + (13 * (w - 4))))) (L1 := [some (.inr (.ref 124)), some (.inl w)]) (M1 := M) (ob := [124 < fs_N ∧ fs_kd 124 = 6, fs_rg (w - 4), fs_rg (13 * (w - 4)), fs_rg (100 + (13 * (w - 4))), (125 < fs_N ∧ fs_kd 125 = 100) ∧ (0 : Int) ≤ (100 + (13 * (w - 4))) ∧ (100 + (13 * (w - 4))) < fs_ln 125]) rfl (fs_exA 6 (o1 := [124 < fs_N ∧ fs_kd 124 = 6]) (L1 := [some (.inr (.ref 124)), some (.inl w)]) (st1 := [.inl 4, .inl w, .inl 13, .inl 100, .inr (.ref 125)]) (M1 := M) (o2 := [fs_rg (w - 4), fs_rg (13 * (w - 4)), fs_rg (100 + (13 * (w - 4))), (125 < fs_N ∧ fs_kd 125 = 100) ∧ (0 : Int) ≤ (100 + (13 * (w - 4))) ∧ (100 + (13 * (w - 4))) < fs_ln 125]) rfl rfl) (fs_oc fs_ob124 (fs_oc ⟨by omega, by omega⟩ (fs_oc ⟨by omega, by omega⟩ (fs_oc ⟨by omega, by omega⟩ (fs_oc (fs_ar125 (by omega) (by omega)) trivial))))) (Or.inl rfl) ?_
    exact fs_qi (by subst_vars; rfl) hq0
  by_cases h8 : w = 7
  · have eh8 : ((1 : Nat) + fs_sw 119 0 8 #[51, 58, 65, 70, 75, 75, 75, 90, 95] w : Int).toNat = 91 := by rw [h8]; decide
    rw [eh8]
    refine fs_r_call (sta := false) (idx := 358) (as := [.inr (.ref 124)]) (rest := []) (L1 := [some (.inr (.ref 124)), some (.inl w)]) (st1 := [.inr (.ref 124)]) (M1 := M) (ob := []) rfl rfl rfl trivial rfl rfl (Nat.le_of_ble_eq_true rfl) ⟨Or.inr (Nat.le_of_ble_eq_true rfl), Or.inr fs_ob124⟩ (by decide) ?_
    refine fs_m_loans ?_
    refine fs_r_iret (a := (mm_loans (M 125))) (L1 := [some (.inr (.ref 124)), some (.inl w)]) (M1 := M) (ob := []) rfl rfl trivial (Or.inl rfl) ?_
    exact fs_qi (by subst_vars; rfl) hq0
  by_cases h9 : w = 8
  · have eh9 : ((1 : Nat) + fs_sw 119 0 8 #[51, 58, 65, 70, 75, 75, 75, 90, 95] w : Int).toNat = 96 := by rw [h9]; decide
    rw [eh9]
    have z0 := mm_held_b (a := 0) hN (by omega)
    have z1 := mm_held_b (a := 1) hN (by omega)
    have z2 := mm_held_b (a := 2) hN (by omega)
    have z3 := mm_held_b (a := 3) hN (by omega)
    refine fs_r_call (sta := false) (idx := 205) (as := [.inr (.ref 124), .inl 0]) (rest := []) (L1 := [some (.inr (.ref 124)), some (.inl w)]) (st1 := [.inl 0, .inr (.ref 124)]) (M1 := M) (ob := []) rfl rfl rfl trivial rfl rfl (Nat.le_of_ble_eq_true rfl) ⟨Or.inr (Nat.le_of_ble_eq_true rfl), Or.inr fs_ob124⟩ (by decide) ?_
    refine fs_m_heldOf (by assumption) (by omega) ?_
    refine fs_r_call (sta := false) (idx := 205) (as := [.inr (.ref 124), .inl 1]) (rest := [.inl (mm_held (M 125) 0)]) (L1 := [some (.inr (.ref 124)), some (.inl w)]) (st1 := [.inl 1, .inr (.ref 124), .inl (mm_held (M 125) 0)]) (M1 := M) (ob := []) rfl rfl rfl trivial rfl rfl (Nat.le_of_ble_eq_true rfl) ⟨Or.inr (Nat.le_of_ble_eq_true rfl), Or.inr fs_ob124⟩ (by decide) ?_
    refine fs_m_heldOf (by assumption) (by omega) ?_
    refine fs_r_call (sta := false) (idx := 205) (as := [.inr (.ref 124), .inl 2]) (rest := [.inl ((mm_held (M 125) 0) + (mm_held (M 125) 1))]) (L1 := [some (.inr (.ref 124)), some (.inl w)]) (st1 := [.inl 2, .inr (.ref 124), .inl ((mm_held (M 125) 0) + (mm_held (M 125) 1))]) (M1 := M) (ob := [fs_rg ((mm_held (M 125) 0) + (mm_held (M 125) 1))]) rfl rfl rfl (fs_oc ⟨by omega, by omega⟩ trivial) rfl rfl (Nat.le_of_ble_eq_true rfl) ⟨Or.inr (Nat.le_of_ble_eq_true rfl), Or.inr fs_ob124⟩ (by decide) ?_
    refine fs_m_heldOf (by assumption) (by omega) ?_
    refine fs_r_call (sta := false) (idx := 205) (as := [.inr (.ref 124), .inl 3]) (rest := [.inl (((mm_held (M 125) 0) + (mm_held (M 125) 1)) + (mm_held (M 125) 2))]) (L1 := [some (.inr (.ref 124)), some (.inl w)]) (st1 := [.inl 3, .inr (.ref 124), .inl (((mm_held (M 125) 0) + (mm_held (M 125) 1)) + (mm_held (M 125) 2))]) (M1 := M) (ob := [fs_rg (((mm_held (M 125) 0) + (mm_held (M 125) 1)) + (mm_held (M 125) 2))]) rfl rfl rfl (fs_oc ⟨by omega, by omega⟩ trivial) rfl rfl (Nat.le_of_ble_eq_true rfl) ⟨Or.inr (Nat.le_of_ble_eq_true rfl), Or.inr fs_ob124⟩ (by decide) ?_
    refine fs_m_heldOf (by assumption) (by omega) ?_
    refine fs_r_iret (a := ((((mm_held (M 125) 0) + (mm_held (M 125) 1)) + (mm_held (M 125) 2)) + (mm_held (M 125) 3))) (L1 := [some (.inr (.ref 124)), some (.inl w)]) (M1 := M) (ob := [fs_rg ((((mm_held (M 125) 0) + (mm_held (M 125) 1)) + (mm_held (M 125) 2)) + (mm_held (M 125) 3))]) rfl rfl (fs_oc ⟨by omega, by omega⟩ trivial) (Or.inl rfl) ?_
    exact fs_qi (by subst_vars; rfl) hq0
  have h10 : ((1 : Nat) + fs_sw 119 0 8 #[51, 58, 65, 70, 75, 75, 75, 90, 95] w : Int).toNat = 120 := by unfold fs_sw; rw [if_pos (by omega)]; rfl
  rw [h10]
  refine fs_r_iret (a := (-1)) (L1 := [some (.inr (.ref 124)), some (.inl w)]) (M1 := M) (ob := []) rfl rfl trivial (Or.inl rfl) ?_
  exact fs_qi (by unfold rq_count; rw [if_neg (by omega), if_neg (by omega), if_neg (by omega), if_neg (by omega), if_neg (by omega), if_neg (by omega), if_neg (by omega), if_neg (by omega), if_neg (by omega)]) hq0

theorem fs_m_back {d : Nat} {M : fs_M} {Q : Option fs_V → fs_M → Prop} {n : Int}  (ht : 0 ≤ M 124 6 ∧ M 124 6 ≤ 800) (hq0 : (0 ≤ n ∧ n ≤ M 124 6) → Q (some (.inl (M 124 6 - n))) (fs_up M 124 6 (M 124 6 - n))) (hq1 : (¬ (0 ≤ n ∧ n ≤ M 124 6)) → Q (some (.inl (-1))) M) : fs_W (d + 1) 172 0 [some (.inr (.ref 124)), some (.inl n)] [] M Q := by
  refine fs_r_call (sta := true) (idx := 68) (as := [.inl n, .inl 0, .inl (M 124 6)]) (rest := []) (L1 := [some (.inr (.ref 124)), some (.inl n)]) (st1 := [.inl (M 124 6), .inl 0, .inl n]) (M1 := M) (ob := [124 < fs_N ∧ fs_kd 124 = 6]) rfl rfl rfl (fs_oc fs_ob124 trivial) rfl rfl (Nat.le_of_ble_eq_true rfl) ⟨Or.inr (Nat.le_of_ble_eq_true rfl), trivial⟩ (by decide) ?_
  refine fs_m_isIn (fun (f1 : 0 ≤ n ∧ n ≤ (M 124 6)) => ?_) (fun (f2 : ¬ (0 ≤ n ∧ n ≤ (M 124 6))) => ?_)
  · refine fs_r_if (a := 1) (L1 := [some (.inr (.ref 124)), some (.inl n)]) (st1 := []) (M1 := M) (ob := []) rfl rfl trivial (fun _ => ?_) (fun h => absurd (by decide : ¬ (1 : Int) = 0) h)
    refine fs_r_iret (a := ((M 124 6) - n)) (L1 := [some (.inr (.ref 124)), some (.inl n)]) (M1 := (fs_up M 124 6 ((M 124 6) - n))) (ob := [124 < fs_N ∧ fs_kd 124 = 6, fs_rg ((M 124 6) - n), 124 < fs_N ∧ fs_kd 124 = 6, 124 < fs_N ∧ fs_kd 124 = 6]) rfl (fs_exA 6 (o1 := [124 < fs_N ∧ fs_kd 124 = 6, fs_rg ((M 124 6) - n), 124 < fs_N ∧ fs_kd 124 = 6]) (L1 := [some (.inr (.ref 124)), some (.inl n)]) (st1 := []) (M1 := (fs_up M 124 6 ((M 124 6) - n))) (o2 := [124 < fs_N ∧ fs_kd 124 = 6]) rfl rfl) (fs_oc fs_ob124 (fs_oc ⟨by omega, by omega⟩ (fs_oc fs_ob124 (fs_oc fs_ob124 trivial)))) (Or.inl rfl) ?_
    exact hq0 (by assumption)
  refine fs_r_if (a := 0) (L1 := [some (.inr (.ref 124)), some (.inl n)]) (st1 := []) (M1 := M) (ob := []) rfl rfl trivial (fun h => absurd h (by decide : ¬ (¬ (0 : Int) = 0))) (fun _ => ?_)
  refine fs_r_iret (a := (-1)) (L1 := [some (.inr (.ref 124)), some (.inl n)]) (M1 := M) (ob := []) rfl rfl trivial (Or.inl rfl) ?_
  exact hq1 (by assumption)

/-- the byte k of the twenty fed -/
def fd_b (a b c d e : Int) (k : Int) : Int := fs_and (fs_shr (if k < 4 then a else if k < 8 then b else if k < 12 then c else if k < 16 then d else e) (24 - 8 * (k % 4))) 255
def mm_fed (M M2 : fs_M) (a b c d e : Int) : Prop := (∀ r, r ≠ 124 → r ≠ 128 → M2 r = M r) ∧ (∀ i, i ≠ 6 → M2 124 i = M 124 i) ∧ M2 124 6 = M 124 6 + 20 ∧ (∀ q, (q < M 124 6 ∨ M 124 6 + 20 ≤ q) → M2 128 q = M 128 q) ∧ (∀ k, 0 ≤ k → k < 20 → M2 128 (M 124 6 + k) = fd_b a b c d e k)
theorem fs_m_feed {d : Nat} {M : fs_M} {Q : Option fs_V → fs_M → Prop} {va : Int} {vb : Int} {vc : Int} {vd : Int} {ve : Int}  (ht : 0 ≤ M 124 6 ∧ M 124 6 ≤ 800) (hq0 : ∀ (M2 : fs_M), (M 124 6 + 20 ≤ 800) → (mm_fed M M2 va vb vc vd ve) → Q (some (.inl (M 124 6 + 20))) M2) (hq1 : (¬ (M 124 6 + 20 ≤ 800)) → Q (some (.inl (-1))) M) : fs_W (d) 171 0 [some (.inr (.ref 124)), some (.inl va), some (.inl vb), some (.inl vc), some (.inl vd), some (.inl ve), none, none] [] M Q := by
  refine fs_r_icmp (a := ((M 124 6) + 20)) (y := 800) (L1 := [some (.inr (.ref 124)), some (.inl va), some (.inl vb), some (.inl vc), some (.inl vd), some (.inl ve), none, none]) (st1 := []) (M1 := M) (ob := [124 < fs_N ∧ fs_kd 124 = 6, fs_rg ((M 124 6) + 20)]) rfl rfl (fs_oc fs_ob124 (fs_oc ⟨by omega, by omega⟩ trivial)) (fun (h1 : ((M 124 6) + 20) ≤ 800) => ?_) (fun (h1 : ¬ (((M 124 6) + 20) ≤ 800)) => ?_)
  · refine fs_r_nop (L1 := [some (.inr (.ref 124)), some (.inl va), some (.inl vb), some (.inl vc), some (.inl vd), some (.inl ve), some (.inl 0), none]) (st1 := []) (M1 := M) (ob := [6 < 8]) rfl rfl (fs_oc (by decide) trivial) ?_
    have loop18 : ∀ (n18 : Nat) (k : Int) (zl7 : Option fs_V) (M3 : fs_M), (0 ≤ k ∧ k ≤ 20) → (∀ r, r ≠ 124 → r ≠ 128 → M3 r = M r) → (∀ i, i ≠ 6 → M3 124 i = M 124 i) → (M3 124 6 = M 124 6 + k) → (∀ q, (q < M 124 6 ∨ M 124 6 + k ≤ q) → M3 128 q = M 128 q) → (∀ q, 0 ≤ q → q < k → M3 128 (M 124 6 + q) = fd_b va vb vc vd ve q) → 20 - k < (n18 : Int) → fs_W (d) 171 18 [some (.inr (.ref 124)), some (.inl va), some (.inl vb), some (.inl vc), some (.inl vd), some (.inl ve), some (.inl k), zl7] [] M3 Q := by
      intro n18
      induction n18 with
      | zero =>
        intro k zl7 M3 i0 f0 g0 t0 o0 n0 hm18
        exfalso
        omega
      | succ n18 ih18 =>
        intro k zl7 M3 i0 f0 g0 t0 o0 n0 hm18
        have join71 : ∀ (x : Int), (x = if k < 4 then va else if k < 8 then vb else if k < 12 then vc else if k < 16 then vd else ve) → (k < 20) → fs_W (d) 171 71 [some (.inr (.ref 124)), some (.inl va), some (.inl vb), some (.inl vc), some (.inl vd), some (.inl ve), some (.inl k), zl7] [.inl x] M3 Q := by
          intro x x0 k9
          refine fs_r_goto (L1 := [some (.inr (.ref 124)), some (.inl va), some (.inl vb), some (.inl vc), some (.inl vd), some (.inl ve), some (.inl (k + 1)), some (.inl x)]) (st1 := []) (M1 := (fs_up (fs_up M3 128 (M3 124 6) (fs_and (fs_shr x (24 - (8 * (k % 4)))) 255)) 124 6 ((M3 124 6) + 1))) (ob := [7 < 8, 124 < fs_N ∧ fs_kd 124 = 6, 124 < fs_N ∧ fs_kd 124 = 6, (0 : Int) ≤ k, (0 : Int) < 4, fs_rg (8 * (k % 4)), fs_rg (24 - (8 * (k % 4))), (128 < fs_N ∧ fs_kd 128 = 100) ∧ (0 : Int) ≤ (M3 124 6) ∧ (M3 124 6) < fs_ln 128, 124 < fs_N ∧ fs_kd 124 = 6, fs_rg ((M3 124 6) + 1), 124 < fs_N ∧ fs_kd 124 = 6, fs_rg (k + 1)]) rfl (fs_exA 6 (o1 := [7 < 8, 124 < fs_N ∧ fs_kd 124 = 6, 124 < fs_N ∧ fs_kd 124 = 6]) (L1 := [some (.inr (.ref 124)), some (.inl va), some (.inl vb), some (.inl vc), some (.inl vd), some (.inl ve), some (.inl k), some (.inl x)]) (st1 := [.inl x, .inl (M3 124 6), .inr (.ref 128)]) (M1 := M3) (o2 := [(0 : Int) ≤ k, (0 : Int) < 4, fs_rg (8 * (k % 4)), fs_rg (24 - (8 * (k % 4))), (128 < fs_N ∧ fs_kd 128 = 100) ∧ (0 : Int) ≤ (M3 124 6) ∧ (M3 124 6) < fs_ln 128, 124 < fs_N ∧ fs_kd 124 = 6, fs_rg ((M3 124 6) + 1), 124 < fs_N ∧ fs_kd 124 = 6, fs_rg (k + 1)]) rfl (fs_exA 6 (o1 := [(0 : Int) ≤ k, (0 : Int) < 4, fs_rg (8 * (k % 4))]) (L1 := [some (.inr (.ref 124)), some (.inl va), some (.inl vb), some (.inl vc), some (.inl vd), some (.inl ve), some (.inl k), some (.inl x)]) (st1 := [.inl (8 * (k % 4)), .inl 24, .inl x, .inl (M3 124 6), .inr (.ref 128)]) (M1 := M3) (o2 := [fs_rg (24 - (8 * (k % 4))), (128 < fs_N ∧ fs_kd 128 = 100) ∧ (0 : Int) ≤ (M3 124 6) ∧ (M3 124 6) < fs_ln 128, 124 < fs_N ∧ fs_kd 124 = 6, fs_rg ((M3 124 6) + 1), 124 < fs_N ∧ fs_kd 124 = 6, fs_rg (k + 1)]) rfl (fs_exA 6 (o1 := [fs_rg (24 - (8 * (k % 4))), (128 < fs_N ∧ fs_kd 128 = 100) ∧ (0 : Int) ≤ (M3 124 6) ∧ (M3 124 6) < fs_ln 128]) (L1 := [some (.inr (.ref 124)), some (.inl va), some (.inl vb), some (.inl vc), some (.inl vd), some (.inl ve), some (.inl k), some (.inl x)]) (st1 := [.inr (.ref 124)]) (M1 := (fs_up M3 128 (M3 124 6) (fs_and (fs_shr x (24 - (8 * (k % 4)))) 255))) (o2 := [124 < fs_N ∧ fs_kd 124 = 6, fs_rg ((M3 124 6) + 1), 124 < fs_N ∧ fs_kd 124 = 6, fs_rg (k + 1)]) rfl rfl))) (fs_oc (by decide) (fs_oc fs_ob124 (fs_oc fs_ob124 (fs_oc (by omega) (fs_oc (by omega) (fs_oc ⟨by omega, by omega⟩ (fs_oc ⟨by omega, by omega⟩ (fs_oc (fs_ar128 (by omega) (by omega)) (fs_oc fs_ob124 (fs_oc ⟨by omega, by omega⟩ (fs_oc fs_ob124 (fs_oc ⟨by omega, by omega⟩ trivial)))))))))))) ?_
          exact ih18 ((k + 1)) (some (.inl x)) (fs_up (fs_up M3 128 (M3 124 6) (fs_and (fs_shr x (24 - (8 * (k % 4)))) 255)) 124 6 ((M3 124 6) + 1)) (by omega) (fun r q1 q2 => by rw [fs_up_other q1, fs_up_other q2]; exact f0 r q1 q2) (fun i q => by rw [fs_up_at, if_neg q, fs_up_other (by decide)]; exact g0 i q) (by rw [fs_up_at, if_pos rfl]; omega) (fun q z => by rw [fs_up_other (by decide), fs_up_at, if_neg (by omega)]; exact o0 q (by omega)) (fun q q0 q1 => by rw [fs_up_other (by decide), fs_up_at]; by_cases z : q = k; (rw [if_pos (by omega), z, x0]; rfl); (rw [if_neg (by omega)]; exact n0 q q0 (by omega))) (by omega)
        refine fs_r_icmp (a := k) (y := 20) (L1 := [some (.inr (.ref 124)), some (.inl va), some (.inl vb), some (.inl vc), some (.inl vd), some (.inl ve), some (.inl k), zl7]) (st1 := []) (M1 := M3) (ob := []) rfl rfl trivial (fun (h2 : 20 ≤ k) => ?_) (fun (h2 : ¬ (20 ≤ k)) => ?_)
        · refine fs_r_iret (a := (M3 124 6)) (L1 := [some (.inr (.ref 124)), some (.inl va), some (.inl vb), some (.inl vc), some (.inl vd), some (.inl ve), some (.inl k), zl7]) (M1 := M3) (ob := [124 < fs_N ∧ fs_kd 124 = 6]) rfl rfl (fs_oc fs_ob124 trivial) (Or.inl rfl) ?_
          have k2 : k = 20 := by omega
          subst k2
          rw [t0]
          exact hq0 _ (by omega) ⟨f0, g0, t0, fun q z => o0 q z, fun q q0 q1 => n0 q q0 q1⟩
        refine fs_r_icmp (a := k) (y := 4) (L1 := [some (.inr (.ref 124)), some (.inl va), some (.inl vb), some (.inl vc), some (.inl vd), some (.inl ve), some (.inl k), zl7]) (st1 := []) (M1 := M3) (ob := []) rfl rfl trivial (fun (h3 : 4 ≤ k) => ?_) (fun (h3 : ¬ (4 ≤ k)) => ?_)
        · refine fs_r_icmp (a := k) (y := 8) (L1 := [some (.inr (.ref 124)), some (.inl va), some (.inl vb), some (.inl vc), some (.inl vd), some (.inl ve), some (.inl k), zl7]) (st1 := []) (M1 := M3) (ob := []) rfl rfl trivial (fun (h4 : 8 ≤ k) => ?_) (fun (h4 : ¬ (8 ≤ k)) => ?_)
          · refine fs_r_icmp (a := k) (y := 12) (L1 := [some (.inr (.ref 124)), some (.inl va), some (.inl vb), some (.inl vc), some (.inl vd), some (.inl ve), some (.inl k), zl7]) (st1 := []) (M1 := M3) (ob := []) rfl rfl trivial (fun (h5 : 12 ≤ k) => ?_) (fun (h5 : ¬ (12 ≤ k)) => ?_)
            · refine fs_r_icmp (a := k) (y := 16) (L1 := [some (.inr (.ref 124)), some (.inl va), some (.inl vb), some (.inl vc), some (.inl vd), some (.inl ve), some (.inl k), zl7]) (st1 := []) (M1 := M3) (ob := []) rfl rfl trivial (fun (h6 : 16 ≤ k) => ?_) (fun (h6 : ¬ (16 ≤ k)) => ?_)
              · refine fs_r_nop (L1 := [some (.inr (.ref 124)), some (.inl va), some (.inl vb), some (.inl vc), some (.inl vd), some (.inl ve), some (.inl k), zl7]) (st1 := [.inl ve]) (M1 := M3) (ob := []) rfl rfl trivial ?_
                exact join71 (ve) (by first | (rw [if_pos (by omega)]; done) | (rw [if_neg (by omega), if_pos (by omega)]; done) | (rw [if_neg (by omega), if_neg (by omega), if_pos (by omega)]; done) | (rw [if_neg (by omega), if_neg (by omega), if_neg (by omega), if_pos (by omega)]; done) | (rw [if_neg (by omega), if_neg (by omega), if_neg (by omega), if_neg (by omega)])) (by omega)
              refine fs_r_goto (L1 := [some (.inr (.ref 124)), some (.inl va), some (.inl vb), some (.inl vc), some (.inl vd), some (.inl ve), some (.inl k), zl7]) (st1 := [.inl vd]) (M1 := M3) (ob := []) rfl rfl trivial ?_
              exact join71 (vd) (by first | (rw [if_pos (by omega)]; done) | (rw [if_neg (by omega), if_pos (by omega)]; done) | (rw [if_neg (by omega), if_neg (by omega), if_pos (by omega)]; done) | (rw [if_neg (by omega), if_neg (by omega), if_neg (by omega), if_pos (by omega)]; done) | (rw [if_neg (by omega), if_neg (by omega), if_neg (by omega), if_neg (by omega)])) (by omega)
            refine fs_r_goto (L1 := [some (.inr (.ref 124)), some (.inl va), some (.inl vb), some (.inl vc), some (.inl vd), some (.inl ve), some (.inl k), zl7]) (st1 := [.inl vc]) (M1 := M3) (ob := []) rfl rfl trivial ?_
            exact join71 (vc) (by first | (rw [if_pos (by omega)]; done) | (rw [if_neg (by omega), if_pos (by omega)]; done) | (rw [if_neg (by omega), if_neg (by omega), if_pos (by omega)]; done) | (rw [if_neg (by omega), if_neg (by omega), if_neg (by omega), if_pos (by omega)]; done) | (rw [if_neg (by omega), if_neg (by omega), if_neg (by omega), if_neg (by omega)])) (by omega)
          refine fs_r_goto (L1 := [some (.inr (.ref 124)), some (.inl va), some (.inl vb), some (.inl vc), some (.inl vd), some (.inl ve), some (.inl k), zl7]) (st1 := [.inl vb]) (M1 := M3) (ob := []) rfl rfl trivial ?_
          exact join71 (vb) (by first | (rw [if_pos (by omega)]; done) | (rw [if_neg (by omega), if_pos (by omega)]; done) | (rw [if_neg (by omega), if_neg (by omega), if_pos (by omega)]; done) | (rw [if_neg (by omega), if_neg (by omega), if_neg (by omega), if_pos (by omega)]; done) | (rw [if_neg (by omega), if_neg (by omega), if_neg (by omega), if_neg (by omega)])) (by omega)
        refine fs_r_goto (L1 := [some (.inr (.ref 124)), some (.inl va), some (.inl vb), some (.inl vc), some (.inl vd), some (.inl ve), some (.inl k), zl7]) (st1 := [.inl va]) (M1 := M3) (ob := []) rfl rfl trivial ?_
        exact join71 (va) (by first | (rw [if_pos (by omega)]; done) | (rw [if_neg (by omega), if_pos (by omega)]; done) | (rw [if_neg (by omega), if_neg (by omega), if_pos (by omega)]; done) | (rw [if_neg (by omega), if_neg (by omega), if_neg (by omega), if_pos (by omega)]; done) | (rw [if_neg (by omega), if_neg (by omega), if_neg (by omega), if_neg (by omega)])) (by omega)
    exact loop18 (((20 - (0)) : Int) + 1).toNat (0) (none) M (by omega) (fun r _ _ => rfl) (fun i _ => rfl) (by omega) (fun q _ => rfl) (fun q q0 q1 => by omega) (by omega)
  refine fs_r_iret (a := (-1)) (L1 := [some (.inr (.ref 124)), some (.inl va), some (.inl vb), some (.inl vc), some (.inl vd), some (.inl ve), none, none]) (M1 := M) (ob := []) rfl rfl trivial (Or.inl rfl) ?_
  exact hq1 (by omega)
