/-- a search by halves: the fewest, the most -/
noncomputable def fs_bsL (p : Int → Prop) : Nat → Int → Int → Int
  | 0, lo, _ => lo
  | n + 1, lo, hi => if lo < hi then @ite _ (p ((lo + hi) / 2)) (Classical.propDecidable _) (fs_bsL p n lo ((lo + hi) / 2)) (fs_bsL p n ((lo + hi) / 2 + 1) hi) else lo
noncomputable def fs_bsM (p : Int → Prop) : Nat → Int → Int → Int
  | 0, lo, _ => lo
  | n + 1, lo, hi => if lo < hi then @ite _ (p ((lo + hi + 1) / 2)) (Classical.propDecidable _) (fs_bsM p n ((lo + hi + 1) / 2) hi) (fs_bsM p n lo ((lo + hi + 1) / 2 - 1)) else lo
theorem fs_bsL_fu {p : Int → Prop} : ∀ (n m : Nat) (lo hi : Int), hi - lo ≤ n → hi - lo ≤ m → fs_bsL p n lo hi = fs_bsL p m lo hi
  | 0, 0, lo, hi, _, _ => rfl
  | 0, m + 1, lo, hi, h, _ => by unfold fs_bsL; rw [if_neg (by omega)]
  | n + 1, 0, lo, hi, _, h => by
    show (if lo < hi then _ else lo) = lo
    exact if_neg (by omega)
  | n + 1, m + 1, lo, hi, h1, h2 => by
    rw [fs_bsL, fs_bsL]
    by_cases q : lo < hi
    · rw [if_pos q, if_pos q, fs_bsL_fu n m lo ((lo + hi) / 2) (by omega) (by omega), fs_bsL_fu n m ((lo + hi) / 2 + 1) hi (by omega) (by omega)]
    · rw [if_neg q, if_neg q]
theorem fs_bsM_fu {p : Int → Prop} : ∀ (n m : Nat) (lo hi : Int), hi - lo ≤ n → hi - lo ≤ m → fs_bsM p n lo hi = fs_bsM p m lo hi
  | 0, 0, lo, hi, _, _ => rfl
  | 0, m + 1, lo, hi, h, _ => by unfold fs_bsM; rw [if_neg (by omega)]
  | n + 1, 0, lo, hi, _, h => by
    show (if lo < hi then _ else lo) = lo
    exact if_neg (by omega)
  | n + 1, m + 1, lo, hi, h1, h2 => by
    rw [fs_bsM, fs_bsM]
    by_cases q : lo < hi
    · rw [if_pos q, if_pos q, fs_bsM_fu n m ((lo + hi + 1) / 2) hi (by omega) (by omega), fs_bsM_fu n m lo ((lo + hi + 1) / 2 - 1) (by omega) (by omega)]
    · rw [if_neg q, if_neg q]
theorem fs_bsL_t {p : Int → Prop} {lo hi : Int} (h : lo < hi) (q : p ((lo + hi) / 2)) : fs_bsL p (hi - lo).toNat lo hi = fs_bsL p ((lo + hi) / 2 - lo).toNat lo ((lo + hi) / 2) := by
  rw [show (hi - lo).toNat = (hi - lo - 1).toNat + 1 by omega, fs_bsL, if_pos h, if_pos q]
  exact fs_bsL_fu _ _ _ _ (by omega) (by omega)
theorem fs_bsL_f {p : Int → Prop} {lo hi : Int} (h : lo < hi) (q : ¬ p ((lo + hi) / 2)) : fs_bsL p (hi - lo).toNat lo hi = fs_bsL p (hi - ((lo + hi) / 2 + 1)).toNat ((lo + hi) / 2 + 1) hi := by
  rw [show (hi - lo).toNat = (hi - lo - 1).toNat + 1 by omega, fs_bsL, if_pos h, if_neg q]
  exact fs_bsL_fu _ _ _ _ (by omega) (by omega)
theorem fs_bsM_t {p : Int → Prop} {lo hi : Int} (h : lo < hi) (q : p ((lo + hi + 1) / 2)) : fs_bsM p (hi - lo).toNat lo hi = fs_bsM p (hi - (lo + hi + 1) / 2).toNat ((lo + hi + 1) / 2) hi := by
  rw [show (hi - lo).toNat = (hi - lo - 1).toNat + 1 by omega, fs_bsM, if_pos h, if_pos q]
  exact fs_bsM_fu _ _ _ _ (by omega) (by omega)
theorem fs_bsM_f {p : Int → Prop} {lo hi : Int} (h : lo < hi) (q : ¬ p ((lo + hi + 1) / 2)) : fs_bsM p (hi - lo).toNat lo hi = fs_bsM p ((lo + hi + 1) / 2 - 1 - lo).toNat lo ((lo + hi + 1) / 2 - 1) := by
  rw [show (hi - lo).toNat = (hi - lo - 1).toNat + 1 by omega, fs_bsM, if_pos h, if_neg q]
  exact fs_bsM_fu _ _ _ _ (by omega) (by omega)
/-! what would be -/
def ec_giv (E : Nat → Int → Int) (h v : Int) : Nat → Int → Int := fun c i => if c = 7 ∧ i = h then E 7 i + v else E c i
noncomputable def ec_lst (E : Nat → Int → Int) : Int → Int := ec_fix E (ec_calm E)
theorem ec_eq.lst {E F : Nat → Int → Int} (h : ec_eq E F) (hH : 0 ≤ E 0 1) (hc : ec_ok E (ec_calm E)) : ec_lst E = ec_lst F := by
  unfold ec_lst
  rw [h.fix hH hc, h.calm]
theorem ec_giv_eq {E F : Nat → Int → Int} (h : ec_eq E F) (q v : Int) : ec_eq (ec_giv E q v) (ec_giv F q v) := by
  obtain ⟨h1, h2, h3, h4, h5, h6, h7⟩ := h
  refine ⟨h1, h2, h3, h4, fun x x0 x1 => ?_, h6, h7⟩
  obtain ⟨y1, y2⟩ := h5 x x0 x1
  refine ⟨?_, y2⟩
  show (if _ then E 7 x + v else E 7 x) = (if _ then F 7 x + v else F 7 x)
  rw [y1]
/-- coins laid beside a plain economy -/
theorem mm_coin {M : fs_M} {h c : Int} (hI : mm_I M) (h0 : M 131 h = 0) (hh : 0 ≤ h ∧ h < 6) (hc : -9999 ≤ c ∧ c ≤ 9999) : mm_I (fs_up M 131 h c) ∧ ec_eq (mm_E (fs_up M 131 h c)) (ec_giv (mm_E M) h c) := by
  have e : fs_up M 131 h c 125 = M 125 := fs_up_other (by decide)
  have e2 : fs_up M 131 h c 124 = M 124 := fs_up_other (by decide)
  refine ⟨?_, ?_⟩
  · unfold mm_I at *
    rw [e, e2]
    refine ⟨hI.1, fun q q0 q1 => ?_, hI.2.2⟩
    rw [fs_up_at]
    split
    · exact hc
    · exact hI.2.1 q q0 q1
  · have key : ∀ k i, k ≠ 7 → mm_E (fs_up M 131 h c) k i = mm_E M k i := by
      intro k i hk
      unfold mm_E
      rw [e, e2]
      split <;> first | rfl | exact absurd rfl hk
    refine ⟨key 0 0 (by decide), key 0 1 (by decide), key 0 2 (by decide), fun a _ _ => ⟨key 1 a (by decide), key 2 a (by decide), key 3 a (by decide), key 4 a (by decide), key 5 a (by decide)⟩, fun x x0 x1 => ⟨?_, key 8 x (by decide), key 9 _ (by decide), key 9 _ (by decide), key 9 _ (by decide)⟩, fun x a _ _ _ _ => key 10 _ (by decide), fun a x _ _ _ _ => key 11 _ (by decide)⟩
    have x6 : x < 6 := by
      have z : x < fs_up M 131 h c 125 1 := x1
      rw [e] at z
      have := hI.1.2.1.2
      omega
    show fs_up M 131 h c 125 (10 + 5 * x + 0) + (if 0 ≤ x ∧ x < 6 then fs_up M 131 h c 131 x else 0) - fs_up M 131 h c 125 (10 + 5 * x + 1) - fs_sum (fs_up M 131 h c 125 1).toNat (fun o => fs_up M 131 h c 125 (64 + 6 * x + o)) = (if 7 = 7 ∧ x = h then (M 125 (10 + 5 * x + 0) + (if 0 ≤ x ∧ x < 6 then M 131 x else 0) - M 125 (10 + 5 * x + 1) - fs_sum (M 125 1).toNat (fun o => M 125 (64 + 6 * x + o))) + c else (M 125 (10 + 5 * x + 0) + (if 0 ≤ x ∧ x < 6 then M 131 x else 0) - M 125 (10 + 5 * x + 1) - fs_sum (M 125 1).toNat (fun o => M 125 (64 + 6 * x + o))))
    simp only [e, if_pos (show 0 ≤ x ∧ x < 6 from ⟨x0, x6⟩), fs_up_at]
    by_cases q : x = h
    · rw [if_pos q, if_pos (show True ∧ x = h from ⟨trivial, q⟩), q, h0]
      omega
    · rw [if_neg q, if_neg (show ¬ (True ∧ x = h) from fun z => q z.2)]
theorem mm_q.u131 {M M2 : fs_M} {i v : Int} (h : mm_q M M2) : mm_q M (fs_up M2 131 i v) := ⟨fun r q => by rw [fs_up_other (by omega)]; exact h.1 r q, h.2.1, h.2.2⟩
noncomputable def rq_rescue (N : Int → Int) (h c x : Int) : Int := if (0 ≤ h ∧ h < N 1) ∧ (0 ≤ c ∧ c ≤ 9999) ∧ mm_ask N x then ec_tell (ec_giv (ec_pl N) h c) (ec_lst (ec_giv (ec_pl N) h c)) x else -1
/-- a house with so much more: none is fallen -/
def ec_safe (E : Nat → Int → Int) : Prop := ec_lst E 4 = 0
noncomputable def rq_coinsFor (N : Int → Int) (h : Int) : Int := @ite _ (0 ≤ h ∧ h < N 1) (Classical.propDecidable _) (@ite _ (ec_safe (ec_giv (ec_pl N) h 9999)) (Classical.propDecidable _) (fs_bsL (fun v => ec_safe (ec_giv (ec_pl N) h v)) 9999 0 9999) (-2)) (-1)
theorem fs_m_noneFalls {d : Nat} {M : fs_M} {Q : Option fs_V → fs_M → Prop}   (hI : mm_I M) (hq0 : ∀ (M2 : fs_M), (mm_f3 M M2) → (ec_safe (mm_E M)) → Q (some (.inl 1)) M2) (hq1 : ∀ (M2 : fs_M), (mm_f3 M M2) → (¬ ec_safe (mm_E M)) → Q (some (.inl 0)) M2) : fs_W (d + 8) 257 0 [some (.inr (.ref 124))] [] M Q := by
  refine fs_r_call (sta := false) (idx := 255) (as := [.inr (.ref 124)]) (rest := []) (L1 := [some (.inr (.ref 124))]) (st1 := [.inr (.ref 124)]) (M1 := M) (ob := []) rfl rfl rfl trivial rfl rfl (Nat.le_of_ble_eq_true rfl) ⟨Or.inr (Nat.le_of_ble_eq_true rfl), Or.inr fs_ob124⟩ (by decide) ?_
  refine fs_m_least (by assumption) (fun (V1 : fs_M) (g1 : mm_f3 M V1) (g2 : mm_st V1 = ec_fix (mm_E M) (ec_calm (mm_E M))) (g3 : mm_J V1) (g4 : mm_Z V1) (g5 : V1 124 17 = (ec_k (mm_E M) (ec_calm (mm_E M)) : Nat)) => ?_)
  have e4 : V1 124 15 = ec_lst (mm_E M) 4 := by rw [← mm_st_4 (M := V1), g2]; rfl
  refine fs_r_if (a := (V1 124 15)) (L1 := [some (.inr (.ref 124))]) (st1 := []) (M1 := V1) (ob := [124 < fs_N ∧ fs_kd 124 = 6]) rfl rfl (fs_oc fs_ob124 trivial) (fun (h1 : ¬ (V1 124 15) = 0) => ?_) (fun (h1 : ¬ (¬ (V1 124 15) = 0)) => ?_)
  · refine fs_r_nop (L1 := [some (.inr (.ref 124))]) (st1 := [.inl 0]) (M1 := V1) (ob := []) rfl rfl trivial ?_
    refine fs_r_iret (a := 0) (L1 := [some (.inr (.ref 124))]) (M1 := V1) (ob := []) rfl rfl trivial (Or.inr (Or.inl rfl)) ?_
    first
      | exact hq0 _ g1 (by unfold ec_safe; omega)
      | exact hq1 _ g1 (by unfold ec_safe; omega)
  refine fs_r_goto (L1 := [some (.inr (.ref 124))]) (st1 := [.inl 1]) (M1 := V1) (ob := []) rfl rfl trivial ?_
  refine fs_r_iret (a := 1) (L1 := [some (.inr (.ref 124))]) (M1 := V1) (ob := []) rfl rfl trivial (Or.inr (Or.inr rfl)) ?_
  first
    | exact hq0 _ g1 (by unfold ec_safe; omega)
    | exact hq1 _ g1 (by unfold ec_safe; omega)

theorem fs_m_rescue {d : Nat} {M : fs_M} {Q : Option fs_V → fs_M → Prop} {h : Int} {c : Int} {x : Int}  (hI : fs_NI (M 125)) (hq0 : ∀ (M2 : fs_M), (mm_q M M2) → Q (some (.inl (rq_rescue (M 125) h c x))) M2) : fs_W (d + 8) 253 0 [some (.inr (.ref 124)), some (.inl h), some (.inl c), some (.inl x)] [] M Q := by
  have hN := hI
  refine fs_r_call (sta := false) (idx := 237) (as := [.inr (.ref 124), .inl h]) (rest := []) (L1 := [some (.inr (.ref 124)), some (.inl h), some (.inl c), some (.inl x)]) (st1 := [.inl h, .inr (.ref 124)]) (M1 := M) (ob := []) rfl rfl rfl trivial rfl rfl (Nat.le_of_ble_eq_true rfl) ⟨Or.inr (Nat.le_of_ble_eq_true rfl), Or.inr fs_ob124⟩ (by decide) ?_
  refine fs_m_isHouse (by assumption) (fun (f1 : 0 ≤ h ∧ h < M 125 1) => ?_) (fun (f2 : ¬ (0 ≤ h ∧ h < M 125 1)) => ?_)
  · refine fs_r_if (a := 1) (L1 := [some (.inr (.ref 124)), some (.inl h), some (.inl c), some (.inl x)]) (st1 := []) (M1 := M) (ob := []) rfl rfl trivial (fun h => absurd h (by decide : ¬ ((1 : Int) = 0))) (fun _ => ?_)
    refine fs_r_call (sta := true) (idx := 68) (as := [.inl c, .inl 0, .inl 9999]) (rest := []) (L1 := [some (.inr (.ref 124)), some (.inl h), some (.inl c), some (.inl x)]) (st1 := [.inl 9999, .inl 0, .inl c]) (M1 := M) (ob := []) rfl rfl rfl trivial rfl rfl (Nat.le_of_ble_eq_true rfl) ⟨Or.inr (Nat.le_of_ble_eq_true rfl), trivial⟩ (by decide) ?_
    refine fs_m_isIn (fun (f3 : 0 ≤ c ∧ c ≤ 9999) => ?_) (fun (f4 : ¬ (0 ≤ c ∧ c ≤ 9999)) => ?_)
    · refine fs_r_if (a := 1) (L1 := [some (.inr (.ref 124)), some (.inl h), some (.inl c), some (.inl x)]) (st1 := []) (M1 := M) (ob := []) rfl rfl trivial (fun h => absurd h (by decide : ¬ ((1 : Int) = 0))) (fun _ => ?_)
      refine fs_r_call (sta := false) (idx := 267) (as := [.inr (.ref 124), .inl x]) (rest := []) (L1 := [some (.inr (.ref 124)), some (.inl h), some (.inl c), some (.inl x)]) (st1 := [.inl x, .inr (.ref 124)]) (M1 := M) (ob := []) rfl rfl rfl trivial rfl rfl (Nat.le_of_ble_eq_true rfl) ⟨Or.inr (Nat.le_of_ble_eq_true rfl), Or.inr fs_ob124⟩ (by decide) ?_
      refine fs_m_isAsked (by assumption) (fun (f5 : mm_ask (M 125) x) => ?_) (fun (f6 : ¬ (mm_ask (M 125) x)) => ?_)
      · refine fs_r_if (a := 1) (L1 := [some (.inr (.ref 124)), some (.inl h), some (.inl c), some (.inl x)]) (st1 := []) (M1 := M) (ob := []) rfl rfl trivial (fun _ => ?_) (fun h => absurd (by decide : ¬ (1 : Int) = 0) h)
        refine fs_r_call (sta := false) (idx := 252) (as := [.inr (.ref 124)]) (rest := []) (L1 := [some (.inr (.ref 124)), some (.inl h), some (.inl c), some (.inl x)]) (st1 := [.inr (.ref 124)]) (M1 := M) (ob := []) rfl rfl rfl trivial rfl rfl (Nat.le_of_ble_eq_true rfl) ⟨Or.inr (Nat.le_of_ble_eq_true rfl), Or.inr fs_ob124⟩ (by decide) ?_
        refine fs_m_plain (fun (P1 : fs_M) (pp : mm_P M P1) => ?_)
        have hb := hN.2.1.2
        have IP := pp.I hN
        obtain ⟨IC, eC⟩ := mm_coin (h := h) (c := c) IP (pp.2.2.1 h (by omega) (by omega)) (by omega) (by omega)
        have e9 := eC.tr (ec_giv_eq (pp.eq hN) h c)
        refine fs_r_call (sta := false) (idx := 255) (as := [.inr (.ref 124)]) (rest := []) (L1 := [some (.inr (.ref 124)), some (.inl h), some (.inl c), some (.inl x)]) (st1 := [.inr (.ref 124)]) (M1 := (fs_up P1 131 h c)) (ob := [124 < fs_N ∧ fs_kd 124 = 6, (131 < fs_N ∧ fs_kd 131 = 100) ∧ (0 : Int) ≤ h ∧ h < fs_ln 131]) rfl rfl rfl (fs_oc fs_ob124 (fs_oc (fs_ar131 (by omega) (by omega)) trivial)) rfl rfl (Nat.le_of_ble_eq_true rfl) ⟨Or.inr (Nat.le_of_ble_eq_true rfl), Or.inr fs_ob124⟩ (by decide) ?_
        refine fs_m_least (IC) (fun (V1 : fs_M) (g1 : mm_f3 (fs_up P1 131 h c) V1) (g2 : mm_st V1 = ec_fix (mm_E (fs_up P1 131 h c)) (ec_calm (mm_E (fs_up P1 131 h c)))) (g3 : mm_J V1) (g4 : mm_Z V1) (g5 : V1 124 17 = (ec_k (mm_E (fs_up P1 131 h c)) (ec_calm (mm_E (fs_up P1 131 h c))) : Nat)) => ?_)
        have I9 := g1.I IC
        have nV : V1 125 = M 125 := by rw [g1.N, fs_up_other (by decide), pp.N]
        refine fs_r_call (sta := false) (idx := 258) (as := [.inr (.ref 124), .inl x]) (rest := []) (L1 := [some (.inr (.ref 124)), some (.inl h), some (.inl c), some (.inl x)]) (st1 := [.inl x, .inr (.ref 124)]) (M1 := V1) (ob := []) rfl rfl rfl trivial rfl rfl (Nat.le_of_ble_eq_true rfl) ⟨Or.inr (Nat.le_of_ble_eq_true rfl), Or.inr fs_ob124⟩ (by decide) ?_
        refine fs_m_told (I9) (by assumption) (by rw [nV]; assumption) ?_
        refine fs_r_iret (a := (ec_tell (mm_E V1) (mm_st V1) x)) (L1 := [some (.inr (.ref 124)), some (.inl h), some (.inl c), some (.inl x)]) (M1 := V1) (ob := []) rfl rfl trivial (Or.inl rfl) ?_
        exact fs_qi (by unfold rq_rescue; rw [if_pos ⟨by assumption, by assumption, by assumption⟩, g1.E, e9.tell, g2]; congr 1; exact e9.lst (by show 0 ≤ fs_up P1 131 h c 125 1; rw [fs_up_other (by decide), pp.N]; exact hN.2.1.1) (mm_okc IC)) (hq0 _ ((mm_q.P pp).u131.tr (mm_q.f3 g1)))
      refine fs_r_if (a := 0) (L1 := [some (.inr (.ref 124)), some (.inl h), some (.inl c), some (.inl x)]) (st1 := []) (M1 := M) (ob := []) rfl rfl trivial (fun h => absurd h (by decide : ¬ (¬ (0 : Int) = 0))) (fun _ => ?_)
      refine fs_r_iret (a := (-1)) (L1 := [some (.inr (.ref 124)), some (.inl h), some (.inl c), some (.inl x)]) (M1 := M) (ob := []) rfl rfl trivial (Or.inl rfl) ?_
      exact fs_qi (by unfold rq_rescue; rw [if_neg (fun z => by first | exact absurd z.1 (by assumption) | exact absurd z.2.1 (by assumption) | exact absurd z.2.2 (by assumption))]) (hq0 _ mm_q.rf)
    refine fs_r_if (a := 0) (L1 := [some (.inr (.ref 124)), some (.inl h), some (.inl c), some (.inl x)]) (st1 := []) (M1 := M) (ob := []) rfl rfl trivial (fun _ => ?_) (fun h => absurd (by decide : (0 : Int) = 0) h)
    refine fs_r_iret (a := (-1)) (L1 := [some (.inr (.ref 124)), some (.inl h), some (.inl c), some (.inl x)]) (M1 := M) (ob := []) rfl rfl trivial (Or.inl rfl) ?_
    exact fs_qi (by unfold rq_rescue; rw [if_neg (fun z => by first | exact absurd z.1 (by assumption) | exact absurd z.2.1 (by assumption) | exact absurd z.2.2 (by assumption))]) (hq0 _ mm_q.rf)
  refine fs_r_if (a := 0) (L1 := [some (.inr (.ref 124)), some (.inl h), some (.inl c), some (.inl x)]) (st1 := []) (M1 := M) (ob := []) rfl rfl trivial (fun _ => ?_) (fun h => absurd (by decide : (0 : Int) = 0) h)
  refine fs_r_iret (a := (-1)) (L1 := [some (.inr (.ref 124)), some (.inl h), some (.inl c), some (.inl x)]) (M1 := M) (ob := []) rfl rfl trivial (Or.inl rfl) ?_
  exact fs_qi (by unfold rq_rescue; rw [if_neg (fun z => by first | exact absurd z.1 (by assumption) | exact absurd z.2.1 (by assumption) | exact absurd z.2.2 (by assumption))]) (hq0 _ mm_q.rf)
