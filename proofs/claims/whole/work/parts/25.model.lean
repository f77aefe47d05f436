theorem mm_em {M : fs_M} (hI : mm_I M) : ec_em (mm_E M) := by
  obtain ⟨hN, -, -, -, -, ⟨i0, i1⟩, ⟨f0, f1⟩⟩ := hI
  obtain ⟨hA, hH, hcv, hfc, hhd, hln, hsh, hit, hst⟩ := id hN
  refine ⟨hA, hH, ⟨f0, f1⟩, fun a a0 a1 => ?_, fun h h0 h1 => ?_, fun h a h0 h1 a0 a1 => ?_, fun o h o0 o1 h0 h1 => ?_⟩
  · have a2 : a < M 125 0 := a1
    have c := mm_cap_b (a := a) hN
    refine ⟨(hcv a a0 (by omega)).2.1, ?_⟩
    show 0 ≤ (if a = M 124 19 ∧ M 124 20 < mm_cap (M 125) a then M 124 20 else mm_cap (M 125) a) ∧ (if a = M 124 19 ∧ M 124 20 < mm_cap (M 125) a then M 124 20 else mm_cap (M 125) a) ≤ 360
    split <;> omega
  · have w := (hst h h0 h1).1
    show 1 ≤ M 125 (10 + (5 * h + 3))
    rw [show 10 + (5 * h + 3) = 10 + 5 * h + 3 by omega]
    exact w
  · have a2 : a < M 125 0 := a1
    have h2 : h < M 125 1 := h1
    have w := (hhd h a h0 (by omega) a0 (by omega)).1
    show 0 ≤ M 125 (40 + (4 * h + a))
    rw [show 40 + (4 * h + a) = 40 + 4 * h + a by omega]
    exact w
  · have o2 : o < M 125 1 := o1
    have h2 : h < M 125 1 := h1
    have w := (hln o h o0 (by omega) h0 (by omega)).1
    show 0 ≤ M 125 (64 + (6 * o + h))
    rw [show 64 + (6 * o + h) = 64 + 6 * o + h by omega]
    exact w
theorem mm_hd {M : fs_M} : ec_hd (mm_E M) := fun a _ _ => by
  have e : fs_sum (M 125 1).toNat (fun h => M 125 (40 + (4 * h + a))) = fs_sum (M 125 1).toNat (fun h => M 125 (40 + 4 * h + a)) := fs_sum_c (fun i _ _ => by rw [show 40 + (4 * i + a) = 40 + 4 * i + a by omega])
  exact Int.le_of_eq e
theorem mm_okc {M : fs_M} (hI : mm_I M) : ec_ok (mm_E M) (ec_calm (mm_E M)) := ec_up (mm_em hI)
theorem mm_okp {M : fs_M} (hI : mm_I M) : ec_ok (mm_E M) (ec_panic (mm_E M)) := ec_down (mm_em hI) mm_hd
def ec_pl (N : Int → Int) : Nat → Int → Int := fun c i => match c with
  | 0 => if i = 0 then N 0 else if i = 1 then N 1 else 0
  | 1 => N (2 + i) - mm_shock N i
  | 2 => N (6 + i)
  | 3 => mm_cap N i
  | 4 => 0
  | 5 => mm_held N i
  | 7 => N (10 + 5 * i + 0) - N (10 + 5 * i + 1) - fs_sum (N 1).toNat (fun o => N (64 + 6 * i + o))
  | 8 => mm_pieces N i
  | 9 => N (10 + i)
  | 10 => N (40 + i)
  | _ => N (64 + i)
/-- what asking leaves as it was: all that is told, the acts, the tape, the class's own cells, the script -/
def mm_q (M M2 : fs_M) : Prop := (∀ r, (r < 124 ∨ r = 125 ∨ r = 127 ∨ r = 128 ∨ 138 < r) → M2 r = M r) ∧ M2 124 4 = M 124 4 ∧ M2 124 6 = M 124 6
theorem mm_q.rf {M : fs_M} : mm_q M M := ⟨fun _ _ => rfl, rfl, rfl⟩
theorem mm_q.tr {A B C : fs_M} (h : mm_q A B) (k : mm_q B C) : mm_q A C := ⟨fun r q => (k.1 r q).trans (h.1 r q), k.2.1.trans h.2.1, k.2.2.trans h.2.2⟩
theorem mm_q.f3 {M M2 : fs_M} (h : mm_f3 M M2) : mm_q M M2 := ⟨fun r q => h.1 r (by omega) (by omega) (by omega), h.2 4 (by decide) (by decide) (by decide), h.2 6 (by decide) (by decide) (by decide)⟩
theorem mm_q.f2 {M M2 : fs_M} (h : mm_f2 M M2) : mm_q M M2 := mm_q.f3 (mm_f3.of2 h)
theorem mm_q.P {M M2 : fs_M} (h : mm_P M M2) : mm_q M M2 := ⟨fun r q => h.1 r (by omega) (by omega), h.2.1 4 (by omega), h.2.1 6 (by omega)⟩
theorem mm_q.N {M M2 : fs_M} (h : mm_q M M2) : M2 125 = M 125 := h.1 125 (by omega)
theorem mm_P.eq {M M2 : fs_M} (h : mm_P M M2) (hN : fs_NI (M 125)) : ec_eq (mm_E M2) (ec_pl (M 125)) := by
  obtain ⟨h1, h2, h3, h4, h5, h6, h7, h8, h9, h10⟩ := h
  have e := h1 125 (by decide) (by decide)
  refine ⟨by show M2 125 0 = M 125 0; rw [e], by show M2 125 1 = M 125 1; rw [e], h10, fun a a0 a1 => ⟨?_, ?_, ?_, ?_, ?_⟩, fun q q0 q1 => ⟨?_, ?_, ?_, ?_, ?_⟩, fun q a _ _ _ _ => ?_, fun o q _ _ _ _ => ?_⟩
  · show M2 125 (2 + a) * M2 124 24 / 100 - (mm_shock (M2 125) a + (if a = M2 124 19 then M2 124 21 else 0)) = M 125 (2 + a) - mm_shock (M 125) a
    rw [e, h9, h4, if_neg (by omega)]
    omega
  · show M2 125 (6 + a) = M 125 (6 + a)
    rw [e]
  · show (if a = M2 124 19 ∧ M2 124 20 < mm_cap (M2 125) a then M2 124 20 else mm_cap (M2 125) a) = mm_cap (M 125) a
    rw [e, h4, if_neg (by omega)]
  · show (if a = M2 124 22 then M2 124 23 else 0) = 0
    rw [h7, if_neg (by omega)]
  · show mm_held (M2 125) a = mm_held (M 125) a
    rw [e]
  · show M2 125 (10 + 5 * q + 0) + (if 0 ≤ q ∧ q < 6 then M2 131 q else 0) - M2 125 (10 + 5 * q + 1) - fs_sum (M2 125 1).toNat (fun o => M2 125 (64 + 6 * q + o)) = M 125 (10 + 5 * q + 0) - M 125 (10 + 5 * q + 1) - fs_sum (M 125 1).toNat (fun o => M 125 (64 + 6 * q + o))
    have q2 : q < 6 := by
      have : q < M2 125 1 := q1
      rw [e] at this
      have := hN.2.1.2
      omega
    rw [e, if_pos ⟨q0, q2⟩, h3 q q0 q2]
    omega
  · show mm_pieces (M2 125) q = mm_pieces (M 125) q
    rw [e]
  all_goals (first | (show M2 125 _ = M 125 _; rw [e]))
/-- who may be asked for what -/
abbrev mm_ask (N : Int → Int) (w : Int) : Prop := (0 ≤ w ∧ w < 4 ∧ w < N 0) ∨ (4 ≤ w ∧ w ≤ 7)
theorem mm_lost_b {M : fs_M} {a : Int} (hI : mm_I M) (ha : 0 ≤ a ∧ a < 4) {n : Int} (hn : 0 ≤ n) : 0 ≤ mm_held (M 125) a * (ec_price (mm_E M) a 0 - ec_price (mm_E M) a n) ∧ mm_held (M 125) a * (ec_price (mm_E M) a 0 - ec_price (mm_E M) a n) ≤ 360 * 200 := by
  have h1 := mm_held_b hI.1 ha
  have h2 := mm_price_b (n := 0) hI ha
  have h3 := mm_price_b (n := n) hI ha
  have h4 : ec_price (mm_E M) a n ≤ ec_price (mm_E M) a 0 := by
    have q : 0 ≤ mm_E M 2 a := (hI.1.2.2.1 a ha.1 ha.2).2.1
    have h5 : mm_E M 2 a * max 0 (0 - mm_E M 4 a) ≤ mm_E M 2 a * max 0 (n - mm_E M 4 a) := Int.mul_le_mul_of_nonneg_left (by omega) q
    unfold ec_price
    omega
  exact ⟨Int.mul_nonneg h1.1 (by omega), Int.mul_le_mul h1.2 (by omega) (by omega) (by omega)⟩
theorem fs_m_least {d : Nat} {M : fs_M} {Q : Option fs_V → fs_M → Prop}   (hI : mm_I M) (hq0 : ∀ (M2 : fs_M), (mm_f3 M M2) → (mm_st M2 = ec_fix (mm_E M) (ec_calm (mm_E M))) → (mm_J M2) → (mm_Z M2) → (M2 124 17 = (ec_k (mm_E M) (ec_calm (mm_E M)) : Nat)) → Q none M2) : fs_W (d + 7) 200 0 [some (.inr (.ref 124))] [] M Q := by
  refine fs_r_call (sta := false) (idx := 215) (as := [.inr (.ref 124)]) (rest := []) (L1 := [some (.inr (.ref 124))]) (st1 := [.inr (.ref 124)]) (M1 := M) (ob := []) rfl rfl rfl trivial rfl rfl (Nat.le_of_ble_eq_true rfl) ⟨Or.inr (Nat.le_of_ble_eq_true rfl), Or.inr fs_ob124⟩ (by decide) ?_
  refine fs_m_calm (by assumption) (fun (v1 : fs_M) (c1 : mm_f2 M v1) (c2 : mm_st v1 = ec_calm (mm_E M)) (c3 : mm_J v1) (c4 : mm_Z v1) => ?_)
  refine fs_r_call (sta := false) (idx := 218) (as := [.inr (.ref 124)]) (rest := []) (L1 := [some (.inr (.ref 124))]) (st1 := [.inr (.ref 124)]) (M1 := v1) (ob := []) rfl rfl rfl trivial rfl rfl (Nat.le_of_ble_eq_true rfl) ⟨Or.inr (Nat.le_of_ble_eq_true rfl), Or.inr fs_ob124⟩ (by decide) ?_
  refine fs_m_settles (c1.I hI) (c3) (c4) (by rw [c1.E, c2]; exact mm_okc hI) (fun (v2 : fs_M) (g1 : mm_f3 v1 v2) (g2 : mm_st v2 = ec_fix (mm_E v1) (mm_st v1)) (g3 : mm_J v2) (g4 : mm_Z v2) (g5 : v2 124 17 = (ec_k (mm_E v1) (mm_st v1) : Nat)) => ?_)
  refine fs_r_ret (L1 := [some (.inr (.ref 124))]) (M1 := v2) (ob := []) rfl rfl trivial ?_
  exact hq0 _ ((mm_f3.of2 c1).tr g1) (by rw [g2, c1.E, c2]) g3 g4 (by rw [g5, c1.E, c2])

theorem fs_m_stands {d : Nat} {M : fs_M} {Q : Option fs_V → fs_M → Prop} {w : Int}  (hI : mm_I M) (hw : 0 ≤ w ∧ w ≤ 3) (hq0 : ∀ (M2 : fs_M), (mm_f3 M M2) → (mm_st M2 = ec_std (mm_E M) w) → (mm_J M2) → (mm_Z M2) → ((w = 1 → M2 124 17 = (ec_k (mm_E M) (ec_calm (mm_E M)) : Nat)) ∧ (w = 2 → M2 124 17 = (ec_k (mm_E M) (ec_panic (mm_E M)) : Nat))) → Q none M2) : fs_W (d + 7) 201 0 [some (.inr (.ref 124)), some (.inl w)] [] M Q := by
  refine fs_r_icmp (a := w) (y := 2) (L1 := [some (.inr (.ref 124)), some (.inl w)]) (st1 := []) (M1 := M) (ob := []) rfl rfl trivial (fun (h1 : 2 ≤ w) => ?_) (fun (h1 : ¬ (2 ≤ w)) => ?_)
  · refine fs_r_call (sta := false) (idx := 221) (as := [.inr (.ref 124)]) (rest := []) (L1 := [some (.inr (.ref 124)), some (.inl w)]) (st1 := [.inr (.ref 124)]) (M1 := M) (ob := []) rfl rfl rfl trivial rfl rfl (Nat.le_of_ble_eq_true rfl) ⟨Or.inr (Nat.le_of_ble_eq_true rfl), Or.inr fs_ob124⟩ (by decide) ?_
    refine fs_m_panic (by assumption) (fun (v2 : fs_M) (c1 : mm_f2 M v2) (c2 : mm_st v2 = ec_panic (mm_E M)) (c3 : mm_J v2) (c4 : mm_Z v2) => ?_)
    refine fs_r_icmp (a := w) (y := 1) (L1 := [some (.inr (.ref 124)), some (.inl w)]) (st1 := []) (M1 := v2) (ob := []) rfl rfl trivial (fun (h3 : w = 1) => ?_) (fun (h3 : ¬ (w = 1)) => ?_)
    · refine fs_r_call (sta := false) (idx := 218) (as := [.inr (.ref 124)]) (rest := []) (L1 := [some (.inr (.ref 124)), some (.inl w)]) (st1 := [.inr (.ref 124)]) (M1 := v2) (ob := []) rfl rfl rfl trivial rfl rfl (Nat.le_of_ble_eq_true rfl) ⟨Or.inr (Nat.le_of_ble_eq_true rfl), Or.inr fs_ob124⟩ (by decide) ?_
      refine fs_m_settles (c1.I hI) (c3) (c4) (by rw [c1.E, c2]; first | with_reducible exact mm_okc hI | with_reducible exact mm_okp hI) (fun (v4 : fs_M) (g1 : mm_f3 v2 v4) (g2 : mm_st v4 = ec_fix (mm_E v2) (mm_st v2)) (g3 : mm_J v4) (g4 : mm_Z v4) (g5 : v4 124 17 = (ec_k (mm_E v2) (mm_st v2) : Nat)) => ?_)
      refine fs_r_ret (L1 := [some (.inr (.ref 124)), some (.inl w)]) (M1 := v4) (ob := []) rfl rfl trivial ?_
      first
        | (exfalso; omega)
        | exact hq0 _ ((mm_f3.of2 c1).tr g1) (by rw [g2, c1.E, c2]; unfold ec_std; first | (rw [if_neg (by omega), if_pos (by omega)]) | (rw [if_neg (by omega), if_neg (by omega), if_pos (by omega)])) g3 g4 ⟨fun q => by first | (exfalso; omega) | (rw [g5, c1.E, c2]), fun q => by first | (exfalso; omega) | (rw [g5, c1.E, c2])⟩
        | exact hq0 _ (mm_f3.of2 c1) (by rw [c2]; unfold ec_std; first | (rw [if_pos (by omega)]) | (rw [if_neg (by omega), if_neg (by omega), if_neg (by omega)])) c3 c4 ⟨fun q => by omega, fun q => by omega⟩
    refine fs_r_icmp (a := w) (y := 2) (L1 := [some (.inr (.ref 124)), some (.inl w)]) (st1 := []) (M1 := v2) (ob := []) rfl rfl trivial (fun (h5 : ¬ w = 2) => ?_) (fun (h5 : ¬ (¬ w = 2)) => ?_)
    · refine fs_r_ret (L1 := [some (.inr (.ref 124)), some (.inl w)]) (M1 := v2) (ob := []) rfl rfl trivial ?_
      first
        | (exfalso; omega)
        | exact hq0 _ ((mm_f3.of2 c1).tr g1) (by rw [g2, c1.E, c2]; unfold ec_std; first | (rw [if_neg (by omega), if_pos (by omega)]) | (rw [if_neg (by omega), if_neg (by omega), if_pos (by omega)])) g3 g4 ⟨fun q => by first | (exfalso; omega) | (rw [g5, c1.E, c2]), fun q => by first | (exfalso; omega) | (rw [g5, c1.E, c2])⟩
        | exact hq0 _ (mm_f3.of2 c1) (by rw [c2]; unfold ec_std; first | (rw [if_pos (by omega)]) | (rw [if_neg (by omega), if_neg (by omega), if_neg (by omega)])) c3 c4 ⟨fun q => by omega, fun q => by omega⟩
    refine fs_r_call (sta := false) (idx := 218) (as := [.inr (.ref 124)]) (rest := []) (L1 := [some (.inr (.ref 124)), some (.inl w)]) (st1 := [.inr (.ref 124)]) (M1 := v2) (ob := []) rfl rfl rfl trivial rfl rfl (Nat.le_of_ble_eq_true rfl) ⟨Or.inr (Nat.le_of_ble_eq_true rfl), Or.inr fs_ob124⟩ (by decide) ?_
    refine fs_m_settles (c1.I hI) (c3) (c4) (by rw [c1.E, c2]; first | with_reducible exact mm_okc hI | with_reducible exact mm_okp hI) (fun (v6 : fs_M) (g1 : mm_f3 v2 v6) (g2 : mm_st v6 = ec_fix (mm_E v2) (mm_st v2)) (g3 : mm_J v6) (g4 : mm_Z v6) (g5 : v6 124 17 = (ec_k (mm_E v2) (mm_st v2) : Nat)) => ?_)
    refine fs_r_ret (L1 := [some (.inr (.ref 124)), some (.inl w)]) (M1 := v6) (ob := []) rfl rfl trivial ?_
    first
      | (exfalso; omega)
      | exact hq0 _ ((mm_f3.of2 c1).tr g1) (by rw [g2, c1.E, c2]; unfold ec_std; first | (rw [if_neg (by omega), if_pos (by omega)]) | (rw [if_neg (by omega), if_neg (by omega), if_pos (by omega)])) g3 g4 ⟨fun q => by first | (exfalso; omega) | (rw [g5, c1.E, c2]), fun q => by first | (exfalso; omega) | (rw [g5, c1.E, c2])⟩
      | exact hq0 _ (mm_f3.of2 c1) (by rw [c2]; unfold ec_std; first | (rw [if_pos (by omega)]) | (rw [if_neg (by omega), if_neg (by omega), if_neg (by omega)])) c3 c4 ⟨fun q => by omega, fun q => by omega⟩
  refine fs_r_call (sta := false) (idx := 215) (as := [.inr (.ref 124)]) (rest := []) (L1 := [some (.inr (.ref 124)), some (.inl w)]) (st1 := [.inr (.ref 124)]) (M1 := M) (ob := []) rfl rfl rfl trivial rfl rfl (Nat.le_of_ble_eq_true rfl) ⟨Or.inr (Nat.le_of_ble_eq_true rfl), Or.inr fs_ob124⟩ (by decide) ?_
  refine fs_m_calm (by assumption) (fun (v7 : fs_M) (c1 : mm_f2 M v7) (c2 : mm_st v7 = ec_calm (mm_E M)) (c3 : mm_J v7) (c4 : mm_Z v7) => ?_)
  refine fs_r_goto (L1 := [some (.inr (.ref 124)), some (.inl w)]) (st1 := []) (M1 := v7) (ob := []) rfl rfl trivial ?_
  refine fs_r_icmp (a := w) (y := 1) (L1 := [some (.inr (.ref 124)), some (.inl w)]) (st1 := []) (M1 := v7) (ob := []) rfl rfl trivial (fun (h8 : w = 1) => ?_) (fun (h8 : ¬ (w = 1)) => ?_)
  · refine fs_r_call (sta := false) (idx := 218) (as := [.inr (.ref 124)]) (rest := []) (L1 := [some (.inr (.ref 124)), some (.inl w)]) (st1 := [.inr (.ref 124)]) (M1 := v7) (ob := []) rfl rfl rfl trivial rfl rfl (Nat.le_of_ble_eq_true rfl) ⟨Or.inr (Nat.le_of_ble_eq_true rfl), Or.inr fs_ob124⟩ (by decide) ?_
    refine fs_m_settles (c1.I hI) (c3) (c4) (by rw [c1.E, c2]; first | with_reducible exact mm_okc hI | with_reducible exact mm_okp hI) (fun (v9 : fs_M) (g1 : mm_f3 v7 v9) (g2 : mm_st v9 = ec_fix (mm_E v7) (mm_st v7)) (g3 : mm_J v9) (g4 : mm_Z v9) (g5 : v9 124 17 = (ec_k (mm_E v7) (mm_st v7) : Nat)) => ?_)
    refine fs_r_ret (L1 := [some (.inr (.ref 124)), some (.inl w)]) (M1 := v9) (ob := []) rfl rfl trivial ?_
    first
      | (exfalso; omega)
      | exact hq0 _ ((mm_f3.of2 c1).tr g1) (by rw [g2, c1.E, c2]; unfold ec_std; first | (rw [if_neg (by omega), if_pos (by omega)]) | (rw [if_neg (by omega), if_neg (by omega), if_pos (by omega)])) g3 g4 ⟨fun q => by first | (exfalso; omega) | (rw [g5, c1.E, c2]), fun q => by first | (exfalso; omega) | (rw [g5, c1.E, c2])⟩
      | exact hq0 _ (mm_f3.of2 c1) (by rw [c2]; unfold ec_std; first | (rw [if_pos (by omega)]) | (rw [if_neg (by omega), if_neg (by omega), if_neg (by omega)])) c3 c4 ⟨fun q => by omega, fun q => by omega⟩
  refine fs_r_icmp (a := w) (y := 2) (L1 := [some (.inr (.ref 124)), some (.inl w)]) (st1 := []) (M1 := v7) (ob := []) rfl rfl trivial (fun (h10 : ¬ w = 2) => ?_) (fun (h10 : ¬ (¬ w = 2)) => ?_)
  · refine fs_r_ret (L1 := [some (.inr (.ref 124)), some (.inl w)]) (M1 := v7) (ob := []) rfl rfl trivial ?_
    first
      | (exfalso; omega)
      | exact hq0 _ ((mm_f3.of2 c1).tr g1) (by rw [g2, c1.E, c2]; unfold ec_std; first | (rw [if_neg (by omega), if_pos (by omega)]) | (rw [if_neg (by omega), if_neg (by omega), if_pos (by omega)])) g3 g4 ⟨fun q => by first | (exfalso; omega) | (rw [g5, c1.E, c2]), fun q => by first | (exfalso; omega) | (rw [g5, c1.E, c2])⟩
      | exact hq0 _ (mm_f3.of2 c1) (by rw [c2]; unfold ec_std; first | (rw [if_pos (by omega)]) | (rw [if_neg (by omega), if_neg (by omega), if_neg (by omega)])) c3 c4 ⟨fun q => by omega, fun q => by omega⟩
  refine fs_r_call (sta := false) (idx := 218) (as := [.inr (.ref 124)]) (rest := []) (L1 := [some (.inr (.ref 124)), some (.inl w)]) (st1 := [.inr (.ref 124)]) (M1 := v7) (ob := []) rfl rfl rfl trivial rfl rfl (Nat.le_of_ble_eq_true rfl) ⟨Or.inr (Nat.le_of_ble_eq_true rfl), Or.inr fs_ob124⟩ (by decide) ?_
  refine fs_m_settles (c1.I hI) (c3) (c4) (by rw [c1.E, c2]; first | with_reducible exact mm_okc hI | with_reducible exact mm_okp hI) (fun (v11 : fs_M) (g1 : mm_f3 v7 v11) (g2 : mm_st v11 = ec_fix (mm_E v7) (mm_st v7)) (g3 : mm_J v11) (g4 : mm_Z v11) (g5 : v11 124 17 = (ec_k (mm_E v7) (mm_st v7) : Nat)) => ?_)
  refine fs_r_ret (L1 := [some (.inr (.ref 124)), some (.inl w)]) (M1 := v11) (ob := []) rfl rfl trivial ?_
  first
    | (exfalso; omega)
    | exact hq0 _ ((mm_f3.of2 c1).tr g1) (by rw [g2, c1.E, c2]; unfold ec_std; first | (rw [if_neg (by omega), if_pos (by omega)]) | (rw [if_neg (by omega), if_neg (by omega), if_pos (by omega)])) g3 g4 ⟨fun q => by first | (exfalso; omega) | (rw [g5, c1.E, c2]), fun q => by first | (exfalso; omega) | (rw [g5, c1.E, c2])⟩
    | exact hq0 _ (mm_f3.of2 c1) (by rw [c2]; unfold ec_std; first | (rw [if_pos (by omega)]) | (rw [if_neg (by omega), if_neg (by omega), if_neg (by omega)])) c3 c4 ⟨fun q => by omega, fun q => by omega⟩

theorem fs_m_bits {d : Nat} {M : fs_M} {Q : Option fs_V → fs_M → Prop} {f : Int}  (hf : 0 ≤ f ∧ f < 64) (hq0 : Q (some (.inl (fs_pop f))) M) : fs_W (d) 170 0 [some (.inl f), none, none] [] M Q := by
  refine fs_r_nop (L1 := [some (.inl f), some (.inl 0), some (.inl 0)]) (st1 := []) (M1 := M) (ob := [1 < 3, 2 < 3]) rfl rfl (fs_oc (by decide) (fs_oc (by decide) trivial)) ?_
  have loop4 : ∀ (n4 : Nat) (n : Int) (k : Int), (0 ≤ k ∧ k ≤ 6) → (n = fs_sum k.toNat (fun q => fs_bt f q)) → (0 ≤ n ∧ n ≤ k) → 6 - k < (n4 : Int) → fs_W (d) 170 4 [some (.inl f), some (.inl n), some (.inl k)] [] M Q := by
    intro n4
    induction n4 with
    | zero =>
      intro n k i0 i1 i2 hm4
      exfalso
      omega
    | succ n4 ih4 =>
      intro n k i0 i1 i2 hm4
      refine fs_r_icmp (a := k) (y := 6) (L1 := [some (.inl f), some (.inl n), some (.inl k)]) (st1 := []) (M1 := M) (ob := []) rfl rfl trivial (fun (h1 : 6 ≤ k) => ?_) (fun (h1 : ¬ (6 ≤ k)) => ?_)
      · refine fs_r_iret (a := n) (L1 := [some (.inl f), some (.inl n), some (.inl k)]) (M1 := M) (ob := []) rfl rfl trivial (Or.inl rfl) ?_
        exact fs_qi (by rw [i1, show k = 6 by omega]; rfl) hq0
      have q := fs_bt01 hf.1 hf.2 i0.1 (show k < 6 by omega)
      unfold fs_bt at q
      refine fs_r_goto (L1 := [some (.inl f), some (.inl (n + (fs_and (fs_shr f k) 1))), some (.inl (k + 1))]) (st1 := []) (M1 := M) (ob := [fs_rg (n + (fs_and (fs_shr f k) 1)), 1 < 3, fs_rg (k + 1)]) rfl (fs_exA 6 (o1 := []) (L1 := [some (.inl f), some (.inl n), some (.inl k)]) (st1 := [.inl (fs_and (fs_shr f k) 1), .inl n]) (M1 := M) (o2 := [fs_rg (n + (fs_and (fs_shr f k) 1)), 1 < 3, fs_rg (k + 1)]) rfl rfl) (fs_oc ⟨by omega, by omega⟩ (fs_oc (by decide) (fs_oc ⟨by omega, by omega⟩ trivial))) ?_
      exact ih4 ((n + (fs_and (fs_shr f k) 1))) ((k + 1)) (by omega) (by rw [fs_sum_s i0.1, i1]; rfl) (by omega) (by omega)
  exact loop4 (((6 - (0)) : Int) + 1).toNat (0) (0) (by omega) (rfl) (by omega) (by omega)

theorem fs_m_lost {d : Nat} {M : fs_M} {Q : Option fs_V → fs_M → Prop}   (hI : mm_I M) (hJ : mm_J M) (hq0 : Q (some (.inl (ec_lost (mm_E M) (mm_st M)))) M) : fs_W (d + 3) 202 0 [some (.inr (.ref 124)), none, none] [] M Q := by
  obtain ⟨hN, hco, ⟨hp0, hp1⟩, ⟨hx0, hx1⟩, ⟨hb0, hb1⟩, ⟨hc0, hc1⟩, ⟨hfo0, hfo1⟩⟩ := id hI
  obtain ⟨⟨hA0, hA1⟩, ⟨hH0, hH1⟩, hcv, hfc, hhd, hln, hsh, hit, hst⟩ := id hN
  obtain ⟨⟨hf0, hf1⟩, hsd⟩ := id hJ
  refine fs_r_nop (L1 := [some (.inr (.ref 124)), some (.inl 0), some (.inl 0)]) (st1 := []) (M1 := M) (ob := [1 < 3, 2 < 3]) rfl rfl (fs_oc (by decide) (fs_oc (by decide) trivial)) ?_
  have loop4 : ∀ (n4 : Nat) (n : Int) (a : Int), (0 ≤ a ∧ a ≤ M 125 0) → (n = fs_sum a.toNat (fun q => mm_held (M 125) q * (ec_price (mm_E M) q 0 - ec_price (mm_E M) q (mm_st M q)))) → (0 ≤ n ∧ n ≤ 72000 * a) → M 125 0 - a < (n4 : Int) → fs_W (d + 3) 202 4 [some (.inr (.ref 124)), some (.inl n), some (.inl a)] [] M Q := by
    intro n4
    induction n4 with
    | zero =>
      intro n a i0 i1 i2 hm4
      exfalso
      omega
    | succ n4 ih4 =>
      intro n a i0 i1 i2 hm4
      refine fs_r_icmp (a := a) (y := (M 125 0)) (L1 := [some (.inr (.ref 124)), some (.inl n), some (.inl a)]) (st1 := []) (M1 := M) (ob := [124 < fs_N ∧ fs_kd 124 = 6, (125 < fs_N ∧ fs_kd 125 = 100) ∧ (0 : Int) ≤ 0 ∧ 0 < fs_ln 125]) rfl rfl (fs_oc fs_ob124 (fs_oc (fs_ar125 (by omega) (by omega)) trivial)) (fun (h1 : (M 125 0) ≤ a) => ?_) (fun (h1 : ¬ ((M 125 0) ≤ a)) => ?_)
      · refine fs_r_iret (a := n) (L1 := [some (.inr (.ref 124)), some (.inl n), some (.inl a)]) (M1 := M) (ob := []) rfl rfl trivial (Or.inl rfl) ?_
        exact fs_qi (by rw [i1, show a = M 125 0 by omega]; rfl) hq0
      have a1 := hsd a (by omega) (by omega)
      have a2 := mm_lost_b hI (a := a) (by omega) a1.1
      have a3 := mm_price_b (a := a) (n := 0) hI (by omega)
      have a4 := mm_price_b (a := a) (n := M 129 a) hI (by omega)
      refine fs_r_call (sta := false) (idx := 205) (as := [.inr (.ref 124), .inl a]) (rest := [.inl n]) (L1 := [some (.inr (.ref 124)), some (.inl n), some (.inl a)]) (st1 := [.inl a, .inr (.ref 124), .inl n]) (M1 := M) (ob := []) rfl rfl rfl trivial rfl rfl (Nat.le_of_ble_eq_true rfl) ⟨Or.inr (Nat.le_of_ble_eq_true rfl), Or.inr fs_ob124⟩ (by decide) ?_
      refine fs_m_heldOf (hN) (by omega) ?_
      refine fs_r_call (sta := false) (idx := 178) (as := [.inr (.ref 124), .inl a, .inl 0]) (rest := [.inl (mm_held (M 125) a), .inl n]) (L1 := [some (.inr (.ref 124)), some (.inl n), some (.inl a)]) (st1 := [.inl 0, .inl a, .inr (.ref 124), .inl (mm_held (M 125) a), .inl n]) (M1 := M) (ob := []) rfl rfl rfl trivial rfl rfl (Nat.le_of_ble_eq_true rfl) ⟨Or.inr (Nat.le_of_ble_eq_true rfl), Or.inr fs_ob124⟩ (by decide) ?_
      refine fs_m_priceBy (by assumption) (by omega) (by omega) ?_
      refine fs_r_call (sta := false) (idx := 178) (as := [.inr (.ref 124), .inl a, .inl (M 129 a)]) (rest := [.inl (ec_price (mm_E M) a 0), .inl (mm_held (M 125) a), .inl n]) (L1 := [some (.inr (.ref 124)), some (.inl n), some (.inl a)]) (st1 := [.inl (M 129 a), .inl a, .inr (.ref 124), .inl (ec_price (mm_E M) a 0), .inl (mm_held (M 125) a), .inl n]) (M1 := M) (ob := [124 < fs_N ∧ fs_kd 124 = 6, (129 < fs_N ∧ fs_kd 129 = 100) ∧ (0 : Int) ≤ a ∧ a < fs_ln 129]) rfl rfl rfl (fs_oc fs_ob124 (fs_oc (fs_ar129 (by omega) (by omega)) trivial)) rfl rfl (Nat.le_of_ble_eq_true rfl) ⟨Or.inr (Nat.le_of_ble_eq_true rfl), Or.inr fs_ob124⟩ (by decide) ?_
      refine fs_m_priceBy (by assumption) (by omega) (by omega) ?_
      refine fs_r_goto (L1 := [some (.inr (.ref 124)), some (.inl (n + ((mm_held (M 125) a) * ((ec_price (mm_E M) a 0) - (ec_price (mm_E M) a (M 129 a)))))), some (.inl (a + 1))]) (st1 := []) (M1 := M) (ob := [fs_rg ((ec_price (mm_E M) a 0) - (ec_price (mm_E M) a (M 129 a))), fs_rg ((mm_held (M 125) a) * ((ec_price (mm_E M) a 0) - (ec_price (mm_E M) a (M 129 a)))), fs_rg (n + ((mm_held (M 125) a) * ((ec_price (mm_E M) a 0) - (ec_price (mm_E M) a (M 129 a))))), 1 < 3, fs_rg (a + 1)]) rfl rfl (fs_oc ⟨by omega, by omega⟩ (fs_oc ⟨by omega, by omega⟩ (fs_oc ⟨by omega, by omega⟩ (fs_oc (by decide) (fs_oc ⟨by omega, by omega⟩ trivial))))) ?_
      exact ih4 ((n + ((mm_held (M 125) a) * ((ec_price (mm_E M) a 0) - (ec_price (mm_E M) a (M 129 a)))))) ((a + 1)) (by omega) (by rw [fs_sum_s i0.1, i1, mm_st_at (by omega)]) (by omega) (by omega)
  exact loop4 (((M 125 0 - (0)) : Int) + 1).toNat (0) (0) (by omega) (rfl) (by omega) (by omega)

theorem fs_m_isAsked {d : Nat} {M : fs_M} {Q : Option fs_V → fs_M → Prop} {w : Int}  (hI : fs_NI (M 125)) (hq0 : (mm_ask (M 125) w) → Q (some (.inl 1)) M) (hq1 : (¬ (mm_ask (M 125) w)) → Q (some (.inl 0)) M) : fs_W (d + 2) 203 0 [some (.inr (.ref 124)), some (.inl w)] [] M Q := by
  obtain ⟨⟨hA0, hA1⟩, ⟨hH0, hH1⟩, hcv, hfc, hhd, hln, hsh, hit, hst⟩ := id hI
  refine fs_r_call (sta := true) (idx := 68) (as := [.inl w, .inl 0, .inl 3]) (rest := []) (L1 := [some (.inr (.ref 124)), some (.inl w)]) (st1 := [.inl 3, .inl 0, .inl w]) (M1 := M) (ob := []) rfl rfl rfl trivial rfl rfl (Nat.le_of_ble_eq_true rfl) ⟨Or.inr (Nat.le_of_ble_eq_true rfl), trivial⟩ (by decide) ?_
  refine fs_m_isIn (fun (f1 : 0 ≤ w ∧ w ≤ 3) => ?_) (fun (f2 : ¬ (0 ≤ w ∧ w ≤ 3)) => ?_)
  · refine fs_r_if (a := 1) (L1 := [some (.inr (.ref 124)), some (.inl w)]) (st1 := []) (M1 := M) (ob := []) rfl rfl trivial (fun h => absurd h (by decide : ¬ ((1 : Int) = 0))) (fun _ => ?_)
    refine fs_r_call (sta := false) (idx := 224) (as := [.inr (.ref 124), .inl w]) (rest := []) (L1 := [some (.inr (.ref 124)), some (.inl w)]) (st1 := [.inl w, .inr (.ref 124)]) (M1 := M) (ob := []) rfl rfl rfl trivial rfl rfl (Nat.le_of_ble_eq_true rfl) ⟨Or.inr (Nat.le_of_ble_eq_true rfl), Or.inr fs_ob124⟩ (by decide) ?_
    refine fs_m_isAsset (by assumption) (fun (f3 : 0 ≤ w ∧ w < M 125 0) => ?_) (fun (f4 : ¬ (0 ≤ w ∧ w < M 125 0)) => ?_)
    · refine fs_r_goto (L1 := [some (.inr (.ref 124)), some (.inl w)]) (st1 := [.inl 1]) (M1 := M) (ob := []) rfl rfl trivial ?_
      refine fs_r_iret (a := 1) (L1 := [some (.inr (.ref 124)), some (.inl w)]) (M1 := M) (ob := []) rfl rfl trivial (Or.inr (Or.inr rfl)) ?_
      exact hq0 (by unfold mm_ask; omega)
    refine fs_r_goto (L1 := [some (.inr (.ref 124)), some (.inl w)]) (st1 := [.inl 0]) (M1 := M) (ob := []) rfl rfl trivial ?_
    refine fs_r_iret (a := 0) (L1 := [some (.inr (.ref 124)), some (.inl w)]) (M1 := M) (ob := []) rfl rfl trivial (Or.inr (Or.inl rfl)) ?_
    exact hq1 (by unfold mm_ask; omega)
  refine fs_r_if (a := 0) (L1 := [some (.inr (.ref 124)), some (.inl w)]) (st1 := []) (M1 := M) (ob := []) rfl rfl trivial (fun _ => ?_) (fun h => absurd (by decide : (0 : Int) = 0) h)
  refine fs_r_call (sta := true) (idx := 68) (as := [.inl w, .inl 4, .inl 7]) (rest := []) (L1 := [some (.inr (.ref 124)), some (.inl w)]) (st1 := [.inl 7, .inl 4, .inl w]) (M1 := M) (ob := []) rfl rfl rfl trivial rfl rfl (Nat.le_of_ble_eq_true rfl) ⟨Or.inr (Nat.le_of_ble_eq_true rfl), trivial⟩ (by decide) ?_
  refine fs_m_isIn (fun (f5 : 4 ≤ w ∧ w ≤ 7) => ?_) (fun (f6 : ¬ (4 ≤ w ∧ w ≤ 7)) => ?_)
  · refine fs_r_iret (a := 1) (L1 := [some (.inr (.ref 124)), some (.inl w)]) (M1 := M) (ob := []) rfl rfl trivial (Or.inr (Or.inr rfl)) ?_
    exact hq0 (by unfold mm_ask; omega)
  refine fs_r_iret (a := 0) (L1 := [some (.inr (.ref 124)), some (.inl w)]) (M1 := M) (ob := []) rfl rfl trivial (Or.inr (Or.inl rfl)) ?_
  exact hq1 (by unfold mm_ask; omega)

theorem fs_m_told {d : Nat} {M : fs_M} {Q : Option fs_V → fs_M → Prop} {w : Int}  (hI : mm_I M) (hJ : mm_J M) (hw : mm_ask (M 125) w) (hq0 : Q (some (.inl (ec_tell (mm_E M) (mm_st M) w))) M) : fs_W (d + 4) 204 0 [some (.inr (.ref 124)), some (.inl w)] [] M Q := by
  obtain ⟨hN, hco, ⟨hp0, hp1⟩, ⟨hx0, hx1⟩, ⟨hb0, hb1⟩, ⟨hc0, hc1⟩, ⟨hfo0, hfo1⟩⟩ := id hI
  obtain ⟨⟨hA0, hA1⟩, ⟨hH0, hH1⟩, hcv, hfc, hhd, hln, hsh, hit, hst⟩ := id hN
  obtain ⟨⟨hf0, hf1⟩, hsd⟩ := id hJ
  unfold mm_ask at hw
  have d0 := hsd 0 (by omega) (by omega)
  have d1 := hsd 1 (by omega) (by omega)
  have d2 := hsd 2 (by omega) (by omega)
  have d3 := hsd 3 (by omega) (by omega)
  refine fs_r_icmp (a := w) (y := 4) (L1 := [some (.inr (.ref 124)), some (.inl w)]) (st1 := []) (M1 := M) (ob := []) rfl rfl trivial (fun (h1 : 4 ≤ w) => ?_) (fun (h1 : ¬ (4 ≤ w)) => ?_)
  · refine fs_r_icmp (a := w) (y := 4) (L1 := [some (.inr (.ref 124)), some (.inl w)]) (st1 := []) (M1 := M) (ob := []) rfl rfl trivial (fun (h2 : ¬ w = 4) => ?_) (fun (h2 : ¬ (¬ w = 4)) => ?_)
    · refine fs_r_icmp (a := w) (y := 5) (L1 := [some (.inr (.ref 124)), some (.inl w)]) (st1 := []) (M1 := M) (ob := []) rfl rfl trivial (fun (h3 : ¬ w = 5) => ?_) (fun (h3 : ¬ (¬ w = 5)) => ?_)
      · refine fs_r_icmp (a := w) (y := 6) (L1 := [some (.inr (.ref 124)), some (.inl w)]) (st1 := []) (M1 := M) (ob := []) rfl rfl trivial (fun (h4 : ¬ w = 6) => ?_) (fun (h4 : ¬ (¬ w = 6)) => ?_)
        · refine fs_r_nop (L1 := [some (.inr (.ref 124)), some (.inl w)]) (st1 := [.inl ((((M 129 0) + (M 129 1)) + (M 129 2)) + (M 129 3))]) (M1 := M) (ob := [124 < fs_N ∧ fs_kd 124 = 6, (129 < fs_N ∧ fs_kd 129 = 100) ∧ (0 : Int) ≤ 0 ∧ 0 < fs_ln 129, 124 < fs_N ∧ fs_kd 124 = 6, (129 < fs_N ∧ fs_kd 129 = 100) ∧ (0 : Int) ≤ 1 ∧ 1 < fs_ln 129, fs_rg ((M 129 0) + (M 129 1)), 124 < fs_N ∧ fs_kd 124 = 6, (129 < fs_N ∧ fs_kd 129 = 100) ∧ (0 : Int) ≤ 2 ∧ 2 < fs_ln 129, fs_rg (((M 129 0) + (M 129 1)) + (M 129 2)), 124 < fs_N ∧ fs_kd 124 = 6, (129 < fs_N ∧ fs_kd 129 = 100) ∧ (0 : Int) ≤ 3 ∧ 3 < fs_ln 129, fs_rg ((((M 129 0) + (M 129 1)) + (M 129 2)) + (M 129 3))]) rfl (fs_exA 6 (o1 := [124 < fs_N ∧ fs_kd 124 = 6, (129 < fs_N ∧ fs_kd 129 = 100) ∧ (0 : Int) ≤ 0 ∧ 0 < fs_ln 129, 124 < fs_N ∧ fs_kd 124 = 6]) (L1 := [some (.inr (.ref 124)), some (.inl w)]) (st1 := [.inr (.ref 129), .inl (M 129 0)]) (M1 := M) (o2 := [(129 < fs_N ∧ fs_kd 129 = 100) ∧ (0 : Int) ≤ 1 ∧ 1 < fs_ln 129, fs_rg ((M 129 0) + (M 129 1)), 124 < fs_N ∧ fs_kd 124 = 6, (129 < fs_N ∧ fs_kd 129 = 100) ∧ (0 : Int) ≤ 2 ∧ 2 < fs_ln 129, fs_rg (((M 129 0) + (M 129 1)) + (M 129 2)), 124 < fs_N ∧ fs_kd 124 = 6, (129 < fs_N ∧ fs_kd 129 = 100) ∧ (0 : Int) ≤ 3 ∧ 3 < fs_ln 129, fs_rg ((((M 129 0) + (M 129 1)) + (M 129 2)) + (M 129 3))]) rfl (fs_exA 6 (o1 := [(129 < fs_N ∧ fs_kd 129 = 100) ∧ (0 : Int) ≤ 1 ∧ 1 < fs_ln 129, fs_rg ((M 129 0) + (M 129 1)), 124 < fs_N ∧ fs_kd 124 = 6]) (L1 := [some (.inr (.ref 124)), some (.inl w)]) (st1 := [.inl 2, .inr (.ref 129), .inl ((M 129 0) + (M 129 1))]) (M1 := M) (o2 := [(129 < fs_N ∧ fs_kd 129 = 100) ∧ (0 : Int) ≤ 2 ∧ 2 < fs_ln 129, fs_rg (((M 129 0) + (M 129 1)) + (M 129 2)), 124 < fs_N ∧ fs_kd 124 = 6, (129 < fs_N ∧ fs_kd 129 = 100) ∧ (0 : Int) ≤ 3 ∧ 3 < fs_ln 129, fs_rg ((((M 129 0) + (M 129 1)) + (M 129 2)) + (M 129 3))]) rfl rfl)) (fs_oc fs_ob124 (fs_oc (fs_ar129 (by omega) (by omega)) (fs_oc fs_ob124 (fs_oc (fs_ar129 (by omega) (by omega)) (fs_oc ⟨by omega, by omega⟩ (fs_oc fs_ob124 (fs_oc (fs_ar129 (by omega) (by omega)) (fs_oc ⟨by omega, by omega⟩ (fs_oc fs_ob124 (fs_oc (fs_ar129 (by omega) (by omega)) (fs_oc ⟨by omega, by omega⟩ trivial))))))))))) ?_
          refine fs_r_iret (a := ((((M 129 0) + (M 129 1)) + (M 129 2)) + (M 129 3))) (L1 := [some (.inr (.ref 124)), some (.inl w)]) (M1 := M) (ob := []) rfl rfl trivial (Or.inl rfl) ?_
          exact fs_qi (by unfold ec_tell; first | (rw [if_pos (by omega), mm_st_at (by omega)]) | (rw [if_neg (by omega), if_pos (by omega), mm_st_4]) | (rw [if_neg (by omega), if_neg (by omega), if_pos (by omega)]) | (rw [if_neg (by omega), if_neg (by omega), if_neg (by omega), if_pos (by omega), mm_st_4]) | (rw [if_neg (by omega), if_neg (by omega), if_neg (by omega), if_neg (by omega), mm_st_at (by omega), mm_st_at (by omega), mm_st_at (by omega), mm_st_at (by omega)])) hq0
        refine fs_r_call (sta := true) (idx := 231) (as := [.inl (M 124 15)]) (rest := []) (L1 := [some (.inr (.ref 124)), some (.inl w)]) (st1 := [.inl (M 124 15)]) (M1 := M) (ob := [124 < fs_N ∧ fs_kd 124 = 6]) rfl rfl rfl (fs_oc fs_ob124 trivial) rfl rfl (Nat.le_of_ble_eq_true rfl) ⟨Or.inr (Nat.le_of_ble_eq_true rfl), trivial⟩ (by decide) ?_
        refine fs_m_bits (by omega) ?_
        refine fs_r_goto (L1 := [some (.inr (.ref 124)), some (.inl w)]) (st1 := [.inl (fs_pop (M 124 15))]) (M1 := M) (ob := []) rfl rfl trivial ?_
        refine fs_r_iret (a := (fs_pop (M 124 15))) (L1 := [some (.inr (.ref 124)), some (.inl w)]) (M1 := M) (ob := []) rfl rfl trivial (Or.inl rfl) ?_
        exact fs_qi (by unfold ec_tell; first | (rw [if_pos (by omega), mm_st_at (by omega)]) | (rw [if_neg (by omega), if_pos (by omega), mm_st_4]) | (rw [if_neg (by omega), if_neg (by omega), if_pos (by omega)]) | (rw [if_neg (by omega), if_neg (by omega), if_neg (by omega), if_pos (by omega), mm_st_4]) | (rw [if_neg (by omega), if_neg (by omega), if_neg (by omega), if_neg (by omega), mm_st_at (by omega), mm_st_at (by omega), mm_st_at (by omega), mm_st_at (by omega)])) hq0
      refine fs_r_call (sta := false) (idx := 227) (as := [.inr (.ref 124)]) (rest := []) (L1 := [some (.inr (.ref 124)), some (.inl w)]) (st1 := [.inr (.ref 124)]) (M1 := M) (ob := []) rfl rfl rfl trivial rfl rfl (Nat.le_of_ble_eq_true rfl) ⟨Or.inr (Nat.le_of_ble_eq_true rfl), Or.inr fs_ob124⟩ (by decide) ?_
      refine fs_m_lost (by assumption) (by assumption) ?_
      refine fs_r_goto (L1 := [some (.inr (.ref 124)), some (.inl w)]) (st1 := [.inl (ec_lost (mm_E M) (mm_st M))]) (M1 := M) (ob := []) rfl rfl trivial ?_
      refine fs_r_iret (a := (ec_lost (mm_E M) (mm_st M))) (L1 := [some (.inr (.ref 124)), some (.inl w)]) (M1 := M) (ob := []) rfl rfl trivial (Or.inl rfl) ?_
      exact fs_qi (by unfold ec_tell; first | (rw [if_pos (by omega), mm_st_at (by omega)]) | (rw [if_neg (by omega), if_pos (by omega), mm_st_4]) | (rw [if_neg (by omega), if_neg (by omega), if_pos (by omega)]) | (rw [if_neg (by omega), if_neg (by omega), if_neg (by omega), if_pos (by omega), mm_st_4]) | (rw [if_neg (by omega), if_neg (by omega), if_neg (by omega), if_neg (by omega), mm_st_at (by omega), mm_st_at (by omega), mm_st_at (by omega), mm_st_at (by omega)])) hq0
    refine fs_r_goto (L1 := [some (.inr (.ref 124)), some (.inl w)]) (st1 := [.inl (M 124 15)]) (M1 := M) (ob := [124 < fs_N ∧ fs_kd 124 = 6]) rfl rfl (fs_oc fs_ob124 trivial) ?_
    refine fs_r_iret (a := (M 124 15)) (L1 := [some (.inr (.ref 124)), some (.inl w)]) (M1 := M) (ob := []) rfl rfl trivial (Or.inl rfl) ?_
    exact fs_qi (by unfold ec_tell; first | (rw [if_pos (by omega), mm_st_at (by omega)]) | (rw [if_neg (by omega), if_pos (by omega), mm_st_4]) | (rw [if_neg (by omega), if_neg (by omega), if_pos (by omega)]) | (rw [if_neg (by omega), if_neg (by omega), if_neg (by omega), if_pos (by omega), mm_st_4]) | (rw [if_neg (by omega), if_neg (by omega), if_neg (by omega), if_neg (by omega), mm_st_at (by omega), mm_st_at (by omega), mm_st_at (by omega), mm_st_at (by omega)])) hq0
  refine fs_r_iret (a := (M 129 w)) (L1 := [some (.inr (.ref 124)), some (.inl w)]) (M1 := M) (ob := [124 < fs_N ∧ fs_kd 124 = 6, (129 < fs_N ∧ fs_kd 129 = 100) ∧ (0 : Int) ≤ w ∧ w < fs_ln 129]) rfl rfl (fs_oc fs_ob124 (fs_oc (fs_ar129 (by omega) (by omega)) trivial)) (Or.inl rfl) ?_
  exact fs_qi (by unfold ec_tell; first | (rw [if_pos (by omega), mm_st_at (by omega)]) | (rw [if_neg (by omega), if_pos (by omega), mm_st_4]) | (rw [if_neg (by omega), if_neg (by omega), if_pos (by omega)]) | (rw [if_neg (by omega), if_neg (by omega), if_neg (by omega), if_pos (by omega), mm_st_4]) | (rw [if_neg (by omega), if_neg (by omega), if_neg (by omega), if_neg (by omega), mm_st_at (by omega), mm_st_at (by omega), mm_st_at (by omega), mm_st_at (by omega)])) hq0
