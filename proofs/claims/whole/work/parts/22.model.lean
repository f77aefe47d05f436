theorem mm_val_s {M : fs_M} {h a : Int} (h0 : 0 ≤ a) : fs_sum (a + 1).toNat (fun q => M 125 (40 + (4 * h + q)) * ec_price (mm_E M) q (mm_st M q)) = fs_sum a.toNat (fun q => M 125 (40 + (4 * h + q)) * ec_price (mm_E M) q (mm_st M q)) + M 125 (40 + (4 * h + a)) * ec_price (mm_E M) a (mm_st M a) := fs_sum_s h0
theorem mm_st_at {M : fs_M} {a : Int} (h : 0 ≤ a ∧ a < 4) : mm_st M a = M 129 a := by unfold mm_st; rw [if_neg (by omega), if_pos h]
theorem mm_st_4 {M : fs_M} : mm_st M 4 = M 124 15 := by unfold mm_st; rw [if_pos rfl]

theorem fs_m_worthNow {d : Nat} {M : fs_M} {Q : Option fs_V → fs_M → Prop} {h : Int}  (hI : mm_I M) (hJ : mm_J M) (hh : 0 ≤ h ∧ h < 6) (hq0 : Q (some (.inl (ec_worth (mm_E M) (mm_st M) h))) M) : fs_W (d + 3) 192 0 [some (.inr (.ref 124)), some (.inl h), none, none] [] M Q := by
  obtain ⟨hN, hco, ⟨hp0, hp1⟩, ⟨hx0, hx1⟩, ⟨hb0, hb1⟩, ⟨hc0, hc1⟩, ⟨hfo0, hfo1⟩⟩ := id hI
  obtain ⟨⟨hA0, hA1⟩, ⟨hH0, hH1⟩, hcv, hfc, hhd, hln, hsh, hit, hst⟩ := id hN
  obtain ⟨⟨hf0, hf1⟩, hsd⟩ := id hJ
  have w0 := hfc h 0 hh.1 hh.2 (by omega) (by omega)
  have w1 := hfc h 1 hh.1 hh.2 (by omega) (by omega)
  have w2 := hco h hh.1 hh.2
  refine fs_r_call (sta := false) (idx := 175) (as := [.inr (.ref 124), .inl h, .inl 0]) (rest := []) (L1 := [some (.inr (.ref 124)), some (.inl h), none, none]) (st1 := [.inl 0, .inl h, .inr (.ref 124)]) (M1 := M) (ob := []) rfl rfl rfl trivial rfl rfl (Nat.le_of_ble_eq_true rfl) ⟨Or.inr (Nat.le_of_ble_eq_true rfl), Or.inr fs_ob124⟩ (by decide) ?_
  refine fs_m_houseOf (by omega) (by omega) ?_
  refine fs_r_call (sta := false) (idx := 175) (as := [.inr (.ref 124), .inl h, .inl 1]) (rest := [.inl ((M 125 (10 + 5 * h + 0)) + (M 131 h))]) (L1 := [some (.inr (.ref 124)), some (.inl h), none, none]) (st1 := [.inl 1, .inl h, .inr (.ref 124), .inl ((M 125 (10 + 5 * h + 0)) + (M 131 h))]) (M1 := M) (ob := [124 < fs_N ∧ fs_kd 124 = 6, (131 < fs_N ∧ fs_kd 131 = 100) ∧ (0 : Int) ≤ h ∧ h < fs_ln 131, fs_rg ((M 125 (10 + 5 * h + 0)) + (M 131 h))]) rfl rfl (fs_exA 6 (o1 := [124 < fs_N ∧ fs_kd 124 = 6, (131 < fs_N ∧ fs_kd 131 = 100) ∧ (0 : Int) ≤ h ∧ h < fs_ln 131, fs_rg ((M 125 (10 + 5 * h + 0)) + (M 131 h))]) (L1 := [some (.inr (.ref 124)), some (.inl h), none, none]) (st1 := [.inr (.ref 124), .inl ((M 125 (10 + 5 * h + 0)) + (M 131 h))]) (M1 := M) (o2 := []) rfl rfl) (fs_oc fs_ob124 (fs_oc (fs_ar131 (by omega) (by omega)) (fs_oc ⟨by omega, by omega⟩ trivial))) rfl rfl (Nat.le_of_ble_eq_true rfl) ⟨Or.inr (Nat.le_of_ble_eq_true rfl), Or.inr fs_ob124⟩ (by decide) ?_
  refine fs_m_houseOf (by omega) (by omega) ?_
  refine fs_r_nop (L1 := [some (.inr (.ref 124)), some (.inl h), some (.inl (((M 125 (10 + 5 * h + 0)) + (M 131 h)) - (M 125 (10 + 5 * h + 1)))), some (.inl 0)]) (st1 := []) (M1 := M) (ob := [fs_rg (((M 125 (10 + 5 * h + 0)) + (M 131 h)) - (M 125 (10 + 5 * h + 1))), 2 < 4, 3 < 4]) rfl rfl (fs_oc ⟨by omega, by omega⟩ (fs_oc (by decide) (fs_oc (by decide) trivial))) ?_
  have loop23 : ∀ (n23 : Nat) (v : Int) (a : Int), (0 ≤ a ∧ a ≤ M 125 0) → (v = M 125 (10 + 5 * h + 0) + M 131 h - M 125 (10 + 5 * h + 1) + fs_sum a.toNat (fun q => M 125 (40 + (4 * h + q)) * ec_price (mm_E M) q (mm_st M q))) → (-20000 ≤ v ∧ v ≤ 20000 + 12000 * a) → M 125 0 - a < (n23 : Int) → fs_W (d + 3) 192 23 [some (.inr (.ref 124)), some (.inl h), some (.inl v), some (.inl a)] [] M Q := by
    intro n23
    induction n23 with
    | zero =>
      intro v a i0 i1 i2 hm23
      exfalso
      omega
    | succ n23 ih23 =>
      intro v a i0 i1 i2 hm23
      refine fs_r_icmp (a := a) (y := (M 125 0)) (L1 := [some (.inr (.ref 124)), some (.inl h), some (.inl v), some (.inl a)]) (st1 := []) (M1 := M) (ob := [124 < fs_N ∧ fs_kd 124 = 6, (125 < fs_N ∧ fs_kd 125 = 100) ∧ (0 : Int) ≤ 0 ∧ 0 < fs_ln 125]) rfl rfl (fs_oc fs_ob124 (fs_oc (fs_ar125 (by omega) (by omega)) trivial)) (fun (h1 : (M 125 0) ≤ a) => ?_) (fun (h1 : ¬ ((M 125 0) ≤ a)) => ?_)
      · refine fs_r_nop (L1 := [some (.inr (.ref 124)), some (.inl h), some (.inl v), some (.inl 0)]) (st1 := []) (M1 := M) (ob := [3 < 4]) rfl rfl (fs_oc (by decide) trivial) ?_
        have loop62 : ∀ (n62 : Nat) (w : Int) (o : Int), (0 ≤ o ∧ o ≤ M 125 1) → (w = v + fs_sum o.toNat (fun q => (if fs_bt (M 124 15) q = 0 then M 125 (64 + (6 * q + h)) else 0) - M 125 (64 + 6 * h + q))) → (-20000 - 999 * o ≤ w ∧ w ≤ 70000 + 999 * o) → M 125 1 - o < (n62 : Int) → fs_W (d + 3) 192 62 [some (.inr (.ref 124)), some (.inl h), some (.inl w), some (.inl o)] [] M Q := by
          intro n62
          induction n62 with
          | zero =>
            intro w o j0 j1 j2 hm62
            exfalso
            omega
          | succ n62 ih62 =>
            intro w o j0 j1 j2 hm62
            refine fs_r_icmp (a := o) (y := (M 125 1)) (L1 := [some (.inr (.ref 124)), some (.inl h), some (.inl w), some (.inl o)]) (st1 := []) (M1 := M) (ob := [124 < fs_N ∧ fs_kd 124 = 6, (125 < fs_N ∧ fs_kd 125 = 100) ∧ (0 : Int) ≤ 1 ∧ 1 < fs_ln 125]) rfl rfl (fs_oc fs_ob124 (fs_oc (fs_ar125 (by omega) (by omega)) trivial)) (fun (h2 : (M 125 1) ≤ o) => ?_) (fun (h2 : ¬ ((M 125 1) ≤ o)) => ?_)
            · refine fs_r_iret (a := w) (L1 := [some (.inr (.ref 124)), some (.inl h), some (.inl w), some (.inl o)]) (M1 := M) (ob := []) rfl rfl trivial (Or.inl rfl) ?_
              exact fs_qi (by
                have e1 : o = M 125 1 := by omega
                have e2 : a = M 125 0 := by omega
                rw [j1, i1, fs_sum_sub, e1, e2]
                show _ = (M 125 (10 + 5 * h + 0) + (if 0 ≤ h ∧ h < 6 then M 131 h else 0) - M 125 (10 + 5 * h + 1) - fs_sum (M 125 1).toNat (fun o => M 125 (64 + 6 * h + o))) + fs_sum (M 125 0).toNat (fun a => M 125 (40 + (4 * h + a)) * ec_price (mm_E M) a (mm_st M a)) + fs_sum (M 125 1).toNat (fun o => if fs_bt (mm_st M 4) o = 0 then M 125 (64 + (6 * o + h)) else 0)
                rw [mm_st_4, if_pos hh]
                omega) hq0
            have b0 := hln h o hh.1 hh.2 (by omega) (by omega)
            have b1 := hln o h (by omega) (by omega) hh.1 hh.2
            have b2 := fs_bt01 hf0 hf1 (show 0 ≤ o by omega) (by omega)
            refine fs_r_call (sta := false) (idx := 181) (as := [.inr (.ref 124), .inl h, .inl o]) (rest := [.inl w]) (L1 := [some (.inr (.ref 124)), some (.inl h), some (.inl w), some (.inl o)]) (st1 := [.inl o, .inl h, .inr (.ref 124), .inl w]) (M1 := M) (ob := []) rfl rfl rfl trivial rfl rfl (Nat.le_of_ble_eq_true rfl) ⟨Or.inr (Nat.le_of_ble_eq_true rfl), Or.inr fs_ob124⟩ (by decide) ?_
            refine fs_m_loanOf (by omega) (by omega) ?_
            refine fs_r_if (a := (fs_and (fs_shr (M 124 15) o) 1)) (L1 := [some (.inr (.ref 124)), some (.inl h), some (.inl (w - (M 125 (64 + 6 * h + o)))), some (.inl o)]) (st1 := [.inl (w - (M 125 (64 + 6 * h + o)))]) (M1 := M) (ob := [fs_rg (w - (M 125 (64 + 6 * h + o))), 2 < 4, 124 < fs_N ∧ fs_kd 124 = 6]) rfl (fs_exA 6 (o1 := [fs_rg (w - (M 125 (64 + 6 * h + o))), 2 < 4, 124 < fs_N ∧ fs_kd 124 = 6]) (L1 := [some (.inr (.ref 124)), some (.inl h), some (.inl (w - (M 125 (64 + 6 * h + o)))), some (.inl o)]) (st1 := [.inl o, .inl (M 124 15), .inl (w - (M 125 (64 + 6 * h + o)))]) (M1 := M) (o2 := []) rfl rfl) (fs_oc ⟨by omega, by omega⟩ (fs_oc (by decide) (fs_oc fs_ob124 trivial))) (fun (h3 : ¬ (fs_and (fs_shr (M 124 15) o) 1) = 0) => ?_) (fun (h3 : ¬ (¬ (fs_and (fs_shr (M 124 15) o) 1) = 0)) => ?_)
            · refine fs_r_nop (L1 := [some (.inr (.ref 124)), some (.inl h), some (.inl (w - (M 125 (64 + 6 * h + o)))), some (.inl o)]) (st1 := [.inl 0, .inl (w - (M 125 (64 + 6 * h + o)))]) (M1 := M) (ob := []) rfl rfl trivial ?_
              refine fs_r_goto (L1 := [some (.inr (.ref 124)), some (.inl h), some (.inl ((w - (M 125 (64 + 6 * h + o))) + 0)), some (.inl (o + 1))]) (st1 := []) (M1 := M) (ob := [fs_rg ((w - (M 125 (64 + 6 * h + o))) + 0), 2 < 4, fs_rg (o + 1)]) rfl rfl (fs_oc ⟨by omega, by omega⟩ (fs_oc (by decide) (fs_oc ⟨by omega, by omega⟩ trivial))) ?_
              exact ih62 (((w - (M 125 (64 + 6 * h + o))) + 0)) ((o + 1)) (by omega) (by rw [fs_sum_s j0.1, j1, show (64 : Int) + (6 * o + h) = 64 + 6 * o + h by omega]; show _ = _ + (_ + ((if fs_bt (M 124 15) o = 0 then _ else _) - _)); unfold fs_bt; split <;> omega) (by omega) (by omega)
            refine fs_r_call (sta := false) (idx := 181) (as := [.inr (.ref 124), .inl o, .inl h]) (rest := [.inl (w - (M 125 (64 + 6 * h + o)))]) (L1 := [some (.inr (.ref 124)), some (.inl h), some (.inl (w - (M 125 (64 + 6 * h + o)))), some (.inl o)]) (st1 := [.inl h, .inl o, .inr (.ref 124), .inl (w - (M 125 (64 + 6 * h + o)))]) (M1 := M) (ob := []) rfl rfl rfl trivial rfl rfl (Nat.le_of_ble_eq_true rfl) ⟨Or.inr (Nat.le_of_ble_eq_true rfl), Or.inr fs_ob124⟩ (by decide) ?_
            refine fs_m_loanOf (by omega) (by omega) ?_
            refine fs_r_goto (L1 := [some (.inr (.ref 124)), some (.inl h), some (.inl (w - (M 125 (64 + 6 * h + o)))), some (.inl o)]) (st1 := [.inl (M 125 (64 + 6 * o + h)), .inl (w - (M 125 (64 + 6 * h + o)))]) (M1 := M) (ob := []) rfl rfl trivial ?_
            refine fs_r_goto (L1 := [some (.inr (.ref 124)), some (.inl h), some (.inl ((w - (M 125 (64 + 6 * h + o))) + (M 125 (64 + 6 * o + h)))), some (.inl (o + 1))]) (st1 := []) (M1 := M) (ob := [fs_rg ((w - (M 125 (64 + 6 * h + o))) + (M 125 (64 + 6 * o + h))), 2 < 4, fs_rg (o + 1)]) rfl rfl (fs_oc ⟨by omega, by omega⟩ (fs_oc (by decide) (fs_oc ⟨by omega, by omega⟩ trivial))) ?_
            exact ih62 (((w - (M 125 (64 + 6 * h + o))) + (M 125 (64 + 6 * o + h)))) ((o + 1)) (by omega) (by rw [fs_sum_s j0.1, j1, show (64 : Int) + (6 * o + h) = 64 + 6 * o + h by omega]; show _ = _ + (_ + ((if fs_bt (M 124 15) o = 0 then _ else _) - _)); unfold fs_bt; split <;> omega) (by omega) (by omega)
        exact loop62 (((M 125 1 - (0)) : Int) + 1).toNat (v) (0) (by omega) (by show _ = _ + fs_sum 0 _; simp [fs_sum]) (by omega) (by omega)
      have a0 := hhd h a hh.1 hh.2 (by omega) (by omega)
      have a1 := hsd a (by omega) (by omega)
      have a2 := mm_price_b (a := a) (n := M 129 a) hI (by omega)
      have a3 : 0 ≤ M 125 (40 + 4 * h + a) * ec_price (mm_E M) a (M 129 a) ∧ M 125 (40 + 4 * h + a) * ec_price (mm_E M) a (M 129 a) ≤ 60 * 200 := ⟨Int.mul_nonneg a0.1 a2.1, Int.mul_le_mul a0.2 a2.2 a2.1 (by omega)⟩
      refine fs_r_call (sta := false) (idx := 72) (as := [.inr (.ref 124), .inl h, .inl a]) (rest := [.inl v]) (L1 := [some (.inr (.ref 124)), some (.inl h), some (.inl v), some (.inl a)]) (st1 := [.inl a, .inl h, .inr (.ref 124), .inl v]) (M1 := M) (ob := []) rfl rfl rfl trivial rfl rfl (Nat.le_of_ble_eq_true rfl) ⟨Or.inr (Nat.le_of_ble_eq_true rfl), Or.inr fs_ob124⟩ (by decide) ?_
      refine fs_m_holds (by omega) (by omega) ?_
      refine fs_r_call (sta := false) (idx := 178) (as := [.inr (.ref 124), .inl a, .inl (M 129 a)]) (rest := [.inl (M 125 (40 + 4 * h + a)), .inl v]) (L1 := [some (.inr (.ref 124)), some (.inl h), some (.inl v), some (.inl a)]) (st1 := [.inl (M 129 a), .inl a, .inr (.ref 124), .inl (M 125 (40 + 4 * h + a)), .inl v]) (M1 := M) (ob := [124 < fs_N ∧ fs_kd 124 = 6, (129 < fs_N ∧ fs_kd 129 = 100) ∧ (0 : Int) ≤ a ∧ a < fs_ln 129]) rfl rfl rfl (fs_oc fs_ob124 (fs_oc (fs_ar129 (by omega) (by omega)) trivial)) rfl rfl (Nat.le_of_ble_eq_true rfl) ⟨Or.inr (Nat.le_of_ble_eq_true rfl), Or.inr fs_ob124⟩ (by decide) ?_
      refine fs_m_priceBy (by assumption) (by omega) (by omega) ?_
      refine fs_r_goto (L1 := [some (.inr (.ref 124)), some (.inl h), some (.inl (v + ((M 125 (40 + 4 * h + a)) * (ec_price (mm_E M) a (M 129 a))))), some (.inl (a + 1))]) (st1 := []) (M1 := M) (ob := [fs_rg ((M 125 (40 + 4 * h + a)) * (ec_price (mm_E M) a (M 129 a))), fs_rg (v + ((M 125 (40 + 4 * h + a)) * (ec_price (mm_E M) a (M 129 a)))), 2 < 4, fs_rg (a + 1)]) rfl rfl (fs_oc ⟨by omega, by omega⟩ (fs_oc ⟨by omega, by omega⟩ (fs_oc (by decide) (fs_oc ⟨by omega, by omega⟩ trivial)))) ?_
      exact ih23 ((v + ((M 125 (40 + 4 * h + a)) * (ec_price (mm_E M) a (M 129 a))))) ((a + 1)) (by omega) (by rw [mm_val_s i0.1, mm_st_at (by omega), i1, show (40 : Int) + (4 * h + a) = 40 + 4 * h + a by omega]; omega) (by omega) (by omega)
  exact loop23 (((M 125 0 - (0)) : Int) + 1).toNat ((((M 125 (10 + 5 * h + 0)) + (M 131 h)) - (M 125 (10 + 5 * h + 1)))) (0) (by omega) (by show _ = _ + fs_sum 0 _; simp [fs_sum]) (by omega) (by omega)

theorem mm_worth_b {M : fs_M} {h : Int} (hI : mm_I M) (hh : 0 ≤ h ∧ h < 6) : -30000 ≤ ec_worth (mm_E M) (mm_st M) h ∧ ec_worth (mm_E M) (mm_st M) h ≤ 90000 := by
  obtain ⟨hN, hco, -⟩ := id hI
  obtain ⟨⟨hA0, hA1⟩, ⟨hH0, hH1⟩, hcv, hfc, hhd, hln, -⟩ := id hN
  have w0 := hfc h 0 hh.1 hh.2 (by omega) (by omega)
  have w1 := hfc h 1 hh.1 hh.2 (by omega) (by omega)
  have w2 := hco h hh.1 hh.2
  have s1 : 0 ≤ ec_val (mm_E M) (mm_st M) h ∧ ec_val (mm_E M) (mm_st M) h ≤ 12000 * (M 125 0).toNat := fs_sum_b (fun a h0 h1 => by
    have a0 := hhd h a hh.1 hh.2 h0 (by have : a < (M 125 0).toNat := h1; omega)
    have a2 := mm_price_b (a := a) (n := mm_st M a) hI ⟨h0, by have : a < (M 125 0).toNat := h1; omega⟩
    show 0 ≤ M 125 (40 + (4 * h + a)) * _ ∧ M 125 (40 + (4 * h + a)) * _ ≤ 60 * 200
    rw [show (40 : Int) + (4 * h + a) = 40 + 4 * h + a by omega]
    exact ⟨Int.mul_nonneg a0.1 a2.1, Int.mul_le_mul a0.2 a2.2 a2.1 (by omega)⟩)
  have s2 : 0 ≤ ec_owed (mm_E M) (mm_st M) h ∧ ec_owed (mm_E M) (mm_st M) h ≤ 999 * (M 125 1).toNat := fs_sum_b (fun o h0 h1 => by
    have b1 := hln o h h0 (by have : o < (M 125 1).toNat := h1; omega) hh.1 hh.2
    show 0 ≤ (if _ then M 125 (64 + (6 * o + h)) else 0) ∧ (if _ then M 125 (64 + (6 * o + h)) else 0) ≤ 999
    rw [show (64 : Int) + (6 * o + h) = 64 + 6 * o + h by omega]
    split <;> omega)
  have s3 : 0 ≤ fs_sum (M 125 1).toNat (fun o => M 125 (64 + 6 * h + o)) ∧ fs_sum (M 125 1).toNat (fun o => M 125 (64 + 6 * h + o)) ≤ 999 * (M 125 1).toNat := fs_sum_b (fun o h0 h1 => hln h o hh.1 hh.2 h0 (by omega))
  have e : ec_worth (mm_E M) (mm_st M) h = M 125 (10 + 5 * h + 0) + (if 0 ≤ h ∧ h < 6 then M 131 h else 0) - M 125 (10 + 5 * h + 1) - fs_sum (M 125 1).toNat (fun o => M 125 (64 + 6 * h + o)) + ec_val (mm_E M) (mm_st M) h + ec_owed (mm_E M) (mm_st M) h := rfl
  rw [if_pos hh] at e
  omega
theorem mm_pieces_b {M : fs_M} {h : Int} (hN : fs_NI (M 125)) (hh : 0 ≤ h ∧ h < 6) : 0 ≤ mm_pieces (M 125) h ∧ mm_pieces (M 125) h ≤ 240 := by
  obtain ⟨⟨hA0, hA1⟩, ⟨hH0, hH1⟩, hcv, hfc, hhd, -⟩ := id hN
  have := fs_sum_b (n := (M 125 0).toNat) (f := fun a => M 125 (40 + 4 * h + a)) (b := 60) (fun a h0 h1 => hhd h a hh.1 hh.2 h0 (by omega))
  unfold mm_pieces
  omega
theorem fs_m_must {d : Nat} {M : fs_M} {Q : Option fs_V → fs_M → Prop} {h : Int}  (hI : mm_I M) (hJ : mm_J M) (hh : 0 ≤ h ∧ h < M 125 1) (hq0 : Q (some (.inl (ec_due (mm_E M) h (ec_worth (mm_E M) (mm_st M) h)))) M) : fs_W (d + 4) 194 0 [some (.inr (.ref 124)), some (.inl h), none, none, none, none] [] M Q := by
  obtain ⟨hN, hco, ⟨hp0, hp1⟩, ⟨hx0, hx1⟩, ⟨hb0, hb1⟩, ⟨hc0, hc1⟩, ⟨hfo0, hfo1⟩⟩ := id hI
  obtain ⟨⟨hA0, hA1⟩, ⟨hH0, hH1⟩, hcv, hfc, hhd, hln, hsh, hit, hst⟩ := id hN
  obtain ⟨⟨hf0, hf1⟩, hsd⟩ := id hJ
  have w0 := hfc h 2 hh.1 (by omega) (by omega) (by omega)
  have w1 := hst h hh.1 hh.2
  have w2 := mm_worth_b hI (h := h) (by omega)
  have w3 := mm_pieces_b hN (h := h) (by omega)
  have w5 : ∀ x, 0 < x → 0 ≤ (x + M 125 (10 + 5 * h + 3) - 1) / M 125 (10 + 5 * h + 3) := fun x q => Int.ediv_nonneg (by omega) (by omega)
  have ed : ec_due (mm_E M) h (ec_worth (mm_E M) (mm_st M) h) = if ec_worth (mm_E M) (mm_st M) h < 0 then mm_pieces (M 125) h else if M 125 (10 + 5 * h + 2) - ec_worth (mm_E M) (mm_st M) h ≤ 0 then min (mm_pieces (M 125) h) 0 else min (mm_pieces (M 125) h) ((M 125 (10 + 5 * h + 2) - ec_worth (mm_E M) (mm_st M) h + M 125 (10 + 5 * h + 3) - 1) / M 125 (10 + 5 * h + 3)) := by
    show (if _ then mm_pieces (M 125) h else if M 125 (10 + (5 * h + 2)) - _ ≤ 0 then _ else min _ ((M 125 (10 + (5 * h + 2)) - _ + M 125 (10 + (5 * h + 3)) - 1) / M 125 (10 + (5 * h + 3)))) = _
    rw [show (10 : Int) + (5 * h + 2) = 10 + 5 * h + 2 by omega, show (10 : Int) + (5 * h + 3) = 10 + 5 * h + 3 by omega]
    rfl
  refine fs_r_call (sta := false) (idx := 187) (as := [.inr (.ref 124), .inl h]) (rest := []) (L1 := [some (.inr (.ref 124)), some (.inl h), none, none, none, none]) (st1 := [.inl h, .inr (.ref 124)]) (M1 := M) (ob := []) rfl rfl rfl trivial rfl rfl (Nat.le_of_ble_eq_true rfl) ⟨Or.inr (Nat.le_of_ble_eq_true rfl), Or.inr fs_ob124⟩ (by decide) ?_
  refine fs_m_worthNow (by assumption) (by assumption) (by omega) ?_
  refine fs_r_call (sta := false) (idx := 190) (as := [.inr (.ref 124), .inl h]) (rest := []) (L1 := [some (.inr (.ref 124)), some (.inl h), some (.inl (ec_worth (mm_E M) (mm_st M) h)), none, none, none]) (st1 := [.inl h, .inr (.ref 124)]) (M1 := M) (ob := [2 < 6]) rfl rfl rfl (fs_oc (by decide) trivial) rfl rfl (Nat.le_of_ble_eq_true rfl) ⟨Or.inr (Nat.le_of_ble_eq_true rfl), Or.inr fs_ob124⟩ (by decide) ?_
  refine fs_m_piecesOf (by assumption) (by omega) ?_
  refine fs_r_if (a := (ec_worth (mm_E M) (mm_st M) h)) (L1 := [some (.inr (.ref 124)), some (.inl h), some (.inl (ec_worth (mm_E M) (mm_st M) h)), some (.inl (mm_pieces (M 125) h)), none, none]) (st1 := []) (M1 := M) (ob := [3 < 6]) rfl rfl (fs_oc (by decide) trivial) (fun (h1 : 0 ≤ (ec_worth (mm_E M) (mm_st M) h)) => ?_) (fun (h1 : ¬ (0 ≤ (ec_worth (mm_E M) (mm_st M) h))) => ?_)
  · refine fs_r_call (sta := false) (idx := 175) (as := [.inr (.ref 124), .inl h, .inl 2]) (rest := []) (L1 := [some (.inr (.ref 124)), some (.inl h), some (.inl (ec_worth (mm_E M) (mm_st M) h)), some (.inl (mm_pieces (M 125) h)), none, none]) (st1 := [.inl 2, .inl h, .inr (.ref 124)]) (M1 := M) (ob := []) rfl rfl rfl trivial rfl rfl (Nat.le_of_ble_eq_true rfl) ⟨Or.inr (Nat.le_of_ble_eq_true rfl), Or.inr fs_ob124⟩ (by decide) ?_
    refine fs_m_houseOf (by omega) (by omega) ?_
    refine fs_r_if (a := ((M 125 (10 + 5 * h + 2)) - (ec_worth (mm_E M) (mm_st M) h))) (L1 := [some (.inr (.ref 124)), some (.inl h), some (.inl (ec_worth (mm_E M) (mm_st M) h)), some (.inl (mm_pieces (M 125) h)), some (.inl ((M 125 (10 + 5 * h + 2)) - (ec_worth (mm_E M) (mm_st M) h))), none]) (st1 := []) (M1 := M) (ob := [fs_rg ((M 125 (10 + 5 * h + 2)) - (ec_worth (mm_E M) (mm_st M) h)), 4 < 6]) rfl rfl (fs_oc ⟨by omega, by omega⟩ (fs_oc (by decide) trivial)) (fun (h2 : 0 < ((M 125 (10 + 5 * h + 2)) - (ec_worth (mm_E M) (mm_st M) h))) => ?_) (fun (h2 : ¬ (0 < ((M 125 (10 + 5 * h + 2)) - (ec_worth (mm_E M) (mm_st M) h)))) => ?_)
    · refine fs_r_call (sta := false) (idx := 175) (as := [.inr (.ref 124), .inl h, .inl 3]) (rest := [.inl ((M 125 (10 + 5 * h + 2)) - (ec_worth (mm_E M) (mm_st M) h))]) (L1 := [some (.inr (.ref 124)), some (.inl h), some (.inl (ec_worth (mm_E M) (mm_st M) h)), some (.inl (mm_pieces (M 125) h)), some (.inl ((M 125 (10 + 5 * h + 2)) - (ec_worth (mm_E M) (mm_st M) h))), none]) (st1 := [.inl 3, .inl h, .inr (.ref 124), .inl ((M 125 (10 + 5 * h + 2)) - (ec_worth (mm_E M) (mm_st M) h))]) (M1 := M) (ob := []) rfl rfl rfl trivial rfl rfl (Nat.le_of_ble_eq_true rfl) ⟨Or.inr (Nat.le_of_ble_eq_true rfl), Or.inr fs_ob124⟩ (by decide) ?_
      refine fs_m_houseOf (by omega) (by omega) ?_
      refine fs_r_call (sta := false) (idx := 175) (as := [.inr (.ref 124), .inl h, .inl 3]) (rest := [.inl ((((M 125 (10 + 5 * h + 2)) - (ec_worth (mm_E M) (mm_st M) h)) + (M 125 (10 + 5 * h + 3))) - 1)]) (L1 := [some (.inr (.ref 124)), some (.inl h), some (.inl (ec_worth (mm_E M) (mm_st M) h)), some (.inl (mm_pieces (M 125) h)), some (.inl ((M 125 (10 + 5 * h + 2)) - (ec_worth (mm_E M) (mm_st M) h))), none]) (st1 := [.inl 3, .inl h, .inr (.ref 124), .inl ((((M 125 (10 + 5 * h + 2)) - (ec_worth (mm_E M) (mm_st M) h)) + (M 125 (10 + 5 * h + 3))) - 1)]) (M1 := M) (ob := [fs_rg (((M 125 (10 + 5 * h + 2)) - (ec_worth (mm_E M) (mm_st M) h)) + (M 125 (10 + 5 * h + 3))), fs_rg ((((M 125 (10 + 5 * h + 2)) - (ec_worth (mm_E M) (mm_st M) h)) + (M 125 (10 + 5 * h + 3))) - 1)]) rfl rfl rfl (fs_oc ⟨by omega, by omega⟩ (fs_oc ⟨by omega, by omega⟩ trivial)) rfl rfl (Nat.le_of_ble_eq_true rfl) ⟨Or.inr (Nat.le_of_ble_eq_true rfl), Or.inr fs_ob124⟩ (by decide) ?_
      refine fs_m_houseOf (by omega) (by omega) ?_
      refine fs_r_nop (L1 := [some (.inr (.ref 124)), some (.inl h), some (.inl (ec_worth (mm_E M) (mm_st M) h)), some (.inl (mm_pieces (M 125) h)), some (.inl ((M 125 (10 + 5 * h + 2)) - (ec_worth (mm_E M) (mm_st M) h))), none]) (st1 := [.inl (((((M 125 (10 + 5 * h + 2)) - (ec_worth (mm_E M) (mm_st M) h)) + (M 125 (10 + 5 * h + 3))) - 1) / (M 125 (10 + 5 * h + 3)))]) (M1 := M) (ob := [(0 : Int) ≤ ((((M 125 (10 + 5 * h + 2)) - (ec_worth (mm_E M) (mm_st M) h)) + (M 125 (10 + 5 * h + 3))) - 1), (0 : Int) < (M 125 (10 + 5 * h + 3))]) rfl rfl (fs_oc (by omega) (fs_oc (by omega) trivial)) ?_
      refine fs_r_icmp (a := (((((M 125 (10 + 5 * h + 2)) - (ec_worth (mm_E M) (mm_st M) h)) + (M 125 (10 + 5 * h + 3))) - 1) / (M 125 (10 + 5 * h + 3)))) (y := (mm_pieces (M 125) h)) (L1 := [some (.inr (.ref 124)), some (.inl h), some (.inl (ec_worth (mm_E M) (mm_st M) h)), some (.inl (mm_pieces (M 125) h)), some (.inl ((M 125 (10 + 5 * h + 2)) - (ec_worth (mm_E M) (mm_st M) h))), some (.inl (((((M 125 (10 + 5 * h + 2)) - (ec_worth (mm_E M) (mm_st M) h)) + (M 125 (10 + 5 * h + 3))) - 1) / (M 125 (10 + 5 * h + 3))))]) (st1 := []) (M1 := M) (ob := [5 < 6]) rfl rfl (fs_oc (by decide) trivial) (fun (h3 : (mm_pieces (M 125) h) ≤ (((((M 125 (10 + 5 * h + 2)) - (ec_worth (mm_E M) (mm_st M) h)) + (M 125 (10 + 5 * h + 3))) - 1) / (M 125 (10 + 5 * h + 3)))) => ?_) (fun (h3 : ¬ ((mm_pieces (M 125) h) ≤ (((((M 125 (10 + 5 * h + 2)) - (ec_worth (mm_E M) (mm_st M) h)) + (M 125 (10 + 5 * h + 3))) - 1) / (M 125 (10 + 5 * h + 3))))) => ?_)
      · refine fs_r_nop (L1 := [some (.inr (.ref 124)), some (.inl h), some (.inl (ec_worth (mm_E M) (mm_st M) h)), some (.inl (mm_pieces (M 125) h)), some (.inl ((M 125 (10 + 5 * h + 2)) - (ec_worth (mm_E M) (mm_st M) h))), some (.inl (((((M 125 (10 + 5 * h + 2)) - (ec_worth (mm_E M) (mm_st M) h)) + (M 125 (10 + 5 * h + 3))) - 1) / (M 125 (10 + 5 * h + 3))))]) (st1 := [.inl (mm_pieces (M 125) h)]) (M1 := M) (ob := []) rfl rfl trivial ?_
        refine fs_r_iret (a := (mm_pieces (M 125) h)) (L1 := [some (.inr (.ref 124)), some (.inl h), some (.inl (ec_worth (mm_E M) (mm_st M) h)), some (.inl (mm_pieces (M 125) h)), some (.inl ((M 125 (10 + 5 * h + 2)) - (ec_worth (mm_E M) (mm_st M) h))), some (.inl (((((M 125 (10 + 5 * h + 2)) - (ec_worth (mm_E M) (mm_st M) h)) + (M 125 (10 + 5 * h + 3))) - 1) / (M 125 (10 + 5 * h + 3))))]) (M1 := M) (ob := []) rfl rfl trivial (Or.inl rfl) ?_
        exact fs_qi (by rw [ed]; first | (rw [if_pos (by omega)]) | (rw [if_neg (by omega), if_pos (by omega)]; omega) | (rw [if_neg (by omega), if_neg (by omega)]; omega)) hq0
      refine fs_r_goto (L1 := [some (.inr (.ref 124)), some (.inl h), some (.inl (ec_worth (mm_E M) (mm_st M) h)), some (.inl (mm_pieces (M 125) h)), some (.inl ((M 125 (10 + 5 * h + 2)) - (ec_worth (mm_E M) (mm_st M) h))), some (.inl (((((M 125 (10 + 5 * h + 2)) - (ec_worth (mm_E M) (mm_st M) h)) + (M 125 (10 + 5 * h + 3))) - 1) / (M 125 (10 + 5 * h + 3))))]) (st1 := [.inl (((((M 125 (10 + 5 * h + 2)) - (ec_worth (mm_E M) (mm_st M) h)) + (M 125 (10 + 5 * h + 3))) - 1) / (M 125 (10 + 5 * h + 3)))]) (M1 := M) (ob := []) rfl rfl trivial ?_
      refine fs_r_iret (a := (((((M 125 (10 + 5 * h + 2)) - (ec_worth (mm_E M) (mm_st M) h)) + (M 125 (10 + 5 * h + 3))) - 1) / (M 125 (10 + 5 * h + 3)))) (L1 := [some (.inr (.ref 124)), some (.inl h), some (.inl (ec_worth (mm_E M) (mm_st M) h)), some (.inl (mm_pieces (M 125) h)), some (.inl ((M 125 (10 + 5 * h + 2)) - (ec_worth (mm_E M) (mm_st M) h))), some (.inl (((((M 125 (10 + 5 * h + 2)) - (ec_worth (mm_E M) (mm_st M) h)) + (M 125 (10 + 5 * h + 3))) - 1) / (M 125 (10 + 5 * h + 3))))]) (M1 := M) (ob := []) rfl rfl trivial (Or.inl rfl) ?_
      exact fs_qi (by rw [ed]; first | (rw [if_pos (by omega)]) | (rw [if_neg (by omega), if_pos (by omega)]; omega) | (rw [if_neg (by omega), if_neg (by omega)]; omega)) hq0
    refine fs_r_goto (L1 := [some (.inr (.ref 124)), some (.inl h), some (.inl (ec_worth (mm_E M) (mm_st M) h)), some (.inl (mm_pieces (M 125) h)), some (.inl ((M 125 (10 + 5 * h + 2)) - (ec_worth (mm_E M) (mm_st M) h))), none]) (st1 := [.inl 0]) (M1 := M) (ob := []) rfl rfl trivial ?_
    refine fs_r_icmp (a := 0) (y := (mm_pieces (M 125) h)) (L1 := [some (.inr (.ref 124)), some (.inl h), some (.inl (ec_worth (mm_E M) (mm_st M) h)), some (.inl (mm_pieces (M 125) h)), some (.inl ((M 125 (10 + 5 * h + 2)) - (ec_worth (mm_E M) (mm_st M) h))), some (.inl 0)]) (st1 := []) (M1 := M) (ob := [5 < 6]) rfl rfl (fs_oc (by decide) trivial) (fun (h4 : (mm_pieces (M 125) h) ≤ 0) => ?_) (fun (h4 : ¬ ((mm_pieces (M 125) h) ≤ 0)) => ?_)
    · refine fs_r_nop (L1 := [some (.inr (.ref 124)), some (.inl h), some (.inl (ec_worth (mm_E M) (mm_st M) h)), some (.inl (mm_pieces (M 125) h)), some (.inl ((M 125 (10 + 5 * h + 2)) - (ec_worth (mm_E M) (mm_st M) h))), some (.inl 0)]) (st1 := [.inl (mm_pieces (M 125) h)]) (M1 := M) (ob := []) rfl rfl trivial ?_
      refine fs_r_iret (a := (mm_pieces (M 125) h)) (L1 := [some (.inr (.ref 124)), some (.inl h), some (.inl (ec_worth (mm_E M) (mm_st M) h)), some (.inl (mm_pieces (M 125) h)), some (.inl ((M 125 (10 + 5 * h + 2)) - (ec_worth (mm_E M) (mm_st M) h))), some (.inl 0)]) (M1 := M) (ob := []) rfl rfl trivial (Or.inl rfl) ?_
      exact fs_qi (by rw [ed]; first | (rw [if_pos (by omega)]) | (rw [if_neg (by omega), if_pos (by omega)]; omega) | (rw [if_neg (by omega), if_neg (by omega)]; omega)) hq0
    refine fs_r_goto (L1 := [some (.inr (.ref 124)), some (.inl h), some (.inl (ec_worth (mm_E M) (mm_st M) h)), some (.inl (mm_pieces (M 125) h)), some (.inl ((M 125 (10 + 5 * h + 2)) - (ec_worth (mm_E M) (mm_st M) h))), some (.inl 0)]) (st1 := [.inl 0]) (M1 := M) (ob := []) rfl rfl trivial ?_
    refine fs_r_iret (a := 0) (L1 := [some (.inr (.ref 124)), some (.inl h), some (.inl (ec_worth (mm_E M) (mm_st M) h)), some (.inl (mm_pieces (M 125) h)), some (.inl ((M 125 (10 + 5 * h + 2)) - (ec_worth (mm_E M) (mm_st M) h))), some (.inl 0)]) (M1 := M) (ob := []) rfl rfl trivial (Or.inl rfl) ?_
    exact fs_qi (by rw [ed]; first | (rw [if_pos (by omega)]) | (rw [if_neg (by omega), if_pos (by omega)]; omega) | (rw [if_neg (by omega), if_neg (by omega)]; omega)) hq0
  refine fs_r_iret (a := (mm_pieces (M 125) h)) (L1 := [some (.inr (.ref 124)), some (.inl h), some (.inl (ec_worth (mm_E M) (mm_st M) h)), some (.inl (mm_pieces (M 125) h)), none, none]) (M1 := M) (ob := []) rfl rfl trivial (Or.inl rfl) ?_
  exact fs_qi (by rw [ed]; first | (rw [if_pos (by omega)]) | (rw [if_neg (by omega), if_pos (by omega)]; omega) | (rw [if_neg (by omega), if_neg (by omega)]; omega)) hq0

theorem ec_ord_b {M : fs_M} {h k : Int} (hk : 0 ≤ k ∧ k < M 125 0) : 0 ≤ ec_ord (mm_E M) h k ∧ ec_ord (mm_E M) h k < M 125 0 := by
  unfold ec_ord
  by_cases z : mm_E M 9 (5 * h + 4) = 0
  · rw [if_pos z]
    exact hk
  · rw [if_neg z]
    show 0 ≤ M 125 0 - 1 - k ∧ M 125 0 - 1 - k < M 125 0
    omega
theorem ec_left_s {E : Nat → Int → Int} {h due k : Int} (hk : 0 ≤ k) (h0 : 0 ≤ E 10 (4 * h + ec_ord E h k)) : ec_left E h due (k + 1) = ec_left E h due k - min (E 10 (4 * h + ec_ord E h k)) (ec_left E h due k) := by
  unfold ec_left
  rw [fs_sum_s hk]
  omega
theorem fs_m_mustOf {d : Nat} {M : fs_M} {Q : Option fs_V → fs_M → Prop} {h : Int} {a : Int} {n : Int}  (hI : mm_I M) (hh : 0 ≤ h ∧ h < M 125 1) (ha : 0 ≤ a ∧ a < M 125 0) (hn : 0 ≤ n ∧ n ≤ 1000) (hq0 : Q (some (.inl (ec_part (mm_E M) h n a))) M) : fs_W (d + 1) 195 0 [some (.inr (.ref 124)), some (.inl h), some (.inl a), some (.inl n), none, none, none, none] [] M Q := by
  obtain ⟨hN, hco, ⟨hp0, hp1⟩, ⟨hx0, hx1⟩, ⟨hb0, hb1⟩, ⟨hc0, hc1⟩, ⟨hfo0, hfo1⟩⟩ := id hI
  obtain ⟨⟨hA0, hA1⟩, ⟨hH0, hH1⟩, hcv, hfc, hhd, hln, hsh, hit, hst⟩ := id hN
  have eo : ∀ k, ec_ord (mm_E M) h k = if M 125 (10 + 5 * h + 4) = 0 then k else M 125 0 - 1 - k := fun k => by
    show (if M 125 (10 + (5 * h + 4)) = 0 then k else M 125 0 - 1 - k) = _
    rw [show (10 : Int) + (5 * h + 4) = 10 + 5 * h + 4 by omega]
  refine fs_r_nop (L1 := [some (.inr (.ref 124)), some (.inl h), some (.inl a), some (.inl n), some (.inl n), some (.inl 0), none, none]) (st1 := []) (M1 := M) (ob := [4 < 8, 5 < 8]) rfl rfl (fs_oc (by decide) (fs_oc (by decide) trivial)) ?_
  have loop6 : ∀ (n6 : Nat) (lf : Int) (k : Int) (zl6 : Option fs_V) (zl7 : Option fs_V), (0 ≤ k ∧ k ≤ M 125 0) → (lf = ec_left (mm_E M) h n k) → (0 ≤ lf ∧ lf ≤ n) → (∀ j, 0 ≤ j → j < k → ec_ord (mm_E M) h j ≠ a) → M 125 0 - k < (n6 : Int) → fs_W (d + 1) 195 6 [some (.inr (.ref 124)), some (.inl h), some (.inl a), some (.inl n), some (.inl lf), some (.inl k), zl6, zl7] [] M Q := by
    intro n6
    induction n6 with
    | zero =>
      intro lf k zl6 zl7 i0 i1 i2 i3 hm6
      exfalso
      omega
    | succ n6 ih6 =>
      intro lf k zl6 zl7 i0 i1 i2 i3 hm6
      refine fs_r_icmp (a := k) (y := (M 125 0)) (L1 := [some (.inr (.ref 124)), some (.inl h), some (.inl a), some (.inl n), some (.inl lf), some (.inl k), zl6, zl7]) (st1 := []) (M1 := M) (ob := [124 < fs_N ∧ fs_kd 124 = 6, (125 < fs_N ∧ fs_kd 125 = 100) ∧ (0 : Int) ≤ 0 ∧ 0 < fs_ln 125]) rfl rfl (fs_oc fs_ob124 (fs_oc (fs_ar125 (by omega) (by omega)) trivial)) (fun (h1 : (M 125 0) ≤ k) => ?_) (fun (h1 : ¬ ((M 125 0) ≤ k)) => ?_)
      · refine fs_r_iret (a := 0) (L1 := [some (.inr (.ref 124)), some (.inl h), some (.inl a), some (.inl n), some (.inl lf), some (.inl k), zl6, zl7]) (M1 := M) (ob := []) rfl rfl trivial (Or.inl rfl) ?_
        exfalso
        have e3 := i3 (ec_ord (mm_E M) h a) (ec_ord_b (by omega)).1 (by have := (ec_ord_b (M := M) (h := h) (k := a) (by omega)).2; omega)
        apply e3
        rw [eo, eo]
        split <;> omega
      have join42 : ∀ (q : Int), (q = ec_ord (mm_E M) h k) → fs_W (d + 1) 195 42 [some (.inr (.ref 124)), some (.inl h), some (.inl a), some (.inl n), some (.inl lf), some (.inl k), zl6, zl7] [.inl q] M Q := by
        intro q k0
        have k1 := ec_ord_b (M := M) (h := h) (k := k) (by omega)
        rw [← k0] at k1
        have a0 := hhd h q (by omega) (by omega) k1.1 (by omega)
        have a1 := ec_left_s (E := mm_E M) (h := h) (due := n) (k := k) i0.1 (by rw [← k0]; show 0 ≤ M 125 (40 + (4 * h + q)); rw [show (40 : Int) + (4 * h + q) = 40 + 4 * h + q by omega]; exact a0.1)
        rw [← k0, show mm_E M 10 (4 * h + q) = M 125 (40 + 4 * h + q) by show M 125 (40 + (4 * h + q)) = _; rw [show (40 : Int) + (4 * h + q) = 40 + 4 * h + q by omega]] at a1
        refine fs_r_call (sta := false) (idx := 72) (as := [.inr (.ref 124), .inl h, .inl q]) (rest := []) (L1 := [some (.inr (.ref 124)), some (.inl h), some (.inl a), some (.inl n), some (.inl lf), some (.inl k), some (.inl q), zl7]) (st1 := [.inl q, .inl h, .inr (.ref 124)]) (M1 := M) (ob := [6 < 8]) rfl rfl rfl (fs_oc (by decide) trivial) rfl rfl (Nat.le_of_ble_eq_true rfl) ⟨Or.inr (Nat.le_of_ble_eq_true rfl), Or.inr fs_ob124⟩ (by decide) ?_
        refine fs_m_holds (by omega) (by omega) ?_
        refine fs_r_icmp (a := (M 125 (40 + 4 * h + q))) (y := lf) (L1 := [some (.inr (.ref 124)), some (.inl h), some (.inl a), some (.inl n), some (.inl lf), some (.inl k), some (.inl q), zl7]) (st1 := []) (M1 := M) (ob := []) rfl rfl trivial (fun (h2 : lf ≤ (M 125 (40 + 4 * h + q))) => ?_) (fun (h2 : ¬ (lf ≤ (M 125 (40 + 4 * h + q)))) => ?_)
        · refine fs_r_nop (L1 := [some (.inr (.ref 124)), some (.inl h), some (.inl a), some (.inl n), some (.inl lf), some (.inl k), some (.inl q), zl7]) (st1 := [.inl lf]) (M1 := M) (ob := []) rfl rfl trivial ?_
          refine fs_r_icmp (a := q) (y := a) (L1 := [some (.inr (.ref 124)), some (.inl h), some (.inl a), some (.inl n), some (.inl lf), some (.inl k), some (.inl q), some (.inl lf)]) (st1 := []) (M1 := M) (ob := [7 < 8]) rfl rfl (fs_oc (by decide) trivial) (fun (h3 : ¬ q = a) => ?_) (fun (h3 : ¬ (¬ q = a)) => ?_)
          · refine fs_r_goto (L1 := [some (.inr (.ref 124)), some (.inl h), some (.inl a), some (.inl n), some (.inl (lf - lf)), some (.inl (k + 1)), some (.inl q), some (.inl lf)]) (st1 := []) (M1 := M) (ob := [fs_rg (lf - lf), 4 < 8, fs_rg (k + 1)]) rfl rfl (fs_oc ⟨by omega, by omega⟩ (fs_oc (by decide) (fs_oc ⟨by omega, by omega⟩ trivial))) ?_
            exact ih6 ((lf - lf)) ((k + 1)) (some (.inl q)) (some (.inl lf)) (by omega) (by rw [a1, ← i1]; omega) (by omega) (fun j q1 q2 => by rcases (show j < k ∨ j = k by omega) with q3 | q3; exact i3 j q1 q3; rw [q3, ← k0]; omega) (by omega)
          refine fs_r_iret (a := lf) (L1 := [some (.inr (.ref 124)), some (.inl h), some (.inl a), some (.inl n), some (.inl lf), some (.inl k), some (.inl q), some (.inl lf)]) (M1 := M) (ob := []) rfl rfl trivial (Or.inl rfl) ?_
          have e3 : ec_ord (mm_E M) h a = k := by
            have := eo k
            rw [eo]
            rw [← k0] at this
            split at this <;> rename_i z <;> simp only [z, if_true, if_false] <;> omega
          exact fs_qi (by unfold ec_part; rw [e3, ← i1]; show _ = min (M 125 (40 + (4 * h + a))) _; rw [show (40 : Int) + (4 * h + a) = 40 + 4 * h + a by omega, show a = q by omega]; omega) hq0
        refine fs_r_call (sta := false) (idx := 72) (as := [.inr (.ref 124), .inl h, .inl q]) (rest := []) (L1 := [some (.inr (.ref 124)), some (.inl h), some (.inl a), some (.inl n), some (.inl lf), some (.inl k), some (.inl q), zl7]) (st1 := [.inl q, .inl h, .inr (.ref 124)]) (M1 := M) (ob := []) rfl rfl rfl trivial rfl rfl (Nat.le_of_ble_eq_true rfl) ⟨Or.inr (Nat.le_of_ble_eq_true rfl), Or.inr fs_ob124⟩ (by decide) ?_
        refine fs_m_holds (by omega) (by omega) ?_
        refine fs_r_goto (L1 := [some (.inr (.ref 124)), some (.inl h), some (.inl a), some (.inl n), some (.inl lf), some (.inl k), some (.inl q), zl7]) (st1 := [.inl (M 125 (40 + 4 * h + q))]) (M1 := M) (ob := []) rfl rfl trivial ?_
        refine fs_r_icmp (a := q) (y := a) (L1 := [some (.inr (.ref 124)), some (.inl h), some (.inl a), some (.inl n), some (.inl lf), some (.inl k), some (.inl q), some (.inl (M 125 (40 + 4 * h + q)))]) (st1 := []) (M1 := M) (ob := [7 < 8]) rfl rfl (fs_oc (by decide) trivial) (fun (h4 : ¬ q = a) => ?_) (fun (h4 : ¬ (¬ q = a)) => ?_)
        · refine fs_r_goto (L1 := [some (.inr (.ref 124)), some (.inl h), some (.inl a), some (.inl n), some (.inl (lf - (M 125 (40 + 4 * h + q)))), some (.inl (k + 1)), some (.inl q), some (.inl (M 125 (40 + 4 * h + q)))]) (st1 := []) (M1 := M) (ob := [fs_rg (lf - (M 125 (40 + 4 * h + q))), 4 < 8, fs_rg (k + 1)]) rfl rfl (fs_oc ⟨by omega, by omega⟩ (fs_oc (by decide) (fs_oc ⟨by omega, by omega⟩ trivial))) ?_
          exact ih6 ((lf - (M 125 (40 + 4 * h + q)))) ((k + 1)) (some (.inl q)) (some (.inl (M 125 (40 + 4 * h + q)))) (by omega) (by rw [a1, ← i1]; omega) (by omega) (fun j q1 q2 => by rcases (show j < k ∨ j = k by omega) with q3 | q3; exact i3 j q1 q3; rw [q3, ← k0]; omega) (by omega)
        refine fs_r_iret (a := (M 125 (40 + 4 * h + q))) (L1 := [some (.inr (.ref 124)), some (.inl h), some (.inl a), some (.inl n), some (.inl lf), some (.inl k), some (.inl q), some (.inl (M 125 (40 + 4 * h + q)))]) (M1 := M) (ob := []) rfl rfl trivial (Or.inl rfl) ?_
        have e3 : ec_ord (mm_E M) h a = k := by
          have := eo k
          rw [eo]
          rw [← k0] at this
          split at this <;> rename_i z <;> simp only [z, if_true, if_false] <;> omega
        exact fs_qi (by unfold ec_part; rw [e3, ← i1]; show _ = min (M 125 (40 + (4 * h + a))) _; rw [show (40 : Int) + (4 * h + a) = 40 + 4 * h + a by omega, show a = q by omega]; omega) hq0
      refine fs_r_call (sta := false) (idx := 175) (as := [.inr (.ref 124), .inl h, .inl 4]) (rest := []) (L1 := [some (.inr (.ref 124)), some (.inl h), some (.inl a), some (.inl n), some (.inl lf), some (.inl k), zl6, zl7]) (st1 := [.inl 4, .inl h, .inr (.ref 124)]) (M1 := M) (ob := []) rfl rfl rfl trivial rfl rfl (Nat.le_of_ble_eq_true rfl) ⟨Or.inr (Nat.le_of_ble_eq_true rfl), Or.inr fs_ob124⟩ (by decide) ?_
      refine fs_m_houseOf (by omega) (by omega) ?_
      refine fs_r_if (a := (M 125 (10 + 5 * h + 4))) (L1 := [some (.inr (.ref 124)), some (.inl h), some (.inl a), some (.inl n), some (.inl lf), some (.inl k), zl6, zl7]) (st1 := []) (M1 := M) (ob := []) rfl rfl trivial (fun (h5 : ¬ (M 125 (10 + 5 * h + 4)) = 0) => ?_) (fun (h5 : ¬ (¬ (M 125 (10 + 5 * h + 4)) = 0)) => ?_)
      · refine fs_r_nop (L1 := [some (.inr (.ref 124)), some (.inl h), some (.inl a), some (.inl n), some (.inl lf), some (.inl k), zl6, zl7]) (st1 := [.inl (((M 125 0) - 1) - k)]) (M1 := M) (ob := [124 < fs_N ∧ fs_kd 124 = 6, (125 < fs_N ∧ fs_kd 125 = 100) ∧ (0 : Int) ≤ 0 ∧ 0 < fs_ln 125, fs_rg ((M 125 0) - 1), fs_rg (((M 125 0) - 1) - k)]) rfl (fs_exA 6 (o1 := [124 < fs_N ∧ fs_kd 124 = 6, (125 < fs_N ∧ fs_kd 125 = 100) ∧ (0 : Int) ≤ 0 ∧ 0 < fs_ln 125, fs_rg ((M 125 0) - 1)]) (L1 := [some (.inr (.ref 124)), some (.inl h), some (.inl a), some (.inl n), some (.inl lf), some (.inl k), zl6, zl7]) (st1 := [.inl ((M 125 0) - 1)]) (M1 := M) (o2 := [fs_rg (((M 125 0) - 1) - k)]) rfl rfl) (fs_oc fs_ob124 (fs_oc (fs_ar125 (by omega) (by omega)) (fs_oc ⟨by omega, by omega⟩ (fs_oc ⟨by omega, by omega⟩ trivial)))) ?_
        exact join42 ((((M 125 0) - 1) - k)) (by rw [eo]; split <;> omega)
      refine fs_r_goto (L1 := [some (.inr (.ref 124)), some (.inl h), some (.inl a), some (.inl n), some (.inl lf), some (.inl k), zl6, zl7]) (st1 := [.inl k]) (M1 := M) (ob := []) rfl rfl trivial ?_
      exact join42 (k) (by rw [eo]; split <;> omega)
  exact loop6 (((M 125 0 - (0)) : Int) + 1).toNat (n) (0) (none) (none) (by omega) (by unfold ec_left; show n = max 0 (n - 0); omega) (by omega) (fun j q1 q2 => by omega) (by omega)
