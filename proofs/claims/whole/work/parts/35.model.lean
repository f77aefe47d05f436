theorem fs_m_set {d : Nat} {M : fs_M} {Q : Option fs_V → fs_M → Prop} {h : Int} {w : Int} {v : Int}  (hI : fs_NI (M 125)) (hc : 0 ≤ M 124 4 ∧ M 124 4 ≤ 12) (hq0 : ∀ (M2 : fs_M), ((0 ≤ h ∧ h < M 125 1) ∧ (0 ≤ w ∧ w ≤ 4) ∧ ((w = 3 → 1 ≤ v ∧ v ≤ 99) ∧ (w = 4 → 0 ≤ v ∧ v ≤ 1) ∧ (w ≤ 2 → 0 ≤ v ∧ v ≤ 9999)) ∧ M 125 (10 + 5 * h + w) ≠ v) → (mm_act M M2 (up1 (M 125) (10 + 5 * h + w) v)) → Q (some (.inl (M 125 (10 + 5 * h + w)))) M2) (hq1 : (¬ ((0 ≤ h ∧ h < M 125 1) ∧ (0 ≤ w ∧ w ≤ 4) ∧ ((w = 3 → 1 ≤ v ∧ v ≤ 99) ∧ (w = 4 → 0 ≤ v ∧ v ≤ 1) ∧ (w ≤ 2 → 0 ≤ v ∧ v ≤ 9999)) ∧ M 125 (10 + 5 * h + w) ≠ v)) → Q (some (.inl (-1))) M) : fs_W (d + 2) 209 0 [some (.inr (.ref 124)), some (.inl h), some (.inl w), some (.inl v)] [] M Q := by
  have hN := hI
  obtain ⟨⟨hA0, hA1⟩, ⟨hH0, hH1⟩, -⟩ := id hN
  refine fs_r_call (sta := false) (idx := 237) (as := [.inr (.ref 124), .inl h]) (rest := []) (L1 := [some (.inr (.ref 124)), some (.inl h), some (.inl w), some (.inl v)]) (st1 := [.inl h, .inr (.ref 124)]) (M1 := M) (ob := []) rfl rfl rfl trivial rfl rfl (Nat.le_of_ble_eq_true rfl) ⟨Or.inr (Nat.le_of_ble_eq_true rfl), Or.inr fs_ob124⟩ (by decide) ?_
  refine fs_m_isHouse (by assumption) (fun (f1 : 0 ≤ h ∧ h < M 125 1) => ?_) (fun (f2 : ¬ (0 ≤ h ∧ h < M 125 1)) => ?_)
  · refine fs_r_if (a := 1) (L1 := [some (.inr (.ref 124)), some (.inl h), some (.inl w), some (.inl v)]) (st1 := []) (M1 := M) (ob := []) rfl rfl trivial (fun h => absurd h (by decide : ¬ ((1 : Int) = 0))) (fun _ => ?_)
    refine fs_r_call (sta := true) (idx := 68) (as := [.inl w, .inl 0, .inl 4]) (rest := []) (L1 := [some (.inr (.ref 124)), some (.inl h), some (.inl w), some (.inl v)]) (st1 := [.inl 4, .inl 0, .inl w]) (M1 := M) (ob := []) rfl rfl rfl trivial rfl rfl (Nat.le_of_ble_eq_true rfl) ⟨Or.inr (Nat.le_of_ble_eq_true rfl), trivial⟩ (by decide) ?_
    refine fs_m_isIn (fun (f3 : 0 ≤ w ∧ w ≤ 4) => ?_) (fun (f4 : ¬ (0 ≤ w ∧ w ≤ 4)) => ?_)
    · refine fs_r_if (a := 1) (L1 := [some (.inr (.ref 124)), some (.inl h), some (.inl w), some (.inl v)]) (st1 := []) (M1 := M) (ob := []) rfl rfl trivial (fun h => absurd h (by decide : ¬ ((1 : Int) = 0))) (fun _ => ?_)
      refine fs_r_icmp (a := w) (y := 3) (L1 := [some (.inr (.ref 124)), some (.inl h), some (.inl w), some (.inl v)]) (st1 := [.inl v]) (M1 := M) (ob := []) rfl rfl trivial (fun (h5 : ¬ w = 3) => ?_) (fun (h5 : ¬ (¬ w = 3)) => ?_)
      · refine fs_r_nop (L1 := [some (.inr (.ref 124)), some (.inl h), some (.inl w), some (.inl v)]) (st1 := [.inl 0, .inl v]) (M1 := M) (ob := []) rfl rfl trivial ?_
        refine fs_r_icmp (a := w) (y := 3) (L1 := [some (.inr (.ref 124)), some (.inl h), some (.inl w), some (.inl v)]) (st1 := [.inl 0, .inl v]) (M1 := M) (ob := []) rfl rfl trivial (fun (h6 : ¬ w = 3) => ?_) (fun (h6 : ¬ (¬ w = 3)) => ?_)
        · refine fs_r_icmp (a := w) (y := 4) (L1 := [some (.inr (.ref 124)), some (.inl h), some (.inl w), some (.inl v)]) (st1 := [.inl 0, .inl v]) (M1 := M) (ob := []) rfl rfl trivial (fun (h7 : ¬ w = 4) => ?_) (fun (h7 : ¬ (¬ w = 4)) => ?_)
          · refine fs_r_nop (L1 := [some (.inr (.ref 124)), some (.inl h), some (.inl w), some (.inl v)]) (st1 := [.inl 9999, .inl 0, .inl v]) (M1 := M) (ob := []) rfl rfl trivial ?_
            refine fs_r_call (sta := true) (idx := 68) (as := [.inl v, .inl 0, .inl 9999]) (rest := []) (L1 := [some (.inr (.ref 124)), some (.inl h), some (.inl w), some (.inl v)]) (st1 := [.inl 9999, .inl 0, .inl v]) (M1 := M) (ob := []) rfl rfl rfl trivial rfl rfl (Nat.le_of_ble_eq_true rfl) ⟨Or.inr (Nat.le_of_ble_eq_true rfl), trivial⟩ (by decide) ?_
            refine fs_m_isIn (fun (f8 : 0 ≤ v ∧ v ≤ 9999) => ?_) (fun (f9 : ¬ (0 ≤ v ∧ v ≤ 9999)) => ?_)
            · refine fs_r_if (a := 1) (L1 := [some (.inr (.ref 124)), some (.inl h), some (.inl w), some (.inl v)]) (st1 := []) (M1 := M) (ob := []) rfl rfl trivial (fun h => absurd h (by decide : ¬ ((1 : Int) = 0))) (fun _ => ?_)
              refine fs_r_call (sta := false) (idx := 175) (as := [.inr (.ref 124), .inl h, .inl w]) (rest := []) (L1 := [some (.inr (.ref 124)), some (.inl h), some (.inl w), some (.inl v)]) (st1 := [.inl w, .inl h, .inr (.ref 124)]) (M1 := M) (ob := []) rfl rfl rfl trivial rfl rfl (Nat.le_of_ble_eq_true rfl) ⟨Or.inr (Nat.le_of_ble_eq_true rfl), Or.inr fs_ob124⟩ (by decide) ?_
              refine fs_m_houseOf (by omega) (by omega) ?_
              refine fs_r_icmp (a := (M 125 (10 + 5 * h + w))) (y := v) (L1 := [some (.inr (.ref 124)), some (.inl h), some (.inl w), some (.inl v)]) (st1 := []) (M1 := M) (ob := []) rfl rfl trivial (fun (h10 : ¬ (M 125 (10 + 5 * h + w)) = v) => ?_) (fun (h10 : ¬ (¬ (M 125 (10 + 5 * h + w)) = v)) => ?_)
              · refine fs_r_call (sta := false) (idx := 240) (as := [.inr (.ref 124), .inl ((10 + (5 * h)) + w), .inl v]) (rest := []) (L1 := [some (.inr (.ref 124)), some (.inl h), some (.inl w), some (.inl v)]) (st1 := [.inl v, .inl ((10 + (5 * h)) + w), .inr (.ref 124)]) (M1 := M) (ob := [fs_rg (5 * h), fs_rg (10 + (5 * h)), fs_rg ((10 + (5 * h)) + w)]) rfl rfl (fs_exA 6 (o1 := [fs_rg (5 * h), fs_rg (10 + (5 * h))]) (L1 := [some (.inr (.ref 124)), some (.inl h), some (.inl w), some (.inl v)]) (st1 := [.inl (10 + (5 * h)), .inr (.ref 124)]) (M1 := M) (o2 := [fs_rg ((10 + (5 * h)) + w)]) rfl rfl) (fs_oc ⟨by omega, by omega⟩ (fs_oc ⟨by omega, by omega⟩ (fs_oc ⟨by omega, by omega⟩ trivial))) rfl rfl (Nat.le_of_ble_eq_true rfl) ⟨Or.inr (Nat.le_of_ble_eq_true rfl), Or.inr fs_ob124⟩ (by decide) ?_
                refine fs_m_puts (by assumption) (by omega) (fun (V1 : fs_M) (a1 : mm_act M V1 (up1 (M 125) ((10 + (5 * h)) + w) v)) => ?_)
                refine fs_r_iret (a := (M 125 ((10 + (5 * h)) + w))) (L1 := [some (.inr (.ref 124)), some (.inl h), some (.inl w), some (.inl v)]) (M1 := V1) (ob := []) rfl rfl trivial (Or.inl rfl) ?_
                exact hq0 _ (by omega) a1
              refine fs_r_iret (a := (-1)) (L1 := [some (.inr (.ref 124)), some (.inl h), some (.inl w), some (.inl v)]) (M1 := M) (ob := []) rfl rfl trivial (Or.inl rfl) ?_
              exact hq1 (fun z => by omega)
            refine fs_r_if (a := 0) (L1 := [some (.inr (.ref 124)), some (.inl h), some (.inl w), some (.inl v)]) (st1 := []) (M1 := M) (ob := []) rfl rfl trivial (fun _ => ?_) (fun h => absurd (by decide : (0 : Int) = 0) h)
            refine fs_r_iret (a := (-1)) (L1 := [some (.inr (.ref 124)), some (.inl h), some (.inl w), some (.inl v)]) (M1 := M) (ob := []) rfl rfl trivial (Or.inl rfl) ?_
            exact hq1 (fun z => by omega)
          refine fs_r_goto (L1 := [some (.inr (.ref 124)), some (.inl h), some (.inl w), some (.inl v)]) (st1 := [.inl 1, .inl 0, .inl v]) (M1 := M) (ob := []) rfl rfl trivial ?_
          refine fs_r_call (sta := true) (idx := 68) (as := [.inl v, .inl 0, .inl 1]) (rest := []) (L1 := [some (.inr (.ref 124)), some (.inl h), some (.inl w), some (.inl v)]) (st1 := [.inl 1, .inl 0, .inl v]) (M1 := M) (ob := []) rfl rfl rfl trivial rfl rfl (Nat.le_of_ble_eq_true rfl) ⟨Or.inr (Nat.le_of_ble_eq_true rfl), trivial⟩ (by decide) ?_
          refine fs_m_isIn (fun (f11 : 0 ≤ v ∧ v ≤ 1) => ?_) (fun (f12 : ¬ (0 ≤ v ∧ v ≤ 1)) => ?_)
          · refine fs_r_if (a := 1) (L1 := [some (.inr (.ref 124)), some (.inl h), some (.inl w), some (.inl v)]) (st1 := []) (M1 := M) (ob := []) rfl rfl trivial (fun h => absurd h (by decide : ¬ ((1 : Int) = 0))) (fun _ => ?_)
            refine fs_r_call (sta := false) (idx := 175) (as := [.inr (.ref 124), .inl h, .inl w]) (rest := []) (L1 := [some (.inr (.ref 124)), some (.inl h), some (.inl w), some (.inl v)]) (st1 := [.inl w, .inl h, .inr (.ref 124)]) (M1 := M) (ob := []) rfl rfl rfl trivial rfl rfl (Nat.le_of_ble_eq_true rfl) ⟨Or.inr (Nat.le_of_ble_eq_true rfl), Or.inr fs_ob124⟩ (by decide) ?_
            refine fs_m_houseOf (by omega) (by omega) ?_
            refine fs_r_icmp (a := (M 125 (10 + 5 * h + w))) (y := v) (L1 := [some (.inr (.ref 124)), some (.inl h), some (.inl w), some (.inl v)]) (st1 := []) (M1 := M) (ob := []) rfl rfl trivial (fun (h13 : ¬ (M 125 (10 + 5 * h + w)) = v) => ?_) (fun (h13 : ¬ (¬ (M 125 (10 + 5 * h + w)) = v)) => ?_)
            · refine fs_r_call (sta := false) (idx := 240) (as := [.inr (.ref 124), .inl ((10 + (5 * h)) + w), .inl v]) (rest := []) (L1 := [some (.inr (.ref 124)), some (.inl h), some (.inl w), some (.inl v)]) (st1 := [.inl v, .inl ((10 + (5 * h)) + w), .inr (.ref 124)]) (M1 := M) (ob := [fs_rg (5 * h), fs_rg (10 + (5 * h)), fs_rg ((10 + (5 * h)) + w)]) rfl rfl (fs_exA 6 (o1 := [fs_rg (5 * h), fs_rg (10 + (5 * h))]) (L1 := [some (.inr (.ref 124)), some (.inl h), some (.inl w), some (.inl v)]) (st1 := [.inl (10 + (5 * h)), .inr (.ref 124)]) (M1 := M) (o2 := [fs_rg ((10 + (5 * h)) + w)]) rfl rfl) (fs_oc ⟨by omega, by omega⟩ (fs_oc ⟨by omega, by omega⟩ (fs_oc ⟨by omega, by omega⟩ trivial))) rfl rfl (Nat.le_of_ble_eq_true rfl) ⟨Or.inr (Nat.le_of_ble_eq_true rfl), Or.inr fs_ob124⟩ (by decide) ?_
              refine fs_m_puts (by assumption) (by omega) (fun (V1 : fs_M) (a1 : mm_act M V1 (up1 (M 125) ((10 + (5 * h)) + w) v)) => ?_)
              refine fs_r_iret (a := (M 125 ((10 + (5 * h)) + w))) (L1 := [some (.inr (.ref 124)), some (.inl h), some (.inl w), some (.inl v)]) (M1 := V1) (ob := []) rfl rfl trivial (Or.inl rfl) ?_
              exact hq0 _ (by omega) a1
            refine fs_r_iret (a := (-1)) (L1 := [some (.inr (.ref 124)), some (.inl h), some (.inl w), some (.inl v)]) (M1 := M) (ob := []) rfl rfl trivial (Or.inl rfl) ?_
            exact hq1 (fun z => by omega)
          refine fs_r_if (a := 0) (L1 := [some (.inr (.ref 124)), some (.inl h), some (.inl w), some (.inl v)]) (st1 := []) (M1 := M) (ob := []) rfl rfl trivial (fun _ => ?_) (fun h => absurd (by decide : (0 : Int) = 0) h)
          refine fs_r_iret (a := (-1)) (L1 := [some (.inr (.ref 124)), some (.inl h), some (.inl w), some (.inl v)]) (M1 := M) (ob := []) rfl rfl trivial (Or.inl rfl) ?_
          exact hq1 (fun z => by omega)
        refine fs_r_goto (L1 := [some (.inr (.ref 124)), some (.inl h), some (.inl w), some (.inl v)]) (st1 := [.inl 99, .inl 0, .inl v]) (M1 := M) (ob := []) rfl rfl trivial ?_
        refine fs_r_call (sta := true) (idx := 68) (as := [.inl v, .inl 0, .inl 99]) (rest := []) (L1 := [some (.inr (.ref 124)), some (.inl h), some (.inl w), some (.inl v)]) (st1 := [.inl 99, .inl 0, .inl v]) (M1 := M) (ob := []) rfl rfl rfl trivial rfl rfl (Nat.le_of_ble_eq_true rfl) ⟨Or.inr (Nat.le_of_ble_eq_true rfl), trivial⟩ (by decide) ?_
        refine fs_m_isIn (fun (f14 : 0 ≤ v ∧ v ≤ 99) => ?_) (fun (f15 : ¬ (0 ≤ v ∧ v ≤ 99)) => ?_)
        · refine fs_r_if (a := 1) (L1 := [some (.inr (.ref 124)), some (.inl h), some (.inl w), some (.inl v)]) (st1 := []) (M1 := M) (ob := []) rfl rfl trivial (fun h => absurd h (by decide : ¬ ((1 : Int) = 0))) (fun _ => ?_)
          refine fs_r_call (sta := false) (idx := 175) (as := [.inr (.ref 124), .inl h, .inl w]) (rest := []) (L1 := [some (.inr (.ref 124)), some (.inl h), some (.inl w), some (.inl v)]) (st1 := [.inl w, .inl h, .inr (.ref 124)]) (M1 := M) (ob := []) rfl rfl rfl trivial rfl rfl (Nat.le_of_ble_eq_true rfl) ⟨Or.inr (Nat.le_of_ble_eq_true rfl), Or.inr fs_ob124⟩ (by decide) ?_
          refine fs_m_houseOf (by omega) (by omega) ?_
          refine fs_r_icmp (a := (M 125 (10 + 5 * h + w))) (y := v) (L1 := [some (.inr (.ref 124)), some (.inl h), some (.inl w), some (.inl v)]) (st1 := []) (M1 := M) (ob := []) rfl rfl trivial (fun (h16 : ¬ (M 125 (10 + 5 * h + w)) = v) => ?_) (fun (h16 : ¬ (¬ (M 125 (10 + 5 * h + w)) = v)) => ?_)
          · refine fs_r_call (sta := false) (idx := 240) (as := [.inr (.ref 124), .inl ((10 + (5 * h)) + w), .inl v]) (rest := []) (L1 := [some (.inr (.ref 124)), some (.inl h), some (.inl w), some (.inl v)]) (st1 := [.inl v, .inl ((10 + (5 * h)) + w), .inr (.ref 124)]) (M1 := M) (ob := [fs_rg (5 * h), fs_rg (10 + (5 * h)), fs_rg ((10 + (5 * h)) + w)]) rfl rfl (fs_exA 6 (o1 := [fs_rg (5 * h), fs_rg (10 + (5 * h))]) (L1 := [some (.inr (.ref 124)), some (.inl h), some (.inl w), some (.inl v)]) (st1 := [.inl (10 + (5 * h)), .inr (.ref 124)]) (M1 := M) (o2 := [fs_rg ((10 + (5 * h)) + w)]) rfl rfl) (fs_oc ⟨by omega, by omega⟩ (fs_oc ⟨by omega, by omega⟩ (fs_oc ⟨by omega, by omega⟩ trivial))) rfl rfl (Nat.le_of_ble_eq_true rfl) ⟨Or.inr (Nat.le_of_ble_eq_true rfl), Or.inr fs_ob124⟩ (by decide) ?_
            refine fs_m_puts (by assumption) (by omega) (fun (V1 : fs_M) (a1 : mm_act M V1 (up1 (M 125) ((10 + (5 * h)) + w) v)) => ?_)
            refine fs_r_iret (a := (M 125 ((10 + (5 * h)) + w))) (L1 := [some (.inr (.ref 124)), some (.inl h), some (.inl w), some (.inl v)]) (M1 := V1) (ob := []) rfl rfl trivial (Or.inl rfl) ?_
            exact hq0 _ (by omega) a1
          refine fs_r_iret (a := (-1)) (L1 := [some (.inr (.ref 124)), some (.inl h), some (.inl w), some (.inl v)]) (M1 := M) (ob := []) rfl rfl trivial (Or.inl rfl) ?_
          exact hq1 (fun z => by omega)
        refine fs_r_if (a := 0) (L1 := [some (.inr (.ref 124)), some (.inl h), some (.inl w), some (.inl v)]) (st1 := []) (M1 := M) (ob := []) rfl rfl trivial (fun _ => ?_) (fun h => absurd (by decide : (0 : Int) = 0) h)
        refine fs_r_iret (a := (-1)) (L1 := [some (.inr (.ref 124)), some (.inl h), some (.inl w), some (.inl v)]) (M1 := M) (ob := []) rfl rfl trivial (Or.inl rfl) ?_
        exact hq1 (fun z => by omega)
      refine fs_r_goto (L1 := [some (.inr (.ref 124)), some (.inl h), some (.inl w), some (.inl v)]) (st1 := [.inl 1, .inl v]) (M1 := M) (ob := []) rfl rfl trivial ?_
      refine fs_r_icmp (a := w) (y := 3) (L1 := [some (.inr (.ref 124)), some (.inl h), some (.inl w), some (.inl v)]) (st1 := [.inl 1, .inl v]) (M1 := M) (ob := []) rfl rfl trivial (fun (h17 : ¬ w = 3) => ?_) (fun (h17 : ¬ (¬ w = 3)) => ?_)
      · refine fs_r_icmp (a := w) (y := 4) (L1 := [some (.inr (.ref 124)), some (.inl h), some (.inl w), some (.inl v)]) (st1 := [.inl 1, .inl v]) (M1 := M) (ob := []) rfl rfl trivial (fun (h18 : ¬ w = 4) => ?_) (fun (h18 : ¬ (¬ w = 4)) => ?_)
        · refine fs_r_nop (L1 := [some (.inr (.ref 124)), some (.inl h), some (.inl w), some (.inl v)]) (st1 := [.inl 9999, .inl 1, .inl v]) (M1 := M) (ob := []) rfl rfl trivial ?_
          refine fs_r_call (sta := true) (idx := 68) (as := [.inl v, .inl 1, .inl 9999]) (rest := []) (L1 := [some (.inr (.ref 124)), some (.inl h), some (.inl w), some (.inl v)]) (st1 := [.inl 9999, .inl 1, .inl v]) (M1 := M) (ob := []) rfl rfl rfl trivial rfl rfl (Nat.le_of_ble_eq_true rfl) ⟨Or.inr (Nat.le_of_ble_eq_true rfl), trivial⟩ (by decide) ?_
          refine fs_m_isIn (fun (f19 : 1 ≤ v ∧ v ≤ 9999) => ?_) (fun (f20 : ¬ (1 ≤ v ∧ v ≤ 9999)) => ?_)
          · refine fs_r_if (a := 1) (L1 := [some (.inr (.ref 124)), some (.inl h), some (.inl w), some (.inl v)]) (st1 := []) (M1 := M) (ob := []) rfl rfl trivial (fun h => absurd h (by decide : ¬ ((1 : Int) = 0))) (fun _ => ?_)
            refine fs_r_call (sta := false) (idx := 175) (as := [.inr (.ref 124), .inl h, .inl w]) (rest := []) (L1 := [some (.inr (.ref 124)), some (.inl h), some (.inl w), some (.inl v)]) (st1 := [.inl w, .inl h, .inr (.ref 124)]) (M1 := M) (ob := []) rfl rfl rfl trivial rfl rfl (Nat.le_of_ble_eq_true rfl) ⟨Or.inr (Nat.le_of_ble_eq_true rfl), Or.inr fs_ob124⟩ (by decide) ?_
            refine fs_m_houseOf (by omega) (by omega) ?_
            refine fs_r_icmp (a := (M 125 (10 + 5 * h + w))) (y := v) (L1 := [some (.inr (.ref 124)), some (.inl h), some (.inl w), some (.inl v)]) (st1 := []) (M1 := M) (ob := []) rfl rfl trivial (fun (h21 : ¬ (M 125 (10 + 5 * h + w)) = v) => ?_) (fun (h21 : ¬ (¬ (M 125 (10 + 5 * h + w)) = v)) => ?_)
            · refine fs_r_call (sta := false) (idx := 240) (as := [.inr (.ref 124), .inl ((10 + (5 * h)) + w), .inl v]) (rest := []) (L1 := [some (.inr (.ref 124)), some (.inl h), some (.inl w), some (.inl v)]) (st1 := [.inl v, .inl ((10 + (5 * h)) + w), .inr (.ref 124)]) (M1 := M) (ob := [fs_rg (5 * h), fs_rg (10 + (5 * h)), fs_rg ((10 + (5 * h)) + w)]) rfl rfl (fs_exA 6 (o1 := [fs_rg (5 * h), fs_rg (10 + (5 * h))]) (L1 := [some (.inr (.ref 124)), some (.inl h), some (.inl w), some (.inl v)]) (st1 := [.inl (10 + (5 * h)), .inr (.ref 124)]) (M1 := M) (o2 := [fs_rg ((10 + (5 * h)) + w)]) rfl rfl) (fs_oc ⟨by omega, by omega⟩ (fs_oc ⟨by omega, by omega⟩ (fs_oc ⟨by omega, by omega⟩ trivial))) rfl rfl (Nat.le_of_ble_eq_true rfl) ⟨Or.inr (Nat.le_of_ble_eq_true rfl), Or.inr fs_ob124⟩ (by decide) ?_
              refine fs_m_puts (by assumption) (by omega) (fun (V1 : fs_M) (a1 : mm_act M V1 (up1 (M 125) ((10 + (5 * h)) + w) v)) => ?_)
              refine fs_r_iret (a := (M 125 ((10 + (5 * h)) + w))) (L1 := [some (.inr (.ref 124)), some (.inl h), some (.inl w), some (.inl v)]) (M1 := V1) (ob := []) rfl rfl trivial (Or.inl rfl) ?_
              exact hq0 _ (by omega) a1
            refine fs_r_iret (a := (-1)) (L1 := [some (.inr (.ref 124)), some (.inl h), some (.inl w), some (.inl v)]) (M1 := M) (ob := []) rfl rfl trivial (Or.inl rfl) ?_
            exact hq1 (fun z => by omega)
          refine fs_r_if (a := 0) (L1 := [some (.inr (.ref 124)), some (.inl h), some (.inl w), some (.inl v)]) (st1 := []) (M1 := M) (ob := []) rfl rfl trivial (fun _ => ?_) (fun h => absurd (by decide : (0 : Int) = 0) h)
          refine fs_r_iret (a := (-1)) (L1 := [some (.inr (.ref 124)), some (.inl h), some (.inl w), some (.inl v)]) (M1 := M) (ob := []) rfl rfl trivial (Or.inl rfl) ?_
          exact hq1 (fun z => by omega)
        refine fs_r_goto (L1 := [some (.inr (.ref 124)), some (.inl h), some (.inl w), some (.inl v)]) (st1 := [.inl 1, .inl 1, .inl v]) (M1 := M) (ob := []) rfl rfl trivial ?_
        refine fs_r_call (sta := true) (idx := 68) (as := [.inl v, .inl 1, .inl 1]) (rest := []) (L1 := [some (.inr (.ref 124)), some (.inl h), some (.inl w), some (.inl v)]) (st1 := [.inl 1, .inl 1, .inl v]) (M1 := M) (ob := []) rfl rfl rfl trivial rfl rfl (Nat.le_of_ble_eq_true rfl) ⟨Or.inr (Nat.le_of_ble_eq_true rfl), trivial⟩ (by decide) ?_
        refine fs_m_isIn (fun (f22 : 1 ≤ v ∧ v ≤ 1) => ?_) (fun (f23 : ¬ (1 ≤ v ∧ v ≤ 1)) => ?_)
        · refine fs_r_if (a := 1) (L1 := [some (.inr (.ref 124)), some (.inl h), some (.inl w), some (.inl v)]) (st1 := []) (M1 := M) (ob := []) rfl rfl trivial (fun h => absurd h (by decide : ¬ ((1 : Int) = 0))) (fun _ => ?_)
          refine fs_r_call (sta := false) (idx := 175) (as := [.inr (.ref 124), .inl h, .inl w]) (rest := []) (L1 := [some (.inr (.ref 124)), some (.inl h), some (.inl w), some (.inl v)]) (st1 := [.inl w, .inl h, .inr (.ref 124)]) (M1 := M) (ob := []) rfl rfl rfl trivial rfl rfl (Nat.le_of_ble_eq_true rfl) ⟨Or.inr (Nat.le_of_ble_eq_true rfl), Or.inr fs_ob124⟩ (by decide) ?_
          refine fs_m_houseOf (by omega) (by omega) ?_
          refine fs_r_icmp (a := (M 125 (10 + 5 * h + w))) (y := v) (L1 := [some (.inr (.ref 124)), some (.inl h), some (.inl w), some (.inl v)]) (st1 := []) (M1 := M) (ob := []) rfl rfl trivial (fun (h24 : ¬ (M 125 (10 + 5 * h + w)) = v) => ?_) (fun (h24 : ¬ (¬ (M 125 (10 + 5 * h + w)) = v)) => ?_)
          · refine fs_r_call (sta := false) (idx := 240) (as := [.inr (.ref 124), .inl ((10 + (5 * h)) + w), .inl v]) (rest := []) (L1 := [some (.inr (.ref 124)), some (.inl h), some (.inl w), some (.inl v)]) (st1 := [.inl v, .inl ((10 + (5 * h)) + w), .inr (.ref 124)]) (M1 := M) (ob := [fs_rg (5 * h), fs_rg (10 + (5 * h)), fs_rg ((10 + (5 * h)) + w)]) rfl rfl (fs_exA 6 (o1 := [fs_rg (5 * h), fs_rg (10 + (5 * h))]) (L1 := [some (.inr (.ref 124)), some (.inl h), some (.inl w), some (.inl v)]) (st1 := [.inl (10 + (5 * h)), .inr (.ref 124)]) (M1 := M) (o2 := [fs_rg ((10 + (5 * h)) + w)]) rfl rfl) (fs_oc ⟨by omega, by omega⟩ (fs_oc ⟨by omega, by omega⟩ (fs_oc ⟨by omega, by omega⟩ trivial))) rfl rfl (Nat.le_of_ble_eq_true rfl) ⟨Or.inr (Nat.le_of_ble_eq_true rfl), Or.inr fs_ob124⟩ (by decide) ?_
            refine fs_m_puts (by assumption) (by omega) (fun (V1 : fs_M) (a1 : mm_act M V1 (up1 (M 125) ((10 + (5 * h)) + w) v)) => ?_)
            refine fs_r_iret (a := (M 125 ((10 + (5 * h)) + w))) (L1 := [some (.inr (.ref 124)), some (.inl h), some (.inl w), some (.inl v)]) (M1 := V1) (ob := []) rfl rfl trivial (Or.inl rfl) ?_
            exact hq0 _ (by omega) a1
          refine fs_r_iret (a := (-1)) (L1 := [some (.inr (.ref 124)), some (.inl h), some (.inl w), some (.inl v)]) (M1 := M) (ob := []) rfl rfl trivial (Or.inl rfl) ?_
          exact hq1 (fun z => by omega)
        refine fs_r_if (a := 0) (L1 := [some (.inr (.ref 124)), some (.inl h), some (.inl w), some (.inl v)]) (st1 := []) (M1 := M) (ob := []) rfl rfl trivial (fun _ => ?_) (fun h => absurd (by decide : (0 : Int) = 0) h)
        refine fs_r_iret (a := (-1)) (L1 := [some (.inr (.ref 124)), some (.inl h), some (.inl w), some (.inl v)]) (M1 := M) (ob := []) rfl rfl trivial (Or.inl rfl) ?_
        exact hq1 (fun z => by omega)
      refine fs_r_goto (L1 := [some (.inr (.ref 124)), some (.inl h), some (.inl w), some (.inl v)]) (st1 := [.inl 99, .inl 1, .inl v]) (M1 := M) (ob := []) rfl rfl trivial ?_
      refine fs_r_call (sta := true) (idx := 68) (as := [.inl v, .inl 1, .inl 99]) (rest := []) (L1 := [some (.inr (.ref 124)), some (.inl h), some (.inl w), some (.inl v)]) (st1 := [.inl 99, .inl 1, .inl v]) (M1 := M) (ob := []) rfl rfl rfl trivial rfl rfl (Nat.le_of_ble_eq_true rfl) ⟨Or.inr (Nat.le_of_ble_eq_true rfl), trivial⟩ (by decide) ?_
      refine fs_m_isIn (fun (f25 : 1 ≤ v ∧ v ≤ 99) => ?_) (fun (f26 : ¬ (1 ≤ v ∧ v ≤ 99)) => ?_)
      · refine fs_r_if (a := 1) (L1 := [some (.inr (.ref 124)), some (.inl h), some (.inl w), some (.inl v)]) (st1 := []) (M1 := M) (ob := []) rfl rfl trivial (fun h => absurd h (by decide : ¬ ((1 : Int) = 0))) (fun _ => ?_)
        refine fs_r_call (sta := false) (idx := 175) (as := [.inr (.ref 124), .inl h, .inl w]) (rest := []) (L1 := [some (.inr (.ref 124)), some (.inl h), some (.inl w), some (.inl v)]) (st1 := [.inl w, .inl h, .inr (.ref 124)]) (M1 := M) (ob := []) rfl rfl rfl trivial rfl rfl (Nat.le_of_ble_eq_true rfl) ⟨Or.inr (Nat.le_of_ble_eq_true rfl), Or.inr fs_ob124⟩ (by decide) ?_
        refine fs_m_houseOf (by omega) (by omega) ?_
        refine fs_r_icmp (a := (M 125 (10 + 5 * h + w))) (y := v) (L1 := [some (.inr (.ref 124)), some (.inl h), some (.inl w), some (.inl v)]) (st1 := []) (M1 := M) (ob := []) rfl rfl trivial (fun (h27 : ¬ (M 125 (10 + 5 * h + w)) = v) => ?_) (fun (h27 : ¬ (¬ (M 125 (10 + 5 * h + w)) = v)) => ?_)
        · refine fs_r_call (sta := false) (idx := 240) (as := [.inr (.ref 124), .inl ((10 + (5 * h)) + w), .inl v]) (rest := []) (L1 := [some (.inr (.ref 124)), some (.inl h), some (.inl w), some (.inl v)]) (st1 := [.inl v, .inl ((10 + (5 * h)) + w), .inr (.ref 124)]) (M1 := M) (ob := [fs_rg (5 * h), fs_rg (10 + (5 * h)), fs_rg ((10 + (5 * h)) + w)]) rfl rfl (fs_exA 6 (o1 := [fs_rg (5 * h), fs_rg (10 + (5 * h))]) (L1 := [some (.inr (.ref 124)), some (.inl h), some (.inl w), some (.inl v)]) (st1 := [.inl (10 + (5 * h)), .inr (.ref 124)]) (M1 := M) (o2 := [fs_rg ((10 + (5 * h)) + w)]) rfl rfl) (fs_oc ⟨by omega, by omega⟩ (fs_oc ⟨by omega, by omega⟩ (fs_oc ⟨by omega, by omega⟩ trivial))) rfl rfl (Nat.le_of_ble_eq_true rfl) ⟨Or.inr (Nat.le_of_ble_eq_true rfl), Or.inr fs_ob124⟩ (by decide) ?_
          refine fs_m_puts (by assumption) (by omega) (fun (V1 : fs_M) (a1 : mm_act M V1 (up1 (M 125) ((10 + (5 * h)) + w) v)) => ?_)
          refine fs_r_iret (a := (M 125 ((10 + (5 * h)) + w))) (L1 := [some (.inr (.ref 124)), some (.inl h), some (.inl w), some (.inl v)]) (M1 := V1) (ob := []) rfl rfl trivial (Or.inl rfl) ?_
          exact hq0 _ (by omega) a1
        refine fs_r_iret (a := (-1)) (L1 := [some (.inr (.ref 124)), some (.inl h), some (.inl w), some (.inl v)]) (M1 := M) (ob := []) rfl rfl trivial (Or.inl rfl) ?_
        exact hq1 (fun z => by omega)
      refine fs_r_if (a := 0) (L1 := [some (.inr (.ref 124)), some (.inl h), some (.inl w), some (.inl v)]) (st1 := []) (M1 := M) (ob := []) rfl rfl trivial (fun _ => ?_) (fun h => absurd (by decide : (0 : Int) = 0) h)
      refine fs_r_iret (a := (-1)) (L1 := [some (.inr (.ref 124)), some (.inl h), some (.inl w), some (.inl v)]) (M1 := M) (ob := []) rfl rfl trivial (Or.inl rfl) ?_
      exact hq1 (fun z => by omega)
    refine fs_r_if (a := 0) (L1 := [some (.inr (.ref 124)), some (.inl h), some (.inl w), some (.inl v)]) (st1 := []) (M1 := M) (ob := []) rfl rfl trivial (fun _ => ?_) (fun h => absurd (by decide : (0 : Int) = 0) h)
    refine fs_r_iret (a := (-1)) (L1 := [some (.inr (.ref 124)), some (.inl h), some (.inl w), some (.inl v)]) (M1 := M) (ob := []) rfl rfl trivial (Or.inl rfl) ?_
    exact hq1 (fun z => by omega)
  refine fs_r_if (a := 0) (L1 := [some (.inr (.ref 124)), some (.inl h), some (.inl w), some (.inl v)]) (st1 := []) (M1 := M) (ob := []) rfl rfl trivial (fun _ => ?_) (fun h => absurd (by decide : (0 : Int) = 0) h)
  refine fs_r_iret (a := (-1)) (L1 := [some (.inr (.ref 124)), some (.inl h), some (.inl w), some (.inl v)]) (M1 := M) (ob := []) rfl rfl trivial (Or.inl rfl) ?_
  exact hq1 (fun z => by omega)

theorem fs_m_hold {d : Nat} {M : fs_M} {Q : Option fs_V → fs_M → Prop} {h : Int} {a : Int} {v : Int}  (hI : fs_NI (M 125)) (hc : 0 ≤ M 124 4 ∧ M 124 4 ≤ 12) (hq0 : ∀ (M2 : fs_M), ((0 ≤ h ∧ h < M 125 1) ∧ (0 ≤ a ∧ a < M 125 0) ∧ (0 ≤ v ∧ v ≤ 60) ∧ M 125 (40 + 4 * h + a) ≠ v) → (mm_act M M2 (up1 (M 125) (40 + 4 * h + a) v)) → Q (some (.inl (M 125 (40 + 4 * h + a)))) M2) (hq1 : (¬ ((0 ≤ h ∧ h < M 125 1) ∧ (0 ≤ a ∧ a < M 125 0) ∧ (0 ≤ v ∧ v ≤ 60) ∧ M 125 (40 + 4 * h + a) ≠ v)) → Q (some (.inl (-1))) M) : fs_W (d + 2) 210 0 [some (.inr (.ref 124)), some (.inl h), some (.inl a), some (.inl v)] [] M Q := by
  have hN := hI
  obtain ⟨⟨hA0, hA1⟩, ⟨hH0, hH1⟩, -⟩ := id hN
  refine fs_r_call (sta := false) (idx := 237) (as := [.inr (.ref 124), .inl h]) (rest := []) (L1 := [some (.inr (.ref 124)), some (.inl h), some (.inl a), some (.inl v)]) (st1 := [.inl h, .inr (.ref 124)]) (M1 := M) (ob := []) rfl rfl rfl trivial rfl rfl (Nat.le_of_ble_eq_true rfl) ⟨Or.inr (Nat.le_of_ble_eq_true rfl), Or.inr fs_ob124⟩ (by decide) ?_
  refine fs_m_isHouse (by assumption) (fun (f1 : 0 ≤ h ∧ h < M 125 1) => ?_) (fun (f2 : ¬ (0 ≤ h ∧ h < M 125 1)) => ?_)
  · refine fs_r_if (a := 1) (L1 := [some (.inr (.ref 124)), some (.inl h), some (.inl a), some (.inl v)]) (st1 := []) (M1 := M) (ob := []) rfl rfl trivial (fun h => absurd h (by decide : ¬ ((1 : Int) = 0))) (fun _ => ?_)
    refine fs_r_call (sta := false) (idx := 224) (as := [.inr (.ref 124), .inl a]) (rest := []) (L1 := [some (.inr (.ref 124)), some (.inl h), some (.inl a), some (.inl v)]) (st1 := [.inl a, .inr (.ref 124)]) (M1 := M) (ob := []) rfl rfl rfl trivial rfl rfl (Nat.le_of_ble_eq_true rfl) ⟨Or.inr (Nat.le_of_ble_eq_true rfl), Or.inr fs_ob124⟩ (by decide) ?_
    refine fs_m_isAsset (by assumption) (fun (f3 : 0 ≤ a ∧ a < M 125 0) => ?_) (fun (f4 : ¬ (0 ≤ a ∧ a < M 125 0)) => ?_)
    · refine fs_r_if (a := 1) (L1 := [some (.inr (.ref 124)), some (.inl h), some (.inl a), some (.inl v)]) (st1 := []) (M1 := M) (ob := []) rfl rfl trivial (fun h => absurd h (by decide : ¬ ((1 : Int) = 0))) (fun _ => ?_)
      refine fs_r_call (sta := true) (idx := 68) (as := [.inl v, .inl 0, .inl 60]) (rest := []) (L1 := [some (.inr (.ref 124)), some (.inl h), some (.inl a), some (.inl v)]) (st1 := [.inl 60, .inl 0, .inl v]) (M1 := M) (ob := []) rfl rfl rfl trivial rfl rfl (Nat.le_of_ble_eq_true rfl) ⟨Or.inr (Nat.le_of_ble_eq_true rfl), trivial⟩ (by decide) ?_
      refine fs_m_isIn (fun (f5 : 0 ≤ v ∧ v ≤ 60) => ?_) (fun (f6 : ¬ (0 ≤ v ∧ v ≤ 60)) => ?_)
      · refine fs_r_if (a := 1) (L1 := [some (.inr (.ref 124)), some (.inl h), some (.inl a), some (.inl v)]) (st1 := []) (M1 := M) (ob := []) rfl rfl trivial (fun h => absurd h (by decide : ¬ ((1 : Int) = 0))) (fun _ => ?_)
        refine fs_r_call (sta := false) (idx := 72) (as := [.inr (.ref 124), .inl h, .inl a]) (rest := []) (L1 := [some (.inr (.ref 124)), some (.inl h), some (.inl a), some (.inl v)]) (st1 := [.inl a, .inl h, .inr (.ref 124)]) (M1 := M) (ob := []) rfl rfl rfl trivial rfl rfl (Nat.le_of_ble_eq_true rfl) ⟨Or.inr (Nat.le_of_ble_eq_true rfl), Or.inr fs_ob124⟩ (by decide) ?_
        refine fs_m_holds (by omega) (by omega) ?_
        refine fs_r_icmp (a := (M 125 (40 + 4 * h + a))) (y := v) (L1 := [some (.inr (.ref 124)), some (.inl h), some (.inl a), some (.inl v)]) (st1 := []) (M1 := M) (ob := []) rfl rfl trivial (fun (h7 : (M 125 (40 + 4 * h + a)) = v) => ?_) (fun (h7 : ¬ ((M 125 (40 + 4 * h + a)) = v)) => ?_)
        · refine fs_r_nop (L1 := [some (.inr (.ref 124)), some (.inl h), some (.inl a), some (.inl v)]) (st1 := [.inl (-1)]) (M1 := M) (ob := []) rfl rfl trivial ?_
          refine fs_r_iret (a := (-1)) (L1 := [some (.inr (.ref 124)), some (.inl h), some (.inl a), some (.inl v)]) (M1 := M) (ob := []) rfl rfl trivial (Or.inl rfl) ?_
          first
            | exact hq0 _ (by omega) a1
            | exact hq1 (fun z => by omega)
        refine fs_r_call (sta := false) (idx := 240) (as := [.inr (.ref 124), .inl ((40 + (4 * h)) + a), .inl v]) (rest := []) (L1 := [some (.inr (.ref 124)), some (.inl h), some (.inl a), some (.inl v)]) (st1 := [.inl v, .inl ((40 + (4 * h)) + a), .inr (.ref 124)]) (M1 := M) (ob := [fs_rg (4 * h), fs_rg (40 + (4 * h)), fs_rg ((40 + (4 * h)) + a)]) rfl rfl (fs_exA 6 (o1 := [fs_rg (4 * h), fs_rg (40 + (4 * h))]) (L1 := [some (.inr (.ref 124)), some (.inl h), some (.inl a), some (.inl v)]) (st1 := [.inl (40 + (4 * h)), .inr (.ref 124)]) (M1 := M) (o2 := [fs_rg ((40 + (4 * h)) + a)]) rfl rfl) (fs_oc ⟨by omega, by omega⟩ (fs_oc ⟨by omega, by omega⟩ (fs_oc ⟨by omega, by omega⟩ trivial))) rfl rfl (Nat.le_of_ble_eq_true rfl) ⟨Or.inr (Nat.le_of_ble_eq_true rfl), Or.inr fs_ob124⟩ (by decide) ?_
        refine fs_m_puts (by assumption) (by omega) (fun (V1 : fs_M) (a1 : mm_act M V1 (up1 (M 125) ((40 + (4 * h)) + a) v)) => ?_)
        refine fs_r_goto (L1 := [some (.inr (.ref 124)), some (.inl h), some (.inl a), some (.inl v)]) (st1 := [.inl (M 125 ((40 + (4 * h)) + a))]) (M1 := V1) (ob := []) rfl rfl trivial ?_
        refine fs_r_iret (a := (M 125 ((40 + (4 * h)) + a))) (L1 := [some (.inr (.ref 124)), some (.inl h), some (.inl a), some (.inl v)]) (M1 := V1) (ob := []) rfl rfl trivial (Or.inl rfl) ?_
        first
          | exact hq0 _ (by omega) a1
          | exact hq1 (fun z => by omega)
      refine fs_r_if (a := 0) (L1 := [some (.inr (.ref 124)), some (.inl h), some (.inl a), some (.inl v)]) (st1 := []) (M1 := M) (ob := []) rfl rfl trivial (fun _ => ?_) (fun h => absurd (by decide : (0 : Int) = 0) h)
      refine fs_r_nop (L1 := [some (.inr (.ref 124)), some (.inl h), some (.inl a), some (.inl v)]) (st1 := [.inl (-1)]) (M1 := M) (ob := []) rfl rfl trivial ?_
      refine fs_r_iret (a := (-1)) (L1 := [some (.inr (.ref 124)), some (.inl h), some (.inl a), some (.inl v)]) (M1 := M) (ob := []) rfl rfl trivial (Or.inl rfl) ?_
      first
        | exact hq0 _ (by omega) a1
        | exact hq1 (fun z => by omega)
    refine fs_r_if (a := 0) (L1 := [some (.inr (.ref 124)), some (.inl h), some (.inl a), some (.inl v)]) (st1 := []) (M1 := M) (ob := []) rfl rfl trivial (fun _ => ?_) (fun h => absurd (by decide : (0 : Int) = 0) h)
    refine fs_r_nop (L1 := [some (.inr (.ref 124)), some (.inl h), some (.inl a), some (.inl v)]) (st1 := [.inl (-1)]) (M1 := M) (ob := []) rfl rfl trivial ?_
    refine fs_r_iret (a := (-1)) (L1 := [some (.inr (.ref 124)), some (.inl h), some (.inl a), some (.inl v)]) (M1 := M) (ob := []) rfl rfl trivial (Or.inl rfl) ?_
    first
      | exact hq0 _ (by omega) a1
      | exact hq1 (fun z => by omega)
  refine fs_r_if (a := 0) (L1 := [some (.inr (.ref 124)), some (.inl h), some (.inl a), some (.inl v)]) (st1 := []) (M1 := M) (ob := []) rfl rfl trivial (fun _ => ?_) (fun h => absurd (by decide : (0 : Int) = 0) h)
  refine fs_r_nop (L1 := [some (.inr (.ref 124)), some (.inl h), some (.inl a), some (.inl v)]) (st1 := [.inl (-1)]) (M1 := M) (ob := []) rfl rfl trivial ?_
  refine fs_r_iret (a := (-1)) (L1 := [some (.inr (.ref 124)), some (.inl h), some (.inl a), some (.inl v)]) (M1 := M) (ob := []) rfl rfl trivial (Or.inl rfl) ?_
  first
    | exact hq0 _ (by omega) a1
    | exact hq1 (fun z => by omega)

theorem fs_m_loan {d : Nat} {M : fs_M} {Q : Option fs_V → fs_M → Prop} {h : Int} {o : Int} {v : Int}  (hI : fs_NI (M 125)) (hc : 0 ≤ M 124 4 ∧ M 124 4 ≤ 12) (hq0 : ∀ (M2 : fs_M), ((0 ≤ h ∧ h < M 125 1) ∧ (0 ≤ o ∧ o < M 125 1) ∧ h ≠ o ∧ (0 ≤ v ∧ v ≤ 999) ∧ M 125 (64 + 6 * h + o) ≠ v) → (mm_act M M2 (up1 (M 125) (64 + 6 * h + o) v)) → Q (some (.inl (M 125 (64 + 6 * h + o)))) M2) (hq1 : (¬ ((0 ≤ h ∧ h < M 125 1) ∧ (0 ≤ o ∧ o < M 125 1) ∧ h ≠ o ∧ (0 ≤ v ∧ v ≤ 999) ∧ M 125 (64 + 6 * h + o) ≠ v)) → Q (some (.inl (-1))) M) : fs_W (d + 2) 211 0 [some (.inr (.ref 124)), some (.inl h), some (.inl o), some (.inl v)] [] M Q := by
  have hN := hI
  obtain ⟨⟨hA0, hA1⟩, ⟨hH0, hH1⟩, -⟩ := id hN
  refine fs_r_call (sta := false) (idx := 237) (as := [.inr (.ref 124), .inl h]) (rest := []) (L1 := [some (.inr (.ref 124)), some (.inl h), some (.inl o), some (.inl v)]) (st1 := [.inl h, .inr (.ref 124)]) (M1 := M) (ob := []) rfl rfl rfl trivial rfl rfl (Nat.le_of_ble_eq_true rfl) ⟨Or.inr (Nat.le_of_ble_eq_true rfl), Or.inr fs_ob124⟩ (by decide) ?_
  refine fs_m_isHouse (by assumption) (fun (f1 : 0 ≤ h ∧ h < M 125 1) => ?_) (fun (f2 : ¬ (0 ≤ h ∧ h < M 125 1)) => ?_)
  · refine fs_r_if (a := 1) (L1 := [some (.inr (.ref 124)), some (.inl h), some (.inl o), some (.inl v)]) (st1 := []) (M1 := M) (ob := []) rfl rfl trivial (fun h => absurd h (by decide : ¬ ((1 : Int) = 0))) (fun _ => ?_)
    refine fs_r_call (sta := false) (idx := 237) (as := [.inr (.ref 124), .inl o]) (rest := []) (L1 := [some (.inr (.ref 124)), some (.inl h), some (.inl o), some (.inl v)]) (st1 := [.inl o, .inr (.ref 124)]) (M1 := M) (ob := []) rfl rfl rfl trivial rfl rfl (Nat.le_of_ble_eq_true rfl) ⟨Or.inr (Nat.le_of_ble_eq_true rfl), Or.inr fs_ob124⟩ (by decide) ?_
    refine fs_m_isHouse (by assumption) (fun (f3 : 0 ≤ o ∧ o < M 125 1) => ?_) (fun (f4 : ¬ (0 ≤ o ∧ o < M 125 1)) => ?_)
    · refine fs_r_if (a := 1) (L1 := [some (.inr (.ref 124)), some (.inl h), some (.inl o), some (.inl v)]) (st1 := []) (M1 := M) (ob := []) rfl rfl trivial (fun h => absurd h (by decide : ¬ ((1 : Int) = 0))) (fun _ => ?_)
      refine fs_r_icmp (a := h) (y := o) (L1 := [some (.inr (.ref 124)), some (.inl h), some (.inl o), some (.inl v)]) (st1 := []) (M1 := M) (ob := []) rfl rfl trivial (fun (h5 : h = o) => ?_) (fun (h5 : ¬ (h = o)) => ?_)
      · refine fs_r_nop (L1 := [some (.inr (.ref 124)), some (.inl h), some (.inl o), some (.inl v)]) (st1 := [.inl (-1)]) (M1 := M) (ob := []) rfl rfl trivial ?_
        refine fs_r_iret (a := (-1)) (L1 := [some (.inr (.ref 124)), some (.inl h), some (.inl o), some (.inl v)]) (M1 := M) (ob := []) rfl rfl trivial (Or.inl rfl) ?_
        first
          | exact hq0 _ (by omega) a1
          | exact hq1 (fun z => by omega)
      refine fs_r_call (sta := true) (idx := 68) (as := [.inl v, .inl 0, .inl 999]) (rest := []) (L1 := [some (.inr (.ref 124)), some (.inl h), some (.inl o), some (.inl v)]) (st1 := [.inl 999, .inl 0, .inl v]) (M1 := M) (ob := []) rfl rfl rfl trivial rfl rfl (Nat.le_of_ble_eq_true rfl) ⟨Or.inr (Nat.le_of_ble_eq_true rfl), trivial⟩ (by decide) ?_
      refine fs_m_isIn (fun (f6 : 0 ≤ v ∧ v ≤ 999) => ?_) (fun (f7 : ¬ (0 ≤ v ∧ v ≤ 999)) => ?_)
      · refine fs_r_if (a := 1) (L1 := [some (.inr (.ref 124)), some (.inl h), some (.inl o), some (.inl v)]) (st1 := []) (M1 := M) (ob := []) rfl rfl trivial (fun h => absurd h (by decide : ¬ ((1 : Int) = 0))) (fun _ => ?_)
        refine fs_r_call (sta := false) (idx := 181) (as := [.inr (.ref 124), .inl h, .inl o]) (rest := []) (L1 := [some (.inr (.ref 124)), some (.inl h), some (.inl o), some (.inl v)]) (st1 := [.inl o, .inl h, .inr (.ref 124)]) (M1 := M) (ob := []) rfl rfl rfl trivial rfl rfl (Nat.le_of_ble_eq_true rfl) ⟨Or.inr (Nat.le_of_ble_eq_true rfl), Or.inr fs_ob124⟩ (by decide) ?_
        refine fs_m_loanOf (by omega) (by omega) ?_
        refine fs_r_icmp (a := (M 125 (64 + 6 * h + o))) (y := v) (L1 := [some (.inr (.ref 124)), some (.inl h), some (.inl o), some (.inl v)]) (st1 := []) (M1 := M) (ob := []) rfl rfl trivial (fun (h8 : (M 125 (64 + 6 * h + o)) = v) => ?_) (fun (h8 : ¬ ((M 125 (64 + 6 * h + o)) = v)) => ?_)
        · refine fs_r_nop (L1 := [some (.inr (.ref 124)), some (.inl h), some (.inl o), some (.inl v)]) (st1 := [.inl (-1)]) (M1 := M) (ob := []) rfl rfl trivial ?_
          refine fs_r_iret (a := (-1)) (L1 := [some (.inr (.ref 124)), some (.inl h), some (.inl o), some (.inl v)]) (M1 := M) (ob := []) rfl rfl trivial (Or.inl rfl) ?_
          first
            | exact hq0 _ (by omega) a1
            | exact hq1 (fun z => by omega)
        refine fs_r_call (sta := false) (idx := 240) (as := [.inr (.ref 124), .inl ((64 + (6 * h)) + o), .inl v]) (rest := []) (L1 := [some (.inr (.ref 124)), some (.inl h), some (.inl o), some (.inl v)]) (st1 := [.inl v, .inl ((64 + (6 * h)) + o), .inr (.ref 124)]) (M1 := M) (ob := [fs_rg (6 * h), fs_rg (64 + (6 * h)), fs_rg ((64 + (6 * h)) + o)]) rfl rfl (fs_exA 6 (o1 := [fs_rg (6 * h), fs_rg (64 + (6 * h))]) (L1 := [some (.inr (.ref 124)), some (.inl h), some (.inl o), some (.inl v)]) (st1 := [.inl (64 + (6 * h)), .inr (.ref 124)]) (M1 := M) (o2 := [fs_rg ((64 + (6 * h)) + o)]) rfl rfl) (fs_oc ⟨by omega, by omega⟩ (fs_oc ⟨by omega, by omega⟩ (fs_oc ⟨by omega, by omega⟩ trivial))) rfl rfl (Nat.le_of_ble_eq_true rfl) ⟨Or.inr (Nat.le_of_ble_eq_true rfl), Or.inr fs_ob124⟩ (by decide) ?_
        refine fs_m_puts (by assumption) (by omega) (fun (V1 : fs_M) (a1 : mm_act M V1 (up1 (M 125) ((64 + (6 * h)) + o) v)) => ?_)
        refine fs_r_goto (L1 := [some (.inr (.ref 124)), some (.inl h), some (.inl o), some (.inl v)]) (st1 := [.inl (M 125 ((64 + (6 * h)) + o))]) (M1 := V1) (ob := []) rfl rfl trivial ?_
        refine fs_r_iret (a := (M 125 ((64 + (6 * h)) + o))) (L1 := [some (.inr (.ref 124)), some (.inl h), some (.inl o), some (.inl v)]) (M1 := V1) (ob := []) rfl rfl trivial (Or.inl rfl) ?_
        first
          | exact hq0 _ (by omega) a1
          | exact hq1 (fun z => by omega)
      refine fs_r_if (a := 0) (L1 := [some (.inr (.ref 124)), some (.inl h), some (.inl o), some (.inl v)]) (st1 := []) (M1 := M) (ob := []) rfl rfl trivial (fun _ => ?_) (fun h => absurd (by decide : (0 : Int) = 0) h)
      refine fs_r_nop (L1 := [some (.inr (.ref 124)), some (.inl h), some (.inl o), some (.inl v)]) (st1 := [.inl (-1)]) (M1 := M) (ob := []) rfl rfl trivial ?_
      refine fs_r_iret (a := (-1)) (L1 := [some (.inr (.ref 124)), some (.inl h), some (.inl o), some (.inl v)]) (M1 := M) (ob := []) rfl rfl trivial (Or.inl rfl) ?_
      first
        | exact hq0 _ (by omega) a1
        | exact hq1 (fun z => by omega)
    refine fs_r_if (a := 0) (L1 := [some (.inr (.ref 124)), some (.inl h), some (.inl o), some (.inl v)]) (st1 := []) (M1 := M) (ob := []) rfl rfl trivial (fun _ => ?_) (fun h => absurd (by decide : (0 : Int) = 0) h)
    refine fs_r_nop (L1 := [some (.inr (.ref 124)), some (.inl h), some (.inl o), some (.inl v)]) (st1 := [.inl (-1)]) (M1 := M) (ob := []) rfl rfl trivial ?_
    refine fs_r_iret (a := (-1)) (L1 := [some (.inr (.ref 124)), some (.inl h), some (.inl o), some (.inl v)]) (M1 := M) (ob := []) rfl rfl trivial (Or.inl rfl) ?_
    first
      | exact hq0 _ (by omega) a1
      | exact hq1 (fun z => by omega)
  refine fs_r_if (a := 0) (L1 := [some (.inr (.ref 124)), some (.inl h), some (.inl o), some (.inl v)]) (st1 := []) (M1 := M) (ob := []) rfl rfl trivial (fun _ => ?_) (fun h => absurd (by decide : (0 : Int) = 0) h)
  refine fs_r_nop (L1 := [some (.inr (.ref 124)), some (.inl h), some (.inl o), some (.inl v)]) (st1 := [.inl (-1)]) (M1 := M) (ob := []) rfl rfl trivial ?_
  refine fs_r_iret (a := (-1)) (L1 := [some (.inr (.ref 124)), some (.inl h), some (.inl o), some (.inl v)]) (M1 := M) (ob := []) rfl rfl trivial (Or.inl rfl) ?_
  first
    | exact hq0 _ (by omega) a1
    | exact hq1 (fun z => by omega)

theorem fs_m_curve {d : Nat} {M : fs_M} {Q : Option fs_V → fs_M → Prop} {a : Int} {w : Int} {v : Int}  (hI : fs_NI (M 125)) (hc : 0 ≤ M 124 4 ∧ M 124 4 ≤ 12) (hq0 : ∀ (M2 : fs_M), ((0 ≤ a ∧ a < M 125 0) ∧ (0 ≤ w ∧ w ≤ 1) ∧ ((w = 0 → 1 ≤ v ∧ v ≤ 200) ∧ (w = 1 → 0 ≤ v ∧ v ≤ 9)) ∧ M 125 ((if w = 0 then 2 else 6) + a) ≠ v) → (mm_act M M2 (up1 (M 125) ((if w = 0 then 2 else 6) + a) v)) → Q (some (.inl (M 125 ((if w = 0 then 2 else 6) + a)))) M2) (hq1 : (¬ ((0 ≤ a ∧ a < M 125 0) ∧ (0 ≤ w ∧ w ≤ 1) ∧ ((w = 0 → 1 ≤ v ∧ v ≤ 200) ∧ (w = 1 → 0 ≤ v ∧ v ≤ 9)) ∧ M 125 ((if w = 0 then 2 else 6) + a) ≠ v)) → Q (some (.inl (-1))) M) : fs_W (d + 2) 212 0 [some (.inr (.ref 124)), some (.inl a), some (.inl w), some (.inl v), none] [] M Q := by
  have hN := hI
  obtain ⟨⟨hA0, hA1⟩, ⟨hH0, hH1⟩, -⟩ := id hN
  refine fs_r_call (sta := false) (idx := 224) (as := [.inr (.ref 124), .inl a]) (rest := []) (L1 := [some (.inr (.ref 124)), some (.inl a), some (.inl w), some (.inl v), none]) (st1 := [.inl a, .inr (.ref 124)]) (M1 := M) (ob := []) rfl rfl rfl trivial rfl rfl (Nat.le_of_ble_eq_true rfl) ⟨Or.inr (Nat.le_of_ble_eq_true rfl), Or.inr fs_ob124⟩ (by decide) ?_
  refine fs_m_isAsset (by assumption) (fun (f1 : 0 ≤ a ∧ a < M 125 0) => ?_) (fun (f2 : ¬ (0 ≤ a ∧ a < M 125 0)) => ?_)
  · refine fs_r_if (a := 1) (L1 := [some (.inr (.ref 124)), some (.inl a), some (.inl w), some (.inl v), none]) (st1 := []) (M1 := M) (ob := []) rfl rfl trivial (fun h => absurd h (by decide : ¬ ((1 : Int) = 0))) (fun _ => ?_)
    refine fs_r_call (sta := true) (idx := 68) (as := [.inl w, .inl 0, .inl 1]) (rest := []) (L1 := [some (.inr (.ref 124)), some (.inl a), some (.inl w), some (.inl v), none]) (st1 := [.inl 1, .inl 0, .inl w]) (M1 := M) (ob := []) rfl rfl rfl trivial rfl rfl (Nat.le_of_ble_eq_true rfl) ⟨Or.inr (Nat.le_of_ble_eq_true rfl), trivial⟩ (by decide) ?_
    refine fs_m_isIn (fun (f3 : 0 ≤ w ∧ w ≤ 1) => ?_) (fun (f4 : ¬ (0 ≤ w ∧ w ≤ 1)) => ?_)
    · refine fs_r_if (a := 1) (L1 := [some (.inr (.ref 124)), some (.inl a), some (.inl w), some (.inl v), none]) (st1 := []) (M1 := M) (ob := []) rfl rfl trivial (fun h => absurd h (by decide : ¬ ((1 : Int) = 0))) (fun _ => ?_)
      refine fs_r_if (a := w) (L1 := [some (.inr (.ref 124)), some (.inl a), some (.inl w), some (.inl v), none]) (st1 := [.inl v]) (M1 := M) (ob := []) rfl rfl trivial (fun (h5 : ¬ w = 0) => ?_) (fun (h5 : ¬ (¬ w = 0)) => ?_)
      · refine fs_r_nop (L1 := [some (.inr (.ref 124)), some (.inl a), some (.inl w), some (.inl v), none]) (st1 := [.inl 0, .inl v]) (M1 := M) (ob := []) rfl rfl trivial ?_
        refine fs_r_if (a := w) (L1 := [some (.inr (.ref 124)), some (.inl a), some (.inl w), some (.inl v), none]) (st1 := [.inl 0, .inl v]) (M1 := M) (ob := []) rfl rfl trivial (fun (h6 : ¬ w = 0) => ?_) (fun (h6 : ¬ (¬ w = 0)) => ?_)
        · refine fs_r_nop (L1 := [some (.inr (.ref 124)), some (.inl a), some (.inl w), some (.inl v), none]) (st1 := [.inl 9, .inl 0, .inl v]) (M1 := M) (ob := []) rfl rfl trivial ?_
          refine fs_r_call (sta := true) (idx := 68) (as := [.inl v, .inl 0, .inl 9]) (rest := []) (L1 := [some (.inr (.ref 124)), some (.inl a), some (.inl w), some (.inl v), none]) (st1 := [.inl 9, .inl 0, .inl v]) (M1 := M) (ob := []) rfl rfl rfl trivial rfl rfl (Nat.le_of_ble_eq_true rfl) ⟨Or.inr (Nat.le_of_ble_eq_true rfl), trivial⟩ (by decide) ?_
          refine fs_m_isIn (fun (f7 : 0 ≤ v ∧ v ≤ 9) => ?_) (fun (f8 : ¬ (0 ≤ v ∧ v ≤ 9)) => ?_)
          · refine fs_r_if (a := 1) (L1 := [some (.inr (.ref 124)), some (.inl a), some (.inl w), some (.inl v), none]) (st1 := []) (M1 := M) (ob := []) rfl rfl trivial (fun _ => ?_) (fun h => absurd (by decide : ¬ (1 : Int) = 0) h)
            refine fs_r_if (a := w) (L1 := [some (.inr (.ref 124)), some (.inl a), some (.inl w), some (.inl v), none]) (st1 := []) (M1 := M) (ob := []) rfl rfl trivial (fun (h9 : ¬ w = 0) => ?_) (fun (h9 : ¬ (¬ w = 0)) => ?_)
            · refine fs_r_nop (L1 := [some (.inr (.ref 124)), some (.inl a), some (.inl w), some (.inl v), none]) (st1 := [.inl 6]) (M1 := M) (ob := []) rfl rfl trivial ?_
              refine fs_r_icmp (a := (M 125 (6 + a))) (y := v) (L1 := [some (.inr (.ref 124)), some (.inl a), some (.inl w), some (.inl v), some (.inl (6 + a))]) (st1 := []) (M1 := M) (ob := [fs_rg (6 + a), 4 < 5, 124 < fs_N ∧ fs_kd 124 = 6, (125 < fs_N ∧ fs_kd 125 = 100) ∧ (0 : Int) ≤ (6 + a) ∧ (6 + a) < fs_ln 125]) rfl (fs_exA 6 (o1 := [fs_rg (6 + a), 4 < 5, 124 < fs_N ∧ fs_kd 124 = 6]) (L1 := [some (.inr (.ref 124)), some (.inl a), some (.inl w), some (.inl v), some (.inl (6 + a))]) (st1 := [.inl (6 + a), .inr (.ref 125)]) (M1 := M) (o2 := [(125 < fs_N ∧ fs_kd 125 = 100) ∧ (0 : Int) ≤ (6 + a) ∧ (6 + a) < fs_ln 125]) rfl rfl) (fs_oc ⟨by omega, by omega⟩ (fs_oc (by decide) (fs_oc fs_ob124 (fs_oc (fs_ar125 (by omega) (by omega)) trivial)))) (fun (h10 : ¬ (M 125 (6 + a)) = v) => ?_) (fun (h10 : ¬ (¬ (M 125 (6 + a)) = v)) => ?_)
              · skip
                refine fs_r_call (sta := false) (idx := 240) (as := [.inr (.ref 124), .inl (6 + a), .inl v]) (rest := []) (L1 := [some (.inr (.ref 124)), some (.inl a), some (.inl w), some (.inl v), some (.inl (6 + a))]) (st1 := [.inl v, .inl (6 + a), .inr (.ref 124)]) (M1 := M) (ob := []) rfl rfl rfl trivial rfl rfl (Nat.le_of_ble_eq_true rfl) ⟨Or.inr (Nat.le_of_ble_eq_true rfl), Or.inr fs_ob124⟩ (by decide) ?_
                refine fs_m_puts (by assumption) (by omega) (fun (V1 : fs_M) (a1 : mm_act M V1 (up1 (M 125) (6 + a) v)) => ?_)
                refine fs_r_iret (a := (M 125 (6 + a))) (L1 := [some (.inr (.ref 124)), some (.inl a), some (.inl w), some (.inl v), some (.inl (6 + a))]) (M1 := V1) (ob := []) rfl rfl trivial (Or.inl rfl) ?_
                first
                  | (exfalso; omega)
                  | (have e : (if w = 0 then (2 : Int) else 6) = 2 := if_pos (by omega)
                     rw [e] at hq0 hq1
                     first
                       | exact hq0 _ (by omega) a1
                       | exact hq1 (fun z => by omega))
                  | (have e : (if w = 0 then (2 : Int) else 6) = 6 := if_neg (by omega)
                     rw [e] at hq0 hq1
                     first
                       | exact hq0 _ (by omega) a1
                       | exact hq1 (fun z => by omega))
              refine fs_r_goto (L1 := [some (.inr (.ref 124)), some (.inl a), some (.inl w), some (.inl v), some (.inl (6 + a))]) (st1 := [.inl (-1)]) (M1 := M) (ob := []) rfl rfl trivial ?_
              refine fs_r_iret (a := (-1)) (L1 := [some (.inr (.ref 124)), some (.inl a), some (.inl w), some (.inl v), some (.inl (6 + a))]) (M1 := M) (ob := []) rfl rfl trivial (Or.inl rfl) ?_
              first
                | (exfalso; omega)
                | (have e : (if w = 0 then (2 : Int) else 6) = 2 := if_pos (by omega)
                   rw [e] at hq0 hq1
                   first
                     | exact hq0 _ (by omega) a1
                     | exact hq1 (fun z => by omega))
                | (have e : (if w = 0 then (2 : Int) else 6) = 6 := if_neg (by omega)
                   rw [e] at hq0 hq1
                   first
                     | exact hq0 _ (by omega) a1
                     | exact hq1 (fun z => by omega))
            refine fs_r_goto (L1 := [some (.inr (.ref 124)), some (.inl a), some (.inl w), some (.inl v), none]) (st1 := [.inl 2]) (M1 := M) (ob := []) rfl rfl trivial ?_
            refine fs_r_icmp (a := (M 125 (2 + a))) (y := v) (L1 := [some (.inr (.ref 124)), some (.inl a), some (.inl w), some (.inl v), some (.inl (2 + a))]) (st1 := []) (M1 := M) (ob := [fs_rg (2 + a), 4 < 5, 124 < fs_N ∧ fs_kd 124 = 6, (125 < fs_N ∧ fs_kd 125 = 100) ∧ (0 : Int) ≤ (2 + a) ∧ (2 + a) < fs_ln 125]) rfl (fs_exA 6 (o1 := [fs_rg (2 + a), 4 < 5, 124 < fs_N ∧ fs_kd 124 = 6]) (L1 := [some (.inr (.ref 124)), some (.inl a), some (.inl w), some (.inl v), some (.inl (2 + a))]) (st1 := [.inl (2 + a), .inr (.ref 125)]) (M1 := M) (o2 := [(125 < fs_N ∧ fs_kd 125 = 100) ∧ (0 : Int) ≤ (2 + a) ∧ (2 + a) < fs_ln 125]) rfl rfl) (fs_oc ⟨by omega, by omega⟩ (fs_oc (by decide) (fs_oc fs_ob124 (fs_oc (fs_ar125 (by omega) (by omega)) trivial)))) (fun (h11 : ¬ (M 125 (2 + a)) = v) => ?_) (fun (h11 : ¬ (¬ (M 125 (2 + a)) = v)) => ?_)
            · skip
              refine fs_r_call (sta := false) (idx := 240) (as := [.inr (.ref 124), .inl (2 + a), .inl v]) (rest := []) (L1 := [some (.inr (.ref 124)), some (.inl a), some (.inl w), some (.inl v), some (.inl (2 + a))]) (st1 := [.inl v, .inl (2 + a), .inr (.ref 124)]) (M1 := M) (ob := []) rfl rfl rfl trivial rfl rfl (Nat.le_of_ble_eq_true rfl) ⟨Or.inr (Nat.le_of_ble_eq_true rfl), Or.inr fs_ob124⟩ (by decide) ?_
              refine fs_m_puts (by assumption) (by omega) (fun (V1 : fs_M) (a1 : mm_act M V1 (up1 (M 125) (2 + a) v)) => ?_)
              refine fs_r_iret (a := (M 125 (2 + a))) (L1 := [some (.inr (.ref 124)), some (.inl a), some (.inl w), some (.inl v), some (.inl (2 + a))]) (M1 := V1) (ob := []) rfl rfl trivial (Or.inl rfl) ?_
              first
                | (exfalso; omega)
                | (have e : (if w = 0 then (2 : Int) else 6) = 2 := if_pos (by omega)
                   rw [e] at hq0 hq1
                   first
                     | exact hq0 _ (by omega) a1
                     | exact hq1 (fun z => by omega))
                | (have e : (if w = 0 then (2 : Int) else 6) = 6 := if_neg (by omega)
                   rw [e] at hq0 hq1
                   first
                     | exact hq0 _ (by omega) a1
                     | exact hq1 (fun z => by omega))
            refine fs_r_goto (L1 := [some (.inr (.ref 124)), some (.inl a), some (.inl w), some (.inl v), some (.inl (2 + a))]) (st1 := [.inl (-1)]) (M1 := M) (ob := []) rfl rfl trivial ?_
            refine fs_r_iret (a := (-1)) (L1 := [some (.inr (.ref 124)), some (.inl a), some (.inl w), some (.inl v), some (.inl (2 + a))]) (M1 := M) (ob := []) rfl rfl trivial (Or.inl rfl) ?_
            first
              | (exfalso; omega)
              | (have e : (if w = 0 then (2 : Int) else 6) = 2 := if_pos (by omega)
                 rw [e] at hq0 hq1
                 first
                   | exact hq0 _ (by omega) a1
                   | exact hq1 (fun z => by omega))
              | (have e : (if w = 0 then (2 : Int) else 6) = 6 := if_neg (by omega)
                 rw [e] at hq0 hq1
                 first
                   | exact hq0 _ (by omega) a1
                   | exact hq1 (fun z => by omega))
          refine fs_r_if (a := 0) (L1 := [some (.inr (.ref 124)), some (.inl a), some (.inl w), some (.inl v), none]) (st1 := []) (M1 := M) (ob := []) rfl rfl trivial (fun h => absurd h (by decide : ¬ (¬ (0 : Int) = 0))) (fun _ => ?_)
          refine fs_r_iret (a := (-1)) (L1 := [some (.inr (.ref 124)), some (.inl a), some (.inl w), some (.inl v), none]) (M1 := M) (ob := []) rfl rfl trivial (Or.inl rfl) ?_
          exact hq1 (fun z => by omega)
        refine fs_r_goto (L1 := [some (.inr (.ref 124)), some (.inl a), some (.inl w), some (.inl v), none]) (st1 := [.inl 200, .inl 0, .inl v]) (M1 := M) (ob := []) rfl rfl trivial ?_
        refine fs_r_call (sta := true) (idx := 68) (as := [.inl v, .inl 0, .inl 200]) (rest := []) (L1 := [some (.inr (.ref 124)), some (.inl a), some (.inl w), some (.inl v), none]) (st1 := [.inl 200, .inl 0, .inl v]) (M1 := M) (ob := []) rfl rfl rfl trivial rfl rfl (Nat.le_of_ble_eq_true rfl) ⟨Or.inr (Nat.le_of_ble_eq_true rfl), trivial⟩ (by decide) ?_
        refine fs_m_isIn (fun (f12 : 0 ≤ v ∧ v ≤ 200) => ?_) (fun (f13 : ¬ (0 ≤ v ∧ v ≤ 200)) => ?_)
        · refine fs_r_if (a := 1) (L1 := [some (.inr (.ref 124)), some (.inl a), some (.inl w), some (.inl v), none]) (st1 := []) (M1 := M) (ob := []) rfl rfl trivial (fun _ => ?_) (fun h => absurd (by decide : ¬ (1 : Int) = 0) h)
          refine fs_r_if (a := w) (L1 := [some (.inr (.ref 124)), some (.inl a), some (.inl w), some (.inl v), none]) (st1 := []) (M1 := M) (ob := []) rfl rfl trivial (fun (h14 : ¬ w = 0) => ?_) (fun (h14 : ¬ (¬ w = 0)) => ?_)
          · refine fs_r_nop (L1 := [some (.inr (.ref 124)), some (.inl a), some (.inl w), some (.inl v), none]) (st1 := [.inl 6]) (M1 := M) (ob := []) rfl rfl trivial ?_
            refine fs_r_icmp (a := (M 125 (6 + a))) (y := v) (L1 := [some (.inr (.ref 124)), some (.inl a), some (.inl w), some (.inl v), some (.inl (6 + a))]) (st1 := []) (M1 := M) (ob := [fs_rg (6 + a), 4 < 5, 124 < fs_N ∧ fs_kd 124 = 6, (125 < fs_N ∧ fs_kd 125 = 100) ∧ (0 : Int) ≤ (6 + a) ∧ (6 + a) < fs_ln 125]) rfl (fs_exA 6 (o1 := [fs_rg (6 + a), 4 < 5, 124 < fs_N ∧ fs_kd 124 = 6]) (L1 := [some (.inr (.ref 124)), some (.inl a), some (.inl w), some (.inl v), some (.inl (6 + a))]) (st1 := [.inl (6 + a), .inr (.ref 125)]) (M1 := M) (o2 := [(125 < fs_N ∧ fs_kd 125 = 100) ∧ (0 : Int) ≤ (6 + a) ∧ (6 + a) < fs_ln 125]) rfl rfl) (fs_oc ⟨by omega, by omega⟩ (fs_oc (by decide) (fs_oc fs_ob124 (fs_oc (fs_ar125 (by omega) (by omega)) trivial)))) (fun (h15 : ¬ (M 125 (6 + a)) = v) => ?_) (fun (h15 : ¬ (¬ (M 125 (6 + a)) = v)) => ?_)
            · skip
              refine fs_r_call (sta := false) (idx := 240) (as := [.inr (.ref 124), .inl (6 + a), .inl v]) (rest := []) (L1 := [some (.inr (.ref 124)), some (.inl a), some (.inl w), some (.inl v), some (.inl (6 + a))]) (st1 := [.inl v, .inl (6 + a), .inr (.ref 124)]) (M1 := M) (ob := []) rfl rfl rfl trivial rfl rfl (Nat.le_of_ble_eq_true rfl) ⟨Or.inr (Nat.le_of_ble_eq_true rfl), Or.inr fs_ob124⟩ (by decide) ?_
              refine fs_m_puts (by assumption) (by omega) (fun (V1 : fs_M) (a1 : mm_act M V1 (up1 (M 125) (6 + a) v)) => ?_)
              refine fs_r_iret (a := (M 125 (6 + a))) (L1 := [some (.inr (.ref 124)), some (.inl a), some (.inl w), some (.inl v), some (.inl (6 + a))]) (M1 := V1) (ob := []) rfl rfl trivial (Or.inl rfl) ?_
              first
                | (exfalso; omega)
                | (have e : (if w = 0 then (2 : Int) else 6) = 2 := if_pos (by omega)
                   rw [e] at hq0 hq1
                   first
                     | exact hq0 _ (by omega) a1
                     | exact hq1 (fun z => by omega))
                | (have e : (if w = 0 then (2 : Int) else 6) = 6 := if_neg (by omega)
                   rw [e] at hq0 hq1
                   first
                     | exact hq0 _ (by omega) a1
                     | exact hq1 (fun z => by omega))
            refine fs_r_goto (L1 := [some (.inr (.ref 124)), some (.inl a), some (.inl w), some (.inl v), some (.inl (6 + a))]) (st1 := [.inl (-1)]) (M1 := M) (ob := []) rfl rfl trivial ?_
            refine fs_r_iret (a := (-1)) (L1 := [some (.inr (.ref 124)), some (.inl a), some (.inl w), some (.inl v), some (.inl (6 + a))]) (M1 := M) (ob := []) rfl rfl trivial (Or.inl rfl) ?_
            first
              | (exfalso; omega)
              | (have e : (if w = 0 then (2 : Int) else 6) = 2 := if_pos (by omega)
                 rw [e] at hq0 hq1
                 first
                   | exact hq0 _ (by omega) a1
                   | exact hq1 (fun z => by omega))
              | (have e : (if w = 0 then (2 : Int) else 6) = 6 := if_neg (by omega)
                 rw [e] at hq0 hq1
                 first
                   | exact hq0 _ (by omega) a1
                   | exact hq1 (fun z => by omega))
          refine fs_r_goto (L1 := [some (.inr (.ref 124)), some (.inl a), some (.inl w), some (.inl v), none]) (st1 := [.inl 2]) (M1 := M) (ob := []) rfl rfl trivial ?_
          refine fs_r_icmp (a := (M 125 (2 + a))) (y := v) (L1 := [some (.inr (.ref 124)), some (.inl a), some (.inl w), some (.inl v), some (.inl (2 + a))]) (st1 := []) (M1 := M) (ob := [fs_rg (2 + a), 4 < 5, 124 < fs_N ∧ fs_kd 124 = 6, (125 < fs_N ∧ fs_kd 125 = 100) ∧ (0 : Int) ≤ (2 + a) ∧ (2 + a) < fs_ln 125]) rfl (fs_exA 6 (o1 := [fs_rg (2 + a), 4 < 5, 124 < fs_N ∧ fs_kd 124 = 6]) (L1 := [some (.inr (.ref 124)), some (.inl a), some (.inl w), some (.inl v), some (.inl (2 + a))]) (st1 := [.inl (2 + a), .inr (.ref 125)]) (M1 := M) (o2 := [(125 < fs_N ∧ fs_kd 125 = 100) ∧ (0 : Int) ≤ (2 + a) ∧ (2 + a) < fs_ln 125]) rfl rfl) (fs_oc ⟨by omega, by omega⟩ (fs_oc (by decide) (fs_oc fs_ob124 (fs_oc (fs_ar125 (by omega) (by omega)) trivial)))) (fun (h16 : ¬ (M 125 (2 + a)) = v) => ?_) (fun (h16 : ¬ (¬ (M 125 (2 + a)) = v)) => ?_)
          · skip
            refine fs_r_call (sta := false) (idx := 240) (as := [.inr (.ref 124), .inl (2 + a), .inl v]) (rest := []) (L1 := [some (.inr (.ref 124)), some (.inl a), some (.inl w), some (.inl v), some (.inl (2 + a))]) (st1 := [.inl v, .inl (2 + a), .inr (.ref 124)]) (M1 := M) (ob := []) rfl rfl rfl trivial rfl rfl (Nat.le_of_ble_eq_true rfl) ⟨Or.inr (Nat.le_of_ble_eq_true rfl), Or.inr fs_ob124⟩ (by decide) ?_
            refine fs_m_puts (by assumption) (by omega) (fun (V1 : fs_M) (a1 : mm_act M V1 (up1 (M 125) (2 + a) v)) => ?_)
            refine fs_r_iret (a := (M 125 (2 + a))) (L1 := [some (.inr (.ref 124)), some (.inl a), some (.inl w), some (.inl v), some (.inl (2 + a))]) (M1 := V1) (ob := []) rfl rfl trivial (Or.inl rfl) ?_
            first
              | (exfalso; omega)
              | (have e : (if w = 0 then (2 : Int) else 6) = 2 := if_pos (by omega)
                 rw [e] at hq0 hq1
                 first
                   | exact hq0 _ (by omega) a1
                   | exact hq1 (fun z => by omega))
              | (have e : (if w = 0 then (2 : Int) else 6) = 6 := if_neg (by omega)
                 rw [e] at hq0 hq1
                 first
                   | exact hq0 _ (by omega) a1
                   | exact hq1 (fun z => by omega))
          refine fs_r_goto (L1 := [some (.inr (.ref 124)), some (.inl a), some (.inl w), some (.inl v), some (.inl (2 + a))]) (st1 := [.inl (-1)]) (M1 := M) (ob := []) rfl rfl trivial ?_
          refine fs_r_iret (a := (-1)) (L1 := [some (.inr (.ref 124)), some (.inl a), some (.inl w), some (.inl v), some (.inl (2 + a))]) (M1 := M) (ob := []) rfl rfl trivial (Or.inl rfl) ?_
          first
            | (exfalso; omega)
            | (have e : (if w = 0 then (2 : Int) else 6) = 2 := if_pos (by omega)
               rw [e] at hq0 hq1
               first
                 | exact hq0 _ (by omega) a1
                 | exact hq1 (fun z => by omega))
            | (have e : (if w = 0 then (2 : Int) else 6) = 6 := if_neg (by omega)
               rw [e] at hq0 hq1
               first
                 | exact hq0 _ (by omega) a1
                 | exact hq1 (fun z => by omega))
        refine fs_r_if (a := 0) (L1 := [some (.inr (.ref 124)), some (.inl a), some (.inl w), some (.inl v), none]) (st1 := []) (M1 := M) (ob := []) rfl rfl trivial (fun h => absurd h (by decide : ¬ (¬ (0 : Int) = 0))) (fun _ => ?_)
        refine fs_r_iret (a := (-1)) (L1 := [some (.inr (.ref 124)), some (.inl a), some (.inl w), some (.inl v), none]) (M1 := M) (ob := []) rfl rfl trivial (Or.inl rfl) ?_
        exact hq1 (fun z => by omega)
      refine fs_r_goto (L1 := [some (.inr (.ref 124)), some (.inl a), some (.inl w), some (.inl v), none]) (st1 := [.inl 1, .inl v]) (M1 := M) (ob := []) rfl rfl trivial ?_
      refine fs_r_if (a := w) (L1 := [some (.inr (.ref 124)), some (.inl a), some (.inl w), some (.inl v), none]) (st1 := [.inl 1, .inl v]) (M1 := M) (ob := []) rfl rfl trivial (fun (h17 : ¬ w = 0) => ?_) (fun (h17 : ¬ (¬ w = 0)) => ?_)
      · refine fs_r_nop (L1 := [some (.inr (.ref 124)), some (.inl a), some (.inl w), some (.inl v), none]) (st1 := [.inl 9, .inl 1, .inl v]) (M1 := M) (ob := []) rfl rfl trivial ?_
        refine fs_r_call (sta := true) (idx := 68) (as := [.inl v, .inl 1, .inl 9]) (rest := []) (L1 := [some (.inr (.ref 124)), some (.inl a), some (.inl w), some (.inl v), none]) (st1 := [.inl 9, .inl 1, .inl v]) (M1 := M) (ob := []) rfl rfl rfl trivial rfl rfl (Nat.le_of_ble_eq_true rfl) ⟨Or.inr (Nat.le_of_ble_eq_true rfl), trivial⟩ (by decide) ?_
        refine fs_m_isIn (fun (f18 : 1 ≤ v ∧ v ≤ 9) => ?_) (fun (f19 : ¬ (1 ≤ v ∧ v ≤ 9)) => ?_)
        · refine fs_r_if (a := 1) (L1 := [some (.inr (.ref 124)), some (.inl a), some (.inl w), some (.inl v), none]) (st1 := []) (M1 := M) (ob := []) rfl rfl trivial (fun _ => ?_) (fun h => absurd (by decide : ¬ (1 : Int) = 0) h)
          refine fs_r_if (a := w) (L1 := [some (.inr (.ref 124)), some (.inl a), some (.inl w), some (.inl v), none]) (st1 := []) (M1 := M) (ob := []) rfl rfl trivial (fun (h20 : ¬ w = 0) => ?_) (fun (h20 : ¬ (¬ w = 0)) => ?_)
          · refine fs_r_nop (L1 := [some (.inr (.ref 124)), some (.inl a), some (.inl w), some (.inl v), none]) (st1 := [.inl 6]) (M1 := M) (ob := []) rfl rfl trivial ?_
            refine fs_r_icmp (a := (M 125 (6 + a))) (y := v) (L1 := [some (.inr (.ref 124)), some (.inl a), some (.inl w), some (.inl v), some (.inl (6 + a))]) (st1 := []) (M1 := M) (ob := [fs_rg (6 + a), 4 < 5, 124 < fs_N ∧ fs_kd 124 = 6, (125 < fs_N ∧ fs_kd 125 = 100) ∧ (0 : Int) ≤ (6 + a) ∧ (6 + a) < fs_ln 125]) rfl (fs_exA 6 (o1 := [fs_rg (6 + a), 4 < 5, 124 < fs_N ∧ fs_kd 124 = 6]) (L1 := [some (.inr (.ref 124)), some (.inl a), some (.inl w), some (.inl v), some (.inl (6 + a))]) (st1 := [.inl (6 + a), .inr (.ref 125)]) (M1 := M) (o2 := [(125 < fs_N ∧ fs_kd 125 = 100) ∧ (0 : Int) ≤ (6 + a) ∧ (6 + a) < fs_ln 125]) rfl rfl) (fs_oc ⟨by omega, by omega⟩ (fs_oc (by decide) (fs_oc fs_ob124 (fs_oc (fs_ar125 (by omega) (by omega)) trivial)))) (fun (h21 : ¬ (M 125 (6 + a)) = v) => ?_) (fun (h21 : ¬ (¬ (M 125 (6 + a)) = v)) => ?_)
            · skip
              refine fs_r_call (sta := false) (idx := 240) (as := [.inr (.ref 124), .inl (6 + a), .inl v]) (rest := []) (L1 := [some (.inr (.ref 124)), some (.inl a), some (.inl w), some (.inl v), some (.inl (6 + a))]) (st1 := [.inl v, .inl (6 + a), .inr (.ref 124)]) (M1 := M) (ob := []) rfl rfl rfl trivial rfl rfl (Nat.le_of_ble_eq_true rfl) ⟨Or.inr (Nat.le_of_ble_eq_true rfl), Or.inr fs_ob124⟩ (by decide) ?_
              refine fs_m_puts (by assumption) (by omega) (fun (V1 : fs_M) (a1 : mm_act M V1 (up1 (M 125) (6 + a) v)) => ?_)
              refine fs_r_iret (a := (M 125 (6 + a))) (L1 := [some (.inr (.ref 124)), some (.inl a), some (.inl w), some (.inl v), some (.inl (6 + a))]) (M1 := V1) (ob := []) rfl rfl trivial (Or.inl rfl) ?_
              first
                | (exfalso; omega)
                | (have e : (if w = 0 then (2 : Int) else 6) = 2 := if_pos (by omega)
                   rw [e] at hq0 hq1
                   first
                     | exact hq0 _ (by omega) a1
                     | exact hq1 (fun z => by omega))
                | (have e : (if w = 0 then (2 : Int) else 6) = 6 := if_neg (by omega)
                   rw [e] at hq0 hq1
                   first
                     | exact hq0 _ (by omega) a1
                     | exact hq1 (fun z => by omega))
            refine fs_r_goto (L1 := [some (.inr (.ref 124)), some (.inl a), some (.inl w), some (.inl v), some (.inl (6 + a))]) (st1 := [.inl (-1)]) (M1 := M) (ob := []) rfl rfl trivial ?_
            refine fs_r_iret (a := (-1)) (L1 := [some (.inr (.ref 124)), some (.inl a), some (.inl w), some (.inl v), some (.inl (6 + a))]) (M1 := M) (ob := []) rfl rfl trivial (Or.inl rfl) ?_
            first
              | (exfalso; omega)
              | (have e : (if w = 0 then (2 : Int) else 6) = 2 := if_pos (by omega)
                 rw [e] at hq0 hq1
                 first
                   | exact hq0 _ (by omega) a1
                   | exact hq1 (fun z => by omega))
              | (have e : (if w = 0 then (2 : Int) else 6) = 6 := if_neg (by omega)
                 rw [e] at hq0 hq1
                 first
                   | exact hq0 _ (by omega) a1
                   | exact hq1 (fun z => by omega))
          refine fs_r_goto (L1 := [some (.inr (.ref 124)), some (.inl a), some (.inl w), some (.inl v), none]) (st1 := [.inl 2]) (M1 := M) (ob := []) rfl rfl trivial ?_
          refine fs_r_icmp (a := (M 125 (2 + a))) (y := v) (L1 := [some (.inr (.ref 124)), some (.inl a), some (.inl w), some (.inl v), some (.inl (2 + a))]) (st1 := []) (M1 := M) (ob := [fs_rg (2 + a), 4 < 5, 124 < fs_N ∧ fs_kd 124 = 6, (125 < fs_N ∧ fs_kd 125 = 100) ∧ (0 : Int) ≤ (2 + a) ∧ (2 + a) < fs_ln 125]) rfl (fs_exA 6 (o1 := [fs_rg (2 + a), 4 < 5, 124 < fs_N ∧ fs_kd 124 = 6]) (L1 := [some (.inr (.ref 124)), some (.inl a), some (.inl w), some (.inl v), some (.inl (2 + a))]) (st1 := [.inl (2 + a), .inr (.ref 125)]) (M1 := M) (o2 := [(125 < fs_N ∧ fs_kd 125 = 100) ∧ (0 : Int) ≤ (2 + a) ∧ (2 + a) < fs_ln 125]) rfl rfl) (fs_oc ⟨by omega, by omega⟩ (fs_oc (by decide) (fs_oc fs_ob124 (fs_oc (fs_ar125 (by omega) (by omega)) trivial)))) (fun (h22 : ¬ (M 125 (2 + a)) = v) => ?_) (fun (h22 : ¬ (¬ (M 125 (2 + a)) = v)) => ?_)
          · skip
            refine fs_r_call (sta := false) (idx := 240) (as := [.inr (.ref 124), .inl (2 + a), .inl v]) (rest := []) (L1 := [some (.inr (.ref 124)), some (.inl a), some (.inl w), some (.inl v), some (.inl (2 + a))]) (st1 := [.inl v, .inl (2 + a), .inr (.ref 124)]) (M1 := M) (ob := []) rfl rfl rfl trivial rfl rfl (Nat.le_of_ble_eq_true rfl) ⟨Or.inr (Nat.le_of_ble_eq_true rfl), Or.inr fs_ob124⟩ (by decide) ?_
            refine fs_m_puts (by assumption) (by omega) (fun (V1 : fs_M) (a1 : mm_act M V1 (up1 (M 125) (2 + a) v)) => ?_)
            refine fs_r_iret (a := (M 125 (2 + a))) (L1 := [some (.inr (.ref 124)), some (.inl a), some (.inl w), some (.inl v), some (.inl (2 + a))]) (M1 := V1) (ob := []) rfl rfl trivial (Or.inl rfl) ?_
            first
              | (exfalso; omega)
              | (have e : (if w = 0 then (2 : Int) else 6) = 2 := if_pos (by omega)
                 rw [e] at hq0 hq1
                 first
                   | exact hq0 _ (by omega) a1
                   | exact hq1 (fun z => by omega))
              | (have e : (if w = 0 then (2 : Int) else 6) = 6 := if_neg (by omega)
                 rw [e] at hq0 hq1
                 first
                   | exact hq0 _ (by omega) a1
                   | exact hq1 (fun z => by omega))
          refine fs_r_goto (L1 := [some (.inr (.ref 124)), some (.inl a), some (.inl w), some (.inl v), some (.inl (2 + a))]) (st1 := [.inl (-1)]) (M1 := M) (ob := []) rfl rfl trivial ?_
          refine fs_r_iret (a := (-1)) (L1 := [some (.inr (.ref 124)), some (.inl a), some (.inl w), some (.inl v), some (.inl (2 + a))]) (M1 := M) (ob := []) rfl rfl trivial (Or.inl rfl) ?_
          first
            | (exfalso; omega)
            | (have e : (if w = 0 then (2 : Int) else 6) = 2 := if_pos (by omega)
               rw [e] at hq0 hq1
               first
                 | exact hq0 _ (by omega) a1
                 | exact hq1 (fun z => by omega))
            | (have e : (if w = 0 then (2 : Int) else 6) = 6 := if_neg (by omega)
               rw [e] at hq0 hq1
               first
                 | exact hq0 _ (by omega) a1
                 | exact hq1 (fun z => by omega))
        refine fs_r_if (a := 0) (L1 := [some (.inr (.ref 124)), some (.inl a), some (.inl w), some (.inl v), none]) (st1 := []) (M1 := M) (ob := []) rfl rfl trivial (fun h => absurd h (by decide : ¬ (¬ (0 : Int) = 0))) (fun _ => ?_)
        refine fs_r_iret (a := (-1)) (L1 := [some (.inr (.ref 124)), some (.inl a), some (.inl w), some (.inl v), none]) (M1 := M) (ob := []) rfl rfl trivial (Or.inl rfl) ?_
        exact hq1 (fun z => by omega)
      refine fs_r_goto (L1 := [some (.inr (.ref 124)), some (.inl a), some (.inl w), some (.inl v), none]) (st1 := [.inl 200, .inl 1, .inl v]) (M1 := M) (ob := []) rfl rfl trivial ?_
      refine fs_r_call (sta := true) (idx := 68) (as := [.inl v, .inl 1, .inl 200]) (rest := []) (L1 := [some (.inr (.ref 124)), some (.inl a), some (.inl w), some (.inl v), none]) (st1 := [.inl 200, .inl 1, .inl v]) (M1 := M) (ob := []) rfl rfl rfl trivial rfl rfl (Nat.le_of_ble_eq_true rfl) ⟨Or.inr (Nat.le_of_ble_eq_true rfl), trivial⟩ (by decide) ?_
      refine fs_m_isIn (fun (f23 : 1 ≤ v ∧ v ≤ 200) => ?_) (fun (f24 : ¬ (1 ≤ v ∧ v ≤ 200)) => ?_)
      · refine fs_r_if (a := 1) (L1 := [some (.inr (.ref 124)), some (.inl a), some (.inl w), some (.inl v), none]) (st1 := []) (M1 := M) (ob := []) rfl rfl trivial (fun _ => ?_) (fun h => absurd (by decide : ¬ (1 : Int) = 0) h)
        refine fs_r_if (a := w) (L1 := [some (.inr (.ref 124)), some (.inl a), some (.inl w), some (.inl v), none]) (st1 := []) (M1 := M) (ob := []) rfl rfl trivial (fun (h25 : ¬ w = 0) => ?_) (fun (h25 : ¬ (¬ w = 0)) => ?_)
        · refine fs_r_nop (L1 := [some (.inr (.ref 124)), some (.inl a), some (.inl w), some (.inl v), none]) (st1 := [.inl 6]) (M1 := M) (ob := []) rfl rfl trivial ?_
          refine fs_r_icmp (a := (M 125 (6 + a))) (y := v) (L1 := [some (.inr (.ref 124)), some (.inl a), some (.inl w), some (.inl v), some (.inl (6 + a))]) (st1 := []) (M1 := M) (ob := [fs_rg (6 + a), 4 < 5, 124 < fs_N ∧ fs_kd 124 = 6, (125 < fs_N ∧ fs_kd 125 = 100) ∧ (0 : Int) ≤ (6 + a) ∧ (6 + a) < fs_ln 125]) rfl (fs_exA 6 (o1 := [fs_rg (6 + a), 4 < 5, 124 < fs_N ∧ fs_kd 124 = 6]) (L1 := [some (.inr (.ref 124)), some (.inl a), some (.inl w), some (.inl v), some (.inl (6 + a))]) (st1 := [.inl (6 + a), .inr (.ref 125)]) (M1 := M) (o2 := [(125 < fs_N ∧ fs_kd 125 = 100) ∧ (0 : Int) ≤ (6 + a) ∧ (6 + a) < fs_ln 125]) rfl rfl) (fs_oc ⟨by omega, by omega⟩ (fs_oc (by decide) (fs_oc fs_ob124 (fs_oc (fs_ar125 (by omega) (by omega)) trivial)))) (fun (h26 : ¬ (M 125 (6 + a)) = v) => ?_) (fun (h26 : ¬ (¬ (M 125 (6 + a)) = v)) => ?_)
          · skip
            refine fs_r_call (sta := false) (idx := 240) (as := [.inr (.ref 124), .inl (6 + a), .inl v]) (rest := []) (L1 := [some (.inr (.ref 124)), some (.inl a), some (.inl w), some (.inl v), some (.inl (6 + a))]) (st1 := [.inl v, .inl (6 + a), .inr (.ref 124)]) (M1 := M) (ob := []) rfl rfl rfl trivial rfl rfl (Nat.le_of_ble_eq_true rfl) ⟨Or.inr (Nat.le_of_ble_eq_true rfl), Or.inr fs_ob124⟩ (by decide) ?_
            refine fs_m_puts (by assumption) (by omega) (fun (V1 : fs_M) (a1 : mm_act M V1 (up1 (M 125) (6 + a) v)) => ?_)
            refine fs_r_iret (a := (M 125 (6 + a))) (L1 := [some (.inr (.ref 124)), some (.inl a), some (.inl w), some (.inl v), some (.inl (6 + a))]) (M1 := V1) (ob := []) rfl rfl trivial (Or.inl rfl) ?_
            first
              | (exfalso; omega)
              | (have e : (if w = 0 then (2 : Int) else 6) = 2 := if_pos (by omega)
                 rw [e] at hq0 hq1
                 first
                   | exact hq0 _ (by omega) a1
                   | exact hq1 (fun z => by omega))
              | (have e : (if w = 0 then (2 : Int) else 6) = 6 := if_neg (by omega)
                 rw [e] at hq0 hq1
                 first
                   | exact hq0 _ (by omega) a1
                   | exact hq1 (fun z => by omega))
          refine fs_r_goto (L1 := [some (.inr (.ref 124)), some (.inl a), some (.inl w), some (.inl v), some (.inl (6 + a))]) (st1 := [.inl (-1)]) (M1 := M) (ob := []) rfl rfl trivial ?_
          refine fs_r_iret (a := (-1)) (L1 := [some (.inr (.ref 124)), some (.inl a), some (.inl w), some (.inl v), some (.inl (6 + a))]) (M1 := M) (ob := []) rfl rfl trivial (Or.inl rfl) ?_
          first
            | (exfalso; omega)
            | (have e : (if w = 0 then (2 : Int) else 6) = 2 := if_pos (by omega)
               rw [e] at hq0 hq1
               first
                 | exact hq0 _ (by omega) a1
                 | exact hq1 (fun z => by omega))
            | (have e : (if w = 0 then (2 : Int) else 6) = 6 := if_neg (by omega)
               rw [e] at hq0 hq1
               first
                 | exact hq0 _ (by omega) a1
                 | exact hq1 (fun z => by omega))
        refine fs_r_goto (L1 := [some (.inr (.ref 124)), some (.inl a), some (.inl w), some (.inl v), none]) (st1 := [.inl 2]) (M1 := M) (ob := []) rfl rfl trivial ?_
        refine fs_r_icmp (a := (M 125 (2 + a))) (y := v) (L1 := [some (.inr (.ref 124)), some (.inl a), some (.inl w), some (.inl v), some (.inl (2 + a))]) (st1 := []) (M1 := M) (ob := [fs_rg (2 + a), 4 < 5, 124 < fs_N ∧ fs_kd 124 = 6, (125 < fs_N ∧ fs_kd 125 = 100) ∧ (0 : Int) ≤ (2 + a) ∧ (2 + a) < fs_ln 125]) rfl (fs_exA 6 (o1 := [fs_rg (2 + a), 4 < 5, 124 < fs_N ∧ fs_kd 124 = 6]) (L1 := [some (.inr (.ref 124)), some (.inl a), some (.inl w), some (.inl v), some (.inl (2 + a))]) (st1 := [.inl (2 + a), .inr (.ref 125)]) (M1 := M) (o2 := [(125 < fs_N ∧ fs_kd 125 = 100) ∧ (0 : Int) ≤ (2 + a) ∧ (2 + a) < fs_ln 125]) rfl rfl) (fs_oc ⟨by omega, by omega⟩ (fs_oc (by decide) (fs_oc fs_ob124 (fs_oc (fs_ar125 (by omega) (by omega)) trivial)))) (fun (h27 : ¬ (M 125 (2 + a)) = v) => ?_) (fun (h27 : ¬ (¬ (M 125 (2 + a)) = v)) => ?_)
        · skip
          refine fs_r_call (sta := false) (idx := 240) (as := [.inr (.ref 124), .inl (2 + a), .inl v]) (rest := []) (L1 := [some (.inr (.ref 124)), some (.inl a), some (.inl w), some (.inl v), some (.inl (2 + a))]) (st1 := [.inl v, .inl (2 + a), .inr (.ref 124)]) (M1 := M) (ob := []) rfl rfl rfl trivial rfl rfl (Nat.le_of_ble_eq_true rfl) ⟨Or.inr (Nat.le_of_ble_eq_true rfl), Or.inr fs_ob124⟩ (by decide) ?_
          refine fs_m_puts (by assumption) (by omega) (fun (V1 : fs_M) (a1 : mm_act M V1 (up1 (M 125) (2 + a) v)) => ?_)
          refine fs_r_iret (a := (M 125 (2 + a))) (L1 := [some (.inr (.ref 124)), some (.inl a), some (.inl w), some (.inl v), some (.inl (2 + a))]) (M1 := V1) (ob := []) rfl rfl trivial (Or.inl rfl) ?_
          first
            | (exfalso; omega)
            | (have e : (if w = 0 then (2 : Int) else 6) = 2 := if_pos (by omega)
               rw [e] at hq0 hq1
               first
                 | exact hq0 _ (by omega) a1
                 | exact hq1 (fun z => by omega))
            | (have e : (if w = 0 then (2 : Int) else 6) = 6 := if_neg (by omega)
               rw [e] at hq0 hq1
               first
                 | exact hq0 _ (by omega) a1
                 | exact hq1 (fun z => by omega))
        refine fs_r_goto (L1 := [some (.inr (.ref 124)), some (.inl a), some (.inl w), some (.inl v), some (.inl (2 + a))]) (st1 := [.inl (-1)]) (M1 := M) (ob := []) rfl rfl trivial ?_
        refine fs_r_iret (a := (-1)) (L1 := [some (.inr (.ref 124)), some (.inl a), some (.inl w), some (.inl v), some (.inl (2 + a))]) (M1 := M) (ob := []) rfl rfl trivial (Or.inl rfl) ?_
        first
          | (exfalso; omega)
          | (have e : (if w = 0 then (2 : Int) else 6) = 2 := if_pos (by omega)
             rw [e] at hq0 hq1
             first
               | exact hq0 _ (by omega) a1
               | exact hq1 (fun z => by omega))
          | (have e : (if w = 0 then (2 : Int) else 6) = 6 := if_neg (by omega)
             rw [e] at hq0 hq1
             first
               | exact hq0 _ (by omega) a1
               | exact hq1 (fun z => by omega))
      refine fs_r_if (a := 0) (L1 := [some (.inr (.ref 124)), some (.inl a), some (.inl w), some (.inl v), none]) (st1 := []) (M1 := M) (ob := []) rfl rfl trivial (fun h => absurd h (by decide : ¬ (¬ (0 : Int) = 0))) (fun _ => ?_)
      refine fs_r_iret (a := (-1)) (L1 := [some (.inr (.ref 124)), some (.inl a), some (.inl w), some (.inl v), none]) (M1 := M) (ob := []) rfl rfl trivial (Or.inl rfl) ?_
      exact hq1 (fun z => by omega)
    refine fs_r_if (a := 0) (L1 := [some (.inr (.ref 124)), some (.inl a), some (.inl w), some (.inl v), none]) (st1 := []) (M1 := M) (ob := []) rfl rfl trivial (fun _ => ?_) (fun h => absurd (by decide : (0 : Int) = 0) h)
    refine fs_r_iret (a := (-1)) (L1 := [some (.inr (.ref 124)), some (.inl a), some (.inl w), some (.inl v), none]) (M1 := M) (ob := []) rfl rfl trivial (Or.inl rfl) ?_
    exact hq1 (fun z => by omega)
  refine fs_r_if (a := 0) (L1 := [some (.inr (.ref 124)), some (.inl a), some (.inl w), some (.inl v), none]) (st1 := []) (M1 := M) (ob := []) rfl rfl trivial (fun _ => ?_) (fun h => absurd (by decide : (0 : Int) = 0) h)
  refine fs_r_iret (a := (-1)) (L1 := [some (.inr (.ref 124)), some (.inl a), some (.inl w), some (.inl v), none]) (M1 := M) (ob := []) rfl rfl trivial (Or.inl rfl) ?_
  exact hq1 (fun z => by omega)
