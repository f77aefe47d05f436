theorem fs_c_isWithin {d : Nat} {M : fs_M} {Q : Option fs_V → fs_M → Prop} {v : Int} {lo : Int} {hi : Int}   (hq0 : (lo ≤ v ∧ v ≤ hi) → Q (some (.inl 1)) M) (hq1 : (¬ (lo ≤ v ∧ v ≤ hi)) → Q (some (.inl 0)) M) : fs_W (d) 130 0 [some (.inl v), some (.inl lo), some (.inl hi)] [] M Q := by
  refine fs_r_icmp (a := v) (y := lo) (L1 := [some (.inl v), some (.inl lo), some (.inl hi)]) (st1 := []) (M1 := M) (ob := []) rfl rfl trivial (fun (h1 : v < lo) => ?_) (fun (h1 : ¬ (v < lo)) => ?_)
  · refine fs_r_nop (L1 := [some (.inl v), some (.inl lo), some (.inl hi)]) (st1 := [.inl 0]) (M1 := M) (ob := []) rfl rfl trivial ?_
    refine fs_r_iret (a := 0) (L1 := [some (.inl v), some (.inl lo), some (.inl hi)]) (M1 := M) (ob := []) rfl rfl trivial (Or.inr (Or.inl rfl)) ?_
    exact hq1 (by omega)
  refine fs_r_icmp (a := v) (y := hi) (L1 := [some (.inl v), some (.inl lo), some (.inl hi)]) (st1 := []) (M1 := M) (ob := []) rfl rfl trivial (fun (h2 : hi < v) => ?_) (fun (h2 : ¬ (hi < v)) => ?_)
  · refine fs_r_nop (L1 := [some (.inl v), some (.inl lo), some (.inl hi)]) (st1 := [.inl 0]) (M1 := M) (ob := []) rfl rfl trivial ?_
    refine fs_r_iret (a := 0) (L1 := [some (.inl v), some (.inl lo), some (.inl hi)]) (M1 := M) (ob := []) rfl rfl trivial (Or.inr (Or.inl rfl)) ?_
    exact hq1 (by omega)
  refine fs_r_goto (L1 := [some (.inl v), some (.inl lo), some (.inl hi)]) (st1 := [.inl 1]) (M1 := M) (ob := []) rfl rfl trivial ?_
  refine fs_r_iret (a := 1) (L1 := [some (.inl v), some (.inl lo), some (.inl hi)]) (M1 := M) (ob := []) rfl rfl trivial (Or.inr (Or.inr rfl)) ?_
  exact hq0 (by omega)

theorem fs_c_curveFits {d : Nat} {M : fs_M} {Q : Option fs_V → fs_M → Prop} {w : Int} {v : Int}   (hq0 : ((w = 0 ∧ 1 ≤ v ∧ v ≤ 200) ∨ (w = 1 ∧ 0 ≤ v ∧ v ≤ 9)) → Q (some (.inl 1)) M) (hq1 : (¬ ((w = 0 ∧ 1 ≤ v ∧ v ≤ 200) ∨ (w = 1 ∧ 0 ≤ v ∧ v ≤ 9))) → Q (some (.inl 0)) M) : fs_W (d + 1) 131 0 [some (.inl w), some (.inl v)] [] M Q := by
  refine fs_r_if (a := w) (L1 := [some (.inl w), some (.inl v)]) (st1 := []) (M1 := M) (ob := []) rfl rfl trivial (fun (h1 : ¬ w = 0) => ?_) (fun (h1 : ¬ (¬ w = 0)) => ?_)
  · refine fs_r_icmp (a := w) (y := 1) (L1 := [some (.inl w), some (.inl v)]) (st1 := []) (M1 := M) (ob := []) rfl rfl trivial (fun (h2 : ¬ w = 1) => ?_) (fun (h2 : ¬ (¬ w = 1)) => ?_)
    · refine fs_r_nop (L1 := [some (.inl w), some (.inl v)]) (st1 := [.inl 0]) (M1 := M) (ob := []) rfl rfl trivial ?_
      refine fs_r_iret (a := 0) (L1 := [some (.inl w), some (.inl v)]) (M1 := M) (ob := []) rfl rfl trivial (Or.inr (Or.inl rfl)) ?_
      first
        | exact hq0 (by omega)
        | exact hq1 (by omega)
    refine fs_r_call (sta := true) (idx := 131) (as := [.inl v, .inl 0, .inl 9]) (rest := []) (L1 := [some (.inl w), some (.inl v)]) (st1 := [.inl 9, .inl 0, .inl v]) (M1 := M) (ob := []) rfl rfl rfl trivial rfl rfl (Nat.le_of_ble_eq_true rfl) ⟨Or.inr (Nat.le_of_ble_eq_true rfl), trivial⟩ (by decide) ?_
    refine fs_c_isWithin (fun (f3 : 0 ≤ v ∧ v ≤ 9) => ?_) (fun (f4 : ¬ (0 ≤ v ∧ v ≤ 9)) => ?_)
    · refine fs_r_if (a := 1) (L1 := [some (.inl w), some (.inl v)]) (st1 := []) (M1 := M) (ob := []) rfl rfl trivial (fun h => absurd h (by decide : ¬ ((1 : Int) = 0))) (fun _ => ?_)
      refine fs_r_goto (L1 := [some (.inl w), some (.inl v)]) (st1 := [.inl 1]) (M1 := M) (ob := []) rfl rfl trivial ?_
      refine fs_r_iret (a := 1) (L1 := [some (.inl w), some (.inl v)]) (M1 := M) (ob := []) rfl rfl trivial (Or.inr (Or.inr rfl)) ?_
      first
        | exact hq0 (by omega)
        | exact hq1 (by omega)
    refine fs_r_if (a := 0) (L1 := [some (.inl w), some (.inl v)]) (st1 := []) (M1 := M) (ob := []) rfl rfl trivial (fun _ => ?_) (fun h => absurd (by decide : (0 : Int) = 0) h)
    refine fs_r_nop (L1 := [some (.inl w), some (.inl v)]) (st1 := [.inl 0]) (M1 := M) (ob := []) rfl rfl trivial ?_
    refine fs_r_iret (a := 0) (L1 := [some (.inl w), some (.inl v)]) (M1 := M) (ob := []) rfl rfl trivial (Or.inr (Or.inl rfl)) ?_
    first
      | exact hq0 (by omega)
      | exact hq1 (by omega)
  refine fs_r_call (sta := true) (idx := 131) (as := [.inl v, .inl 1, .inl 200]) (rest := []) (L1 := [some (.inl w), some (.inl v)]) (st1 := [.inl 200, .inl 1, .inl v]) (M1 := M) (ob := []) rfl rfl rfl trivial rfl rfl (Nat.le_of_ble_eq_true rfl) ⟨Or.inr (Nat.le_of_ble_eq_true rfl), trivial⟩ (by decide) ?_
  refine fs_c_isWithin (fun (f5 : 1 ≤ v ∧ v ≤ 200) => ?_) (fun (f6 : ¬ (1 ≤ v ∧ v ≤ 200)) => ?_)
  · refine fs_r_iret (a := 1) (L1 := [some (.inl w), some (.inl v)]) (M1 := M) (ob := []) rfl rfl trivial (Or.inr (Or.inr rfl)) ?_
    first
      | exact hq0 (by omega)
      | exact hq1 (by omega)
  refine fs_r_iret (a := 0) (L1 := [some (.inl w), some (.inl v)]) (M1 := M) (ob := []) rfl rfl trivial (Or.inr (Or.inl rfl)) ?_
  first
    | exact hq0 (by omega)
    | exact hq1 (by omega)

theorem fs_c_leastFact {d : Nat} {M : fs_M} {Q : Option fs_V → fs_M → Prop} {w : Int}   (hq0 : Q (some (.inl (if w = 3 then 1 else 0))) M) : fs_W (d) 133 0 [some (.inl w)] [] M Q := by
  refine fs_r_icmp (a := w) (y := 3) (L1 := [some (.inl w)]) (st1 := []) (M1 := M) (ob := []) rfl rfl trivial (fun (h1 : ¬ w = 3) => ?_) (fun (h1 : ¬ (¬ w = 3)) => ?_)
  · refine fs_r_nop (L1 := [some (.inl w)]) (st1 := [.inl 0]) (M1 := M) (ob := []) rfl rfl trivial ?_
    refine fs_r_iret (a := 0) (L1 := [some (.inl w)]) (M1 := M) (ob := []) rfl rfl trivial (Or.inl rfl) ?_
    exact fs_qi (by first | (rw [if_pos (by omega)]; done) | (rw [if_neg (by omega)]; done) | (rw [if_neg (by omega), if_pos (by omega)]; done) | (rw [if_neg (by omega), if_neg (by omega)]; done)) hq0
  refine fs_r_goto (L1 := [some (.inl w)]) (st1 := [.inl 1]) (M1 := M) (ob := []) rfl rfl trivial ?_
  refine fs_r_iret (a := 1) (L1 := [some (.inl w)]) (M1 := M) (ob := []) rfl rfl trivial (Or.inl rfl) ?_
  exact fs_qi (by first | (rw [if_pos (by omega)]; done) | (rw [if_neg (by omega)]; done) | (rw [if_neg (by omega), if_pos (by omega)]; done) | (rw [if_neg (by omega), if_neg (by omega)]; done)) hq0

theorem fs_c_mostFact {d : Nat} {M : fs_M} {Q : Option fs_V → fs_M → Prop} {w : Int}   (hq0 : Q (some (.inl (if w = 3 then 99 else if w = 4 then 1 else 9999))) M) : fs_W (d) 134 0 [some (.inl w)] [] M Q := by
  refine fs_r_icmp (a := w) (y := 3) (L1 := [some (.inl w)]) (st1 := []) (M1 := M) (ob := []) rfl rfl trivial (fun (h1 : ¬ w = 3) => ?_) (fun (h1 : ¬ (¬ w = 3)) => ?_)
  · refine fs_r_icmp (a := w) (y := 4) (L1 := [some (.inl w)]) (st1 := []) (M1 := M) (ob := []) rfl rfl trivial (fun (h2 : ¬ w = 4) => ?_) (fun (h2 : ¬ (¬ w = 4)) => ?_)
    · refine fs_r_nop (L1 := [some (.inl w)]) (st1 := [.inl 9999]) (M1 := M) (ob := []) rfl rfl trivial ?_
      refine fs_r_iret (a := 9999) (L1 := [some (.inl w)]) (M1 := M) (ob := []) rfl rfl trivial (Or.inl rfl) ?_
      exact fs_qi (by first | (rw [if_pos (by omega)]; done) | (rw [if_neg (by omega)]; done) | (rw [if_neg (by omega), if_pos (by omega)]; done) | (rw [if_neg (by omega), if_neg (by omega)]; done)) hq0
    refine fs_r_goto (L1 := [some (.inl w)]) (st1 := [.inl 1]) (M1 := M) (ob := []) rfl rfl trivial ?_
    refine fs_r_iret (a := 1) (L1 := [some (.inl w)]) (M1 := M) (ob := []) rfl rfl trivial (Or.inl rfl) ?_
    exact fs_qi (by first | (rw [if_pos (by omega)]; done) | (rw [if_neg (by omega)]; done) | (rw [if_neg (by omega), if_pos (by omega)]; done) | (rw [if_neg (by omega), if_neg (by omega)]; done)) hq0
  refine fs_r_iret (a := 99) (L1 := [some (.inl w)]) (M1 := M) (ob := []) rfl rfl trivial (Or.inl rfl) ?_
  exact fs_qi (by first | (rw [if_pos (by omega)]; done) | (rw [if_neg (by omega)]; done) | (rw [if_neg (by omega), if_pos (by omega)]; done) | (rw [if_neg (by omega), if_neg (by omega)]; done)) hq0

theorem fs_c_factFits {d : Nat} {M : fs_M} {Q : Option fs_V → fs_M → Prop} {w : Int} {v : Int}   (hq0 : ((0 ≤ w ∧ w ≤ 4) ∧ ((w = 3 → 1 ≤ v ∧ v ≤ 99) ∧ (w = 4 → 0 ≤ v ∧ v ≤ 1) ∧ (w ≤ 2 → 0 ≤ v ∧ v ≤ 9999))) → Q (some (.inl 1)) M) (hq1 : (¬ ((0 ≤ w ∧ w ≤ 4) ∧ ((w = 3 → 1 ≤ v ∧ v ≤ 99) ∧ (w = 4 → 0 ≤ v ∧ v ≤ 1) ∧ (w ≤ 2 → 0 ≤ v ∧ v ≤ 9999)))) → Q (some (.inl 0)) M) : fs_W (d + 1) 132 0 [some (.inl w), some (.inl v)] [] M Q := by
  refine fs_r_call (sta := true) (idx := 131) (as := [.inl w, .inl 0, .inl 4]) (rest := []) (L1 := [some (.inl w), some (.inl v)]) (st1 := [.inl 4, .inl 0, .inl w]) (M1 := M) (ob := []) rfl rfl rfl trivial rfl rfl (Nat.le_of_ble_eq_true rfl) ⟨Or.inr (Nat.le_of_ble_eq_true rfl), trivial⟩ (by decide) ?_
  refine fs_c_isWithin (fun (f1 : 0 ≤ w ∧ w ≤ 4) => ?_) (fun (f2 : ¬ (0 ≤ w ∧ w ≤ 4)) => ?_)
  · refine fs_r_if (a := 1) (L1 := [some (.inl w), some (.inl v)]) (st1 := []) (M1 := M) (ob := []) rfl rfl trivial (fun h => absurd h (by decide : ¬ ((1 : Int) = 0))) (fun _ => ?_)
    refine fs_r_call (sta := true) (idx := 374) (as := [.inl w]) (rest := [.inl v]) (L1 := [some (.inl w), some (.inl v)]) (st1 := [.inl w, .inl v]) (M1 := M) (ob := []) rfl rfl rfl trivial rfl rfl (Nat.le_of_ble_eq_true rfl) ⟨Or.inr (Nat.le_of_ble_eq_true rfl), trivial⟩ (by decide) ?_
    refine fs_c_leastFact ?_
    refine fs_r_call (sta := true) (idx := 377) (as := [.inl w]) (rest := [.inl (if w = 3 then 1 else 0), .inl v]) (L1 := [some (.inl w), some (.inl v)]) (st1 := [.inl w, .inl (if w = 3 then 1 else 0), .inl v]) (M1 := M) (ob := []) rfl rfl rfl trivial rfl rfl (Nat.le_of_ble_eq_true rfl) ⟨Or.inr (Nat.le_of_ble_eq_true rfl), trivial⟩ (by decide) ?_
    refine fs_c_mostFact ?_
    refine fs_r_call (sta := true) (idx := 131) (as := [.inl v, .inl (if w = 3 then 1 else 0), .inl (if w = 3 then 99 else if w = 4 then 1 else 9999)]) (rest := []) (L1 := [some (.inl w), some (.inl v)]) (st1 := [.inl (if w = 3 then 99 else if w = 4 then 1 else 9999), .inl (if w = 3 then 1 else 0), .inl v]) (M1 := M) (ob := []) rfl rfl rfl trivial rfl rfl (Nat.le_of_ble_eq_true rfl) ⟨Or.inr (Nat.le_of_ble_eq_true rfl), trivial⟩ (by decide) ?_
    refine fs_c_isWithin (fun (f3 : (if w = 3 then 1 else 0) ≤ v ∧ v ≤ (if w = 3 then 99 else if w = 4 then 1 else 9999)) => ?_) (fun (f4 : ¬ ((if w = 3 then 1 else 0) ≤ v ∧ v ≤ (if w = 3 then 99 else if w = 4 then 1 else 9999))) => ?_)
    · refine fs_r_if (a := 1) (L1 := [some (.inl w), some (.inl v)]) (st1 := []) (M1 := M) (ob := []) rfl rfl trivial (fun h => absurd h (by decide : ¬ ((1 : Int) = 0))) (fun _ => ?_)
      refine fs_r_goto (L1 := [some (.inl w), some (.inl v)]) (st1 := [.inl 1]) (M1 := M) (ob := []) rfl rfl trivial ?_
      refine fs_r_iret (a := 1) (L1 := [some (.inl w), some (.inl v)]) (M1 := M) (ob := []) rfl rfl trivial (Or.inr (Or.inr rfl)) ?_
      exact hq0 (by omega)
    refine fs_r_if (a := 0) (L1 := [some (.inl w), some (.inl v)]) (st1 := []) (M1 := M) (ob := []) rfl rfl trivial (fun _ => ?_) (fun h => absurd (by decide : (0 : Int) = 0) h)
    refine fs_r_nop (L1 := [some (.inl w), some (.inl v)]) (st1 := [.inl 0]) (M1 := M) (ob := []) rfl rfl trivial ?_
    refine fs_r_iret (a := 0) (L1 := [some (.inl w), some (.inl v)]) (M1 := M) (ob := []) rfl rfl trivial (Or.inr (Or.inl rfl)) ?_
    exact hq1 (by omega)
  refine fs_r_if (a := 0) (L1 := [some (.inl w), some (.inl v)]) (st1 := []) (M1 := M) (ob := []) rfl rfl trivial (fun _ => ?_) (fun h => absurd (by decide : (0 : Int) = 0) h)
  refine fs_r_nop (L1 := [some (.inl w), some (.inl v)]) (st1 := [.inl 0]) (M1 := M) (ob := []) rfl rfl trivial ?_
  refine fs_r_iret (a := 0) (L1 := [some (.inl w), some (.inl v)]) (M1 := M) (ob := []) rfl rfl trivial (Or.inr (Or.inl rfl)) ?_
  exact hq1 (by omega)

theorem fs_c_itemFits {d : Nat} {M : fs_M} {Q : Option fs_V → fs_M → Prop} {k : Int} {v : Int}   (hq0 : ((0 ≤ k ∧ k ≤ 1) ∧ ((k = 0 → 0 ≤ v ∧ v ≤ 360) ∧ (k = 1 → 0 ≤ v ∧ v ≤ 200))) → Q (some (.inl 1)) M) (hq1 : (¬ ((0 ≤ k ∧ k ≤ 1) ∧ ((k = 0 → 0 ≤ v ∧ v ≤ 360) ∧ (k = 1 → 0 ≤ v ∧ v ≤ 200)))) → Q (some (.inl 0)) M) : fs_W (d + 1) 135 0 [some (.inl k), some (.inl v)] [] M Q := by
  refine fs_r_call (sta := true) (idx := 131) (as := [.inl k, .inl 0, .inl 1]) (rest := []) (L1 := [some (.inl k), some (.inl v)]) (st1 := [.inl 1, .inl 0, .inl k]) (M1 := M) (ob := []) rfl rfl rfl trivial rfl rfl (Nat.le_of_ble_eq_true rfl) ⟨Or.inr (Nat.le_of_ble_eq_true rfl), trivial⟩ (by decide) ?_
  refine fs_c_isWithin (fun (f1 : 0 ≤ k ∧ k ≤ 1) => ?_) (fun (f2 : ¬ (0 ≤ k ∧ k ≤ 1)) => ?_)
  · refine fs_r_if (a := 1) (L1 := [some (.inl k), some (.inl v)]) (st1 := []) (M1 := M) (ob := []) rfl rfl trivial (fun h => absurd h (by decide : ¬ ((1 : Int) = 0))) (fun _ => ?_)
    refine fs_r_if (a := k) (L1 := [some (.inl k), some (.inl v)]) (st1 := [.inl 0, .inl v]) (M1 := M) (ob := []) rfl rfl trivial (fun (h3 : ¬ k = 0) => ?_) (fun (h3 : ¬ (¬ k = 0)) => ?_)
    · refine fs_r_nop (L1 := [some (.inl k), some (.inl v)]) (st1 := [.inl 200, .inl 0, .inl v]) (M1 := M) (ob := []) rfl rfl trivial ?_
      refine fs_r_call (sta := true) (idx := 131) (as := [.inl v, .inl 0, .inl 200]) (rest := []) (L1 := [some (.inl k), some (.inl v)]) (st1 := [.inl 200, .inl 0, .inl v]) (M1 := M) (ob := []) rfl rfl rfl trivial rfl rfl (Nat.le_of_ble_eq_true rfl) ⟨Or.inr (Nat.le_of_ble_eq_true rfl), trivial⟩ (by decide) ?_
      refine fs_c_isWithin (fun (f4 : 0 ≤ v ∧ v ≤ 200) => ?_) (fun (f5 : ¬ (0 ≤ v ∧ v ≤ 200)) => ?_)
      · refine fs_r_if (a := 1) (L1 := [some (.inl k), some (.inl v)]) (st1 := []) (M1 := M) (ob := []) rfl rfl trivial (fun h => absurd h (by decide : ¬ ((1 : Int) = 0))) (fun _ => ?_)
        refine fs_r_goto (L1 := [some (.inl k), some (.inl v)]) (st1 := [.inl 1]) (M1 := M) (ob := []) rfl rfl trivial ?_
        refine fs_r_iret (a := 1) (L1 := [some (.inl k), some (.inl v)]) (M1 := M) (ob := []) rfl rfl trivial (Or.inr (Or.inr rfl)) ?_
        exact hq0 (by omega)
      refine fs_r_if (a := 0) (L1 := [some (.inl k), some (.inl v)]) (st1 := []) (M1 := M) (ob := []) rfl rfl trivial (fun _ => ?_) (fun h => absurd (by decide : (0 : Int) = 0) h)
      refine fs_r_nop (L1 := [some (.inl k), some (.inl v)]) (st1 := [.inl 0]) (M1 := M) (ob := []) rfl rfl trivial ?_
      refine fs_r_iret (a := 0) (L1 := [some (.inl k), some (.inl v)]) (M1 := M) (ob := []) rfl rfl trivial (Or.inr (Or.inl rfl)) ?_
      exact hq1 (by omega)
    refine fs_r_goto (L1 := [some (.inl k), some (.inl v)]) (st1 := [.inl 360, .inl 0, .inl v]) (M1 := M) (ob := []) rfl rfl trivial ?_
    refine fs_r_call (sta := true) (idx := 131) (as := [.inl v, .inl 0, .inl 360]) (rest := []) (L1 := [some (.inl k), some (.inl v)]) (st1 := [.inl 360, .inl 0, .inl v]) (M1 := M) (ob := []) rfl rfl rfl trivial rfl rfl (Nat.le_of_ble_eq_true rfl) ⟨Or.inr (Nat.le_of_ble_eq_true rfl), trivial⟩ (by decide) ?_
    refine fs_c_isWithin (fun (f6 : 0 ≤ v ∧ v ≤ 360) => ?_) (fun (f7 : ¬ (0 ≤ v ∧ v ≤ 360)) => ?_)
    · refine fs_r_if (a := 1) (L1 := [some (.inl k), some (.inl v)]) (st1 := []) (M1 := M) (ob := []) rfl rfl trivial (fun h => absurd h (by decide : ¬ ((1 : Int) = 0))) (fun _ => ?_)
      refine fs_r_goto (L1 := [some (.inl k), some (.inl v)]) (st1 := [.inl 1]) (M1 := M) (ob := []) rfl rfl trivial ?_
      refine fs_r_iret (a := 1) (L1 := [some (.inl k), some (.inl v)]) (M1 := M) (ob := []) rfl rfl trivial (Or.inr (Or.inr rfl)) ?_
      exact hq0 (by omega)
    refine fs_r_if (a := 0) (L1 := [some (.inl k), some (.inl v)]) (st1 := []) (M1 := M) (ob := []) rfl rfl trivial (fun _ => ?_) (fun h => absurd (by decide : (0 : Int) = 0) h)
    refine fs_r_nop (L1 := [some (.inl k), some (.inl v)]) (st1 := [.inl 0]) (M1 := M) (ob := []) rfl rfl trivial ?_
    refine fs_r_iret (a := 0) (L1 := [some (.inl k), some (.inl v)]) (M1 := M) (ob := []) rfl rfl trivial (Or.inr (Or.inl rfl)) ?_
    exact hq1 (by omega)
  refine fs_r_if (a := 0) (L1 := [some (.inl k), some (.inl v)]) (st1 := []) (M1 := M) (ob := []) rfl rfl trivial (fun _ => ?_) (fun h => absurd (by decide : (0 : Int) = 0) h)
  refine fs_r_nop (L1 := [some (.inl k), some (.inl v)]) (st1 := [.inl 0]) (M1 := M) (ob := []) rfl rfl trivial ?_
  refine fs_r_iret (a := 0) (L1 := [some (.inl k), some (.inl v)]) (M1 := M) (ob := []) rfl rfl trivial (Or.inr (Or.inl rfl)) ?_
  exact hq1 (by omega)

theorem fs_c_isState {d : Nat} {M : fs_M} {Q : Option fs_V → fs_M → Prop} {w : Int}   (hq0 : (0 ≤ w ∧ w ≤ 3) → Q (some (.inl 1)) M) (hq1 : (¬ (0 ≤ w ∧ w ≤ 3)) → Q (some (.inl 0)) M) : fs_W (d + 1) 136 0 [some (.inl w)] [] M Q := by
  refine fs_r_call (sta := true) (idx := 131) (as := [.inl w, .inl 0, .inl 3]) (rest := []) (L1 := [some (.inl w)]) (st1 := [.inl 3, .inl 0, .inl w]) (M1 := M) (ob := []) rfl rfl rfl trivial rfl rfl (Nat.le_of_ble_eq_true rfl) ⟨Or.inr (Nat.le_of_ble_eq_true rfl), trivial⟩ (by decide) ?_
  refine fs_c_isWithin (fun (f1 : 0 ≤ w ∧ w ≤ 3) => ?_) (fun (f2 : ¬ (0 ≤ w ∧ w ≤ 3)) => ?_)
  · refine fs_r_iret (a := 1) (L1 := [some (.inl w)]) (M1 := M) (ob := []) rfl rfl trivial (Or.inr (Or.inr rfl)) ?_
    first
      | exact hq0 (by omega)
      | exact hq1 (by omega)
  refine fs_r_iret (a := 0) (L1 := [some (.inl w)]) (M1 := M) (ob := []) rfl rfl trivial (Or.inr (Or.inl rfl)) ?_
  first
    | exact hq0 (by omega)
    | exact hq1 (by omega)

theorem fs_c_isTold {d : Nat} {M : fs_M} {Q : Option fs_V → fs_M → Prop} {w : Int}   (hq0 : ((0 ≤ w ∧ w < M 5 0) ∨ (4 ≤ w ∧ w ≤ 7)) → Q (some (.inl 1)) M) (hq1 : (¬ ((0 ≤ w ∧ w < M 5 0) ∨ (4 ≤ w ∧ w ≤ 7))) → Q (some (.inl 0)) M) : fs_W (d + 1) 137 0 [some (.inr (.ref 0)), some (.inl w)] [] M Q := by
  refine fs_r_call (sta := true) (idx := 131) (as := [.inl w, .inl 4, .inl 7]) (rest := []) (L1 := [some (.inr (.ref 0)), some (.inl w)]) (st1 := [.inl 7, .inl 4, .inl w]) (M1 := M) (ob := []) rfl rfl rfl trivial rfl rfl (Nat.le_of_ble_eq_true rfl) ⟨Or.inr (Nat.le_of_ble_eq_true rfl), trivial⟩ (by decide) ?_
  refine fs_c_isWithin (fun (f1 : 4 ≤ w ∧ w ≤ 7) => ?_) (fun (f2 : ¬ (4 ≤ w ∧ w ≤ 7)) => ?_)
  · refine fs_r_if (a := 1) (L1 := [some (.inr (.ref 0)), some (.inl w)]) (st1 := []) (M1 := M) (ob := []) rfl rfl trivial (fun _ => ?_) (fun h => absurd (by decide : ¬ (1 : Int) = 0) h)
    refine fs_r_goto (L1 := [some (.inr (.ref 0)), some (.inl w)]) (st1 := [.inl 1]) (M1 := M) (ob := []) rfl rfl trivial ?_
    refine fs_r_iret (a := 1) (L1 := [some (.inr (.ref 0)), some (.inl w)]) (M1 := M) (ob := []) rfl rfl trivial (Or.inr (Or.inr rfl)) ?_
    exact hq0 (by omega)
  refine fs_r_if (a := 0) (L1 := [some (.inr (.ref 0)), some (.inl w)]) (st1 := []) (M1 := M) (ob := []) rfl rfl trivial (fun h => absurd h (by decide : ¬ (¬ (0 : Int) = 0))) (fun _ => ?_)
  refine fs_r_call (sta := false) (idx := 128) (as := [.inr (.ref 5), .inl w]) (rest := []) (L1 := [some (.inr (.ref 0)), some (.inl w)]) (st1 := [.inl w, .inr (.ref 5)]) (M1 := M) (ob := [0 < fs_N ∧ fs_kd 0 = 5]) rfl rfl rfl (fs_oc fs_ob0 trivial) rfl rfl (Nat.le_of_ble_eq_true rfl) ⟨Or.inr (Nat.le_of_ble_eq_true rfl), Or.inr fs_ob5⟩ (by decide) ?_
  refine fs_c_isAsset (fun (f3 : 0 ≤ w ∧ w < M 5 0) => ?_) (fun (f4 : ¬ (0 ≤ w ∧ w < M 5 0)) => ?_)
  · refine fs_r_if (a := 1) (L1 := [some (.inr (.ref 0)), some (.inl w)]) (st1 := []) (M1 := M) (ob := []) rfl rfl trivial (fun h => absurd h (by decide : ¬ ((1 : Int) = 0))) (fun _ => ?_)
    refine fs_r_goto (L1 := [some (.inr (.ref 0)), some (.inl w)]) (st1 := [.inl 1]) (M1 := M) (ob := []) rfl rfl trivial ?_
    refine fs_r_iret (a := 1) (L1 := [some (.inr (.ref 0)), some (.inl w)]) (M1 := M) (ob := []) rfl rfl trivial (Or.inr (Or.inr rfl)) ?_
    exact hq0 (by omega)
  refine fs_r_if (a := 0) (L1 := [some (.inr (.ref 0)), some (.inl w)]) (st1 := []) (M1 := M) (ob := []) rfl rfl trivial (fun _ => ?_) (fun h => absurd (by decide : (0 : Int) = 0) h)
  refine fs_r_nop (L1 := [some (.inr (.ref 0)), some (.inl w)]) (st1 := [.inl 0]) (M1 := M) (ob := []) rfl rfl trivial ?_
  refine fs_r_iret (a := 0) (L1 := [some (.inr (.ref 0)), some (.inl w)]) (M1 := M) (ob := []) rfl rfl trivial (Or.inr (Or.inl rfl)) ?_
  exact hq1 (by omega)

theorem fs_c_isHouseOrNone {d : Nat} {M : fs_M} {Q : Option fs_V → fs_M → Prop} {h : Int}   (hq0 : (h = -1 ∨ (0 ≤ h ∧ h < M 5 1)) → Q (some (.inl 1)) M) (hq1 : (¬ (h = -1 ∨ (0 ≤ h ∧ h < M 5 1))) → Q (some (.inl 0)) M) : fs_W (d + 1) 138 0 [some (.inr (.ref 0)), some (.inl h)] [] M Q := by
  refine fs_r_icmp (a := h) (y := (-1)) (L1 := [some (.inr (.ref 0)), some (.inl h)]) (st1 := []) (M1 := M) (ob := []) rfl rfl trivial (fun (h1 : h = (-1)) => ?_) (fun (h1 : ¬ (h = (-1))) => ?_)
  · refine fs_r_goto (L1 := [some (.inr (.ref 0)), some (.inl h)]) (st1 := [.inl 1]) (M1 := M) (ob := []) rfl rfl trivial ?_
    refine fs_r_iret (a := 1) (L1 := [some (.inr (.ref 0)), some (.inl h)]) (M1 := M) (ob := []) rfl rfl trivial (Or.inr (Or.inr rfl)) ?_
    exact hq0 (by omega)
  refine fs_r_call (sta := false) (idx := 117) (as := [.inr (.ref 5), .inl h]) (rest := []) (L1 := [some (.inr (.ref 0)), some (.inl h)]) (st1 := [.inl h, .inr (.ref 5)]) (M1 := M) (ob := [0 < fs_N ∧ fs_kd 0 = 5]) rfl rfl rfl (fs_oc fs_ob0 trivial) rfl rfl (Nat.le_of_ble_eq_true rfl) ⟨Or.inr (Nat.le_of_ble_eq_true rfl), Or.inr fs_ob5⟩ (by decide) ?_
  refine fs_c_isHouse (fun (f2 : 0 ≤ h ∧ h < M 5 1) => ?_) (fun (f3 : ¬ (0 ≤ h ∧ h < M 5 1)) => ?_)
  · refine fs_r_if (a := 1) (L1 := [some (.inr (.ref 0)), some (.inl h)]) (st1 := []) (M1 := M) (ob := []) rfl rfl trivial (fun h => absurd h (by decide : ¬ ((1 : Int) = 0))) (fun _ => ?_)
    refine fs_r_goto (L1 := [some (.inr (.ref 0)), some (.inl h)]) (st1 := [.inl 1]) (M1 := M) (ob := []) rfl rfl trivial ?_
    refine fs_r_iret (a := 1) (L1 := [some (.inr (.ref 0)), some (.inl h)]) (M1 := M) (ob := []) rfl rfl trivial (Or.inr (Or.inr rfl)) ?_
    exact hq0 (by omega)
  refine fs_r_if (a := 0) (L1 := [some (.inr (.ref 0)), some (.inl h)]) (st1 := []) (M1 := M) (ob := []) rfl rfl trivial (fun _ => ?_) (fun h => absurd (by decide : (0 : Int) = 0) h)
  refine fs_r_nop (L1 := [some (.inr (.ref 0)), some (.inl h)]) (st1 := [.inl 0]) (M1 := M) (ob := []) rfl rfl trivial ?_
  refine fs_r_iret (a := 0) (L1 := [some (.inr (.ref 0)), some (.inl h)]) (M1 := M) (ob := []) rfl rfl trivial (Or.inr (Or.inl rfl)) ?_
  exact hq1 (by omega)

theorem fs_c_holding {d : Nat} {M : fs_M} {Q : Option fs_V → fs_M → Prop} {h : Int} {a : Int} {N : Int → Int} (hV : vw 5 M N) (hN : fs_NI N) (hq0 : Q (some (.inl (rq_holding N h a))) M) : fs_W (d + 1) 92 0 [some (.inr (.ref 0)), some (.inl h), some (.inl a)] [] M Q := by
  obtain ⟨v0, v1, vcv, vfc, vhd, vln, vlc, vit⟩ := vw5 hV
  obtain ⟨⟨hA0, hA1⟩, ⟨hH0, hH1⟩, hcv, hfc, hhd, hln, hsh, hit, hst⟩ := id hN
  refine fs_r_call (sta := false) (idx := 117) (as := [.inr (.ref 5), .inl h]) (rest := []) (L1 := [some (.inr (.ref 0)), some (.inl h), some (.inl a)]) (st1 := [.inl h, .inr (.ref 5)]) (M1 := M) (ob := [0 < fs_N ∧ fs_kd 0 = 5]) rfl rfl rfl (fs_oc fs_ob0 trivial) rfl rfl (Nat.le_of_ble_eq_true rfl) ⟨Or.inr (Nat.le_of_ble_eq_true rfl), Or.inr fs_ob5⟩ (by decide) ?_
  refine fs_c_isHouse (fun (f1 : 0 ≤ h ∧ h < M 5 1) => ?_) (fun (f2 : ¬ (0 ≤ h ∧ h < M 5 1)) => ?_)
  · refine fs_r_if (a := 1) (L1 := [some (.inr (.ref 0)), some (.inl h), some (.inl a)]) (st1 := []) (M1 := M) (ob := []) rfl rfl trivial (fun h => absurd h (by decide : ¬ ((1 : Int) = 0))) (fun _ => ?_)
    refine fs_r_call (sta := false) (idx := 128) (as := [.inr (.ref 5), .inl a]) (rest := []) (L1 := [some (.inr (.ref 0)), some (.inl h), some (.inl a)]) (st1 := [.inl a, .inr (.ref 5)]) (M1 := M) (ob := [0 < fs_N ∧ fs_kd 0 = 5]) rfl rfl rfl (fs_oc fs_ob0 trivial) rfl rfl (Nat.le_of_ble_eq_true rfl) ⟨Or.inr (Nat.le_of_ble_eq_true rfl), Or.inr fs_ob5⟩ (by decide) ?_
    refine fs_c_isAsset (fun (f3 : 0 ≤ a ∧ a < M 5 0) => ?_) (fun (f4 : ¬ (0 ≤ a ∧ a < M 5 0)) => ?_)
    · refine fs_r_if (a := 1) (L1 := [some (.inr (.ref 0)), some (.inl h), some (.inl a)]) (st1 := []) (M1 := M) (ob := []) rfl rfl trivial (fun _ => ?_) (fun h => absurd (by decide : ¬ (1 : Int) = 0) h)
      have q := vhd h a (by omega) (by omega) (by omega) (by omega)
      refine fs_r_call (sta := false) (idx := 227) (as := [.inr (.ref 5), .inl h, .inl a]) (rest := []) (L1 := [some (.inr (.ref 0)), some (.inl h), some (.inl a)]) (st1 := [.inl a, .inl h, .inr (.ref 5)]) (M1 := M) (ob := [0 < fs_N ∧ fs_kd 0 = 5]) rfl rfl rfl (fs_oc fs_ob0 trivial) rfl rfl (Nat.le_of_ble_eq_true rfl) ⟨Or.inr (Nat.le_of_ble_eq_true rfl), Or.inr fs_ob5⟩ (by decide) ?_
      refine fs_c_holdingOf (by first | exact Or.inl rfl | exact Or.inr (Or.inl rfl) | assumption) (by omega) (by omega) ?_
      refine fs_r_iret (a := (M 8 ((h * 4) + a))) (L1 := [some (.inr (.ref 0)), some (.inl h), some (.inl a)]) (M1 := M) (ob := []) rfl rfl trivial (Or.inl rfl) ?_
      exact fs_qi (by unfold rq_holding; first | (rw [if_pos (by omega)]; omega) | (rw [if_neg (by omega)])) hq0
    refine fs_r_if (a := 0) (L1 := [some (.inr (.ref 0)), some (.inl h), some (.inl a)]) (st1 := []) (M1 := M) (ob := []) rfl rfl trivial (fun h => absurd h (by decide : ¬ (¬ (0 : Int) = 0))) (fun _ => ?_)
    refine fs_r_iret (a := (-1)) (L1 := [some (.inr (.ref 0)), some (.inl h), some (.inl a)]) (M1 := M) (ob := []) rfl rfl trivial (Or.inl rfl) ?_
    exact fs_qi (by unfold rq_holding; first | (rw [if_pos (by omega)]; omega) | (rw [if_neg (by omega)])) hq0
  refine fs_r_if (a := 0) (L1 := [some (.inr (.ref 0)), some (.inl h), some (.inl a)]) (st1 := []) (M1 := M) (ob := []) rfl rfl trivial (fun _ => ?_) (fun h => absurd (by decide : (0 : Int) = 0) h)
  refine fs_r_iret (a := (-1)) (L1 := [some (.inr (.ref 0)), some (.inl h), some (.inl a)]) (M1 := M) (ob := []) rfl rfl trivial (Or.inl rfl) ?_
  exact fs_qi (by unfold rq_holding; first | (rw [if_pos (by omega)]; omega) | (rw [if_neg (by omega)])) hq0

theorem fs_c_owes {d : Nat} {M : fs_M} {Q : Option fs_V → fs_M → Prop} {h : Int} {o : Int} {N : Int → Int} (hV : vw 5 M N) (hN : fs_NI N) (hq0 : Q (some (.inl (rq_owes N h o))) M) : fs_W (d + 1) 93 0 [some (.inr (.ref 0)), some (.inl h), some (.inl o)] [] M Q := by
  obtain ⟨v0, v1, vcv, vfc, vhd, vln, vlc, vit⟩ := vw5 hV
  obtain ⟨⟨hA0, hA1⟩, ⟨hH0, hH1⟩, hcv, hfc, hhd, hln, hsh, hit, hst⟩ := id hN
  refine fs_r_call (sta := false) (idx := 117) (as := [.inr (.ref 5), .inl h]) (rest := []) (L1 := [some (.inr (.ref 0)), some (.inl h), some (.inl o)]) (st1 := [.inl h, .inr (.ref 5)]) (M1 := M) (ob := [0 < fs_N ∧ fs_kd 0 = 5]) rfl rfl rfl (fs_oc fs_ob0 trivial) rfl rfl (Nat.le_of_ble_eq_true rfl) ⟨Or.inr (Nat.le_of_ble_eq_true rfl), Or.inr fs_ob5⟩ (by decide) ?_
  refine fs_c_isHouse (fun (f1 : 0 ≤ h ∧ h < M 5 1) => ?_) (fun (f2 : ¬ (0 ≤ h ∧ h < M 5 1)) => ?_)
  · refine fs_r_if (a := 1) (L1 := [some (.inr (.ref 0)), some (.inl h), some (.inl o)]) (st1 := []) (M1 := M) (ob := []) rfl rfl trivial (fun h => absurd h (by decide : ¬ ((1 : Int) = 0))) (fun _ => ?_)
    refine fs_r_call (sta := false) (idx := 117) (as := [.inr (.ref 5), .inl o]) (rest := []) (L1 := [some (.inr (.ref 0)), some (.inl h), some (.inl o)]) (st1 := [.inl o, .inr (.ref 5)]) (M1 := M) (ob := [0 < fs_N ∧ fs_kd 0 = 5]) rfl rfl rfl (fs_oc fs_ob0 trivial) rfl rfl (Nat.le_of_ble_eq_true rfl) ⟨Or.inr (Nat.le_of_ble_eq_true rfl), Or.inr fs_ob5⟩ (by decide) ?_
    refine fs_c_isHouse (fun (f3 : 0 ≤ o ∧ o < M 5 1) => ?_) (fun (f4 : ¬ (0 ≤ o ∧ o < M 5 1)) => ?_)
    · refine fs_r_if (a := 1) (L1 := [some (.inr (.ref 0)), some (.inl h), some (.inl o)]) (st1 := []) (M1 := M) (ob := []) rfl rfl trivial (fun _ => ?_) (fun h => absurd (by decide : ¬ (1 : Int) = 0) h)
      have q := vln h o (by omega) (by omega) (by omega) (by omega)
      refine fs_r_call (sta := false) (idx := 163) (as := [.inr (.ref 5), .inl h, .inl o]) (rest := []) (L1 := [some (.inr (.ref 0)), some (.inl h), some (.inl o)]) (st1 := [.inl o, .inl h, .inr (.ref 5)]) (M1 := M) (ob := [0 < fs_N ∧ fs_kd 0 = 5]) rfl rfl rfl (fs_oc fs_ob0 trivial) rfl rfl (Nat.le_of_ble_eq_true rfl) ⟨Or.inr (Nat.le_of_ble_eq_true rfl), Or.inr fs_ob5⟩ (by decide) ?_
      refine fs_c_loanOf (by first | exact Or.inl rfl | exact Or.inr (Or.inl rfl) | assumption) (by omega) (by omega) ?_
      refine fs_r_iret (a := (M 9 ((h * 6) + o))) (L1 := [some (.inr (.ref 0)), some (.inl h), some (.inl o)]) (M1 := M) (ob := []) rfl rfl trivial (Or.inl rfl) ?_
      exact fs_qi (by unfold rq_owes; first | (rw [if_pos (by omega)]; omega) | (rw [if_neg (by omega)])) hq0
    refine fs_r_if (a := 0) (L1 := [some (.inr (.ref 0)), some (.inl h), some (.inl o)]) (st1 := []) (M1 := M) (ob := []) rfl rfl trivial (fun h => absurd h (by decide : ¬ (¬ (0 : Int) = 0))) (fun _ => ?_)
    refine fs_r_iret (a := (-1)) (L1 := [some (.inr (.ref 0)), some (.inl h), some (.inl o)]) (M1 := M) (ob := []) rfl rfl trivial (Or.inl rfl) ?_
    exact fs_qi (by unfold rq_owes; first | (rw [if_pos (by omega)]; omega) | (rw [if_neg (by omega)])) hq0
  refine fs_r_if (a := 0) (L1 := [some (.inr (.ref 0)), some (.inl h), some (.inl o)]) (st1 := []) (M1 := M) (ob := []) rfl rfl trivial (fun _ => ?_) (fun h => absurd (by decide : (0 : Int) = 0) h)
  refine fs_r_iret (a := (-1)) (L1 := [some (.inr (.ref 0)), some (.inl h), some (.inl o)]) (M1 := M) (ob := []) rfl rfl trivial (Or.inl rfl) ?_
  exact fs_qi (by unfold rq_owes; first | (rw [if_pos (by omega)]; omega) | (rw [if_neg (by omega)])) hq0

theorem fs_c_shelf {d : Nat} {M : fs_M} {Q : Option fs_V → fs_M → Prop} {s : Int} {p : Int} {w : Int} {N : Int → Int} (hV : vw 5 M N) (hN : fs_NI N) (hq0 : Q (some (.inl (rq_shelf N s p w))) M) : fs_W (d + 1) 95 0 [some (.inr (.ref 0)), some (.inl s), some (.inl p), some (.inl w)] [] M Q := by
  obtain ⟨v0, v1, vcv, vfc, vhd, vln, vlc, vit⟩ := vw5 hV
  obtain ⟨⟨hA0, hA1⟩, ⟨hH0, hH1⟩, hcv, hfc, hhd, hln, hsh, hit, hst⟩ := id hN
  have vs : 0 ≤ s ∧ s ≤ 2 → M 10 s = N (100 + 13 * s) ∧ N (100 + 13 * s) ≤ 4 := fun z => ⟨vlc s z.1 (by omega), (hsh s z.1 (by omega)).2⟩
  refine fs_r_call (sta := false) (idx := 157) (as := [.inr (.ref 5), .inl s, .inl p]) (rest := []) (L1 := [some (.inr (.ref 0)), some (.inl s), some (.inl p), some (.inl w)]) (st1 := [.inl p, .inl s, .inr (.ref 5)]) (M1 := M) (ob := [0 < fs_N ∧ fs_kd 0 = 5]) rfl rfl rfl (fs_oc fs_ob0 trivial) rfl rfl (Nat.le_of_ble_eq_true rfl) ⟨Or.inr (Nat.le_of_ble_eq_true rfl), Or.inr fs_ob5⟩ (by decide) ?_
  refine fs_c_isPlace (fun (f1 : (0 ≤ s ∧ s ≤ 2) ∧ (0 ≤ p ∧ p < M 10 s)) => ?_) (fun (f2 : ¬ ((0 ≤ s ∧ s ≤ 2) ∧ (0 ≤ p ∧ p < M 10 s))) => ?_)
  · refine fs_r_if (a := 1) (L1 := [some (.inr (.ref 0)), some (.inl s), some (.inl p), some (.inl w)]) (st1 := []) (M1 := M) (ob := []) rfl rfl trivial (fun h => absurd h (by decide : ¬ ((1 : Int) = 0))) (fun _ => ?_)
    refine fs_r_call (sta := true) (idx := 131) (as := [.inl w, .inl 0, .inl 2]) (rest := []) (L1 := [some (.inr (.ref 0)), some (.inl s), some (.inl p), some (.inl w)]) (st1 := [.inl 2, .inl 0, .inl w]) (M1 := M) (ob := []) rfl rfl rfl trivial rfl rfl (Nat.le_of_ble_eq_true rfl) ⟨Or.inr (Nat.le_of_ble_eq_true rfl), trivial⟩ (by decide) ?_
    refine fs_c_isWithin (fun (f3 : 0 ≤ w ∧ w ≤ 2) => ?_) (fun (f4 : ¬ (0 ≤ w ∧ w ≤ 2)) => ?_)
    · refine fs_r_if (a := 1) (L1 := [some (.inr (.ref 0)), some (.inl s), some (.inl p), some (.inl w)]) (st1 := []) (M1 := M) (ob := []) rfl rfl trivial (fun _ => ?_) (fun h => absurd (by decide : ¬ (1 : Int) = 0) h)
      have q := vit s p w (by omega) (by omega) (by omega) (by omega) (by omega) (by omega)
      refine fs_r_call (sta := false) (idx := 239) (as := [.inr (.ref 5), .inl s, .inl p, .inl w]) (rest := []) (L1 := [some (.inr (.ref 0)), some (.inl s), some (.inl p), some (.inl w)]) (st1 := [.inl w, .inl p, .inl s, .inr (.ref 5)]) (M1 := M) (ob := [0 < fs_N ∧ fs_kd 0 = 5]) rfl rfl rfl (fs_oc fs_ob0 trivial) rfl rfl (Nat.le_of_ble_eq_true rfl) ⟨Or.inr (Nat.le_of_ble_eq_true rfl), Or.inr fs_ob5⟩ (by decide) ?_
      refine fs_c_item (by first | exact Or.inl rfl | exact Or.inr (Or.inl rfl) | assumption) (by omega) (by omega) (by omega) ?_
      refine fs_r_iret (a := (M 11 ((((s * 4) + p) * 3) + w))) (L1 := [some (.inr (.ref 0)), some (.inl s), some (.inl p), some (.inl w)]) (M1 := M) (ob := []) rfl rfl trivial (Or.inl rfl) ?_
      exact fs_qi (by unfold rq_shelf; first | (rw [if_pos (by omega)]; omega) | (rw [if_neg (by omega)])) hq0
    refine fs_r_if (a := 0) (L1 := [some (.inr (.ref 0)), some (.inl s), some (.inl p), some (.inl w)]) (st1 := []) (M1 := M) (ob := []) rfl rfl trivial (fun h => absurd h (by decide : ¬ (¬ (0 : Int) = 0))) (fun _ => ?_)
    refine fs_r_iret (a := (-1)) (L1 := [some (.inr (.ref 0)), some (.inl s), some (.inl p), some (.inl w)]) (M1 := M) (ob := []) rfl rfl trivial (Or.inl rfl) ?_
    exact fs_qi (by unfold rq_shelf; first | (rw [if_pos (by omega)]; omega) | (rw [if_neg (by omega)])) hq0
  refine fs_r_if (a := 0) (L1 := [some (.inr (.ref 0)), some (.inl s), some (.inl p), some (.inl w)]) (st1 := []) (M1 := M) (ob := []) rfl rfl trivial (fun _ => ?_) (fun h => absurd (by decide : (0 : Int) = 0) h)
  refine fs_r_iret (a := (-1)) (L1 := [some (.inr (.ref 0)), some (.inl s), some (.inl p), some (.inl w)]) (M1 := M) (ob := []) rfl rfl trivial (Or.inl rfl) ?_
  exact fs_qi (by unfold rq_shelf; first | (rw [if_pos (by omega)]; omega) | (rw [if_neg (by omega)])) hq0

theorem fs_c_ofAsset {d : Nat} {M : fs_M} {Q : Option fs_V → fs_M → Prop} {a : Int} {w : Int} {N : Int → Int} (hV : vw 5 M N) (hN : fs_NI N) (hq0 : Q (some (.inl (rq_ofAsset N a w))) M) : fs_W (d + 2) 94 0 [some (.inr (.ref 0)), some (.inl a), some (.inl w)] [] M Q := by
  obtain ⟨v0, v1, vcv, vfc, vhd, vln, vlc, vit⟩ := vw5 hV
  obtain ⟨⟨hA0, hA1⟩, ⟨hH0, hH1⟩, hcv, hfc, hhd, hln, hsh, hit, hst⟩ := id hN
  refine fs_r_call (sta := false) (idx := 128) (as := [.inr (.ref 5), .inl a]) (rest := []) (L1 := [some (.inr (.ref 0)), some (.inl a), some (.inl w)]) (st1 := [.inl a, .inr (.ref 5)]) (M1 := M) (ob := [0 < fs_N ∧ fs_kd 0 = 5]) rfl rfl rfl (fs_oc fs_ob0 trivial) rfl rfl (Nat.le_of_ble_eq_true rfl) ⟨Or.inr (Nat.le_of_ble_eq_true rfl), Or.inr fs_ob5⟩ (by decide) ?_
  refine fs_c_isAsset (fun (f1 : 0 ≤ a ∧ a < M 5 0) => ?_) (fun (f2 : ¬ (0 ≤ a ∧ a < M 5 0)) => ?_)
  · refine fs_r_if (a := 1) (L1 := [some (.inr (.ref 0)), some (.inl a), some (.inl w)]) (st1 := []) (M1 := M) (ob := []) rfl rfl trivial (fun _ => ?_) (fun h => absurd (by decide : ¬ (1 : Int) = 0) h)
    refine fs_r_sw (a := w) (L1 := [some (.inr (.ref 0)), some (.inl a), some (.inl w)]) (st1 := []) (M1 := M) (ob := []) rfl rfl trivial ?_
    by_cases h3 : w = 0
    · have eh3 : ((14 : Nat) + fs_sw 79 0 4 #[34, 43, 52, 61, 70] w : Int).toNat = 48 := by rw [h3]; decide
      rw [eh3]
      have q := (vcv a (by omega) (by omega)).1
      refine fs_r_call (sta := false) (idx := 206) (as := [.inr (.ref 5), .inl a]) (rest := []) (L1 := [some (.inr (.ref 0)), some (.inl a), some (.inl w)]) (st1 := [.inl a, .inr (.ref 5)]) (M1 := M) (ob := [0 < fs_N ∧ fs_kd 0 = 5]) rfl rfl rfl (fs_oc fs_ob0 trivial) rfl rfl (Nat.le_of_ble_eq_true rfl) ⟨Or.inr (Nat.le_of_ble_eq_true rfl), Or.inr fs_ob5⟩ (by decide) ?_
      refine fs_c_baseOf (by first | exact Or.inl rfl | exact Or.inr (Or.inl rfl) | assumption) (by omega) ?_
      refine fs_r_iret (a := (M 6 ((a * 2) + 0))) (L1 := [some (.inr (.ref 0)), some (.inl a), some (.inl w)]) (M1 := M) (ob := []) rfl rfl trivial (Or.inl rfl) ?_
      exact fs_qi (by unfold rq_ofAsset; first | (rw [if_neg (by omega)]; done) | (rw [if_pos (by omega)]; first | (rw [if_pos (by omega)]; first | done | omega) | (rw [if_neg (by omega), if_pos (by omega)]; first | done | omega) | (rw [if_neg (by omega), if_neg (by omega), if_pos (by omega)]; done) | (rw [if_neg (by omega), if_neg (by omega), if_neg (by omega), if_pos (by omega)]; done) | (rw [if_neg (by omega), if_neg (by omega), if_neg (by omega), if_neg (by omega)]))) hq0
    by_cases h4 : w = 1
    · have eh4 : ((14 : Nat) + fs_sw 79 0 4 #[34, 43, 52, 61, 70] w : Int).toNat = 57 := by rw [h4]; decide
      rw [eh4]
      have q := (vcv a (by omega) (by omega)).2
      refine fs_r_call (sta := false) (idx := 200) (as := [.inr (.ref 5), .inl a]) (rest := []) (L1 := [some (.inr (.ref 0)), some (.inl a), some (.inl w)]) (st1 := [.inl a, .inr (.ref 5)]) (M1 := M) (ob := [0 < fs_N ∧ fs_kd 0 = 5]) rfl rfl rfl (fs_oc fs_ob0 trivial) rfl rfl (Nat.le_of_ble_eq_true rfl) ⟨Or.inr (Nat.le_of_ble_eq_true rfl), Or.inr fs_ob5⟩ (by decide) ?_
      refine fs_c_slopeOf (by first | exact Or.inl rfl | exact Or.inr (Or.inl rfl) | assumption) (by omega) ?_
      refine fs_r_iret (a := (M 6 ((a * 2) + 1))) (L1 := [some (.inr (.ref 0)), some (.inl a), some (.inl w)]) (M1 := M) (ob := []) rfl rfl trivial (Or.inl rfl) ?_
      exact fs_qi (by unfold rq_ofAsset; first | (rw [if_neg (by omega)]; done) | (rw [if_pos (by omega)]; first | (rw [if_pos (by omega)]; first | done | omega) | (rw [if_neg (by omega), if_pos (by omega)]; first | done | omega) | (rw [if_neg (by omega), if_neg (by omega), if_pos (by omega)]; done) | (rw [if_neg (by omega), if_neg (by omega), if_neg (by omega), if_pos (by omega)]; done) | (rw [if_neg (by omega), if_neg (by omega), if_neg (by omega), if_neg (by omega)]))) hq0
    by_cases h5 : w = 2
    · have eh5 : ((14 : Nat) + fs_sw 79 0 4 #[34, 43, 52, 61, 70] w : Int).toNat = 66 := by rw [h5]; decide
      rw [eh5]
      refine fs_r_call (sta := false) (idx := 230) (as := [.inr (.ref 5), .inl a]) (rest := []) (L1 := [some (.inr (.ref 0)), some (.inl a), some (.inl w)]) (st1 := [.inl a, .inr (.ref 5)]) (M1 := M) (ob := [0 < fs_N ∧ fs_kd 0 = 5]) rfl rfl rfl (fs_oc fs_ob0 trivial) rfl rfl (Nat.le_of_ble_eq_true rfl) ⟨Or.inr (Nat.le_of_ble_eq_true rfl), Or.inr fs_ob5⟩ (by decide) ?_
      refine fs_c_heldOf (N := N) (by assumption) (by assumption) (by omega) ?_
      refine fs_r_iret (a := (mm_held N a)) (L1 := [some (.inr (.ref 0)), some (.inl a), some (.inl w)]) (M1 := M) (ob := []) rfl rfl trivial (Or.inl rfl) ?_
      exact fs_qi (by unfold rq_ofAsset; first | (rw [if_neg (by omega)]; done) | (rw [if_pos (by omega)]; first | (rw [if_pos (by omega)]; first | done | omega) | (rw [if_neg (by omega), if_pos (by omega)]; first | done | omega) | (rw [if_neg (by omega), if_neg (by omega), if_pos (by omega)]; done) | (rw [if_neg (by omega), if_neg (by omega), if_neg (by omega), if_pos (by omega)]; done) | (rw [if_neg (by omega), if_neg (by omega), if_neg (by omega), if_neg (by omega)]))) hq0
    by_cases h6 : w = 3
    · have eh6 : ((14 : Nat) + fs_sw 79 0 4 #[34, 43, 52, 61, 70] w : Int).toNat = 75 := by rw [h6]; decide
      rw [eh6]
      refine fs_r_call (sta := false) (idx := 233) (as := [.inr (.ref 5), .inl a]) (rest := []) (L1 := [some (.inr (.ref 0)), some (.inl a), some (.inl w)]) (st1 := [.inl a, .inr (.ref 5)]) (M1 := M) (ob := [0 < fs_N ∧ fs_kd 0 = 5]) rfl rfl rfl (fs_oc fs_ob0 trivial) rfl rfl (Nat.le_of_ble_eq_true rfl) ⟨Or.inr (Nat.le_of_ble_eq_true rfl), Or.inr fs_ob5⟩ (by decide) ?_
      refine fs_c_capOf (N := N) (by assumption) (by assumption) ?_
      refine fs_r_iret (a := (mm_cap N a)) (L1 := [some (.inr (.ref 0)), some (.inl a), some (.inl w)]) (M1 := M) (ob := []) rfl rfl trivial (Or.inl rfl) ?_
      exact fs_qi (by unfold rq_ofAsset; first | (rw [if_neg (by omega)]; done) | (rw [if_pos (by omega)]; first | (rw [if_pos (by omega)]; first | done | omega) | (rw [if_neg (by omega), if_pos (by omega)]; first | done | omega) | (rw [if_neg (by omega), if_neg (by omega), if_pos (by omega)]; done) | (rw [if_neg (by omega), if_neg (by omega), if_neg (by omega), if_pos (by omega)]; done) | (rw [if_neg (by omega), if_neg (by omega), if_neg (by omega), if_neg (by omega)]))) hq0
    by_cases h7 : w = 4
    · have eh7 : ((14 : Nat) + fs_sw 79 0 4 #[34, 43, 52, 61, 70] w : Int).toNat = 84 := by rw [h7]; decide
      rw [eh7]
      refine fs_r_call (sta := false) (idx := 236) (as := [.inr (.ref 5), .inl a]) (rest := []) (L1 := [some (.inr (.ref 0)), some (.inl a), some (.inl w)]) (st1 := [.inl a, .inr (.ref 5)]) (M1 := M) (ob := [0 < fs_N ∧ fs_kd 0 = 5]) rfl rfl rfl (fs_oc fs_ob0 trivial) rfl rfl (Nat.le_of_ble_eq_true rfl) ⟨Or.inr (Nat.le_of_ble_eq_true rfl), Or.inr fs_ob5⟩ (by decide) ?_
      refine fs_c_shocksOf (N := N) (by assumption) (by assumption) ?_
      refine fs_r_iret (a := (mm_shock N a)) (L1 := [some (.inr (.ref 0)), some (.inl a), some (.inl w)]) (M1 := M) (ob := []) rfl rfl trivial (Or.inl rfl) ?_
      exact fs_qi (by unfold rq_ofAsset; first | (rw [if_neg (by omega)]; done) | (rw [if_pos (by omega)]; first | (rw [if_pos (by omega)]; first | done | omega) | (rw [if_neg (by omega), if_pos (by omega)]; first | done | omega) | (rw [if_neg (by omega), if_neg (by omega), if_pos (by omega)]; done) | (rw [if_neg (by omega), if_neg (by omega), if_neg (by omega), if_pos (by omega)]; done) | (rw [if_neg (by omega), if_neg (by omega), if_neg (by omega), if_neg (by omega)]))) hq0
    have h8 : ((14 : Nat) + fs_sw 79 0 4 #[34, 43, 52, 61, 70] w : Int).toNat = 93 := by unfold fs_sw; rw [if_pos (by omega)]; rfl
    rw [h8]
    refine fs_r_iret (a := (-1)) (L1 := [some (.inr (.ref 0)), some (.inl a), some (.inl w)]) (M1 := M) (ob := []) rfl rfl trivial (Or.inl rfl) ?_
    exact fs_qi (by unfold rq_ofAsset; first | (rw [if_neg (by omega)]; done) | (rw [if_pos (by omega)]; first | (rw [if_pos (by omega)]; first | done | omega) | (rw [if_neg (by omega), if_pos (by omega)]; first | done | omega) | (rw [if_neg (by omega), if_neg (by omega), if_pos (by omega)]; done) | (rw [if_neg (by omega), if_neg (by omega), if_neg (by omega), if_pos (by omega)]; done) | (rw [if_neg (by omega), if_neg (by omega), if_neg (by omega), if_neg (by omega)]))) hq0
  refine fs_r_if (a := 0) (L1 := [some (.inr (.ref 0)), some (.inl a), some (.inl w)]) (st1 := []) (M1 := M) (ob := []) rfl rfl trivial (fun h => absurd h (by decide : ¬ (¬ (0 : Int) = 0))) (fun _ => ?_)
  refine fs_r_iret (a := (-1)) (L1 := [some (.inr (.ref 0)), some (.inl a), some (.inl w)]) (M1 := M) (ob := []) rfl rfl trivial (Or.inl rfl) ?_
  exact fs_qi (by unfold rq_ofAsset; first | (rw [if_neg (by omega)]; done) | (rw [if_pos (by omega)]; first | (rw [if_pos (by omega)]; first | done | omega) | (rw [if_neg (by omega), if_pos (by omega)]; first | done | omega) | (rw [if_neg (by omega), if_neg (by omega), if_pos (by omega)]; done) | (rw [if_neg (by omega), if_neg (by omega), if_neg (by omega), if_pos (by omega)]; done) | (rw [if_neg (by omega), if_neg (by omega), if_neg (by omega), if_neg (by omega)]))) hq0

theorem fs_c_of {d : Nat} {M : fs_M} {Q : Option fs_V → fs_M → Prop} {h : Int} {w : Int} {N : Int → Int} (hV : vw 5 M N) (hN : fs_NI N) (hq0 : Q (some (.inl (rq_of N h w))) M) : fs_W (d + 2) 91 0 [some (.inr (.ref 0)), some (.inl h), some (.inl w)] [] M Q := by
  obtain ⟨v0, v1, vcv, vfc, vhd, vln, vlc, vit⟩ := vw5 hV
  obtain ⟨⟨hA0, hA1⟩, ⟨hH0, hH1⟩, hcv, hfc, hhd, hln, hsh, hit, hst⟩ := id hN
  refine fs_r_call (sta := false) (idx := 117) (as := [.inr (.ref 5), .inl h]) (rest := []) (L1 := [some (.inr (.ref 0)), some (.inl h), some (.inl w)]) (st1 := [.inl h, .inr (.ref 5)]) (M1 := M) (ob := [0 < fs_N ∧ fs_kd 0 = 5]) rfl rfl rfl (fs_oc fs_ob0 trivial) rfl rfl (Nat.le_of_ble_eq_true rfl) ⟨Or.inr (Nat.le_of_ble_eq_true rfl), Or.inr fs_ob5⟩ (by decide) ?_
  refine fs_c_isHouse (fun (f1 : 0 ≤ h ∧ h < M 5 1) => ?_) (fun (f2 : ¬ (0 ≤ h ∧ h < M 5 1)) => ?_)
  · refine fs_r_if (a := 1) (L1 := [some (.inr (.ref 0)), some (.inl h), some (.inl w)]) (st1 := []) (M1 := M) (ob := []) rfl rfl trivial (fun h => absurd h (by decide : ¬ ((1 : Int) = 0))) (fun _ => ?_)
    refine fs_r_call (sta := true) (idx := 131) (as := [.inl w, .inl 0, .inl 7]) (rest := []) (L1 := [some (.inr (.ref 0)), some (.inl h), some (.inl w)]) (st1 := [.inl 7, .inl 0, .inl w]) (M1 := M) (ob := []) rfl rfl rfl trivial rfl rfl (Nat.le_of_ble_eq_true rfl) ⟨Or.inr (Nat.le_of_ble_eq_true rfl), trivial⟩ (by decide) ?_
    refine fs_c_isWithin (fun (f3 : 0 ≤ w ∧ w ≤ 7) => ?_) (fun (f4 : ¬ (0 ≤ w ∧ w ≤ 7)) => ?_)
    · refine fs_r_if (a := 1) (L1 := [some (.inr (.ref 0)), some (.inl h), some (.inl w)]) (st1 := []) (M1 := M) (ob := []) rfl rfl trivial (fun _ => ?_) (fun h => absurd (by decide : ¬ (1 : Int) = 0) h)
      refine fs_r_sw (a := w) (L1 := [some (.inr (.ref 0)), some (.inl h), some (.inl w)]) (st1 := []) (M1 := M) (ob := []) rfl rfl trivial ?_
      by_cases h5 : w = 5
      · have eh5 : ((24 : Nat) + fs_sw 55 5 7 #[28, 37, 46] w : Int).toNat = 52 := by rw [h5]; decide
        rw [eh5]
        refine fs_r_call (sta := false) (idx := 215) (as := [.inr (.ref 5), .inl h]) (rest := []) (L1 := [some (.inr (.ref 0)), some (.inl h), some (.inl w)]) (st1 := [.inl h, .inr (.ref 5)]) (M1 := M) (ob := [0 < fs_N ∧ fs_kd 0 = 5]) rfl rfl rfl (fs_oc fs_ob0 trivial) rfl rfl (Nat.le_of_ble_eq_true rfl) ⟨Or.inr (Nat.le_of_ble_eq_true rfl), Or.inr fs_ob5⟩ (by decide) ?_
        refine fs_c_piecesOf (N := N) (by assumption) (by assumption) (by omega) ?_
        refine fs_r_iret (a := (mm_pieces N h)) (L1 := [some (.inr (.ref 0)), some (.inl h), some (.inl w)]) (M1 := M) (ob := []) rfl rfl trivial (Or.inl rfl) ?_
        exact fs_qi (by unfold rq_of; first | (rw [if_neg (by omega)]; done) | (rw [if_pos (by omega)]; first | (rw [if_pos (by omega)]; omega) | (rw [if_neg (by omega), if_pos (by omega)]; done) | (rw [if_neg (by omega), if_neg (by omega), if_pos (by omega)]; done) | (rw [if_neg (by omega), if_neg (by omega), if_neg (by omega)]; done))) hq0
      by_cases h6 : w = 6
      · have eh6 : ((24 : Nat) + fs_sw 55 5 7 #[28, 37, 46] w : Int).toNat = 61 := by rw [h6]; decide
        rw [eh6]
        refine fs_r_call (sta := false) (idx := 218) (as := [.inr (.ref 5), .inl h]) (rest := []) (L1 := [some (.inr (.ref 0)), some (.inl h), some (.inl w)]) (st1 := [.inl h, .inr (.ref 5)]) (M1 := M) (ob := [0 < fs_N ∧ fs_kd 0 = 5]) rfl rfl rfl (fs_oc fs_ob0 trivial) rfl rfl (Nat.le_of_ble_eq_true rfl) ⟨Or.inr (Nat.le_of_ble_eq_true rfl), Or.inr fs_ob5⟩ (by decide) ?_
        refine fs_c_owedBy (N := N) (by assumption) (by assumption) (by omega) ?_
        refine fs_r_iret (a := (mm_from N h)) (L1 := [some (.inr (.ref 0)), some (.inl h), some (.inl w)]) (M1 := M) (ob := []) rfl rfl trivial (Or.inl rfl) ?_
        exact fs_qi (by unfold rq_of; first | (rw [if_neg (by omega)]; done) | (rw [if_pos (by omega)]; first | (rw [if_pos (by omega)]; omega) | (rw [if_neg (by omega), if_pos (by omega)]; done) | (rw [if_neg (by omega), if_neg (by omega), if_pos (by omega)]; done) | (rw [if_neg (by omega), if_neg (by omega), if_neg (by omega)]; done))) hq0
      by_cases h7 : w = 7
      · have eh7 : ((24 : Nat) + fs_sw 55 5 7 #[28, 37, 46] w : Int).toNat = 70 := by rw [h7]; decide
        rw [eh7]
        refine fs_r_call (sta := false) (idx := 221) (as := [.inr (.ref 5), .inl h]) (rest := []) (L1 := [some (.inr (.ref 0)), some (.inl h), some (.inl w)]) (st1 := [.inl h, .inr (.ref 5)]) (M1 := M) (ob := [0 < fs_N ∧ fs_kd 0 = 5]) rfl rfl rfl (fs_oc fs_ob0 trivial) rfl rfl (Nat.le_of_ble_eq_true rfl) ⟨Or.inr (Nat.le_of_ble_eq_true rfl), Or.inr fs_ob5⟩ (by decide) ?_
        refine fs_c_owedTo (N := N) (by assumption) (by assumption) (by omega) ?_
        refine fs_r_iret (a := (mm_into N h)) (L1 := [some (.inr (.ref 0)), some (.inl h), some (.inl w)]) (M1 := M) (ob := []) rfl rfl trivial (Or.inl rfl) ?_
        exact fs_qi (by unfold rq_of; first | (rw [if_neg (by omega)]; done) | (rw [if_pos (by omega)]; first | (rw [if_pos (by omega)]; omega) | (rw [if_neg (by omega), if_pos (by omega)]; done) | (rw [if_neg (by omega), if_neg (by omega), if_pos (by omega)]; done) | (rw [if_neg (by omega), if_neg (by omega), if_neg (by omega)]; done))) hq0
      have h8 : ((24 : Nat) + fs_sw 55 5 7 #[28, 37, 46] w : Int).toNat = 79 := by unfold fs_sw; rw [if_pos (by omega)]; rfl
      rw [h8]
      have q := vfc h w (by omega) (by omega) (by omega) (by omega) (Or.inl (by omega))
      refine fs_r_call (sta := false) (idx := 224) (as := [.inr (.ref 5), .inl h, .inl w]) (rest := []) (L1 := [some (.inr (.ref 0)), some (.inl h), some (.inl w)]) (st1 := [.inl w, .inl h, .inr (.ref 5)]) (M1 := M) (ob := [0 < fs_N ∧ fs_kd 0 = 5]) rfl rfl rfl (fs_oc fs_ob0 trivial) rfl rfl (Nat.le_of_ble_eq_true rfl) ⟨Or.inr (Nat.le_of_ble_eq_true rfl), Or.inr fs_ob5⟩ (by decide) ?_
      refine fs_c_fact (by first | exact Or.inl rfl | exact Or.inr (Or.inl rfl) | assumption) (by omega) (by omega) ?_
      refine fs_r_iret (a := (M 7 ((h * 5) + w))) (L1 := [some (.inr (.ref 0)), some (.inl h), some (.inl w)]) (M1 := M) (ob := []) rfl rfl trivial (Or.inl rfl) ?_
      exact fs_qi (by unfold rq_of; first | (rw [if_neg (by omega)]; done) | (rw [if_pos (by omega)]; first | (rw [if_pos (by omega)]; omega) | (rw [if_neg (by omega), if_pos (by omega)]; done) | (rw [if_neg (by omega), if_neg (by omega), if_pos (by omega)]; done) | (rw [if_neg (by omega), if_neg (by omega), if_neg (by omega)]; done))) hq0
    refine fs_r_if (a := 0) (L1 := [some (.inr (.ref 0)), some (.inl h), some (.inl w)]) (st1 := []) (M1 := M) (ob := []) rfl rfl trivial (fun h => absurd h (by decide : ¬ (¬ (0 : Int) = 0))) (fun _ => ?_)
    refine fs_r_iret (a := (-1)) (L1 := [some (.inr (.ref 0)), some (.inl h), some (.inl w)]) (M1 := M) (ob := []) rfl rfl trivial (Or.inl rfl) ?_
    exact fs_qi (by unfold rq_of; first | (rw [if_neg (by omega)]; done) | (rw [if_pos (by omega)]; first | (rw [if_pos (by omega)]; omega) | (rw [if_neg (by omega), if_pos (by omega)]; done) | (rw [if_neg (by omega), if_neg (by omega), if_pos (by omega)]; done) | (rw [if_neg (by omega), if_neg (by omega), if_neg (by omega)]; done))) hq0
  refine fs_r_if (a := 0) (L1 := [some (.inr (.ref 0)), some (.inl h), some (.inl w)]) (st1 := []) (M1 := M) (ob := []) rfl rfl trivial (fun _ => ?_) (fun h => absurd (by decide : (0 : Int) = 0) h)
  refine fs_r_iret (a := (-1)) (L1 := [some (.inr (.ref 0)), some (.inl h), some (.inl w)]) (M1 := M) (ob := []) rfl rfl trivial (Or.inl rfl) ?_
  exact fs_qi (by unfold rq_of; first | (rw [if_neg (by omega)]; done) | (rw [if_pos (by omega)]; first | (rw [if_pos (by omega)]; omega) | (rw [if_neg (by omega), if_pos (by omega)]; done) | (rw [if_neg (by omega), if_neg (by omega), if_pos (by omega)]; done) | (rw [if_neg (by omega), if_neg (by omega), if_neg (by omega)]; done))) hq0
