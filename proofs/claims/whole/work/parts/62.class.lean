theorem fs_c_rescue {d : Nat} {M : fs_M} {Q : Option fs_V → fs_M → Prop} {h : Int} {c : Int} {x : Int} {N : Int → Int} (hV : vw 5 M N) (hN : fs_NI N) (hq0 : ∀ (M2 : fs_M), (cq M M2) → Q (some (.inl (rq_rescue N h c x))) M2) : fs_W (d + 6) 113 0 [some (.inr (.ref 0)), some (.inl h), some (.inl c), some (.inl x)] [] M Q := by
  obtain ⟨v0, v1, vcv, vfc, vhd, vln, vlc, vit⟩ := vw5 hV
  obtain ⟨⟨hA0, hA1⟩, ⟨hH0, hH1⟩, hcv, hfc, hhd, hln, hsh, hit, hst⟩ := id hN
  refine fs_r_call (sta := false) (idx := 117) (as := [.inr (.ref 5), .inl h]) (rest := []) (L1 := [some (.inr (.ref 0)), some (.inl h), some (.inl c), some (.inl x)]) (st1 := [.inl h, .inr (.ref 5)]) (M1 := M) (ob := [0 < fs_N ∧ fs_kd 0 = 5]) rfl rfl rfl (fs_oc fs_ob0 trivial) rfl rfl (Nat.le_of_ble_eq_true rfl) ⟨Or.inr (Nat.le_of_ble_eq_true rfl), Or.inr fs_ob5⟩ (by decide) ?_
  refine fs_c_isHouse (fun (f1 : 0 ≤ h ∧ h < M 5 1) => ?_) (fun (f2 : ¬ (0 ≤ h ∧ h < M 5 1)) => ?_)
  · refine fs_r_if (a := 1) (L1 := [some (.inr (.ref 0)), some (.inl h), some (.inl c), some (.inl x)]) (st1 := []) (M1 := M) (ob := []) rfl rfl trivial (fun h => absurd h (by decide : ¬ ((1 : Int) = 0))) (fun _ => ?_)
    refine fs_r_call (sta := true) (idx := 131) (as := [.inl c, .inl 0, .inl 9999]) (rest := []) (L1 := [some (.inr (.ref 0)), some (.inl h), some (.inl c), some (.inl x)]) (st1 := [.inl 9999, .inl 0, .inl c]) (M1 := M) (ob := []) rfl rfl rfl trivial rfl rfl (Nat.le_of_ble_eq_true rfl) ⟨Or.inr (Nat.le_of_ble_eq_true rfl), trivial⟩ (by decide) ?_
    refine fs_c_isWithin (fun (f3 : 0 ≤ c ∧ c ≤ 9999) => ?_) (fun (f4 : ¬ (0 ≤ c ∧ c ≤ 9999)) => ?_)
    · refine fs_r_if (a := 1) (L1 := [some (.inr (.ref 0)), some (.inl h), some (.inl c), some (.inl x)]) (st1 := []) (M1 := M) (ob := []) rfl rfl trivial (fun h => absurd h (by decide : ¬ ((1 : Int) = 0))) (fun _ => ?_)
      refine fs_r_call (sta := false) (idx := 246) (as := [.inr (.ref 0), .inl x]) (rest := []) (L1 := [some (.inr (.ref 0)), some (.inl h), some (.inl c), some (.inl x)]) (st1 := [.inl x, .inr (.ref 0)]) (M1 := M) (ob := []) rfl rfl rfl trivial rfl rfl (Nat.le_of_ble_eq_true rfl) ⟨Or.inr (Nat.le_of_ble_eq_true rfl), Or.inr fs_ob0⟩ (by decide) ?_
      refine fs_c_isTold (fun (f5 : (0 ≤ x ∧ x < M 5 0) ∨ (4 ≤ x ∧ x ≤ 7)) => ?_) (fun (f6 : ¬ ((0 ≤ x ∧ x < M 5 0) ∨ (4 ≤ x ∧ x ≤ 7))) => ?_)
      · refine fs_r_if (a := 1) (L1 := [some (.inr (.ref 0)), some (.inl h), some (.inl c), some (.inl x)]) (st1 := []) (M1 := M) (ob := []) rfl rfl trivial (fun _ => ?_) (fun h => absurd (by decide : ¬ (1 : Int) = 0) h)
        refine fs_r_call (sta := false) (idx := 319) (as := [.inr (.ref 0), .inl 0, .inl h, .inl c, .inl x]) (rest := []) (L1 := [some (.inr (.ref 0)), some (.inl h), some (.inl c), some (.inl x)]) (st1 := [.inl x, .inl c, .inl h, .inl 0, .inr (.ref 0)]) (M1 := M) (ob := []) rfl rfl rfl trivial rfl rfl (Nat.le_of_ble_eq_true rfl) ⟨Or.inr (Nat.le_of_ble_eq_true rfl), Or.inr fs_ob0⟩ (by decide) ?_
        refine fs_c_tellLeast (N := N) (by assumption) (by assumption) (by unfold wk; omega) (by omega) (fun (V : fs_M) (q1 : cq M V) => ?_)
        refine fs_r_iret (a := (ec_tell (wf N 0 h c) (ec_lst (wf N 0 h c)) x)) (L1 := [some (.inr (.ref 0)), some (.inl h), some (.inl c), some (.inl x)]) (M1 := V) (ob := []) rfl rfl trivial (Or.inl rfl) ?_
        exact fs_qi (by unfold rq_rescue; rw [if_pos (by omega)]; rfl) (hq0 _ q1)
      refine fs_r_if (a := 0) (L1 := [some (.inr (.ref 0)), some (.inl h), some (.inl c), some (.inl x)]) (st1 := []) (M1 := M) (ob := []) rfl rfl trivial (fun h => absurd h (by decide : ¬ (¬ (0 : Int) = 0))) (fun _ => ?_)
      refine fs_r_iret (a := (-1)) (L1 := [some (.inr (.ref 0)), some (.inl h), some (.inl c), some (.inl x)]) (M1 := M) (ob := []) rfl rfl trivial (Or.inl rfl) ?_
      exact fs_qi (by unfold rq_rescue; rw [if_neg (by omega)]) (hq0 _ cq.rf)
    refine fs_r_if (a := 0) (L1 := [some (.inr (.ref 0)), some (.inl h), some (.inl c), some (.inl x)]) (st1 := []) (M1 := M) (ob := []) rfl rfl trivial (fun _ => ?_) (fun h => absurd (by decide : (0 : Int) = 0) h)
    refine fs_r_iret (a := (-1)) (L1 := [some (.inr (.ref 0)), some (.inl h), some (.inl c), some (.inl x)]) (M1 := M) (ob := []) rfl rfl trivial (Or.inl rfl) ?_
    exact fs_qi (by unfold rq_rescue; rw [if_neg (by omega)]) (hq0 _ cq.rf)
  refine fs_r_if (a := 0) (L1 := [some (.inr (.ref 0)), some (.inl h), some (.inl c), some (.inl x)]) (st1 := []) (M1 := M) (ob := []) rfl rfl trivial (fun _ => ?_) (fun h => absurd (by decide : (0 : Int) = 0) h)
  refine fs_r_iret (a := (-1)) (L1 := [some (.inr (.ref 0)), some (.inl h), some (.inl c), some (.inl x)]) (M1 := M) (ob := []) rfl rfl trivial (Or.inl rfl) ?_
  exact fs_qi (by unfold rq_rescue; rw [if_neg (by omega)]) (hq0 _ cq.rf)

theorem fs_c_stress {d : Nat} {M : fs_M} {Q : Option fs_V → fs_M → Prop} {p : Int} {x : Int} {N : Int → Int} (hV : vw 5 M N) (hN : fs_NI N) (hq0 : ∀ (M2 : fs_M), (cq M M2) → Q (some (.inl (rq_stress N p x))) M2) : fs_W (d + 6) 125 0 [some (.inr (.ref 0)), some (.inl p), some (.inl x)] [] M Q := by
  obtain ⟨v0, v1, vcv, vfc, vhd, vln, vlc, vit⟩ := vw5 hV
  obtain ⟨⟨hA0, hA1⟩, ⟨hH0, hH1⟩, hcv, hfc, hhd, hln, hsh, hit, hst⟩ := id hN
  refine fs_r_call (sta := true) (idx := 131) (as := [.inl p, .inl 0, .inl 100]) (rest := []) (L1 := [some (.inr (.ref 0)), some (.inl p), some (.inl x)]) (st1 := [.inl 100, .inl 0, .inl p]) (M1 := M) (ob := []) rfl rfl rfl trivial rfl rfl (Nat.le_of_ble_eq_true rfl) ⟨Or.inr (Nat.le_of_ble_eq_true rfl), trivial⟩ (by decide) ?_
  refine fs_c_isWithin (fun (f1 : 0 ≤ p ∧ p ≤ 100) => ?_) (fun (f2 : ¬ (0 ≤ p ∧ p ≤ 100)) => ?_)
  · refine fs_r_if (a := 1) (L1 := [some (.inr (.ref 0)), some (.inl p), some (.inl x)]) (st1 := []) (M1 := M) (ob := []) rfl rfl trivial (fun h => absurd h (by decide : ¬ ((1 : Int) = 0))) (fun _ => ?_)
    refine fs_r_call (sta := false) (idx := 246) (as := [.inr (.ref 0), .inl x]) (rest := []) (L1 := [some (.inr (.ref 0)), some (.inl p), some (.inl x)]) (st1 := [.inl x, .inr (.ref 0)]) (M1 := M) (ob := []) rfl rfl rfl trivial rfl rfl (Nat.le_of_ble_eq_true rfl) ⟨Or.inr (Nat.le_of_ble_eq_true rfl), Or.inr fs_ob0⟩ (by decide) ?_
    refine fs_c_isTold (fun (f3 : (0 ≤ x ∧ x < M 5 0) ∨ (4 ≤ x ∧ x ≤ 7)) => ?_) (fun (f4 : ¬ ((0 ≤ x ∧ x < M 5 0) ∨ (4 ≤ x ∧ x ≤ 7))) => ?_)
    · refine fs_r_if (a := 1) (L1 := [some (.inr (.ref 0)), some (.inl p), some (.inl x)]) (st1 := []) (M1 := M) (ob := []) rfl rfl trivial (fun _ => ?_) (fun h => absurd (by decide : ¬ (1 : Int) = 0) h)
      refine fs_r_call (sta := false) (idx := 319) (as := [.inr (.ref 0), .inl 4, .inl 0, .inl p, .inl x]) (rest := []) (L1 := [some (.inr (.ref 0)), some (.inl p), some (.inl x)]) (st1 := [.inl x, .inl p, .inl 0, .inl 4, .inr (.ref 0)]) (M1 := M) (ob := []) rfl rfl rfl trivial rfl rfl (Nat.le_of_ble_eq_true rfl) ⟨Or.inr (Nat.le_of_ble_eq_true rfl), Or.inr fs_ob0⟩ (by decide) ?_
      refine fs_c_tellLeast (N := N) (by assumption) (by assumption) (by unfold wk; omega) (by omega) (fun (V : fs_M) (q1 : cq M V) => ?_)
      refine fs_r_iret (a := (ec_tell (wf N 4 0 p) (ec_lst (wf N 4 0 p)) x)) (L1 := [some (.inr (.ref 0)), some (.inl p), some (.inl x)]) (M1 := V) (ob := []) rfl rfl trivial (Or.inl rfl) ?_
      exact fs_qi (by unfold rq_stress; rw [if_pos (by omega)]; rfl) (hq0 _ q1)
    refine fs_r_if (a := 0) (L1 := [some (.inr (.ref 0)), some (.inl p), some (.inl x)]) (st1 := []) (M1 := M) (ob := []) rfl rfl trivial (fun h => absurd h (by decide : ¬ (¬ (0 : Int) = 0))) (fun _ => ?_)
    refine fs_r_iret (a := (-1)) (L1 := [some (.inr (.ref 0)), some (.inl p), some (.inl x)]) (M1 := M) (ob := []) rfl rfl trivial (Or.inl rfl) ?_
    exact fs_qi (by unfold rq_stress; rw [if_neg (by omega)]) (hq0 _ cq.rf)
  refine fs_r_if (a := 0) (L1 := [some (.inr (.ref 0)), some (.inl p), some (.inl x)]) (st1 := []) (M1 := M) (ob := []) rfl rfl trivial (fun _ => ?_) (fun h => absurd (by decide : (0 : Int) = 0) h)
  refine fs_r_iret (a := (-1)) (L1 := [some (.inr (.ref 0)), some (.inl p), some (.inl x)]) (M1 := M) (ob := []) rfl rfl trivial (Or.inl rfl) ?_
  exact fs_qi (by unfold rq_stress; rw [if_neg (by omega)]) (hq0 _ cq.rf)

theorem fs_c_coinsFor {d : Nat} {M : fs_M} {Q : Option fs_V → fs_M → Prop} {h : Int} {N : Int → Int} (hV : vw 5 M N) (hN : fs_NI N) (hq0 : ∀ (M2 : fs_M), (cq M M2) → Q (some (.inl (rq_coinsFor N h))) M2) : fs_W (d + 7) 115 0 [some (.inr (.ref 0)), some (.inl h)] [] M Q := by
  obtain ⟨v0, v1, vcv, vfc, vhd, vln, vlc, vit⟩ := vw5 hV
  obtain ⟨⟨hA0, hA1⟩, ⟨hH0, hH1⟩, hcv, hfc, hhd, hln, hsh, hit, hst⟩ := id hN
  refine fs_r_call (sta := false) (idx := 117) (as := [.inr (.ref 5), .inl h]) (rest := []) (L1 := [some (.inr (.ref 0)), some (.inl h)]) (st1 := [.inl h, .inr (.ref 5)]) (M1 := M) (ob := [0 < fs_N ∧ fs_kd 0 = 5]) rfl rfl rfl (fs_oc fs_ob0 trivial) rfl rfl (Nat.le_of_ble_eq_true rfl) ⟨Or.inr (Nat.le_of_ble_eq_true rfl), Or.inr fs_ob5⟩ (by decide) ?_
  refine fs_c_isHouse (fun (f1 : 0 ≤ h ∧ h < M 5 1) => ?_) (fun (f2 : ¬ (0 ≤ h ∧ h < M 5 1)) => ?_)
  · refine fs_r_if (a := 1) (L1 := [some (.inr (.ref 0)), some (.inl h)]) (st1 := []) (M1 := M) (ob := []) rfl rfl trivial (fun h => absurd h (by decide : ¬ ((1 : Int) = 0))) (fun _ => ?_)
    refine fs_r_call (sta := false) (idx := 331) (as := [.inr (.ref 0), .inl 0, .inl h, .inl 9999]) (rest := []) (L1 := [some (.inr (.ref 0)), some (.inl h)]) (st1 := [.inl 9999, .inl h, .inl 0, .inr (.ref 0)]) (M1 := M) (ob := []) rfl rfl rfl trivial rfl rfl (Nat.le_of_ble_eq_true rfl) ⟨Or.inr (Nat.le_of_ble_eq_true rfl), Or.inr fs_ob0⟩ (by decide) ?_
    refine fs_c_fewestThatHolds (N := N) (by assumption) (by assumption) (by omega) (fun v _ _ => by unfold wk; omega) (fun (V : fs_M) (q1 : cq M V) => ?_)
    refine fs_r_goto (L1 := [some (.inr (.ref 0)), some (.inl h)]) (st1 := [.inl (@ite _ (ec_safe (wf N 0 h 9999)) (Classical.propDecidable _) (fs_bsL (fun v => ec_safe (wf N 0 h v)) (Int.toNat 9999) 0 9999) (-2))]) (M1 := V) (ob := []) rfl rfl trivial ?_
    refine fs_r_iret (a := (@ite _ (ec_safe (wf N 0 h 9999)) (Classical.propDecidable _) (fs_bsL (fun v => ec_safe (wf N 0 h v)) (Int.toNat 9999) 0 9999) (-2))) (L1 := [some (.inr (.ref 0)), some (.inl h)]) (M1 := V) (ob := []) rfl rfl trivial (Or.inl rfl) ?_
    first
      | exact fs_qi (by unfold rq_coinsFor; rw [if_neg (by omega)]) (hq0 _ cq.rf)
      | exact fs_qi (by unfold rq_coinsFor; rw [if_pos (show 0 ≤ h ∧ h < N 1 by omega)]; rfl) (hq0 _ q1)
  refine fs_r_if (a := 0) (L1 := [some (.inr (.ref 0)), some (.inl h)]) (st1 := []) (M1 := M) (ob := []) rfl rfl trivial (fun _ => ?_) (fun h => absurd (by decide : (0 : Int) = 0) h)
  refine fs_r_nop (L1 := [some (.inr (.ref 0)), some (.inl h)]) (st1 := [.inl (-1)]) (M1 := M) (ob := []) rfl rfl trivial ?_
  refine fs_r_iret (a := (-1)) (L1 := [some (.inr (.ref 0)), some (.inl h)]) (M1 := M) (ob := []) rfl rfl trivial (Or.inl rfl) ?_
  first
    | exact fs_qi (by unfold rq_coinsFor; rw [if_neg (by omega)]) (hq0 _ cq.rf)
    | exact fs_qi (by unfold rq_coinsFor; rw [if_pos (show 0 ≤ h ∧ h < N 1 by omega)]; rfl) (hq0 _ q1)

theorem fs_c_capFor {d : Nat} {M : fs_M} {Q : Option fs_V → fs_M → Prop} {a : Int} {N : Int → Int} (hV : vw 5 M N) (hN : fs_NI N) (hq0 : ∀ (M2 : fs_M), (cq M M2) → Q (some (.inl (rq_capFor N a))) M2) : fs_W (d + 7) 119 0 [some (.inr (.ref 0)), some (.inl a)] [] M Q := by
  obtain ⟨v0, v1, vcv, vfc, vhd, vln, vlc, vit⟩ := vw5 hV
  obtain ⟨⟨hA0, hA1⟩, ⟨hH0, hH1⟩, hcv, hfc, hhd, hln, hsh, hit, hst⟩ := id hN
  refine fs_r_call (sta := false) (idx := 128) (as := [.inr (.ref 5), .inl a]) (rest := []) (L1 := [some (.inr (.ref 0)), some (.inl a)]) (st1 := [.inl a, .inr (.ref 5)]) (M1 := M) (ob := [0 < fs_N ∧ fs_kd 0 = 5]) rfl rfl rfl (fs_oc fs_ob0 trivial) rfl rfl (Nat.le_of_ble_eq_true rfl) ⟨Or.inr (Nat.le_of_ble_eq_true rfl), Or.inr fs_ob5⟩ (by decide) ?_
  refine fs_c_isAsset (fun (f1 : 0 ≤ a ∧ a < M 5 0) => ?_) (fun (f2 : ¬ (0 ≤ a ∧ a < M 5 0)) => ?_)
  · refine fs_r_if (a := 1) (L1 := [some (.inr (.ref 0)), some (.inl a)]) (st1 := []) (M1 := M) (ob := []) rfl rfl trivial (fun h => absurd h (by decide : ¬ ((1 : Int) = 0))) (fun _ => ?_)
    refine fs_r_call (sta := false) (idx := 350) (as := [.inr (.ref 0), .inl 2, .inl a, .inl 360]) (rest := []) (L1 := [some (.inr (.ref 0)), some (.inl a)]) (st1 := [.inl 360, .inl a, .inl 2, .inr (.ref 0)]) (M1 := M) (ob := []) rfl rfl rfl trivial rfl rfl (Nat.le_of_ble_eq_true rfl) ⟨Or.inr (Nat.le_of_ble_eq_true rfl), Or.inr fs_ob0⟩ (by decide) ?_
    refine fs_c_mostThatHolds (N := N) (by assumption) (by assumption) (by omega) (fun v _ _ => by unfold wk; omega) (fun (V : fs_M) (q1 : cq M V) => ?_)
    refine fs_r_goto (L1 := [some (.inr (.ref 0)), some (.inl a)]) (st1 := [.inl (@ite _ (ec_safe (wf N 2 a 0)) (Classical.propDecidable _) (fs_bsM (fun v => ec_safe (wf N 2 a v)) (Int.toNat 360) 0 360) (-2))]) (M1 := V) (ob := []) rfl rfl trivial ?_
    refine fs_r_iret (a := (@ite _ (ec_safe (wf N 2 a 0)) (Classical.propDecidable _) (fs_bsM (fun v => ec_safe (wf N 2 a v)) (Int.toNat 360) 0 360) (-2))) (L1 := [some (.inr (.ref 0)), some (.inl a)]) (M1 := V) (ob := []) rfl rfl trivial (Or.inl rfl) ?_
    first
      | exact fs_qi (by unfold rq_capFor; rw [if_neg (by omega)]) (hq0 _ cq.rf)
      | exact fs_qi (by unfold rq_capFor rq_great; rw [if_pos (show 0 ≤ a ∧ a < N 0 by omega)]; rfl) (hq0 _ q1)
  refine fs_r_if (a := 0) (L1 := [some (.inr (.ref 0)), some (.inl a)]) (st1 := []) (M1 := M) (ob := []) rfl rfl trivial (fun _ => ?_) (fun h => absurd (by decide : (0 : Int) = 0) h)
  refine fs_r_nop (L1 := [some (.inr (.ref 0)), some (.inl a)]) (st1 := [.inl (-1)]) (M1 := M) (ob := []) rfl rfl trivial ?_
  refine fs_r_iret (a := (-1)) (L1 := [some (.inr (.ref 0)), some (.inl a)]) (M1 := M) (ob := []) rfl rfl trivial (Or.inl rfl) ?_
  first
    | exact fs_qi (by unfold rq_capFor; rw [if_neg (by omega)]) (hq0 _ cq.rf)
    | exact fs_qi (by unfold rq_capFor rq_great; rw [if_pos (show 0 ≤ a ∧ a < N 0 by omega)]; rfl) (hq0 _ q1)

theorem fs_c_shockFor {d : Nat} {M : fs_M} {Q : Option fs_V → fs_M → Prop} {a : Int} {N : Int → Int} (hV : vw 5 M N) (hN : fs_NI N) (hq0 : ∀ (M2 : fs_M), (cq M M2) → Q (some (.inl (rq_shockFor N a))) M2) : fs_W (d + 7) 120 0 [some (.inr (.ref 0)), some (.inl a)] [] M Q := by
  obtain ⟨v0, v1, vcv, vfc, vhd, vln, vlc, vit⟩ := vw5 hV
  obtain ⟨⟨hA0, hA1⟩, ⟨hH0, hH1⟩, hcv, hfc, hhd, hln, hsh, hit, hst⟩ := id hN
  refine fs_r_call (sta := false) (idx := 128) (as := [.inr (.ref 5), .inl a]) (rest := []) (L1 := [some (.inr (.ref 0)), some (.inl a)]) (st1 := [.inl a, .inr (.ref 5)]) (M1 := M) (ob := [0 < fs_N ∧ fs_kd 0 = 5]) rfl rfl rfl (fs_oc fs_ob0 trivial) rfl rfl (Nat.le_of_ble_eq_true rfl) ⟨Or.inr (Nat.le_of_ble_eq_true rfl), Or.inr fs_ob5⟩ (by decide) ?_
  refine fs_c_isAsset (fun (f1 : 0 ≤ a ∧ a < M 5 0) => ?_) (fun (f2 : ¬ (0 ≤ a ∧ a < M 5 0)) => ?_)
  · refine fs_r_if (a := 1) (L1 := [some (.inr (.ref 0)), some (.inl a)]) (st1 := []) (M1 := M) (ob := []) rfl rfl trivial (fun h => absurd h (by decide : ¬ ((1 : Int) = 0))) (fun _ => ?_)
    refine fs_r_call (sta := false) (idx := 350) (as := [.inr (.ref 0), .inl 3, .inl a, .inl 200]) (rest := []) (L1 := [some (.inr (.ref 0)), some (.inl a)]) (st1 := [.inl 200, .inl a, .inl 3, .inr (.ref 0)]) (M1 := M) (ob := []) rfl rfl rfl trivial rfl rfl (Nat.le_of_ble_eq_true rfl) ⟨Or.inr (Nat.le_of_ble_eq_true rfl), Or.inr fs_ob0⟩ (by decide) ?_
    refine fs_c_mostThatHolds (N := N) (by assumption) (by assumption) (by omega) (fun v _ _ => by unfold wk; omega) (fun (V : fs_M) (q1 : cq M V) => ?_)
    refine fs_r_goto (L1 := [some (.inr (.ref 0)), some (.inl a)]) (st1 := [.inl (@ite _ (ec_safe (wf N 3 a 0)) (Classical.propDecidable _) (fs_bsM (fun v => ec_safe (wf N 3 a v)) (Int.toNat 200) 0 200) (-2))]) (M1 := V) (ob := []) rfl rfl trivial ?_
    refine fs_r_iret (a := (@ite _ (ec_safe (wf N 3 a 0)) (Classical.propDecidable _) (fs_bsM (fun v => ec_safe (wf N 3 a v)) (Int.toNat 200) 0 200) (-2))) (L1 := [some (.inr (.ref 0)), some (.inl a)]) (M1 := V) (ob := []) rfl rfl trivial (Or.inl rfl) ?_
    first
      | exact fs_qi (by unfold rq_shockFor; rw [if_neg (by omega)]) (hq0 _ cq.rf)
      | exact fs_qi (by unfold rq_shockFor rq_great; rw [if_pos (show 0 ≤ a ∧ a < N 0 by omega)]; rfl) (hq0 _ q1)
  refine fs_r_if (a := 0) (L1 := [some (.inr (.ref 0)), some (.inl a)]) (st1 := []) (M1 := M) (ob := []) rfl rfl trivial (fun _ => ?_) (fun h => absurd (by decide : (0 : Int) = 0) h)
  refine fs_r_nop (L1 := [some (.inr (.ref 0)), some (.inl a)]) (st1 := [.inl (-1)]) (M1 := M) (ob := []) rfl rfl trivial ?_
  refine fs_r_iret (a := (-1)) (L1 := [some (.inr (.ref 0)), some (.inl a)]) (M1 := M) (ob := []) rfl rfl trivial (Or.inl rfl) ?_
  first
    | exact fs_qi (by unfold rq_shockFor; rw [if_neg (by omega)]) (hq0 _ cq.rf)
    | exact fs_qi (by unfold rq_shockFor rq_great; rw [if_pos (show 0 ≤ a ∧ a < N 0 by omega)]; rfl) (hq0 _ q1)

theorem fs_c_fewest {d : Nat} {M : fs_M} {Q : Option fs_V → fs_M → Prop}  {N : Int → Int} (hV : vw 5 M N) (hN : fs_NI N) (hq0 : ∀ (M2 : fs_M), (cq M M2) → Q (some (.inl (rq_fewest N))) M2) : fs_W (d + 7) 126 0 [some (.inr (.ref 0))] [] M Q := by
  obtain ⟨v0, v1, vcv, vfc, vhd, vln, vlc, vit⟩ := vw5 hV
  obtain ⟨⟨hA0, hA1⟩, ⟨hH0, hH1⟩, hcv, hfc, hhd, hln, hsh, hit, hst⟩ := id hN
  refine fs_r_call (sta := false) (idx := 331) (as := [.inr (.ref 0), .inl 4, .inl 0, .inl 100]) (rest := []) (L1 := [some (.inr (.ref 0))]) (st1 := [.inl 100, .inl 0, .inl 4, .inr (.ref 0)]) (M1 := M) (ob := []) rfl rfl rfl trivial rfl rfl (Nat.le_of_ble_eq_true rfl) ⟨Or.inr (Nat.le_of_ble_eq_true rfl), Or.inr fs_ob0⟩ (by decide) ?_
  refine fs_c_fewestThatHolds (N := N) (by assumption) (by assumption) (by omega) (fun v _ _ => by unfold wk; omega) (fun (V : fs_M) (q1 : cq M V) => ?_)
  refine fs_r_iret (a := (@ite _ (ec_safe (wf N 4 0 100)) (Classical.propDecidable _) (fs_bsL (fun v => ec_safe (wf N 4 0 v)) (Int.toNat 100) 0 100) (-2))) (L1 := [some (.inr (.ref 0))]) (M1 := V) (ob := []) rfl rfl trivial (Or.inl rfl) ?_
  exact fs_qi (by unfold rq_fewest; rfl) (hq0 _ q1)

theorem giv0_eq {N : Int → Int} {t : Int} : ec_eq (ec_giv (ec_pl N) t (-0)) (ec_pl N) := by
  refine ⟨rfl, rfl, rfl, fun a a0 a1 => ⟨rfl, rfl, rfl, rfl, rfl⟩, fun h h0 h1 => ⟨?_, rfl, rfl, rfl, rfl⟩, fun h a h0 h1 a0 a1 => rfl, fun o h o0 o1 h0 h1 => rfl⟩
  show (if 7 = 7 ∧ h = t then ec_pl N 7 h + -0 else ec_pl N 7 h) = ec_pl N 7 h
  split <;> omega
theorem giv0_safe {N : Int → Int} {t : Int} (hN : fs_NI N) : ec_safe (wf N 1 t 0) ↔ ec_safe (ec_pl N) := by
  have b := (giv0_eq (N := N) (t := t)).bd (pl_bd hN)
  exact (giv0_eq (N := N) (t := t)).safe b.2.1.1 (ec_okc b)
theorem fs_c_room {d : Nat} {M : fs_M} {Q : Option fs_V → fs_M → Prop} {h : Int} {N : Int → Int} (hV : vw 5 M N) (hN : fs_NI N) (hq0 : ∀ (M2 : fs_M), (cq M M2) → Q (some (.inl (rq_room N h))) M2) : fs_W (d + 7) 124 0 [some (.inr (.ref 0)), some (.inl h)] [] M Q := by
  obtain ⟨v0, v1, vcv, vfc, vhd, vln, vlc, vit⟩ := vw5 hV
  obtain ⟨⟨hA0, hA1⟩, ⟨hH0, hH1⟩, hcv, hfc, hhd, hln, hsh, hit, hst⟩ := id hN
  refine fs_r_call (sta := false) (idx := 117) (as := [.inr (.ref 5), .inl h]) (rest := []) (L1 := [some (.inr (.ref 0)), some (.inl h)]) (st1 := [.inl h, .inr (.ref 5)]) (M1 := M) (ob := [0 < fs_N ∧ fs_kd 0 = 5]) rfl rfl rfl (fs_oc fs_ob0 trivial) rfl rfl (Nat.le_of_ble_eq_true rfl) ⟨Or.inr (Nat.le_of_ble_eq_true rfl), Or.inr fs_ob5⟩ (by decide) ?_
  refine fs_c_isHouse (fun (f1 : 0 ≤ h ∧ h < M 5 1) => ?_) (fun (f2 : ¬ (0 ≤ h ∧ h < M 5 1)) => ?_)
  · refine fs_r_if (a := 1) (L1 := [some (.inr (.ref 0)), some (.inl h)]) (st1 := []) (M1 := M) (ob := []) rfl rfl trivial (fun h => absurd h (by decide : ¬ ((1 : Int) = 0))) (fun _ => ?_)
    refine fs_r_call (sta := false) (idx := 224) (as := [.inr (.ref 5), .inl h, .inl 0]) (rest := [.inl h, .inl 1, .inr (.ref 0)]) (L1 := [some (.inr (.ref 0)), some (.inl h)]) (st1 := [.inl 0, .inl h, .inr (.ref 5), .inl h, .inl 1, .inr (.ref 0)]) (M1 := M) (ob := [0 < fs_N ∧ fs_kd 0 = 5]) rfl rfl rfl (fs_oc fs_ob0 trivial) rfl rfl (Nat.le_of_ble_eq_true rfl) ⟨Or.inr (Nat.le_of_ble_eq_true rfl), Or.inr fs_ob5⟩ (by decide) ?_
    refine fs_c_fact (by first | exact Or.inl rfl | exact Or.inr (Or.inl rfl) | assumption) (by omega) (by omega) ?_
    have q0 := vfc h 0 (by omega) (by omega) (by omega) (by omega) (Or.inl (by omega))
    have b0 := hfc h 0 (by omega) (by omega) (by omega) (by omega)
    refine fs_r_call (sta := false) (idx := 350) (as := [.inr (.ref 0), .inl 1, .inl h, .inl (M 7 ((h * 5) + 0))]) (rest := []) (L1 := [some (.inr (.ref 0)), some (.inl h)]) (st1 := [.inl (M 7 ((h * 5) + 0)), .inl h, .inl 1, .inr (.ref 0)]) (M1 := M) (ob := []) rfl rfl rfl trivial rfl rfl (Nat.le_of_ble_eq_true rfl) ⟨Or.inr (Nat.le_of_ble_eq_true rfl), Or.inr fs_ob0⟩ (by decide) ?_
    refine fs_c_mostThatHolds (N := N) (by assumption) (by assumption) (by omega) (fun v w1 w2 => by unfold wk; omega) (fun (V : fs_M) (q1 : cq M V) => ?_)
    refine fs_r_goto (L1 := [some (.inr (.ref 0)), some (.inl h)]) (st1 := [.inl (@ite _ (ec_safe (wf N 1 h 0)) (Classical.propDecidable _) (fs_bsM (fun v => ec_safe (wf N 1 h v)) (Int.toNat (M 7 ((h * 5) + 0))) 0 (M 7 ((h * 5) + 0))) (-2))]) (M1 := V) (ob := []) rfl rfl trivial ?_
    refine fs_r_iret (a := (@ite _ (ec_safe (wf N 1 h 0)) (Classical.propDecidable _) (fs_bsM (fun v => ec_safe (wf N 1 h v)) (Int.toNat (M 7 ((h * 5) + 0))) 0 (M 7 ((h * 5) + 0))) (-2))) (L1 := [some (.inr (.ref 0)), some (.inl h)]) (M1 := V) (ob := []) rfl rfl trivial (Or.inl rfl) ?_
    first
      | exact fs_qi (by unfold rq_room; rw [if_neg (by omega)]) (hq0 _ cq.rf)
      | (refine fs_qi ?_ (hq0 _ q1)
         unfold rq_room
         rw [if_pos (show 0 ≤ h ∧ h < N 1 by omega), q0]
         by_cases z : ec_safe (ec_pl N)
         · rw [if_pos z, if_pos ((giv0_safe hN).mpr z)]
           rfl
         · rw [if_neg z, if_neg (fun w => z ((giv0_safe hN).mp w))])
  refine fs_r_if (a := 0) (L1 := [some (.inr (.ref 0)), some (.inl h)]) (st1 := []) (M1 := M) (ob := []) rfl rfl trivial (fun _ => ?_) (fun h => absurd (by decide : (0 : Int) = 0) h)
  refine fs_r_nop (L1 := [some (.inr (.ref 0)), some (.inl h)]) (st1 := [.inl (-1)]) (M1 := M) (ob := []) rfl rfl trivial ?_
  refine fs_r_iret (a := (-1)) (L1 := [some (.inr (.ref 0)), some (.inl h)]) (M1 := M) (ob := []) rfl rfl trivial (Or.inl rfl) ?_
  first
    | exact fs_qi (by unfold rq_room; rw [if_neg (by omega)]) (hq0 _ cq.rf)
    | (refine fs_qi ?_ (hq0 _ q1)
       unfold rq_room
       rw [if_pos (show 0 ≤ h ∧ h < N 1 by omega), q0]
       by_cases z : ec_safe (ec_pl N)
       · rw [if_pos z, if_pos ((giv0_safe hN).mpr z)]
         rfl
       · rw [if_neg z, if_neg (fun w => z ((giv0_safe hN).mp w))])

theorem fs_c_buyer {d : Nat} {M : fs_M} {Q : Option fs_V → fs_M → Prop} {a : Int} {n : Int} {x : Int} {N : Int → Int} (hV : vw 5 M N) (hN : fs_NI N) (hq0 : ∀ (M2 : fs_M), (cq M M2) → Q (some (.inl (rq_buyer N a n x))) M2) : fs_W (d + 5) 118 0 [some (.inr (.ref 0)), some (.inl a), some (.inl n), some (.inl x)] [] M Q := by
  obtain ⟨v0, v1, vcv, vfc, vhd, vln, vlc, vit⟩ := vw5 hV
  obtain ⟨⟨hA0, hA1⟩, ⟨hH0, hH1⟩, hcv, hfc, hhd, hln, hsh, hit, hst⟩ := id hN
  refine fs_r_call (sta := false) (idx := 128) (as := [.inr (.ref 5), .inl a]) (rest := []) (L1 := [some (.inr (.ref 0)), some (.inl a), some (.inl n), some (.inl x)]) (st1 := [.inl a, .inr (.ref 5)]) (M1 := M) (ob := [0 < fs_N ∧ fs_kd 0 = 5]) rfl rfl rfl (fs_oc fs_ob0 trivial) rfl rfl (Nat.le_of_ble_eq_true rfl) ⟨Or.inr (Nat.le_of_ble_eq_true rfl), Or.inr fs_ob5⟩ (by decide) ?_
  refine fs_c_isAsset (fun (f1 : 0 ≤ a ∧ a < M 5 0) => ?_) (fun (f2 : ¬ (0 ≤ a ∧ a < M 5 0)) => ?_)
  · refine fs_r_if (a := 1) (L1 := [some (.inr (.ref 0)), some (.inl a), some (.inl n), some (.inl x)]) (st1 := []) (M1 := M) (ob := []) rfl rfl trivial (fun h => absurd h (by decide : ¬ ((1 : Int) = 0))) (fun _ => ?_)
    refine fs_r_call (sta := true) (idx := 131) (as := [.inl n, .inl 0, .inl 360]) (rest := []) (L1 := [some (.inr (.ref 0)), some (.inl a), some (.inl n), some (.inl x)]) (st1 := [.inl 360, .inl 0, .inl n]) (M1 := M) (ob := []) rfl rfl rfl trivial rfl rfl (Nat.le_of_ble_eq_true rfl) ⟨Or.inr (Nat.le_of_ble_eq_true rfl), trivial⟩ (by decide) ?_
    refine fs_c_isWithin (fun (f3 : 0 ≤ n ∧ n ≤ 360) => ?_) (fun (f4 : ¬ (0 ≤ n ∧ n ≤ 360)) => ?_)
    · refine fs_r_if (a := 1) (L1 := [some (.inr (.ref 0)), some (.inl a), some (.inl n), some (.inl x)]) (st1 := []) (M1 := M) (ob := []) rfl rfl trivial (fun h => absurd h (by decide : ¬ ((1 : Int) = 0))) (fun _ => ?_)
      refine fs_r_call (sta := false) (idx := 246) (as := [.inr (.ref 0), .inl x]) (rest := []) (L1 := [some (.inr (.ref 0)), some (.inl a), some (.inl n), some (.inl x)]) (st1 := [.inl x, .inr (.ref 0)]) (M1 := M) (ob := []) rfl rfl rfl trivial rfl rfl (Nat.le_of_ble_eq_true rfl) ⟨Or.inr (Nat.le_of_ble_eq_true rfl), Or.inr fs_ob0⟩ (by decide) ?_
      refine fs_c_isTold (fun (f5 : (0 ≤ x ∧ x < M 5 0) ∨ (4 ≤ x ∧ x ≤ 7)) => ?_) (fun (f6 : ¬ ((0 ≤ x ∧ x < M 5 0) ∨ (4 ≤ x ∧ x ≤ 7))) => ?_)
      · refine fs_r_if (a := 1) (L1 := [some (.inr (.ref 0)), some (.inl a), some (.inl n), some (.inl x)]) (st1 := []) (M1 := M) (ob := []) rfl rfl trivial (fun _ => ?_) (fun h => absurd (by decide : ¬ (1 : Int) = 0) h)
        refine fs_r_call (sta := false) (idx := 322) (as := [.inr (.ref 20), .inr (.ref 5)]) (rest := []) (L1 := [some (.inr (.ref 0)), some (.inl a), some (.inl n), some (.inl x)]) (st1 := [.inr (.ref 5), .inr (.ref 20)]) (M1 := M) (ob := [0 < fs_N ∧ fs_kd 0 = 5, 0 < fs_N ∧ fs_kd 0 = 5]) rfl rfl rfl (fs_oc fs_ob0 (fs_oc fs_ob0 trivial)) rfl rfl (Nat.le_of_ble_eq_true rfl) ⟨Or.inr (Nat.le_of_ble_eq_true rfl), Or.inr fs_ob20⟩ (by decide) ?_
        refine fs_c_load (N := N) (by assumption) (by assumption) (fun (V1 : fs_M) (l1 : ∀ r, (r < 20 ∨ 31 < r) → V1 r = M r) (l2 : ec_eq (mk V1) (ec_pl N)) (l3 : ∀ q, 0 ≤ q → q < 4 → V1 25 q = if q < N 0 then mm_held N q else 0) => ?_)
        have e2 := wf_buy (t := a) (n := n) l2
        have b2 := w_bd (xo := -1) (xc := 360) (xs := 0) (bo := a) (bn := n) (pt := 100) (fo := 0) hN (by omega) (by omega) (by omega) (by omega) (by omega)
        refine fs_r_call (sta := false) (idx := 346) (as := [.inr (.ref 20), .inr (.ref 32), .inr (.ref 34)]) (rest := []) (L1 := [some (.inr (.ref 0)), some (.inl a), some (.inl n), some (.inl x)]) (st1 := [.inr (.ref 34), .inr (.ref 32), .inr (.ref 20)]) (M1 := (fs_up V1 24 a n)) (ob := [0 < fs_N ∧ fs_kd 0 = 5, 20 < fs_N ∧ fs_kd 20 = 1, (24 < fs_N ∧ fs_kd 24 = 100) ∧ (0 : Int) ≤ a ∧ a < fs_ln 24, 0 < fs_N ∧ fs_kd 0 = 5, 0 < fs_N ∧ fs_kd 0 = 5, 0 < fs_N ∧ fs_kd 0 = 5]) rfl rfl (fs_exA 6 (o1 := [0 < fs_N ∧ fs_kd 0 = 5, 20 < fs_N ∧ fs_kd 20 = 1, (24 < fs_N ∧ fs_kd 24 = 100) ∧ (0 : Int) ≤ a ∧ a < fs_ln 24]) (L1 := [some (.inr (.ref 0)), some (.inl a), some (.inl n), some (.inl x)]) (st1 := []) (M1 := (fs_up V1 24 a n)) (o2 := [0 < fs_N ∧ fs_kd 0 = 5, 0 < fs_N ∧ fs_kd 0 = 5, 0 < fs_N ∧ fs_kd 0 = 5]) rfl rfl) (fs_oc fs_ob0 (fs_oc fs_ob20 (fs_oc (fs_ar24 (by omega) (by omega)) (fs_oc fs_ob0 (fs_oc fs_ob0 (fs_oc fs_ob0 trivial)))))) rfl rfl (Nat.le_of_ble_eq_true rfl) ⟨Or.inr (Nat.le_of_ble_eq_true rfl), Or.inr fs_ob20⟩ (by decide) ?_
        refine fs_c_toLeast (eq_b e2 b2) (fun (V2 : fs_M) (t1 : mk_f (fs_up V1 24 a n) V2) (t2 : sst V2 32 = ec_fix (mk (fs_up V1 24 a n)) (ec_calm (mk (fs_up V1 24 a n)))) (t3 : sb V2 32) => ?_)
        have d1 : fdE V2 (ec_w N (-1) 360 0 a n 100 0) (ec_lst (ec_w N (-1) 360 0 a n 100 0)) := fdE.least b2 e2 t1 t2 t3
        refine fs_r_call (sta := false) (idx := 249) (as := [.inr (.ref 20), .inr (.ref 32), .inl x]) (rest := []) (L1 := [some (.inr (.ref 0)), some (.inl a), some (.inl n), some (.inl x)]) (st1 := [.inl x, .inr (.ref 32), .inr (.ref 20)]) (M1 := V2) (ob := [0 < fs_N ∧ fs_kd 0 = 5, 0 < fs_N ∧ fs_kd 0 = 5]) rfl rfl rfl (fs_oc fs_ob0 (fs_oc fs_ob0 trivial)) rfl rfl (Nat.le_of_ble_eq_true rfl) ⟨Or.inr (Nat.le_of_ble_eq_true rfl), Or.inr fs_ob20⟩ (by decide) ?_
        refine fs_c_tell (d1.b) (d1.S) (by have e := d1.n0; have e2 : ec_w N (-1) 360 0 a n 100 0 0 0 = N 0 := rfl; omega) ?_
        refine fs_r_iret (a := (ec_tell (mk V2) (sst V2 32) x)) (L1 := [some (.inr (.ref 0)), some (.inl a), some (.inl n), some (.inl x)]) (M1 := V2) (ob := []) rfl rfl trivial (Or.inl rfl) ?_
        exact fs_qi (by unfold rq_buyer; rw [if_pos (by omega), d1.tell]) (hq0 _ (((cq.ld l1).up (by decide)).tr (cq.f t1)))
      refine fs_r_if (a := 0) (L1 := [some (.inr (.ref 0)), some (.inl a), some (.inl n), some (.inl x)]) (st1 := []) (M1 := M) (ob := []) rfl rfl trivial (fun h => absurd h (by decide : ¬ (¬ (0 : Int) = 0))) (fun _ => ?_)
      refine fs_r_iret (a := (-1)) (L1 := [some (.inr (.ref 0)), some (.inl a), some (.inl n), some (.inl x)]) (M1 := M) (ob := []) rfl rfl trivial (Or.inl rfl) ?_
      exact fs_qi (by unfold rq_buyer; rw [if_neg (by omega)]) (hq0 _ cq.rf)
    refine fs_r_if (a := 0) (L1 := [some (.inr (.ref 0)), some (.inl a), some (.inl n), some (.inl x)]) (st1 := []) (M1 := M) (ob := []) rfl rfl trivial (fun _ => ?_) (fun h => absurd (by decide : (0 : Int) = 0) h)
    refine fs_r_iret (a := (-1)) (L1 := [some (.inr (.ref 0)), some (.inl a), some (.inl n), some (.inl x)]) (M1 := M) (ob := []) rfl rfl trivial (Or.inl rfl) ?_
    exact fs_qi (by unfold rq_buyer; rw [if_neg (by omega)]) (hq0 _ cq.rf)
  refine fs_r_if (a := 0) (L1 := [some (.inr (.ref 0)), some (.inl a), some (.inl n), some (.inl x)]) (st1 := []) (M1 := M) (ob := []) rfl rfl trivial (fun _ => ?_) (fun h => absurd (by decide : (0 : Int) = 0) h)
  refine fs_r_iret (a := (-1)) (L1 := [some (.inr (.ref 0)), some (.inl a), some (.inl n), some (.inl x)]) (M1 := M) (ob := []) rfl rfl trivial (Or.inl rfl) ?_
  exact fs_qi (by unfold rq_buyer; rw [if_neg (by omega)]) (hq0 _ cq.rf)

/-! gifts -/
def gv_k (g : Int → Int) : Prop := ∀ h, 0 ≤ h → h < 6 → 0 ≤ g h ∧ g h ≤ 9999
theorem gv_bd {N g : Int → Int} (hN : fs_NI N) (hg : gv_k g) : ec_bd (ec_gv (ec_pl N) g) := by
  obtain ⟨p1, p2, p3, p4, p5, p6, p7⟩ := pl_bd hN
  refine ⟨p1, p2, p3, p4, fun h h0 h1 => ?_, p6, p7⟩
  obtain ⟨x1, x2, x3, x4, x5⟩ := p5 h h0 h1
  refine ⟨?_, x2, x3, x4, x5⟩
  have hH := hN.2.1
  have h2 : h < N 1 := h1
  have y0 := hN.2.2.2.1 h 0 h0 (by omega) (by omega) (by omega)
  have y1 := hN.2.2.2.1 h 1 h0 (by omega) (by omega) (by omega)
  have y2 := mn_from_b (h := h) hN ⟨h0, by omega⟩
  have y3 := hg h h0 (by omega)
  have e : ec_pl N 7 h = N (10 + 5 * h + 0) - N (10 + 5 * h + 1) - mm_from N h := rfl
  show -30000 ≤ ec_pl N 7 h + g h ∧ ec_pl N 7 h + g h ≤ 30000
  omega
theorem gv_up {M : fs_M} {N g : Int → Int} {t v : Int} (e : ec_eq (mk M) (ec_gv (ec_pl N) g)) : ec_eq (mk (fs_up M 27 t ((M 27 t) + v))) (ec_gv (ec_pl N) (gv_p g t v)) := by
  obtain ⟨h1, h2, h3, h4, h5, h6, h7⟩ := e
  refine ⟨h1, h2, h3, h4, fun h h0 h1 => ?_, h6, h7⟩
  obtain ⟨x1, x2, x3, x4, x5⟩ := h5 h h0 h1
  refine ⟨?_, x2, x3, x4, x5⟩
  have x1 : M 27 h = ec_pl N 7 h + g h := x1
  show fs_up M 27 t ((M 27 t) + v) 27 h = ec_pl N 7 h + (if h = t then g h + v else g h)
  rw [fs_up_at]
  by_cases z : h = t
  · rw [if_pos z, if_pos z, ← z, x1]
    omega
  · rw [if_neg z, if_neg z]
    exact x1
theorem gv_c {M : fs_M} {N g g2 : Int → Int} (e : ec_eq (mk M) (ec_gv (ec_pl N) g)) (h : ∀ q, 0 ≤ q → q < N 1 → g q = g2 q) : ec_eq (mk M) (ec_gv (ec_pl N) g2) := by
  refine e.tr ⟨rfl, rfl, rfl, fun a a0 a1 => ⟨rfl, rfl, rfl, rfl, rfl⟩, fun q h0 h1 => ⟨?_, rfl, rfl, rfl, rfl⟩, fun h a h0 h1 a0 a1 => rfl, fun o h o0 o1 h0 h1 => rfl⟩
  show ec_pl N 7 q + g q = ec_pl N 7 q + g2 q
  rw [h q h0 h1]
theorem gv_pl {M : fs_M} {N : Int → Int} (e : ec_eq (mk M) (ec_pl N)) : ec_eq (mk M) (ec_gv (ec_pl N) (fun _ => 0)) := by
  refine e.tr ⟨rfl, rfl, rfl, fun a a0 a1 => ⟨rfl, rfl, rfl, rfl, rfl⟩, fun q h0 h1 => ⟨?_, rfl, rfl, rfl, rfl⟩, fun h a h0 h1 a0 a1 => rfl, fun o h o0 o1 h0 h1 => rfl⟩
  show ec_pl N 7 q = ec_pl N 7 q + 0
  omega
theorem gv_lost {E : Nat → Int → Int} {g : Int → Int} {S : Int → Int} : ec_lost (ec_gv E g) S = ec_lost E S := rfl
theorem gv_pb {g : Int → Int} {t v : Int} (hg : gv_k g) (hv : 0 ≤ v ∧ g t + v ≤ 9999) : gv_k (gv_p g t v) := fun h h0 h1 => by
  have := hg h h0 h1
  unfold gv_p
  split
  · next z => subst z; omega
  · exact this
theorem fs_c_lostWith {d : Nat} {M : fs_M} {Q : Option fs_V → fs_M → Prop} {h : Int} {c : Int} {N g : Int → Int} (hN : fs_NI N) (he : ec_eq (mk M) (ec_gv (ec_pl N) g)) (hg : gv_k g) (hh : 0 ≤ h ∧ h < N 1) (hc : 0 ≤ c ∧ g h + c ≤ 9999) (hq0 : ∀ (M2 : fs_M), (mk_f M M2) → Q (some (.inl (gv_l N (gv_p g h c)))) M2) : fs_W (d + 5) 156 0 [some (.inr (.ref 0)), some (.inl h), some (.inl c)] [] M Q := by
  have hb := hN.2.1
  have n1 := he.2.1
  have n1 : M 20 1 = N 1 := n1
  have bm := eq_b he (gv_bd hN hg)
  have om := (bm.2.2.2.2.1 h hh.1 (by omega)).1
  have gk := gv_pb (t := h) (v := c) hg hc
  have eu := gv_up (t := h) (v := c) he
  have bu := gv_bd hN gk
  have ch := hg h hh.1 (by omega)
  refine fs_r_call (sta := false) (idx := 337) (as := [.inr (.ref 20), .inl h, .inl c]) (rest := []) (L1 := [some (.inr (.ref 0)), some (.inl h), some (.inl c)]) (st1 := [.inl c, .inl h, .inr (.ref 20)]) (M1 := M) (ob := [0 < fs_N ∧ fs_kd 0 = 5]) rfl rfl rfl (fs_oc fs_ob0 trivial) rfl rfl (Nat.le_of_ble_eq_true rfl) ⟨Or.inr (Nat.le_of_ble_eq_true rfl), Or.inr fs_ob20⟩ (by decide) ?_
  refine fs_c_give (by omega) (by omega) ?_
  refine fs_r_call (sta := false) (idx := 346) (as := [.inr (.ref 20), .inr (.ref 32), .inr (.ref 34)]) (rest := []) (L1 := [some (.inr (.ref 0)), some (.inl h), some (.inl c)]) (st1 := [.inr (.ref 34), .inr (.ref 32), .inr (.ref 20)]) (M1 := (fs_up M 27 h ((M 27 h) + c))) (ob := [0 < fs_N ∧ fs_kd 0 = 5, 0 < fs_N ∧ fs_kd 0 = 5, 0 < fs_N ∧ fs_kd 0 = 5]) rfl rfl rfl (fs_oc fs_ob0 (fs_oc fs_ob0 (fs_oc fs_ob0 trivial))) rfl rfl (Nat.le_of_ble_eq_true rfl) ⟨Or.inr (Nat.le_of_ble_eq_true rfl), Or.inr fs_ob20⟩ (by decide) ?_
  refine fs_c_toLeast (eq_b eu bu) (fun (V : fs_M) (t1 : mk_f (fs_up M 27 h ((M 27 h) + c)) V) (t2 : sst V 32 = ec_fix (mk (fs_up M 27 h ((M 27 h) + c))) (ec_calm (mk (fs_up M 27 h ((M 27 h) + c))))) (t3 : sb V 32) => ?_)
  have d1 := fdE.least bu eu t1 t2 t3
  have o7 : V 27 h = M 27 h + c := by rw [t1 27 (by decide) (by decide), fs_up_at, if_pos rfl]
  have nV : V 20 1 = N 1 := by rw [t1 20 (by decide) (by decide)]; exact n1
  have fB : mk_f M (fs_up V 27 h ((V 27 h) + (-c))) := fun r q1 q2 => by
    by_cases z : r = 27
    · subst z
      funext i
      rw [fs_up_at]
      by_cases y : i = h
      · rw [if_pos y, o7, y]
        omega
      · rw [if_neg y, t1 27 (by decide) (by decide), fs_up_at, if_neg y]
    · rw [fs_up_other z, t1 r q1 q2, fs_up_other z]
  have sB : sb (fs_up V 27 h ((V 27 h) + (-c))) 32 := t3
  have lB : ec_lost (mk (fs_up V 27 h ((V 27 h) + (-c)))) (sst (fs_up V 27 h ((V 27 h) + (-c))) 32) = gv_l N (gv_p g h c) := by
    have s2 : sst (fs_up V 27 h ((V 27 h) + (-c))) 32 = ec_lst (ec_gv (ec_pl N) (gv_p g h c)) := d1.2.2.1
    rw [s2, fB.E, he.lost]
    rfl
  refine fs_r_call (sta := false) (idx := 337) (as := [.inr (.ref 20), .inl h, .inl (-c)]) (rest := []) (L1 := [some (.inr (.ref 0)), some (.inl h), some (.inl c)]) (st1 := [.inl (-c), .inl h, .inr (.ref 20)]) (M1 := V) (ob := [0 < fs_N ∧ fs_kd 0 = 5, fs_rg (-c)]) rfl rfl rfl (fs_oc fs_ob0 (fs_oc ⟨by omega, by omega⟩ trivial)) rfl rfl (Nat.le_of_ble_eq_true rfl) ⟨Or.inr (Nat.le_of_ble_eq_true rfl), Or.inr fs_ob20⟩ (by decide) ?_
  refine fs_c_give (by omega) (by omega) ?_
  refine fs_r_call (sta := false) (idx := 279) (as := [.inr (.ref 20), .inr (.ref 32)]) (rest := []) (L1 := [some (.inr (.ref 0)), some (.inl h), some (.inl c)]) (st1 := [.inr (.ref 32), .inr (.ref 20)]) (M1 := (fs_up V 27 h ((V 27 h) + (-c)))) (ob := [0 < fs_N ∧ fs_kd 0 = 5, 0 < fs_N ∧ fs_kd 0 = 5]) rfl rfl rfl (fs_oc fs_ob0 (fs_oc fs_ob0 trivial)) rfl rfl (Nat.le_of_ble_eq_true rfl) ⟨Or.inr (Nat.le_of_ble_eq_true rfl), Or.inr fs_ob20⟩ (by decide) ?_
  refine fs_c_lostIn (fB.b bm) (sB) ?_
  refine fs_r_iret (a := (ec_lost (mk (fs_up V 27 h ((V 27 h) + (-c)))) (sst (fs_up V 27 h ((V 27 h) + (-c))) 32))) (L1 := [some (.inr (.ref 0)), some (.inl h), some (.inl c)]) (M1 := (fs_up V 27 h ((V 27 h) + (-c)))) (ob := []) rfl rfl trivial (Or.inl rfl) ?_
  exact fs_qi lB (hq0 _ fB)
