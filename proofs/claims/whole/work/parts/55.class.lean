theorem pl_bd {N : Int → Int} (hN : fs_NI N) : ec_bd (ec_pl N) := by
  obtain ⟨hA, hH, hcv, hfc, hhd, hln, hsh, hit, hst⟩ := id hN
  have k0 : ec_pl N 0 0 = N 0 := rfl
  have k1 : ec_pl N 0 1 = N 1 := rfl
  refine ⟨hA, hH, ⟨by show (0 : Int) ≤ 0; omega, by show (0 : Int) < 64; omega⟩, fun a a0 a1 => ?_, fun h h0 h1 => ?_, fun h a h0 h1 a0 a1 => ?_, fun o h o0 o1 h0 h1 => ?_⟩
  · have x := hcv a a0 (by omega)
    have y := mm_shock_b (a := a) hN
    have z := mm_cap_b (a := a) hN
    have w := mn_held_b (a := a) hN (by omega)
    exact ⟨⟨by show -5000 ≤ N (2 + a) - mm_shock N a; omega, by show N (2 + a) - mm_shock N a ≤ 200; omega⟩, x.2, z, ⟨by show (0 : Int) ≤ 0; omega, by show (0 : Int) ≤ 360; omega⟩, w⟩
  · have x0 := hfc h 0 h0 (by omega) (by omega) (by omega)
    have x1 := hfc h 1 h0 (by omega) (by omega) (by omega)
    have x2 := hfc h 2 h0 (by omega) (by omega) (by omega)
    have x4 := hfc h 4 h0 (by omega) (by omega) (by omega)
    have y := hst h h0 (by omega)
    have z := mn_from_b (h := h) hN (by omega)
    have w := mn_pieces_b (h := h) hN (by omega)
    have e7 : ec_pl N 7 h = N (10 + 5 * h + 0) - N (10 + 5 * h + 1) - mm_from N h := rfl
    have e2 : ec_pl N 9 (5 * h + 2) = N (10 + 5 * h + 2) := congrArg N (by omega)
    have e3 : ec_pl N 9 (5 * h + 3) = N (10 + 5 * h + 3) := congrArg N (by omega)
    have e4 : ec_pl N 9 (5 * h + 4) = N (10 + 5 * h + 4) := congrArg N (by omega)
    rw [e7, e2, e3, e4]
    exact ⟨by omega, w, x2, by omega, by omega⟩
  · have e : ec_pl N 10 (4 * h + a) = N (40 + 4 * h + a) := congrArg N (by omega)
    rw [e]
    exact hhd h a h0 (by omega) a0 (by omega)
  · have e : ec_pl N 11 (6 * o + h) = N (64 + 6 * o + h) := congrArg N (by omega)
    rw [e]
    exact hln o h o0 (by omega) h0 (by omega)
theorem mk_load {M M4 M5 : fs_M} {N : Int → Int} (hN : fs_NI N) (hV : vw 5 M N) (h3 : M4 20 0 = N 0 ∧ M4 20 1 = N 1 ∧ M4 20 2 = 0)
    (a3 : ∀ q, 0 ≤ q → q < N 0 → M4 21 q = N (2 + q) - mm_shock N q ∧ M4 22 q = N (6 + q) ∧ M4 23 q = mm_cap N q ∧ M4 24 q = 0 ∧ M4 25 q = mm_held N q)
    (o4 : ∀ q, 0 ≤ q → q < N 1 → M4 27 q = N (10 + 5 * q + 0) - N (10 + 5 * q + 1) - mm_from N q ∧ M4 28 q = mm_pieces N q)
    (f5 : ∀ r, r ≠ 29 → r ≠ 30 → r ≠ 31 → M5 r = M4 r) (c7 : ∀ i, 0 ≤ i → i < 30 → M5 29 i = M 7 i) (c8 : ∀ i, 0 ≤ i → i < 24 → M5 30 i = M 8 i) (c9 : ∀ i, 0 ≤ i → i < 36 → M5 31 i = M 9 i) : ec_eq (mk M5) (ec_pl N) := by
  obtain ⟨hA, hH, -⟩ := id hN
  obtain ⟨v0, v1, vcv, vfc, vhd, vln, vlc, vit⟩ := vw5 hV
  have g20 := f5 20 (by decide) (by decide) (by decide)
  have e0 : mk M5 0 0 = N 0 := by show M5 20 0 = _; rw [g20]; exact h3.1
  have e1 : mk M5 0 1 = N 1 := by show M5 20 1 = _; rw [g20]; exact h3.2.1
  refine ⟨e0, e1, by show M5 20 2 = 0; rw [g20]; exact h3.2.2, fun a a0 a1 => ?_, fun h h0 h1 => ?_, fun h a h0 h1 a0 a1 => ?_, fun o h o0 o1 h0 h1 => ?_⟩
  · obtain ⟨x1, x2, x3, x4, x5⟩ := a3 a a0 (by omega)
    refine ⟨?_, ?_, ?_, ?_, ?_⟩
    · show M5 21 a = _; rw [f5 21 (by decide) (by decide) (by decide)]; exact x1
    · show M5 22 a = _; rw [f5 22 (by decide) (by decide) (by decide)]; exact x2
    · show M5 23 a = _; rw [f5 23 (by decide) (by decide) (by decide)]; exact x3
    · show M5 24 a = _; rw [f5 24 (by decide) (by decide) (by decide)]; exact x4
    · show M5 25 a = _; rw [f5 25 (by decide) (by decide) (by decide)]; exact x5
  · obtain ⟨x1, x2⟩ := o4 h h0 (by omega)
    have fc : ∀ k, 0 ≤ k → k < 5 → mk M5 9 (5 * h + k) = ec_pl N 9 (5 * h + k) := fun k k0 k1 => by
      have w := vfc h k h0 (by omega) k0 k1 (Or.inl (by omega))
      show M5 29 (5 * h + k) = N (10 + (5 * h + k))
      rw [c7 _ (by omega) (by omega), show 5 * h + k = h * 5 + k by omega, w]
      exact congrArg N (by omega)
    refine ⟨?_, ?_, fc 2 (by omega) (by omega), fc 3 (by omega) (by omega), fc 4 (by omega) (by omega)⟩
    · show M5 27 h = _; rw [f5 27 (by decide) (by decide) (by decide)]; exact x1
    · show M5 28 h = _; rw [f5 28 (by decide) (by decide) (by decide)]; exact x2
  · have w := vhd h a h0 (by omega) a0 (by omega)
    show M5 30 (4 * h + a) = N (40 + (4 * h + a))
    rw [c8 _ (by omega) (by omega), show 4 * h + a = h * 4 + a by omega, w]
    exact congrArg N (by omega)
  · have w := vln o h o0 (by omega) h0 (by omega)
    show M5 31 (6 * o + h) = N (64 + (6 * o + h))
    rw [c9 _ (by omega) (by omega), show 6 * o + h = o * 6 + h by omega, w]
    exact congrArg N (by omega)
theorem fs_c_load {d : Nat} {M : fs_M} {Q : Option fs_V → fs_M → Prop}  {N : Int → Int} (hV : vw 5 M N) (hN : fs_NI N) (hq0 : ∀ (M2 : fs_M), (∀ r, (r < 20 ∨ 31 < r) → M2 r = M r) → (ec_eq (mk M2) (ec_pl N)) → (∀ q, 0 ≤ q → q < 4 → M2 25 q = if q < N 0 then mm_held N q else 0) → Q none M2) : fs_W (d + 2) 32 0 [some (.inr (.ref 20)), some (.inr (.ref 5)), none] [] M Q := by
  obtain ⟨v0, v1, vcv, vfc, vhd, vln, vlc, vit⟩ := vw5 hV
  obtain ⟨⟨hA0, hA1⟩, ⟨hH0, hH1⟩, hcv, hfc, hhd, hln, hsh, hit, hst⟩ := id hN
  refine fs_r_call (sta := true) (idx := 59) (as := [.inr (.ref 25)]) (rest := []) (L1 := [some (.inr (.ref 20)), some (.inr (.ref 5)), none]) (st1 := [.inr (.ref 25)]) (M1 := (fs_up (fs_up (fs_up M 20 0 (M 5 0)) 20 1 (M 5 1)) 20 2 0)) (ob := [5 < fs_N ∧ fs_kd 5 = 0, 20 < fs_N ∧ fs_kd 20 = 1, 5 < fs_N ∧ fs_kd 5 = 0, 20 < fs_N ∧ fs_kd 20 = 1, 20 < fs_N ∧ fs_kd 20 = 1, 20 < fs_N ∧ fs_kd 20 = 1]) rfl rfl (fs_exA 6 (o1 := [5 < fs_N ∧ fs_kd 5 = 0, 20 < fs_N ∧ fs_kd 20 = 1]) (L1 := [some (.inr (.ref 20)), some (.inr (.ref 5)), none]) (st1 := [.inr (.ref 5), .inr (.ref 20)]) (M1 := (fs_up M 20 0 (M 5 0))) (o2 := [5 < fs_N ∧ fs_kd 5 = 0, 20 < fs_N ∧ fs_kd 20 = 1, 20 < fs_N ∧ fs_kd 20 = 1, 20 < fs_N ∧ fs_kd 20 = 1]) rfl rfl) (fs_oc fs_ob5 (fs_oc fs_ob20 (fs_oc fs_ob5 (fs_oc fs_ob20 (fs_oc fs_ob20 (fs_oc fs_ob20 trivial)))))) rfl rfl (Nat.le_of_ble_eq_true rfl) ⟨Or.inr (Nat.le_of_ble_eq_true rfl), trivial⟩ (by decide) ?_
  refine fs_c_clear (n := 4) (by first | assumption | exact ⟨by decide, by decide, by decide⟩) (by omega) ?_
  refine fs_r_nop (L1 := [some (.inr (.ref 20)), some (.inr (.ref 5)), some (.inl 0)]) (st1 := []) (M1 := (fs_cl (fs_up (fs_up (fs_up M 20 0 (M 5 0)) 20 1 (M 5 1)) 20 2 0) 25 4)) (ob := [2 < 3]) rfl rfl (fs_oc (by decide) trivial) ?_
  have loop30 : ∀ (n30 : Nat) (i : Int) (M3 : fs_M), (0 ≤ i ∧ i ≤ N 0) → (∀ r, (r < 20 ∨ 25 < r) → M3 r = M r) → (M3 20 0 = N 0 ∧ M3 20 1 = N 1 ∧ M3 20 2 = 0) → (∀ q, 0 ≤ q → q < i → M3 21 q = N (2 + q) - mm_shock N q ∧ M3 22 q = N (6 + q) ∧ M3 23 q = mm_cap N q ∧ M3 24 q = 0 ∧ M3 25 q = mm_held N q) → (∀ q, i ≤ q → q < 4 → M3 25 q = 0) → N 0 - i < (n30 : Int) → fs_W (d + 2) 32 30 [some (.inr (.ref 20)), some (.inr (.ref 5)), some (.inl i)] [] M3 Q := by
    intro n30
    induction n30 with
    | zero =>
      intro i M3 i0 f3 h3 a3 z3 hm30
      exfalso
      omega
    | succ n30 ih30 =>
      intro i M3 i0 f3 h3 a3 z3 hm30
      have hV3 : vw 5 M3 N := hV.fr (fun r q1 q2 => f3 r (by omega))
      refine fs_r_icmp (a := i) (y := (M3 20 0)) (L1 := [some (.inr (.ref 20)), some (.inr (.ref 5)), some (.inl i)]) (st1 := []) (M1 := M3) (ob := [20 < fs_N ∧ fs_kd 20 = 1]) rfl rfl (fs_oc fs_ob20 trivial) (fun (h1 : (M3 20 0) ≤ i) => ?_) (fun (h1 : ¬ ((M3 20 0) ≤ i)) => ?_)
      · refine fs_r_nop (L1 := [some (.inr (.ref 20)), some (.inr (.ref 5)), some (.inl 0)]) (st1 := []) (M1 := M3) (ob := [2 < 3]) rfl rfl (fs_oc (by decide) trivial) ?_
        have loop103 : ∀ (n103 : Nat) (i : Int) (M4 : fs_M), (0 ≤ i ∧ i ≤ N 1) → (∀ r, r ≠ 27 → r ≠ 28 → M4 r = M3 r) → (∀ q, 0 ≤ q → q < i → M4 27 q = N (10 + 5 * q + 0) - N (10 + 5 * q + 1) - mm_from N q ∧ M4 28 q = mm_pieces N q) → N 1 - i < (n103 : Int) → fs_W (d + 2) 32 103 [some (.inr (.ref 20)), some (.inr (.ref 5)), some (.inl i)] [] M4 Q := by
          intro n103
          induction n103 with
          | zero =>
            intro i M4 i1 f4 o4 hm103
            exfalso
            omega
          | succ n103 ih103 =>
            intro i M4 i1 f4 o4 hm103
            have hV4 : vw 5 M4 N := hV.fr (fun r q1 q2 => (f4 r (by omega) (by omega)).trans (f3 r (by omega)))
            have g1 : M4 20 1 = N 1 := by rw [f4 20 (by decide) (by decide)]; exact h3.2.1
            refine fs_r_icmp (a := i) (y := (M4 20 1)) (L1 := [some (.inr (.ref 20)), some (.inr (.ref 5)), some (.inl i)]) (st1 := []) (M1 := M4) (ob := [20 < fs_N ∧ fs_kd 20 = 1]) rfl rfl (fs_oc fs_ob20 trivial) (fun (h2 : (M4 20 1) ≤ i) => ?_) (fun (h2 : ¬ ((M4 20 1) ≤ i)) => ?_)
            · refine fs_r_call (sta := true) (idx := 90) (as := [.inr (.ref 7), .inr (.ref 29)]) (rest := []) (L1 := [some (.inr (.ref 20)), some (.inr (.ref 5)), some (.inl i)]) (st1 := [.inr (.ref 29), .inr (.ref 7)]) (M1 := M4) (ob := [5 < fs_N ∧ fs_kd 5 = 0, 20 < fs_N ∧ fs_kd 20 = 1]) rfl rfl rfl (fs_oc fs_ob5 (fs_oc fs_ob20 trivial)) rfl rfl (Nat.le_of_ble_eq_true rfl) ⟨Or.inr (Nat.le_of_ble_eq_true rfl), trivial⟩ (by decide) ?_
              refine fs_c_copyAll (n := 30) (by first | assumption | exact ⟨by decide, by decide, by decide⟩) (by first | assumption | exact ⟨by decide, by decide, by decide⟩) (by first | decide | omega) (by omega) ?_
              refine fs_r_call (sta := true) (idx := 90) (as := [.inr (.ref 8), .inr (.ref 30)]) (rest := []) (L1 := [some (.inr (.ref 20)), some (.inr (.ref 5)), some (.inl i)]) (st1 := [.inr (.ref 30), .inr (.ref 8)]) (M1 := (fs_cp M4 7 29 30)) (ob := [5 < fs_N ∧ fs_kd 5 = 0, 20 < fs_N ∧ fs_kd 20 = 1]) rfl rfl rfl (fs_oc fs_ob5 (fs_oc fs_ob20 trivial)) rfl rfl (Nat.le_of_ble_eq_true rfl) ⟨Or.inr (Nat.le_of_ble_eq_true rfl), trivial⟩ (by decide) ?_
              refine fs_c_copyAll (n := 24) (by first | assumption | exact ⟨by decide, by decide, by decide⟩) (by first | assumption | exact ⟨by decide, by decide, by decide⟩) (by first | decide | omega) (by omega) ?_
              refine fs_r_call (sta := true) (idx := 90) (as := [.inr (.ref 9), .inr (.ref 31)]) (rest := []) (L1 := [some (.inr (.ref 20)), some (.inr (.ref 5)), some (.inl i)]) (st1 := [.inr (.ref 31), .inr (.ref 9)]) (M1 := (fs_cp (fs_cp M4 7 29 30) 8 30 24)) (ob := [5 < fs_N ∧ fs_kd 5 = 0, 20 < fs_N ∧ fs_kd 20 = 1]) rfl rfl rfl (fs_oc fs_ob5 (fs_oc fs_ob20 trivial)) rfl rfl (Nat.le_of_ble_eq_true rfl) ⟨Or.inr (Nat.le_of_ble_eq_true rfl), trivial⟩ (by decide) ?_
              refine fs_c_copyAll (n := 36) (by first | assumption | exact ⟨by decide, by decide, by decide⟩) (by first | assumption | exact ⟨by decide, by decide, by decide⟩) (by first | decide | omega) (by omega) ?_
              refine fs_r_ret (L1 := [some (.inr (.ref 20)), some (.inr (.ref 5)), some (.inl i)]) (M1 := (fs_cp (fs_cp (fs_cp M4 7 29 30) 8 30 24) 9 31 36)) (ob := []) rfl rfl trivial ?_
              have z0 : ∀ q, 0 ≤ q → q < 4 → M4 25 q = if q < N 0 then mm_held N q else 0 := fun q q0 q1 => by
                rw [f4 25 (by decide) (by decide)]
                split
                · exact (a3 q q0 (by omega)).2.2.2.2
                · exact z3 q (by omega) q1
              have k7 : M4 7 = M 7 := (f4 7 (by decide) (by decide)).trans (f3 7 (by omega))
              have k8 : M4 8 = M 8 := (f4 8 (by decide) (by decide)).trans (f3 8 (by omega))
              have k9 : M4 9 = M 9 := (f4 9 (by decide) (by decide)).trans (f3 9 (by omega))
              refine hq0 _ (fun r q => ?_) (mk_load (M4 := M4) hN hV (by rw [f4 20 (by decide) (by decide)]; exact h3) (fun q q0 q1 => ?_) (fun q q0 q1 => o4 q q0 (by omega)) (fun r q1 q2 q3 => ?_) (fun q q0 q1 => ?_) (fun q q0 q1 => ?_) (fun q q0 q1 => ?_)) (fun q q0 q1 => ?_)
              · rw [fs_cp_o (by omega), fs_cp_o (by omega), fs_cp_o (by omega), f4 r (by omega) (by omega)]
                exact f3 r (by omega)
              · rw [f4 21 (by decide) (by decide), f4 22 (by decide) (by decide), f4 23 (by decide) (by decide), f4 24 (by decide) (by decide), f4 25 (by decide) (by decide)]
                exact a3 q q0 (by omega)
              · rw [fs_cp_o q3, fs_cp_o q2, fs_cp_o q1]
              · rw [fs_cp_o (by decide), fs_cp_o (by decide), fs_cp_i q0 q1, k7]
              · rw [fs_cp_o (by decide), fs_cp_i q0 q1, fs_cp_o (by decide), k8]
              · rw [fs_cp_i q0 q1, fs_cp_o (by decide), fs_cp_o (by decide), k9]
              · rw [fs_cp_o (by decide), fs_cp_o (by decide), fs_cp_o (by decide)]
                exact z0 q q0 q1
            have k7 : M4 7 = M 7 := (f4 7 (by decide) (by decide)).trans (f3 7 (by omega))
            have c0 : M4 7 ((i * 5) + 0) = N (10 + 5 * i + 0) := by rw [k7]; exact vfc i 0 (by omega) (by omega) (by omega) (by omega) (by omega)
            have c1 : M4 7 ((i * 5) + 1) = N (10 + 5 * i + 1) := by rw [k7]; exact vfc i 1 (by omega) (by omega) (by omega) (by omega) (by omega)
            have d0 := hfc i 0 (by omega) (by omega) (by omega) (by omega)
            have d1 := hfc i 1 (by omega) (by omega) (by omega) (by omega)
            have d2 := mn_from_b (h := i) hN (by omega)
            refine fs_r_call (sta := false) (idx := 79) (as := [.inr (.ref 5), .inl i, .inl 0]) (rest := [.inl i, .inr (.ref 27)]) (L1 := [some (.inr (.ref 20)), some (.inr (.ref 5)), some (.inl i)]) (st1 := [.inl 0, .inl i, .inr (.ref 5), .inl i, .inr (.ref 27)]) (M1 := M4) (ob := [20 < fs_N ∧ fs_kd 20 = 1]) rfl rfl rfl (fs_oc fs_ob20 trivial) rfl rfl (Nat.le_of_ble_eq_true rfl) ⟨Or.inr (Nat.le_of_ble_eq_true rfl), Or.inr fs_ob5⟩ (by decide) ?_
            refine fs_c_fact (by first | exact Or.inl rfl | exact Or.inr (Or.inl rfl) | assumption) (by omega) (by omega) ?_
            refine fs_r_call (sta := false) (idx := 79) (as := [.inr (.ref 5), .inl i, .inl 1]) (rest := [.inl (M4 7 ((i * 5) + 0)), .inl i, .inr (.ref 27)]) (L1 := [some (.inr (.ref 20)), some (.inr (.ref 5)), some (.inl i)]) (st1 := [.inl 1, .inl i, .inr (.ref 5), .inl (M4 7 ((i * 5) + 0)), .inl i, .inr (.ref 27)]) (M1 := M4) (ob := []) rfl rfl rfl trivial rfl rfl (Nat.le_of_ble_eq_true rfl) ⟨Or.inr (Nat.le_of_ble_eq_true rfl), Or.inr fs_ob5⟩ (by decide) ?_
            refine fs_c_fact (by first | exact Or.inl rfl | exact Or.inr (Or.inl rfl) | assumption) (by omega) (by omega) ?_
            refine fs_r_call (sta := false) (idx := 83) (as := [.inr (.ref 5), .inl i]) (rest := [.inl ((M4 7 ((i * 5) + 0)) - (M4 7 ((i * 5) + 1))), .inl i, .inr (.ref 27)]) (L1 := [some (.inr (.ref 20)), some (.inr (.ref 5)), some (.inl i)]) (st1 := [.inl i, .inr (.ref 5), .inl ((M4 7 ((i * 5) + 0)) - (M4 7 ((i * 5) + 1))), .inl i, .inr (.ref 27)]) (M1 := M4) (ob := [fs_rg ((M4 7 ((i * 5) + 0)) - (M4 7 ((i * 5) + 1)))]) rfl rfl rfl (fs_oc ⟨by omega, by omega⟩ trivial) rfl rfl (Nat.le_of_ble_eq_true rfl) ⟨Or.inr (Nat.le_of_ble_eq_true rfl), Or.inr fs_ob5⟩ (by decide) ?_
            refine fs_c_owedBy (N := N) (by exact hV4.fr (fun r q1 q2 => by first | rfl | (repeat rw [fs_up_other (by omega)]))) (by assumption) (by omega) ?_
            refine fs_r_call (sta := false) (idx := 86) (as := [.inr (.ref 5), .inl i]) (rest := [.inl i, .inr (.ref 28)]) (L1 := [some (.inr (.ref 20)), some (.inr (.ref 5)), some (.inl i)]) (st1 := [.inl i, .inr (.ref 5), .inl i, .inr (.ref 28)]) (M1 := (fs_up M4 27 i (((M4 7 ((i * 5) + 0)) - (M4 7 ((i * 5) + 1))) - (mm_from N i)))) (ob := [fs_rg (((M4 7 ((i * 5) + 0)) - (M4 7 ((i * 5) + 1))) - (mm_from N i)), (27 < fs_N ∧ fs_kd 27 = 100) ∧ (0 : Int) ≤ i ∧ i < fs_ln 27, 20 < fs_N ∧ fs_kd 20 = 1]) rfl rfl rfl (fs_oc ⟨by omega, by omega⟩ (fs_oc (fs_ar27 (by omega) (by omega)) (fs_oc fs_ob20 trivial))) rfl rfl (Nat.le_of_ble_eq_true rfl) ⟨Or.inr (Nat.le_of_ble_eq_true rfl), Or.inr fs_ob5⟩ (by decide) ?_
            refine fs_c_piecesOf (N := N) (by exact hV4.fr (fun r q1 q2 => by first | rfl | (repeat rw [fs_up_other (by omega)]))) (by assumption) (by omega) ?_
            refine fs_r_goto (L1 := [some (.inr (.ref 20)), some (.inr (.ref 5)), some (.inl (i + 1))]) (st1 := []) (M1 := (fs_up (fs_up M4 27 i (((M4 7 ((i * 5) + 0)) - (M4 7 ((i * 5) + 1))) - (mm_from N i))) 28 i (mm_pieces N i))) (ob := [(28 < fs_N ∧ fs_kd 28 = 100) ∧ (0 : Int) ≤ i ∧ i < fs_ln 28, fs_rg (i + 1)]) rfl rfl (fs_oc (fs_ar28 (by omega) (by omega)) (fs_oc ⟨by omega, by omega⟩ trivial)) ?_
            exact ih103 ((i + 1)) (fs_up (fs_up M4 27 i (((M4 7 ((i * 5) + 0)) - (M4 7 ((i * 5) + 1))) - (mm_from N i))) 28 i (mm_pieces N i)) (by omega) (fun r q1 q2 => by rw [fs_up_other q2, fs_up_other q1]; exact f4 r q1 q2) (fun q q0 q1 => by
                   by_cases z : q = i
                   · subst z
                     refine ⟨?_, ?_⟩
                     · rw [fs_up_other (by decide), fs_up_at, if_pos rfl, c0, c1]
                     · rw [fs_up_at, if_pos rfl]
                   · obtain ⟨x1, x2⟩ := o4 q q0 (by omega)
                     refine ⟨?_, ?_⟩
                     · rw [fs_up_other (by decide), fs_up_at, if_neg z]
                       exact x1
                     · rw [fs_up_at, if_neg z, fs_up_other (by decide)]
                       exact x2) (by omega)
        exact loop103 (((N 1 - (0)) : Int) + 1).toNat (0) M3 (by omega) (fun r _ _ => rfl) (fun q _ _ => by omega) (by omega)
      have cv := vcv i (by omega) (by omega)
      have cb := hcv i (by omega) (by omega)
      have sh := mm_shock_b (a := i) hN
      have k6 := f3 6 (by omega)
      have b0 : M3 6 ((i * 2) + 0) = N (2 + i) := by rw [k6]; exact cv.1
      have b1 : M3 6 ((i * 2) + 1) = N (6 + i) := by rw [k6]; exact cv.2
      refine fs_r_call (sta := false) (idx := 63) (as := [.inr (.ref 5), .inl i]) (rest := [.inl i, .inr (.ref 21)]) (L1 := [some (.inr (.ref 20)), some (.inr (.ref 5)), some (.inl i)]) (st1 := [.inl i, .inr (.ref 5), .inl i, .inr (.ref 21)]) (M1 := M3) (ob := [20 < fs_N ∧ fs_kd 20 = 1]) rfl rfl rfl (fs_oc fs_ob20 trivial) rfl rfl (Nat.le_of_ble_eq_true rfl) ⟨Or.inr (Nat.le_of_ble_eq_true rfl), Or.inr fs_ob5⟩ (by decide) ?_
      refine fs_c_baseOf (by first | exact Or.inl rfl | exact Or.inr (Or.inl rfl) | assumption) (by omega) ?_
      refine fs_r_call (sta := false) (idx := 67) (as := [.inr (.ref 5), .inl i]) (rest := [.inl (M3 6 ((i * 2) + 0)), .inl i, .inr (.ref 21)]) (L1 := [some (.inr (.ref 20)), some (.inr (.ref 5)), some (.inl i)]) (st1 := [.inl i, .inr (.ref 5), .inl (M3 6 ((i * 2) + 0)), .inl i, .inr (.ref 21)]) (M1 := M3) (ob := []) rfl rfl rfl trivial rfl rfl (Nat.le_of_ble_eq_true rfl) ⟨Or.inr (Nat.le_of_ble_eq_true rfl), Or.inr fs_ob5⟩ (by decide) ?_
      refine fs_c_shocksOf (N := N) (by exact hV3.fr (fun r q1 q2 => by first | rfl | (repeat rw [fs_up_other (by omega)]))) (by assumption) ?_
      refine fs_r_call (sta := false) (idx := 70) (as := [.inr (.ref 5), .inl i]) (rest := [.inl i, .inr (.ref 22)]) (L1 := [some (.inr (.ref 20)), some (.inr (.ref 5)), some (.inl i)]) (st1 := [.inl i, .inr (.ref 5), .inl i, .inr (.ref 22)]) (M1 := (fs_up M3 21 i ((M3 6 ((i * 2) + 0)) - (mm_shock N i)))) (ob := [fs_rg ((M3 6 ((i * 2) + 0)) - (mm_shock N i)), (21 < fs_N ∧ fs_kd 21 = 100) ∧ (0 : Int) ≤ i ∧ i < fs_ln 21, 20 < fs_N ∧ fs_kd 20 = 1]) rfl rfl rfl (fs_oc ⟨by omega, by omega⟩ (fs_oc (fs_ar21 (by omega) (by omega)) (fs_oc fs_ob20 trivial))) rfl rfl (Nat.le_of_ble_eq_true rfl) ⟨Or.inr (Nat.le_of_ble_eq_true rfl), Or.inr fs_ob5⟩ (by decide) ?_
      refine fs_c_slopeOf (by first | exact Or.inl rfl | exact Or.inr (Or.inl rfl) | assumption) (by omega) ?_
      refine fs_r_call (sta := false) (idx := 73) (as := [.inr (.ref 5), .inl i]) (rest := [.inl i, .inr (.ref 23)]) (L1 := [some (.inr (.ref 20)), some (.inr (.ref 5)), some (.inl i)]) (st1 := [.inl i, .inr (.ref 5), .inl i, .inr (.ref 23)]) (M1 := (fs_up (fs_up M3 21 i ((M3 6 ((i * 2) + 0)) - (mm_shock N i))) 22 i (M3 6 ((i * 2) + 1)))) (ob := [(22 < fs_N ∧ fs_kd 22 = 100) ∧ (0 : Int) ≤ i ∧ i < fs_ln 22, 20 < fs_N ∧ fs_kd 20 = 1]) rfl rfl rfl (fs_oc (fs_ar22 (by omega) (by omega)) (fs_oc fs_ob20 trivial)) rfl rfl (Nat.le_of_ble_eq_true rfl) ⟨Or.inr (Nat.le_of_ble_eq_true rfl), Or.inr fs_ob5⟩ (by decide) ?_
      refine fs_c_capOf (N := N) (by exact hV3.fr (fun r q1 q2 => by first | rfl | (repeat rw [fs_up_other (by omega)]))) (by assumption) ?_
      refine fs_r_call (sta := false) (idx := 76) (as := [.inr (.ref 5), .inl i]) (rest := [.inl i, .inr (.ref 25)]) (L1 := [some (.inr (.ref 20)), some (.inr (.ref 5)), some (.inl i)]) (st1 := [.inl i, .inr (.ref 5), .inl i, .inr (.ref 25)]) (M1 := (fs_up (fs_up (fs_up (fs_up M3 21 i ((M3 6 ((i * 2) + 0)) - (mm_shock N i))) 22 i (M3 6 ((i * 2) + 1))) 23 i (mm_cap N i)) 24 i 0)) (ob := [(23 < fs_N ∧ fs_kd 23 = 100) ∧ (0 : Int) ≤ i ∧ i < fs_ln 23, 20 < fs_N ∧ fs_kd 20 = 1, (24 < fs_N ∧ fs_kd 24 = 100) ∧ (0 : Int) ≤ i ∧ i < fs_ln 24, 20 < fs_N ∧ fs_kd 20 = 1]) rfl rfl (fs_exA 6 (o1 := [(23 < fs_N ∧ fs_kd 23 = 100) ∧ (0 : Int) ≤ i ∧ i < fs_ln 23, 20 < fs_N ∧ fs_kd 20 = 1, (24 < fs_N ∧ fs_kd 24 = 100) ∧ (0 : Int) ≤ i ∧ i < fs_ln 24]) (L1 := [some (.inr (.ref 20)), some (.inr (.ref 5)), some (.inl i)]) (st1 := []) (M1 := (fs_up (fs_up (fs_up (fs_up M3 21 i ((M3 6 ((i * 2) + 0)) - (mm_shock N i))) 22 i (M3 6 ((i * 2) + 1))) 23 i (mm_cap N i)) 24 i 0)) (o2 := [20 < fs_N ∧ fs_kd 20 = 1]) rfl rfl) (fs_oc (fs_ar23 (by omega) (by omega)) (fs_oc fs_ob20 (fs_oc (fs_ar24 (by omega) (by omega)) (fs_oc fs_ob20 trivial)))) rfl rfl (Nat.le_of_ble_eq_true rfl) ⟨Or.inr (Nat.le_of_ble_eq_true rfl), Or.inr fs_ob5⟩ (by decide) ?_
      refine fs_c_heldOf (N := N) (by exact hV3.fr (fun r q1 q2 => by first | rfl | (repeat rw [fs_up_other (by omega)]))) (by assumption) (by omega) ?_
      refine fs_r_goto (L1 := [some (.inr (.ref 20)), some (.inr (.ref 5)), some (.inl (i + 1))]) (st1 := []) (M1 := (fs_up (fs_up (fs_up (fs_up (fs_up M3 21 i ((M3 6 ((i * 2) + 0)) - (mm_shock N i))) 22 i (M3 6 ((i * 2) + 1))) 23 i (mm_cap N i)) 24 i 0) 25 i (mm_held N i))) (ob := [(25 < fs_N ∧ fs_kd 25 = 100) ∧ (0 : Int) ≤ i ∧ i < fs_ln 25, fs_rg (i + 1)]) rfl rfl (fs_oc (fs_ar25 (by omega) (by omega)) (fs_oc ⟨by omega, by omega⟩ trivial)) ?_
      exact ih30 ((i + 1)) (fs_up (fs_up (fs_up (fs_up (fs_up M3 21 i ((M3 6 ((i * 2) + 0)) - (mm_shock N i))) 22 i (M3 6 ((i * 2) + 1))) 23 i (mm_cap N i)) 24 i 0) 25 i (mm_held N i)) (by omega) (fun r q => by (repeat rw [fs_up_other (by omega)]); exact f3 r q) (by rw [fs_up_other (by decide), fs_up_other (by decide), fs_up_other (by decide), fs_up_other (by decide), fs_up_other (by decide)]; exact h3) (fun q q0 q1 => by
             by_cases z : q = i
             · subst z
               refine ⟨?_, ?_, ?_, ?_, ?_⟩
               · rw [fs_up_other (by decide), fs_up_other (by decide), fs_up_other (by decide), fs_up_other (by decide), fs_up_at, if_pos rfl, b0]
               · rw [fs_up_other (by decide), fs_up_other (by decide), fs_up_other (by decide), fs_up_at, if_pos rfl]
                 exact b1
               · rw [fs_up_other (by decide), fs_up_other (by decide), fs_up_at, if_pos rfl]
               · rw [fs_up_other (by decide), fs_up_at, if_pos rfl]
               · rw [fs_up_at, if_pos rfl]
             · obtain ⟨x1, x2, x3, x4, x5⟩ := a3 q q0 (by omega)
               refine ⟨?_, ?_, ?_, ?_, ?_⟩
               · rw [fs_up_other (by decide), fs_up_other (by decide), fs_up_other (by decide), fs_up_other (by decide), fs_up_at, if_neg z]
                 exact x1
               · rw [fs_up_other (by decide), fs_up_other (by decide), fs_up_other (by decide), fs_up_at, if_neg z, fs_up_other (by decide)]
                 exact x2
               · rw [fs_up_other (by decide), fs_up_other (by decide), fs_up_at, if_neg z, fs_up_other (by decide), fs_up_other (by decide)]
                 exact x3
               · rw [fs_up_other (by decide), fs_up_at, if_neg z, fs_up_other (by decide), fs_up_other (by decide), fs_up_other (by decide)]
                 exact x4
               · rw [fs_up_at, if_neg z, fs_up_other (by decide), fs_up_other (by decide), fs_up_other (by decide), fs_up_other (by decide)]
                 exact x5) (fun q q0 q1 => by rw [fs_up_at, if_neg (by omega), fs_up_other (by decide), fs_up_other (by decide), fs_up_other (by decide), fs_up_other (by decide)]; exact z3 q (by omega) q1) (by omega)
  exact loop30 (((N 0 - (0)) : Int) + 1).toNat (0) (fs_cl (fs_up (fs_up (fs_up M 20 0 (M 5 0)) 20 1 (M 5 1)) 20 2 0) 25 4) (by omega) (fun r q => by rw [fs_cl_o (by omega)]; (repeat rw [fs_up_other (by omega)])) (by rw [fs_cl_o (by decide), fs_up_at, fs_up_at, fs_up_at, fs_up_at, fs_up_at, fs_up_at]; exact ⟨v0, v1, rfl⟩) (fun q _ _ => by omega) (fun q q0 q1 => by rw [fs_cl_i (by omega) q1]) (by omega)

theorem fs_c_stressTo {d : Nat} {M : fs_M} {Q : Option fs_V → fs_M → Prop} {v : Int} {N : Int → Int} (hV : vw 5 M N) (hN : fs_NI N) (h0 : M 20 0 = N 0) (hv : 0 ≤ v ∧ v ≤ 100) (hq0 : ∀ (M2 : fs_M), (∀ r, r ≠ 21 → M2 r = M r) → (∀ q, 0 ≤ q → q < N 0 → M2 21 q = N (2 + q) * v / 100 - mm_shock N q) → Q none M2) : fs_W (d + 2) 34 0 [some (.inr (.ref 20)), some (.inr (.ref 5)), some (.inl v), none, none] [] M Q := by
  obtain ⟨v0, v1, vcv, vfc, vhd, vln, vlc, vit⟩ := vw5 hV
  obtain ⟨⟨hA0, hA1⟩, ⟨hH0, hH1⟩, hcv, hfc, hhd, hln, hsh, hit, hst⟩ := id hN
  refine fs_r_nop (L1 := [some (.inr (.ref 20)), some (.inr (.ref 5)), some (.inl v), some (.inl 0), none]) (st1 := []) (M1 := M) (ob := [3 < 5]) rfl rfl (fs_oc (by decide) trivial) ?_
  have loop2 : ∀ (n2 : Nat) (i : Int) (zl4 : Option fs_V) (M3 : fs_M), (0 ≤ i ∧ i ≤ N 0) → (∀ r, r ≠ 21 → M3 r = M r) → (∀ q, 0 ≤ q → q < i → M3 21 q = N (2 + q) * v / 100 - mm_shock N q) → N 0 - i < (n2 : Int) → fs_W (d + 2) 34 2 [some (.inr (.ref 20)), some (.inr (.ref 5)), some (.inl v), some (.inl i), zl4] [] M3 Q := by
    intro n2
    induction n2 with
    | zero =>
      intro i zl4 M3 i0 f3 p3 hm2
      exfalso
      omega
    | succ n2 ih2 =>
      intro i zl4 M3 i0 f3 p3 hm2
      have hV3 : vw 5 M3 N := hV.fr (fun r q1 q2 => f3 r (by omega))
      have g0 : M3 20 0 = N 0 := by rw [f3 20 (by decide)]; exact h0
      refine fs_r_icmp (a := i) (y := (M3 20 0)) (L1 := [some (.inr (.ref 20)), some (.inr (.ref 5)), some (.inl v), some (.inl i), zl4]) (st1 := []) (M1 := M3) (ob := [20 < fs_N ∧ fs_kd 20 = 1]) rfl rfl (fs_oc fs_ob20 trivial) (fun (h1 : (M3 20 0) ≤ i) => ?_) (fun (h1 : ¬ ((M3 20 0) ≤ i)) => ?_)
      · refine fs_r_ret (L1 := [some (.inr (.ref 20)), some (.inr (.ref 5)), some (.inl v), some (.inl i), zl4]) (M1 := M3) (ob := []) rfl rfl trivial ?_
        exact hq0 _ f3 (fun q q0 q1 => p3 q q0 (by omega))
      have cv := vcv i (by omega) (by omega)
      have cb := hcv i (by omega) (by omega)
      have sh := mm_shock_b (a := i) hN
      have b0 : M3 6 ((i * 2) + 0) = N (2 + i) := by rw [f3 6 (by decide)]; exact cv.1
      have mu : 0 ≤ M3 6 ((i * 2) + 0) * v ∧ M3 6 ((i * 2) + 0) * v ≤ 200 * 100 := by rw [b0]; exact ⟨Int.mul_nonneg cb.1.1 hv.1, Int.mul_le_mul cb.1.2 hv.2 hv.1 (by omega)⟩
      refine fs_r_call (sta := false) (idx := 63) (as := [.inr (.ref 5), .inl i]) (rest := []) (L1 := [some (.inr (.ref 20)), some (.inr (.ref 5)), some (.inl v), some (.inl i), zl4]) (st1 := [.inl i, .inr (.ref 5)]) (M1 := M3) (ob := []) rfl rfl rfl trivial rfl rfl (Nat.le_of_ble_eq_true rfl) ⟨Or.inr (Nat.le_of_ble_eq_true rfl), Or.inr fs_ob5⟩ (by decide) ?_
      refine fs_c_baseOf (by first | exact Or.inl rfl | exact Or.inr (Or.inl rfl) | assumption) (by omega) ?_
      refine fs_r_call (sta := false) (idx := 67) (as := [.inr (.ref 5), .inl i]) (rest := [.inl (((M3 6 ((i * 2) + 0)) * v) / 100), .inl i, .inr (.ref 21)]) (L1 := [some (.inr (.ref 20)), some (.inr (.ref 5)), some (.inl v), some (.inl i), some (.inl (((M3 6 ((i * 2) + 0)) * v) / 100))]) (st1 := [.inl i, .inr (.ref 5), .inl (((M3 6 ((i * 2) + 0)) * v) / 100), .inl i, .inr (.ref 21)]) (M1 := M3) (ob := [fs_rg ((M3 6 ((i * 2) + 0)) * v), (0 : Int) ≤ ((M3 6 ((i * 2) + 0)) * v), (0 : Int) < 100, 4 < 5, 20 < fs_N ∧ fs_kd 20 = 1]) rfl rfl (fs_exA 6 (o1 := [fs_rg ((M3 6 ((i * 2) + 0)) * v), (0 : Int) ≤ ((M3 6 ((i * 2) + 0)) * v), (0 : Int) < 100, 4 < 5]) (L1 := [some (.inr (.ref 20)), some (.inr (.ref 5)), some (.inl v), some (.inl i), some (.inl (((M3 6 ((i * 2) + 0)) * v) / 100))]) (st1 := [.inr (.ref 20)]) (M1 := M3) (o2 := [20 < fs_N ∧ fs_kd 20 = 1]) rfl rfl) (fs_oc ⟨by omega, by omega⟩ (fs_oc (by omega) (fs_oc (by omega) (fs_oc (by decide) (fs_oc fs_ob20 trivial))))) rfl rfl (Nat.le_of_ble_eq_true rfl) ⟨Or.inr (Nat.le_of_ble_eq_true rfl), Or.inr fs_ob5⟩ (by decide) ?_
      refine fs_c_shocksOf (N := N) (by exact hV3.fr (fun r q1 q2 => by first | rfl | (repeat rw [fs_up_other (by omega)]))) (by assumption) ?_
      refine fs_r_goto (L1 := [some (.inr (.ref 20)), some (.inr (.ref 5)), some (.inl v), some (.inl (i + 1)), some (.inl (((M3 6 ((i * 2) + 0)) * v) / 100))]) (st1 := []) (M1 := (fs_up M3 21 i ((((M3 6 ((i * 2) + 0)) * v) / 100) - (mm_shock N i)))) (ob := [fs_rg ((((M3 6 ((i * 2) + 0)) * v) / 100) - (mm_shock N i)), (21 < fs_N ∧ fs_kd 21 = 100) ∧ (0 : Int) ≤ i ∧ i < fs_ln 21, fs_rg (i + 1)]) rfl rfl (fs_oc ⟨by omega, by omega⟩ (fs_oc (fs_ar21 (by omega) (by omega)) (fs_oc ⟨by omega, by omega⟩ trivial))) ?_
      exact ih2 ((i + 1)) (some (.inl (((M3 6 ((i * 2) + 0)) * v) / 100))) (fs_up M3 21 i ((((M3 6 ((i * 2) + 0)) * v) / 100) - (mm_shock N i))) (by omega) (fun r q => by rw [fs_up_other q]; exact f3 r q) (fun q q0 q1 => by rw [fs_up_at]; by_cases z : q = i; (rw [if_pos z, z, b0]); (rw [if_neg z]; exact p3 q q0 (by omega))) (by omega)
  exact loop2 (((N 0 - (0)) : Int) + 1).toNat (0) (none) M (by omega) (fun r _ => rfl) (fun q _ _ => by omega) (by omega)
