theorem fs_c_spellBook {d : Nat} {M : fs_M} {Q : Option fs_V → fs_M → Prop}  {N : Int → Int} (hV : vw 5 M N) (hN : fs_NI N) (hZ : fs_NZ N) (hX : fs_NX N) (hq0 : ∀ (M2 : fs_M), (spf M M2) → (SP M2 (spL N)) → Q none M2) : fs_W (d + 6) 49 0 [some (.inr (.ref 3)), some (.inr (.ref 5)), none, none] [] M Q := by
  obtain ⟨v0, v1, vcv, vfc, vhd, vln, vlc, vit⟩ := vw5 hV
  obtain ⟨⟨hA0, hA1⟩, ⟨hH0, hH1⟩, hcv, hfc, hhd, hln, hsh, hit, hst⟩ := id hN
  have w0 := wdL_n.1
  have aB := flL_b (f := sA N) (b := 12) (N 0).toNat (fun i i0 i1 => sA_b hN ⟨i0, by omega⟩)
  have hB := flL_b (f := sH N) (b := 38) (N 1).toNat (fun i i0 i1 => sH_b hN ⟨i0, by omega⟩)
  have lB := sLL_b hN hZ (N 1).toNat (by omega)
  have s0 := hsh 0 (by omega) (by omega)
  have i0B := flL_b (f := sI N 0) (b := 12) (N (100 + 13 * 0)).toNat (fun i i0 i1 => sI_b hN (Or.inl rfl) ⟨i0, by omega⟩ (hX 0 i (by omega) (by omega) i0 (by omega)))
  refine fs_r_nop (L1 := [some (.inr (.ref 3)), some (.inr (.ref 5)), some (.inl 0), none]) (st1 := []) (M1 := (fs_up M 3 1 0)) (ob := [3 < fs_N ∧ fs_kd 3 = 2, 2 < 4]) rfl rfl (fs_oc fs_ob3 (fs_oc (by decide) trivial)) ?_
  have loop7 : ∀ (n7 : Nat) (a : Int) (zl3 : Option fs_V) (M3 : fs_M), (0 ≤ a ∧ a ≤ N 0) → (spf M M3) → (SP M3 (flL a.toNat (sA N))) → N 0 - a < (n7 : Int) → fs_W (d + 6) 49 7 [some (.inr (.ref 3)), some (.inr (.ref 5)), some (.inl a), zl3] [] M3 Q := by
    intro n7
    induction n7 with
    | zero =>
      intro a zl3 M3 i3 f3 p3 hm7
      exfalso
      omega
    | succ n7 ih7 =>
      intro a zl3 M3 i3 f3 p3 hm7
      have g50 : M3 5 0 = N 0 := by rw [f3 5 (by decide) (by decide)]; exact v0
      refine fs_r_icmp (a := a) (y := (M3 5 0)) (L1 := [some (.inr (.ref 3)), some (.inr (.ref 5)), some (.inl a), zl3]) (st1 := []) (M1 := M3) (ob := [5 < fs_N ∧ fs_kd 5 = 0]) rfl rfl (fs_oc fs_ob5 trivial) (fun (h1 : (M3 5 0) ≤ a) => ?_) (fun (h1 : ¬ ((M3 5 0) ≤ a)) => ?_)
      · refine fs_r_nop (L1 := [some (.inr (.ref 3)), some (.inr (.ref 5)), some (.inl 0), zl3]) (st1 := []) (M1 := M3) (ob := [2 < 4]) rfl rfl (fs_oc (by decide) trivial) ?_
        have loop53 : ∀ (n53 : Nat) (h : Int) (zl3 : Option fs_V) (M4 : fs_M), (0 ≤ h ∧ h ≤ N 1) → (spf M M4) → (SP M4 (flL (N 0).toNat (sA N) ++ flL h.toNat (sH N))) → N 1 - h < (n53 : Int) → fs_W (d + 6) 49 53 [some (.inr (.ref 3)), some (.inr (.ref 5)), some (.inl h), zl3] [] M4 Q := by
          intro n53
          induction n53 with
          | zero =>
            intro h zl3 M4 i4 f4 p4 hm53
            exfalso
            omega
          | succ n53 ih53 =>
            intro h zl3 M4 i4 f4 p4 hm53
            have g51 : M4 5 1 = N 1 := by rw [f4 5 (by decide) (by decide)]; exact v1
            refine fs_r_icmp (a := h) (y := (M4 5 1)) (L1 := [some (.inr (.ref 3)), some (.inr (.ref 5)), some (.inl h), zl3]) (st1 := []) (M1 := M4) (ob := [5 < fs_N ∧ fs_kd 5 = 0]) rfl rfl (fs_oc fs_ob5 trivial) (fun (h2 : (M4 5 1) ≤ h) => ?_) (fun (h2 : ¬ ((M4 5 1) ≤ h)) => ?_)
            · refine fs_r_nop (L1 := [some (.inr (.ref 3)), some (.inr (.ref 5)), some (.inl 0), zl3]) (st1 := []) (M1 := M4) (ob := [2 < 4]) rfl rfl (fs_oc (by decide) trivial) ?_
              have loop75 : ∀ (n75 : Nat) (x : Int) (zl3 : Option fs_V) (M5 : fs_M), (0 ≤ x ∧ x ≤ N 1) → (spf M M5) → (SP M5 (flL (N 0).toNat (sA N) ++ flL (N 1).toNat (sH N) ++ flL x.toNat (fun h => flL (N 1).toNat (sL N h)))) → N 1 - x < (n75 : Int) → fs_W (d + 6) 49 75 [some (.inr (.ref 3)), some (.inr (.ref 5)), some (.inl x), zl3] [] M5 Q := by
                intro n75
                induction n75 with
                | zero =>
                  intro x zl3 M5 i5 f5 p5 hm75
                  exfalso
                  omega
                | succ n75 ih75 =>
                  intro x zl3 M5 i5 f5 p5 hm75
                  have g51 : M5 5 1 = N 1 := by rw [f5 5 (by decide) (by decide)]; exact v1
                  have p5e : x = N 1 → SP M5 (flL (N 0).toNat (sA N) ++ flL (N 1).toNat (sH N) ++ flL (N 1).toNat (fun h => flL (N 1).toNat (sL N h))) := fun z => by { rw [z] at p5; exact p5 }
                  refine fs_r_icmp (a := x) (y := (M5 5 1)) (L1 := [some (.inr (.ref 3)), some (.inr (.ref 5)), some (.inl x), zl3]) (st1 := []) (M1 := M5) (ob := [5 < fs_N ∧ fs_kd 5 = 0]) rfl rfl (fs_oc fs_ob5 trivial) (fun (h3 : (M5 5 1) ≤ x) => ?_) (fun (h3 : ¬ ((M5 5 1) ≤ x)) => ?_)
                  · refine fs_r_call (sta := false) (idx := 57) (as := [.inr (.ref 3), .inr (.ref 5), .inl 0, .inr (.ref 1003)]) (rest := []) (L1 := [some (.inr (.ref 3)), some (.inr (.ref 5)), some (.inl x), zl3]) (st1 := [.inr (.ref 1003), .inl 0, .inr (.ref 5), .inr (.ref 3)]) (M1 := M5) (ob := []) rfl rfl rfl trivial rfl rfl (Nat.le_of_ble_eq_true rfl) ⟨Or.inr (Nat.le_of_ble_eq_true rfl), Or.inr fs_ob3⟩ (by decide) ?_
                    refine fs_c_spellShelf0 (N := N) (l := (flL (N 0).toNat (sA N) ++ flL (N 1).toNat (sH N) ++ flL (N 1).toNat (fun h => flL (N 1).toNat (sL N h)))) (p5e (by omega)) (f5.vw hV) (by assumption) (by assumption) (by rw [List.length_append, List.length_append]; omega) (fun (A7 : fs_M) (f7_ : spf M5 A7) (p7_ : SP A7 ((flL (N 0).toNat (sA N) ++ flL (N 1).toNat (sH N) ++ flL (N 1).toNat (fun h => flL (N 1).toNat (sL N h))) ++ flL (N (100 + 13 * 0)).toNat (sI N 0))) => ?_)
                    refine fs_r_call (sta := false) (idx := 57) (as := [.inr (.ref 3), .inr (.ref 5), .inl 1, .inr (.ref 1004)]) (rest := []) (L1 := [some (.inr (.ref 3)), some (.inr (.ref 5)), some (.inl x), zl3]) (st1 := [.inr (.ref 1004), .inl 1, .inr (.ref 5), .inr (.ref 3)]) (M1 := A7) (ob := []) rfl rfl rfl trivial rfl rfl (Nat.le_of_ble_eq_true rfl) ⟨Or.inr (Nat.le_of_ble_eq_true rfl), Or.inr fs_ob3⟩ (by decide) ?_
                    refine fs_c_spellShelf1 (N := N) (l := (flL (N 0).toNat (sA N) ++ flL (N 1).toNat (sH N) ++ flL (N 1).toNat (fun h => flL (N 1).toNat (sL N h)) ++ flL (N (100 + 13 * 0)).toNat (sI N 0))) (p7_) ((f5.tr f7_).vw hV) (by assumption) (by assumption) (by rw [List.length_append, List.length_append, List.length_append]; omega) (fun (A8 : fs_M) (f8_ : spf A7 A8) (p8_ : SP A8 ((flL (N 0).toNat (sA N) ++ flL (N 1).toNat (sH N) ++ flL (N 1).toNat (fun h => flL (N 1).toNat (sL N h)) ++ flL (N (100 + 13 * 0)).toNat (sI N 0)) ++ flL (N (100 + 13 * 1)).toNat (sI N 1))) => ?_)
                    refine fs_r_ret (L1 := [some (.inr (.ref 3)), some (.inr (.ref 5)), some (.inl x), zl3]) (M1 := A8) (ob := []) rfl rfl trivial ?_
                    exact hq0 _ ((f5.tr f7_).tr f8_) p8_
                  refine fs_r_nop (L1 := [some (.inr (.ref 3)), some (.inr (.ref 5)), some (.inl x), some (.inl 0)]) (st1 := []) (M1 := M5) (ob := [3 < 4]) rfl rfl (fs_oc (by decide) trivial) ?_
                  have loop85 : ∀ (n85 : Nat) (y : Int) (M6 : fs_M), (0 ≤ y ∧ y ≤ N 1) → (spf M M6) → (SP M6 (flL (N 0).toNat (sA N) ++ flL (N 1).toNat (sH N) ++ flL x.toNat (fun h => flL (N 1).toNat (sL N h)) ++ flL y.toNat (sL N x))) → N 1 - y < (n85 : Int) → fs_W (d + 6) 49 85 [some (.inr (.ref 3)), some (.inr (.ref 5)), some (.inl x), some (.inl y)] [] M6 Q := by
                    intro n85
                    induction n85 with
                    | zero =>
                      intro y M6 i6 f6 p6 hm85
                      exfalso
                      omega
                    | succ n85 ih85 =>
                      intro y M6 i6 f6 p6 hm85
                      have g52 : M6 5 1 = N 1 := by rw [f6 5 (by decide) (by decide)]; exact v1
                      refine fs_r_icmp (a := y) (y := (M6 5 1)) (L1 := [some (.inr (.ref 3)), some (.inr (.ref 5)), some (.inl x), some (.inl y)]) (st1 := []) (M1 := M6) (ob := [5 < fs_N ∧ fs_kd 5 = 0]) rfl rfl (fs_oc fs_ob5 trivial) (fun (h4 : (M6 5 1) ≤ y) => ?_) (fun (h4 : ¬ ((M6 5 1) ≤ y)) => ?_)
                      · refine fs_r_goto (L1 := [some (.inr (.ref 3)), some (.inr (.ref 5)), some (.inl (x + 1)), some (.inl y)]) (st1 := []) (M1 := M6) (ob := [fs_rg (x + 1)]) rfl rfl (fs_oc ⟨by omega, by omega⟩ trivial) ?_
                        exact ih75 ((x + 1)) (some (.inl y)) M6 (by omega) (f6) (by rw [flL_s i5.1, ← List.append_assoc]; have ea : y.toNat = (N 1).toNat := by { omega }; rw [ea] at p6; exact p6) (by omega)
                      have lb2 := sLL_b hN hZ x.toNat (by omega)
                      have ob2 := flL_b (f := sL N x) (b := 13) y.toNat (fun i i0 i1 => sL_b hN ⟨by omega, by omega⟩ ⟨i0, by omega⟩)
                      have fs := flL_s (f := sL N x) i6.1
                      have hVy := f6.vw hV
                      refine fs_r_call (sta := false) (idx := 51) (as := [.inr (.ref 3), .inr (.ref 5), .inl x, .inl y]) (rest := []) (L1 := [some (.inr (.ref 3)), some (.inr (.ref 5)), some (.inl x), some (.inl y)]) (st1 := [.inl y, .inl x, .inr (.ref 5), .inr (.ref 3)]) (M1 := M6) (ob := []) rfl rfl rfl trivial rfl rfl (Nat.le_of_ble_eq_true rfl) ⟨Or.inr (Nat.le_of_ble_eq_true rfl), Or.inr fs_ob3⟩ (by decide) ?_
                      refine fs_c_spellLoan (N := N) (l := (flL (N 0).toNat (sA N) ++ flL (N 1).toNat (sH N) ++ flL x.toNat (fun h => flL (N 1).toNat (sL N h)) ++ flL y.toNat (sL N x))) (p6) (f6.vw hV) (by assumption) (by rw [List.length_append, List.length_append, List.length_append]; omega) (by omega) (by omega) (fun (A6 : fs_M) (f6_ : spf M6 A6) (p6_ : SP A6 ((flL (N 0).toNat (sA N) ++ flL (N 1).toNat (sH N) ++ flL x.toNat (fun h => flL (N 1).toNat (sL N h)) ++ flL y.toNat (sL N x)) ++ sL N x y)) => ?_)
                      refine fs_r_goto (L1 := [some (.inr (.ref 3)), some (.inr (.ref 5)), some (.inl x), some (.inl (y + 1))]) (st1 := []) (M1 := A6) (ob := [fs_rg (y + 1)]) rfl rfl (fs_oc ⟨by omega, by omega⟩ trivial) ?_
                      exact ih85 ((y + 1)) A6 (by omega) (f6.tr f6_) (by rw [fs, ← List.append_assoc]; exact p6_) (by omega)
                  exact loop85 (((N 1 - (0)) : Int) + 1).toNat (0) M5 (by omega) (f5) (by rw [show Int.toNat 0 = 0 from rfl]; show SP _ (_ ++ []); rw [List.append_nil]; exact p5) (by omega)
              exact loop75 (((N 1 - (0)) : Int) + 1).toNat (0) (zl3) M4 (by omega) (f4) (by rw [show Int.toNat 0 = 0 from rfl]; show SP _ (_ ++ []); rw [List.append_nil]; have ea : h.toNat = (N 1).toNat := by { omega }; rw [ea] at p4; exact p4) (by omega)
            have hb2 := flL_b (f := sH N) (b := 38) h.toNat (fun i i0 i1 => sH_b hN ⟨i0, by omega⟩)
            have fs := flL_s (f := sH N) i4.1
            refine fs_r_call (sta := false) (idx := 47) (as := [.inr (.ref 3), .inr (.ref 5), .inl h]) (rest := []) (L1 := [some (.inr (.ref 3)), some (.inr (.ref 5)), some (.inl h), zl3]) (st1 := [.inl h, .inr (.ref 5), .inr (.ref 3)]) (M1 := M4) (ob := []) rfl rfl rfl trivial rfl rfl (Nat.le_of_ble_eq_true rfl) ⟨Or.inr (Nat.le_of_ble_eq_true rfl), Or.inr fs_ob3⟩ (by decide) ?_
            refine fs_c_spellHouse (N := N) (l := (flL (N 0).toNat (sA N) ++ flL h.toNat (sH N))) (p4) (f4.vw hV) (by assumption) (by rw [List.length_append]; omega) (by omega) (fun (A5 : fs_M) (f5_ : spf M4 A5) (p5_ : SP A5 ((flL (N 0).toNat (sA N) ++ flL h.toNat (sH N)) ++ sH N h)) => ?_)
            refine fs_r_goto (L1 := [some (.inr (.ref 3)), some (.inr (.ref 5)), some (.inl (h + 1)), zl3]) (st1 := []) (M1 := A5) (ob := [fs_rg (h + 1)]) rfl rfl (fs_oc ⟨by omega, by omega⟩ trivial) ?_
            exact ih53 ((h + 1)) (zl3) A5 (by omega) (f4.tr f5_) (by rw [fs, ← List.append_assoc]; exact p5_) (by omega)
        exact loop53 (((N 1 - (0)) : Int) + 1).toNat (0) (zl3) M3 (by omega) (f3) (by rw [show Int.toNat 0 = 0 from rfl]; show SP _ (_ ++ []); rw [List.append_nil]; have ea : a.toNat = (N 0).toNat := by { omega }; rw [ea] at p3; exact p3) (by omega)
      have ab := flL_b (f := sA N) (b := 12) a.toNat (fun i i0 i1 => sA_b hN ⟨i0, by omega⟩)
      have cv := vcv a (by omega) (by omega)
      have cb := hcv a (by omega) (by omega)
      have nb1 := (ndL_b (n := N (2 + a))).2.1 (by omega)
      have nb2 := (ndL_b (n := N (6 + a))).2.2.2 (by omega)
      have fs := flL_s (f := sA N) i3.1
      refine fs_r_call (sta := false) (idx := 26) (as := [.inr (.ref 3), .inr (.ref 1000)]) (rest := []) (L1 := [some (.inr (.ref 3)), some (.inr (.ref 5)), some (.inl a), zl3]) (st1 := [.inr (.ref 1000), .inr (.ref 3)]) (M1 := M3) (ob := []) rfl rfl rfl trivial rfl rfl (Nat.le_of_ble_eq_true rfl) ⟨Or.inr (Nat.le_of_ble_eq_true rfl), Or.inr fs_ob3⟩ (by decide) ?_
      refine fs_c_addWord0 (l := (flL a.toNat (sA N))) (p3) (by omega) (fun (A1 : fs_M) (f1_ : spf M3 A1) (p1_ : SP A1 ((flL a.toNat (sA N)) ++ wdL 0)) => ?_)
      have g1 : A1 6 ((a * 2) + 0) = N (2 + a) := by rw [f1_ 6 (by decide) (by decide), f3 6 (by decide) (by decide)]; exact cv.1
      refine fs_r_call (sta := false) (idx := 30) (as := [.inr (.ref 5), .inl a]) (rest := [.inr (.ref 3)]) (L1 := [some (.inr (.ref 3)), some (.inr (.ref 5)), some (.inl a), zl3]) (st1 := [.inl a, .inr (.ref 5), .inr (.ref 3)]) (M1 := A1) (ob := []) rfl rfl rfl trivial rfl rfl (Nat.le_of_ble_eq_true rfl) ⟨Or.inr (Nat.le_of_ble_eq_true rfl), Or.inr fs_ob5⟩ (by decide) ?_
      refine fs_c_baseOf (by first | exact Or.inl rfl | exact Or.inr (Or.inl rfl) | assumption) (by omega) ?_
      refine fs_r_call (sta := false) (idx := 34) (as := [.inr (.ref 3), .inl (A1 6 ((a * 2) + 0))]) (rest := []) (L1 := [some (.inr (.ref 3)), some (.inr (.ref 5)), some (.inl a), zl3]) (st1 := [.inl (A1 6 ((a * 2) + 0)), .inr (.ref 3)]) (M1 := A1) (ob := []) rfl rfl rfl trivial rfl rfl (Nat.le_of_ble_eq_true rfl) ⟨Or.inr (Nat.le_of_ble_eq_true rfl), Or.inr fs_ob3⟩ (by decide) ?_
      refine fs_c_addNumber (l := (flL a.toNat (sA N) ++ wdL 0)) (p1_) (by rw [List.length_append]; omega) (by rw [g1]; omega) (fun (A2 : fs_M) (f2_ : spf A1 A2) (p2_ : SP A2 ((flL a.toNat (sA N) ++ wdL 0) ++ ndL (A1 6 ((a * 2) + 0)))) => ?_)
      have g2 : A2 6 ((a * 2) + 1) = N (6 + a) := by rw [f2_ 6 (by decide) (by decide), f1_ 6 (by decide) (by decide), f3 6 (by decide) (by decide)]; exact cv.2
      refine fs_r_call (sta := false) (idx := 38) (as := [.inr (.ref 5), .inl a]) (rest := [.inr (.ref 3)]) (L1 := [some (.inr (.ref 3)), some (.inr (.ref 5)), some (.inl a), zl3]) (st1 := [.inl a, .inr (.ref 5), .inr (.ref 3)]) (M1 := A2) (ob := []) rfl rfl rfl trivial rfl rfl (Nat.le_of_ble_eq_true rfl) ⟨Or.inr (Nat.le_of_ble_eq_true rfl), Or.inr fs_ob5⟩ (by decide) ?_
      refine fs_c_slopeOf (by first | exact Or.inl rfl | exact Or.inr (Or.inl rfl) | assumption) (by omega) ?_
      refine fs_r_call (sta := false) (idx := 34) (as := [.inr (.ref 3), .inl (A2 6 ((a * 2) + 1))]) (rest := []) (L1 := [some (.inr (.ref 3)), some (.inr (.ref 5)), some (.inl a), zl3]) (st1 := [.inl (A2 6 ((a * 2) + 1)), .inr (.ref 3)]) (M1 := A2) (ob := []) rfl rfl rfl trivial rfl rfl (Nat.le_of_ble_eq_true rfl) ⟨Or.inr (Nat.le_of_ble_eq_true rfl), Or.inr fs_ob3⟩ (by decide) ?_
      refine fs_c_addNumber (l := (flL a.toNat (sA N) ++ wdL 0 ++ ndL (A1 6 ((a * 2) + 0)))) (p2_) (by rw [g1, List.length_append, List.length_append]; omega) (by rw [g2]; omega) (fun (A3 : fs_M) (f3_ : spf A2 A3) (p3_ : SP A3 ((flL a.toNat (sA N) ++ wdL 0 ++ ndL (A1 6 ((a * 2) + 0))) ++ ndL (A2 6 ((a * 2) + 1)))) => ?_)
      refine fs_r_call (sta := false) (idx := 41) (as := [.inr (.ref 3), .inl 59]) (rest := []) (L1 := [some (.inr (.ref 3)), some (.inr (.ref 5)), some (.inl a), zl3]) (st1 := [.inl 59, .inr (.ref 3)]) (M1 := A3) (ob := []) rfl rfl rfl trivial rfl rfl (Nat.le_of_ble_eq_true rfl) ⟨Or.inr (Nat.le_of_ble_eq_true rfl), Or.inr fs_ob3⟩ (by decide) ?_
      refine fs_c_addByte (l := (flL a.toNat (sA N) ++ wdL 0 ++ ndL (A1 6 ((a * 2) + 0)) ++ ndL (A2 6 ((a * 2) + 1)))) (p3_) (by rw [g1, g2, List.length_append, List.length_append, List.length_append]; omega) (fun (A4 : fs_M) (f4_ : spf A3 A4) (p4_ : SP A4 ((flL a.toNat (sA N) ++ wdL 0 ++ ndL (A1 6 ((a * 2) + 0)) ++ ndL (A2 6 ((a * 2) + 1))) ++ [59])) => ?_)
      refine fs_r_goto (L1 := [some (.inr (.ref 3)), some (.inr (.ref 5)), some (.inl (a + 1)), zl3]) (st1 := []) (M1 := A4) (ob := [fs_rg (a + 1)]) rfl rfl (fs_oc ⟨by omega, by omega⟩ trivial) ?_
      exact ih7 ((a + 1)) (zl3) A4 (by omega) ((((f3.tr f1_).tr f2_).tr f3_).tr f4_) (by
            rw [fs]
            rw [g1, g2] at p4_
            show SP _ (flL a.toNat (sA N) ++ (wdL 0 ++ ndL _ ++ ndL _ ++ [59]))
            simp only [List.append_assoc] at p4_ ⊢
            exact p4_) (by omega)
  exact loop7 (((N 0 - (0)) : Int) + 1).toNat (0) (none) (fs_up M 3 1 0) (by omega) (fun r q1 q2 => fs_up_other q1) (⟨by rw [fs_up_at, if_pos rfl]; rfl, fun k hk => absurd hk (by show ¬ k < 0; omega)⟩) (by omega)

theorem spL_b {N : Int → Int} (hN : fs_NI N) (hZ : fs_NZ N) (hX : fs_NX N) : (spL N).length ≤ 762 := by
  have hA := hN.1
  have hH := hN.2.1
  have aB := flL_b (f := sA N) (b := 12) (N 0).toNat (fun i i0 i1 => sA_b hN ⟨i0, by omega⟩)
  have hB := flL_b (f := sH N) (b := 38) (N 1).toNat (fun i i0 i1 => sH_b hN ⟨i0, by omega⟩)
  have lB := sLL_b hN hZ (N 1).toNat (by omega)
  have s0 := hN.2.2.2.2.2.2.1 0 (by omega) (by omega)
  have s1 := hN.2.2.2.2.2.2.1 1 (by omega) (by omega)
  have i0B := flL_b (f := sI N 0) (b := 12) (N (100 + 13 * 0)).toNat (fun i i0 i1 => sI_b hN (Or.inl rfl) ⟨i0, by omega⟩ (hX 0 i (by omega) (by omega) i0 (by omega)))
  have i1B := flL_b (f := sI N 1) (b := 12) (N (100 + 13 * 1)).toNat (fun i i0 i1 => sI_b hN (Or.inr rfl) ⟨i0, by omega⟩ (hX 1 i (by omega) (by omega) i0 (by omega)))
  show (flL (N 0).toNat (sA N) ++ flL (N 1).toNat (sH N) ++ flL (N 1).toNat (fun h => flL (N 1).toNat (sL N h)) ++ flL (N (100 + 13 * 0)).toNat (sI N 0) ++ flL (N (100 + 13 * 1)).toNat (sI N 1)).length ≤ 762
  simp only [List.length_append]
  omega
def rq_spell (N : Int → Int) (i : Int) : Int := if i < -1 then -1 else if i = -1 then ((spL N).length : Int) else if i < ((spL N).length : Int) then (spL N).getD i.toNat 0 else -2
theorem fs_c_spell {d : Nat} {M : fs_M} {Q : Option fs_V → fs_M → Prop} {i : Int} {N : Int → Int} (hV : vw 5 M N) (hN : fs_NI N) (hZ : fs_NZ N) (hX : fs_NX N) (hq0 : ∀ (M2 : fs_M), (cq M M2) → Q (some (.inl (rq_spell N i))) M2) : fs_W (d + 7) 128 0 [some (.inr (.ref 0)), some (.inl i)] [] M Q := by
  have lb := spL_b hN hZ hX
  refine fs_r_icmp (a := i) (y := (-1)) (L1 := [some (.inr (.ref 0)), some (.inl i)]) (st1 := []) (M1 := M) (ob := []) rfl rfl trivial (fun (h1 : (-1) ≤ i) => ?_) (fun (h1 : ¬ ((-1) ≤ i)) => ?_)
  · refine fs_r_call (sta := false) (idx := 361) (as := [.inr (.ref 3), .inr (.ref 5)]) (rest := []) (L1 := [some (.inr (.ref 0)), some (.inl i)]) (st1 := [.inr (.ref 5), .inr (.ref 3)]) (M1 := M) (ob := [0 < fs_N ∧ fs_kd 0 = 5, 0 < fs_N ∧ fs_kd 0 = 5]) rfl rfl rfl (fs_oc fs_ob0 (fs_oc fs_ob0 trivial)) rfl rfl (Nat.le_of_ble_eq_true rfl) ⟨Or.inr (Nat.le_of_ble_eq_true rfl), Or.inr fs_ob3⟩ (by decide) ?_
    refine fs_c_spellBook (N := N) (by assumption) (by assumption) (by assumption) (by assumption) (fun (V : fs_M) (pf : spf M V) (pp : SP V (spL N)) => ?_)
    obtain ⟨p1, p2⟩ := id pp
    refine fs_r_icmp (a := i) (y := (-1)) (L1 := [some (.inr (.ref 0)), some (.inl i)]) (st1 := []) (M1 := V) (ob := []) rfl rfl trivial (fun (h2 : ¬ i = (-1)) => ?_) (fun (h2 : ¬ (¬ i = (-1))) => ?_)
    · refine fs_r_icmp (a := i) (y := (V 3 1)) (L1 := [some (.inr (.ref 0)), some (.inl i)]) (st1 := []) (M1 := V) (ob := [0 < fs_N ∧ fs_kd 0 = 5, 3 < fs_N ∧ fs_kd 3 = 2]) rfl rfl (fs_oc fs_ob0 (fs_oc fs_ob3 trivial)) (fun (h3 : (V 3 1) ≤ i) => ?_) (fun (h3 : ¬ ((V 3 1) ≤ i)) => ?_)
      · refine fs_r_nop (L1 := [some (.inr (.ref 0)), some (.inl i)]) (st1 := [.inl (-2)]) (M1 := V) (ob := []) rfl rfl trivial ?_
        refine fs_r_iret (a := (-2)) (L1 := [some (.inr (.ref 0)), some (.inl i)]) (M1 := V) (ob := []) rfl rfl trivial (Or.inl rfl) ?_
        first
          | exact fs_qi (by unfold rq_spell; rw [if_neg (by omega), if_neg (by omega), if_neg (by omega)]) (hq0 _ (fun r z => pf r (by omega) (by omega)))
          | exact fs_qi (by unfold rq_spell; rw [if_neg (by omega), if_neg (by omega), if_pos (by omega)]; have w := p2 i.toNat (by omega); rw [show ((i.toNat : Nat) : Int) = i by omega] at w; exact w) (hq0 _ (fun r z => pf r (by omega) (by omega)))
      refine fs_r_goto (L1 := [some (.inr (.ref 0)), some (.inl i)]) (st1 := [.inl (V 4 i)]) (M1 := V) (ob := [0 < fs_N ∧ fs_kd 0 = 5, 3 < fs_N ∧ fs_kd 3 = 2, (4 < fs_N ∧ fs_kd 4 = 100) ∧ (0 : Int) ≤ i ∧ i < fs_ln 4]) rfl rfl (fs_oc fs_ob0 (fs_oc fs_ob3 (fs_oc (fs_ar4 (by omega) (by omega)) trivial))) ?_
      refine fs_r_iret (a := (V 4 i)) (L1 := [some (.inr (.ref 0)), some (.inl i)]) (M1 := V) (ob := []) rfl rfl trivial (Or.inl rfl) ?_
      first
        | exact fs_qi (by unfold rq_spell; rw [if_neg (by omega), if_neg (by omega), if_neg (by omega)]) (hq0 _ (fun r z => pf r (by omega) (by omega)))
        | exact fs_qi (by unfold rq_spell; rw [if_neg (by omega), if_neg (by omega), if_pos (by omega)]; have w := p2 i.toNat (by omega); rw [show ((i.toNat : Nat) : Int) = i by omega] at w; exact w) (hq0 _ (fun r z => pf r (by omega) (by omega)))
    refine fs_r_iret (a := (V 3 1)) (L1 := [some (.inr (.ref 0)), some (.inl i)]) (M1 := V) (ob := [0 < fs_N ∧ fs_kd 0 = 5, 3 < fs_N ∧ fs_kd 3 = 2]) rfl rfl (fs_oc fs_ob0 (fs_oc fs_ob3 trivial)) (Or.inl rfl) ?_
    exact fs_qi (by unfold rq_spell; rw [if_neg (by omega), if_pos (by omega)]; exact p1) (hq0 _ (fun r z => pf r (by omega) (by omega)))
  refine fs_r_iret (a := (-1)) (L1 := [some (.inr (.ref 0)), some (.inl i)]) (M1 := M) (ob := []) rfl rfl trivial (Or.inl rfl) ?_
  exact fs_qi (by unfold rq_spell; rw [if_pos (by omega)]) (hq0 _ cq.rf)
