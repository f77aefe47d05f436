theorem fs_c_spellLoan {d : Nat} {M : fs_M} {Q : Option fs_V → fs_M → Prop} {h : Int} {o : Int} {N : Int → Int} {l : List Int} (hP : SP M l) (hV : vw 5 M N) (hN : fs_NI N) (hl : l.length + 13 ≤ 800) (hh : 0 ≤ h ∧ h < N 1) (ho : 0 ≤ o ∧ o < N 1) (hq0 : ∀ (M2 : fs_M), (spf M M2) → (SP M2 (l ++ sL N h o)) → Q none M2) : fs_W (d + 5) 51 0 [some (.inr (.ref 3)), some (.inr (.ref 5)), some (.inl h), some (.inl o)] [] M Q := by
  obtain ⟨v0, v1, vcv, vfc, vhd, vln, vlc, vit⟩ := vw5 hV
  obtain ⟨⟨hA0, hA1⟩, ⟨hH0, hH1⟩, hcv, hfc, hhd, hln, hsh, hit, hst⟩ := id hN
  have q := vln h o (by omega) (by omega) (by omega) (by omega)
  have qb := hln h o (by omega) (by omega) (by omega) (by omega)
  have w2 := wdL_n.2.2.1
  have b1 := (ndL_b (n := h)).1
  have b2 := (ndL_b (n := o)).2.2.2 (by omega)
  have b3 := (ndL_b (n := N (64 + 6 * h + o))).2.1 (by omega)
  have b4 := (ndL_b (n := h)).2.2.2 (by omega)
  refine fs_r_call (sta := false) (idx := 72) (as := [.inr (.ref 5), .inl h, .inl o]) (rest := []) (L1 := [some (.inr (.ref 3)), some (.inr (.ref 5)), some (.inl h), some (.inl o)]) (st1 := [.inl o, .inl h, .inr (.ref 5)]) (M1 := M) (ob := []) rfl rfl rfl trivial rfl rfl (Nat.le_of_ble_eq_true rfl) ⟨Or.inr (Nat.le_of_ble_eq_true rfl), Or.inr fs_ob5⟩ (by decide) ?_
  refine fs_c_loanOf (by first | exact Or.inl rfl | exact Or.inr (Or.inl rfl) | assumption) (by omega) (by omega) ?_
  refine fs_r_if (a := (M 9 ((h * 6) + o))) (L1 := [some (.inr (.ref 3)), some (.inr (.ref 5)), some (.inl h), some (.inl o)]) (st1 := []) (M1 := M) (ob := []) rfl rfl trivial (fun (h1 : ¬ (M 9 ((h * 6) + o)) = 0) => ?_) (fun (h1 : ¬ (¬ (M 9 ((h * 6) + o)) = 0)) => ?_)
  · refine fs_r_call (sta := false) (idx := 26) (as := [.inr (.ref 3), .inr (.ref 1002)]) (rest := []) (L1 := [some (.inr (.ref 3)), some (.inr (.ref 5)), some (.inl h), some (.inl o)]) (st1 := [.inr (.ref 1002), .inr (.ref 3)]) (M1 := M) (ob := []) rfl rfl rfl trivial rfl rfl (Nat.le_of_ble_eq_true rfl) ⟨Or.inr (Nat.le_of_ble_eq_true rfl), Or.inr fs_ob3⟩ (by decide) ?_
    refine fs_c_addWord2 (l := l) (by assumption) (by omega) (fun (A1 : fs_M) (f1_ : spf M A1) (p1_ : SP A1 (l ++ wdL 2)) => ?_)
    refine fs_r_call (sta := false) (idx := 34) (as := [.inr (.ref 3), .inl h]) (rest := []) (L1 := [some (.inr (.ref 3)), some (.inr (.ref 5)), some (.inl h), some (.inl o)]) (st1 := [.inl h, .inr (.ref 3)]) (M1 := A1) (ob := []) rfl rfl rfl trivial rfl rfl (Nat.le_of_ble_eq_true rfl) ⟨Or.inr (Nat.le_of_ble_eq_true rfl), Or.inr fs_ob3⟩ (by decide) ?_
    refine fs_c_addNumber (l := (l ++ wdL 2)) (p1_) (by rw [List.length_append]; omega) (by omega) (fun (A2 : fs_M) (f2_ : spf A1 A2) (p2_ : SP A2 ((l ++ wdL 2) ++ ndL h)) => ?_)
    refine fs_r_call (sta := false) (idx := 34) (as := [.inr (.ref 3), .inl o]) (rest := []) (L1 := [some (.inr (.ref 3)), some (.inr (.ref 5)), some (.inl h), some (.inl o)]) (st1 := [.inl o, .inr (.ref 3)]) (M1 := A2) (ob := []) rfl rfl rfl trivial rfl rfl (Nat.le_of_ble_eq_true rfl) ⟨Or.inr (Nat.le_of_ble_eq_true rfl), Or.inr fs_ob3⟩ (by decide) ?_
    refine fs_c_addNumber (l := (l ++ wdL 2 ++ ndL h)) (p2_) (by rw [List.length_append, List.length_append]; omega) (by omega) (fun (A3 : fs_M) (f3_ : spf A2 A3) (p3_ : SP A3 ((l ++ wdL 2 ++ ndL h) ++ ndL o)) => ?_)
    have q9 : A3 9 ((h * 6) + o) = N (64 + 6 * h + o) := by rw [f3_ 9 (by decide) (by decide), f2_ 9 (by decide) (by decide), f1_ 9 (by decide) (by decide)]; exact q
    refine fs_r_call (sta := false) (idx := 72) (as := [.inr (.ref 5), .inl h, .inl o]) (rest := [.inr (.ref 3)]) (L1 := [some (.inr (.ref 3)), some (.inr (.ref 5)), some (.inl h), some (.inl o)]) (st1 := [.inl o, .inl h, .inr (.ref 5), .inr (.ref 3)]) (M1 := A3) (ob := []) rfl rfl rfl trivial rfl rfl (Nat.le_of_ble_eq_true rfl) ⟨Or.inr (Nat.le_of_ble_eq_true rfl), Or.inr fs_ob5⟩ (by decide) ?_
    refine fs_c_loanOf (by first | exact Or.inl rfl | exact Or.inr (Or.inl rfl) | assumption) (by omega) (by omega) ?_
    refine fs_r_call (sta := false) (idx := 34) (as := [.inr (.ref 3), .inl (A3 9 ((h * 6) + o))]) (rest := []) (L1 := [some (.inr (.ref 3)), some (.inr (.ref 5)), some (.inl h), some (.inl o)]) (st1 := [.inl (A3 9 ((h * 6) + o)), .inr (.ref 3)]) (M1 := A3) (ob := []) rfl rfl rfl trivial rfl rfl (Nat.le_of_ble_eq_true rfl) ⟨Or.inr (Nat.le_of_ble_eq_true rfl), Or.inr fs_ob3⟩ (by decide) ?_
    refine fs_c_addNumber (l := (l ++ wdL 2 ++ ndL h ++ ndL o)) (p3_) (by rw [List.length_append, List.length_append, List.length_append]; omega) (by omega) (fun (A4 : fs_M) (f4_ : spf A3 A4) (p4_ : SP A4 ((l ++ wdL 2 ++ ndL h ++ ndL o) ++ ndL (A3 9 ((h * 6) + o)))) => ?_)
    refine fs_r_call (sta := false) (idx := 41) (as := [.inr (.ref 3), .inl 59]) (rest := []) (L1 := [some (.inr (.ref 3)), some (.inr (.ref 5)), some (.inl h), some (.inl o)]) (st1 := [.inl 59, .inr (.ref 3)]) (M1 := A4) (ob := []) rfl rfl rfl trivial rfl rfl (Nat.le_of_ble_eq_true rfl) ⟨Or.inr (Nat.le_of_ble_eq_true rfl), Or.inr fs_ob3⟩ (by decide) ?_
    refine fs_c_addByte (l := (l ++ wdL 2 ++ ndL h ++ ndL o ++ ndL (A3 9 ((h * 6) + o)))) (p4_) (by rw [q9, List.length_append, List.length_append, List.length_append, List.length_append]; omega) (fun (A5 : fs_M) (f5_ : spf A4 A5) (p5_ : SP A5 ((l ++ wdL 2 ++ ndL h ++ ndL o ++ ndL (A3 9 ((h * 6) + o))) ++ [59])) => ?_)
    refine fs_r_ret (L1 := [some (.inr (.ref 3)), some (.inr (.ref 5)), some (.inl h), some (.inl o)]) (M1 := A5) (ob := []) rfl rfl trivial ?_
    exact hq0 _ ((((f1_.tr f2_).tr f3_).tr f4_).tr f5_) (by unfold sL; rw [if_neg (by omega)]; rw [q9] at p5_; simp only [List.append_assoc] at p5_ ⊢; exact p5_)
  refine fs_r_ret (L1 := [some (.inr (.ref 3)), some (.inr (.ref 5)), some (.inl h), some (.inl o)]) (M1 := M) (ob := []) rfl rfl trivial ?_
  exact hq0 _ spf.rf (by unfold sL; rw [if_pos (by omega), List.append_nil]; exact hP)

theorem sH_g {N : Int → Int} {h : Int} (hN : fs_NI N) (hh : 0 ≤ h ∧ h < N 1) : (flL 5 (fun k => ndL (N (10 + 5 * h + k)))).length ≤ 20 := by
  have hH := hN.2.1
  have st := hN.2.2.2.2.2.2.2.2 h hh.1 hh.2
  have h0 := (ndL_b (n := N (10 + 5 * h + 0))).1
  have h1 := (ndL_b (n := N (10 + 5 * h + 1))).1
  have h2 := (ndL_b (n := N (10 + 5 * h + 2))).1
  have h3 := (ndL_b (n := N (10 + 5 * h + 3))).2.2.1 (by omega)
  have h4 := (ndL_b (n := N (10 + 5 * h + 4))).2.2.2 (by omega)
  show (((((([] : List Int) ++ ndL (N (10 + 5 * h + ((0 : Nat) : Int)))) ++ ndL (N (10 + 5 * h + ((1 : Nat) : Int)))) ++ ndL (N (10 + 5 * h + ((2 : Nat) : Int)))) ++ ndL (N (10 + 5 * h + ((3 : Nat) : Int)))) ++ ndL (N (10 + 5 * h + ((4 : Nat) : Int)))).length ≤ 20
  simp only [List.length_append, List.length_nil]
  have e0 : ((0 : Nat) : Int) = 0 := rfl
  have e1 : ((1 : Nat) : Int) = 1 := rfl
  have e2 : ((2 : Nat) : Int) = 2 := rfl
  have e3 : ((3 : Nat) : Int) = 3 := rfl
  have e4 : ((4 : Nat) : Int) = 4 := rfl
  rw [e0, e1, e2, e3, e4]
  omega
theorem fs_c_spellHouse {d : Nat} {M : fs_M} {Q : Option fs_V → fs_M → Prop} {h : Int} {N : Int → Int} {l : List Int} (hP : SP M l) (hV : vw 5 M N) (hN : fs_NI N) (hl : l.length + 42 ≤ 800) (hh : 0 ≤ h ∧ h < N 1) (hq0 : ∀ (M2 : fs_M), (spf M M2) → (SP M2 (l ++ sH N h)) → Q none M2) : fs_W (d + 5) 50 0 [some (.inr (.ref 3)), some (.inr (.ref 5)), some (.inl h), none] [] M Q := by
  obtain ⟨v0, v1, vcv, vfc, vhd, vln, vlc, vit⟩ := vw5 hV
  obtain ⟨⟨hA0, hA1⟩, ⟨hH0, hH1⟩, hcv, hfc, hhd, hln, hsh, hit, hst⟩ := id hN
  have w1 := wdL_n.2.1
  have sg := sH_g hN hh
  refine fs_r_call (sta := false) (idx := 26) (as := [.inr (.ref 3), .inr (.ref 1001)]) (rest := []) (L1 := [some (.inr (.ref 3)), some (.inr (.ref 5)), some (.inl h), none]) (st1 := [.inr (.ref 1001), .inr (.ref 3)]) (M1 := M) (ob := []) rfl rfl rfl trivial rfl rfl (Nat.le_of_ble_eq_true rfl) ⟨Or.inr (Nat.le_of_ble_eq_true rfl), Or.inr fs_ob3⟩ (by decide) ?_
  refine fs_c_addWord1 (l := l) (by assumption) (by omega) (fun (A1 : fs_M) (f1_ : spf M A1) (p1_ : SP A1 (l ++ wdL 1)) => ?_)
  refine fs_r_nop (L1 := [some (.inr (.ref 3)), some (.inr (.ref 5)), some (.inl h), some (.inl 0)]) (st1 := []) (M1 := A1) (ob := [3 < 4]) rfl rfl (fs_oc (by decide) trivial) ?_
  have loop8 : ∀ (n8 : Nat) (k : Int) (M3 : fs_M), (0 ≤ k ∧ k ≤ 5) → (spf M M3) → (SP M3 (l ++ wdL 1 ++ flL k.toNat (fun q => ndL (N (10 + 5 * h + q))))) → 5 - k < (n8 : Int) → fs_W (d + 5) 50 8 [some (.inr (.ref 3)), some (.inr (.ref 5)), some (.inl h), some (.inl k)] [] M3 Q := by
    intro n8
    induction n8 with
    | zero =>
      intro k M3 i3 f3 p3 hm8
      exfalso
      omega
    | succ n8 ih8 =>
      intro k M3 i3 f3 p3 hm8
      refine fs_r_icmp (a := k) (y := 5) (L1 := [some (.inr (.ref 3)), some (.inr (.ref 5)), some (.inl h), some (.inl k)]) (st1 := []) (M1 := M3) (ob := []) rfl rfl trivial (fun (h1 : 5 ≤ k) => ?_) (fun (h1 : ¬ (5 ≤ k)) => ?_)
      · refine fs_r_nop (L1 := [some (.inr (.ref 3)), some (.inr (.ref 5)), some (.inl h), some (.inl 0)]) (st1 := []) (M1 := M3) (ob := [3 < 4]) rfl rfl (fs_oc (by decide) trivial) ?_
        have loop31 : ∀ (n31 : Nat) (a : Int) (M5 : fs_M), (0 ≤ a ∧ a ≤ N 0) → (spf M M5) → (SP M5 (l ++ wdL 1 ++ flL 5 (fun q => ndL (N (10 + 5 * h + q))) ++ flL a.toNat (fun q => ndL (N (40 + 4 * h + q))))) → N 0 - a < (n31 : Int) → fs_W (d + 5) 50 31 [some (.inr (.ref 3)), some (.inr (.ref 5)), some (.inl h), some (.inl a)] [] M5 Q := by
          intro n31
          induction n31 with
          | zero =>
            intro a M5 i5 f5 p5 hm31
            exfalso
            omega
          | succ n31 ih31 =>
            intro a M5 i5 f5 p5 hm31
            have g50 : M5 5 0 = N 0 := by rw [f5 5 (by decide) (by decide)]; exact v0
            refine fs_r_icmp (a := a) (y := (M5 5 0)) (L1 := [some (.inr (.ref 3)), some (.inr (.ref 5)), some (.inl h), some (.inl a)]) (st1 := []) (M1 := M5) (ob := [5 < fs_N ∧ fs_kd 5 = 0]) rfl rfl (fs_oc fs_ob5 trivial) (fun (h2 : (M5 5 0) ≤ a) => ?_) (fun (h2 : ¬ ((M5 5 0) ≤ a)) => ?_)
            · have gb := flL_b (f := fun q => ndL (N (40 + 4 * h + q))) (b := 3) a.toNat (fun i i0 i1 => (ndL_b (n := N (40 + 4 * h + i))).2.2.1 (by have := (hhd h i (by omega) (by omega) i0 (by omega)).2; omega))
              refine fs_r_call (sta := false) (idx := 41) (as := [.inr (.ref 3), .inl 59]) (rest := []) (L1 := [some (.inr (.ref 3)), some (.inr (.ref 5)), some (.inl h), some (.inl a)]) (st1 := [.inl 59, .inr (.ref 3)]) (M1 := M5) (ob := []) rfl rfl rfl trivial rfl rfl (Nat.le_of_ble_eq_true rfl) ⟨Or.inr (Nat.le_of_ble_eq_true rfl), Or.inr fs_ob3⟩ (by decide) ?_
              refine fs_c_addByte (l := (l ++ wdL 1 ++ flL 5 (fun q => ndL (N (10 + 5 * h + q))) ++ flL a.toNat (fun q => ndL (N (40 + 4 * h + q))))) (p5) (by rw [List.length_append, List.length_append, List.length_append]; omega) (fun (A4 : fs_M) (f4_ : spf M5 A4) (p4_ : SP A4 ((l ++ wdL 1 ++ flL 5 (fun q => ndL (N (10 + 5 * h + q))) ++ flL a.toNat (fun q => ndL (N (40 + 4 * h + q)))) ++ [59])) => ?_)
              refine fs_r_ret (L1 := [some (.inr (.ref 3)), some (.inr (.ref 5)), some (.inl h), some (.inl a)]) (M1 := A4) (ob := []) rfl rfl trivial ?_
              exact hq0 _ (f5.tr f4_) (by unfold sH; have ea : a.toNat = (N 0).toNat := by { omega }; rw [ea] at p4_; simp only [List.append_assoc] at p4_ ⊢; exact p4_)
            have gb := flL_b (f := fun q => ndL (N (40 + 4 * h + q))) (b := 3) a.toNat (fun i i0 i1 => (ndL_b (n := N (40 + 4 * h + i))).2.2.1 (by have := (hhd h i (by omega) (by omega) i0 (by omega)).2; omega))
            have q8 : M5 8 ((h * 4) + a) = N (40 + 4 * h + a) := by rw [f5 8 (by decide) (by decide)]; exact vhd h a (by omega) (by omega) (by omega) (by omega)
            have qb := hhd h a (by omega) (by omega) (by omega) (by omega)
            have nb := (ndL_b (n := N (40 + 4 * h + a))).2.2.1 (by omega)
            have fs := flL_s (f := fun q => ndL (N (40 + 4 * h + q))) i5.1
            refine fs_r_call (sta := false) (idx := 69) (as := [.inr (.ref 5), .inl h, .inl a]) (rest := [.inr (.ref 3)]) (L1 := [some (.inr (.ref 3)), some (.inr (.ref 5)), some (.inl h), some (.inl a)]) (st1 := [.inl a, .inl h, .inr (.ref 5), .inr (.ref 3)]) (M1 := M5) (ob := []) rfl rfl rfl trivial rfl rfl (Nat.le_of_ble_eq_true rfl) ⟨Or.inr (Nat.le_of_ble_eq_true rfl), Or.inr fs_ob5⟩ (by decide) ?_
            refine fs_c_holdingOf (by first | exact Or.inl rfl | exact Or.inr (Or.inl rfl) | assumption) (by omega) (by omega) ?_
            refine fs_r_call (sta := false) (idx := 34) (as := [.inr (.ref 3), .inl (M5 8 ((h * 4) + a))]) (rest := []) (L1 := [some (.inr (.ref 3)), some (.inr (.ref 5)), some (.inl h), some (.inl a)]) (st1 := [.inl (M5 8 ((h * 4) + a)), .inr (.ref 3)]) (M1 := M5) (ob := []) rfl rfl rfl trivial rfl rfl (Nat.le_of_ble_eq_true rfl) ⟨Or.inr (Nat.le_of_ble_eq_true rfl), Or.inr fs_ob3⟩ (by decide) ?_
            refine fs_c_addNumber (l := (l ++ wdL 1 ++ flL 5 (fun q => ndL (N (10 + 5 * h + q))) ++ flL a.toNat (fun q => ndL (N (40 + 4 * h + q))))) (p5) (by rw [List.length_append, List.length_append, List.length_append]; omega) (by rw [q8]; omega) (fun (A3 : fs_M) (f3_ : spf M5 A3) (p3_ : SP A3 ((l ++ wdL 1 ++ flL 5 (fun q => ndL (N (10 + 5 * h + q))) ++ flL a.toNat (fun q => ndL (N (40 + 4 * h + q)))) ++ ndL (M5 8 ((h * 4) + a)))) => ?_)
            refine fs_r_goto (L1 := [some (.inr (.ref 3)), some (.inr (.ref 5)), some (.inl h), some (.inl (a + 1))]) (st1 := []) (M1 := A3) (ob := [fs_rg (a + 1)]) rfl rfl (fs_oc ⟨by omega, by omega⟩ trivial) ?_
            exact ih31 ((a + 1)) A3 (by omega) (f5.tr f3_) (by rw [fs, ← List.append_assoc, ← q8]; exact p3_) (by omega)
        exact loop31 (((N 0 - (0)) : Int) + 1).toNat (0) M3 (by omega) (f3) (by rw [show Int.toNat 0 = 0 from rfl]; show SP _ (l ++ wdL 1 ++ flL 5 _ ++ []); rw [List.append_nil]; have k5 : k.toNat = 5 := by { omega }; rw [k5] at p3; exact p3) (by omega)
      have fb := flL_b (f := fun q => ndL (N (10 + 5 * h + q))) (b := 5) k.toNat (fun i _ _ => (ndL_b (n := N (10 + 5 * h + i))).1)
      have q7 : M3 7 ((h * 5) + k) = N (10 + 5 * h + k) := by rw [f3 7 (by decide) (by decide)]; exact vfc h k (by omega) (by omega) (by omega) (by omega) (Or.inl (by omega))
      have qb := hfc h k (by omega) (by omega) (by omega) (by omega)
      have fs := flL_s (f := fun q => ndL (N (10 + 5 * h + q))) i3.1
      refine fs_r_call (sta := false) (idx := 65) (as := [.inr (.ref 5), .inl h, .inl k]) (rest := [.inr (.ref 3)]) (L1 := [some (.inr (.ref 3)), some (.inr (.ref 5)), some (.inl h), some (.inl k)]) (st1 := [.inl k, .inl h, .inr (.ref 5), .inr (.ref 3)]) (M1 := M3) (ob := []) rfl rfl rfl trivial rfl rfl (Nat.le_of_ble_eq_true rfl) ⟨Or.inr (Nat.le_of_ble_eq_true rfl), Or.inr fs_ob5⟩ (by decide) ?_
      refine fs_c_fact (by first | exact Or.inl rfl | exact Or.inr (Or.inl rfl) | assumption) (by omega) (by omega) ?_
      refine fs_r_call (sta := false) (idx := 34) (as := [.inr (.ref 3), .inl (M3 7 ((h * 5) + k))]) (rest := []) (L1 := [some (.inr (.ref 3)), some (.inr (.ref 5)), some (.inl h), some (.inl k)]) (st1 := [.inl (M3 7 ((h * 5) + k)), .inr (.ref 3)]) (M1 := M3) (ob := []) rfl rfl rfl trivial rfl rfl (Nat.le_of_ble_eq_true rfl) ⟨Or.inr (Nat.le_of_ble_eq_true rfl), Or.inr fs_ob3⟩ (by decide) ?_
      refine fs_c_addNumber (l := (l ++ wdL 1 ++ flL k.toNat (fun q => ndL (N (10 + 5 * h + q))))) (p3) (by rw [List.length_append, List.length_append]; omega) (by rw [q7]; omega) (fun (A2 : fs_M) (f2_ : spf M3 A2) (p2_ : SP A2 ((l ++ wdL 1 ++ flL k.toNat (fun q => ndL (N (10 + 5 * h + q)))) ++ ndL (M3 7 ((h * 5) + k)))) => ?_)
      refine fs_r_goto (L1 := [some (.inr (.ref 3)), some (.inr (.ref 5)), some (.inl h), some (.inl (k + 1))]) (st1 := []) (M1 := A2) (ob := [fs_rg (k + 1)]) rfl rfl (fs_oc ⟨by omega, by omega⟩ trivial) ?_
      exact ih8 ((k + 1)) A2 (by omega) (f3.tr f2_) (by rw [fs, ← List.append_assoc, ← q7]; exact p2_) (by omega)
  exact loop8 (((5 - (0)) : Int) + 1).toNat (0) A1 (by omega) (f1_) (by rw [show Int.toNat 0 = 0 from rfl]; show SP _ (l ++ wdL 1 ++ []); rw [List.append_nil]; exact p1_) (by omega)

theorem fs_c_spellShelf0 {d : Nat} {M : fs_M} {Q : Option fs_V → fs_M → Prop}  {N : Int → Int} {l : List Int} (hP : SP M l) (hV : vw 5 M N) (hN : fs_NI N) (hX : fs_NX N) (hl : l.length + 48 ≤ 800) (hq0 : ∀ (M2 : fs_M), (spf M M2) → (SP M2 (l ++ flL (N (100 + 13 * 0)).toNat (sI N 0))) → Q none M2) : fs_W (d + 5) 52 0 [some (.inr (.ref 3)), some (.inr (.ref 5)), some (.inl 0), some (.inr (.ref 1003)), none] [] M Q := by
  obtain ⟨v0, v1, vcv, vfc, vhd, vln, vlc, vit⟩ := vw5 hV
  obtain ⟨⟨hA0, hA1⟩, ⟨hH0, hH1⟩, hcv, hfc, hhd, hln, hsh, hit, hst⟩ := id hN
  have w3 := wdL_n
  have vs := vlc 0 (by omega) (by omega)
  have sh := hsh 0 (by omega) (by omega)
  refine fs_r_nop (L1 := [some (.inr (.ref 3)), some (.inr (.ref 5)), some (.inl 0), some (.inr (.ref 1003)), some (.inl 0)]) (st1 := []) (M1 := M) (ob := [4 < 5]) rfl rfl (fs_oc (by decide) trivial) ?_
  have loop3 : ∀ (n3 : Nat) (k : Int) (M3 : fs_M), (0 ≤ k ∧ k ≤ N (100 + 13 * 0)) → (spf M M3) → (SP M3 (l ++ flL k.toNat (sI N 0))) → N (100 + 13 * 0) - k < (n3 : Int) → fs_W (d + 5) 52 3 [some (.inr (.ref 3)), some (.inr (.ref 5)), some (.inl 0), some (.inr (.ref 1003)), some (.inl k)] [] M3 Q := by
    intro n3
    induction n3 with
    | zero =>
      intro k M3 i3 f3 p3 hm3
      exfalso
      omega
    | succ n3 ih3 =>
      intro k M3 i3 f3 p3 hm3
      have g10 : M3 10 0 = N (100 + 13 * 0) := by rw [f3 10 (by decide) (by decide)]; exact vs
      refine fs_r_icmp (a := k) (y := (M3 10 0)) (L1 := [some (.inr (.ref 3)), some (.inr (.ref 5)), some (.inl 0), some (.inr (.ref 1003)), some (.inl k)]) (st1 := []) (M1 := M3) (ob := [5 < fs_N ∧ fs_kd 5 = 0, (10 < fs_N ∧ fs_kd 10 = 100) ∧ (0 : Int) ≤ 0 ∧ 0 < fs_ln 10]) rfl rfl (fs_oc fs_ob5 (fs_oc (fs_ar10 (by omega) (by omega)) trivial)) (fun (h1 : (M3 10 0) ≤ k) => ?_) (fun (h1 : ¬ ((M3 10 0) ≤ k)) => ?_)
      · refine fs_r_ret (L1 := [some (.inr (.ref 3)), some (.inr (.ref 5)), some (.inl 0), some (.inr (.ref 1003)), some (.inl k)]) (M1 := M3) (ob := []) rfl rfl trivial ?_
        exact hq0 _ f3 (by have ek : k.toNat = (N (100 + 13 * 0)).toNat := by { omega }; rw [ek] at p3; exact p3)
      have fb := flL_b (f := sI N 0) (b := 12) k.toNat (fun i i0 i1 => sI_b hN (by omega) ⟨i0, by omega⟩ (hX 0 i (by omega) (by omega) i0 (by omega)))
      have q1 := vit 0 k 1 (by omega) (by omega) (by omega) (by omega) (by omega) (by omega)
      have q2 := vit 0 k 2 (by omega) (by omega) (by omega) (by omega) (by omega) (by omega)
      have c1 := hit 0 k 1 (by omega) (by omega) (by omega) (by omega) (by omega) (by omega)
      have c2 := hit 0 k 2 (by omega) (by omega) (by omega) (by omega) (by omega) (by omega)
      have x1 := hX 0 k (by omega) (by omega) (by omega) (by omega)
      have nb1 := (ndL_b (n := N (100 + 13 * 0 + 1 + 3 * k + 1))).2.2.2 x1
      have nb2 := (ndL_b (n := N (100 + 13 * 0 + 1 + 3 * k + 2))).2.1 (by omega)
      have fs := flL_s (f := sI N 0) i3.1
      refine fs_r_call (sta := false) (idx := 26) (as := [.inr (.ref 3), .inr (.ref 1003)]) (rest := []) (L1 := [some (.inr (.ref 3)), some (.inr (.ref 5)), some (.inl 0), some (.inr (.ref 1003)), some (.inl k)]) (st1 := [.inr (.ref 1003), .inr (.ref 3)]) (M1 := M3) (ob := []) rfl rfl rfl trivial rfl rfl (Nat.le_of_ble_eq_true rfl) ⟨Or.inr (Nat.le_of_ble_eq_true rfl), Or.inr fs_ob3⟩ (by decide) ?_
      refine fs_c_addWord3 (l := (l ++ flL k.toNat (sI N 0))) (p3) (by rw [List.length_append]; omega) (fun (A1 : fs_M) (f1_ : spf M3 A1) (p1_ : SP A1 ((l ++ flL k.toNat (sI N 0)) ++ wdL 3)) => ?_)
      have g1 : A1 11 ((((0 * 4) + k) * 3) + 1) = N (100 + 13 * 0 + 1 + 3 * k + 1) := by rw [f1_ 11 (by decide) (by decide), f3 11 (by decide) (by decide)]; exact q1
      refine fs_r_call (sta := false) (idx := 80) (as := [.inr (.ref 5), .inl 0, .inl k, .inl 1]) (rest := [.inr (.ref 3)]) (L1 := [some (.inr (.ref 3)), some (.inr (.ref 5)), some (.inl 0), some (.inr (.ref 1003)), some (.inl k)]) (st1 := [.inl 1, .inl k, .inl 0, .inr (.ref 5), .inr (.ref 3)]) (M1 := A1) (ob := []) rfl rfl rfl trivial rfl rfl (Nat.le_of_ble_eq_true rfl) ⟨Or.inr (Nat.le_of_ble_eq_true rfl), Or.inr fs_ob5⟩ (by decide) ?_
      refine fs_c_item (by first | exact Or.inl rfl | exact Or.inr (Or.inl rfl) | assumption) (by omega) (by omega) (by omega) ?_
      refine fs_r_call (sta := false) (idx := 34) (as := [.inr (.ref 3), .inl (A1 11 ((((0 * 4) + k) * 3) + 1))]) (rest := []) (L1 := [some (.inr (.ref 3)), some (.inr (.ref 5)), some (.inl 0), some (.inr (.ref 1003)), some (.inl k)]) (st1 := [.inl (A1 11 ((((0 * 4) + k) * 3) + 1)), .inr (.ref 3)]) (M1 := A1) (ob := []) rfl rfl rfl trivial rfl rfl (Nat.le_of_ble_eq_true rfl) ⟨Or.inr (Nat.le_of_ble_eq_true rfl), Or.inr fs_ob3⟩ (by decide) ?_
      refine fs_c_addNumber (l := (l ++ flL k.toNat (sI N 0) ++ wdL 3)) (p1_) (by rw [List.length_append, List.length_append]; omega) (by rw [g1]; omega) (fun (A2 : fs_M) (f2_ : spf A1 A2) (p2_ : SP A2 ((l ++ flL k.toNat (sI N 0) ++ wdL 3) ++ ndL (A1 11 ((((0 * 4) + k) * 3) + 1)))) => ?_)
      have g2 : A2 11 ((((0 * 4) + k) * 3) + 2) = N (100 + 13 * 0 + 1 + 3 * k + 2) := by rw [f2_ 11 (by decide) (by decide), f1_ 11 (by decide) (by decide), f3 11 (by decide) (by decide)]; exact q2
      refine fs_r_call (sta := false) (idx := 80) (as := [.inr (.ref 5), .inl 0, .inl k, .inl 2]) (rest := [.inr (.ref 3)]) (L1 := [some (.inr (.ref 3)), some (.inr (.ref 5)), some (.inl 0), some (.inr (.ref 1003)), some (.inl k)]) (st1 := [.inl 2, .inl k, .inl 0, .inr (.ref 5), .inr (.ref 3)]) (M1 := A2) (ob := []) rfl rfl rfl trivial rfl rfl (Nat.le_of_ble_eq_true rfl) ⟨Or.inr (Nat.le_of_ble_eq_true rfl), Or.inr fs_ob5⟩ (by decide) ?_
      refine fs_c_item (by first | exact Or.inl rfl | exact Or.inr (Or.inl rfl) | assumption) (by omega) (by omega) (by omega) ?_
      refine fs_r_call (sta := false) (idx := 34) (as := [.inr (.ref 3), .inl (A2 11 ((((0 * 4) + k) * 3) + 2))]) (rest := []) (L1 := [some (.inr (.ref 3)), some (.inr (.ref 5)), some (.inl 0), some (.inr (.ref 1003)), some (.inl k)]) (st1 := [.inl (A2 11 ((((0 * 4) + k) * 3) + 2)), .inr (.ref 3)]) (M1 := A2) (ob := []) rfl rfl rfl trivial rfl rfl (Nat.le_of_ble_eq_true rfl) ⟨Or.inr (Nat.le_of_ble_eq_true rfl), Or.inr fs_ob3⟩ (by decide) ?_
      refine fs_c_addNumber (l := (l ++ flL k.toNat (sI N 0) ++ wdL 3 ++ ndL (A1 11 ((((0 * 4) + k) * 3) + 1)))) (p2_) (by rw [g1, List.length_append, List.length_append, List.length_append]; omega) (by rw [g2]; omega) (fun (A3 : fs_M) (f3_ : spf A2 A3) (p3_ : SP A3 ((l ++ flL k.toNat (sI N 0) ++ wdL 3 ++ ndL (A1 11 ((((0 * 4) + k) * 3) + 1))) ++ ndL (A2 11 ((((0 * 4) + k) * 3) + 2)))) => ?_)
      refine fs_r_call (sta := false) (idx := 41) (as := [.inr (.ref 3), .inl 59]) (rest := []) (L1 := [some (.inr (.ref 3)), some (.inr (.ref 5)), some (.inl 0), some (.inr (.ref 1003)), some (.inl k)]) (st1 := [.inl 59, .inr (.ref 3)]) (M1 := A3) (ob := []) rfl rfl rfl trivial rfl rfl (Nat.le_of_ble_eq_true rfl) ⟨Or.inr (Nat.le_of_ble_eq_true rfl), Or.inr fs_ob3⟩ (by decide) ?_
      refine fs_c_addByte (l := (l ++ flL k.toNat (sI N 0) ++ wdL 3 ++ ndL (A1 11 ((((0 * 4) + k) * 3) + 1)) ++ ndL (A2 11 ((((0 * 4) + k) * 3) + 2)))) (p3_) (by rw [g1, g2, List.length_append, List.length_append, List.length_append, List.length_append]; omega) (fun (A4 : fs_M) (f4_ : spf A3 A4) (p4_ : SP A4 ((l ++ flL k.toNat (sI N 0) ++ wdL 3 ++ ndL (A1 11 ((((0 * 4) + k) * 3) + 1)) ++ ndL (A2 11 ((((0 * 4) + k) * 3) + 2))) ++ [59])) => ?_)
      refine fs_r_goto (L1 := [some (.inr (.ref 3)), some (.inr (.ref 5)), some (.inl 0), some (.inr (.ref 1003)), some (.inl (k + 1))]) (st1 := []) (M1 := A4) (ob := [fs_rg (k + 1)]) rfl rfl (fs_oc ⟨by omega, by omega⟩ trivial) ?_
      exact ih3 ((k + 1)) A4 (by omega) ((((f3.tr f1_).tr f2_).tr f3_).tr f4_) (by
               rw [fs]
               rw [g1, g2] at p4_
               show SP _ (l ++ (flL k.toNat (sI N 0) ++ (wdL 3 ++ ndL _ ++ ndL _ ++ [59])))
               simp only [List.append_assoc] at p4_ ⊢
               exact p4_) (by omega)
  exact loop3 (((N (100 + 13 * 0) - (0)) : Int) + 1).toNat (0) M (by omega) (spf.rf) (by rw [show Int.toNat 0 = 0 from rfl]; show SP _ (l ++ []); rw [List.append_nil]; exact hP) (by omega)

theorem fs_c_spellShelf1 {d : Nat} {M : fs_M} {Q : Option fs_V → fs_M → Prop}  {N : Int → Int} {l : List Int} (hP : SP M l) (hV : vw 5 M N) (hN : fs_NI N) (hX : fs_NX N) (hl : l.length + 48 ≤ 800) (hq0 : ∀ (M2 : fs_M), (spf M M2) → (SP M2 (l ++ flL (N (100 + 13 * 1)).toNat (sI N 1))) → Q none M2) : fs_W (d + 5) 52 0 [some (.inr (.ref 3)), some (.inr (.ref 5)), some (.inl 1), some (.inr (.ref 1004)), none] [] M Q := by
  obtain ⟨v0, v1, vcv, vfc, vhd, vln, vlc, vit⟩ := vw5 hV
  obtain ⟨⟨hA0, hA1⟩, ⟨hH0, hH1⟩, hcv, hfc, hhd, hln, hsh, hit, hst⟩ := id hN
  have w3 := wdL_n
  have vs := vlc 1 (by omega) (by omega)
  have sh := hsh 1 (by omega) (by omega)
  refine fs_r_nop (L1 := [some (.inr (.ref 3)), some (.inr (.ref 5)), some (.inl 1), some (.inr (.ref 1004)), some (.inl 0)]) (st1 := []) (M1 := M) (ob := [4 < 5]) rfl rfl (fs_oc (by decide) trivial) ?_
  have loop3 : ∀ (n3 : Nat) (k : Int) (M3 : fs_M), (0 ≤ k ∧ k ≤ N (100 + 13 * 1)) → (spf M M3) → (SP M3 (l ++ flL k.toNat (sI N 1))) → N (100 + 13 * 1) - k < (n3 : Int) → fs_W (d + 5) 52 3 [some (.inr (.ref 3)), some (.inr (.ref 5)), some (.inl 1), some (.inr (.ref 1004)), some (.inl k)] [] M3 Q := by
    intro n3
    induction n3 with
    | zero =>
      intro k M3 i3 f3 p3 hm3
      exfalso
      omega
    | succ n3 ih3 =>
      intro k M3 i3 f3 p3 hm3
      have g10 : M3 10 1 = N (100 + 13 * 1) := by rw [f3 10 (by decide) (by decide)]; exact vs
      refine fs_r_icmp (a := k) (y := (M3 10 1)) (L1 := [some (.inr (.ref 3)), some (.inr (.ref 5)), some (.inl 1), some (.inr (.ref 1004)), some (.inl k)]) (st1 := []) (M1 := M3) (ob := [5 < fs_N ∧ fs_kd 5 = 0, (10 < fs_N ∧ fs_kd 10 = 100) ∧ (0 : Int) ≤ 1 ∧ 1 < fs_ln 10]) rfl rfl (fs_oc fs_ob5 (fs_oc (fs_ar10 (by omega) (by omega)) trivial)) (fun (h1 : (M3 10 1) ≤ k) => ?_) (fun (h1 : ¬ ((M3 10 1) ≤ k)) => ?_)
      · refine fs_r_ret (L1 := [some (.inr (.ref 3)), some (.inr (.ref 5)), some (.inl 1), some (.inr (.ref 1004)), some (.inl k)]) (M1 := M3) (ob := []) rfl rfl trivial ?_
        exact hq0 _ f3 (by have ek : k.toNat = (N (100 + 13 * 1)).toNat := by { omega }; rw [ek] at p3; exact p3)
      have fb := flL_b (f := sI N 1) (b := 12) k.toNat (fun i i0 i1 => sI_b hN (by omega) ⟨i0, by omega⟩ (hX 1 i (by omega) (by omega) i0 (by omega)))
      have q1 := vit 1 k 1 (by omega) (by omega) (by omega) (by omega) (by omega) (by omega)
      have q2 := vit 1 k 2 (by omega) (by omega) (by omega) (by omega) (by omega) (by omega)
      have c1 := hit 1 k 1 (by omega) (by omega) (by omega) (by omega) (by omega) (by omega)
      have c2 := hit 1 k 2 (by omega) (by omega) (by omega) (by omega) (by omega) (by omega)
      have x1 := hX 1 k (by omega) (by omega) (by omega) (by omega)
      have nb1 := (ndL_b (n := N (100 + 13 * 1 + 1 + 3 * k + 1))).2.2.2 x1
      have nb2 := (ndL_b (n := N (100 + 13 * 1 + 1 + 3 * k + 2))).2.1 (by omega)
      have fs := flL_s (f := sI N 1) i3.1
      refine fs_r_call (sta := false) (idx := 26) (as := [.inr (.ref 3), .inr (.ref 1004)]) (rest := []) (L1 := [some (.inr (.ref 3)), some (.inr (.ref 5)), some (.inl 1), some (.inr (.ref 1004)), some (.inl k)]) (st1 := [.inr (.ref 1004), .inr (.ref 3)]) (M1 := M3) (ob := []) rfl rfl rfl trivial rfl rfl (Nat.le_of_ble_eq_true rfl) ⟨Or.inr (Nat.le_of_ble_eq_true rfl), Or.inr fs_ob3⟩ (by decide) ?_
      refine fs_c_addWord4 (l := (l ++ flL k.toNat (sI N 1))) (p3) (by rw [List.length_append]; omega) (fun (A1 : fs_M) (f1_ : spf M3 A1) (p1_ : SP A1 ((l ++ flL k.toNat (sI N 1)) ++ wdL 4)) => ?_)
      have g1 : A1 11 ((((1 * 4) + k) * 3) + 1) = N (100 + 13 * 1 + 1 + 3 * k + 1) := by rw [f1_ 11 (by decide) (by decide), f3 11 (by decide) (by decide)]; exact q1
      refine fs_r_call (sta := false) (idx := 80) (as := [.inr (.ref 5), .inl 1, .inl k, .inl 1]) (rest := [.inr (.ref 3)]) (L1 := [some (.inr (.ref 3)), some (.inr (.ref 5)), some (.inl 1), some (.inr (.ref 1004)), some (.inl k)]) (st1 := [.inl 1, .inl k, .inl 1, .inr (.ref 5), .inr (.ref 3)]) (M1 := A1) (ob := []) rfl rfl rfl trivial rfl rfl (Nat.le_of_ble_eq_true rfl) ⟨Or.inr (Nat.le_of_ble_eq_true rfl), Or.inr fs_ob5⟩ (by decide) ?_
      refine fs_c_item (by first | exact Or.inl rfl | exact Or.inr (Or.inl rfl) | assumption) (by omega) (by omega) (by omega) ?_
      refine fs_r_call (sta := false) (idx := 34) (as := [.inr (.ref 3), .inl (A1 11 ((((1 * 4) + k) * 3) + 1))]) (rest := []) (L1 := [some (.inr (.ref 3)), some (.inr (.ref 5)), some (.inl 1), some (.inr (.ref 1004)), some (.inl k)]) (st1 := [.inl (A1 11 ((((1 * 4) + k) * 3) + 1)), .inr (.ref 3)]) (M1 := A1) (ob := []) rfl rfl rfl trivial rfl rfl (Nat.le_of_ble_eq_true rfl) ⟨Or.inr (Nat.le_of_ble_eq_true rfl), Or.inr fs_ob3⟩ (by decide) ?_
      refine fs_c_addNumber (l := (l ++ flL k.toNat (sI N 1) ++ wdL 4)) (p1_) (by rw [List.length_append, List.length_append]; omega) (by rw [g1]; omega) (fun (A2 : fs_M) (f2_ : spf A1 A2) (p2_ : SP A2 ((l ++ flL k.toNat (sI N 1) ++ wdL 4) ++ ndL (A1 11 ((((1 * 4) + k) * 3) + 1)))) => ?_)
      have g2 : A2 11 ((((1 * 4) + k) * 3) + 2) = N (100 + 13 * 1 + 1 + 3 * k + 2) := by rw [f2_ 11 (by decide) (by decide), f1_ 11 (by decide) (by decide), f3 11 (by decide) (by decide)]; exact q2
      refine fs_r_call (sta := false) (idx := 80) (as := [.inr (.ref 5), .inl 1, .inl k, .inl 2]) (rest := [.inr (.ref 3)]) (L1 := [some (.inr (.ref 3)), some (.inr (.ref 5)), some (.inl 1), some (.inr (.ref 1004)), some (.inl k)]) (st1 := [.inl 2, .inl k, .inl 1, .inr (.ref 5), .inr (.ref 3)]) (M1 := A2) (ob := []) rfl rfl rfl trivial rfl rfl (Nat.le_of_ble_eq_true rfl) ⟨Or.inr (Nat.le_of_ble_eq_true rfl), Or.inr fs_ob5⟩ (by decide) ?_
      refine fs_c_item (by first | exact Or.inl rfl | exact Or.inr (Or.inl rfl) | assumption) (by omega) (by omega) (by omega) ?_
      refine fs_r_call (sta := false) (idx := 34) (as := [.inr (.ref 3), .inl (A2 11 ((((1 * 4) + k) * 3) + 2))]) (rest := []) (L1 := [some (.inr (.ref 3)), some (.inr (.ref 5)), some (.inl 1), some (.inr (.ref 1004)), some (.inl k)]) (st1 := [.inl (A2 11 ((((1 * 4) + k) * 3) + 2)), .inr (.ref 3)]) (M1 := A2) (ob := []) rfl rfl rfl trivial rfl rfl (Nat.le_of_ble_eq_true rfl) ⟨Or.inr (Nat.le_of_ble_eq_true rfl), Or.inr fs_ob3⟩ (by decide) ?_
      refine fs_c_addNumber (l := (l ++ flL k.toNat (sI N 1) ++ wdL 4 ++ ndL (A1 11 ((((1 * 4) + k) * 3) + 1)))) (p2_) (by rw [g1, List.length_append, List.length_append, List.length_append]; omega) (by rw [g2]; omega) (fun (A3 : fs_M) (f3_ : spf A2 A3) (p3_ : SP A3 ((l ++ flL k.toNat (sI N 1) ++ wdL 4 ++ ndL (A1 11 ((((1 * 4) + k) * 3) + 1))) ++ ndL (A2 11 ((((1 * 4) + k) * 3) + 2)))) => ?_)
      refine fs_r_call (sta := false) (idx := 41) (as := [.inr (.ref 3), .inl 59]) (rest := []) (L1 := [some (.inr (.ref 3)), some (.inr (.ref 5)), some (.inl 1), some (.inr (.ref 1004)), some (.inl k)]) (st1 := [.inl 59, .inr (.ref 3)]) (M1 := A3) (ob := []) rfl rfl rfl trivial rfl rfl (Nat.le_of_ble_eq_true rfl) ⟨Or.inr (Nat.le_of_ble_eq_true rfl), Or.inr fs_ob3⟩ (by decide) ?_
      refine fs_c_addByte (l := (l ++ flL k.toNat (sI N 1) ++ wdL 4 ++ ndL (A1 11 ((((1 * 4) + k) * 3) + 1)) ++ ndL (A2 11 ((((1 * 4) + k) * 3) + 2)))) (p3_) (by rw [g1, g2, List.length_append, List.length_append, List.length_append, List.length_append]; omega) (fun (A4 : fs_M) (f4_ : spf A3 A4) (p4_ : SP A4 ((l ++ flL k.toNat (sI N 1) ++ wdL 4 ++ ndL (A1 11 ((((1 * 4) + k) * 3) + 1)) ++ ndL (A2 11 ((((1 * 4) + k) * 3) + 2))) ++ [59])) => ?_)
      refine fs_r_goto (L1 := [some (.inr (.ref 3)), some (.inr (.ref 5)), some (.inl 1), some (.inr (.ref 1004)), some (.inl (k + 1))]) (st1 := []) (M1 := A4) (ob := [fs_rg (k + 1)]) rfl rfl (fs_oc ⟨by omega, by omega⟩ trivial) ?_
      exact ih3 ((k + 1)) A4 (by omega) ((((f3.tr f1_).tr f2_).tr f3_).tr f4_) (by
               rw [fs]
               rw [g1, g2] at p4_
               show SP _ (l ++ (flL k.toNat (sI N 1) ++ (wdL 4 ++ ndL _ ++ ndL _ ++ [59])))
               simp only [List.append_assoc] at p4_ ⊢
               exact p4_) (by omega)
  exact loop3 (((N (100 + 13 * 1) - (0)) : Int) + 1).toNat (0) M (by omega) (spf.rf) (by rw [show Int.toNat 0 = 0 from rfl]; show SP _ (l ++ []); rw [List.append_nil]; exact hP) (by omega)
