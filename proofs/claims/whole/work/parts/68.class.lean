/-- places of no ASSET, no HOUSE hold 0; nobody owes himself -/
def fs_NZ (N : Int → Int) : Prop := (∀ h k, N 1 ≤ h → h < 6 → 0 ≤ k → k < 5 → N (10 + 5 * h + k) = 0) ∧ (∀ h a, 0 ≤ h → h < 6 → 0 ≤ a → a < 4 → (N 1 ≤ h ∨ N 0 ≤ a) → N (40 + 4 * h + a) = 0) ∧ (∀ h o, 0 ≤ h → h < 6 → 0 ≤ o → o < 6 → (N 1 ≤ h ∨ N 1 ≤ o ∨ h = o) → N (64 + 6 * h + o) = 0) ∧ (∀ a, N 0 ≤ a → a < 4 → N (2 + a) = 0 ∧ N (6 + a) = 0)
theorem fs_c_addAsset5 {d : Nat} {M : fs_M} {Q : Option fs_V → fs_M → Prop} {x : Int} {y : Int}  (ha : 0 ≤ M 5 0 ∧ M 5 0 < 4) (hq0 : Q (some (.inl (M 5 0))) (fs_up (fs_up (fs_up M 5 0 ((M 5 0) + 1)) 6 (((M 5 0) * 2) + 0) x) 6 (((M 5 0) * 2) + 1) y)) : fs_W (d) 25 0 [some (.inr (.ref 5)), some (.inl x), some (.inl y), none] [] M Q := by
  refine fs_r_iret (a := (M 5 0)) (L1 := [some (.inr (.ref 5)), some (.inl x), some (.inl y), some (.inl (M 5 0))]) (M1 := (fs_up (fs_up (fs_up M 5 0 ((M 5 0) + 1)) 6 (((M 5 0) * 2) + 0) x) 6 (((M 5 0) * 2) + 1) y)) (ob := [5 < fs_N ∧ fs_kd 5 = 0, 3 < 4, 5 < fs_N ∧ fs_kd 5 = 0, fs_rg ((M 5 0) + 1), 5 < fs_N ∧ fs_kd 5 = 0, 5 < fs_N ∧ fs_kd 5 = 0, fs_rg ((M 5 0) * 2), fs_rg (((M 5 0) * 2) + 0), (6 < fs_N ∧ fs_kd 6 = 100) ∧ (0 : Int) ≤ (((M 5 0) * 2) + 0) ∧ (((M 5 0) * 2) + 0) < fs_ln 6, 5 < fs_N ∧ fs_kd 5 = 0, fs_rg ((M 5 0) * 2), fs_rg (((M 5 0) * 2) + 1), (6 < fs_N ∧ fs_kd 6 = 100) ∧ (0 : Int) ≤ (((M 5 0) * 2) + 1) ∧ (((M 5 0) * 2) + 1) < fs_ln 6]) rfl (fs_exA 6 (o1 := [5 < fs_N ∧ fs_kd 5 = 0, 3 < 4, 5 < fs_N ∧ fs_kd 5 = 0]) (L1 := [some (.inr (.ref 5)), some (.inl x), some (.inl y), some (.inl (M 5 0))]) (st1 := [.inl (M 5 0), .inr (.ref 5)]) (M1 := M) (o2 := [fs_rg ((M 5 0) + 1), 5 < fs_N ∧ fs_kd 5 = 0, 5 < fs_N ∧ fs_kd 5 = 0, fs_rg ((M 5 0) * 2), fs_rg (((M 5 0) * 2) + 0), (6 < fs_N ∧ fs_kd 6 = 100) ∧ (0 : Int) ≤ (((M 5 0) * 2) + 0) ∧ (((M 5 0) * 2) + 0) < fs_ln 6, 5 < fs_N ∧ fs_kd 5 = 0, fs_rg ((M 5 0) * 2), fs_rg (((M 5 0) * 2) + 1), (6 < fs_N ∧ fs_kd 6 = 100) ∧ (0 : Int) ≤ (((M 5 0) * 2) + 1) ∧ (((M 5 0) * 2) + 1) < fs_ln 6]) rfl (fs_exA 6 (o1 := [fs_rg ((M 5 0) + 1), 5 < fs_N ∧ fs_kd 5 = 0, 5 < fs_N ∧ fs_kd 5 = 0]) (L1 := [some (.inr (.ref 5)), some (.inl x), some (.inl y), some (.inl (M 5 0))]) (st1 := [.inl (M 5 0), .inr (.ref 6)]) (M1 := (fs_up M 5 0 ((M 5 0) + 1))) (o2 := [fs_rg ((M 5 0) * 2), fs_rg (((M 5 0) * 2) + 0), (6 < fs_N ∧ fs_kd 6 = 100) ∧ (0 : Int) ≤ (((M 5 0) * 2) + 0) ∧ (((M 5 0) * 2) + 0) < fs_ln 6, 5 < fs_N ∧ fs_kd 5 = 0, fs_rg ((M 5 0) * 2), fs_rg (((M 5 0) * 2) + 1), (6 < fs_N ∧ fs_kd 6 = 100) ∧ (0 : Int) ≤ (((M 5 0) * 2) + 1) ∧ (((M 5 0) * 2) + 1) < fs_ln 6]) rfl (fs_exA 6 (o1 := [fs_rg ((M 5 0) * 2), fs_rg (((M 5 0) * 2) + 0), (6 < fs_N ∧ fs_kd 6 = 100) ∧ (0 : Int) ≤ (((M 5 0) * 2) + 0) ∧ (((M 5 0) * 2) + 0) < fs_ln 6]) (L1 := [some (.inr (.ref 5)), some (.inl x), some (.inl y), some (.inl (M 5 0))]) (st1 := []) (M1 := (fs_up (fs_up M 5 0 ((M 5 0) + 1)) 6 (((M 5 0) * 2) + 0) x)) (o2 := [5 < fs_N ∧ fs_kd 5 = 0, fs_rg ((M 5 0) * 2), fs_rg (((M 5 0) * 2) + 1), (6 < fs_N ∧ fs_kd 6 = 100) ∧ (0 : Int) ≤ (((M 5 0) * 2) + 1) ∧ (((M 5 0) * 2) + 1) < fs_ln 6]) rfl (fs_exA 6 (o1 := [5 < fs_N ∧ fs_kd 5 = 0, fs_rg ((M 5 0) * 2)]) (L1 := [some (.inr (.ref 5)), some (.inl x), some (.inl y), some (.inl (M 5 0))]) (st1 := [.inl 1, .inl ((M 5 0) * 2), .inr (.ref 6)]) (M1 := (fs_up (fs_up M 5 0 ((M 5 0) + 1)) 6 (((M 5 0) * 2) + 0) x)) (o2 := [fs_rg (((M 5 0) * 2) + 1), (6 < fs_N ∧ fs_kd 6 = 100) ∧ (0 : Int) ≤ (((M 5 0) * 2) + 1) ∧ (((M 5 0) * 2) + 1) < fs_ln 6]) rfl rfl)))) (fs_oc fs_ob5 (fs_oc (by decide) (fs_oc fs_ob5 (fs_oc ⟨by omega, by omega⟩ (fs_oc fs_ob5 (fs_oc fs_ob5 (fs_oc ⟨by omega, by omega⟩ (fs_oc ⟨by omega, by omega⟩ (fs_oc (fs_ar6 (by omega) (by omega)) (fs_oc fs_ob5 (fs_oc ⟨by omega, by omega⟩ (fs_oc ⟨by omega, by omega⟩ (fs_oc (fs_ar6 (by omega) (by omega)) trivial))))))))))))) (Or.inl rfl) ?_
  exact fs_qi (rfl) hq0

theorem fs_c_asset {d : Nat} {M : fs_M} {Q : Option fs_V → fs_M → Prop} {x : Int} {y : Int} {N : Int → Int} {n : Int} {U : Int → Int → Int} (hV : vw 5 M N) (hN : fs_NI N) (hU : us M n U) (hq0 : ∀ (M2 : fs_M), ((1 ≤ x ∧ x ≤ 200) ∧ (0 ≤ y ∧ y ≤ 9) ∧ N 0 ≠ 4) → (ca M M2 (up1 (up1 (up1 N (2 + N 0) x) (6 + N 0) y) 0 (N 0 + 1)) n U N) → Q (some (.inl (N 0))) M2) (hq1 : (¬ ((1 ≤ x ∧ x ≤ 200) ∧ (0 ≤ y ∧ y ≤ 9) ∧ N 0 ≠ 4)) → Q (some (.inl (-1))) M) : fs_W (d + 4) 78 0 [some (.inr (.ref 0)), some (.inl x), some (.inl y)] [] M Q := by
  obtain ⟨v0, v1, vcv, vfc, vhd, vln, vlc, vit⟩ := vw5 hV
  obtain ⟨⟨hA0, hA1⟩, ⟨hH0, hH1⟩, hcv, hfc, hhd, hln, hsh, hit, hst⟩ := id hN
  refine fs_r_icmp (a := (M 5 0)) (y := 4) (L1 := [some (.inr (.ref 0)), some (.inl x), some (.inl y)]) (st1 := []) (M1 := M) (ob := [0 < fs_N ∧ fs_kd 0 = 5, 5 < fs_N ∧ fs_kd 5 = 0]) rfl rfl (fs_oc fs_ob0 (fs_oc fs_ob5 trivial)) (fun (h1 : 4 ≤ (M 5 0)) => ?_) (fun (h1 : ¬ (4 ≤ (M 5 0))) => ?_)
  · refine fs_r_iret (a := (-1)) (L1 := [some (.inr (.ref 0)), some (.inl x), some (.inl y)]) (M1 := M) (ob := []) rfl rfl trivial (Or.inl rfl) ?_
    exact hq1 (fun z => by omega)
  refine fs_r_call (sta := true) (idx := 95) (as := [.inl 0, .inl x]) (rest := []) (L1 := [some (.inr (.ref 0)), some (.inl x), some (.inl y)]) (st1 := [.inl x, .inl 0]) (M1 := M) (ob := []) rfl rfl rfl trivial rfl rfl (Nat.le_of_ble_eq_true rfl) ⟨Or.inr (Nat.le_of_ble_eq_true rfl), trivial⟩ (by decide) ?_
  refine fs_c_curveFits (fun (f2 : (0 = 0 ∧ 1 ≤ x ∧ x ≤ 200) ∨ (0 = 1 ∧ 0 ≤ x ∧ x ≤ 9)) => ?_) (fun (f3 : ¬ ((0 = 0 ∧ 1 ≤ x ∧ x ≤ 200) ∨ (0 = 1 ∧ 0 ≤ x ∧ x ≤ 9))) => ?_)
  · refine fs_r_if (a := 1) (L1 := [some (.inr (.ref 0)), some (.inl x), some (.inl y)]) (st1 := []) (M1 := M) (ob := []) rfl rfl trivial (fun h => absurd h (by decide : ¬ ((1 : Int) = 0))) (fun _ => ?_)
    refine fs_r_call (sta := true) (idx := 95) (as := [.inl 1, .inl y]) (rest := []) (L1 := [some (.inr (.ref 0)), some (.inl x), some (.inl y)]) (st1 := [.inl y, .inl 1]) (M1 := M) (ob := []) rfl rfl rfl trivial rfl rfl (Nat.le_of_ble_eq_true rfl) ⟨Or.inr (Nat.le_of_ble_eq_true rfl), trivial⟩ (by decide) ?_
    refine fs_c_curveFits (fun (f4 : (1 = 0 ∧ 1 ≤ y ∧ y ≤ 200) ∨ (1 = 1 ∧ 0 ≤ y ∧ y ≤ 9)) => ?_) (fun (f5 : ¬ ((1 = 0 ∧ 1 ≤ y ∧ y ≤ 200) ∨ (1 = 1 ∧ 0 ≤ y ∧ y ≤ 9))) => ?_)
    · refine fs_r_if (a := 1) (L1 := [some (.inr (.ref 0)), some (.inl x), some (.inl y)]) (st1 := []) (M1 := M) (ob := []) rfl rfl trivial (fun _ => ?_) (fun h => absurd (by decide : ¬ (1 : Int) = 0) h)
      refine fs_r_call (sta := false) (idx := 99) (as := [.inr (.ref 0)]) (rest := []) (L1 := [some (.inr (.ref 0)), some (.inl x), some (.inl y)]) (st1 := [.inr (.ref 0)]) (M1 := M) (ob := []) rfl rfl rfl trivial rfl rfl (Nat.le_of_ble_eq_true rfl) ⟨Or.inr (Nat.le_of_ble_eq_true rfl), Or.inr fs_ob0⟩ (by decide) ?_
      refine fs_c_remember (N := N) (n := n) (U := U) (by assumption) (by assumption) (by assumption) (fun (V1 : fs_M) (rf : ∀ r, r ≠ 0 → (r < 40 ∨ 123 < r) → V1 r = M r) (ru : us V1 (us_n n) (us_u n U N)) => ?_)
      have b0 := congrFun (rf 5 (by decide) (by decide)) 0
      have e0 : V1 5 0 = N 0 := by omega
      refine fs_r_call (sta := false) (idx := 102) (as := [.inr (.ref 5), .inl x, .inl y]) (rest := []) (L1 := [some (.inr (.ref 0)), some (.inl x), some (.inl y)]) (st1 := [.inl y, .inl x, .inr (.ref 5)]) (M1 := V1) (ob := [0 < fs_N ∧ fs_kd 0 = 5]) rfl rfl rfl (fs_oc fs_ob0 trivial) rfl rfl (Nat.le_of_ble_eq_true rfl) ⟨Or.inr (Nat.le_of_ble_eq_true rfl), Or.inr fs_ob5⟩ (by decide) ?_
      refine fs_c_addAsset5 (by omega) ?_
      refine fs_r_iret (a := (V1 5 0)) (L1 := [some (.inr (.ref 0)), some (.inl x), some (.inl y)]) (M1 := (fs_up (fs_up (fs_up V1 5 0 ((V1 5 0) + 1)) 6 (((V1 5 0) * 2) + 0) x) 6 (((V1 5 0) * 2) + 1) y)) (ob := []) rfl rfl trivial (Or.inl rfl) ?_
      refine fs_qi e0 (hq0 _ (by omega) (ca.of rf ru ?_ (fun r q => by rw [fs_up_other (by omega), fs_up_other (by omega), fs_up_other (by omega)])))
      rw [up1_comm (i := 6 + N 0) (j := 0) (by omega), up1_comm (i := 2 + N 0) (j := 0) (by omega)]
      simp only [e0]
      have s1 : ∀ v s, 0 ≤ s → s < 3 → 0 ≤ up1 N 0 v (100 + 13 * s) ∧ up1 N 0 v (100 + 13 * s) ≤ 4 := fun v s s0 s1 => by unfold up1; rw [if_neg (by omega)]; exact hsh s s0 s1
      have s2 : ∀ v w s, 0 ≤ s → s < 3 → 0 ≤ up1 (up1 N 0 v) (2 + N 0) w (100 + 13 * s) ∧ up1 (up1 N 0 v) (2 + N 0) w (100 + 13 * s) ≤ 4 := fun v w s s0 q => by unfold up1; rw [if_neg (by omega)]; exact s1 v s s0 q
      exact vw_slope (a := N 0) (vw_base (a := N 0) (vw_assets (hV.fr (fun r q1 q2 => rf r (by omega) (by omega)))) (s1 _) (by omega)) (s2 _ _) (by omega)
    refine fs_r_if (a := 0) (L1 := [some (.inr (.ref 0)), some (.inl x), some (.inl y)]) (st1 := []) (M1 := M) (ob := []) rfl rfl trivial (fun h => absurd h (by decide : ¬ (¬ (0 : Int) = 0))) (fun _ => ?_)
    refine fs_r_iret (a := (-1)) (L1 := [some (.inr (.ref 0)), some (.inl x), some (.inl y)]) (M1 := M) (ob := []) rfl rfl trivial (Or.inl rfl) ?_
    exact hq1 (fun z => by omega)
  refine fs_r_if (a := 0) (L1 := [some (.inr (.ref 0)), some (.inl x), some (.inl y)]) (st1 := []) (M1 := M) (ob := []) rfl rfl trivial (fun _ => ?_) (fun h => absurd (by decide : (0 : Int) = 0) h)
  refine fs_r_iret (a := (-1)) (L1 := [some (.inr (.ref 0)), some (.inl x), some (.inl y)]) (M1 := M) (ob := []) rfl rfl trivial (Or.inl rfl) ?_
  exact hq1 (fun z => by omega)

theorem fs_c_addHouse5 {d : Nat} {M : fs_M} {Q : Option fs_V → fs_M → Prop}   (ha : 0 ≤ M 5 1 ∧ M 5 1 < 6) (hq0 : Q (some (.inl (M 5 1))) (fs_up (fs_up (fs_up M 5 1 ((M 5 1) + 1)) 7 (((M 5 1) * 5) + 3) 1) 7 (((M 5 1) * 5) + 4) 0)) : fs_W (d + 1) 26 0 [some (.inr (.ref 5)), none] [] M Q := by
  refine fs_r_call (sta := false) (idx := 69) (as := [.inr (.ref 5), .inl (M 5 1), .inl 3, .inl 1]) (rest := []) (L1 := [some (.inr (.ref 5)), some (.inl (M 5 1))]) (st1 := [.inl 1, .inl 3, .inl (M 5 1), .inr (.ref 5)]) (M1 := (fs_up M 5 1 ((M 5 1) + 1))) (ob := [5 < fs_N ∧ fs_kd 5 = 0, 1 < 2, 5 < fs_N ∧ fs_kd 5 = 0, fs_rg ((M 5 1) + 1), 5 < fs_N ∧ fs_kd 5 = 0]) rfl rfl (fs_exA 6 (o1 := [5 < fs_N ∧ fs_kd 5 = 0, 1 < 2, 5 < fs_N ∧ fs_kd 5 = 0]) (L1 := [some (.inr (.ref 5)), some (.inl (M 5 1))]) (st1 := [.inl (M 5 1), .inr (.ref 5)]) (M1 := M) (o2 := [fs_rg ((M 5 1) + 1), 5 < fs_N ∧ fs_kd 5 = 0]) rfl rfl) (fs_oc fs_ob5 (fs_oc (by decide) (fs_oc fs_ob5 (fs_oc ⟨by omega, by omega⟩ (fs_oc fs_ob5 trivial))))) rfl rfl (Nat.le_of_ble_eq_true rfl) ⟨Or.inr (Nat.le_of_ble_eq_true rfl), Or.inr fs_ob5⟩ (by decide) ?_
  refine fs_c_setFact (by first | exact Or.inl rfl | exact Or.inr (Or.inl rfl) | assumption) (by omega) (by omega) ?_
  refine fs_r_call (sta := false) (idx := 69) (as := [.inr (.ref 5), .inl (M 5 1), .inl 4, .inl 0]) (rest := []) (L1 := [some (.inr (.ref 5)), some (.inl (M 5 1))]) (st1 := [.inl 0, .inl 4, .inl (M 5 1), .inr (.ref 5)]) (M1 := (fs_up (fs_up M 5 1 ((M 5 1) + 1)) 7 (((M 5 1) * 5) + 3) 1)) (ob := []) rfl rfl rfl trivial rfl rfl (Nat.le_of_ble_eq_true rfl) ⟨Or.inr (Nat.le_of_ble_eq_true rfl), Or.inr fs_ob5⟩ (by decide) ?_
  refine fs_c_setFact (by first | exact Or.inl rfl | exact Or.inr (Or.inl rfl) | assumption) (by omega) (by omega) ?_
  refine fs_r_iret (a := (M 5 1)) (L1 := [some (.inr (.ref 5)), some (.inl (M 5 1))]) (M1 := (fs_up (fs_up (fs_up M 5 1 ((M 5 1) + 1)) 7 (((M 5 1) * 5) + 3) 1) 7 (((M 5 1) * 5) + 4) 0)) (ob := []) rfl rfl trivial (Or.inl rfl) ?_
  exact fs_qi (rfl) hq0

theorem fs_c_addHouse12 {d : Nat} {M : fs_M} {Q : Option fs_V → fs_M → Prop}   (ha : 0 ≤ M 12 1 ∧ M 12 1 < 6) (hq0 : Q (some (.inl (M 12 1))) (fs_up (fs_up (fs_up M 12 1 ((M 12 1) + 1)) 14 (((M 12 1) * 5) + 3) 1) 14 (((M 12 1) * 5) + 4) 0)) : fs_W (d + 1) 26 0 [some (.inr (.ref 12)), none] [] M Q := by
  refine fs_r_call (sta := false) (idx := 69) (as := [.inr (.ref 12), .inl (M 12 1), .inl 3, .inl 1]) (rest := []) (L1 := [some (.inr (.ref 12)), some (.inl (M 12 1))]) (st1 := [.inl 1, .inl 3, .inl (M 12 1), .inr (.ref 12)]) (M1 := (fs_up M 12 1 ((M 12 1) + 1))) (ob := [12 < fs_N ∧ fs_kd 12 = 0, 1 < 2, 12 < fs_N ∧ fs_kd 12 = 0, fs_rg ((M 12 1) + 1), 12 < fs_N ∧ fs_kd 12 = 0]) rfl rfl (fs_exA 6 (o1 := [12 < fs_N ∧ fs_kd 12 = 0, 1 < 2, 12 < fs_N ∧ fs_kd 12 = 0]) (L1 := [some (.inr (.ref 12)), some (.inl (M 12 1))]) (st1 := [.inl (M 12 1), .inr (.ref 12)]) (M1 := M) (o2 := [fs_rg ((M 12 1) + 1), 12 < fs_N ∧ fs_kd 12 = 0]) rfl rfl) (fs_oc fs_ob12 (fs_oc (by decide) (fs_oc fs_ob12 (fs_oc ⟨by omega, by omega⟩ (fs_oc fs_ob12 trivial))))) rfl rfl (Nat.le_of_ble_eq_true rfl) ⟨Or.inr (Nat.le_of_ble_eq_true rfl), Or.inr fs_ob12⟩ (by decide) ?_
  refine fs_c_setFact (by first | exact Or.inl rfl | exact Or.inr (Or.inl rfl) | assumption) (by omega) (by omega) ?_
  refine fs_r_call (sta := false) (idx := 69) (as := [.inr (.ref 12), .inl (M 12 1), .inl 4, .inl 0]) (rest := []) (L1 := [some (.inr (.ref 12)), some (.inl (M 12 1))]) (st1 := [.inl 0, .inl 4, .inl (M 12 1), .inr (.ref 12)]) (M1 := (fs_up (fs_up M 12 1 ((M 12 1) + 1)) 14 (((M 12 1) * 5) + 3) 1)) (ob := []) rfl rfl rfl trivial rfl rfl (Nat.le_of_ble_eq_true rfl) ⟨Or.inr (Nat.le_of_ble_eq_true rfl), Or.inr fs_ob12⟩ (by decide) ?_
  refine fs_c_setFact (by first | exact Or.inl rfl | exact Or.inr (Or.inl rfl) | assumption) (by omega) (by omega) ?_
  refine fs_r_iret (a := (M 12 1)) (L1 := [some (.inr (.ref 12)), some (.inl (M 12 1))]) (M1 := (fs_up (fs_up (fs_up M 12 1 ((M 12 1) + 1)) 14 (((M 12 1) * 5) + 3) 1) 14 (((M 12 1) * 5) + 4) 0)) (ob := []) rfl rfl trivial (Or.inl rfl) ?_
  exact fs_qi (rfl) hq0

theorem vw_house {M : fs_M} {N : Int → Int} {x y : Int} (hV : vw 5 M N) (hN : fs_NI N) (hZ : fs_NZ N) (hn : N 1 ≠ 6) :
    vw 5 (fs_up (fs_up (fs_up (fs_up (fs_up M 5 1 (N 1 + 1)) 7 (N 1 * 5 + 3) 1) 7 (N 1 * 5 + 4) 0) 7 (N 1 * 5 + 0) x) 7 (N 1 * 5 + 1) y) (up1 (up1 (up1 (up1 N (10 + 5 * N 1 + 0) x) (10 + 5 * N 1 + 1) y) (10 + 5 * N 1 + 3) 1) 1 (N 1 + 1)) := by
  obtain ⟨v0, v1, vcv, vfc, vhd, vln, vlc, vit⟩ := vw5 hV
  obtain ⟨hA, hH, -, -, -, -, hsh, -⟩ := hN
  have e : ∀ i, i ≠ 1 → (i < 10 + 5 * N 1 ∨ 10 + 5 * N 1 + 5 ≤ i) → up1 (up1 (up1 (up1 N (10 + 5 * N 1 + 0) x) (10 + 5 * N 1 + 1) y) (10 + 5 * N 1 + 3) 1) 1 (N 1 + 1) i = N i := fun i q z => by
    unfold up1
    rw [if_neg q, if_neg (by omega), if_neg (by omega), if_neg (by omega)]
  refine vw5.of ⟨?_, ?_, fun q q0 q1 => ⟨?_, ?_⟩, fun h w x0 x1 w0 w1 z => ?_, fun h w x0 x1 w0 w1 => ?_, fun h w x0 x1 w0 w1 => ?_, fun s x0 x1 => ?_, fun s p w x0 x1 p0 p1 w0 w1 => ?_⟩
  · rw [fs_up_other (by decide), fs_up_other (by decide), fs_up_other (by decide), fs_up_other (by decide), fs_up_at, if_neg (by omega), e 0 (by omega) (by omega)]
    exact v0
  · rw [fs_up_other (by decide), fs_up_other (by decide), fs_up_other (by decide), fs_up_other (by decide), fs_up_at, if_pos rfl]
    rfl
  · rw [fs_up_other (by decide), fs_up_other (by decide), fs_up_other (by decide), fs_up_other (by decide), fs_up_other (by decide), e _ (by omega) (by omega)]
    exact (vcv q q0 q1).1
  · rw [fs_up_other (by decide), fs_up_other (by decide), fs_up_other (by decide), fs_up_other (by decide), fs_up_other (by decide), e _ (by omega) (by omega)]
    exact (vcv q q0 q1).2
  · have e1 : up1 (up1 (up1 (up1 N (10 + 5 * N 1 + 0) x) (10 + 5 * N 1 + 1) y) (10 + 5 * N 1 + 3) 1) 1 (N 1 + 1) 1 = N 1 + 1 := rfl
    rw [e1] at z
    rw [fs_up_at, fs_up_at, fs_up_at, fs_up_at]
    by_cases q : h = N 1
    · subst q
      have zz := hZ.1 (N 1) 4 (by omega) (by omega) (by omega) (by omega)
      have z2 := vfc (N 1) 2 (by omega) (by omega) (by omega) (by omega) (Or.inr (by omega))
      rcases (show w = 0 ∨ w = 1 ∨ w = 2 ∨ w = 3 ∨ w = 4 by omega) with y | y | y | y | y <;> subst y
      · rw [if_neg (by omega), if_pos rfl]
        unfold up1
        rw [if_neg (by omega), if_neg (by omega), if_neg (by omega), if_pos rfl]
      · rw [if_pos rfl]
        unfold up1
        rw [if_neg (by omega), if_neg (by omega), if_pos rfl]
      · rw [if_neg (by omega), if_neg (by omega), if_neg (by omega), if_neg (by omega), fs_up_other (by decide)]
        unfold up1
        rw [if_neg (by omega), if_neg (by omega), if_neg (by omega), if_neg (by omega)]
        exact z2
      · rw [if_neg (by omega), if_neg (by omega), if_neg (by omega), if_pos rfl]
        unfold up1
        rw [if_neg (by omega), if_pos rfl]
      · rw [if_neg (by omega), if_neg (by omega), if_pos rfl]
        unfold up1
        rw [if_neg (by omega), if_neg (by omega), if_neg (by omega), if_neg (by omega)]
        exact zz.symm
    · rw [if_neg (by omega), if_neg (by omega), if_neg (by omega), if_neg (by omega), fs_up_other (by decide), e _ (by omega) (by omega)]
      exact vfc h w x0 x1 w0 w1 (by omega)
  · rw [fs_up_other (by decide), fs_up_other (by decide), fs_up_other (by decide), fs_up_other (by decide), fs_up_other (by decide), e _ (by omega) (by omega)]
    exact vhd h w x0 x1 w0 w1
  · rw [fs_up_other (by decide), fs_up_other (by decide), fs_up_other (by decide), fs_up_other (by decide), fs_up_other (by decide), e _ (by omega) (by omega)]
    exact vln h w x0 x1 w0 w1
  · rw [fs_up_other (by decide), fs_up_other (by decide), fs_up_other (by decide), fs_up_other (by decide), fs_up_other (by decide), e _ (by omega) (by omega)]
    exact vlc s x0 x1
  · rw [e _ (by omega) (by omega)] at p1
    have sh := hsh s x0 x1
    rw [fs_up_other (by decide), fs_up_other (by decide), fs_up_other (by decide), fs_up_other (by decide), fs_up_other (by decide), e _ (by omega) (by omega)]
    exact vit s p w x0 x1 p0 p1 w0 w1
theorem fs_c_house {d : Nat} {M : fs_M} {Q : Option fs_V → fs_M → Prop} {x : Int} {y : Int} {N : Int → Int} {n : Int} {U : Int → Int → Int} (hV : vw 5 M N) (hN : fs_NI N) (hU : us M n U) (hZ : fs_NZ N) (hq0 : ∀ (M2 : fs_M), ((0 ≤ x ∧ x ≤ 9999) ∧ (0 ≤ y ∧ y ≤ 9999) ∧ N 1 ≠ 6) → (ca M M2 (up1 (up1 (up1 (up1 N (10 + 5 * N 1 + 0) x) (10 + 5 * N 1 + 1) y) (10 + 5 * N 1 + 3) 1) 1 (N 1 + 1)) n U N) → Q (some (.inl (N 1))) M2) (hq1 : (¬ ((0 ≤ x ∧ x ≤ 9999) ∧ (0 ≤ y ∧ y ≤ 9999) ∧ N 1 ≠ 6)) → Q (some (.inl (-1))) M) : fs_W (d + 4) 79 0 [some (.inr (.ref 0)), some (.inl x), some (.inl y), none] [] M Q := by
  obtain ⟨v0, v1, vcv, vfc, vhd, vln, vlc, vit⟩ := vw5 hV
  obtain ⟨⟨hA0, hA1⟩, ⟨hH0, hH1⟩, hcv, hfc, hhd, hln, hsh, hit, hst⟩ := id hN
  refine fs_r_icmp (a := (M 5 1)) (y := 6) (L1 := [some (.inr (.ref 0)), some (.inl x), some (.inl y), none]) (st1 := []) (M1 := M) (ob := [0 < fs_N ∧ fs_kd 0 = 5, 5 < fs_N ∧ fs_kd 5 = 0]) rfl rfl (fs_oc fs_ob0 (fs_oc fs_ob5 trivial)) (fun (h1 : 6 ≤ (M 5 1)) => ?_) (fun (h1 : ¬ (6 ≤ (M 5 1))) => ?_)
  · refine fs_r_iret (a := (-1)) (L1 := [some (.inr (.ref 0)), some (.inl x), some (.inl y), none]) (M1 := M) (ob := []) rfl rfl trivial (Or.inl rfl) ?_
    exact hq1 (fun z => by omega)
  refine fs_r_call (sta := true) (idx := 106) (as := [.inl 0, .inl x]) (rest := []) (L1 := [some (.inr (.ref 0)), some (.inl x), some (.inl y), none]) (st1 := [.inl x, .inl 0]) (M1 := M) (ob := []) rfl rfl rfl trivial rfl rfl (Nat.le_of_ble_eq_true rfl) ⟨Or.inr (Nat.le_of_ble_eq_true rfl), trivial⟩ (by decide) ?_
  refine fs_c_factFits (fun (f2 : (0 ≤ 0 ∧ 0 ≤ 4) ∧ ((0 = 3 → 1 ≤ x ∧ x ≤ 99) ∧ (0 = 4 → 0 ≤ x ∧ x ≤ 1) ∧ (0 ≤ 2 → 0 ≤ x ∧ x ≤ 9999))) => ?_) (fun (f3 : ¬ ((0 ≤ 0 ∧ 0 ≤ 4) ∧ ((0 = 3 → 1 ≤ x ∧ x ≤ 99) ∧ (0 = 4 → 0 ≤ x ∧ x ≤ 1) ∧ (0 ≤ 2 → 0 ≤ x ∧ x ≤ 9999)))) => ?_)
  · refine fs_r_if (a := 1) (L1 := [some (.inr (.ref 0)), some (.inl x), some (.inl y), none]) (st1 := []) (M1 := M) (ob := []) rfl rfl trivial (fun h => absurd h (by decide : ¬ ((1 : Int) = 0))) (fun _ => ?_)
    refine fs_r_call (sta := true) (idx := 106) (as := [.inl 1, .inl y]) (rest := []) (L1 := [some (.inr (.ref 0)), some (.inl x), some (.inl y), none]) (st1 := [.inl y, .inl 1]) (M1 := M) (ob := []) rfl rfl rfl trivial rfl rfl (Nat.le_of_ble_eq_true rfl) ⟨Or.inr (Nat.le_of_ble_eq_true rfl), trivial⟩ (by decide) ?_
    refine fs_c_factFits (fun (f4 : (0 ≤ 1 ∧ 1 ≤ 4) ∧ ((1 = 3 → 1 ≤ y ∧ y ≤ 99) ∧ (1 = 4 → 0 ≤ y ∧ y ≤ 1) ∧ (1 ≤ 2 → 0 ≤ y ∧ y ≤ 9999))) => ?_) (fun (f5 : ¬ ((0 ≤ 1 ∧ 1 ≤ 4) ∧ ((1 = 3 → 1 ≤ y ∧ y ≤ 99) ∧ (1 = 4 → 0 ≤ y ∧ y ≤ 1) ∧ (1 ≤ 2 → 0 ≤ y ∧ y ≤ 9999)))) => ?_)
    · refine fs_r_if (a := 1) (L1 := [some (.inr (.ref 0)), some (.inl x), some (.inl y), none]) (st1 := []) (M1 := M) (ob := []) rfl rfl trivial (fun _ => ?_) (fun h => absurd (by decide : ¬ (1 : Int) = 0) h)
      refine fs_r_call (sta := false) (idx := 99) (as := [.inr (.ref 0)]) (rest := []) (L1 := [some (.inr (.ref 0)), some (.inl x), some (.inl y), none]) (st1 := [.inr (.ref 0)]) (M1 := M) (ob := []) rfl rfl rfl trivial rfl rfl (Nat.le_of_ble_eq_true rfl) ⟨Or.inr (Nat.le_of_ble_eq_true rfl), Or.inr fs_ob0⟩ (by decide) ?_
      refine fs_c_remember (N := N) (n := n) (U := U) (by assumption) (by assumption) (by assumption) (fun (V1 : fs_M) (rf : ∀ r, r ≠ 0 → (r < 40 ∨ 123 < r) → V1 r = M r) (ru : us V1 (us_n n) (us_u n U N)) => ?_)
      have b0 := congrFun (rf 5 (by decide) (by decide)) 1
      have e0 : V1 5 1 = N 1 := by omega
      refine fs_r_call (sta := false) (idx := 109) (as := [.inr (.ref 5)]) (rest := []) (L1 := [some (.inr (.ref 0)), some (.inl x), some (.inl y), none]) (st1 := [.inr (.ref 5)]) (M1 := V1) (ob := [0 < fs_N ∧ fs_kd 0 = 5]) rfl rfl rfl (fs_oc fs_ob0 trivial) rfl rfl (Nat.le_of_ble_eq_true rfl) ⟨Or.inr (Nat.le_of_ble_eq_true rfl), Or.inr fs_ob5⟩ (by decide) ?_
      refine fs_c_addHouse5 (by omega) ?_
      refine fs_r_call (sta := false) (idx := 113) (as := [.inr (.ref 5), .inl (V1 5 1), .inl 0, .inl x]) (rest := []) (L1 := [some (.inr (.ref 0)), some (.inl x), some (.inl y), some (.inl (V1 5 1))]) (st1 := [.inl x, .inl 0, .inl (V1 5 1), .inr (.ref 5)]) (M1 := (fs_up (fs_up (fs_up V1 5 1 ((V1 5 1) + 1)) 7 (((V1 5 1) * 5) + 3) 1) 7 (((V1 5 1) * 5) + 4) 0)) (ob := [3 < 4, 0 < fs_N ∧ fs_kd 0 = 5]) rfl rfl rfl (fs_oc (by decide) (fs_oc fs_ob0 trivial)) rfl rfl (Nat.le_of_ble_eq_true rfl) ⟨Or.inr (Nat.le_of_ble_eq_true rfl), Or.inr fs_ob5⟩ (by decide) ?_
      refine fs_c_setFact (by first | exact Or.inl rfl | exact Or.inr (Or.inl rfl) | assumption) (by omega) (by omega) ?_
      refine fs_r_call (sta := false) (idx := 113) (as := [.inr (.ref 5), .inl (V1 5 1), .inl 1, .inl y]) (rest := []) (L1 := [some (.inr (.ref 0)), some (.inl x), some (.inl y), some (.inl (V1 5 1))]) (st1 := [.inl y, .inl 1, .inl (V1 5 1), .inr (.ref 5)]) (M1 := (fs_up (fs_up (fs_up (fs_up V1 5 1 ((V1 5 1) + 1)) 7 (((V1 5 1) * 5) + 3) 1) 7 (((V1 5 1) * 5) + 4) 0) 7 (((V1 5 1) * 5) + 0) x)) (ob := [0 < fs_N ∧ fs_kd 0 = 5]) rfl rfl rfl (fs_oc fs_ob0 trivial) rfl rfl (Nat.le_of_ble_eq_true rfl) ⟨Or.inr (Nat.le_of_ble_eq_true rfl), Or.inr fs_ob5⟩ (by decide) ?_
      refine fs_c_setFact (by first | exact Or.inl rfl | exact Or.inr (Or.inl rfl) | assumption) (by omega) (by omega) ?_
      refine fs_r_iret (a := (V1 5 1)) (L1 := [some (.inr (.ref 0)), some (.inl x), some (.inl y), some (.inl (V1 5 1))]) (M1 := (fs_up (fs_up (fs_up (fs_up (fs_up V1 5 1 ((V1 5 1) + 1)) 7 (((V1 5 1) * 5) + 3) 1) 7 (((V1 5 1) * 5) + 4) 0) 7 (((V1 5 1) * 5) + 0) x) 7 (((V1 5 1) * 5) + 1) y)) (ob := []) rfl rfl trivial (Or.inl rfl) ?_
      refine fs_qi e0 (hq0 _ (by omega) (ca.of rf ru ?_ (fun r q => by rw [fs_up_other (by omega), fs_up_other (by omega), fs_up_other (by omega), fs_up_other (by omega), fs_up_other (by omega)])))
      simp only [e0]
      exact vw_house (hV.fr (fun r q1 q2 => rf r (by omega) (by omega))) hN hZ (by omega)
    refine fs_r_if (a := 0) (L1 := [some (.inr (.ref 0)), some (.inl x), some (.inl y), none]) (st1 := []) (M1 := M) (ob := []) rfl rfl trivial (fun h => absurd h (by decide : ¬ (¬ (0 : Int) = 0))) (fun _ => ?_)
    refine fs_r_iret (a := (-1)) (L1 := [some (.inr (.ref 0)), some (.inl x), some (.inl y), none]) (M1 := M) (ob := []) rfl rfl trivial (Or.inl rfl) ?_
    exact hq1 (fun z => by omega)
  refine fs_r_if (a := 0) (L1 := [some (.inr (.ref 0)), some (.inl x), some (.inl y), none]) (st1 := []) (M1 := M) (ob := []) rfl rfl trivial (fun _ => ?_) (fun h => absurd (by decide : (0 : Int) = 0) h)
  refine fs_r_iret (a := (-1)) (L1 := [some (.inr (.ref 0)), some (.inl x), some (.inl y), none]) (M1 := M) (ob := []) rfl rfl trivial (Or.inl rfl) ?_
  exact hq1 (fun z => by omega)

theorem fs_c_put5 {d : Nat} {M : fs_M} {Q : Option fs_V → fs_M → Prop} {s : Int} {k : Int} {a : Int} {v : Int}  (hs : 0 ≤ s ∧ s < 3) (hp : 0 ≤ M 10 s ∧ M 10 s < 4) (hq0 : Q (some (.inl (M 10 s))) (fs_up (fs_up (fs_up (fs_up M 11 (((s * 4) + (M 10 s)) * 3) k) 11 ((((s * 4) + (M 10 s)) * 3) + 1) a) 11 ((((s * 4) + (M 10 s)) * 3) + 2) v) 10 s ((M 10 s) + 1))) : fs_W (d) 27 0 [some (.inr (.ref 5)), some (.inl s), some (.inl k), some (.inl a), some (.inl v), none, none] [] M Q := by
  refine fs_r_iret (a := (M 10 s)) (L1 := [some (.inr (.ref 5)), some (.inl s), some (.inl k), some (.inl a), some (.inl v), some (.inl (M 10 s)), some (.inl (((s * 4) + (M 10 s)) * 3))]) (M1 := (fs_up (fs_up (fs_up (fs_up M 11 (((s * 4) + (M 10 s)) * 3) k) 11 ((((s * 4) + (M 10 s)) * 3) + 1) a) 11 ((((s * 4) + (M 10 s)) * 3) + 2) v) 10 s ((M 10 s) + 1))) (ob := [5 < fs_N ∧ fs_kd 5 = 0, (10 < fs_N ∧ fs_kd 10 = 100) ∧ (0 : Int) ≤ s ∧ s < fs_ln 10, 5 < 7, fs_rg (s * 4), fs_rg ((s * 4) + (M 10 s)), fs_rg (((s * 4) + (M 10 s)) * 3), 6 < 7, 5 < fs_N ∧ fs_kd 5 = 0, (11 < fs_N ∧ fs_kd 11 = 100) ∧ (0 : Int) ≤ (((s * 4) + (M 10 s)) * 3) ∧ (((s * 4) + (M 10 s)) * 3) < fs_ln 11, 5 < fs_N ∧ fs_kd 5 = 0, fs_rg ((((s * 4) + (M 10 s)) * 3) + 1), (11 < fs_N ∧ fs_kd 11 = 100) ∧ (0 : Int) ≤ ((((s * 4) + (M 10 s)) * 3) + 1) ∧ ((((s * 4) + (M 10 s)) * 3) + 1) < fs_ln 11, 5 < fs_N ∧ fs_kd 5 = 0, fs_rg ((((s * 4) + (M 10 s)) * 3) + 2), (11 < fs_N ∧ fs_kd 11 = 100) ∧ (0 : Int) ≤ ((((s * 4) + (M 10 s)) * 3) + 2) ∧ ((((s * 4) + (M 10 s)) * 3) + 2) < fs_ln 11, 5 < fs_N ∧ fs_kd 5 = 0, (10 < fs_N ∧ fs_kd 10 = 100) ∧ (0 : Int) ≤ s ∧ s < fs_ln 10, fs_rg ((M 10 s) + 1), (10 < fs_N ∧ fs_kd 10 = 100) ∧ (0 : Int) ≤ s ∧ s < fs_ln 10]) rfl (fs_exA 6 (o1 := [5 < fs_N ∧ fs_kd 5 = 0, (10 < fs_N ∧ fs_kd 10 = 100) ∧ (0 : Int) ≤ s ∧ s < fs_ln 10, 5 < 7]) (L1 := [some (.inr (.ref 5)), some (.inl s), some (.inl k), some (.inl a), some (.inl v), some (.inl (M 10 s)), none]) (st1 := [.inl s]) (M1 := M) (o2 := [fs_rg (s * 4), fs_rg ((s * 4) + (M 10 s)), fs_rg (((s * 4) + (M 10 s)) * 3), 6 < 7, 5 < fs_N ∧ fs_kd 5 = 0, (11 < fs_N ∧ fs_kd 11 = 100) ∧ (0 : Int) ≤ (((s * 4) + (M 10 s)) * 3) ∧ (((s * 4) + (M 10 s)) * 3) < fs_ln 11, 5 < fs_N ∧ fs_kd 5 = 0, fs_rg ((((s * 4) + (M 10 s)) * 3) + 1), (11 < fs_N ∧ fs_kd 11 = 100) ∧ (0 : Int) ≤ ((((s * 4) + (M 10 s)) * 3) + 1) ∧ ((((s * 4) + (M 10 s)) * 3) + 1) < fs_ln 11, 5 < fs_N ∧ fs_kd 5 = 0, fs_rg ((((s * 4) + (M 10 s)) * 3) + 2), (11 < fs_N ∧ fs_kd 11 = 100) ∧ (0 : Int) ≤ ((((s * 4) + (M 10 s)) * 3) + 2) ∧ ((((s * 4) + (M 10 s)) * 3) + 2) < fs_ln 11, 5 < fs_N ∧ fs_kd 5 = 0, (10 < fs_N ∧ fs_kd 10 = 100) ∧ (0 : Int) ≤ s ∧ s < fs_ln 10, fs_rg ((M 10 s) + 1), (10 < fs_N ∧ fs_kd 10 = 100) ∧ (0 : Int) ≤ s ∧ s < fs_ln 10]) rfl (fs_exA 6 (o1 := [fs_rg (s * 4), fs_rg ((s * 4) + (M 10 s)), fs_rg (((s * 4) + (M 10 s)) * 3)]) (L1 := [some (.inr (.ref 5)), some (.inl s), some (.inl k), some (.inl a), some (.inl v), some (.inl (M 10 s)), none]) (st1 := [.inl (((s * 4) + (M 10 s)) * 3)]) (M1 := M) (o2 := [6 < 7, 5 < fs_N ∧ fs_kd 5 = 0, (11 < fs_N ∧ fs_kd 11 = 100) ∧ (0 : Int) ≤ (((s * 4) + (M 10 s)) * 3) ∧ (((s * 4) + (M 10 s)) * 3) < fs_ln 11, 5 < fs_N ∧ fs_kd 5 = 0, fs_rg ((((s * 4) + (M 10 s)) * 3) + 1), (11 < fs_N ∧ fs_kd 11 = 100) ∧ (0 : Int) ≤ ((((s * 4) + (M 10 s)) * 3) + 1) ∧ ((((s * 4) + (M 10 s)) * 3) + 1) < fs_ln 11, 5 < fs_N ∧ fs_kd 5 = 0, fs_rg ((((s * 4) + (M 10 s)) * 3) + 2), (11 < fs_N ∧ fs_kd 11 = 100) ∧ (0 : Int) ≤ ((((s * 4) + (M 10 s)) * 3) + 2) ∧ ((((s * 4) + (M 10 s)) * 3) + 2) < fs_ln 11, 5 < fs_N ∧ fs_kd 5 = 0, (10 < fs_N ∧ fs_kd 10 = 100) ∧ (0 : Int) ≤ s ∧ s < fs_ln 10, fs_rg ((M 10 s) + 1), (10 < fs_N ∧ fs_kd 10 = 100) ∧ (0 : Int) ≤ s ∧ s < fs_ln 10]) rfl (fs_exA 6 (o1 := [6 < 7, 5 < fs_N ∧ fs_kd 5 = 0, (11 < fs_N ∧ fs_kd 11 = 100) ∧ (0 : Int) ≤ (((s * 4) + (M 10 s)) * 3) ∧ (((s * 4) + (M 10 s)) * 3) < fs_ln 11]) (L1 := [some (.inr (.ref 5)), some (.inl s), some (.inl k), some (.inl a), some (.inl v), some (.inl (M 10 s)), some (.inl (((s * 4) + (M 10 s)) * 3))]) (st1 := []) (M1 := (fs_up M 11 (((s * 4) + (M 10 s)) * 3) k)) (o2 := [5 < fs_N ∧ fs_kd 5 = 0, fs_rg ((((s * 4) + (M 10 s)) * 3) + 1), (11 < fs_N ∧ fs_kd 11 = 100) ∧ (0 : Int) ≤ ((((s * 4) + (M 10 s)) * 3) + 1) ∧ ((((s * 4) + (M 10 s)) * 3) + 1) < fs_ln 11, 5 < fs_N ∧ fs_kd 5 = 0, fs_rg ((((s * 4) + (M 10 s)) * 3) + 2), (11 < fs_N ∧ fs_kd 11 = 100) ∧ (0 : Int) ≤ ((((s * 4) + (M 10 s)) * 3) + 2) ∧ ((((s * 4) + (M 10 s)) * 3) + 2) < fs_ln 11, 5 < fs_N ∧ fs_kd 5 = 0, (10 < fs_N ∧ fs_kd 10 = 100) ∧ (0 : Int) ≤ s ∧ s < fs_ln 10, fs_rg ((M 10 s) + 1), (10 < fs_N ∧ fs_kd 10 = 100) ∧ (0 : Int) ≤ s ∧ s < fs_ln 10]) rfl (fs_exA 6 (o1 := [5 < fs_N ∧ fs_kd 5 = 0, fs_rg ((((s * 4) + (M 10 s)) * 3) + 1)]) (L1 := [some (.inr (.ref 5)), some (.inl s), some (.inl k), some (.inl a), some (.inl v), some (.inl (M 10 s)), some (.inl (((s * 4) + (M 10 s)) * 3))]) (st1 := [.inl a, .inl ((((s * 4) + (M 10 s)) * 3) + 1), .inr (.ref 11)]) (M1 := (fs_up M 11 (((s * 4) + (M 10 s)) * 3) k)) (o2 := [(11 < fs_N ∧ fs_kd 11 = 100) ∧ (0 : Int) ≤ ((((s * 4) + (M 10 s)) * 3) + 1) ∧ ((((s * 4) + (M 10 s)) * 3) + 1) < fs_ln 11, 5 < fs_N ∧ fs_kd 5 = 0, fs_rg ((((s * 4) + (M 10 s)) * 3) + 2), (11 < fs_N ∧ fs_kd 11 = 100) ∧ (0 : Int) ≤ ((((s * 4) + (M 10 s)) * 3) + 2) ∧ ((((s * 4) + (M 10 s)) * 3) + 2) < fs_ln 11, 5 < fs_N ∧ fs_kd 5 = 0, (10 < fs_N ∧ fs_kd 10 = 100) ∧ (0 : Int) ≤ s ∧ s < fs_ln 10, fs_rg ((M 10 s) + 1), (10 < fs_N ∧ fs_kd 10 = 100) ∧ (0 : Int) ≤ s ∧ s < fs_ln 10]) rfl (fs_exA 6 (o1 := [(11 < fs_N ∧ fs_kd 11 = 100) ∧ (0 : Int) ≤ ((((s * 4) + (M 10 s)) * 3) + 1) ∧ ((((s * 4) + (M 10 s)) * 3) + 1) < fs_ln 11, 5 < fs_N ∧ fs_kd 5 = 0, fs_rg ((((s * 4) + (M 10 s)) * 3) + 2)]) (L1 := [some (.inr (.ref 5)), some (.inl s), some (.inl k), some (.inl a), some (.inl v), some (.inl (M 10 s)), some (.inl (((s * 4) + (M 10 s)) * 3))]) (st1 := [.inl ((((s * 4) + (M 10 s)) * 3) + 2), .inr (.ref 11)]) (M1 := (fs_up (fs_up M 11 (((s * 4) + (M 10 s)) * 3) k) 11 ((((s * 4) + (M 10 s)) * 3) + 1) a)) (o2 := [(11 < fs_N ∧ fs_kd 11 = 100) ∧ (0 : Int) ≤ ((((s * 4) + (M 10 s)) * 3) + 2) ∧ ((((s * 4) + (M 10 s)) * 3) + 2) < fs_ln 11, 5 < fs_N ∧ fs_kd 5 = 0, (10 < fs_N ∧ fs_kd 10 = 100) ∧ (0 : Int) ≤ s ∧ s < fs_ln 10, fs_rg ((M 10 s) + 1), (10 < fs_N ∧ fs_kd 10 = 100) ∧ (0 : Int) ≤ s ∧ s < fs_ln 10]) rfl (fs_exA 6 (o1 := [(11 < fs_N ∧ fs_kd 11 = 100) ∧ (0 : Int) ≤ ((((s * 4) + (M 10 s)) * 3) + 2) ∧ ((((s * 4) + (M 10 s)) * 3) + 2) < fs_ln 11, 5 < fs_N ∧ fs_kd 5 = 0]) (L1 := [some (.inr (.ref 5)), some (.inl s), some (.inl k), some (.inl a), some (.inl v), some (.inl (M 10 s)), some (.inl (((s * 4) + (M 10 s)) * 3))]) (st1 := [.inl s, .inr (.ref 10), .inl s, .inr (.ref 10)]) (M1 := (fs_up (fs_up (fs_up M 11 (((s * 4) + (M 10 s)) * 3) k) 11 ((((s * 4) + (M 10 s)) * 3) + 1) a) 11 ((((s * 4) + (M 10 s)) * 3) + 2) v)) (o2 := [(10 < fs_N ∧ fs_kd 10 = 100) ∧ (0 : Int) ≤ s ∧ s < fs_ln 10, fs_rg ((M 10 s) + 1), (10 < fs_N ∧ fs_kd 10 = 100) ∧ (0 : Int) ≤ s ∧ s < fs_ln 10]) rfl rfl)))))) (fs_oc fs_ob5 (fs_oc (fs_ar10 (by omega) (by omega)) (fs_oc (by decide) (fs_oc ⟨by omega, by omega⟩ (fs_oc ⟨by omega, by omega⟩ (fs_oc ⟨by omega, by omega⟩ (fs_oc (by decide) (fs_oc fs_ob5 (fs_oc (fs_ar11 (by omega) (by omega)) (fs_oc fs_ob5 (fs_oc ⟨by omega, by omega⟩ (fs_oc (fs_ar11 (by omega) (by omega)) (fs_oc fs_ob5 (fs_oc ⟨by omega, by omega⟩ (fs_oc (fs_ar11 (by omega) (by omega)) (fs_oc fs_ob5 (fs_oc (fs_ar10 (by omega) (by omega)) (fs_oc ⟨by omega, by omega⟩ (fs_oc (fs_ar10 (by omega) (by omega)) trivial))))))))))))))))))) (Or.inl rfl) ?_
  exact fs_qi (rfl) hq0

theorem fs_c_put12 {d : Nat} {M : fs_M} {Q : Option fs_V → fs_M → Prop} {s : Int} {k : Int} {a : Int} {v : Int}  (hs : 0 ≤ s ∧ s < 3) (hp : 0 ≤ M 17 s ∧ M 17 s < 4) (hq0 : Q (some (.inl (M 17 s))) (fs_up (fs_up (fs_up (fs_up M 18 (((s * 4) + (M 17 s)) * 3) k) 18 ((((s * 4) + (M 17 s)) * 3) + 1) a) 18 ((((s * 4) + (M 17 s)) * 3) + 2) v) 17 s ((M 17 s) + 1))) : fs_W (d) 27 0 [some (.inr (.ref 12)), some (.inl s), some (.inl k), some (.inl a), some (.inl v), none, none] [] M Q := by
  refine fs_r_iret (a := (M 17 s)) (L1 := [some (.inr (.ref 12)), some (.inl s), some (.inl k), some (.inl a), some (.inl v), some (.inl (M 17 s)), some (.inl (((s * 4) + (M 17 s)) * 3))]) (M1 := (fs_up (fs_up (fs_up (fs_up M 18 (((s * 4) + (M 17 s)) * 3) k) 18 ((((s * 4) + (M 17 s)) * 3) + 1) a) 18 ((((s * 4) + (M 17 s)) * 3) + 2) v) 17 s ((M 17 s) + 1))) (ob := [12 < fs_N ∧ fs_kd 12 = 0, (17 < fs_N ∧ fs_kd 17 = 100) ∧ (0 : Int) ≤ s ∧ s < fs_ln 17, 5 < 7, fs_rg (s * 4), fs_rg ((s * 4) + (M 17 s)), fs_rg (((s * 4) + (M 17 s)) * 3), 6 < 7, 12 < fs_N ∧ fs_kd 12 = 0, (18 < fs_N ∧ fs_kd 18 = 100) ∧ (0 : Int) ≤ (((s * 4) + (M 17 s)) * 3) ∧ (((s * 4) + (M 17 s)) * 3) < fs_ln 18, 12 < fs_N ∧ fs_kd 12 = 0, fs_rg ((((s * 4) + (M 17 s)) * 3) + 1), (18 < fs_N ∧ fs_kd 18 = 100) ∧ (0 : Int) ≤ ((((s * 4) + (M 17 s)) * 3) + 1) ∧ ((((s * 4) + (M 17 s)) * 3) + 1) < fs_ln 18, 12 < fs_N ∧ fs_kd 12 = 0, fs_rg ((((s * 4) + (M 17 s)) * 3) + 2), (18 < fs_N ∧ fs_kd 18 = 100) ∧ (0 : Int) ≤ ((((s * 4) + (M 17 s)) * 3) + 2) ∧ ((((s * 4) + (M 17 s)) * 3) + 2) < fs_ln 18, 12 < fs_N ∧ fs_kd 12 = 0, (17 < fs_N ∧ fs_kd 17 = 100) ∧ (0 : Int) ≤ s ∧ s < fs_ln 17, fs_rg ((M 17 s) + 1), (17 < fs_N ∧ fs_kd 17 = 100) ∧ (0 : Int) ≤ s ∧ s < fs_ln 17]) rfl (fs_exA 6 (o1 := [12 < fs_N ∧ fs_kd 12 = 0, (17 < fs_N ∧ fs_kd 17 = 100) ∧ (0 : Int) ≤ s ∧ s < fs_ln 17, 5 < 7]) (L1 := [some (.inr (.ref 12)), some (.inl s), some (.inl k), some (.inl a), some (.inl v), some (.inl (M 17 s)), none]) (st1 := [.inl s]) (M1 := M) (o2 := [fs_rg (s * 4), fs_rg ((s * 4) + (M 17 s)), fs_rg (((s * 4) + (M 17 s)) * 3), 6 < 7, 12 < fs_N ∧ fs_kd 12 = 0, (18 < fs_N ∧ fs_kd 18 = 100) ∧ (0 : Int) ≤ (((s * 4) + (M 17 s)) * 3) ∧ (((s * 4) + (M 17 s)) * 3) < fs_ln 18, 12 < fs_N ∧ fs_kd 12 = 0, fs_rg ((((s * 4) + (M 17 s)) * 3) + 1), (18 < fs_N ∧ fs_kd 18 = 100) ∧ (0 : Int) ≤ ((((s * 4) + (M 17 s)) * 3) + 1) ∧ ((((s * 4) + (M 17 s)) * 3) + 1) < fs_ln 18, 12 < fs_N ∧ fs_kd 12 = 0, fs_rg ((((s * 4) + (M 17 s)) * 3) + 2), (18 < fs_N ∧ fs_kd 18 = 100) ∧ (0 : Int) ≤ ((((s * 4) + (M 17 s)) * 3) + 2) ∧ ((((s * 4) + (M 17 s)) * 3) + 2) < fs_ln 18, 12 < fs_N ∧ fs_kd 12 = 0, (17 < fs_N ∧ fs_kd 17 = 100) ∧ (0 : Int) ≤ s ∧ s < fs_ln 17, fs_rg ((M 17 s) + 1), (17 < fs_N ∧ fs_kd 17 = 100) ∧ (0 : Int) ≤ s ∧ s < fs_ln 17]) rfl (fs_exA 6 (o1 := [fs_rg (s * 4), fs_rg ((s * 4) + (M 17 s)), fs_rg (((s * 4) + (M 17 s)) * 3)]) (L1 := [some (.inr (.ref 12)), some (.inl s), some (.inl k), some (.inl a), some (.inl v), some (.inl (M 17 s)), none]) (st1 := [.inl (((s * 4) + (M 17 s)) * 3)]) (M1 := M) (o2 := [6 < 7, 12 < fs_N ∧ fs_kd 12 = 0, (18 < fs_N ∧ fs_kd 18 = 100) ∧ (0 : Int) ≤ (((s * 4) + (M 17 s)) * 3) ∧ (((s * 4) + (M 17 s)) * 3) < fs_ln 18, 12 < fs_N ∧ fs_kd 12 = 0, fs_rg ((((s * 4) + (M 17 s)) * 3) + 1), (18 < fs_N ∧ fs_kd 18 = 100) ∧ (0 : Int) ≤ ((((s * 4) + (M 17 s)) * 3) + 1) ∧ ((((s * 4) + (M 17 s)) * 3) + 1) < fs_ln 18, 12 < fs_N ∧ fs_kd 12 = 0, fs_rg ((((s * 4) + (M 17 s)) * 3) + 2), (18 < fs_N ∧ fs_kd 18 = 100) ∧ (0 : Int) ≤ ((((s * 4) + (M 17 s)) * 3) + 2) ∧ ((((s * 4) + (M 17 s)) * 3) + 2) < fs_ln 18, 12 < fs_N ∧ fs_kd 12 = 0, (17 < fs_N ∧ fs_kd 17 = 100) ∧ (0 : Int) ≤ s ∧ s < fs_ln 17, fs_rg ((M 17 s) + 1), (17 < fs_N ∧ fs_kd 17 = 100) ∧ (0 : Int) ≤ s ∧ s < fs_ln 17]) rfl (fs_exA 6 (o1 := [6 < 7, 12 < fs_N ∧ fs_kd 12 = 0, (18 < fs_N ∧ fs_kd 18 = 100) ∧ (0 : Int) ≤ (((s * 4) + (M 17 s)) * 3) ∧ (((s * 4) + (M 17 s)) * 3) < fs_ln 18]) (L1 := [some (.inr (.ref 12)), some (.inl s), some (.inl k), some (.inl a), some (.inl v), some (.inl (M 17 s)), some (.inl (((s * 4) + (M 17 s)) * 3))]) (st1 := []) (M1 := (fs_up M 18 (((s * 4) + (M 17 s)) * 3) k)) (o2 := [12 < fs_N ∧ fs_kd 12 = 0, fs_rg ((((s * 4) + (M 17 s)) * 3) + 1), (18 < fs_N ∧ fs_kd 18 = 100) ∧ (0 : Int) ≤ ((((s * 4) + (M 17 s)) * 3) + 1) ∧ ((((s * 4) + (M 17 s)) * 3) + 1) < fs_ln 18, 12 < fs_N ∧ fs_kd 12 = 0, fs_rg ((((s * 4) + (M 17 s)) * 3) + 2), (18 < fs_N ∧ fs_kd 18 = 100) ∧ (0 : Int) ≤ ((((s * 4) + (M 17 s)) * 3) + 2) ∧ ((((s * 4) + (M 17 s)) * 3) + 2) < fs_ln 18, 12 < fs_N ∧ fs_kd 12 = 0, (17 < fs_N ∧ fs_kd 17 = 100) ∧ (0 : Int) ≤ s ∧ s < fs_ln 17, fs_rg ((M 17 s) + 1), (17 < fs_N ∧ fs_kd 17 = 100) ∧ (0 : Int) ≤ s ∧ s < fs_ln 17]) rfl (fs_exA 6 (o1 := [12 < fs_N ∧ fs_kd 12 = 0, fs_rg ((((s * 4) + (M 17 s)) * 3) + 1)]) (L1 := [some (.inr (.ref 12)), some (.inl s), some (.inl k), some (.inl a), some (.inl v), some (.inl (M 17 s)), some (.inl (((s * 4) + (M 17 s)) * 3))]) (st1 := [.inl a, .inl ((((s * 4) + (M 17 s)) * 3) + 1), .inr (.ref 18)]) (M1 := (fs_up M 18 (((s * 4) + (M 17 s)) * 3) k)) (o2 := [(18 < fs_N ∧ fs_kd 18 = 100) ∧ (0 : Int) ≤ ((((s * 4) + (M 17 s)) * 3) + 1) ∧ ((((s * 4) + (M 17 s)) * 3) + 1) < fs_ln 18, 12 < fs_N ∧ fs_kd 12 = 0, fs_rg ((((s * 4) + (M 17 s)) * 3) + 2), (18 < fs_N ∧ fs_kd 18 = 100) ∧ (0 : Int) ≤ ((((s * 4) + (M 17 s)) * 3) + 2) ∧ ((((s * 4) + (M 17 s)) * 3) + 2) < fs_ln 18, 12 < fs_N ∧ fs_kd 12 = 0, (17 < fs_N ∧ fs_kd 17 = 100) ∧ (0 : Int) ≤ s ∧ s < fs_ln 17, fs_rg ((M 17 s) + 1), (17 < fs_N ∧ fs_kd 17 = 100) ∧ (0 : Int) ≤ s ∧ s < fs_ln 17]) rfl (fs_exA 6 (o1 := [(18 < fs_N ∧ fs_kd 18 = 100) ∧ (0 : Int) ≤ ((((s * 4) + (M 17 s)) * 3) + 1) ∧ ((((s * 4) + (M 17 s)) * 3) + 1) < fs_ln 18, 12 < fs_N ∧ fs_kd 12 = 0, fs_rg ((((s * 4) + (M 17 s)) * 3) + 2)]) (L1 := [some (.inr (.ref 12)), some (.inl s), some (.inl k), some (.inl a), some (.inl v), some (.inl (M 17 s)), some (.inl (((s * 4) + (M 17 s)) * 3))]) (st1 := [.inl ((((s * 4) + (M 17 s)) * 3) + 2), .inr (.ref 18)]) (M1 := (fs_up (fs_up M 18 (((s * 4) + (M 17 s)) * 3) k) 18 ((((s * 4) + (M 17 s)) * 3) + 1) a)) (o2 := [(18 < fs_N ∧ fs_kd 18 = 100) ∧ (0 : Int) ≤ ((((s * 4) + (M 17 s)) * 3) + 2) ∧ ((((s * 4) + (M 17 s)) * 3) + 2) < fs_ln 18, 12 < fs_N ∧ fs_kd 12 = 0, (17 < fs_N ∧ fs_kd 17 = 100) ∧ (0 : Int) ≤ s ∧ s < fs_ln 17, fs_rg ((M 17 s) + 1), (17 < fs_N ∧ fs_kd 17 = 100) ∧ (0 : Int) ≤ s ∧ s < fs_ln 17]) rfl (fs_exA 6 (o1 := [(18 < fs_N ∧ fs_kd 18 = 100) ∧ (0 : Int) ≤ ((((s * 4) + (M 17 s)) * 3) + 2) ∧ ((((s * 4) + (M 17 s)) * 3) + 2) < fs_ln 18, 12 < fs_N ∧ fs_kd 12 = 0]) (L1 := [some (.inr (.ref 12)), some (.inl s), some (.inl k), some (.inl a), some (.inl v), some (.inl (M 17 s)), some (.inl (((s * 4) + (M 17 s)) * 3))]) (st1 := [.inl s, .inr (.ref 17), .inl s, .inr (.ref 17)]) (M1 := (fs_up (fs_up (fs_up M 18 (((s * 4) + (M 17 s)) * 3) k) 18 ((((s * 4) + (M 17 s)) * 3) + 1) a) 18 ((((s * 4) + (M 17 s)) * 3) + 2) v)) (o2 := [(17 < fs_N ∧ fs_kd 17 = 100) ∧ (0 : Int) ≤ s ∧ s < fs_ln 17, fs_rg ((M 17 s) + 1), (17 < fs_N ∧ fs_kd 17 = 100) ∧ (0 : Int) ≤ s ∧ s < fs_ln 17]) rfl rfl)))))) (fs_oc fs_ob12 (fs_oc (fs_ar17 (by omega) (by omega)) (fs_oc (by decide) (fs_oc ⟨by omega, by omega⟩ (fs_oc ⟨by omega, by omega⟩ (fs_oc ⟨by omega, by omega⟩ (fs_oc (by decide) (fs_oc fs_ob12 (fs_oc (fs_ar18 (by omega) (by omega)) (fs_oc fs_ob12 (fs_oc ⟨by omega, by omega⟩ (fs_oc (fs_ar18 (by omega) (by omega)) (fs_oc fs_ob12 (fs_oc ⟨by omega, by omega⟩ (fs_oc (fs_ar18 (by omega) (by omega)) (fs_oc fs_ob12 (fs_oc (fs_ar17 (by omega) (by omega)) (fs_oc ⟨by omega, by omega⟩ (fs_oc (fs_ar17 (by omega) (by omega)) trivial))))))))))))))))))) (Or.inl rfl) ?_
  exact fs_qi (rfl) hq0

theorem vw_put5 {M : fs_M} {N : Int → Int} {s k a v : Int} (hV : vw 5 M N) (hsh : ∀ s, 0 ≤ s → s < 3 → 0 ≤ N (100 + 13 * s) ∧ N (100 + 13 * s) ≤ 4) (hs : 0 ≤ s ∧ s < 3) (hn : N (100 + 13 * s) ≠ 4) :
    vw 5 (fs_up (fs_up (fs_up (fs_up M 11 ((s * 4 + N (100 + 13 * s)) * 3) k) 11 ((s * 4 + N (100 + 13 * s)) * 3 + 1) a) 11 ((s * 4 + N (100 + 13 * s)) * 3 + 2) v) 10 s (N (100 + 13 * s) + 1)) (up1 (up1 (up1 (up1 N (100 + 13 * s + 1 + 3 * N (100 + 13 * s)) k) (100 + 13 * s + 1 + 3 * N (100 + 13 * s) + 1) a) (100 + 13 * s + 1 + 3 * N (100 + 13 * s) + 2) v) (100 + 13 * s) (N (100 + 13 * s) + 1)) := by
  obtain ⟨v0, v1, vcv, vfc, vhd, vln, vlc, vit⟩ := hV
  have hp := hsh s hs.1 hs.2
  have e : ∀ i, (i < 100 + 13 * s ∨ 100 + 13 * s + 13 ≤ i) → (up1 (up1 (up1 (up1 N (100 + 13 * s + 1 + 3 * N (100 + 13 * s)) k) (100 + 13 * s + 1 + 3 * N (100 + 13 * s) + 1) a) (100 + 13 * s + 1 + 3 * N (100 + 13 * s) + 2) v) (100 + 13 * s) (N (100 + 13 * s) + 1)) i = N i := fun i q => by
    unfold up1
    rw [if_neg (by omega), if_neg (by omega), if_neg (by omega), if_neg (by omega)]
  have es : (up1 (up1 (up1 (up1 N (100 + 13 * s + 1 + 3 * N (100 + 13 * s)) k) (100 + 13 * s + 1 + 3 * N (100 + 13 * s) + 1) a) (100 + 13 * s + 1 + 3 * N (100 + 13 * s) + 2) v) (100 + 13 * s) (N (100 + 13 * s) + 1)) (100 + 13 * s) = N (100 + 13 * s) + 1 := if_pos rfl
  refine ⟨?_, ?_, fun q q0 q1 => ⟨?_, ?_⟩, fun h w x0 x1 w0 w1 z => ?_, fun h w x0 x1 w0 w1 => ?_, fun h w x0 x1 w0 w1 => ?_, fun t x0 x1 => ?_, fun t p w x0 x1 p0 p1 w0 w1 => ?_⟩
  · rw [fs_up_other (by decide), fs_up_other (by decide), fs_up_other (by decide), fs_up_other (by decide), e 0 (by omega)]
    exact v0
  · rw [fs_up_other (by decide), fs_up_other (by decide), fs_up_other (by decide), fs_up_other (by decide), e 1 (by omega)]
    exact v1
  · rw [fs_up_other (by decide), fs_up_other (by decide), fs_up_other (by decide), fs_up_other (by decide), e _ (by omega)]
    exact (vcv q q0 q1).1
  · rw [fs_up_other (by decide), fs_up_other (by decide), fs_up_other (by decide), fs_up_other (by decide), e _ (by omega)]
    exact (vcv q q0 q1).2
  · rw [e 1 (by omega)] at z
    rw [fs_up_other (by decide), fs_up_other (by decide), fs_up_other (by decide), fs_up_other (by decide), e _ (by omega)]
    exact vfc h w x0 x1 w0 w1 z
  · rw [fs_up_other (by decide), fs_up_other (by decide), fs_up_other (by decide), fs_up_other (by decide), e _ (by omega)]
    exact vhd h w x0 x1 w0 w1
  · rw [fs_up_other (by decide), fs_up_other (by decide), fs_up_other (by decide), fs_up_other (by decide), e _ (by omega)]
    exact vln h w x0 x1 w0 w1
  · show fs_up _ 10 s _ 10 t = _
    rw [fs_up_at]
    by_cases y : t = s
    · rw [if_pos y, y, es]
    · rw [if_neg y, fs_up_other (by decide), fs_up_other (by decide), fs_up_other (by decide), e _ (by omega)]
      exact vlc t x0 x1
  · show fs_up _ 10 s _ 11 _ = _
    rw [fs_up_other (by decide), fs_up_at, fs_up_at, fs_up_at]
    have ht := hsh t x0 x1
    by_cases y : t = s
    · subst y
      rw [es] at p1
      by_cases y2 : p = N (100 + 13 * t)
      · rcases (show w = 0 ∨ w = 1 ∨ w = 2 by omega) with z | z | z <;> subst z
        · rw [if_neg (by omega), if_neg (by omega), if_pos (by omega)]
          unfold up1
          rw [if_neg (by omega), if_neg (by omega), if_neg (by omega), if_pos (by omega)]
        · rw [if_neg (by omega), if_pos (by omega)]
          unfold up1
          rw [if_neg (by omega), if_neg (by omega), if_pos (by omega)]
        · rw [if_pos (by omega)]
          unfold up1
          rw [if_neg (by omega), if_pos (by omega)]
      · rw [if_neg (by omega), if_neg (by omega), if_neg (by omega)]
        unfold up1
        rw [if_neg (by omega), if_neg (by omega), if_neg (by omega), if_neg (by omega)]
        exact vit t p w x0 x1 p0 (by omega) w0 w1
    · rw [e _ (by omega)] at p1
      rw [if_neg (by omega), if_neg (by omega), if_neg (by omega), e _ (by omega)]
      exact vit t p w x0 x1 p0 p1 w0 w1
theorem vw_put12 {M : fs_M} {N : Int → Int} {s k a v : Int} (hV : vw 12 M N) (hsh : ∀ s, 0 ≤ s → s < 3 → 0 ≤ N (100 + 13 * s) ∧ N (100 + 13 * s) ≤ 4) (hs : 0 ≤ s ∧ s < 3) (hn : N (100 + 13 * s) ≠ 4) :
    vw 12 (fs_up (fs_up (fs_up (fs_up M 18 ((s * 4 + N (100 + 13 * s)) * 3) k) 18 ((s * 4 + N (100 + 13 * s)) * 3 + 1) a) 18 ((s * 4 + N (100 + 13 * s)) * 3 + 2) v) 17 s (N (100 + 13 * s) + 1)) (up1 (up1 (up1 (up1 N (100 + 13 * s + 1 + 3 * N (100 + 13 * s)) k) (100 + 13 * s + 1 + 3 * N (100 + 13 * s) + 1) a) (100 + 13 * s + 1 + 3 * N (100 + 13 * s) + 2) v) (100 + 13 * s) (N (100 + 13 * s) + 1)) := by
  obtain ⟨v0, v1, vcv, vfc, vhd, vln, vlc, vit⟩ := hV
  have hp := hsh s hs.1 hs.2
  have e : ∀ i, (i < 100 + 13 * s ∨ 100 + 13 * s + 13 ≤ i) → (up1 (up1 (up1 (up1 N (100 + 13 * s + 1 + 3 * N (100 + 13 * s)) k) (100 + 13 * s + 1 + 3 * N (100 + 13 * s) + 1) a) (100 + 13 * s + 1 + 3 * N (100 + 13 * s) + 2) v) (100 + 13 * s) (N (100 + 13 * s) + 1)) i = N i := fun i q => by
    unfold up1
    rw [if_neg (by omega), if_neg (by omega), if_neg (by omega), if_neg (by omega)]
  have es : (up1 (up1 (up1 (up1 N (100 + 13 * s + 1 + 3 * N (100 + 13 * s)) k) (100 + 13 * s + 1 + 3 * N (100 + 13 * s) + 1) a) (100 + 13 * s + 1 + 3 * N (100 + 13 * s) + 2) v) (100 + 13 * s) (N (100 + 13 * s) + 1)) (100 + 13 * s) = N (100 + 13 * s) + 1 := if_pos rfl
  refine ⟨?_, ?_, fun q q0 q1 => ⟨?_, ?_⟩, fun h w x0 x1 w0 w1 z => ?_, fun h w x0 x1 w0 w1 => ?_, fun h w x0 x1 w0 w1 => ?_, fun t x0 x1 => ?_, fun t p w x0 x1 p0 p1 w0 w1 => ?_⟩
  · rw [fs_up_other (by decide), fs_up_other (by decide), fs_up_other (by decide), fs_up_other (by decide), e 0 (by omega)]
    exact v0
  · rw [fs_up_other (by decide), fs_up_other (by decide), fs_up_other (by decide), fs_up_other (by decide), e 1 (by omega)]
    exact v1
  · rw [fs_up_other (by decide), fs_up_other (by decide), fs_up_other (by decide), fs_up_other (by decide), e _ (by omega)]
    exact (vcv q q0 q1).1
  · rw [fs_up_other (by decide), fs_up_other (by decide), fs_up_other (by decide), fs_up_other (by decide), e _ (by omega)]
    exact (vcv q q0 q1).2
  · rw [e 1 (by omega)] at z
    rw [fs_up_other (by decide), fs_up_other (by decide), fs_up_other (by decide), fs_up_other (by decide), e _ (by omega)]
    exact vfc h w x0 x1 w0 w1 z
  · rw [fs_up_other (by decide), fs_up_other (by decide), fs_up_other (by decide), fs_up_other (by decide), e _ (by omega)]
    exact vhd h w x0 x1 w0 w1
  · rw [fs_up_other (by decide), fs_up_other (by decide), fs_up_other (by decide), fs_up_other (by decide), e _ (by omega)]
    exact vln h w x0 x1 w0 w1
  · show fs_up _ 17 s _ 17 t = _
    rw [fs_up_at]
    by_cases y : t = s
    · rw [if_pos y, y, es]
    · rw [if_neg y, fs_up_other (by decide), fs_up_other (by decide), fs_up_other (by decide), e _ (by omega)]
      exact vlc t x0 x1
  · show fs_up _ 17 s _ 18 _ = _
    rw [fs_up_other (by decide), fs_up_at, fs_up_at, fs_up_at]
    have ht := hsh t x0 x1
    by_cases y : t = s
    · subst y
      rw [es] at p1
      by_cases y2 : p = N (100 + 13 * t)
      · rcases (show w = 0 ∨ w = 1 ∨ w = 2 by omega) with z | z | z <;> subst z
        · rw [if_neg (by omega), if_neg (by omega), if_pos (by omega)]
          unfold up1
          rw [if_neg (by omega), if_neg (by omega), if_neg (by omega), if_pos (by omega)]
        · rw [if_neg (by omega), if_pos (by omega)]
          unfold up1
          rw [if_neg (by omega), if_neg (by omega), if_pos (by omega)]
        · rw [if_pos (by omega)]
          unfold up1
          rw [if_neg (by omega), if_pos (by omega)]
      · rw [if_neg (by omega), if_neg (by omega), if_neg (by omega)]
        unfold up1
        rw [if_neg (by omega), if_neg (by omega), if_neg (by omega), if_neg (by omega)]
        exact vit t p w x0 x1 p0 (by omega) w0 w1
    · rw [e _ (by omega)] at p1
      rw [if_neg (by omega), if_neg (by omega), if_neg (by omega), e _ (by omega)]
      exact vit t p w x0 x1 p0 p1 w0 w1
theorem fs_c_lay {d : Nat} {M : fs_M} {Q : Option fs_V → fs_M → Prop} {s : Int} {k : Int} {a : Int} {v : Int} {N : Int → Int} {n : Int} {U : Int → Int → Int} (hV : vw 5 M N) (hN : fs_NI N) (hU : us M n U) (hq0 : ∀ (M2 : fs_M), (((0 ≤ s ∧ s ≤ 2) ∧ (0 ≤ k ∧ k ≤ 1) ∧ (0 ≤ a ∧ a < N 0) ∧ ((k = 0 → 0 ≤ v ∧ v ≤ 360) ∧ (k = 1 → 0 ≤ v ∧ v ≤ 200))) ∧ (s = 2 ∨ s = k) ∧ N (100 + 13 * s) ≠ 4) → (ca M M2 (up1 (up1 (up1 (up1 N (100 + 13 * s + 1 + 3 * N (100 + 13 * s)) k) (100 + 13 * s + 1 + 3 * N (100 + 13 * s) + 1) a) (100 + 13 * s + 1 + 3 * N (100 + 13 * s) + 2) v) (100 + 13 * s) (N (100 + 13 * s) + 1)) n U N) → Q (some (.inl (N (100 + 13 * s)))) M2) (hq1 : (¬ ((0 ≤ s ∧ s ≤ 2) ∧ (0 ≤ k ∧ k ≤ 1) ∧ (0 ≤ a ∧ a < N 0) ∧ ((k = 0 → 0 ≤ v ∧ v ≤ 360) ∧ (k = 1 → 0 ≤ v ∧ v ≤ 200)))) → Q (some (.inl (-1))) M) (hq2 : (((0 ≤ s ∧ s ≤ 2) ∧ (0 ≤ k ∧ k ≤ 1) ∧ (0 ≤ a ∧ a < N 0) ∧ ((k = 0 → 0 ≤ v ∧ v ≤ 360) ∧ (k = 1 → 0 ≤ v ∧ v ≤ 200))) ∧ ¬ (s = 2 ∨ s = k)) → Q (some (.inl (-2))) M) (hq3 : (((0 ≤ s ∧ s ≤ 2) ∧ (0 ≤ k ∧ k ≤ 1) ∧ (0 ≤ a ∧ a < N 0) ∧ ((k = 0 → 0 ≤ v ∧ v ≤ 360) ∧ (k = 1 → 0 ≤ v ∧ v ≤ 200))) ∧ (s = 2 ∨ s = k) ∧ N (100 + 13 * s) = 4) → Q (some (.inl (-3))) M) : fs_W (d + 4) 84 0 [some (.inr (.ref 0)), some (.inl s), some (.inl k), some (.inl a), some (.inl v)] [] M Q := by
  obtain ⟨v0, v1, vcv, vfc, vhd, vln, vlc, vit⟩ := vw5 hV
  obtain ⟨⟨hA0, hA1⟩, ⟨hH0, hH1⟩, hcv, hfc, hhd, hln, hsh, hit, hst⟩ := id hN
  refine fs_r_call (sta := true) (idx := 131) (as := [.inl s, .inl 0, .inl 2]) (rest := []) (L1 := [some (.inr (.ref 0)), some (.inl s), some (.inl k), some (.inl a), some (.inl v)]) (st1 := [.inl 2, .inl 0, .inl s]) (M1 := M) (ob := []) rfl rfl rfl trivial rfl rfl (Nat.le_of_ble_eq_true rfl) ⟨Or.inr (Nat.le_of_ble_eq_true rfl), trivial⟩ (by decide) ?_
  refine fs_c_isWithin (fun (f1 : 0 ≤ s ∧ s ≤ 2) => ?_) (fun (f2 : ¬ (0 ≤ s ∧ s ≤ 2)) => ?_)
  · refine fs_r_if (a := 1) (L1 := [some (.inr (.ref 0)), some (.inl s), some (.inl k), some (.inl a), some (.inl v)]) (st1 := []) (M1 := M) (ob := []) rfl rfl trivial (fun h => absurd h (by decide : ¬ ((1 : Int) = 0))) (fun _ => ?_)
    refine fs_r_call (sta := false) (idx := 128) (as := [.inr (.ref 5), .inl a]) (rest := []) (L1 := [some (.inr (.ref 0)), some (.inl s), some (.inl k), some (.inl a), some (.inl v)]) (st1 := [.inl a, .inr (.ref 5)]) (M1 := M) (ob := [0 < fs_N ∧ fs_kd 0 = 5]) rfl rfl rfl (fs_oc fs_ob0 trivial) rfl rfl (Nat.le_of_ble_eq_true rfl) ⟨Or.inr (Nat.le_of_ble_eq_true rfl), Or.inr fs_ob5⟩ (by decide) ?_
    refine fs_c_isAsset (fun (f3 : 0 ≤ a ∧ a < M 5 0) => ?_) (fun (f4 : ¬ (0 ≤ a ∧ a < M 5 0)) => ?_)
    · refine fs_r_if (a := 1) (L1 := [some (.inr (.ref 0)), some (.inl s), some (.inl k), some (.inl a), some (.inl v)]) (st1 := []) (M1 := M) (ob := []) rfl rfl trivial (fun h => absurd h (by decide : ¬ ((1 : Int) = 0))) (fun _ => ?_)
      refine fs_r_call (sta := true) (idx := 147) (as := [.inl k, .inl v]) (rest := []) (L1 := [some (.inr (.ref 0)), some (.inl s), some (.inl k), some (.inl a), some (.inl v)]) (st1 := [.inl v, .inl k]) (M1 := M) (ob := []) rfl rfl rfl trivial rfl rfl (Nat.le_of_ble_eq_true rfl) ⟨Or.inr (Nat.le_of_ble_eq_true rfl), trivial⟩ (by decide) ?_
      refine fs_c_itemFits (fun (f5 : (0 ≤ k ∧ k ≤ 1) ∧ ((k = 0 → 0 ≤ v ∧ v ≤ 360) ∧ (k = 1 → 0 ≤ v ∧ v ≤ 200))) => ?_) (fun (f6 : ¬ ((0 ≤ k ∧ k ≤ 1) ∧ ((k = 0 → 0 ≤ v ∧ v ≤ 360) ∧ (k = 1 → 0 ≤ v ∧ v ≤ 200)))) => ?_)
      · refine fs_r_if (a := 1) (L1 := [some (.inr (.ref 0)), some (.inl s), some (.inl k), some (.inl a), some (.inl v)]) (st1 := []) (M1 := M) (ob := []) rfl rfl trivial (fun _ => ?_) (fun h => absurd (by decide : ¬ (1 : Int) = 0) h)
        refine fs_r_icmp (a := s) (y := 2) (L1 := [some (.inr (.ref 0)), some (.inl s), some (.inl k), some (.inl a), some (.inl v)]) (st1 := []) (M1 := M) (ob := []) rfl rfl trivial (fun (h7 : s = 2) => ?_) (fun (h7 : ¬ (s = 2)) => ?_)
        · have q := vlc s (by omega) (by omega)
          have qs := hsh s (by omega) (by omega)
          refine fs_r_icmp (a := (M 10 s)) (y := 4) (L1 := [some (.inr (.ref 0)), some (.inl s), some (.inl k), some (.inl a), some (.inl v)]) (st1 := []) (M1 := M) (ob := [0 < fs_N ∧ fs_kd 0 = 5, 5 < fs_N ∧ fs_kd 5 = 0, (10 < fs_N ∧ fs_kd 10 = 100) ∧ (0 : Int) ≤ s ∧ s < fs_ln 10]) rfl rfl (fs_oc fs_ob0 (fs_oc fs_ob5 (fs_oc (fs_ar10 (by omega) (by omega)) trivial))) (fun (h8 : (M 10 s) < 4) => ?_) (fun (h8 : ¬ ((M 10 s) < 4)) => ?_)
          · refine fs_r_call (sta := false) (idx := 99) (as := [.inr (.ref 0)]) (rest := []) (L1 := [some (.inr (.ref 0)), some (.inl s), some (.inl k), some (.inl a), some (.inl v)]) (st1 := [.inr (.ref 0)]) (M1 := M) (ob := []) rfl rfl rfl trivial rfl rfl (Nat.le_of_ble_eq_true rfl) ⟨Or.inr (Nat.le_of_ble_eq_true rfl), Or.inr fs_ob0⟩ (by decide) ?_
            refine fs_c_remember (N := N) (n := n) (U := U) (by assumption) (by assumption) (by assumption) (fun (V1 : fs_M) (rf : ∀ r, r ≠ 0 → (r < 40 ∨ 123 < r) → V1 r = M r) (ru : us V1 (us_n n) (us_u n U N)) => ?_)
            have w := congrFun (rf 10 (by decide) (by decide)) s
            have e0 : V1 10 s = N (100 + 13 * s) := by omega
            refine fs_r_call (sta := false) (idx := 153) (as := [.inr (.ref 5), .inl s, .inl k, .inl a, .inl v]) (rest := []) (L1 := [some (.inr (.ref 0)), some (.inl s), some (.inl k), some (.inl a), some (.inl v)]) (st1 := [.inl v, .inl a, .inl k, .inl s, .inr (.ref 5)]) (M1 := V1) (ob := [0 < fs_N ∧ fs_kd 0 = 5]) rfl rfl rfl (fs_oc fs_ob0 trivial) rfl rfl (Nat.le_of_ble_eq_true rfl) ⟨Or.inr (Nat.le_of_ble_eq_true rfl), Or.inr fs_ob5⟩ (by decide) ?_
            refine fs_c_put5 (by omega) (by omega) ?_
            refine fs_r_iret (a := (V1 10 s)) (L1 := [some (.inr (.ref 0)), some (.inl s), some (.inl k), some (.inl a), some (.inl v)]) (M1 := (fs_up (fs_up (fs_up (fs_up V1 11 (((s * 4) + (V1 10 s)) * 3) k) 11 ((((s * 4) + (V1 10 s)) * 3) + 1) a) 11 ((((s * 4) + (V1 10 s)) * 3) + 2) v) 10 s ((V1 10 s) + 1))) (ob := []) rfl rfl trivial (Or.inl rfl) ?_
            refine fs_qi e0 (hq0 _ (by omega) (ca.of rf ru ?_ (fun r q => by rw [fs_up_other (by omega), fs_up_other (by omega), fs_up_other (by omega), fs_up_other (by omega)])))
            simp only [e0]
            exact vw_put5 (hV.fr (fun r q1 q2 => rf r (by omega) (by omega))) hsh (by omega) (by omega)
          refine fs_r_iret (a := (-3)) (L1 := [some (.inr (.ref 0)), some (.inl s), some (.inl k), some (.inl a), some (.inl v)]) (M1 := M) (ob := []) rfl rfl trivial (Or.inl rfl) ?_
          exact hq3 (by omega)
        refine fs_r_icmp (a := s) (y := k) (L1 := [some (.inr (.ref 0)), some (.inl s), some (.inl k), some (.inl a), some (.inl v)]) (st1 := []) (M1 := M) (ob := []) rfl rfl trivial (fun (h9 : s = k) => ?_) (fun (h9 : ¬ (s = k)) => ?_)
        · have q := vlc s (by omega) (by omega)
          have qs := hsh s (by omega) (by omega)
          refine fs_r_icmp (a := (M 10 s)) (y := 4) (L1 := [some (.inr (.ref 0)), some (.inl s), some (.inl k), some (.inl a), some (.inl v)]) (st1 := []) (M1 := M) (ob := [0 < fs_N ∧ fs_kd 0 = 5, 5 < fs_N ∧ fs_kd 5 = 0, (10 < fs_N ∧ fs_kd 10 = 100) ∧ (0 : Int) ≤ s ∧ s < fs_ln 10]) rfl rfl (fs_oc fs_ob0 (fs_oc fs_ob5 (fs_oc (fs_ar10 (by omega) (by omega)) trivial))) (fun (h10 : (M 10 s) < 4) => ?_) (fun (h10 : ¬ ((M 10 s) < 4)) => ?_)
          · refine fs_r_call (sta := false) (idx := 99) (as := [.inr (.ref 0)]) (rest := []) (L1 := [some (.inr (.ref 0)), some (.inl s), some (.inl k), some (.inl a), some (.inl v)]) (st1 := [.inr (.ref 0)]) (M1 := M) (ob := []) rfl rfl rfl trivial rfl rfl (Nat.le_of_ble_eq_true rfl) ⟨Or.inr (Nat.le_of_ble_eq_true rfl), Or.inr fs_ob0⟩ (by decide) ?_
            refine fs_c_remember (N := N) (n := n) (U := U) (by assumption) (by assumption) (by assumption) (fun (V1 : fs_M) (rf : ∀ r, r ≠ 0 → (r < 40 ∨ 123 < r) → V1 r = M r) (ru : us V1 (us_n n) (us_u n U N)) => ?_)
            have w := congrFun (rf 10 (by decide) (by decide)) s
            have e0 : V1 10 s = N (100 + 13 * s) := by omega
            refine fs_r_call (sta := false) (idx := 153) (as := [.inr (.ref 5), .inl s, .inl k, .inl a, .inl v]) (rest := []) (L1 := [some (.inr (.ref 0)), some (.inl s), some (.inl k), some (.inl a), some (.inl v)]) (st1 := [.inl v, .inl a, .inl k, .inl s, .inr (.ref 5)]) (M1 := V1) (ob := [0 < fs_N ∧ fs_kd 0 = 5]) rfl rfl rfl (fs_oc fs_ob0 trivial) rfl rfl (Nat.le_of_ble_eq_true rfl) ⟨Or.inr (Nat.le_of_ble_eq_true rfl), Or.inr fs_ob5⟩ (by decide) ?_
            refine fs_c_put5 (by omega) (by omega) ?_
            refine fs_r_iret (a := (V1 10 s)) (L1 := [some (.inr (.ref 0)), some (.inl s), some (.inl k), some (.inl a), some (.inl v)]) (M1 := (fs_up (fs_up (fs_up (fs_up V1 11 (((s * 4) + (V1 10 s)) * 3) k) 11 ((((s * 4) + (V1 10 s)) * 3) + 1) a) 11 ((((s * 4) + (V1 10 s)) * 3) + 2) v) 10 s ((V1 10 s) + 1))) (ob := []) rfl rfl trivial (Or.inl rfl) ?_
            refine fs_qi e0 (hq0 _ (by omega) (ca.of rf ru ?_ (fun r q => by rw [fs_up_other (by omega), fs_up_other (by omega), fs_up_other (by omega), fs_up_other (by omega)])))
            simp only [e0]
            exact vw_put5 (hV.fr (fun r q1 q2 => rf r (by omega) (by omega))) hsh (by omega) (by omega)
          refine fs_r_iret (a := (-3)) (L1 := [some (.inr (.ref 0)), some (.inl s), some (.inl k), some (.inl a), some (.inl v)]) (M1 := M) (ob := []) rfl rfl trivial (Or.inl rfl) ?_
          exact hq3 (by omega)
        refine fs_r_iret (a := (-2)) (L1 := [some (.inr (.ref 0)), some (.inl s), some (.inl k), some (.inl a), some (.inl v)]) (M1 := M) (ob := []) rfl rfl trivial (Or.inl rfl) ?_
        exact hq2 (by omega)
      refine fs_r_if (a := 0) (L1 := [some (.inr (.ref 0)), some (.inl s), some (.inl k), some (.inl a), some (.inl v)]) (st1 := []) (M1 := M) (ob := []) rfl rfl trivial (fun h => absurd h (by decide : ¬ (¬ (0 : Int) = 0))) (fun _ => ?_)
      refine fs_r_iret (a := (-1)) (L1 := [some (.inr (.ref 0)), some (.inl s), some (.inl k), some (.inl a), some (.inl v)]) (M1 := M) (ob := []) rfl rfl trivial (Or.inl rfl) ?_
      exact hq1 (fun z => by omega)
    refine fs_r_if (a := 0) (L1 := [some (.inr (.ref 0)), some (.inl s), some (.inl k), some (.inl a), some (.inl v)]) (st1 := []) (M1 := M) (ob := []) rfl rfl trivial (fun _ => ?_) (fun h => absurd (by decide : (0 : Int) = 0) h)
    refine fs_r_iret (a := (-1)) (L1 := [some (.inr (.ref 0)), some (.inl s), some (.inl k), some (.inl a), some (.inl v)]) (M1 := M) (ob := []) rfl rfl trivial (Or.inl rfl) ?_
    exact hq1 (fun z => by omega)
  refine fs_r_if (a := 0) (L1 := [some (.inr (.ref 0)), some (.inl s), some (.inl k), some (.inl a), some (.inl v)]) (st1 := []) (M1 := M) (ob := []) rfl rfl trivial (fun _ => ?_) (fun h => absurd (by decide : (0 : Int) = 0) h)
  refine fs_r_iret (a := (-1)) (L1 := [some (.inr (.ref 0)), some (.inl s), some (.inl k), some (.inl a), some (.inl v)]) (M1 := M) (ob := []) rfl rfl trivial (Or.inl rfl) ?_
  exact hq1 (fun z => by omega)
