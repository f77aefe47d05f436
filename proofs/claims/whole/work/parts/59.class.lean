theorem fs_c_findTold {d : Nat} {M : fs_M} {Q : Option fs_V → fs_M → Prop} {x : Int} {y : Int} {f : Int} {N : Int → Int} (hV : vw 5 M N) (hN : fs_NI N) (hq0 : ∀ (M2 : fs_M), (mm_isst N x y f) → (cq M M2) → (fdE M2 (ec_pl N) (ec_told x y f)) → Q (some (.inl 1)) M2) (hq1 : ∀ (M2 : fs_M), (¬ mm_isst N x y f) → (cq M M2) → Q (some (.inl 0)) M2) : fs_W (d + 3) 145 0 [some (.inr (.ref 0)), some (.inl x), some (.inl y), some (.inl f), none] [] M Q := by
  obtain ⟨v0, v1, vcv, vfc, vhd, vln, vlc, vit⟩ := vw5 hV
  obtain ⟨⟨hA0, hA1⟩, ⟨hH0, hH1⟩, hcv, hfc, hhd, hln, hsh, hit, hst⟩ := id hN
  refine fs_r_if (a := x) (L1 := [some (.inr (.ref 0)), some (.inl x), some (.inl y), some (.inl f), none]) (st1 := []) (M1 := M) (ob := []) rfl rfl trivial (fun (h1 : x < 0) => ?_) (fun (h1 : ¬ (x < 0)) => ?_)
  · refine fs_r_iret (a := 0) (L1 := [some (.inr (.ref 0)), some (.inl x), some (.inl y), some (.inl f), none]) (M1 := M) (ob := []) rfl rfl trivial (Or.inr (Or.inl rfl)) ?_
    exact hq1 _ (fun z => by obtain ⟨z1, z2, z3, -⟩ := z; have sl := fs_shl_b (h := N 1) hH0 hH1; rw [v1] at *; omega) cq.rf
  refine fs_r_if (a := y) (L1 := [some (.inr (.ref 0)), some (.inl x), some (.inl y), some (.inl f), none]) (st1 := []) (M1 := M) (ob := []) rfl rfl trivial (fun (h2 : y < 0) => ?_) (fun (h2 : ¬ (y < 0)) => ?_)
  · refine fs_r_iret (a := 0) (L1 := [some (.inr (.ref 0)), some (.inl x), some (.inl y), some (.inl f), none]) (M1 := M) (ob := []) rfl rfl trivial (Or.inr (Or.inl rfl)) ?_
    exact hq1 _ (fun z => by obtain ⟨z1, z2, z3, -⟩ := z; have sl := fs_shl_b (h := N 1) hH0 hH1; rw [v1] at *; omega) cq.rf
  refine fs_r_if (a := f) (L1 := [some (.inr (.ref 0)), some (.inl x), some (.inl y), some (.inl f), none]) (st1 := []) (M1 := M) (ob := []) rfl rfl trivial (fun (h3 : f < 0) => ?_) (fun (h3 : ¬ (f < 0)) => ?_)
  · refine fs_r_iret (a := 0) (L1 := [some (.inr (.ref 0)), some (.inl x), some (.inl y), some (.inl f), none]) (M1 := M) (ob := []) rfl rfl trivial (Or.inr (Or.inl rfl)) ?_
    exact hq1 _ (fun z => by obtain ⟨z1, z2, z3, -⟩ := z; have sl := fs_shl_b (h := N 1) hH0 hH1; rw [v1] at *; omega) cq.rf
  refine fs_r_icmp (a := f) (y := (fs_shl 1 (M 5 1))) (L1 := [some (.inr (.ref 0)), some (.inl x), some (.inl y), some (.inl f), none]) (st1 := []) (M1 := M) (ob := [0 < fs_N ∧ fs_kd 0 = 5, 5 < fs_N ∧ fs_kd 5 = 0]) rfl rfl (fs_oc fs_ob0 (fs_oc fs_ob5 trivial)) (fun (h4 : f < (fs_shl 1 (M 5 1))) => ?_) (fun (h4 : ¬ (f < (fs_shl 1 (M 5 1)))) => ?_)
  · have sl := fs_shl_b (h := N 1) hH0 hH1
    refine fs_r_call (sta := false) (idx := 322) (as := [.inr (.ref 20), .inr (.ref 5)]) (rest := []) (L1 := [some (.inr (.ref 0)), some (.inl x), some (.inl y), some (.inl f), none]) (st1 := [.inr (.ref 5), .inr (.ref 20)]) (M1 := M) (ob := [0 < fs_N ∧ fs_kd 0 = 5, 0 < fs_N ∧ fs_kd 0 = 5]) rfl rfl rfl (fs_oc fs_ob0 (fs_oc fs_ob0 trivial)) rfl rfl (Nat.le_of_ble_eq_true rfl) ⟨Or.inr (Nat.le_of_ble_eq_true rfl), Or.inr fs_ob20⟩ (by decide) ?_
    refine fs_c_load (N := N) (by assumption) (by assumption) (fun (V1 : fs_M) (l1 : ∀ r, (r < 20 ∨ 31 < r) → V1 r = M r) (l2 : ec_eq (mk V1) (ec_pl N)) (l3 : ∀ q, 0 ≤ q → q < 4 → V1 25 q = if q < N 0 then mm_held N q else 0) => ?_)
    refine fs_r_nop (L1 := [some (.inr (.ref 0)), some (.inl x), some (.inl y), some (.inl f), some (.inl 0)]) (st1 := []) (M1 := (fs_up (fs_up (fs_up (fs_up (fs_up V1 33 0 (x / 1000)) 33 1 (x % 1000)) 33 2 (y / 1000)) 33 3 (y % 1000)) 32 1 f)) (ob := [0 < fs_N ∧ fs_kd 0 = 5, 32 < fs_N ∧ fs_kd 32 = 3, (0 : Int) ≤ x, (0 : Int) < 1000, (33 < fs_N ∧ fs_kd 33 = 100) ∧ (0 : Int) ≤ 0 ∧ 0 < fs_ln 33, 0 < fs_N ∧ fs_kd 0 = 5, 32 < fs_N ∧ fs_kd 32 = 3, (0 : Int) ≤ x, (0 : Int) < 1000, (33 < fs_N ∧ fs_kd 33 = 100) ∧ (0 : Int) ≤ 1 ∧ 1 < fs_ln 33, 0 < fs_N ∧ fs_kd 0 = 5, 32 < fs_N ∧ fs_kd 32 = 3, (0 : Int) ≤ y, (0 : Int) < 1000, (33 < fs_N ∧ fs_kd 33 = 100) ∧ (0 : Int) ≤ 2 ∧ 2 < fs_ln 33, 0 < fs_N ∧ fs_kd 0 = 5, 32 < fs_N ∧ fs_kd 32 = 3, (0 : Int) ≤ y, (0 : Int) < 1000, (33 < fs_N ∧ fs_kd 33 = 100) ∧ (0 : Int) ≤ 3 ∧ 3 < fs_ln 33, 0 < fs_N ∧ fs_kd 0 = 5, 32 < fs_N ∧ fs_kd 32 = 3, 4 < 5]) rfl (fs_exA 6 (o1 := [0 < fs_N ∧ fs_kd 0 = 5, 32 < fs_N ∧ fs_kd 32 = 3]) (L1 := [some (.inr (.ref 0)), some (.inl x), some (.inl y), some (.inl f), none]) (st1 := [.inl 1000, .inl x, .inl 0, .inr (.ref 33)]) (M1 := V1) (o2 := [(0 : Int) ≤ x, (0 : Int) < 1000, (33 < fs_N ∧ fs_kd 33 = 100) ∧ (0 : Int) ≤ 0 ∧ 0 < fs_ln 33, 0 < fs_N ∧ fs_kd 0 = 5, 32 < fs_N ∧ fs_kd 32 = 3, (0 : Int) ≤ x, (0 : Int) < 1000, (33 < fs_N ∧ fs_kd 33 = 100) ∧ (0 : Int) ≤ 1 ∧ 1 < fs_ln 33, 0 < fs_N ∧ fs_kd 0 = 5, 32 < fs_N ∧ fs_kd 32 = 3, (0 : Int) ≤ y, (0 : Int) < 1000, (33 < fs_N ∧ fs_kd 33 = 100) ∧ (0 : Int) ≤ 2 ∧ 2 < fs_ln 33, 0 < fs_N ∧ fs_kd 0 = 5, 32 < fs_N ∧ fs_kd 32 = 3, (0 : Int) ≤ y, (0 : Int) < 1000, (33 < fs_N ∧ fs_kd 33 = 100) ∧ (0 : Int) ≤ 3 ∧ 3 < fs_ln 33, 0 < fs_N ∧ fs_kd 0 = 5, 32 < fs_N ∧ fs_kd 32 = 3, 4 < 5]) rfl (fs_exA 6 (o1 := [(0 : Int) ≤ x, (0 : Int) < 1000, (33 < fs_N ∧ fs_kd 33 = 100) ∧ (0 : Int) ≤ 0 ∧ 0 < fs_ln 33, 0 < fs_N ∧ fs_kd 0 = 5, 32 < fs_N ∧ fs_kd 32 = 3]) (L1 := [some (.inr (.ref 0)), some (.inl x), some (.inl y), some (.inl f), none]) (st1 := [.inl 1, .inr (.ref 33)]) (M1 := (fs_up V1 33 0 (x / 1000))) (o2 := [(0 : Int) ≤ x, (0 : Int) < 1000, (33 < fs_N ∧ fs_kd 33 = 100) ∧ (0 : Int) ≤ 1 ∧ 1 < fs_ln 33, 0 < fs_N ∧ fs_kd 0 = 5, 32 < fs_N ∧ fs_kd 32 = 3, (0 : Int) ≤ y, (0 : Int) < 1000, (33 < fs_N ∧ fs_kd 33 = 100) ∧ (0 : Int) ≤ 2 ∧ 2 < fs_ln 33, 0 < fs_N ∧ fs_kd 0 = 5, 32 < fs_N ∧ fs_kd 32 = 3, (0 : Int) ≤ y, (0 : Int) < 1000, (33 < fs_N ∧ fs_kd 33 = 100) ∧ (0 : Int) ≤ 3 ∧ 3 < fs_ln 33, 0 < fs_N ∧ fs_kd 0 = 5, 32 < fs_N ∧ fs_kd 32 = 3, 4 < 5]) rfl (fs_exA 6 (o1 := [(0 : Int) ≤ x, (0 : Int) < 1000, (33 < fs_N ∧ fs_kd 33 = 100) ∧ (0 : Int) ≤ 1 ∧ 1 < fs_ln 33, 0 < fs_N ∧ fs_kd 0 = 5]) (L1 := [some (.inr (.ref 0)), some (.inl x), some (.inl y), some (.inl f), none]) (st1 := [.inr (.ref 32)]) (M1 := (fs_up (fs_up V1 33 0 (x / 1000)) 33 1 (x % 1000))) (o2 := [32 < fs_N ∧ fs_kd 32 = 3, (0 : Int) ≤ y, (0 : Int) < 1000, (33 < fs_N ∧ fs_kd 33 = 100) ∧ (0 : Int) ≤ 2 ∧ 2 < fs_ln 33, 0 < fs_N ∧ fs_kd 0 = 5, 32 < fs_N ∧ fs_kd 32 = 3, (0 : Int) ≤ y, (0 : Int) < 1000, (33 < fs_N ∧ fs_kd 33 = 100) ∧ (0 : Int) ≤ 3 ∧ 3 < fs_ln 33, 0 < fs_N ∧ fs_kd 0 = 5, 32 < fs_N ∧ fs_kd 32 = 3, 4 < 5]) rfl (fs_exA 6 (o1 := [32 < fs_N ∧ fs_kd 32 = 3, (0 : Int) ≤ y, (0 : Int) < 1000, (33 < fs_N ∧ fs_kd 33 = 100) ∧ (0 : Int) ≤ 2 ∧ 2 < fs_ln 33]) (L1 := [some (.inr (.ref 0)), some (.inl x), some (.inl y), some (.inl f), none]) (st1 := []) (M1 := (fs_up (fs_up (fs_up V1 33 0 (x / 1000)) 33 1 (x % 1000)) 33 2 (y / 1000))) (o2 := [0 < fs_N ∧ fs_kd 0 = 5, 32 < fs_N ∧ fs_kd 32 = 3, (0 : Int) ≤ y, (0 : Int) < 1000, (33 < fs_N ∧ fs_kd 33 = 100) ∧ (0 : Int) ≤ 3 ∧ 3 < fs_ln 33, 0 < fs_N ∧ fs_kd 0 = 5, 32 < fs_N ∧ fs_kd 32 = 3, 4 < 5]) rfl (fs_exA 6 (o1 := [0 < fs_N ∧ fs_kd 0 = 5, 32 < fs_N ∧ fs_kd 32 = 3]) (L1 := [some (.inr (.ref 0)), some (.inl x), some (.inl y), some (.inl f), none]) (st1 := [.inl 1000, .inl y, .inl 3, .inr (.ref 33)]) (M1 := (fs_up (fs_up (fs_up V1 33 0 (x / 1000)) 33 1 (x % 1000)) 33 2 (y / 1000))) (o2 := [(0 : Int) ≤ y, (0 : Int) < 1000, (33 < fs_N ∧ fs_kd 33 = 100) ∧ (0 : Int) ≤ 3 ∧ 3 < fs_ln 33, 0 < fs_N ∧ fs_kd 0 = 5, 32 < fs_N ∧ fs_kd 32 = 3, 4 < 5]) rfl (fs_exA 6 (o1 := [(0 : Int) ≤ y, (0 : Int) < 1000, (33 < fs_N ∧ fs_kd 33 = 100) ∧ (0 : Int) ≤ 3 ∧ 3 < fs_ln 33, 0 < fs_N ∧ fs_kd 0 = 5, 32 < fs_N ∧ fs_kd 32 = 3]) (L1 := [some (.inr (.ref 0)), some (.inl x), some (.inl y), some (.inl f), none]) (st1 := []) (M1 := (fs_up (fs_up (fs_up (fs_up (fs_up V1 33 0 (x / 1000)) 33 1 (x % 1000)) 33 2 (y / 1000)) 33 3 (y % 1000)) 32 1 f)) (o2 := [4 < 5]) rfl rfl)))))) (fs_oc fs_ob0 (fs_oc fs_ob32 (fs_oc (by omega) (fs_oc (by omega) (fs_oc (fs_ar33 (by omega) (by omega)) (fs_oc fs_ob0 (fs_oc fs_ob32 (fs_oc (by omega) (fs_oc (by omega) (fs_oc (fs_ar33 (by omega) (by omega)) (fs_oc fs_ob0 (fs_oc fs_ob32 (fs_oc (by omega) (fs_oc (by omega) (fs_oc (fs_ar33 (by omega) (by omega)) (fs_oc fs_ob0 (fs_oc fs_ob32 (fs_oc (by omega) (fs_oc (by omega) (fs_oc (fs_ar33 (by omega) (by omega)) (fs_oc fs_ob0 (fs_oc fs_ob32 (fs_oc (by decide) trivial))))))))))))))))))))))) ?_
    have loop105 : ∀ (n105 : Nat) (a : Int) (T : fs_M), (0 ≤ a ∧ a ≤ 4) → (T = (fs_up (fs_up (fs_up (fs_up (fs_up V1 33 0 (x / 1000)) 33 1 (x % 1000)) 33 2 (y / 1000)) 33 3 (y % 1000)) 32 1 f)) → (∀ q, 0 ≤ q → q < a → ec_told x y f q ≤ mm_lim N q) → 4 - a < (n105 : Int) → fs_W (d + 3) 145 105 [some (.inr (.ref 0)), some (.inl x), some (.inl y), some (.inl f), some (.inl a)] [] T Q := by
      intro n105
      induction n105 with
      | zero =>
        intro a T a0 T0 p0 hm105
        exfalso
        omega
      | succ n105 ih105 =>
        intro a T a0 T0 p0 hm105
        have sl := fs_shl_b (h := N 1) hH0 hH1
        have tf : ∀ r, r ≠ 32 → r ≠ 33 → T r = V1 r := fun r q1 q2 => by rw [T0, fs_up_other q1, fs_up_other q2, fs_up_other q2, fs_up_other q2, fs_up_other q2]
        have t4 : ∀ q, 0 ≤ q → q < 4 → T 33 q = ec_told x y f q := fun q q0 q1 => by
          rw [T0, fs_up_other (by decide), fs_up_at, fs_up_at, fs_up_at, fs_up_at]
          unfold ec_told
          rcases (show q = 0 ∨ q = 1 ∨ q = 2 ∨ q = 3 by omega) with z | z | z | z <;> subst z <;> rfl
        have ts : sst T 32 = ec_told x y f := by
          funext q
          by_cases z : q = 4
          · rw [z, sst_4, T0]
            rfl
          · by_cases z2 : 0 ≤ q ∧ q < 4
            · rw [sst_at z2]
              exact t4 q z2.1 z2.2
            · unfold sst ec_told
              rw [if_neg z, if_neg z2, if_neg z, if_neg (by omega), if_neg (by omega), if_neg (by omega), if_neg (by omega)]
        have tl : ∀ q, 0 ≤ q → q < 4 → T 25 q = mm_lim N q ∧ mm_lim N q ≤ 360 := fun q q0 q1 => by
          have w := mn_held_b (a := q) hN ⟨q0, q1⟩
          rw [tf 25 (by decide) (by decide), l3 q q0 q1]
          unfold mm_lim
          split <;> omega
        have tq : cq M T := (cq.ld l1).tr (cq.f (f3233 tf))
        skip
        refine fs_r_icmp (a := a) (y := 4) (L1 := [some (.inr (.ref 0)), some (.inl x), some (.inl y), some (.inl f), some (.inl a)]) (st1 := []) (M1 := T) (ob := []) rfl rfl trivial (fun (h5 : 4 ≤ a) => ?_) (fun (h5 : ¬ (4 ≤ a)) => ?_)
        · refine fs_r_iret (a := 1) (L1 := [some (.inr (.ref 0)), some (.inl x), some (.inl y), some (.inl f), some (.inl a)]) (M1 := T) (ob := []) rfl rfl trivial (Or.inr (Or.inr rfl)) ?_
          have is : mm_isst N x y f := ⟨by omega, by omega, by rw [← v1]; omega, fun q q0 q1 => p0 q q0 (by omega)⟩
          refine hq0 _ is tq ⟨pl_bd hN, by rw [(f3233 tf).E]; exact l2, ts, ?_, fun q q0 q1 => ?_⟩
          · have w := congrFun ts 4
            rw [sst_4] at w
            rw [w]
            show 0 ≤ f ∧ f < 64
            rw [v1] at *
            omega
          · show 0 ≤ T 33 q ∧ T 33 q ≤ 360
            have w1 := t4 q q0 q1
            have w2 := p0 q q0 (by omega)
            have w3 := (tl q q0 q1).2
            refine ⟨?_, by omega⟩
            rw [w1]
            unfold ec_told
            rcases (show q = 0 ∨ q = 1 ∨ q = 2 ∨ q = 3 by omega) with z | z | z | z <;> subst z
            · show 0 ≤ x / 1000
              omega
            · show 0 ≤ x % 1000
              omega
            · show 0 ≤ y / 1000
              omega
            · show 0 ≤ y % 1000
              omega
        refine fs_r_icmp (a := (T 33 a)) (y := (T 25 a)) (L1 := [some (.inr (.ref 0)), some (.inl x), some (.inl y), some (.inl f), some (.inl a)]) (st1 := []) (M1 := T) (ob := [0 < fs_N ∧ fs_kd 0 = 5, 32 < fs_N ∧ fs_kd 32 = 3, (33 < fs_N ∧ fs_kd 33 = 100) ∧ (0 : Int) ≤ a ∧ a < fs_ln 33, 0 < fs_N ∧ fs_kd 0 = 5, 20 < fs_N ∧ fs_kd 20 = 1, (25 < fs_N ∧ fs_kd 25 = 100) ∧ (0 : Int) ≤ a ∧ a < fs_ln 25]) rfl (fs_exA 6 (o1 := [0 < fs_N ∧ fs_kd 0 = 5, 32 < fs_N ∧ fs_kd 32 = 3, (33 < fs_N ∧ fs_kd 33 = 100) ∧ (0 : Int) ≤ a ∧ a < fs_ln 33]) (L1 := [some (.inr (.ref 0)), some (.inl x), some (.inl y), some (.inl f), some (.inl a)]) (st1 := [.inr (.ref 0), .inl (T 33 a)]) (M1 := T) (o2 := [0 < fs_N ∧ fs_kd 0 = 5, 20 < fs_N ∧ fs_kd 20 = 1, (25 < fs_N ∧ fs_kd 25 = 100) ∧ (0 : Int) ≤ a ∧ a < fs_ln 25]) rfl rfl) (fs_oc fs_ob0 (fs_oc fs_ob32 (fs_oc (fs_ar33 (by omega) (by omega)) (fs_oc fs_ob0 (fs_oc fs_ob20 (fs_oc (fs_ar25 (by omega) (by omega)) trivial)))))) (fun (h6 : (T 33 a) ≤ (T 25 a)) => ?_) (fun (h6 : ¬ ((T 33 a) ≤ (T 25 a))) => ?_)
        · refine fs_r_goto (L1 := [some (.inr (.ref 0)), some (.inl x), some (.inl y), some (.inl f), some (.inl (a + 1))]) (st1 := []) (M1 := T) (ob := [fs_rg (a + 1)]) rfl rfl (fs_oc ⟨by omega, by omega⟩ trivial) ?_
          exact ih105 ((a + 1)) T (by omega) (T0) (fun q q0 q1 => by rcases (show q < a ∨ q = a by omega) with z | z; exact p0 q q0 z; (have w := t4 a (by omega) (by omega); have w2 := (tl a (by omega) (by omega)).1; rw [z, ← w, ← w2]; omega)) (by omega)
        refine fs_r_iret (a := 0) (L1 := [some (.inr (.ref 0)), some (.inl x), some (.inl y), some (.inl f), some (.inl a)]) (M1 := T) (ob := []) rfl rfl trivial (Or.inr (Or.inl rfl)) ?_
        exact hq1 _ (fun z => by have w := z.2.2.2 a (by omega) (by omega); have w1 := t4 a (by omega) (by omega); have w2 := (tl a (by omega) (by omega)).1; omega) tq
    exact loop105 (((4 - (0)) : Int) + 1).toNat (0) (fs_up (fs_up (fs_up (fs_up (fs_up V1 33 0 (x / 1000)) 33 1 (x % 1000)) 33 2 (y / 1000)) 33 3 (y % 1000)) 32 1 f) (by omega) (rfl) (fun q _ _ => by omega) (by omega)
  refine fs_r_iret (a := 0) (L1 := [some (.inr (.ref 0)), some (.inl x), some (.inl y), some (.inl f), none]) (M1 := M) (ob := []) rfl rfl trivial (Or.inr (Or.inl rfl)) ?_
  exact hq1 _ (fun z => by obtain ⟨z1, z2, z3, -⟩ := z; have sl := fs_shl_b (h := N 1) hH0 hH1; rw [v1] at *; omega) cq.rf

theorem fs_c_next {d : Nat} {M : fs_M} {Q : Option fs_V → fs_M → Prop} {x : Int} {y : Int} {f : Int} {w : Int} {N : Int → Int} (hV : vw 5 M N) (hN : fs_NI N) (hq0 : ∀ (M2 : fs_M), (cq M M2) → Q (some (.inl (rq_next N x y f w))) M2) : fs_W (d + 4) 106 0 [some (.inr (.ref 0)), some (.inl x), some (.inl y), some (.inl f), some (.inl w)] [] M Q := by
  obtain ⟨v0, v1, vcv, vfc, vhd, vln, vlc, vit⟩ := vw5 hV
  obtain ⟨⟨hA0, hA1⟩, ⟨hH0, hH1⟩, hcv, hfc, hhd, hln, hsh, hit, hst⟩ := id hN
  refine fs_r_call (sta := false) (idx := 246) (as := [.inr (.ref 0), .inl w]) (rest := []) (L1 := [some (.inr (.ref 0)), some (.inl x), some (.inl y), some (.inl f), some (.inl w)]) (st1 := [.inl w, .inr (.ref 0)]) (M1 := M) (ob := []) rfl rfl rfl trivial rfl rfl (Nat.le_of_ble_eq_true rfl) ⟨Or.inr (Nat.le_of_ble_eq_true rfl), Or.inr fs_ob0⟩ (by decide) ?_
  refine fs_c_isTold (fun (f1 : (0 ≤ w ∧ w < M 5 0) ∨ (4 ≤ w ∧ w ≤ 7)) => ?_) (fun (f2 : ¬ ((0 ≤ w ∧ w < M 5 0) ∨ (4 ≤ w ∧ w ≤ 7))) => ?_)
  · refine fs_r_if (a := 1) (L1 := [some (.inr (.ref 0)), some (.inl x), some (.inl y), some (.inl f), some (.inl w)]) (st1 := []) (M1 := M) (ob := []) rfl rfl trivial (fun _ => ?_) (fun h => absurd (by decide : ¬ (1 : Int) = 0) h)
    refine fs_r_call (sta := false) (idx := 293) (as := [.inr (.ref 0), .inl x, .inl y, .inl f]) (rest := []) (L1 := [some (.inr (.ref 0)), some (.inl x), some (.inl y), some (.inl f), some (.inl w)]) (st1 := [.inl f, .inl y, .inl x, .inr (.ref 0)]) (M1 := M) (ob := []) rfl rfl rfl trivial rfl rfl (Nat.le_of_ble_eq_true rfl) ⟨Or.inr (Nat.le_of_ble_eq_true rfl), Or.inr fs_ob0⟩ (by decide) ?_
    refine fs_c_findTold (N := N) (by assumption) (by assumption) (fun (V : fs_M) (c1 : mm_isst N x y f) (q1 : cq M V) (d1 : fdE V (ec_pl N) (ec_told x y f)) => ?_) (fun (V : fs_M) (c1 : ¬ mm_isst N x y f) (q1 : cq M V) => ?_)
    · refine fs_r_if (a := 1) (L1 := [some (.inr (.ref 0)), some (.inl x), some (.inl y), some (.inl f), some (.inl w)]) (st1 := []) (M1 := V) (ob := []) rfl rfl trivial (fun _ => ?_) (fun h => absurd (by decide : ¬ (1 : Int) = 0) h)
      refine fs_r_call (sta := false) (idx := 283) (as := [.inr (.ref 20), .inr (.ref 32), .inr (.ref 34)]) (rest := []) (L1 := [some (.inr (.ref 0)), some (.inl x), some (.inl y), some (.inl f), some (.inl w)]) (st1 := [.inr (.ref 34), .inr (.ref 32), .inr (.ref 20)]) (M1 := V) (ob := [0 < fs_N ∧ fs_kd 0 = 5, 0 < fs_N ∧ fs_kd 0 = 5, 0 < fs_N ∧ fs_kd 0 = 5]) rfl rfl rfl (fs_oc fs_ob0 (fs_oc fs_ob0 (fs_oc fs_ob0 trivial))) rfl rfl (Nat.le_of_ble_eq_true rfl) ⟨Or.inr (Nat.le_of_ble_eq_true rfl), Or.inr fs_ob20⟩ (by decide) ?_
      refine fs_c_advance (d1.b) (d1.S) (fun (W : fs_M) (g1 : mk_f V W) (g2 : sst W 32 = ec_next (mk V) (sst V 32)) (g3 : sb W 32) (g4 : ¬ sst W 32 = sst V 32) => ?_) (fun (W : fs_M) (g1 : mk_f V W) (g2 : sst W 32 = ec_next (mk V) (sst V 32)) (g3 : sb W 32) (g4 : sst W 32 = sst V 32) => ?_)
      · refine fs_r_call (sta := false) (idx := 249) (as := [.inr (.ref 20), .inr (.ref 32), .inl w]) (rest := []) (L1 := [some (.inr (.ref 0)), some (.inl x), some (.inl y), some (.inl f), some (.inl w)]) (st1 := [.inl w, .inr (.ref 32), .inr (.ref 20)]) (M1 := W) (ob := [0 < fs_N ∧ fs_kd 0 = 5, 0 < fs_N ∧ fs_kd 0 = 5]) rfl rfl rfl (fs_oc fs_ob0 (fs_oc fs_ob0 trivial)) rfl rfl (Nat.le_of_ble_eq_true rfl) ⟨Or.inr (Nat.le_of_ble_eq_true rfl), Or.inr fs_ob20⟩ (by decide) ?_
        refine fs_c_tell ((d1.go g1 g2 g3).b) (g3) (by have e := (d1.go g1 g2 g3).n0; have e2 : ec_pl N 0 0 = N 0 := rfl; omega) ?_
        refine fs_r_iret (a := (ec_tell (mk W) (sst W 32) w)) (L1 := [some (.inr (.ref 0)), some (.inl x), some (.inl y), some (.inl f), some (.inl w)]) (M1 := W) (ob := []) rfl rfl trivial (Or.inl rfl) ?_
        exact fs_qi (by unfold rq_next; rw [if_pos (by omega), if_pos c1, (d1.go g1 g2 g3).tell]) (hq0 _ (q1.tr (cq.f g1)))
      refine fs_r_call (sta := false) (idx := 249) (as := [.inr (.ref 20), .inr (.ref 32), .inl w]) (rest := []) (L1 := [some (.inr (.ref 0)), some (.inl x), some (.inl y), some (.inl f), some (.inl w)]) (st1 := [.inl w, .inr (.ref 32), .inr (.ref 20)]) (M1 := W) (ob := [0 < fs_N ∧ fs_kd 0 = 5, 0 < fs_N ∧ fs_kd 0 = 5]) rfl rfl rfl (fs_oc fs_ob0 (fs_oc fs_ob0 trivial)) rfl rfl (Nat.le_of_ble_eq_true rfl) ⟨Or.inr (Nat.le_of_ble_eq_true rfl), Or.inr fs_ob20⟩ (by decide) ?_
      refine fs_c_tell ((d1.go g1 g2 g3).b) (g3) (by have e := (d1.go g1 g2 g3).n0; have e2 : ec_pl N 0 0 = N 0 := rfl; omega) ?_
      refine fs_r_iret (a := (ec_tell (mk W) (sst W 32) w)) (L1 := [some (.inr (.ref 0)), some (.inl x), some (.inl y), some (.inl f), some (.inl w)]) (M1 := W) (ob := []) rfl rfl trivial (Or.inl rfl) ?_
      exact fs_qi (by unfold rq_next; rw [if_pos (by omega), if_pos c1, (d1.go g1 g2 g3).tell]) (hq0 _ (q1.tr (cq.f g1)))
    refine fs_r_if (a := 0) (L1 := [some (.inr (.ref 0)), some (.inl x), some (.inl y), some (.inl f), some (.inl w)]) (st1 := []) (M1 := V) (ob := []) rfl rfl trivial (fun h => absurd h (by decide : ¬ (¬ (0 : Int) = 0))) (fun _ => ?_)
    refine fs_r_iret (a := (-2)) (L1 := [some (.inr (.ref 0)), some (.inl x), some (.inl y), some (.inl f), some (.inl w)]) (M1 := V) (ob := []) rfl rfl trivial (Or.inl rfl) ?_
    exact fs_qi (by unfold rq_next; rw [if_pos (by omega), if_neg c1]) (hq0 _ q1)
  refine fs_r_if (a := 0) (L1 := [some (.inr (.ref 0)), some (.inl x), some (.inl y), some (.inl f), some (.inl w)]) (st1 := []) (M1 := M) (ob := []) rfl rfl trivial (fun h => absurd h (by decide : ¬ (¬ (0 : Int) = 0))) (fun _ => ?_)
  refine fs_r_iret (a := (-1)) (L1 := [some (.inr (.ref 0)), some (.inl x), some (.inl y), some (.inl f), some (.inl w)]) (M1 := M) (ob := []) rfl rfl trivial (Or.inl rfl) ?_
  exact fs_qi (by unfold rq_next; rw [if_neg (by omega)]) (hq0 _ cq.rf)

theorem fs_c_isSteady {d : Nat} {M : fs_M} {Q : Option fs_V → fs_M → Prop} {x : Int} {y : Int} {f : Int} {N : Int → Int} (hV : vw 5 M N) (hN : fs_NI N) (hq0 : ∀ (M2 : fs_M), (cq M M2) → Q (some (.inl (rq_isSteady N x y f))) M2) : fs_W (d + 4) 107 0 [some (.inr (.ref 0)), some (.inl x), some (.inl y), some (.inl f)] [] M Q := by
  obtain ⟨v0, v1, vcv, vfc, vhd, vln, vlc, vit⟩ := vw5 hV
  obtain ⟨⟨hA0, hA1⟩, ⟨hH0, hH1⟩, hcv, hfc, hhd, hln, hsh, hit, hst⟩ := id hN
  refine fs_r_call (sta := false) (idx := 293) (as := [.inr (.ref 0), .inl x, .inl y, .inl f]) (rest := []) (L1 := [some (.inr (.ref 0)), some (.inl x), some (.inl y), some (.inl f)]) (st1 := [.inl f, .inl y, .inl x, .inr (.ref 0)]) (M1 := M) (ob := []) rfl rfl rfl trivial rfl rfl (Nat.le_of_ble_eq_true rfl) ⟨Or.inr (Nat.le_of_ble_eq_true rfl), Or.inr fs_ob0⟩ (by decide) ?_
  refine fs_c_findTold (N := N) (by assumption) (by assumption) (fun (V : fs_M) (c1 : mm_isst N x y f) (q1 : cq M V) (d1 : fdE V (ec_pl N) (ec_told x y f)) => ?_) (fun (V : fs_M) (c1 : ¬ mm_isst N x y f) (q1 : cq M V) => ?_)
  · refine fs_r_if (a := 1) (L1 := [some (.inr (.ref 0)), some (.inl x), some (.inl y), some (.inl f)]) (st1 := []) (M1 := V) (ob := []) rfl rfl trivial (fun _ => ?_) (fun h => absurd (by decide : ¬ (1 : Int) = 0) h)
    refine fs_r_call (sta := false) (idx := 283) (as := [.inr (.ref 20), .inr (.ref 32), .inr (.ref 34)]) (rest := []) (L1 := [some (.inr (.ref 0)), some (.inl x), some (.inl y), some (.inl f)]) (st1 := [.inr (.ref 34), .inr (.ref 32), .inr (.ref 20)]) (M1 := V) (ob := [0 < fs_N ∧ fs_kd 0 = 5, 0 < fs_N ∧ fs_kd 0 = 5, 0 < fs_N ∧ fs_kd 0 = 5]) rfl rfl rfl (fs_oc fs_ob0 (fs_oc fs_ob0 (fs_oc fs_ob0 trivial))) rfl rfl (Nat.le_of_ble_eq_true rfl) ⟨Or.inr (Nat.le_of_ble_eq_true rfl), Or.inr fs_ob20⟩ (by decide) ?_
    refine fs_c_advance (d1.b) (d1.S) (fun (W : fs_M) (g1 : mk_f V W) (g2 : sst W 32 = ec_next (mk V) (sst V 32)) (g3 : sb W 32) (g4 : ¬ sst W 32 = sst V 32) => ?_) (fun (W : fs_M) (g1 : mk_f V W) (g2 : sst W 32 = ec_next (mk V) (sst V 32)) (g3 : sb W 32) (g4 : sst W 32 = sst V 32) => ?_)
    · have gn := (d1.go g1 g2 g3).2.2.1
      have go := d1.2.2.1
      refine fs_r_if (a := 1) (L1 := [some (.inr (.ref 0)), some (.inl x), some (.inl y), some (.inl f)]) (st1 := []) (M1 := W) (ob := []) rfl rfl trivial (fun h => absurd h (by decide : ¬ ((1 : Int) = 0))) (fun _ => ?_)
      refine fs_r_goto (L1 := [some (.inr (.ref 0)), some (.inl x), some (.inl y), some (.inl f)]) (st1 := [.inl 0]) (M1 := W) (ob := []) rfl rfl trivial ?_
      refine fs_r_iret (a := 0) (L1 := [some (.inr (.ref 0)), some (.inl x), some (.inl y), some (.inl f)]) (M1 := W) (ob := []) rfl rfl trivial (Or.inl rfl) ?_
      first
        | exact fs_qi (by unfold rq_isSteady; rw [if_pos c1, if_neg (fun z => g4 (by rw [gn, go, z]))]) (hq0 _ (q1.tr (cq.f g1)))
        | exact fs_qi (by unfold rq_isSteady; rw [if_pos c1, if_pos (by rw [← gn, ← go]; exact g4)]) (hq0 _ (q1.tr (cq.f g1)))
    have gn := (d1.go g1 g2 g3).2.2.1
    have go := d1.2.2.1
    refine fs_r_if (a := 0) (L1 := [some (.inr (.ref 0)), some (.inl x), some (.inl y), some (.inl f)]) (st1 := []) (M1 := W) (ob := []) rfl rfl trivial (fun _ => ?_) (fun h => absurd (by decide : (0 : Int) = 0) h)
    refine fs_r_nop (L1 := [some (.inr (.ref 0)), some (.inl x), some (.inl y), some (.inl f)]) (st1 := [.inl 1]) (M1 := W) (ob := []) rfl rfl trivial ?_
    refine fs_r_iret (a := 1) (L1 := [some (.inr (.ref 0)), some (.inl x), some (.inl y), some (.inl f)]) (M1 := W) (ob := []) rfl rfl trivial (Or.inl rfl) ?_
    first
      | exact fs_qi (by unfold rq_isSteady; rw [if_pos c1, if_neg (fun z => g4 (by rw [gn, go, z]))]) (hq0 _ (q1.tr (cq.f g1)))
      | exact fs_qi (by unfold rq_isSteady; rw [if_pos c1, if_pos (by rw [← gn, ← go]; exact g4)]) (hq0 _ (q1.tr (cq.f g1)))
  refine fs_r_if (a := 0) (L1 := [some (.inr (.ref 0)), some (.inl x), some (.inl y), some (.inl f)]) (st1 := []) (M1 := V) (ob := []) rfl rfl trivial (fun h => absurd h (by decide : ¬ (¬ (0 : Int) = 0))) (fun _ => ?_)
  refine fs_r_iret (a := (-2)) (L1 := [some (.inr (.ref 0)), some (.inl x), some (.inl y), some (.inl f)]) (M1 := V) (ob := []) rfl rfl trivial (Or.inl rfl) ?_
  exact fs_qi (by unfold rq_isSteady; rw [if_neg c1]) (hq0 _ q1)

/-- ROUND j stands in found -/
def cR (M V : fs_M) (N : Int → Int) (j : Nat) : Prop := cq M V ∧ fdE V (ec_pl N) (ec_it (ec_pl N) (ec_calm (ec_pl N)) j)
theorem cR.go {M V V2 : fs_M} {N : Int → Int} {j : Nat} (h : cR M V N j) (f : mk_f V V2) (s : sst V2 32 = ec_next (mk V) (sst V 32)) (b : sb V2 32) : cR M V2 N (j + 1) := ⟨h.1.tr (cq.f f), h.2.go f s b⟩
theorem cR.lt {M V V2 : fs_M} {N : Int → Int} {j : Nat} (hk : ec_ok (ec_pl N) (ec_calm (ec_pl N))) (h : cR M V N j) (h2 : cR M V2 N (j + 1)) (hj : j ≤ ec_k (ec_pl N) (ec_calm (ec_pl N))) (c : ¬ sst V2 32 = sst V 32) : j < ec_k (ec_pl N) (ec_calm (ec_pl N)) := by
  rcases Nat.lt_or_ge j (ec_k (ec_pl N) (ec_calm (ec_pl N))) with q | q
  · exact q
  · exfalso
    apply c
    rw [h2.2.2.2.1, h.2.2.2.1, show j = ec_k (ec_pl N) (ec_calm (ec_pl N)) by omega]
    exact (ec_k_spec hk).2.2
theorem cR.eq {M V V2 : fs_M} {N : Int → Int} {j : Nat} (hk : ec_ok (ec_pl N) (ec_calm (ec_pl N))) (h : cR M V N j) (h2 : cR M V2 N (j + 1)) (hj : j ≤ ec_k (ec_pl N) (ec_calm (ec_pl N))) (c : sst V2 32 = sst V 32) : j = ec_k (ec_pl N) (ec_calm (ec_pl N)) := by
  rcases Nat.lt_or_ge j (ec_k (ec_pl N) (ec_calm (ec_pl N))) with q | q
  · rw [h2.2.2.2.1, h.2.2.2.1] at c
    exact absurd c ((ec_k_spec hk).2.1 j q)
  · omega
theorem cR.lb {M V : fs_M} {N : Int → Int} {j : Nat} (h : cR M V N j) : 0 ≤ ec_lost (mk V) (sst V 32) ∧ ec_lost (mk V) (sst V 32) ≤ 288000 := by
  have b := h.2.b
  have w := mk_lost_b (S := sst V 32) (n := (V 20 0).toNat) b (fun a a0 a1 => by rw [sst_at ⟨a0, a1⟩]; exact (h.2.S.2 a a0 a1).1) (by have := b.1; omega)
  have hA := b.1
  show 0 ≤ fs_sum (V 20 0).toNat _ ∧ fs_sum (V 20 0).toNat _ ≤ 288000
  omega
theorem sp_s {N : Int → Int} {j : Nat} : sp_m N (j + 1) = (if sp_m N j < sp_l N (j + 1) - sp_l N j then sp_l N (j + 1) - sp_l N j else sp_m N j) ∧ sp_b N (j + 1) = (if sp_m N j < sp_l N (j + 1) - sp_l N j then ((j + 1 : Nat) : Int) else sp_b N j) := ⟨rfl, rfl⟩
theorem fs_c_sharpest {d : Nat} {M : fs_M} {Q : Option fs_V → fs_M → Prop}  {N : Int → Int} (hV : vw 5 M N) (hN : fs_NI N) (hq0 : ∀ (M2 : fs_M), (cq M M2) → Q (some (.inl (rq_sharpest N))) M2) : fs_W (d + 5) 103 0 [some (.inr (.ref 0)), none, none, none, none, none] [] M Q := by
  obtain ⟨v0, v1, vcv, vfc, vhd, vln, vlc, vit⟩ := vw5 hV
  obtain ⟨⟨hA0, hA1⟩, ⟨hH0, hH1⟩, hcv, hfc, hhd, hln, hsh, hit, hst⟩ := id hN
  have hk := ec_okc (pl_bd hN)
  have kb := (ec_k_spec hk).1
  refine fs_r_call (sta := false) (idx := 276) (as := [.inr (.ref 0), .inl 0]) (rest := []) (L1 := [some (.inr (.ref 0)), none, none, none, none, none]) (st1 := [.inl 0, .inr (.ref 0)]) (M1 := M) (ob := []) rfl rfl rfl trivial rfl rfl (Nat.le_of_ble_eq_true rfl) ⟨Or.inr (Nat.le_of_ble_eq_true rfl), Or.inr fs_ob0⟩ (by decide) ?_
  refine fs_c_findRound (N := N) (by assumption) (by assumption) (by omega) (fun (V : fs_M) (q1 : cq M V) (d1 : fdE V (ec_pl N) (ec_it (ec_pl N) (ec_calm (ec_pl N)) (Int.toNat 0))) (f1 : ∀ r, (r < 20 ∨ 35 < r) → V r = M r) => ?_)
  have R0 : cR M V N 0 := ⟨q1, d1⟩
  have lb0 := R0.lb
  refine fs_r_call (sta := false) (idx := 279) (as := [.inr (.ref 20), .inr (.ref 32)]) (rest := []) (L1 := [some (.inr (.ref 0)), none, none, none, none, none]) (st1 := [.inr (.ref 32), .inr (.ref 20)]) (M1 := V) (ob := [0 < fs_N ∧ fs_kd 0 = 5, 0 < fs_N ∧ fs_kd 0 = 5]) rfl rfl rfl (fs_oc fs_ob0 (fs_oc fs_ob0 trivial)) rfl rfl (Nat.le_of_ble_eq_true rfl) ⟨Or.inr (Nat.le_of_ble_eq_true rfl), Or.inr fs_ob20⟩ (by decide) ?_
  refine fs_c_lostIn (d1.b) (d1.S) ?_
  refine fs_r_nop (L1 := [some (.inr (.ref 0)), some (.inl (ec_lost (mk V) (sst V 32))), some (.inl (-2)), some (.inl 0), some (.inl 1), none]) (st1 := []) (M1 := V) (ob := [1 < 6, 2 < 6, 3 < 6, 4 < 6]) rfl rfl (fs_oc (by decide) (fs_oc (by decide) (fs_oc (by decide) (fs_oc (by decide) trivial)))) ?_
  have loop25 : ∀ (n25 : Nat) (had : Int) (b : Int) (m : Int) (k : Int) (zl5 : Option fs_V) (M3 : fs_M) (j : Nat), (j ≤ ec_k (ec_pl N) (ec_calm (ec_pl N))) → (cR M M3 N j) → (k = (j : Int) + 1) → (had = sp_l N j ∧ 0 ≤ had ∧ had ≤ 288000) → (b = sp_b N j) → (m = sp_m N j) → ((ec_k (ec_pl N) (ec_calm (ec_pl N)) : Nat) : Int) - (j : Int) < (n25 : Int) → fs_W (d + 5) 103 25 [some (.inr (.ref 0)), some (.inl had), some (.inl b), some (.inl m), some (.inl k), zl5] [] M3 Q := by
    intro n25
    induction n25 with
    | zero =>
      intro had b m k zl5 M3 j i0 R0 k0 h0 b0 m0 hm25
      exfalso
      omega
    | succ n25 ih25 =>
      intro had b m k zl5 M3 j i0 R0 k0 h0 b0 m0 hm25
      have join92 : ∀  (M9 : fs_M), (cq M M9 ∧ b = rq_sharpest N) → fs_W (d + 5) 103 92 [some (.inr (.ref 0)), some (.inl had), some (.inl b), some (.inl m), some (.inl k), zl5] [] M9 Q := by
        intro M9 F9
        refine fs_r_iret (a := b) (L1 := [some (.inr (.ref 0)), some (.inl had), some (.inl b), some (.inl m), some (.inl k), zl5]) (M1 := M9) (ob := []) rfl rfl trivial (Or.inl rfl) ?_
        exact fs_qi F9.2 (hq0 _ F9.1)
      refine fs_r_icmp (a := k) (y := 2000) (L1 := [some (.inr (.ref 0)), some (.inl had), some (.inl b), some (.inl m), some (.inl k), zl5]) (st1 := []) (M1 := M3) (ob := []) rfl rfl trivial (fun (h2 : 2000 < k) => ?_) (fun (h2 : ¬ (2000 < k)) => ?_)
      · exact join92 M3 (by first
              | exact ⟨R0.1, by rw [b0, show j = ec_k (ec_pl N) (ec_calm (ec_pl N)) by omega]; rfl⟩
              | exact ⟨R1.1, by rw [b0, je]; rfl⟩)
      refine fs_r_call (sta := false) (idx := 283) (as := [.inr (.ref 20), .inr (.ref 32), .inr (.ref 34)]) (rest := []) (L1 := [some (.inr (.ref 0)), some (.inl had), some (.inl b), some (.inl m), some (.inl k), zl5]) (st1 := [.inr (.ref 34), .inr (.ref 32), .inr (.ref 20)]) (M1 := M3) (ob := [0 < fs_N ∧ fs_kd 0 = 5, 0 < fs_N ∧ fs_kd 0 = 5, 0 < fs_N ∧ fs_kd 0 = 5]) rfl rfl rfl (fs_oc fs_ob0 (fs_oc fs_ob0 (fs_oc fs_ob0 trivial))) rfl rfl (Nat.le_of_ble_eq_true rfl) ⟨Or.inr (Nat.le_of_ble_eq_true rfl), Or.inr fs_ob20⟩ (by decide) ?_
      refine fs_c_advance (R0.2.b) (R0.2.S) (fun (V2 : fs_M) (g1 : mk_f M3 V2) (g2 : sst V2 32 = ec_next (mk M3) (sst M3 32)) (g3 : sb V2 32) (g4 : ¬ sst V2 32 = sst M3 32) => ?_) (fun (V2 : fs_M) (g1 : mk_f M3 V2) (g2 : sst V2 32 = ec_next (mk M3) (sst M3 32)) (g3 : sb V2 32) (g4 : sst V2 32 = sst M3 32) => ?_)
      · refine fs_r_if (a := 1) (L1 := [some (.inr (.ref 0)), some (.inl had), some (.inl b), some (.inl m), some (.inl k), zl5]) (st1 := []) (M1 := V2) (ob := []) rfl rfl trivial (fun _ => ?_) (fun h => absurd (by decide : ¬ (1 : Int) = 0) h)
        have R1 := R0.go g1 g2 g3
        have jl := R0.lt hk R1 i0 g4
        have lb1 := R1.lb
        have la : ec_lost (mk V2) (sst V2 32) = sp_l N (j + 1) := R1.2.lost
        have ss := sp_s (N := N) (j := j)
        refine fs_r_call (sta := false) (idx := 279) (as := [.inr (.ref 20), .inr (.ref 32)]) (rest := []) (L1 := [some (.inr (.ref 0)), some (.inl had), some (.inl b), some (.inl m), some (.inl k), zl5]) (st1 := [.inr (.ref 32), .inr (.ref 20)]) (M1 := V2) (ob := [0 < fs_N ∧ fs_kd 0 = 5, 0 < fs_N ∧ fs_kd 0 = 5]) rfl rfl rfl (fs_oc fs_ob0 (fs_oc fs_ob0 trivial)) rfl rfl (Nat.le_of_ble_eq_true rfl) ⟨Or.inr (Nat.le_of_ble_eq_true rfl), Or.inr fs_ob20⟩ (by decide) ?_
        refine fs_c_lostIn (R1.2.b) (g3) ?_
        refine fs_r_icmp (a := ((ec_lost (mk V2) (sst V2 32)) - had)) (y := m) (L1 := [some (.inr (.ref 0)), some (.inl had), some (.inl b), some (.inl m), some (.inl k), some (.inl (ec_lost (mk V2) (sst V2 32)))]) (st1 := []) (M1 := V2) (ob := [5 < 6, fs_rg ((ec_lost (mk V2) (sst V2 32)) - had)]) rfl rfl (fs_oc (by decide) (fs_oc ⟨by omega, by omega⟩ trivial)) (fun (h3 : ((ec_lost (mk V2) (sst V2 32)) - had) ≤ m) => ?_) (fun (h3 : ¬ (((ec_lost (mk V2) (sst V2 32)) - had) ≤ m)) => ?_)
        · refine fs_r_goto (L1 := [some (.inr (.ref 0)), some (.inl (ec_lost (mk V2) (sst V2 32))), some (.inl b), some (.inl m), some (.inl (k + 1)), some (.inl (ec_lost (mk V2) (sst V2 32)))]) (st1 := []) (M1 := V2) (ob := [1 < 6, fs_rg (k + 1)]) rfl rfl (fs_oc (by decide) (fs_oc ⟨by omega, by omega⟩ trivial)) ?_
          exact ih25 ((ec_lost (mk V2) (sst V2 32))) (b) (m) ((k + 1)) (some (.inl (ec_lost (mk V2) (sst V2 32)))) V2 ((j + 1)) (by omega) (R1) (by omega) (⟨la, lb1⟩) (by rw [ss.2, ← m0, ← la, ← h0.1]; first | (rw [if_pos (by omega)]; omega) | (rw [if_neg (by omega)]; exact b0)) (by rw [ss.1, ← m0, ← la, ← h0.1]; first | (rw [if_pos (by omega)]; done) | (rw [if_neg (by omega)])) (by omega)
        refine fs_r_nop (L1 := [some (.inr (.ref 0)), some (.inl had), some (.inl k), some (.inl ((ec_lost (mk V2) (sst V2 32)) - had)), some (.inl k), some (.inl (ec_lost (mk V2) (sst V2 32)))]) (st1 := []) (M1 := V2) (ob := [fs_rg ((ec_lost (mk V2) (sst V2 32)) - had), 3 < 6, 2 < 6]) rfl rfl (fs_oc ⟨by omega, by omega⟩ (fs_oc (by decide) (fs_oc (by decide) trivial))) ?_
        refine fs_r_goto (L1 := [some (.inr (.ref 0)), some (.inl (ec_lost (mk V2) (sst V2 32))), some (.inl k), some (.inl ((ec_lost (mk V2) (sst V2 32)) - had)), some (.inl (k + 1)), some (.inl (ec_lost (mk V2) (sst V2 32)))]) (st1 := []) (M1 := V2) (ob := [1 < 6, fs_rg (k + 1)]) rfl rfl (fs_oc (by decide) (fs_oc ⟨by omega, by omega⟩ trivial)) ?_
        exact ih25 ((ec_lost (mk V2) (sst V2 32))) (k) (((ec_lost (mk V2) (sst V2 32)) - had)) ((k + 1)) (some (.inl (ec_lost (mk V2) (sst V2 32)))) V2 ((j + 1)) (by omega) (R1) (by omega) (⟨la, lb1⟩) (by rw [ss.2, ← m0, ← la, ← h0.1]; first | (rw [if_pos (by omega)]; omega) | (rw [if_neg (by omega)]; exact b0)) (by rw [ss.1, ← m0, ← la, ← h0.1]; first | (rw [if_pos (by omega)]; done) | (rw [if_neg (by omega)])) (by omega)
      refine fs_r_if (a := 0) (L1 := [some (.inr (.ref 0)), some (.inl had), some (.inl b), some (.inl m), some (.inl k), zl5]) (st1 := []) (M1 := V2) (ob := []) rfl rfl trivial (fun h => absurd h (by decide : ¬ (¬ (0 : Int) = 0))) (fun _ => ?_)
      have R1 := R0.go g1 g2 g3
      have je := R0.eq hk R1 i0 g4
      refine fs_r_goto (L1 := [some (.inr (.ref 0)), some (.inl had), some (.inl b), some (.inl m), some (.inl k), zl5]) (st1 := []) (M1 := V2) (ob := []) rfl rfl trivial ?_
      exact join92 V2 (by first
            | exact ⟨R0.1, by rw [b0, show j = ec_k (ec_pl N) (ec_calm (ec_pl N)) by omega]; rfl⟩
            | exact ⟨R1.1, by rw [b0, je]; rfl⟩)
  exact loop25 (((((ec_k (ec_pl N) (ec_calm (ec_pl N)) : Nat) : Int) - ((0) : Int)) : Int) + 1).toNat ((ec_lost (mk V) (sst V 32))) ((-2)) (0) (1) (none) V (0) (Nat.zero_le _) (R0) (rfl) (⟨R0.2.lost, lb0⟩) (rfl) (rfl) (by omega)
