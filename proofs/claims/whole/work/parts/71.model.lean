theorem fs_m_goes {d : Nat} {M : fs_M} {Q : Option fs_V → fs_M → Prop} {g : Int}  (hg : 0 ≤ g ∧ g < M 125 1 ∧ M 125 1 ≤ 6) (hq0 : ∀ (M2 : fs_M), (∀ r, r ≠ 125 → M2 r = M r) → (M2 125 = gs_row (M 125) g) → Q none M2) : fs_W (d + 1) 217 0 [some (.inr (.ref 124)), some (.inl g), none, none, none] [] M Q := by
  refine fs_r_nop (L1 := [some (.inr (.ref 124)), some (.inl g), some (.inl (M 125 1)), some (.inl g), none]) (st1 := []) (M1 := M) (ob := [124 < fs_N ∧ fs_kd 124 = 6, (125 < fs_N ∧ fs_kd 125 = 100) ∧ (0 : Int) ≤ 1 ∧ 1 < fs_ln 125, 2 < 5, 3 < 5]) rfl rfl (fs_oc fs_ob124 (fs_oc (fs_ar125 (by omega) (by omega)) (fs_oc (by decide) (fs_oc (by decide) trivial)))) ?_
  have loop9 : ∀ (n9 : Nat) (h : Int) (zl4 : Option fs_V) (M3 : fs_M), (g ≤ h ∧ h ≤ (M 125 1 - 1)) → (∀ r, r ≠ 125 → M3 r = M r) → (∀ q, M3 125 q = gB (M 125) g (10 + 5 * h) (40 + 4 * h) (64 + 6 * h) q) → (M 125 1 - 1) - h < (n9 : Int) → fs_W (d + 1) 217 9 [some (.inr (.ref 124)), some (.inl g), some (.inl (M 125 1)), some (.inl h), zl4] [] M3 Q := by
    intro n9
    induction n9 with
    | zero =>
      intro h zl4 M3 iM3 fM3 nM3 hm9
      exfalso
      omega
    | succ n9 ih9 =>
      intro h zl4 M3 iM3 fM3 nM3 hm9
      refine fs_r_icmp (a := h) (y := ((M 125 1) - 1)) (L1 := [some (.inr (.ref 124)), some (.inl g), some (.inl (M 125 1)), some (.inl h), zl4]) (st1 := []) (M1 := M3) (ob := [fs_rg ((M 125 1) - 1)]) rfl rfl (fs_oc ⟨by omega, by omega⟩ trivial) (fun (h1 : ((M 125 1) - 1) ≤ h) => ?_) (fun (h1 : ¬ (((M 125 1) - 1) ≤ h)) => ?_)
      · refine fs_r_nop (L1 := [some (.inr (.ref 124)), some (.inl g), some (.inl (M 125 1)), some (.inl 0), zl4]) (st1 := []) (M1 := M3) (ob := [3 < 5]) rfl rfl (fs_oc (by decide) trivial) ?_
        have loop140 : ∀ (n140 : Nat) (a : Int) (zl4 : Option fs_V) (M6 : fs_M), (0 ≤ a ∧ a ≤ 6) → (∀ r, r ≠ 125 → M6 r = M r) → (∀ q, M6 125 q = if 64 ≤ q ∧ q < 64 + 6 * a then gC (M 125) g (M 125 1 - 1) q else gA (M 125) g (M 125 1 - 1) q) → 6 - a < (n140 : Int) → fs_W (d + 1) 217 140 [some (.inr (.ref 124)), some (.inl g), some (.inl (M 125 1)), some (.inl a), zl4] [] M6 Q := by
          intro n140
          induction n140 with
          | zero =>
            intro a zl4 M6 i6 f6 n6 hm140
            exfalso
            omega
          | succ n140 ih140 =>
            intro a zl4 M6 i6 f6 n6 hm140
            refine fs_r_icmp (a := a) (y := 6) (L1 := [some (.inr (.ref 124)), some (.inl g), some (.inl (M 125 1)), some (.inl a), zl4]) (st1 := []) (M1 := M6) (ob := []) rfl rfl trivial (fun (h2 : 6 ≤ a) => ?_) (fun (h2 : ¬ (6 ≤ a)) => ?_)
            · refine fs_r_call (sta := false) (idx := 243) (as := [.inr (.ref 124), .inl ((M 125 1) - 1)]) (rest := []) (L1 := [some (.inr (.ref 124)), some (.inl g), some (.inl (M 125 1)), some (.inl a), zl4]) (st1 := [.inl ((M 125 1) - 1), .inr (.ref 124)]) (M1 := M6) (ob := [fs_rg ((M 125 1) - 1)]) rfl rfl rfl (fs_oc ⟨by omega, by omega⟩ trivial) rfl rfl (Nat.le_of_ble_eq_true rfl) ⟨Or.inr (Nat.le_of_ble_eq_true rfl), Or.inr fs_ob124⟩ (by decide) ?_
              refine fs_m_clears (by omega) (fun (V : fs_M) (vf : ∀ r, r ≠ 125 → V r = M6 r) (vn : V 125 = cl_row (M6 125) ((M 125 1) - 1)) => ?_)
              have w1 : V 125 1 = M 125 1 := by { rw [vn]; unfold cl_row; rw [if_neg (by omega), n6 1, if_neg (by omega)]; unfold gA gB; rw [if_neg (by omega), if_neg (by omega), if_neg (by omega)] }
              refine fs_r_ret (L1 := [some (.inr (.ref 124)), some (.inl g), some (.inl (M 125 1)), some (.inl a), zl4]) (M1 := (fs_up V 125 1 ((V 125 1) - 1))) (ob := [124 < fs_N ∧ fs_kd 124 = 6, (125 < fs_N ∧ fs_kd 125 = 100) ∧ (0 : Int) ≤ 1 ∧ 1 < fs_ln 125, fs_rg ((V 125 1) - 1), (125 < fs_N ∧ fs_kd 125 = 100) ∧ (0 : Int) ≤ 1 ∧ 1 < fs_ln 125]) rfl (fs_exA 6 (o1 := [124 < fs_N ∧ fs_kd 124 = 6, (125 < fs_N ∧ fs_kd 125 = 100) ∧ (0 : Int) ≤ 1 ∧ 1 < fs_ln 125]) (L1 := [some (.inr (.ref 124)), some (.inl g), some (.inl (M 125 1)), some (.inl a), zl4]) (st1 := [.inl 1, .inl (V 125 1), .inl 1, .inr (.ref 125)]) (M1 := V) (o2 := [fs_rg ((V 125 1) - 1), (125 < fs_N ∧ fs_kd 125 = 100) ∧ (0 : Int) ≤ 1 ∧ 1 < fs_ln 125]) rfl rfl) (fs_oc fs_ob124 (fs_oc (fs_ar125 (by omega) (by omega)) (fs_oc ⟨by omega, by omega⟩ (fs_oc (fs_ar125 (by omega) (by omega)) trivial)))) ?_
              refine hq0 _ (fun r q => by rw [fs_up_other q, vf r q]; exact f6 r q) (gs_end hg (fun q => ?_))
              rw [fs_up_at, w1]
              by_cases z : q = 1
              · rw [if_pos z, if_pos z]
              · rw [if_neg z, if_neg z, vn]
                unfold cl_row
                split
                · rfl
                · rw [n6 q, show a = 6 by omega]
                  by_cases w : 64 ≤ q ∧ q < 100
                  · rw [if_pos (by omega)]
                    exact (if_pos w).symm
                  · rw [if_neg (by omega)]
                    exact (if_neg w).symm
            refine fs_r_nop (L1 := [some (.inr (.ref 124)), some (.inl g), some (.inl (M 125 1)), some (.inl a), some (.inl g)]) (st1 := []) (M1 := M6) (ob := [4 < 5]) rfl rfl (fs_oc (by decide) trivial) ?_
            have loop149 : ∀ (n149 : Nat) (c : Int) (M7 : fs_M), (g ≤ c ∧ c ≤ 5) → (∀ r, r ≠ 125 → M7 r = M r) → (∀ q, M7 125 q = if 64 ≤ q ∧ q < 64 + 6 * a then gC (M 125) g (M 125 1 - 1) q else if 64 + 6 * a + g ≤ q ∧ q < 64 + 6 * a + c then gA (M 125) g (M 125 1 - 1) (q + 1) else gA (M 125) g (M 125 1 - 1) q) → 5 - c < (n149 : Int) → fs_W (d + 1) 217 149 [some (.inr (.ref 124)), some (.inl g), some (.inl (M 125 1)), some (.inl a), some (.inl c)] [] M7 Q := by
              intro n149
              induction n149 with
              | zero =>
                intro c M7 i7 f7 n7 hm149
                exfalso
                omega
              | succ n149 ih149 =>
                intro c M7 i7 f7 n7 hm149
                refine fs_r_icmp (a := c) (y := 5) (L1 := [some (.inr (.ref 124)), some (.inl g), some (.inl (M 125 1)), some (.inl a), some (.inl c)]) (st1 := []) (M1 := M7) (ob := []) rfl rfl trivial (fun (h3 : 5 ≤ c) => ?_) (fun (h3 : ¬ (5 ≤ c)) => ?_)
                · refine fs_r_goto (L1 := [some (.inr (.ref 124)), some (.inl g), some (.inl (M 125 1)), some (.inl (a + 1)), some (.inl c)]) (st1 := []) (M1 := (fs_up M7 125 ((64 + (6 * a)) + 5) 0)) (ob := [124 < fs_N ∧ fs_kd 124 = 6, fs_rg (6 * a), fs_rg (64 + (6 * a)), fs_rg ((64 + (6 * a)) + 5), (125 < fs_N ∧ fs_kd 125 = 100) ∧ (0 : Int) ≤ ((64 + (6 * a)) + 5) ∧ ((64 + (6 * a)) + 5) < fs_ln 125, fs_rg (a + 1)]) rfl (fs_exA 6 (o1 := [124 < fs_N ∧ fs_kd 124 = 6, fs_rg (6 * a)]) (L1 := [some (.inr (.ref 124)), some (.inl g), some (.inl (M 125 1)), some (.inl a), some (.inl c)]) (st1 := [.inl (6 * a), .inl 64, .inr (.ref 125)]) (M1 := M7) (o2 := [fs_rg (64 + (6 * a)), fs_rg ((64 + (6 * a)) + 5), (125 < fs_N ∧ fs_kd 125 = 100) ∧ (0 : Int) ≤ ((64 + (6 * a)) + 5) ∧ ((64 + (6 * a)) + 5) < fs_ln 125, fs_rg (a + 1)]) rfl rfl) (fs_oc fs_ob124 (fs_oc ⟨by omega, by omega⟩ (fs_oc ⟨by omega, by omega⟩ (fs_oc ⟨by omega, by omega⟩ (fs_oc (fs_ar125 (by omega) (by omega)) (fs_oc ⟨by omega, by omega⟩ trivial)))))) ?_
                  exact ih140 ((a + 1)) (some (.inl c)) (fs_up M7 125 ((64 + (6 * a)) + 5) 0) (by omega) (fun r q => by rw [fs_up_other q]; exact f7 r q) (fun q => by
                       rw [fs_up_at]
                       by_cases z : q = 64 + 6 * a + 5
                       · rw [if_pos z, if_pos (by omega)]
                         unfold gC
                         rw [if_pos (by omega)]
                       · rw [if_neg z, n7 q]
                         by_cases y1 : 64 ≤ q ∧ q < 64 + 6 * a
                         · rw [if_pos y1, if_pos (by omega)]
                         · rw [if_neg y1]
                           by_cases y2 : 64 + 6 * a + g ≤ q ∧ q < 64 + 6 * a + c
                           · rw [if_pos y2, if_pos (by omega)]
                             unfold gC
                             rw [if_neg (by omega), if_neg (by omega)]
                           · rw [if_neg y2]
                             by_cases y3 : 64 ≤ q ∧ q < 64 + 6 * (a + 1)
                             · rw [if_pos y3]
                               unfold gC
                               rw [if_neg (by omega), if_pos (by omega)]
                             · rw [if_neg y3]) (by omega)
                refine fs_r_call (sta := false) (idx := 181) (as := [.inr (.ref 124), .inl a, .inl (c + 1)]) (rest := [.inl ((64 + (6 * a)) + c), .inr (.ref 125)]) (L1 := [some (.inr (.ref 124)), some (.inl g), some (.inl (M 125 1)), some (.inl a), some (.inl c)]) (st1 := [.inl (c + 1), .inl a, .inr (.ref 124), .inl ((64 + (6 * a)) + c), .inr (.ref 125)]) (M1 := M7) (ob := [124 < fs_N ∧ fs_kd 124 = 6, fs_rg (6 * a), fs_rg (64 + (6 * a)), fs_rg ((64 + (6 * a)) + c), fs_rg (c + 1)]) rfl rfl (fs_exA 6 (o1 := [124 < fs_N ∧ fs_kd 124 = 6, fs_rg (6 * a)]) (L1 := [some (.inr (.ref 124)), some (.inl g), some (.inl (M 125 1)), some (.inl a), some (.inl c)]) (st1 := [.inl (6 * a), .inl 64, .inr (.ref 125)]) (M1 := M7) (o2 := [fs_rg (64 + (6 * a)), fs_rg ((64 + (6 * a)) + c), fs_rg (c + 1)]) rfl (fs_exA 6 (o1 := [fs_rg (64 + (6 * a)), fs_rg ((64 + (6 * a)) + c)]) (L1 := [some (.inr (.ref 124)), some (.inl g), some (.inl (M 125 1)), some (.inl a), some (.inl c)]) (st1 := [.inl c, .inl a, .inr (.ref 124), .inl ((64 + (6 * a)) + c), .inr (.ref 125)]) (M1 := M7) (o2 := [fs_rg (c + 1)]) rfl rfl)) (fs_oc fs_ob124 (fs_oc ⟨by omega, by omega⟩ (fs_oc ⟨by omega, by omega⟩ (fs_oc ⟨by omega, by omega⟩ (fs_oc ⟨by omega, by omega⟩ trivial))))) rfl rfl (Nat.le_of_ble_eq_true rfl) ⟨Or.inr (Nat.le_of_ble_eq_true rfl), Or.inr fs_ob124⟩ (by decide) ?_
                refine fs_m_loanOf (by omega) (by omega) ?_
                refine fs_r_goto (L1 := [some (.inr (.ref 124)), some (.inl g), some (.inl (M 125 1)), some (.inl a), some (.inl (c + 1))]) (st1 := []) (M1 := (fs_up M7 125 ((64 + (6 * a)) + c) (M7 125 (64 + 6 * a + (c + 1))))) (ob := [(125 < fs_N ∧ fs_kd 125 = 100) ∧ (0 : Int) ≤ ((64 + (6 * a)) + c) ∧ ((64 + (6 * a)) + c) < fs_ln 125, fs_rg (c + 1)]) rfl rfl (fs_oc (fs_ar125 (by omega) (by omega)) (fs_oc ⟨by omega, by omega⟩ trivial)) ?_
                exact ih149 ((c + 1)) (fs_up M7 125 ((64 + (6 * a)) + c) (M7 125 (64 + 6 * a + (c + 1)))) (by omega) (fun r q => by rw [fs_up_other q]; exact f7 r q) (fun q => by
                     rw [fs_up_at]
                     by_cases z : q = 64 + 6 * a + c
                     · rw [if_pos z, if_neg (by omega), if_pos (by omega), n7, if_neg (by omega), if_neg (by omega)]
                       congr 1
                       omega
                     · rw [if_neg z, n7 q]
                       by_cases y1 : 64 ≤ q ∧ q < 64 + 6 * a
                       · rw [if_pos y1, if_pos y1]
                       · rw [if_neg y1, if_neg y1]
                         by_cases y2 : 64 + 6 * a + g ≤ q ∧ q < 64 + 6 * a + c
                         · rw [if_pos y2, if_pos (by omega)]
                         · rw [if_neg y2, if_neg (by omega)]) (by omega)
            exact loop149 (((5 - (g)) : Int) + 1).toNat (g) M6 (by omega) (f6) (fun q => by rw [n6 q]; by_cases y1 : 64 ≤ q ∧ q < 64 + 6 * a; (rw [if_pos y1, if_pos y1]); (rw [if_neg y1, if_neg y1, if_neg (by omega)])) (by omega)
        exact loop140 (((6 - (0)) : Int) + 1).toNat (0) (zl4) M3 (by omega) (fM3) (fun q => by rw [nM3 q, if_neg (by omega)]; unfold gA; congr 1 <;> omega) (by omega)
      refine fs_r_nop (L1 := [some (.inr (.ref 124)), some (.inl g), some (.inl (M 125 1)), some (.inl h), some (.inl 0)]) (st1 := []) (M1 := M3) (ob := [4 < 5]) rfl rfl (fs_oc (by decide) trivial) ?_
      have loop19 : ∀ (n19 : Nat) (k : Int) (MA : fs_M), (0 ≤ k ∧ k ≤ 5) → (∀ r, r ≠ 125 → MA r = M r) → (∀ q, MA 125 q = gB (M 125) g (10 + 5 * h + k) (40 + 4 * h) (64 + 6 * h) q) → 5 - k < (n19 : Int) → fs_W (d + 1) 217 19 [some (.inr (.ref 124)), some (.inl g), some (.inl (M 125 1)), some (.inl h), some (.inl k)] [] MA Q := by
        intro n19
        induction n19 with
        | zero =>
          intro k MA iMA fMA nMA hm19
          exfalso
          omega
        | succ n19 ih19 =>
          intro k MA iMA fMA nMA hm19
          refine fs_r_icmp (a := k) (y := 5) (L1 := [some (.inr (.ref 124)), some (.inl g), some (.inl (M 125 1)), some (.inl h), some (.inl k)]) (st1 := []) (M1 := MA) (ob := []) rfl rfl trivial (fun (h4 : 5 ≤ k) => ?_) (fun (h4 : ¬ (5 ≤ k)) => ?_)
          · refine fs_r_nop (L1 := [some (.inr (.ref 124)), some (.inl g), some (.inl (M 125 1)), some (.inl h), some (.inl 0)]) (st1 := []) (M1 := MA) (ob := [4 < 5]) rfl rfl (fs_oc (by decide) trivial) ?_
            have loop57 : ∀ (n57 : Nat) (k : Int) (MB : fs_M), (0 ≤ k ∧ k ≤ 4) → (∀ r, r ≠ 125 → MB r = M r) → (∀ q, MB 125 q = gB (M 125) g (10 + 5 * h + 5) (40 + 4 * h + k) (64 + 6 * h) q) → 4 - k < (n57 : Int) → fs_W (d + 1) 217 57 [some (.inr (.ref 124)), some (.inl g), some (.inl (M 125 1)), some (.inl h), some (.inl k)] [] MB Q := by
              intro n57
              induction n57 with
              | zero =>
                intro k MB iMB fMB nMB hm57
                exfalso
                omega
              | succ n57 ih57 =>
                intro k MB iMB fMB nMB hm57
                refine fs_r_icmp (a := k) (y := 4) (L1 := [some (.inr (.ref 124)), some (.inl g), some (.inl (M 125 1)), some (.inl h), some (.inl k)]) (st1 := []) (M1 := MB) (ob := []) rfl rfl trivial (fun (h5 : 4 ≤ k) => ?_) (fun (h5 : ¬ (4 ≤ k)) => ?_)
                · refine fs_r_nop (L1 := [some (.inr (.ref 124)), some (.inl g), some (.inl (M 125 1)), some (.inl h), some (.inl 0)]) (st1 := []) (M1 := MB) (ob := [4 < 5]) rfl rfl (fs_oc (by decide) trivial) ?_
                  have loop95 : ∀ (n95 : Nat) (k : Int) (MC : fs_M), (0 ≤ k ∧ k ≤ 6) → (∀ r, r ≠ 125 → MC r = M r) → (∀ q, MC 125 q = gB (M 125) g (10 + 5 * h + 5) (40 + 4 * h + 4) (64 + 6 * h + k) q) → 6 - k < (n95 : Int) → fs_W (d + 1) 217 95 [some (.inr (.ref 124)), some (.inl g), some (.inl (M 125 1)), some (.inl h), some (.inl k)] [] MC Q := by
                    intro n95
                    induction n95 with
                    | zero =>
                      intro k MC iMC fMC nMC hm95
                      exfalso
                      omega
                    | succ n95 ih95 =>
                      intro k MC iMC fMC nMC hm95
                      refine fs_r_icmp (a := k) (y := 6) (L1 := [some (.inr (.ref 124)), some (.inl g), some (.inl (M 125 1)), some (.inl h), some (.inl k)]) (st1 := []) (M1 := MC) (ob := []) rfl rfl trivial (fun (h6 : 6 ≤ k) => ?_) (fun (h6 : ¬ (6 ≤ k)) => ?_)
                      · refine fs_r_goto (L1 := [some (.inr (.ref 124)), some (.inl g), some (.inl (M 125 1)), some (.inl (h + 1)), some (.inl k)]) (st1 := []) (M1 := MC) (ob := [fs_rg (h + 1)]) rfl rfl (fs_oc ⟨by omega, by omega⟩ trivial) ?_
                        exact ih9 ((h + 1)) (some (.inl k)) MC (by omega) (fMC) (fun q => by rw [nMC q]; congr 1 <;> omega) (by omega)
                      refine fs_r_call (sta := false) (idx := 181) (as := [.inr (.ref 124), .inl (h + 1), .inl k]) (rest := [.inl ((64 + (6 * h)) + k), .inr (.ref 125)]) (L1 := [some (.inr (.ref 124)), some (.inl g), some (.inl (M 125 1)), some (.inl h), some (.inl k)]) (st1 := [.inl k, .inl (h + 1), .inr (.ref 124), .inl ((64 + (6 * h)) + k), .inr (.ref 125)]) (M1 := MC) (ob := [124 < fs_N ∧ fs_kd 124 = 6, fs_rg (6 * h), fs_rg (64 + (6 * h)), fs_rg ((64 + (6 * h)) + k), fs_rg (h + 1)]) rfl rfl (fs_exA 6 (o1 := [124 < fs_N ∧ fs_kd 124 = 6, fs_rg (6 * h)]) (L1 := [some (.inr (.ref 124)), some (.inl g), some (.inl (M 125 1)), some (.inl h), some (.inl k)]) (st1 := [.inl (6 * h), .inl 64, .inr (.ref 125)]) (M1 := MC) (o2 := [fs_rg (64 + (6 * h)), fs_rg ((64 + (6 * h)) + k), fs_rg (h + 1)]) rfl (fs_exA 6 (o1 := [fs_rg (64 + (6 * h)), fs_rg ((64 + (6 * h)) + k)]) (L1 := [some (.inr (.ref 124)), some (.inl g), some (.inl (M 125 1)), some (.inl h), some (.inl k)]) (st1 := [.inl 1, .inl h, .inr (.ref 124), .inl ((64 + (6 * h)) + k), .inr (.ref 125)]) (M1 := MC) (o2 := [fs_rg (h + 1)]) rfl rfl)) (fs_oc fs_ob124 (fs_oc ⟨by omega, by omega⟩ (fs_oc ⟨by omega, by omega⟩ (fs_oc ⟨by omega, by omega⟩ (fs_oc ⟨by omega, by omega⟩ trivial))))) rfl rfl (Nat.le_of_ble_eq_true rfl) ⟨Or.inr (Nat.le_of_ble_eq_true rfl), Or.inr fs_ob124⟩ (by decide) ?_
                      refine fs_m_loanOf (by omega) (by omega) ?_
                      refine fs_r_goto (L1 := [some (.inr (.ref 124)), some (.inl g), some (.inl (M 125 1)), some (.inl h), some (.inl (k + 1))]) (st1 := []) (M1 := (fs_up MC 125 ((64 + (6 * h)) + k) (MC 125 (64 + 6 * (h + 1) + k)))) (ob := [(125 < fs_N ∧ fs_kd 125 = 100) ∧ (0 : Int) ≤ ((64 + (6 * h)) + k) ∧ ((64 + (6 * h)) + k) < fs_ln 125, fs_rg (k + 1)]) rfl rfl (fs_oc (fs_ar125 (by omega) (by omega)) (fs_oc ⟨by omega, by omega⟩ trivial)) ?_
                      exact ih95 ((k + 1)) (fs_up MC 125 ((64 + (6 * h)) + k) (MC 125 (64 + 6 * (h + 1) + k))) (by omega) (fun r q => by rw [fs_up_other q]; exact fMC r q) (fun q => by
                             rw [fs_up_at]
                             by_cases z : q = 64 + 6 * h + k
                             · rw [if_pos z, nMC]
                               unfold gB
                               first
                                 | (rw [if_neg (by omega), if_neg (by omega), if_neg (by omega), if_pos (by omega)]; congr 1; omega)
                                 | (rw [if_neg (by omega), if_neg (by omega), if_neg (by omega), if_neg (by omega), if_pos (by omega)]; congr 1; omega)
                                 | (rw [if_neg (by omega), if_neg (by omega), if_neg (by omega), if_neg (by omega), if_neg (by omega), if_pos (by omega)]; congr 1; omega)
                             · rw [if_neg z, nMC q]
                               exact gB_c (by omega) (by omega) (by omega)) (by omega)
                  exact loop95 (((6 - (0)) : Int) + 1).toNat (0) MB (by omega) (fMB) (fun q => by rw [nMB q]; congr 1 <;> omega) (by omega)
                refine fs_r_call (sta := false) (idx := 72) (as := [.inr (.ref 124), .inl (h + 1), .inl k]) (rest := [.inl ((40 + (4 * h)) + k), .inr (.ref 125)]) (L1 := [some (.inr (.ref 124)), some (.inl g), some (.inl (M 125 1)), some (.inl h), some (.inl k)]) (st1 := [.inl k, .inl (h + 1), .inr (.ref 124), .inl ((40 + (4 * h)) + k), .inr (.ref 125)]) (M1 := MB) (ob := [124 < fs_N ∧ fs_kd 124 = 6, fs_rg (4 * h), fs_rg (40 + (4 * h)), fs_rg ((40 + (4 * h)) + k), fs_rg (h + 1)]) rfl rfl (fs_exA 6 (o1 := [124 < fs_N ∧ fs_kd 124 = 6, fs_rg (4 * h)]) (L1 := [some (.inr (.ref 124)), some (.inl g), some (.inl (M 125 1)), some (.inl h), some (.inl k)]) (st1 := [.inl (4 * h), .inl 40, .inr (.ref 125)]) (M1 := MB) (o2 := [fs_rg (40 + (4 * h)), fs_rg ((40 + (4 * h)) + k), fs_rg (h + 1)]) rfl (fs_exA 6 (o1 := [fs_rg (40 + (4 * h)), fs_rg ((40 + (4 * h)) + k)]) (L1 := [some (.inr (.ref 124)), some (.inl g), some (.inl (M 125 1)), some (.inl h), some (.inl k)]) (st1 := [.inl 1, .inl h, .inr (.ref 124), .inl ((40 + (4 * h)) + k), .inr (.ref 125)]) (M1 := MB) (o2 := [fs_rg (h + 1)]) rfl rfl)) (fs_oc fs_ob124 (fs_oc ⟨by omega, by omega⟩ (fs_oc ⟨by omega, by omega⟩ (fs_oc ⟨by omega, by omega⟩ (fs_oc ⟨by omega, by omega⟩ trivial))))) rfl rfl (Nat.le_of_ble_eq_true rfl) ⟨Or.inr (Nat.le_of_ble_eq_true rfl), Or.inr fs_ob124⟩ (by decide) ?_
                refine fs_m_holds (by omega) (by omega) ?_
                refine fs_r_goto (L1 := [some (.inr (.ref 124)), some (.inl g), some (.inl (M 125 1)), some (.inl h), some (.inl (k + 1))]) (st1 := []) (M1 := (fs_up MB 125 ((40 + (4 * h)) + k) (MB 125 (40 + 4 * (h + 1) + k)))) (ob := [(125 < fs_N ∧ fs_kd 125 = 100) ∧ (0 : Int) ≤ ((40 + (4 * h)) + k) ∧ ((40 + (4 * h)) + k) < fs_ln 125, fs_rg (k + 1)]) rfl rfl (fs_oc (fs_ar125 (by omega) (by omega)) (fs_oc ⟨by omega, by omega⟩ trivial)) ?_
                exact ih57 ((k + 1)) (fs_up MB 125 ((40 + (4 * h)) + k) (MB 125 (40 + 4 * (h + 1) + k))) (by omega) (fun r q => by rw [fs_up_other q]; exact fMB r q) (fun q => by
                       rw [fs_up_at]
                       by_cases z : q = 40 + 4 * h + k
                       · rw [if_pos z, nMB]
                         unfold gB
                         first
                           | (rw [if_neg (by omega), if_neg (by omega), if_neg (by omega), if_pos (by omega)]; congr 1; omega)
                           | (rw [if_neg (by omega), if_neg (by omega), if_neg (by omega), if_neg (by omega), if_pos (by omega)]; congr 1; omega)
                           | (rw [if_neg (by omega), if_neg (by omega), if_neg (by omega), if_neg (by omega), if_neg (by omega), if_pos (by omega)]; congr 1; omega)
                       · rw [if_neg z, nMB q]
                         exact gB_c (by omega) (by omega) (by omega)) (by omega)
            exact loop57 (((4 - (0)) : Int) + 1).toNat (0) MA (by omega) (fMA) (fun q => by rw [nMA q]; congr 1 <;> omega) (by omega)
          refine fs_r_call (sta := false) (idx := 175) (as := [.inr (.ref 124), .inl (h + 1), .inl k]) (rest := [.inl ((10 + (5 * h)) + k), .inr (.ref 125)]) (L1 := [some (.inr (.ref 124)), some (.inl g), some (.inl (M 125 1)), some (.inl h), some (.inl k)]) (st1 := [.inl k, .inl (h + 1), .inr (.ref 124), .inl ((10 + (5 * h)) + k), .inr (.ref 125)]) (M1 := MA) (ob := [124 < fs_N ∧ fs_kd 124 = 6, fs_rg (5 * h), fs_rg (10 + (5 * h)), fs_rg ((10 + (5 * h)) + k), fs_rg (h + 1)]) rfl rfl (fs_exA 6 (o1 := [124 < fs_N ∧ fs_kd 124 = 6, fs_rg (5 * h)]) (L1 := [some (.inr (.ref 124)), some (.inl g), some (.inl (M 125 1)), some (.inl h), some (.inl k)]) (st1 := [.inl (5 * h), .inl 10, .inr (.ref 125)]) (M1 := MA) (o2 := [fs_rg (10 + (5 * h)), fs_rg ((10 + (5 * h)) + k), fs_rg (h + 1)]) rfl (fs_exA 6 (o1 := [fs_rg (10 + (5 * h)), fs_rg ((10 + (5 * h)) + k)]) (L1 := [some (.inr (.ref 124)), some (.inl g), some (.inl (M 125 1)), some (.inl h), some (.inl k)]) (st1 := [.inl 1, .inl h, .inr (.ref 124), .inl ((10 + (5 * h)) + k), .inr (.ref 125)]) (M1 := MA) (o2 := [fs_rg (h + 1)]) rfl rfl)) (fs_oc fs_ob124 (fs_oc ⟨by omega, by omega⟩ (fs_oc ⟨by omega, by omega⟩ (fs_oc ⟨by omega, by omega⟩ (fs_oc ⟨by omega, by omega⟩ trivial))))) rfl rfl (Nat.le_of_ble_eq_true rfl) ⟨Or.inr (Nat.le_of_ble_eq_true rfl), Or.inr fs_ob124⟩ (by decide) ?_
          refine fs_m_houseOf (by omega) (by omega) ?_
          refine fs_r_goto (L1 := [some (.inr (.ref 124)), some (.inl g), some (.inl (M 125 1)), some (.inl h), some (.inl (k + 1))]) (st1 := []) (M1 := (fs_up MA 125 ((10 + (5 * h)) + k) (MA 125 (10 + 5 * (h + 1) + k)))) (ob := [(125 < fs_N ∧ fs_kd 125 = 100) ∧ (0 : Int) ≤ ((10 + (5 * h)) + k) ∧ ((10 + (5 * h)) + k) < fs_ln 125, fs_rg (k + 1)]) rfl rfl (fs_oc (fs_ar125 (by omega) (by omega)) (fs_oc ⟨by omega, by omega⟩ trivial)) ?_
          exact ih19 ((k + 1)) (fs_up MA 125 ((10 + (5 * h)) + k) (MA 125 (10 + 5 * (h + 1) + k))) (by omega) (fun r q => by rw [fs_up_other q]; exact fMA r q) (fun q => by
                 rw [fs_up_at]
                 by_cases z : q = 10 + 5 * h + k
                 · rw [if_pos z, nMA]
                   unfold gB
                   first
                     | (rw [if_neg (by omega), if_neg (by omega), if_neg (by omega), if_pos (by omega)]; congr 1; omega)
                     | (rw [if_neg (by omega), if_neg (by omega), if_neg (by omega), if_neg (by omega), if_pos (by omega)]; congr 1; omega)
                     | (rw [if_neg (by omega), if_neg (by omega), if_neg (by omega), if_neg (by omega), if_neg (by omega), if_pos (by omega)]; congr 1; omega)
                 · rw [if_neg z, nMA q]
                   exact gB_c (by omega) (by omega) (by omega)) (by omega)
      exact loop19 (((5 - (0)) : Int) + 1).toNat (0) M3 (by omega) (fM3) (fun q => by rw [nM3 q]; congr 1 <;> omega) (by omega)
  exact loop9 ((((M 125 1 - 1) - (g)) : Int) + 1).toNat (g) (none) M (by omega) (fun r _ => rfl) (fun q => by unfold gB; rw [if_neg (by omega), if_neg (by omega), if_neg (by omega)]) (by omega)

theorem fs_m_close {d : Nat} {M : fs_M} {Q : Option fs_V → fs_M → Prop} {h : Int}  (hI : fs_NI (M 125)) (hc : 0 ≤ M 124 4 ∧ M 124 4 ≤ 12) (hq0 : ∀ (M2 : fs_M), (0 ≤ h ∧ h < M 125 1) → (mm_act M M2 (gs_row (M 125) h)) → Q (some (.inl (M 125 1 - 1))) M2) (hq1 : (¬ (0 ≤ h ∧ h < M 125 1)) → Q (some (.inl (-1))) M) : fs_W (d + 2) 220 0 [some (.inr (.ref 124)), some (.inl h)] [] M Q := by
  have hN := hI
  obtain ⟨⟨hA0, hA1⟩, ⟨hH0, hH1⟩, hcv, hfc, hhd, hln, hsh, hit, hst⟩ := id hN
  refine fs_r_call (sta := false) (idx := 237) (as := [.inr (.ref 124), .inl h]) (rest := []) (L1 := [some (.inr (.ref 124)), some (.inl h)]) (st1 := [.inl h, .inr (.ref 124)]) (M1 := M) (ob := []) rfl rfl rfl trivial rfl rfl (Nat.le_of_ble_eq_true rfl) ⟨Or.inr (Nat.le_of_ble_eq_true rfl), Or.inr fs_ob124⟩ (by decide) ?_
  refine fs_m_isHouse (by assumption) (fun (f1 : 0 ≤ h ∧ h < M 125 1) => ?_) (fun (f2 : ¬ (0 ≤ h ∧ h < M 125 1)) => ?_)
  · refine fs_r_if (a := 1) (L1 := [some (.inr (.ref 124)), some (.inl h)]) (st1 := []) (M1 := M) (ob := []) rfl rfl trivial (fun _ => ?_) (fun h => absurd (by decide : ¬ (1 : Int) = 0) h)
    refine fs_r_call (sta := false) (idx := 234) (as := [.inr (.ref 124)]) (rest := []) (L1 := [some (.inr (.ref 124)), some (.inl h)]) (st1 := [.inr (.ref 124)]) (M1 := M) (ob := []) rfl rfl rfl trivial rfl rfl (Nat.le_of_ble_eq_true rfl) ⟨Or.inr (Nat.le_of_ble_eq_true rfl), Or.inr fs_ob124⟩ (by decide) ?_
    refine fs_m_remembers (by assumption) (fun (V1 : fs_M) (r1 : mm_rem M V1) => ?_)
    have n1 := r1.1 125 (by decide) (by decide)
    have m0 := congrFun n1 0
    have m1 := congrFun n1 1
    refine fs_r_call (sta := false) (idx := 249) (as := [.inr (.ref 124), .inl h]) (rest := []) (L1 := [some (.inr (.ref 124)), some (.inl h)]) (st1 := [.inl h, .inr (.ref 124)]) (M1 := V1) (ob := []) rfl rfl rfl trivial rfl rfl (Nat.le_of_ble_eq_true rfl) ⟨Or.inr (Nat.le_of_ble_eq_true rfl), Or.inr fs_ob124⟩ (by decide) ?_
    refine fs_m_goes (by omega) (fun (V : fs_M) (vf : ∀ r, r ≠ 125 → V r = V1 r) (vn : V 125 = gs_row (V1 125) h) => ?_)
    
    have w1 : V 125 1 = M 125 1 - 1 := by { rw [vn, n1]; rfl }
    refine fs_r_iret (a := (V 125 1)) (L1 := [some (.inr (.ref 124)), some (.inl h)]) (M1 := V) (ob := [124 < fs_N ∧ fs_kd 124 = 6, (125 < fs_N ∧ fs_kd 125 = 100) ∧ (0 : Int) ≤ 1 ∧ 1 < fs_ln 125]) rfl rfl (fs_oc fs_ob124 (fs_oc (fs_ar125 (by omega) (by omega)) trivial)) (Or.inl rfl) ?_
    exact fs_qi w1 (hq0 _ (by omega) (mm_act.of r1 vf (by rw [vn, n1])))
  refine fs_r_if (a := 0) (L1 := [some (.inr (.ref 124)), some (.inl h)]) (st1 := []) (M1 := M) (ob := []) rfl rfl trivial (fun h => absurd h (by decide : ¬ (¬ (0 : Int) = 0))) (fun _ => ?_)
  refine fs_r_iret (a := (-1)) (L1 := [some (.inr (.ref 124)), some (.inl h)]) (M1 := M) (ob := []) rfl rfl trivial (Or.inl rfl) ?_
  exact hq1 (by omega)

theorem fs_m_merge {d : Nat} {M : fs_M} {Q : Option fs_V → fs_M → Prop} {x : Int} {y : Int}  (hI : fs_NI (M 125)) (hc : 0 ≤ M 124 4 ∧ M 124 4 ≤ 12) (hq0 : ∀ (M2 : fs_M), ((0 ≤ x ∧ x < M 125 1) ∧ (0 ≤ y ∧ y < M 125 1) ∧ x ≠ y) → (mm_act M M2 (gs_row (mg_row (M 125) x y) y)) → Q (some (.inl (if y < x then x - 1 else x))) M2) (hq1 : (¬ ((0 ≤ x ∧ x < M 125 1) ∧ (0 ≤ y ∧ y < M 125 1) ∧ x ≠ y)) → Q (some (.inl (-1))) M) : fs_W (d + 2) 219 0 [some (.inr (.ref 124)), some (.inl x), some (.inl y), none, none] [] M Q := by
  have hN := hI
  obtain ⟨⟨hA0, hA1⟩, ⟨hH0, hH1⟩, hcv, hfc, hhd, hln, hsh, hit, hst⟩ := id hN
  refine fs_r_call (sta := false) (idx := 237) (as := [.inr (.ref 124), .inl x]) (rest := []) (L1 := [some (.inr (.ref 124)), some (.inl x), some (.inl y), none, none]) (st1 := [.inl x, .inr (.ref 124)]) (M1 := M) (ob := []) rfl rfl rfl trivial rfl rfl (Nat.le_of_ble_eq_true rfl) ⟨Or.inr (Nat.le_of_ble_eq_true rfl), Or.inr fs_ob124⟩ (by decide) ?_
  refine fs_m_isHouse (by assumption) (fun (f1 : 0 ≤ x ∧ x < M 125 1) => ?_) (fun (f2 : ¬ (0 ≤ x ∧ x < M 125 1)) => ?_)
  · refine fs_r_if (a := 1) (L1 := [some (.inr (.ref 124)), some (.inl x), some (.inl y), none, none]) (st1 := []) (M1 := M) (ob := []) rfl rfl trivial (fun h => absurd h (by decide : ¬ ((1 : Int) = 0))) (fun _ => ?_)
    refine fs_r_call (sta := false) (idx := 237) (as := [.inr (.ref 124), .inl y]) (rest := []) (L1 := [some (.inr (.ref 124)), some (.inl x), some (.inl y), none, none]) (st1 := [.inl y, .inr (.ref 124)]) (M1 := M) (ob := []) rfl rfl rfl trivial rfl rfl (Nat.le_of_ble_eq_true rfl) ⟨Or.inr (Nat.le_of_ble_eq_true rfl), Or.inr fs_ob124⟩ (by decide) ?_
    refine fs_m_isHouse (by assumption) (fun (f3 : 0 ≤ y ∧ y < M 125 1) => ?_) (fun (f4 : ¬ (0 ≤ y ∧ y < M 125 1)) => ?_)
    · refine fs_r_if (a := 1) (L1 := [some (.inr (.ref 124)), some (.inl x), some (.inl y), none, none]) (st1 := []) (M1 := M) (ob := []) rfl rfl trivial (fun h => absurd h (by decide : ¬ ((1 : Int) = 0))) (fun _ => ?_)
      refine fs_r_icmp (a := x) (y := y) (L1 := [some (.inr (.ref 124)), some (.inl x), some (.inl y), none, none]) (st1 := []) (M1 := M) (ob := []) rfl rfl trivial (fun (h5 : ¬ x = y) => ?_) (fun (h5 : ¬ (¬ x = y)) => ?_)
      · refine fs_r_call (sta := false) (idx := 234) (as := [.inr (.ref 124)]) (rest := []) (L1 := [some (.inr (.ref 124)), some (.inl x), some (.inl y), none, none]) (st1 := [.inr (.ref 124)]) (M1 := M) (ob := []) rfl rfl rfl trivial rfl rfl (Nat.le_of_ble_eq_true rfl) ⟨Or.inr (Nat.le_of_ble_eq_true rfl), Or.inr fs_ob124⟩ (by decide) ?_
        refine fs_m_remembers (by assumption) (fun (V1 : fs_M) (r1 : mm_rem M V1) => ?_)
        have n1 := r1.1 125 (by decide) (by decide)
        have m0 := congrFun n1 0
        have m1 := congrFun n1 1
        refine fs_r_nop (L1 := [some (.inr (.ref 124)), some (.inl x), some (.inl y), some (.inl 0), none]) (st1 := []) (M1 := V1) (ob := [3 < 5]) rfl rfl (fs_oc (by decide) trivial) ?_
        have loop29 : ∀ (n29 : Nat) (k : Int) (zl4 : Option fs_V) (MA : fs_M), (0 ≤ k ∧ k ≤ 3) → (∀ r, r ≠ 125 → MA r = V1 r) → (∀ q, MA 125 q = if 10 + 5 * x ≤ q ∧ q < 10 + 5 * x + k then min (M 125 q + M 125 (q + 5 * (y - x))) 9999 else M 125 q) → 3 - k < (n29 : Int) → fs_W (d + 2) 219 29 [some (.inr (.ref 124)), some (.inl x), some (.inl y), some (.inl k), zl4] [] MA Q := by
          intro n29
          induction n29 with
          | zero =>
            intro k zl4 MA iA fA nA hm29
            exfalso
            omega
          | succ n29 ih29 =>
            intro k zl4 MA iA fA nA hm29
            refine fs_r_icmp (a := k) (y := 2) (L1 := [some (.inr (.ref 124)), some (.inl x), some (.inl y), some (.inl k), zl4]) (st1 := []) (M1 := MA) (ob := []) rfl rfl trivial (fun (h6 : 2 < k) => ?_) (fun (h6 : ¬ (2 < k)) => ?_)
            · refine fs_r_nop (L1 := [some (.inr (.ref 124)), some (.inl x), some (.inl y), some (.inl 0), zl4]) (st1 := []) (M1 := MA) (ob := [3 < 5]) rfl rfl (fs_oc (by decide) trivial) ?_
              have loop74 : ∀ (n74 : Nat) (a : Int) (zl4 : Option fs_V) (MB : fs_M), (0 ≤ a ∧ a ≤ 4) → (∀ r, r ≠ 125 → MB r = V1 r) → (∀ q, MB 125 q = if 40 + 4 * x ≤ q ∧ q < 40 + 4 * x + a then min (M 125 q + M 125 (q + 4 * (y - x))) 60 else (if 10 + 5 * x ≤ q ∧ q < 10 + 5 * x + 3 then min (M 125 q + M 125 (q + 5 * (y - x))) 9999 else M 125 q)) → 4 - a < (n74 : Int) → fs_W (d + 2) 219 74 [some (.inr (.ref 124)), some (.inl x), some (.inl y), some (.inl a), zl4] [] MB Q := by
                intro n74
                induction n74 with
                | zero =>
                  intro a zl4 MB iB fB nB hm74
                  exfalso
                  omega
                | succ n74 ih74 =>
                  intro a zl4 MB iB fB nB hm74
                  refine fs_r_icmp (a := a) (y := 4) (L1 := [some (.inr (.ref 124)), some (.inl x), some (.inl y), some (.inl a), zl4]) (st1 := []) (M1 := MB) (ob := []) rfl rfl trivial (fun (h7 : 4 ≤ a) => ?_) (fun (h7 : ¬ (4 ≤ a)) => ?_)
                  · refine fs_r_nop (L1 := [some (.inr (.ref 124)), some (.inl x), some (.inl y), some (.inl 0), zl4]) (st1 := []) (M1 := MB) (ob := [3 < 5]) rfl rfl (fs_oc (by decide) trivial) ?_
                    have loop118 : ∀ (n118 : Nat) (o : Int) (zl4 : Option fs_V) (MC : fs_M), (0 ≤ o ∧ o ≤ 6) → (∀ r, r ≠ 125 → MC r = V1 r) → (∀ q, MC 125 q = if 64 ≤ q ∧ q < 100 ∧ ¬ (((q - 64) / 6 = x ∧ (q - 64) % 6 < o) ∨ ((q - 64) % 6 = x ∧ (q - 64) / 6 < o)) then M 125 q else mg_row (M 125) x y q) → 6 - o < (n118 : Int) → fs_W (d + 2) 219 118 [some (.inr (.ref 124)), some (.inl x), some (.inl y), some (.inl o), zl4] [] MC Q := by
                      intro n118
                      induction n118 with
                      | zero =>
                        intro o zl4 MC iC fC nC hm118
                        exfalso
                        omega
                      | succ n118 ih118 =>
                        intro o zl4 MC iC fC nC hm118
                        refine fs_r_icmp (a := o) (y := 6) (L1 := [some (.inr (.ref 124)), some (.inl x), some (.inl y), some (.inl o), zl4]) (st1 := []) (M1 := MC) (ob := []) rfl rfl trivial (fun (h8 : 6 ≤ o) => ?_) (fun (h8 : ¬ (6 ≤ o)) => ?_)
                        · have eM : MC 125 = mg_row (M 125) x y := by
                            funext q
                            rw [nC q]
                            by_cases z : 64 ≤ q ∧ q < 100 ∧ ¬ (((q - 64) / 6 = x ∧ (q - 64) % 6 < o) ∨ ((q - 64) % 6 = x ∧ (q - 64) / 6 < o))
                            · rw [if_pos z]
                              unfold mg_row
                              rw [if_neg (by omega), if_neg (by omega), if_pos (by omega), if_neg (by omega), if_neg (by omega)]
                            · rw [if_neg z]
                          have e1 : MC 125 1 = M 125 1 := by { rw [eM]; rfl }
                          refine fs_r_call (sta := false) (idx := 249) (as := [.inr (.ref 124), .inl y]) (rest := []) (L1 := [some (.inr (.ref 124)), some (.inl x), some (.inl y), some (.inl o), zl4]) (st1 := [.inl y, .inr (.ref 124)]) (M1 := MC) (ob := []) rfl rfl rfl trivial rfl rfl (Nat.le_of_ble_eq_true rfl) ⟨Or.inr (Nat.le_of_ble_eq_true rfl), Or.inr fs_ob124⟩ (by decide) ?_
                          refine fs_m_goes (by omega) (fun (W : fs_M) (wf : ∀ r, r ≠ 125 → W r = MC r) (wn : W 125 = gs_row (MC 125) y) => ?_)
                          
                          refine fs_r_icmp (a := y) (y := x) (L1 := [some (.inr (.ref 124)), some (.inl x), some (.inl y), some (.inl o), zl4]) (st1 := []) (M1 := W) (ob := []) rfl rfl trivial (fun (h9 : x ≤ y) => ?_) (fun (h9 : ¬ (x ≤ y)) => ?_)
                          · refine fs_r_nop (L1 := [some (.inr (.ref 124)), some (.inl x), some (.inl y), some (.inl o), zl4]) (st1 := [.inl x]) (M1 := W) (ob := []) rfl rfl trivial ?_
                            refine fs_r_iret (a := x) (L1 := [some (.inr (.ref 124)), some (.inl x), some (.inl y), some (.inl o), zl4]) (M1 := W) (ob := []) rfl rfl trivial (Or.inl rfl) ?_
                            refine fs_qi ?_ (hq0 _ (by omega) (mm_act.of r1 (fun r q => by rw [wf r q]; exact fC r q) (by rw [wn, eM])))
                            first
                              | (rw [if_pos (by omega)]; done)
                              | (rw [if_neg (by omega)])
                          refine fs_r_goto (L1 := [some (.inr (.ref 124)), some (.inl x), some (.inl y), some (.inl o), zl4]) (st1 := [.inl (x - 1)]) (M1 := W) (ob := [fs_rg (x - 1)]) rfl rfl (fs_oc ⟨by omega, by omega⟩ trivial) ?_
                          refine fs_r_iret (a := (x - 1)) (L1 := [some (.inr (.ref 124)), some (.inl x), some (.inl y), some (.inl o), zl4]) (M1 := W) (ob := []) rfl rfl trivial (Or.inl rfl) ?_
                          refine fs_qi ?_ (hq0 _ (by omega) (mm_act.of r1 (fun r q => by rw [wf r q]; exact fC r q) (by rw [wn, eM])))
                          first
                            | (rw [if_pos (by omega)]; done)
                            | (rw [if_neg (by omega)])
                        have join139 : ∀ (b : Int), (b = if o ≠ x ∧ o ≠ y then 1 else 0) → fs_W (d + 2) 219 139 [some (.inr (.ref 124)), some (.inl x), some (.inl y), some (.inl o), zl4] [.inl b] MC Q := by
                          intro b b0
                          have join182 : ∀ (v1 : Int), (v1 = mg_row (M 125) x y (64 + 6 * x + o)) → fs_W (d + 2) 219 182 [some (.inr (.ref 124)), some (.inl x), some (.inl y), some (.inl o), some (.inl b)] [.inl v1, .inl ((64 + (6 * x)) + o), .inr (.ref 125)] MC Q := by
                            intro v1 v10
                            have join224 : ∀ (v2 : Int), (v2 = mg_row (M 125) x y (64 + 6 * o + x)) → fs_W (d + 2) 219 224 [some (.inr (.ref 124)), some (.inl x), some (.inl y), some (.inl o), some (.inl b)] [.inl v2, .inl ((64 + (6 * o)) + x), .inr (.ref 125)] (fs_up MC 125 ((64 + (6 * x)) + o) v1) Q := by
                              intro v2 v20
                              refine fs_r_goto (L1 := [some (.inr (.ref 124)), some (.inl x), some (.inl y), some (.inl (o + 1)), some (.inl b)]) (st1 := []) (M1 := (fs_up (fs_up MC 125 ((64 + (6 * x)) + o) v1) 125 ((64 + (6 * o)) + x) v2)) (ob := [(125 < fs_N ∧ fs_kd 125 = 100) ∧ (0 : Int) ≤ ((64 + (6 * o)) + x) ∧ ((64 + (6 * o)) + x) < fs_ln 125, fs_rg (o + 1)]) rfl rfl (fs_oc (fs_ar125 (by omega) (by omega)) (fs_oc ⟨by omega, by omega⟩ trivial)) ?_
                              exact ih118 ((o + 1)) (some (.inl b)) (fs_up (fs_up MC 125 ((64 + (6 * x)) + o) v1) 125 ((64 + (6 * o)) + x) v2) (by omega) (fun r q => by rw [fs_up_other q, fs_up_other q]; exact fC r q) (fun q => by
                                     rw [fs_up_at, fs_up_at]
                                     by_cases z2 : q = 64 + 6 * o + x
                                     · rw [if_pos z2, if_neg (by omega), z2, v20]
                                     · rw [if_neg z2]
                                       by_cases z1 : q = 64 + 6 * x + o
                                       · rw [if_pos z1, if_neg (by omega), z1, v10]
                                       · rw [if_neg z1, nC q]
                                         by_cases w : 64 ≤ q ∧ q < 100 ∧ ¬ (((q - 64) / 6 = x ∧ (q - 64) % 6 < o) ∨ ((q - 64) % 6 = x ∧ (q - 64) / 6 < o))
                                         · rw [if_pos w, if_pos (by omega)]
                                         · rw [if_neg w, if_neg (by omega)]) (by omega)
                            refine fs_r_if (a := b) (L1 := [some (.inr (.ref 124)), some (.inl x), some (.inl y), some (.inl o), some (.inl b)]) (st1 := [.inl ((64 + (6 * o)) + x), .inr (.ref 125)]) (M1 := (fs_up MC 125 ((64 + (6 * x)) + o) v1)) (ob := [(125 < fs_N ∧ fs_kd 125 = 100) ∧ (0 : Int) ≤ ((64 + (6 * x)) + o) ∧ ((64 + (6 * x)) + o) < fs_ln 125, 124 < fs_N ∧ fs_kd 124 = 6, fs_rg (6 * o), fs_rg (64 + (6 * o)), fs_rg ((64 + (6 * o)) + x)]) rfl (fs_exA 6 (o1 := [(125 < fs_N ∧ fs_kd 125 = 100) ∧ (0 : Int) ≤ ((64 + (6 * x)) + o) ∧ ((64 + (6 * x)) + o) < fs_ln 125, 124 < fs_N ∧ fs_kd 124 = 6]) (L1 := [some (.inr (.ref 124)), some (.inl x), some (.inl y), some (.inl o), some (.inl b)]) (st1 := [.inl o, .inl 6, .inl 64, .inr (.ref 125)]) (M1 := (fs_up MC 125 ((64 + (6 * x)) + o) v1)) (o2 := [fs_rg (6 * o), fs_rg (64 + (6 * o)), fs_rg ((64 + (6 * o)) + x)]) rfl rfl) (fs_oc (fs_ar125 (by omega) (by omega)) (fs_oc fs_ob124 (fs_oc ⟨by omega, by omega⟩ (fs_oc ⟨by omega, by omega⟩ (fs_oc ⟨by omega, by omega⟩ trivial))))) (fun (h10 : b = 0) => ?_) (fun (h10 : ¬ (b = 0)) => ?_)
                            · refine fs_r_nop (L1 := [some (.inr (.ref 124)), some (.inl x), some (.inl y), some (.inl o), some (.inl b)]) (st1 := [.inl 0, .inl ((64 + (6 * o)) + x), .inr (.ref 125)]) (M1 := (fs_up MC 125 ((64 + (6 * x)) + o) v1)) (ob := []) rfl rfl trivial ?_
                              exact join224 (0) (by
                                    unfold mg_row
                                    rw [if_neg (by omega), if_neg (by omega), if_pos (by omega), show (64 + 6 * o + x - 64) % 6 = x by omega, show (64 + 6 * o + x - 64) / 6 = o by omega]
                                    split at b0
                                    · next bo =>
                                      first
                                        | (exfalso; omega)
                                        | (rw [if_neg (by omega), if_pos rfl, if_neg (by omega), rx2, ry2])
                                    · next bo =>
                                      first
                                        | (exfalso; omega)
                                        | (by_cases z : o = x
                                           · rw [if_pos z, if_pos (Or.inl rfl)]
                                           · rw [if_neg z, if_pos rfl, if_pos (by omega)]))
                            have bo : o ≠ x ∧ o ≠ y := by { split at b0; assumption; omega }
                            have rx := nC (64 + 6 * o + x)
                            have ry := nC (64 + 6 * o + y)
                            rw [if_pos (by omega)] at rx
                            rw [if_pos (by omega)] at ry
                            have bx := hln o x (by omega) (by omega) (by omega) (by omega)
                            have by_ := hln o y (by omega) (by omega) (by omega) (by omega)
                            have rx2 : fs_up MC 125 (64 + 6 * x + o) v1 125 (64 + 6 * o + x) = M 125 (64 + 6 * o + x) := by { rw [fs_up_at, if_neg (by omega)]; exact rx }
                            have ry2 : fs_up MC 125 (64 + 6 * x + o) v1 125 (64 + 6 * o + y) = M 125 (64 + 6 * o + y) := by { rw [fs_up_at, if_neg (by omega)]; exact ry }
                            refine fs_r_call (sta := false) (idx := 181) (as := [.inr (.ref 124), .inl o, .inl x]) (rest := [.inl ((64 + (6 * o)) + x), .inr (.ref 125)]) (L1 := [some (.inr (.ref 124)), some (.inl x), some (.inl y), some (.inl o), some (.inl b)]) (st1 := [.inl x, .inl o, .inr (.ref 124), .inl ((64 + (6 * o)) + x), .inr (.ref 125)]) (M1 := (fs_up MC 125 ((64 + (6 * x)) + o) v1)) (ob := []) rfl rfl rfl trivial rfl rfl (Nat.le_of_ble_eq_true rfl) ⟨Or.inr (Nat.le_of_ble_eq_true rfl), Or.inr fs_ob124⟩ (by decide) ?_
                            refine fs_m_loanOf (by omega) (by omega) ?_
                            refine fs_r_call (sta := false) (idx := 181) (as := [.inr (.ref 124), .inl o, .inl y]) (rest := [.inl ((fs_up MC 125 ((64 + (6 * x)) + o) v1) 125 (64 + 6 * o + x)), .inl ((64 + (6 * o)) + x), .inr (.ref 125)]) (L1 := [some (.inr (.ref 124)), some (.inl x), some (.inl y), some (.inl o), some (.inl b)]) (st1 := [.inl y, .inl o, .inr (.ref 124), .inl ((fs_up MC 125 ((64 + (6 * x)) + o) v1) 125 (64 + 6 * o + x)), .inl ((64 + (6 * o)) + x), .inr (.ref 125)]) (M1 := (fs_up MC 125 ((64 + (6 * x)) + o) v1)) (ob := []) rfl rfl rfl trivial rfl rfl (Nat.le_of_ble_eq_true rfl) ⟨Or.inr (Nat.le_of_ble_eq_true rfl), Or.inr fs_ob124⟩ (by decide) ?_
                            refine fs_m_loanOf (by omega) (by omega) ?_
                            refine fs_r_call (sta := true) (idx := 246) (as := [.inl (((fs_up MC 125 ((64 + (6 * x)) + o) v1) 125 (64 + 6 * o + x)) + ((fs_up MC 125 ((64 + (6 * x)) + o) v1) 125 (64 + 6 * o + y))), .inl 999]) (rest := [.inl ((64 + (6 * o)) + x), .inr (.ref 125)]) (L1 := [some (.inr (.ref 124)), some (.inl x), some (.inl y), some (.inl o), some (.inl b)]) (st1 := [.inl 999, .inl (((fs_up MC 125 ((64 + (6 * x)) + o) v1) 125 (64 + 6 * o + x)) + ((fs_up MC 125 ((64 + (6 * x)) + o) v1) 125 (64 + 6 * o + y))), .inl ((64 + (6 * o)) + x), .inr (.ref 125)]) (M1 := (fs_up MC 125 ((64 + (6 * x)) + o) v1)) (ob := [fs_rg (((fs_up MC 125 ((64 + (6 * x)) + o) v1) 125 (64 + 6 * o + x)) + ((fs_up MC 125 ((64 + (6 * x)) + o) v1) 125 (64 + 6 * o + y)))]) rfl rfl rfl (fs_oc ⟨by omega, by omega⟩ trivial) rfl rfl (Nat.le_of_ble_eq_true rfl) ⟨Or.inr (Nat.le_of_ble_eq_true rfl), trivial⟩ (by decide) ?_
                            refine fs_m_least2 ?_
                            refine fs_r_goto (L1 := [some (.inr (.ref 124)), some (.inl x), some (.inl y), some (.inl o), some (.inl b)]) (st1 := [.inl (min (((fs_up MC 125 ((64 + (6 * x)) + o) v1) 125 (64 + 6 * o + x)) + ((fs_up MC 125 ((64 + (6 * x)) + o) v1) 125 (64 + 6 * o + y))) 999), .inl ((64 + (6 * o)) + x), .inr (.ref 125)]) (M1 := (fs_up MC 125 ((64 + (6 * x)) + o) v1)) (ob := []) rfl rfl trivial ?_
                            exact join224 ((min (((fs_up MC 125 ((64 + (6 * x)) + o) v1) 125 (64 + 6 * o + x)) + ((fs_up MC 125 ((64 + (6 * x)) + o) v1) 125 (64 + 6 * o + y))) 999)) (by
                                  unfold mg_row
                                  rw [if_neg (by omega), if_neg (by omega), if_pos (by omega), show (64 + 6 * o + x - 64) % 6 = x by omega, show (64 + 6 * o + x - 64) / 6 = o by omega]
                                  split at b0
                                  · next bo =>
                                    first
                                      | (exfalso; omega)
                                      | (rw [if_neg (by omega), if_pos rfl, if_neg (by omega), rx2, ry2])
                                  · next bo =>
                                    first
                                      | (exfalso; omega)
                                      | (by_cases z : o = x
                                         · rw [if_pos z, if_pos (Or.inl rfl)]
                                         · rw [if_neg z, if_pos rfl, if_pos (by omega)]))
                          refine fs_r_if (a := b) (L1 := [some (.inr (.ref 124)), some (.inl x), some (.inl y), some (.inl o), some (.inl b)]) (st1 := [.inl ((64 + (6 * x)) + o), .inr (.ref 125)]) (M1 := MC) (ob := [4 < 5, 124 < fs_N ∧ fs_kd 124 = 6, fs_rg (6 * x), fs_rg (64 + (6 * x)), fs_rg ((64 + (6 * x)) + o)]) rfl (fs_exA 6 (o1 := [4 < 5, 124 < fs_N ∧ fs_kd 124 = 6]) (L1 := [some (.inr (.ref 124)), some (.inl x), some (.inl y), some (.inl o), some (.inl b)]) (st1 := [.inl x, .inl 6, .inl 64, .inr (.ref 125)]) (M1 := MC) (o2 := [fs_rg (6 * x), fs_rg (64 + (6 * x)), fs_rg ((64 + (6 * x)) + o)]) rfl rfl) (fs_oc (by decide) (fs_oc fs_ob124 (fs_oc ⟨by omega, by omega⟩ (fs_oc ⟨by omega, by omega⟩ (fs_oc ⟨by omega, by omega⟩ trivial))))) (fun (h11 : b = 0) => ?_) (fun (h11 : ¬ (b = 0)) => ?_)
                          · refine fs_r_nop (L1 := [some (.inr (.ref 124)), some (.inl x), some (.inl y), some (.inl o), some (.inl b)]) (st1 := [.inl 0, .inl ((64 + (6 * x)) + o), .inr (.ref 125)]) (M1 := MC) (ob := []) rfl rfl trivial ?_
                            exact join182 (0) (by
                                  unfold mg_row
                                  rw [if_neg (by omega), if_neg (by omega), if_pos (by omega), if_pos (by omega), show (64 + 6 * x + o - 64) % 6 = o by omega]
                                  split at b0
                                  · next bo =>
                                    first
                                      | (exfalso; omega)
                                      | (rw [if_neg (by omega), rx, ry])
                                  · next bo =>
                                    first
                                      | (exfalso; omega)
                                      | (rw [if_pos (by omega)]))
                          have bo : o ≠ x ∧ o ≠ y := by { split at b0; assumption; omega }
                          have rx := nC (64 + 6 * x + o)
                          have ry := nC (64 + 6 * y + o)
                          rw [if_pos (by omega)] at rx
                          rw [if_pos (by omega)] at ry
                          have bx := hln x o (by omega) (by omega) (by omega) (by omega)
                          have by_ := hln y o (by omega) (by omega) (by omega) (by omega)
                          refine fs_r_call (sta := false) (idx := 181) (as := [.inr (.ref 124), .inl x, .inl o]) (rest := [.inl ((64 + (6 * x)) + o), .inr (.ref 125)]) (L1 := [some (.inr (.ref 124)), some (.inl x), some (.inl y), some (.inl o), some (.inl b)]) (st1 := [.inl o, .inl x, .inr (.ref 124), .inl ((64 + (6 * x)) + o), .inr (.ref 125)]) (M1 := MC) (ob := []) rfl rfl rfl trivial rfl rfl (Nat.le_of_ble_eq_true rfl) ⟨Or.inr (Nat.le_of_ble_eq_true rfl), Or.inr fs_ob124⟩ (by decide) ?_
                          refine fs_m_loanOf (by omega) (by omega) ?_
                          refine fs_r_call (sta := false) (idx := 181) (as := [.inr (.ref 124), .inl y, .inl o]) (rest := [.inl (MC 125 (64 + 6 * x + o)), .inl ((64 + (6 * x)) + o), .inr (.ref 125)]) (L1 := [some (.inr (.ref 124)), some (.inl x), some (.inl y), some (.inl o), some (.inl b)]) (st1 := [.inl o, .inl y, .inr (.ref 124), .inl (MC 125 (64 + 6 * x + o)), .inl ((64 + (6 * x)) + o), .inr (.ref 125)]) (M1 := MC) (ob := []) rfl rfl rfl trivial rfl rfl (Nat.le_of_ble_eq_true rfl) ⟨Or.inr (Nat.le_of_ble_eq_true rfl), Or.inr fs_ob124⟩ (by decide) ?_
                          refine fs_m_loanOf (by omega) (by omega) ?_
                          refine fs_r_call (sta := true) (idx := 246) (as := [.inl ((MC 125 (64 + 6 * x + o)) + (MC 125 (64 + 6 * y + o))), .inl 999]) (rest := [.inl ((64 + (6 * x)) + o), .inr (.ref 125)]) (L1 := [some (.inr (.ref 124)), some (.inl x), some (.inl y), some (.inl o), some (.inl b)]) (st1 := [.inl 999, .inl ((MC 125 (64 + 6 * x + o)) + (MC 125 (64 + 6 * y + o))), .inl ((64 + (6 * x)) + o), .inr (.ref 125)]) (M1 := MC) (ob := [fs_rg ((MC 125 (64 + 6 * x + o)) + (MC 125 (64 + 6 * y + o)))]) rfl rfl rfl (fs_oc ⟨by omega, by omega⟩ trivial) rfl rfl (Nat.le_of_ble_eq_true rfl) ⟨Or.inr (Nat.le_of_ble_eq_true rfl), trivial⟩ (by decide) ?_
                          refine fs_m_least2 ?_
                          refine fs_r_goto (L1 := [some (.inr (.ref 124)), some (.inl x), some (.inl y), some (.inl o), some (.inl b)]) (st1 := [.inl (min ((MC 125 (64 + 6 * x + o)) + (MC 125 (64 + 6 * y + o))) 999), .inl ((64 + (6 * x)) + o), .inr (.ref 125)]) (M1 := MC) (ob := []) rfl rfl trivial ?_
                          exact join182 ((min ((MC 125 (64 + 6 * x + o)) + (MC 125 (64 + 6 * y + o))) 999)) (by
                                unfold mg_row
                                rw [if_neg (by omega), if_neg (by omega), if_pos (by omega), if_pos (by omega), show (64 + 6 * x + o - 64) % 6 = o by omega]
                                split at b0
                                · next bo =>
                                  first
                                    | (exfalso; omega)
                                    | (rw [if_neg (by omega), rx, ry])
                                · next bo =>
                                  first
                                    | (exfalso; omega)
                                    | (rw [if_pos (by omega)]))
                        refine fs_r_icmp (a := o) (y := x) (L1 := [some (.inr (.ref 124)), some (.inl x), some (.inl y), some (.inl o), zl4]) (st1 := []) (M1 := MC) (ob := []) rfl rfl trivial (fun (h12 : o = x) => ?_) (fun (h12 : ¬ (o = x)) => ?_)
                        · refine fs_r_nop (L1 := [some (.inr (.ref 124)), some (.inl x), some (.inl y), some (.inl o), zl4]) (st1 := [.inl 0]) (M1 := MC) (ob := []) rfl rfl trivial ?_
                          exact join139 (0) (by first | (rw [if_pos (by omega)]; done) | (rw [if_neg (by omega)]))
                        refine fs_r_icmp (a := o) (y := y) (L1 := [some (.inr (.ref 124)), some (.inl x), some (.inl y), some (.inl o), zl4]) (st1 := []) (M1 := MC) (ob := []) rfl rfl trivial (fun (h13 : o = y) => ?_) (fun (h13 : ¬ (o = y)) => ?_)
                        · refine fs_r_nop (L1 := [some (.inr (.ref 124)), some (.inl x), some (.inl y), some (.inl o), zl4]) (st1 := [.inl 0]) (M1 := MC) (ob := []) rfl rfl trivial ?_
                          exact join139 (0) (by first | (rw [if_pos (by omega)]; done) | (rw [if_neg (by omega)]))
                        refine fs_r_goto (L1 := [some (.inr (.ref 124)), some (.inl x), some (.inl y), some (.inl o), zl4]) (st1 := [.inl 1]) (M1 := MC) (ob := []) rfl rfl trivial ?_
                        exact join139 (1) (by first | (rw [if_pos (by omega)]; done) | (rw [if_neg (by omega)]))
                    exact loop118 (((6 - (0)) : Int) + 1).toNat (0) (zl4) MB (by omega) (fB) (fun q => by
                           rw [nB q, show a = 4 by omega]
                           by_cases z : 64 ≤ q ∧ q < 100
                           · rw [if_neg (by omega), if_neg (by omega), if_pos (by omega)]
                           · rw [if_neg (show ¬ (64 ≤ q ∧ q < 100 ∧ _) from fun w => z ⟨w.1, w.2.1⟩)]
                             unfold mg_row
                             by_cases y1 : 10 ≤ q ∧ q < 40
                             · rw [if_pos y1, if_neg (by omega)]
                             · rw [if_neg y1]
                               by_cases y2 : 40 ≤ q ∧ q < 64
                               · rw [if_pos y2]
                                 by_cases y3 : 40 + 4 * x ≤ q ∧ q < 40 + 4 * x + 4
                                 · rw [if_pos y3, if_pos y3]
                                 · rw [if_neg y3, if_neg y3, if_neg (by omega)]
                               · rw [if_neg y2, if_neg z, if_neg (by omega), if_neg (by omega)]) (by omega)
                  have rx := nB (40 + 4 * x + a)
                  have ry := nB (40 + 4 * y + a)
                  rw [if_neg (by omega), if_neg (by omega)] at rx
                  rw [if_neg (by omega), if_neg (by omega)] at ry
                  have bx := hhd x a (by omega) (by omega) (by omega) (by omega)
                  have by_ := hhd y a (by omega) (by omega) (by omega) (by omega)
                  refine fs_r_call (sta := false) (idx := 72) (as := [.inr (.ref 124), .inl x, .inl a]) (rest := [.inl ((40 + (4 * x)) + a), .inr (.ref 125)]) (L1 := [some (.inr (.ref 124)), some (.inl x), some (.inl y), some (.inl a), zl4]) (st1 := [.inl a, .inl x, .inr (.ref 124), .inl ((40 + (4 * x)) + a), .inr (.ref 125)]) (M1 := MB) (ob := [124 < fs_N ∧ fs_kd 124 = 6, fs_rg (4 * x), fs_rg (40 + (4 * x)), fs_rg ((40 + (4 * x)) + a)]) rfl rfl (fs_exA 6 (o1 := [124 < fs_N ∧ fs_kd 124 = 6, fs_rg (4 * x)]) (L1 := [some (.inr (.ref 124)), some (.inl x), some (.inl y), some (.inl a), zl4]) (st1 := [.inl (4 * x), .inl 40, .inr (.ref 125)]) (M1 := MB) (o2 := [fs_rg (40 + (4 * x)), fs_rg ((40 + (4 * x)) + a)]) rfl rfl) (fs_oc fs_ob124 (fs_oc ⟨by omega, by omega⟩ (fs_oc ⟨by omega, by omega⟩ (fs_oc ⟨by omega, by omega⟩ trivial)))) rfl rfl (Nat.le_of_ble_eq_true rfl) ⟨Or.inr (Nat.le_of_ble_eq_true rfl), Or.inr fs_ob124⟩ (by decide) ?_
                  refine fs_m_holds (by omega) (by omega) ?_
                  refine fs_r_call (sta := false) (idx := 72) (as := [.inr (.ref 124), .inl y, .inl a]) (rest := [.inl (MB 125 (40 + 4 * x + a)), .inl ((40 + (4 * x)) + a), .inr (.ref 125)]) (L1 := [some (.inr (.ref 124)), some (.inl x), some (.inl y), some (.inl a), zl4]) (st1 := [.inl a, .inl y, .inr (.ref 124), .inl (MB 125 (40 + 4 * x + a)), .inl ((40 + (4 * x)) + a), .inr (.ref 125)]) (M1 := MB) (ob := []) rfl rfl rfl trivial rfl rfl (Nat.le_of_ble_eq_true rfl) ⟨Or.inr (Nat.le_of_ble_eq_true rfl), Or.inr fs_ob124⟩ (by decide) ?_
                  refine fs_m_holds (by omega) (by omega) ?_
                  refine fs_r_call (sta := true) (idx := 246) (as := [.inl ((MB 125 (40 + 4 * x + a)) + (MB 125 (40 + 4 * y + a))), .inl 60]) (rest := [.inl ((40 + (4 * x)) + a), .inr (.ref 125)]) (L1 := [some (.inr (.ref 124)), some (.inl x), some (.inl y), some (.inl a), zl4]) (st1 := [.inl 60, .inl ((MB 125 (40 + 4 * x + a)) + (MB 125 (40 + 4 * y + a))), .inl ((40 + (4 * x)) + a), .inr (.ref 125)]) (M1 := MB) (ob := [fs_rg ((MB 125 (40 + 4 * x + a)) + (MB 125 (40 + 4 * y + a)))]) rfl rfl rfl (fs_oc ⟨by omega, by omega⟩ trivial) rfl rfl (Nat.le_of_ble_eq_true rfl) ⟨Or.inr (Nat.le_of_ble_eq_true rfl), trivial⟩ (by decide) ?_
                  refine fs_m_least2 ?_
                  refine fs_r_goto (L1 := [some (.inr (.ref 124)), some (.inl x), some (.inl y), some (.inl (a + 1)), zl4]) (st1 := []) (M1 := (fs_up MB 125 ((40 + (4 * x)) + a) (min ((MB 125 (40 + 4 * x + a)) + (MB 125 (40 + 4 * y + a))) 60))) (ob := [(125 < fs_N ∧ fs_kd 125 = 100) ∧ (0 : Int) ≤ ((40 + (4 * x)) + a) ∧ ((40 + (4 * x)) + a) < fs_ln 125, fs_rg (a + 1)]) rfl rfl (fs_oc (fs_ar125 (by omega) (by omega)) (fs_oc ⟨by omega, by omega⟩ trivial)) ?_
                  exact ih74 ((a + 1)) (zl4) (fs_up MB 125 ((40 + (4 * x)) + a) (min ((MB 125 (40 + 4 * x + a)) + (MB 125 (40 + 4 * y + a))) 60)) (by omega) (fun r q => by rw [fs_up_other q]; exact fB r q) (fun q => by
                         rw [fs_up_at]
                         by_cases z : q = 40 + 4 * x + a
                         · rw [if_pos z, if_pos (by omega), rx, ry, z, show 40 + 4 * x + a + 4 * (y - x) = 40 + 4 * y + a by omega]
                         · rw [if_neg z, nB q]
                           by_cases w : 40 + 4 * x ≤ q ∧ q < 40 + 4 * x + a
                           · rw [if_pos w, if_pos (by omega)]
                           · rw [if_neg w, if_neg (show ¬ (40 + 4 * x ≤ q ∧ q < 40 + 4 * x + (a + 1)) by omega)]) (by omega)
              exact loop74 (((4 - (0)) : Int) + 1).toNat (0) (zl4) MA (by omega) (fA) (fun q => by rw [nA q, if_neg (by omega : ¬ (40 + 4 * x ≤ q ∧ q < 40 + 4 * x + 0)), show k = 3 by omega]) (by omega)
            have rx := nA (10 + 5 * x + k)
            have ry := nA (10 + 5 * y + k)
            rw [if_neg (by omega)] at rx
            rw [if_neg (by omega)] at ry
            have bx := hfc x k (by omega) (by omega) (by omega) (by omega)
            have by_ := hfc y k (by omega) (by omega) (by omega) (by omega)
            refine fs_r_call (sta := false) (idx := 175) (as := [.inr (.ref 124), .inl x, .inl k]) (rest := [.inl ((10 + (5 * x)) + k), .inr (.ref 125)]) (L1 := [some (.inr (.ref 124)), some (.inl x), some (.inl y), some (.inl k), zl4]) (st1 := [.inl k, .inl x, .inr (.ref 124), .inl ((10 + (5 * x)) + k), .inr (.ref 125)]) (M1 := MA) (ob := [124 < fs_N ∧ fs_kd 124 = 6, fs_rg (5 * x), fs_rg (10 + (5 * x)), fs_rg ((10 + (5 * x)) + k)]) rfl rfl (fs_exA 6 (o1 := [124 < fs_N ∧ fs_kd 124 = 6, fs_rg (5 * x)]) (L1 := [some (.inr (.ref 124)), some (.inl x), some (.inl y), some (.inl k), zl4]) (st1 := [.inl (5 * x), .inl 10, .inr (.ref 125)]) (M1 := MA) (o2 := [fs_rg (10 + (5 * x)), fs_rg ((10 + (5 * x)) + k)]) rfl rfl) (fs_oc fs_ob124 (fs_oc ⟨by omega, by omega⟩ (fs_oc ⟨by omega, by omega⟩ (fs_oc ⟨by omega, by omega⟩ trivial)))) rfl rfl (Nat.le_of_ble_eq_true rfl) ⟨Or.inr (Nat.le_of_ble_eq_true rfl), Or.inr fs_ob124⟩ (by decide) ?_
            refine fs_m_houseOf (by omega) (by omega) ?_
            refine fs_r_call (sta := false) (idx := 175) (as := [.inr (.ref 124), .inl y, .inl k]) (rest := [.inl (MA 125 (10 + 5 * x + k)), .inl ((10 + (5 * x)) + k), .inr (.ref 125)]) (L1 := [some (.inr (.ref 124)), some (.inl x), some (.inl y), some (.inl k), zl4]) (st1 := [.inl k, .inl y, .inr (.ref 124), .inl (MA 125 (10 + 5 * x + k)), .inl ((10 + (5 * x)) + k), .inr (.ref 125)]) (M1 := MA) (ob := []) rfl rfl rfl trivial rfl rfl (Nat.le_of_ble_eq_true rfl) ⟨Or.inr (Nat.le_of_ble_eq_true rfl), Or.inr fs_ob124⟩ (by decide) ?_
            refine fs_m_houseOf (by omega) (by omega) ?_
            refine fs_r_call (sta := true) (idx := 246) (as := [.inl ((MA 125 (10 + 5 * x + k)) + (MA 125 (10 + 5 * y + k))), .inl 9999]) (rest := [.inl ((10 + (5 * x)) + k), .inr (.ref 125)]) (L1 := [some (.inr (.ref 124)), some (.inl x), some (.inl y), some (.inl k), zl4]) (st1 := [.inl 9999, .inl ((MA 125 (10 + 5 * x + k)) + (MA 125 (10 + 5 * y + k))), .inl ((10 + (5 * x)) + k), .inr (.ref 125)]) (M1 := MA) (ob := [fs_rg ((MA 125 (10 + 5 * x + k)) + (MA 125 (10 + 5 * y + k)))]) rfl rfl rfl (fs_oc ⟨by omega, by omega⟩ trivial) rfl rfl (Nat.le_of_ble_eq_true rfl) ⟨Or.inr (Nat.le_of_ble_eq_true rfl), trivial⟩ (by decide) ?_
            refine fs_m_least2 ?_
            refine fs_r_goto (L1 := [some (.inr (.ref 124)), some (.inl x), some (.inl y), some (.inl (k + 1)), zl4]) (st1 := []) (M1 := (fs_up MA 125 ((10 + (5 * x)) + k) (min ((MA 125 (10 + 5 * x + k)) + (MA 125 (10 + 5 * y + k))) 9999))) (ob := [(125 < fs_N ∧ fs_kd 125 = 100) ∧ (0 : Int) ≤ ((10 + (5 * x)) + k) ∧ ((10 + (5 * x)) + k) < fs_ln 125, fs_rg (k + 1)]) rfl rfl (fs_oc (fs_ar125 (by omega) (by omega)) (fs_oc ⟨by omega, by omega⟩ trivial)) ?_
            exact ih29 ((k + 1)) (zl4) (fs_up MA 125 ((10 + (5 * x)) + k) (min ((MA 125 (10 + 5 * x + k)) + (MA 125 (10 + 5 * y + k))) 9999)) (by omega) (fun r q => by rw [fs_up_other q]; exact fA r q) (fun q => by
                   rw [fs_up_at]
                   by_cases z : q = 10 + 5 * x + k
                   · rw [if_pos z, if_pos (by omega), rx, ry, z, show 10 + 5 * x + k + 5 * (y - x) = 10 + 5 * y + k by omega]
                   · rw [if_neg z, nA q]
                     by_cases w : 10 + 5 * x ≤ q ∧ q < 10 + 5 * x + k
                     · rw [if_pos w, if_pos (by omega)]
                     · rw [if_neg w, if_neg (by omega)]) (by omega)
        exact loop29 (((3 - (0)) : Int) + 1).toNat (0) (none) V1 (by omega) (fun r _ => rfl) (fun q => by rw [n1, if_neg (by omega)]) (by omega)
      refine fs_r_iret (a := (-1)) (L1 := [some (.inr (.ref 124)), some (.inl x), some (.inl y), none, none]) (M1 := M) (ob := []) rfl rfl trivial (Or.inl rfl) ?_
      exact hq1 (by omega)
    refine fs_r_if (a := 0) (L1 := [some (.inr (.ref 124)), some (.inl x), some (.inl y), none, none]) (st1 := []) (M1 := M) (ob := []) rfl rfl trivial (fun _ => ?_) (fun h => absurd (by decide : (0 : Int) = 0) h)
    refine fs_r_iret (a := (-1)) (L1 := [some (.inr (.ref 124)), some (.inl x), some (.inl y), none, none]) (M1 := M) (ob := []) rfl rfl trivial (Or.inl rfl) ?_
    exact hq1 (by omega)
  refine fs_r_if (a := 0) (L1 := [some (.inr (.ref 124)), some (.inl x), some (.inl y), none, none]) (st1 := []) (M1 := M) (ob := []) rfl rfl trivial (fun _ => ?_) (fun h => absurd (by decide : (0 : Int) = 0) h)
  refine fs_r_iret (a := (-1)) (L1 := [some (.inr (.ref 124)), some (.inl x), some (.inl y), none, none]) (M1 := M) (ob := []) rfl rfl trivial (Or.inl rfl) ?_
  exact hq1 (by omega)
