theorem fs_m_text {d : Nat} {M : fs_M} {Q : Option fs_V → fs_M → Prop}   (ht : 0 ≤ M 124 6 ∧ M 124 6 ≤ 800) (hq0 : ∀ (M2 : fs_M), ((tx_T (M 128) (M 124 6)).1 ≠ -1) → (∀ r, r ≠ 124 → r ≠ 125 → r ≠ 126 → M2 r = M r) → (∀ i, (i < 6 ∨ 12 < i) → M2 124 i = M 124 i) → (M2 124 6 = 0) → (ag (M2 125) (M 125)) → Q (some (.inl ((-4) - (tx_T (M 128) (M 124 6)).1))) M2) (hq1 : ∀ (M2 : fs_M), ((tx_T (M 128) (M 124 6)).1 = -1) → (∀ r, r ≠ 124 → r ≠ 125 → r ≠ 126 → M2 r = M r) → (∀ i, i ≠ 4 → (i < 6 ∨ 12 < i) → M2 124 i = M 124 i) → (M2 124 6 = 0 ∧ M2 124 4 = 0) → (ag (M2 125) (tx_T (M 128) (M 124 6)).2) → Q (some (.inl ((tx_T (M 128) (M 124 6)).2 1))) M2) : fs_W (d + 6) 184 0 [some (.inr (.ref 124)), none] [] M Q := by
  refine fs_r_nop (L1 := [some (.inr (.ref 124)), some (.inl 0)]) (st1 := []) (M1 := (fs_up (fs_up (fs_up (fs_up M 124 7 (M 124 6)) 124 6 0) 124 8 0) 124 12 (-1))) (ob := [124 < fs_N ∧ fs_kd 124 = 6, 124 < fs_N ∧ fs_kd 124 = 6, 124 < fs_N ∧ fs_kd 124 = 6, 124 < fs_N ∧ fs_kd 124 = 6, 124 < fs_N ∧ fs_kd 124 = 6, 1 < 2]) rfl (fs_exA 6 (o1 := [124 < fs_N ∧ fs_kd 124 = 6, 124 < fs_N ∧ fs_kd 124 = 6]) (L1 := [some (.inr (.ref 124)), none]) (st1 := [.inl 0, .inr (.ref 124)]) (M1 := (fs_up M 124 7 (M 124 6))) (o2 := [124 < fs_N ∧ fs_kd 124 = 6, 124 < fs_N ∧ fs_kd 124 = 6, 124 < fs_N ∧ fs_kd 124 = 6, 1 < 2]) rfl (fs_exA 6 (o1 := [124 < fs_N ∧ fs_kd 124 = 6, 124 < fs_N ∧ fs_kd 124 = 6]) (L1 := [some (.inr (.ref 124)), none]) (st1 := [.inl (-1), .inr (.ref 124)]) (M1 := (fs_up (fs_up (fs_up M 124 7 (M 124 6)) 124 6 0) 124 8 0)) (o2 := [124 < fs_N ∧ fs_kd 124 = 6, 1 < 2]) rfl rfl)) (fs_oc fs_ob124 (fs_oc fs_ob124 (fs_oc fs_ob124 (fs_oc fs_ob124 (fs_oc fs_ob124 (fs_oc (by decide) trivial)))))) ?_
  have loop25 : ∀ (n25 : Nat) (k : Int) (A : fs_M), (0 ≤ k ∧ k ≤ 139) → (A 124 7 = M 124 6 ∧ A 124 6 = 0 ∧ A 124 8 = 0 ∧ A 124 12 = -1 ∧ ∀ i, (i < 6 ∨ 12 < i) → A 124 i = M 124 i) → (∀ r, r ≠ 124 → r ≠ 125 → r ≠ 126 → A r = M r) → (∀ j, 0 ≤ j → j < k → A 126 j = M 125 j) → (∀ j, 0 ≤ j → j < k → A 125 j = 0) → (∀ j, k ≤ j → A 125 j = M 125 j) → 139 - k < (n25 : Int) → fs_W (d + 6) 184 25 [some (.inr (.ref 124)), some (.inl k)] [] A Q := by
    intro n25
    induction n25 with
    | zero =>
      intro k A i0 a24 a0 a1 a2 a3 hm25
      exfalso
      omega
    | succ n25 ih25 =>
      intro k A i0 a24 a0 a1 a2 a3 hm25
      have join57 : ∀  (B : fs_M), (B 124 7 = M 124 6 ∧ B 124 6 = 0 ∧ B 124 8 = 0 ∧ B 124 12 = -1 ∧ ∀ i, (i < 6 ∨ 12 < i) → B 124 i = M 124 i) → (∀ r, r ≠ 124 → r ≠ 125 → r ≠ 126 → B r = M r) → (∀ j, 0 ≤ j → j < 139 → B 126 j = M 125 j) → (ag (B 125) (fun _ => 0)) → fs_W (d + 6) 184 57 [some (.inr (.ref 124)), some (.inl k)] [] B Q := by
        intro B b24 b0 b1 b2
        obtain ⟨b7, b6, b8, b12, bi⟩ := b24
        have bT : B 128 = M 128 := b0 128 (by decide) (by decide) (by decide)
        refine fs_r_call (sta := false) (idx := 113) (as := [.inr (.ref 124)]) (rest := []) (L1 := [some (.inr (.ref 124)), some (.inl k)]) (st1 := [.inr (.ref 124)]) (M1 := B) (ob := []) rfl rfl rfl trivial rfl rfl (Nat.le_of_ble_eq_true rfl) ⟨Or.inr (Nat.le_of_ble_eq_true rfl), Or.inr fs_ob124⟩ (by decide) ?_
        refine fs_m_nextToken (by rw [b8, b7]; omega) (fun (C : fs_M) (cs : sk B C) (ct : TS C (B 124 8) (B 124 12)) => ?_)
        rw [b8, b12] at ct
        have cT : C 128 = M 128 := (cs.1 128 (by decide)).trans bT
        have cn : C 124 7 = M 124 6 := (cs.2 7 (by omega)).trans b7
        have cK : TK C 0 := by
          rcases ct with ⟨a, _⟩ | ⟨_, b⟩
          · exact absurd rfl a
          · exact b
        have c12 : C 124 12 = -1 := by
          have w := cK.1
          rw [if_neg (fun g => by have y := g.2.1; omega)] at w
          exact w
        have c5 : C 125 = B 125 := cs.1 125 (by decide)
        have q0 := qB_b (M 128) (M 124 6) 0
        have loop61 : ∀ (n61 : Nat)  (M3 : fs_M) (p : Int) (j : Int), (0 ≤ p ∧ p ≤ M 124 6) → (0 ≤ j) → (∀ r, r ≠ 124 → r ≠ 125 → M3 r = B r) → (∀ i, (i < 8 ∨ 12 < i) → M3 124 i = B 124 i) → (M3 124 12 = -1 → TK M3 p ∧ fs_KP (M3 125) ∧ tx_go (M 128) (M 124 6) j.toNat (M3 125) (qB (M 128) (M 124 6) p) = (tx_go (M 128) (M 124 6) 800 (B 125) (qB (M 128) (M 124 6) 0)) ∧ M 124 6 - qB (M 128) (M 124 6) p ≤ j) → (M3 124 12 ≠ -1 → M3 124 12 = (tx_go (M 128) (M 124 6) 800 (B 125) (qB (M 128) (M 124 6) 0)).1) → j < (n61 : Int) → fs_W (d + 6) 184 61 [some (.inr (.ref 124)), some (.inl k)] [] M3 Q := by
          intro n61
          induction n61 with
          | zero =>
            intro M3 p j q3 j3 f3 g3 v3 w3 hm61
            exfalso
            omega
          | succ n61 ih61 =>
            intro M3 p j q3 j3 f3 g3 v3 w3 hm61
            have T3 : M3 128 = M 128 := (f3 128 (by decide) (by decide)).trans bT
            have n3 : M3 124 7 = M 124 6 := (g3 7 (by omega)).trans b7
            have join83 : ((M3 124 12 = -1 ∧ (tx_go (M 128) (M 124 6) 800 (B 125) (qB (M 128) (M 124 6) 0)) = (-1, M3 125)) ∨ (M3 124 12 ≠ -1 ∧ M3 124 12 = (tx_go (M 128) (M 124 6) 800 (B 125) (qB (M 128) (M 124 6) 0)).1)) → fs_W (d + 6) 184 83 [some (.inr (.ref 124)), some (.inl k)] [] M3 Q := by
              intro  c8
              have ga := tx_go_ag (T := M 128) (n := M 124 6) 800 (B 125) (fun _ => 0) (qB (M 128) (M 124 6) 0) b2
              have tg : tx_go (M 128) (M 124 6) 800 (fun _ => 0) (qB (M 128) (M 124 6) 0) = tx_T (M 128) (M 124 6) := rfl
              rw [tg] at ga
              have mf : ∀ r, r ≠ 124 → r ≠ 125 → r ≠ 126 → M3 r = M r := fun r y1 y2 y3 => (f3 r y1 y2).trans (b0 r y1 y2 y3)
              have m6 : M3 124 6 = 0 := (g3 6 (by omega)).trans b6
              have mg : ∀ i, (i < 6 ∨ 12 < i) → M3 124 i = M 124 i := fun i hi => (g3 i (by omega)).trans (bi i hi)
              have m126 : M3 126 = B 126 := f3 126 (by decide) (by decide)
              refine fs_r_icmp (a := (M3 124 12)) (y := (-1)) (L1 := [some (.inr (.ref 124)), some (.inl k)]) (st1 := []) (M1 := M3) (ob := [124 < fs_N ∧ fs_kd 124 = 6]) rfl rfl (fs_oc fs_ob124 trivial) (fun (h1 : (M3 124 12) = (-1)) => ?_) (fun (h1 : ¬ ((M3 124 12) = (-1))) => ?_)
              · refine fs_r_iret (a := (M3 125 1)) (L1 := [some (.inr (.ref 124)), some (.inl k)]) (M1 := (fs_up M3 124 4 0)) (ob := [124 < fs_N ∧ fs_kd 124 = 6, 124 < fs_N ∧ fs_kd 124 = 6, (125 < fs_N ∧ fs_kd 125 = 100) ∧ (0 : Int) ≤ 1 ∧ 1 < fs_ln 125]) rfl rfl (fs_oc fs_ob124 (fs_oc fs_ob124 (fs_oc (fs_ar125 (by omega) (by omega)) trivial))) (Or.inl rfl) ?_
                rcases c8 with ⟨y1, y2⟩ | ⟨y1, y2⟩
                · rw [y2] at ga
                  refine fs_qi ?_ (hq1 _ ga.1.symm (fun r z1 z2 z3 => by rw [fs_up_other z1]; exact mf r z1 z2 z3) (fun i i4 hi => by rw [fs_up_at, if_neg i4]; exact mg i hi) ⟨by rw [fs_up_at, if_neg (by omega)]; exact m6, by rw [fs_up_at, if_pos rfl]⟩ (by rw [fs_up_other (by decide)]; exact ga.2))
                  first
                    | exact ga.2 1 (by omega) (by omega)
                    | (rw [fs_up_other (by decide)]; exact ga.2 1 (by omega) (by omega))
                · exact absurd (by omega) y1
              refine fs_r_nop (L1 := [some (.inr (.ref 124)), some (.inl 0)]) (st1 := []) (M1 := M3) (ob := [1 < 2]) rfl rfl (fs_oc (by decide) trivial) ?_
              have loop93 : ∀ (n93 : Nat) (k2 : Int) (E : fs_M), (0 ≤ k2 ∧ k2 ≤ 139) → (∀ r, r ≠ 125 → E r = M3 r) → (∀ i, 0 ≤ i → i < k2 → E 125 i = M3 126 i) → 139 - k2 < (n93 : Int) → fs_W (d + 6) 184 93 [some (.inr (.ref 124)), some (.inl k2)] [] E Q := by
                intro n93
                induction n93 with
                | zero =>
                  intro k2 E i9 x0 x1 hm93
                  exfalso
                  omega
                | succ n93 ih93 =>
                  intro k2 E i9 x0 x1 hm93
                  have x24 : E 124 = M3 124 := x0 124 (by decide)
                  have x26 : E 126 = M3 126 := x0 126 (by decide)
                  refine fs_r_icmp (a := k2) (y := 139) (L1 := [some (.inr (.ref 124)), some (.inl k2)]) (st1 := []) (M1 := E) (ob := []) rfl rfl trivial (fun (h2 : 139 ≤ k2) => ?_) (fun (h2 : ¬ (139 ≤ k2)) => ?_)
                  · have tb := (tx_T_ok (T := M 128) (n := M 124 6) ht.1).1
                    have eb : -1 ≤ E 124 12 ∧ E 124 12 ≤ 800 := by
                      rw [x24]
                      rcases c8 with ⟨y1, y2⟩ | ⟨y1, y2⟩
                      · omega
                      · rw [y2, ga.1]
                        omega
                    refine fs_r_iret (a := ((-4) - (E 124 12))) (L1 := [some (.inr (.ref 124)), some (.inl k2)]) (M1 := E) (ob := [124 < fs_N ∧ fs_kd 124 = 6, fs_rg ((-4) - (E 124 12))]) rfl rfl (fs_oc fs_ob124 (fs_oc ⟨by omega, by omega⟩ trivial)) (Or.inl rfl) ?_
                    rcases c8 with ⟨y1, y2⟩ | ⟨y1, y2⟩
                    · exact absurd y1 (by omega)
                    have e12 : E 124 12 = (tx_T (M 128) (M 124 6)).1 := by rw [x24, y2]; exact ga.1
                    refine fs_qi (by rw [e12]) (hq0 _ (by rw [← e12, x24]; exact y1) (fun r z1 z2 z3 => (x0 r z2).trans (mf r z1 z2 z3)) (fun i hi => by rw [x24]; exact mg i hi) (by rw [x24]; exact m6) (fun i i0 i1 => ?_))
                    rw [x1 i i0 (by omega), m126]
                    exact b1 i i0 i1
                  refine fs_r_goto (L1 := [some (.inr (.ref 124)), some (.inl (k2 + 1))]) (st1 := []) (M1 := (fs_up E 125 k2 (E 126 k2))) (ob := [124 < fs_N ∧ fs_kd 124 = 6, 124 < fs_N ∧ fs_kd 124 = 6, (126 < fs_N ∧ fs_kd 126 = 100) ∧ (0 : Int) ≤ k2 ∧ k2 < fs_ln 126, (125 < fs_N ∧ fs_kd 125 = 100) ∧ (0 : Int) ≤ k2 ∧ k2 < fs_ln 125, fs_rg (k2 + 1)]) rfl (fs_exA 6 (o1 := [124 < fs_N ∧ fs_kd 124 = 6, 124 < fs_N ∧ fs_kd 124 = 6]) (L1 := [some (.inr (.ref 124)), some (.inl k2)]) (st1 := [.inl k2, .inr (.ref 126), .inl k2, .inr (.ref 125)]) (M1 := E) (o2 := [(126 < fs_N ∧ fs_kd 126 = 100) ∧ (0 : Int) ≤ k2 ∧ k2 < fs_ln 126, (125 < fs_N ∧ fs_kd 125 = 100) ∧ (0 : Int) ≤ k2 ∧ k2 < fs_ln 125, fs_rg (k2 + 1)]) rfl rfl) (fs_oc fs_ob124 (fs_oc fs_ob124 (fs_oc (fs_ar126 (by omega) (by omega)) (fs_oc (fs_ar125 (by omega) (by omega)) (fs_oc ⟨by omega, by omega⟩ trivial))))) ?_
                  exact ih93 ((k2 + 1)) (fs_up E 125 k2 (E 126 k2)) (by omega) (fun r y => by rw [fs_up_other y]; exact x0 r y) (fun i i0 i1 => by
                     rw [fs_up_at]
                     by_cases z : i = k2
                     · rw [if_pos z, x26, z]
                     · rw [if_neg z]; exact x1 i i0 (by omega)) (by omega)
              exact loop93 (((139 - (0)) : Int) + 1).toNat (0) M3 (by omega) (fun r _ => rfl) (fun i _ _ => by omega) (by omega)
            refine fs_r_icmp (a := (M3 124 12)) (y := (-1)) (L1 := [some (.inr (.ref 124)), some (.inl k)]) (st1 := []) (M1 := M3) (ob := [124 < fs_N ∧ fs_kd 124 = 6]) rfl rfl (fs_oc fs_ob124 trivial) (fun (h3 : ¬ (M3 124 12) = (-1)) => ?_) (fun (h3 : ¬ (¬ (M3 124 12) = (-1))) => ?_)
            · exact join83 (by
                  first
                    | (have z : M3 124 12 ≠ -1 := by omega
                       exact Or.inr ⟨z, w3 z⟩)
                    | (have z : M3 124 12 = -1 := by omega
                       obtain ⟨tk, kp, gg, jj⟩ := v3 z
                       have lt : ¬ qB (M 128) (M 124 6) p < M 124 6 := by
                         have w := tk.2.2
                         rw [T3, n3] at w
                         rcases w with ⟨c, d, e⟩ | ⟨c, d⟩ | ⟨c, d⟩ | ⟨c, d⟩ <;> omega
                       refine Or.inl ⟨z, ?_⟩
                       rw [← gg]
                       cases j.toNat with
                       | zero => rfl
                       | succ m => rw [tx_go, if_neg lt]))
            refine fs_r_if (a := (M3 124 9)) (L1 := [some (.inr (.ref 124)), some (.inl k)]) (st1 := []) (M1 := M3) (ob := [124 < fs_N ∧ fs_kd 124 = 6]) rfl rfl (fs_oc fs_ob124 trivial) (fun (h4 : (M3 124 9) = 0) => ?_) (fun (h4 : ¬ ((M3 124 9) = 0)) => ?_)
            · exact join83 (by
                  first
                    | (have z : M3 124 12 ≠ -1 := by omega
                       exact Or.inr ⟨z, w3 z⟩)
                    | (have z : M3 124 12 = -1 := by omega
                       obtain ⟨tk, kp, gg, jj⟩ := v3 z
                       have lt : ¬ qB (M 128) (M 124 6) p < M 124 6 := by
                         have w := tk.2.2
                         rw [T3, n3] at w
                         rcases w with ⟨c, d, e⟩ | ⟨c, d⟩ | ⟨c, d⟩ | ⟨c, d⟩ <;> omega
                       refine Or.inl ⟨z, ?_⟩
                       rw [← gg]
                       cases j.toNat with
                       | zero => rfl
                       | succ m => rw [tx_go, if_neg lt]))
            have z3 : M3 124 12 = -1 := by omega
            obtain ⟨tk, kp, gg, jj⟩ := v3 z3
            have r10 := tk.2.1
            rw [T3, n3] at r10
            have qb := qB_b (M 128) (M 124 6) p
            have lt : qB (M 128) (M 124 6) p < M 124 6 := by
              have w := tk.2.2
              rw [T3, n3] at w
              rcases w with ⟨c, d⟩ | ⟨c, d, e⟩ | ⟨c, d, e⟩ | ⟨c, d, e⟩
              · omega
              · exact d.1
              · exact d.1
              · exact d
            have gg2 : (if stF (M 128) (M 124 6) (M3 125) (M3 124 10) = -1 then tx_go (M 128) (M 124 6) (j - 1).toNat (stN (M 128) (M 124 6) (M3 125) (M3 124 10)) (qB (M 128) (M 124 6) (stP (M 128) (M 124 6) (M3 125) (M3 124 10))) else (stF (M 128) (M 124 6) (M3 125) (M3 124 10), M3 125)) = (tx_go (M 128) (M 124 6) 800 (B 125) (qB (M 128) (M 124 6) 0)) := by
              rw [← gg, show j.toNat = (j - 1).toNat + 1 by omega, tx_go, if_pos lt, r10]
            have rb : 0 ≤ M3 124 10 ∧ M3 124 10 ≤ M 124 6 := by omega
            refine fs_r_call (sta := false) (idx := 149) (as := [.inr (.ref 124)]) (rest := []) (L1 := [some (.inr (.ref 124)), some (.inl k)]) (st1 := [.inr (.ref 124)]) (M1 := M3) (ob := []) rfl rfl rfl trivial rfl rfl (Nat.le_of_ble_eq_true rfl) ⟨Or.inr (Nat.le_of_ble_eq_true rfl), Or.inr fs_ob124⟩ (by decide) ?_
            refine fs_m_readLine (p := p) (kp.1) (z3) (tk) (by rw [n3]; omega) (by omega) (fun (D : fs_M) (ls : sk5 M3 D) (le : D 124 12 ≠ -1 → (stF (M3 128) (M3 124 7) (M3 125) (M3 124 10)) ≠ -1 ∧ D 124 12 = (stF (M3 128) (M3 124 7) (M3 125) (M3 124 10))) (lk : D 124 12 = -1 → (stF (M3 128) (M3 124 7) (M3 125) (M3 124 10)) = -1 ∧ TK D (stP (M3 128) (M3 124 7) (M3 125) (M3 124 10)) ∧ D 125 = (stN (M3 128) (M3 124 7) (M3 125) (M3 124 10))) => ?_)
            rw [T3, n3] at le lk
            have sok := st_ok (T := M 128) (n := M 124 6) kp rb
            refine fs_r_goto (L1 := [some (.inr (.ref 124)), some (.inl k)]) (st1 := []) (M1 := D) (ob := []) rfl rfl trivial ?_
            exact ih61 D ((if D 124 12 = -1 then stP (M 128) (M 124 6) (M3 125) (M3 124 10) else 0)) ((j - 1)) (by
               by_cases z : D 124 12 = -1
               · rw [if_pos z]
                 have ok := sok (lk z).1
                 omega
               · rw [if_neg z]
                 omega) (by omega) (fun r y1 y2 => (ls.1 r y1 y2).trans (f3 r y1 y2)) (fun i hi => (ls.2 i hi).trans (g3 i hi)) (fun z => by
               rw [if_pos z]
               obtain ⟨y1, y2, y3⟩ := lk z
               have ok := sok y1
               rw [if_pos y1] at gg2
               have q9 := qB_b (M 128) (M 124 6) (stP (M 128) (M 124 6) (M3 125) (M3 124 10))
               refine ⟨y2, by rw [y3]; exact ok.2, by rw [y3]; exact gg2, ?_⟩
               omega) (fun z => by
               have y := le z
               rw [if_neg y.1] at gg2
               rw [← gg2]
               exact y.2) (by omega)
        exact loop61 ((((800)) : Int) + 1).toNat C (0) (800) (by omega) (by omega) (fun r y1 _ => cs.1 r y1) (fun i hi => cs.2 i hi) (fun _ => ⟨cK, by rw [c5]; exact KP_ag (ag.sy b2) KP_zero, by rw [c5]; rfl, by omega⟩) (fun z => absurd c12 z) (by omega)
      refine fs_r_icmp (a := k) (y := 139) (L1 := [some (.inr (.ref 124)), some (.inl k)]) (st1 := []) (M1 := A) (ob := []) rfl rfl trivial (fun (h5 : 139 ≤ k) => ?_) (fun (h5 : ¬ (139 ≤ k)) => ?_)
      · exact join57 A (a24) (a0) (fun j j0 j1 => a1 j j0 (by omega)) (fun j j0 j1 => a2 j j0 (by omega))
      refine fs_r_goto (L1 := [some (.inr (.ref 124)), some (.inl (k + 1))]) (st1 := []) (M1 := (fs_up (fs_up A 126 k (A 125 k)) 125 k 0)) (ob := [124 < fs_N ∧ fs_kd 124 = 6, 124 < fs_N ∧ fs_kd 124 = 6, (125 < fs_N ∧ fs_kd 125 = 100) ∧ (0 : Int) ≤ k ∧ k < fs_ln 125, (126 < fs_N ∧ fs_kd 126 = 100) ∧ (0 : Int) ≤ k ∧ k < fs_ln 126, 124 < fs_N ∧ fs_kd 124 = 6, (125 < fs_N ∧ fs_kd 125 = 100) ∧ (0 : Int) ≤ k ∧ k < fs_ln 125, fs_rg (k + 1)]) rfl (fs_exA 6 (o1 := [124 < fs_N ∧ fs_kd 124 = 6, 124 < fs_N ∧ fs_kd 124 = 6]) (L1 := [some (.inr (.ref 124)), some (.inl k)]) (st1 := [.inl k, .inr (.ref 125), .inl k, .inr (.ref 126)]) (M1 := A) (o2 := [(125 < fs_N ∧ fs_kd 125 = 100) ∧ (0 : Int) ≤ k ∧ k < fs_ln 125, (126 < fs_N ∧ fs_kd 126 = 100) ∧ (0 : Int) ≤ k ∧ k < fs_ln 126, 124 < fs_N ∧ fs_kd 124 = 6, (125 < fs_N ∧ fs_kd 125 = 100) ∧ (0 : Int) ≤ k ∧ k < fs_ln 125, fs_rg (k + 1)]) rfl (fs_exA 6 (o1 := [(125 < fs_N ∧ fs_kd 125 = 100) ∧ (0 : Int) ≤ k ∧ k < fs_ln 125, (126 < fs_N ∧ fs_kd 126 = 100) ∧ (0 : Int) ≤ k ∧ k < fs_ln 126, 124 < fs_N ∧ fs_kd 124 = 6]) (L1 := [some (.inr (.ref 124)), some (.inl k)]) (st1 := [.inl 0, .inl k, .inr (.ref 125)]) (M1 := (fs_up A 126 k (A 125 k))) (o2 := [(125 < fs_N ∧ fs_kd 125 = 100) ∧ (0 : Int) ≤ k ∧ k < fs_ln 125, fs_rg (k + 1)]) rfl rfl)) (fs_oc fs_ob124 (fs_oc fs_ob124 (fs_oc (fs_ar125 (by omega) (by omega)) (fs_oc (fs_ar126 (by omega) (by omega)) (fs_oc fs_ob124 (fs_oc (fs_ar125 (by omega) (by omega)) (fs_oc ⟨by omega, by omega⟩ trivial))))))) ?_
      exact ih25 ((k + 1)) (fs_up (fs_up A 126 k (A 125 k)) 125 k 0) (by omega) (by rw [fs_up_other (by decide), fs_up_other (by decide)]; exact a24) (fun r y1 y2 y3 => by rw [fs_up_other y2, fs_up_other y3]; exact a0 r y1 y2 y3) (fun j j0 j1 => by
         rw [fs_up_other (by decide), fs_up_at]
         by_cases z : j = k
         · rw [if_pos z, z]; exact a3 k (by omega)
         · rw [if_neg z]; exact a1 j j0 (by omega)) (fun j j0 j1 => by
         rw [fs_up_at]
         by_cases z : j = k
         · rw [if_pos z]
         · rw [if_neg z, fs_up_other (by decide)]; exact a2 j j0 (by omega)) (fun j j0 => by rw [fs_up_at, if_neg (by omega), fs_up_other (by decide)]; exact a3 j (by omega)) (by omega)
  exact loop25 (((139 - (0)) : Int) + 1).toNat (0) (fs_up (fs_up (fs_up (fs_up M 124 7 (M 124 6)) 124 6 0) 124 8 0) 124 12 (-1)) (by omega) (by
      refine ⟨?_, ?_, ?_, ?_, fun i hi => ?_⟩
      · rw [fs_up_at, if_neg (by omega), fs_up_at, if_neg (by omega), fs_up_at, if_neg (by omega), fs_up_at, if_pos rfl]
      · rw [fs_up_at, if_neg (by omega), fs_up_at, if_neg (by omega), fs_up_at, if_pos rfl]
      · rw [fs_up_at, if_neg (by omega), fs_up_at, if_pos rfl]
      · rw [fs_up_at, if_pos rfl]
      · rw [fs_up_at, if_neg (by omega), fs_up_at, if_neg (by omega), fs_up_at, if_neg (by omega), fs_up_at, if_neg (by omega)]) (fun r y1 _ _ => by rw [fs_up_other y1, fs_up_other y1, fs_up_other y1, fs_up_other y1]) (fun j _ _ => by omega) (fun j _ _ => by omega) (fun j _ => by rw [fs_up_other (by decide), fs_up_other (by decide), fs_up_other (by decide), fs_up_other (by decide)]) (by omega)
