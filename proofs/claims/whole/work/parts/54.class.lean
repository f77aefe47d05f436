theorem mk_ps_b {M : fs_M} {S : Int → Int} {a : Int} {n : Nat} (hM : mk_b M) (ha : 0 ≤ a ∧ a < M 20 0) (hn : (n : Int) ≤ M 20 1) : 0 ≤ fs_sum n (fun h => ec_pt (mk M) S a h) ∧ fs_sum n (fun h => ec_pt (mk M) S a h) ≤ 60 * n := fs_sum_b (fun h h0 h1 => mk_part_b hM ⟨h0, by omega⟩ ha)
theorem mk_nf_b {M : fs_M} {S : Int → Int} {n : Nat} (hM : mk_b M) (hn : n ≤ 6) : 0 ≤ ec_nf (mk M) S n ∧ ec_nf (mk M) S n < 64 := ec_nf_b hM.2.2.1 n hn
theorem mk_ns_b {M : fs_M} {S : Int → Int} {a : Int} (hM : mk_b M) : 0 ≤ ec_ns (mk M) S a ∧ ec_ns (mk M) S a ≤ 360 := by
  unfold ec_ns
  split
  · next h =>
    have hA : a < M 20 0 := h.2
    have h1 := mk_ps_b (a := a) (n := (M 20 1).toNat) (S := S) hM ⟨h.1, hA⟩ (by have := hM.2.1; omega)
    have h2 := (hM.2.2.2.1 a h.1 hA).2.2.1
    show 0 ≤ min (fs_sum (M 20 1).toNat _) (M 23 a) ∧ min (fs_sum (M 20 1).toNat _) (M 23 a) ≤ 360
    omega
  · omega
theorem mk_adv {M M6 V : fs_M} {S : Int → Int} (hM : mk_b M) (e : M6 34 1 = ec_nf (mk M) S (M 20 1).toNat) (z : ∀ q, 0 ≤ q → q < 4 → M6 35 q = ec_ns (mk M) S q) (k : ∀ q, 0 ≤ q → q < 4 → V 33 q = M6 35 q) (l : V 32 1 = M6 34 1) : sst V 32 = ec_next (mk M) S := by
  funext i
  unfold ec_next
  by_cases h4 : i = 4
  · subst h4
    rw [sst_4, if_pos rfl, l, e]
    rfl
  · rw [if_neg h4]
    by_cases h5 : 0 ≤ i ∧ i < 4
    · rw [sst_at h5]
      show V 33 i = _
      rw [k i h5.1 h5.2, z i h5.1 h5.2]
    · unfold sst ec_ns
      have : ¬ (0 ≤ i ∧ i < mk M 0 0) := by
        have h6 : mk M 0 0 = M 20 0 := rfl
        have := hM.1
        omega
      rw [if_neg h4, if_neg h5, if_neg this]
theorem fs_c_advance {d : Nat} {M : fs_M} {Q : Option fs_V → fs_M → Prop}   (hM : mk_b M) (hS : sb M 32) (hq0 : ∀ (M2 : fs_M), (mk_f M M2) → (sst M2 32 = ec_next (mk M) (sst M 32)) → (sb M2 32) → (¬ sst M2 32 = sst M 32) → Q (some (.inl 1)) M2) (hq1 : ∀ (M2 : fs_M), (mk_f M M2) → (sst M2 32 = ec_next (mk M) (sst M 32)) → (sb M2 32) → (sst M2 32 = sst M 32) → Q (some (.inl 0)) M2) : fs_W (d + 3) 42 0 [some (.inr (.ref 20)), some (.inr (.ref 32)), some (.inr (.ref 34)), none, none] [] M Q := by
  obtain ⟨⟨hA0, hA1⟩, ⟨hH0, hH1⟩, ⟨hf0, hf1⟩, hma, hmh, hmo, hml⟩ := id hM
  obtain ⟨⟨hs0, hs1⟩, hsd⟩ := sb32 hS
  have hSn : ∀ a, 0 ≤ a → a < 4 → 0 ≤ sst M 32 a := fun a a0 a1 => by rw [sst_at ⟨a0, a1⟩]; exact (hsd a a0 a1).1
  refine fs_r_call (sta := false) (idx := 119) (as := [.inr (.ref 20), .inr (.ref 32)]) (rest := []) (L1 := [some (.inr (.ref 20)), some (.inr (.ref 32)), some (.inr (.ref 34)), none, none]) (st1 := [.inr (.ref 32), .inr (.ref 20)]) (M1 := M) (ob := []) rfl rfl rfl trivial rfl rfl (Nat.le_of_ble_eq_true rfl) ⟨Or.inr (Nat.le_of_ble_eq_true rfl), Or.inr fs_ob20⟩ (by decide) ?_
  refine fs_c_priceBy (by assumption) (by assumption) (fun (M1 : fs_M) (f1 : ∀ r, r ≠ 26 → M1 r = M r) (p1 : ∀ q, 0 ≤ q → q < M 20 0 → M1 26 q = ec_price (mk M) q (M 33 q)) => ?_)
  refine fs_r_call (sta := true) (idx := 59) (as := [.inr (.ref 35)]) (rest := []) (L1 := [some (.inr (.ref 20)), some (.inr (.ref 32)), some (.inr (.ref 34)), none, none]) (st1 := [.inr (.ref 35)]) (M1 := M1) (ob := [34 < fs_N ∧ fs_kd 34 = 3]) rfl rfl rfl (fs_oc fs_ob34 trivial) rfl rfl (Nat.le_of_ble_eq_true rfl) ⟨Or.inr (Nat.le_of_ble_eq_true rfl), trivial⟩ (by decide) ?_
  refine fs_c_clear (n := 4) (by first | assumption | exact ⟨by decide, by decide, by decide⟩) (by omega) ?_
  refine fs_r_nop (L1 := [some (.inr (.ref 20)), some (.inr (.ref 32)), some (.inr (.ref 34)), some (.inl 0), none]) (st1 := []) (M1 := (fs_up (fs_cl M1 35 4) 34 1 ((fs_cl M1 35 4) 20 2))) (ob := [20 < fs_N ∧ fs_kd 20 = 1, 34 < fs_N ∧ fs_kd 34 = 3, 3 < 5]) rfl rfl (fs_oc fs_ob20 (fs_oc fs_ob34 (fs_oc (by decide) trivial))) ?_
  have loop22 : ∀ (n22 : Nat) (h : Int) (zl4 : Option fs_V) (M3 : fs_M), (0 ≤ h ∧ h ≤ M 20 1) → (∀ r, r ≠ 26 → r ≠ 34 → r ≠ 35 → M3 r = M r) → (M3 26 = M1 26) → (M3 34 1 = ec_nf (mk M) (sst M 32) h.toNat) → (∀ q, 0 ≤ q → q < 4 → M3 35 q = if q < M 20 0 then fs_sum h.toNat (fun x => ec_pt (mk M) (sst M 32) q x) else 0) → M 20 1 - h < (n22 : Int) → fs_W (d + 3) 42 22 [some (.inr (.ref 20)), some (.inr (.ref 32)), some (.inr (.ref 34)), some (.inl h), zl4] [] M3 Q := by
    intro n22
    induction n22 with
    | zero =>
      intro h zl4 M3 i0 f3 p3 e3 z3 hm22
      exfalso
      omega
    | succ n22 ih22 =>
      intro h zl4 M3 i0 f3 p3 e3 z3 hm22
      have nf30 := congrFun (f3 20 (by decide) (by decide) (by decide)) 0
      have nf31 := congrFun (f3 20 (by decide) (by decide) (by decide)) 1
      have eEf3 : mk M3 = mk M := mk_eq (fun r q1 q2 q3 => f3 r q3 (by omega) (by omega))
      have bf3 : mk_b M3 := mk_b.fr (fun r q1 q2 q3 => f3 r q3 (by omega) (by omega)) hM
      have a32f3 := f3 32 (by decide) (by decide) (by decide)
      have a33f3 := f3 33 (by decide) (by decide) (by decide)
      have eSf3 : sst M3 32 = sst M 32 := by { unfold sst; rw [a32f3, show (32 + 1 : Nat) = 33 from rfl, a33f3] }
      have bSf3 : sb M3 32 := by { unfold sb; rw [a32f3, show (32 + 1 : Nat) = 33 from rfl, a33f3]; exact hS }
      refine fs_r_icmp (a := h) (y := (M3 20 1)) (L1 := [some (.inr (.ref 20)), some (.inr (.ref 32)), some (.inr (.ref 34)), some (.inl h), zl4]) (st1 := []) (M1 := M3) (ob := [20 < fs_N ∧ fs_kd 20 = 1]) rfl rfl (fs_oc fs_ob20 trivial) (fun (h1 : (M3 20 1) ≤ h) => ?_) (fun (h1 : ¬ ((M3 20 1) ≤ h)) => ?_)
      · refine fs_r_nop (L1 := [some (.inr (.ref 20)), some (.inr (.ref 32)), some (.inr (.ref 34)), some (.inl 0), zl4]) (st1 := []) (M1 := M3) (ob := [3 < 5]) rfl rfl (fs_oc (by decide) trivial) ?_
        have loop79 : ∀ (n79 : Nat) (a : Int) (zl4 : Option fs_V) (M6 : fs_M), (0 ≤ a ∧ a ≤ M 20 0) → (∀ r, r ≠ 26 → r ≠ 34 → r ≠ 35 → M6 r = M r) → (M6 34 1 = ec_nf (mk M) (sst M 32) (M 20 1).toNat) → (∀ q, 0 ≤ q → q < 4 → M6 35 q = if q < a then ec_ns (mk M) (sst M 32) q else if q < M 20 0 then fs_sum (M 20 1).toNat (fun x => ec_pt (mk M) (sst M 32) q x) else 0) → M 20 0 - a < (n79 : Int) → fs_W (d + 3) 42 79 [some (.inr (.ref 20)), some (.inr (.ref 32)), some (.inr (.ref 34)), some (.inl a), zl4] [] M6 Q := by
          intro n79
          induction n79 with
          | zero =>
            intro a zl4 M6 i1 f6 e6 z6 hm79
            exfalso
            omega
          | succ n79 ih79 =>
            intro a zl4 M6 i1 f6 e6 z6 hm79
            have nf60 := congrFun (f6 20 (by decide) (by decide) (by decide)) 0
            have nf61 := congrFun (f6 20 (by decide) (by decide) (by decide)) 1
            have eEf6 : mk M6 = mk M := mk_eq (fun r q1 q2 q3 => f6 r q3 (by omega) (by omega))
            have bf6 : mk_b M6 := mk_b.fr (fun r q1 q2 q3 => f6 r q3 (by omega) (by omega)) hM
            have a32f6 := f6 32 (by decide) (by decide) (by decide)
            have a33f6 := f6 33 (by decide) (by decide) (by decide)
            have eSf6 : sst M6 32 = sst M 32 := by { unfold sst; rw [a32f6, show (32 + 1 : Nat) = 33 from rfl, a33f6] }
            have bSf6 : sb M6 32 := by { unfold sb; rw [a32f6, show (32 + 1 : Nat) = 33 from rfl, a33f6]; exact hS }
            have c6 := f6 23 (by decide) (by decide) (by decide)
            refine fs_r_icmp (a := a) (y := (M6 20 0)) (L1 := [some (.inr (.ref 20)), some (.inr (.ref 32)), some (.inr (.ref 34)), some (.inl a), zl4]) (st1 := []) (M1 := M6) (ob := [20 < fs_N ∧ fs_kd 20 = 1]) rfl rfl (fs_oc fs_ob20 trivial) (fun (h2 : (M6 20 0) ≤ a) => ?_) (fun (h2 : ¬ ((M6 20 0) ≤ a)) => ?_)
            · have ax : a = M 20 0 := by omega
              have zz : ∀ q, 0 ≤ q → q < 4 → M6 35 q = ec_ns (mk M) (sst M 32) q := fun q q0 q1 => by
                rw [z6 q q0 q1]
                by_cases y : q < a
                · rw [if_pos y]
                · rw [if_neg y, if_neg (by omega)]
                  unfold ec_ns
                  rw [if_neg (fun z => by have : q < M 20 0 := z.2; omega)]
              refine fs_r_call (sta := false) (idx := 134) (as := [.inr (.ref 34), .inr (.ref 32)]) (rest := []) (L1 := [some (.inr (.ref 20)), some (.inr (.ref 32)), some (.inr (.ref 34)), some (.inl a), zl4]) (st1 := [.inr (.ref 32), .inr (.ref 34)]) (M1 := M6) (ob := []) rfl rfl rfl trivial rfl rfl (Nat.le_of_ble_eq_true rfl) ⟨Or.inr (Nat.le_of_ble_eq_true rfl), Or.inr fs_ob34⟩ (by decide) ?_
              refine fs_c_isLike (fun (lk : (∀ q, 0 ≤ q → q < 4 → M6 35 q = M6 33 q) ∧ M6 34 1 = M6 32 1) => ?_) (fun (lk : ¬ ((∀ q, 0 ≤ q → q < 4 → M6 35 q = M6 33 q) ∧ M6 34 1 = M6 32 1)) => ?_)
              · refine fs_r_if (a := 1) (L1 := [some (.inr (.ref 20)), some (.inr (.ref 32)), some (.inr (.ref 34)), some (.inl a), zl4]) (st1 := []) (M1 := M6) (ob := []) rfl rfl trivial (fun h => absurd h (by decide : ¬ ((1 : Int) = 0))) (fun _ => ?_)
                refine fs_r_iret (a := 0) (L1 := [some (.inr (.ref 20)), some (.inr (.ref 32)), some (.inr (.ref 34)), some (.inl a), zl4]) (M1 := M6) (ob := []) rfl rfl trivial (Or.inr (Or.inl rfl)) ?_
                exact hq1 _ (fun r q1 q2 => f6 r q1 (by omega) (by omega)) (mk_adv hM e6 zz (fun q q0 q1 => (lk.1 q q0 q1).symm) lk.2.symm) bSf6 eSf6
              refine fs_r_if (a := 0) (L1 := [some (.inr (.ref 20)), some (.inr (.ref 32)), some (.inr (.ref 34)), some (.inl a), zl4]) (st1 := []) (M1 := M6) (ob := []) rfl rfl trivial (fun _ => ?_) (fun h => absurd (by decide : (0 : Int) = 0) h)
              refine fs_r_call (sta := false) (idx := 138) (as := [.inr (.ref 32), .inr (.ref 34)]) (rest := []) (L1 := [some (.inr (.ref 20)), some (.inr (.ref 32)), some (.inr (.ref 34)), some (.inl a), zl4]) (st1 := [.inr (.ref 34), .inr (.ref 32)]) (M1 := M6) (ob := []) rfl rfl rfl trivial rfl rfl (Nat.le_of_ble_eq_true rfl) ⟨Or.inr (Nat.le_of_ble_eq_true rfl), Or.inr fs_ob32⟩ (by decide) ?_
              refine fs_c_copy32 ?_
              refine fs_r_iret (a := 1) (L1 := [some (.inr (.ref 20)), some (.inr (.ref 32)), some (.inr (.ref 34)), some (.inl a), zl4]) (M1 := (fs_up (fs_cp M6 35 33 4) 32 1 (M6 34 1))) (ob := []) rfl rfl trivial (Or.inr (Or.inr rfl)) ?_
              have XS : sst (fs_up (fs_cp M6 35 33 4) 32 1 (M6 34 1)) 32 = ec_next (mk M) (sst M 32) := mk_adv hM e6 zz (fun q q0 q1 => by rw [fs_up_other (by decide), fs_cp_i q0 q1]) (by rw [fs_up_at, if_pos rfl])
              refine hq0 _ (fun r q1 q2 => ?_) XS ⟨?_, fun q q0 q1 => ?_⟩ ?_
              · rw [fs_up_other (by omega), fs_cp_o (by omega)]
                exact f6 r q1 (by omega) (by omega)
              · show 0 ≤ M6 34 1 ∧ M6 34 1 < 64
                rw [e6]
                exact mk_nf_b hM (by omega)
              · show 0 ≤ fs_up (fs_cp M6 35 33 4) 32 1 _ 33 q ∧ fs_up (fs_cp M6 35 33 4) 32 1 _ 33 q ≤ 360
                rw [fs_up_other (by decide), fs_cp_i q0 q1, zz q q0 q1]
                exact mk_ns_b hM
              · intro w
                rw [XS] at w
                apply lk
                refine ⟨fun q q0 q1 => ?_, ?_⟩
                · have w2 := congrFun w q
                  rw [sst_at ⟨q0, q1⟩] at w2
                  unfold ec_next at w2
                  rw [if_neg (by omega)] at w2
                  rw [zz q q0 q1, w2, a33f6]
                · have w2 := congrFun w 4
                  rw [sst_4] at w2
                  rw [e6, a32f6]
                  exact w2
            refine fs_r_nat (v := .inl (min (M6 35 a) (M6 23 a))) (sta := true) (idx := 104) (as := [.inl (M6 35 a), .inl (M6 23 a)]) (rest := [.inl a, .inr (.ref 35)]) (L1 := [some (.inr (.ref 20)), some (.inr (.ref 32)), some (.inr (.ref 34)), some (.inl a), zl4]) (st1 := [.inl (M6 23 a), .inl (M6 35 a), .inl a, .inr (.ref 35)]) (M1 := M6) (ob := [34 < fs_N ∧ fs_kd 34 = 3, 34 < fs_N ∧ fs_kd 34 = 3, (35 < fs_N ∧ fs_kd 35 = 100) ∧ (0 : Int) ≤ a ∧ a < fs_ln 35, 20 < fs_N ∧ fs_kd 20 = 1, (23 < fs_N ∧ fs_kd 23 = 100) ∧ (0 : Int) ≤ a ∧ a < fs_ln 23]) rfl rfl (fs_exA 6 (o1 := [34 < fs_N ∧ fs_kd 34 = 3, 34 < fs_N ∧ fs_kd 34 = 3]) (L1 := [some (.inr (.ref 20)), some (.inr (.ref 32)), some (.inr (.ref 34)), some (.inl a), zl4]) (st1 := [.inl a, .inr (.ref 35), .inl a, .inr (.ref 35)]) (M1 := M6) (o2 := [(35 < fs_N ∧ fs_kd 35 = 100) ∧ (0 : Int) ≤ a ∧ a < fs_ln 35, 20 < fs_N ∧ fs_kd 20 = 1, (23 < fs_N ∧ fs_kd 23 = 100) ∧ (0 : Int) ≤ a ∧ a < fs_ln 23]) rfl rfl) (fs_oc fs_ob34 (fs_oc fs_ob34 (fs_oc (fs_ar35 (by omega) (by omega)) (fs_oc fs_ob20 (fs_oc (fs_ar23 (by omega) (by omega)) trivial))))) rfl rfl (Nat.le_of_ble_eq_true rfl) ⟨Or.inl (by decide), trivial⟩ (by decide) (rfl) ?_
            refine fs_r_goto (L1 := [some (.inr (.ref 20)), some (.inr (.ref 32)), some (.inr (.ref 34)), some (.inl (a + 1)), zl4]) (st1 := []) (M1 := (fs_up M6 35 a (min (M6 35 a) (M6 23 a)))) (ob := [(35 < fs_N ∧ fs_kd 35 = 100) ∧ (0 : Int) ≤ a ∧ a < fs_ln 35, fs_rg (a + 1)]) rfl rfl (fs_oc (fs_ar35 (by omega) (by omega)) (fs_oc ⟨by omega, by omega⟩ trivial)) ?_
            exact ih79 ((a + 1)) (zl4) (fs_up M6 35 a (min (M6 35 a) (M6 23 a))) (by omega) (fun r q1 q2 q3 => by rw [fs_up_other q3]; exact f6 r q1 q2 q3) (by rw [fs_up_other (by decide)]; exact e6) (fun q q0 q1 => by
                   rw [fs_up_at]
                   by_cases z : q = a
                   · rw [if_pos z, z, if_pos (by omega), z6 a (by omega) (by omega), if_neg (by omega), if_pos (by omega), c6]
                     unfold ec_ns
                     rw [if_pos ⟨by omega, by show a < M 20 0; omega⟩]
                     rfl
                   · rw [if_neg z, z6 q q0 q1]
                     by_cases y : q < a
                     · rw [if_pos y, if_pos (by omega)]
                     · rw [if_neg y, if_neg (show ¬ q < a + 1 by omega)]) (by omega)
        exact loop79 (((M 20 0 - (0)) : Int) + 1).toNat (0) (zl4) M3 (by omega) (f3) (by rw [e3, show h = M 20 1 by omega]) (fun q q0 q1 => by rw [z3 q q0 q1, if_neg (by omega : ¬ q < 0), show h = M 20 1 by omega]) (by omega)
      refine fs_r_call (sta := false) (idx := 123) (as := [.inr (.ref 20), .inl h, .inr (.ref 32)]) (rest := []) (L1 := [some (.inr (.ref 20)), some (.inr (.ref 32)), some (.inr (.ref 34)), some (.inl h), zl4]) (st1 := [.inr (.ref 32), .inl h, .inr (.ref 20)]) (M1 := M3) (ob := []) rfl rfl rfl trivial rfl rfl (Nat.le_of_ble_eq_true rfl) ⟨Or.inr (Nat.le_of_ble_eq_true rfl), Or.inr fs_ob20⟩ (by decide) ?_
      refine fs_c_worthOf (bf3) (bSf3) (by omega) (fun q q0 q1 => by rw [eEf3, p3, a33f3]; exact p1 q q0 (by omega)) ?_
      have hw9 : ec_worth (mk M3) (sst M3 32) h = ec_worth (mk M) (sst M 32) h := by rw [eEf3, eSf3]
      have join55 : ∀ (w : Int) (M4 : fs_M), (w = ec_worth (mk M) (sst M 32) h) → (∀ r, r ≠ 26 → r ≠ 34 → r ≠ 35 → M4 r = M r) → (M4 26 = M1 26) → (M4 34 1 = ec_nf (mk M) (sst M 32) (h + 1).toNat) → (∀ q, 0 ≤ q → q < 4 → M4 35 q = if q < M 20 0 then fs_sum h.toNat (fun x => ec_pt (mk M) (sst M 32) q x) else 0) → fs_W (d + 3) 42 55 [some (.inr (.ref 20)), some (.inr (.ref 32)), some (.inr (.ref 34)), some (.inl h), some (.inl w)] [] M4 Q := by
        intro w M4 w0 f4 p4 e4 z4
        have nf40 := congrFun (f4 20 (by decide) (by decide) (by decide)) 0
        have nf41 := congrFun (f4 20 (by decide) (by decide) (by decide)) 1
        have eEf4 : mk M4 = mk M := mk_eq (fun r q1 q2 q3 => f4 r q3 (by omega) (by omega))
        have bf4 : mk_b M4 := mk_b.fr (fun r q1 q2 q3 => f4 r q3 (by omega) (by omega)) hM
        have a32f4 := f4 32 (by decide) (by decide) (by decide)
        have a33f4 := f4 33 (by decide) (by decide) (by decide)
        have eSf4 : sst M4 32 = sst M 32 := by { unfold sst; rw [a32f4, show (32 + 1 : Nat) = 33 from rfl, a33f4] }
        have bSf4 : sb M4 32 := by { unfold sb; rw [a32f4, show (32 + 1 : Nat) = 33 from rfl, a33f4]; exact hS }
        refine fs_r_call (sta := false) (idx := 127) (as := [.inr (.ref 20), .inl h, .inl w]) (rest := [.inl h, .inr (.ref 20)]) (L1 := [some (.inr (.ref 20)), some (.inr (.ref 32)), some (.inr (.ref 34)), some (.inl h), some (.inl w)]) (st1 := [.inl w, .inl h, .inr (.ref 20), .inl h, .inr (.ref 20)]) (M1 := M4) (ob := []) rfl rfl rfl trivial rfl rfl (Nat.le_of_ble_eq_true rfl) ⟨Or.inr (Nat.le_of_ble_eq_true rfl), Or.inr fs_ob20⟩ (by decide) ?_
        refine fs_c_dueOf (bf4) (by omega) (by rw [w0]; exact mk_worth_b hM (by omega) hSn) ?_
        refine fs_r_call (sta := false) (idx := 130) (as := [.inr (.ref 20), .inl h, .inl (ec_due (mk M4) h w), .inr (.ref 35)]) (rest := []) (L1 := [some (.inr (.ref 20)), some (.inr (.ref 32)), some (.inr (.ref 34)), some (.inl h), some (.inl w)]) (st1 := [.inr (.ref 35), .inl (ec_due (mk M4) h w), .inl h, .inr (.ref 20)]) (M1 := M4) (ob := [34 < fs_N ∧ fs_kd 34 = 3]) rfl rfl rfl (fs_oc fs_ob34 trivial) rfl rfl (Nat.le_of_ble_eq_true rfl) ⟨Or.inr (Nat.le_of_ble_eq_true rfl), Or.inr fs_ob20⟩ (by decide) ?_
        refine fs_c_addSales35 (bf4) (by omega) (by rw [eEf4]; exact mk_due_b hM (by omega)) (fun q q0 q1 => by rw [z4 q q0 q1]; split; (have := mk_ps_b (a := q) (n := h.toNat) (S := sst M 32) hM (by omega) (by omega); omega); omega) (fun (M5 : fs_M) (f5 : ∀ r, r ≠ 35 → M5 r = M4 r) (p5 : ∀ q, 0 ≤ q → q < 4 → M5 35 q = M4 35 q + (if q < M4 20 0 then ec_part (mk M4) h (ec_due (mk M4) h w) q else 0)) => ?_)
        refine fs_r_goto (L1 := [some (.inr (.ref 20)), some (.inr (.ref 32)), some (.inr (.ref 34)), some (.inl (h + 1)), some (.inl w)]) (st1 := []) (M1 := M5) (ob := [fs_rg (h + 1)]) rfl rfl (fs_oc ⟨by omega, by omega⟩ trivial) ?_
        exact ih22 ((h + 1)) (some (.inl w)) M5 (by omega) (fun r q1 q2 q3 => by rw [f5 r q3]; exact f4 r q1 q2 q3) (by rw [f5 26 (by decide)]; exact p4) (by rw [f5 34 (by decide)]; exact e4) (fun q q0 q1 => by rw [p5 q q0 q1, z4 q q0 q1, nf40, fs_sum_s i0.1, eEf4, w0]; split; rfl; omega) (by omega)
      refine fs_r_if (a := (ec_worth (mk M3) (sst M3 32) h)) (L1 := [some (.inr (.ref 20)), some (.inr (.ref 32)), some (.inr (.ref 34)), some (.inl h), some (.inl (ec_worth (mk M3) (sst M3 32) h))]) (st1 := []) (M1 := M3) (ob := [4 < 5]) rfl rfl (fs_oc (by decide) trivial) (fun (h3 : 0 ≤ (ec_worth (mk M3) (sst M3 32) h)) => ?_) (fun (h3 : ¬ (0 ≤ (ec_worth (mk M3) (sst M3 32) h))) => ?_)
      · exact join55 ((ec_worth (mk M3) (sst M3 32) h)) M3 (hw9) (by first | exact f3 | exact fun r q1 q2 q3 => by rw [fs_up_other q2]; exact f3 r q1 q2 q3) (by first | exact p3 | (rw [fs_up_other (by decide)]; exact p3)) (by rw [ec_nf_s i0.1]; first | (rw [if_neg (by omega)]; exact e3) | (rw [if_pos (by omega), fs_up_at, if_pos rfl, e3])) (by first | exact z3 | exact fun q q0 q1 => by rw [fs_up_other (by decide)]; exact z3 q q0 q1)
      refine fs_r_nop (L1 := [some (.inr (.ref 20)), some (.inr (.ref 32)), some (.inr (.ref 34)), some (.inl h), some (.inl (ec_worth (mk M3) (sst M3 32) h))]) (st1 := []) (M1 := (fs_up M3 34 1 (fs_or (M3 34 1) (fs_shl 1 h)))) (ob := [34 < fs_N ∧ fs_kd 34 = 3, 34 < fs_N ∧ fs_kd 34 = 3]) rfl (fs_exA 6 (o1 := [34 < fs_N ∧ fs_kd 34 = 3]) (L1 := [some (.inr (.ref 20)), some (.inr (.ref 32)), some (.inr (.ref 34)), some (.inl h), some (.inl (ec_worth (mk M3) (sst M3 32) h))]) (st1 := [.inl (fs_shl 1 h), .inl (M3 34 1), .inr (.ref 34)]) (M1 := M3) (o2 := [34 < fs_N ∧ fs_kd 34 = 3]) rfl rfl) (fs_oc fs_ob34 (fs_oc fs_ob34 trivial)) ?_
      exact join55 ((ec_worth (mk M3) (sst M3 32) h)) (fs_up M3 34 1 (fs_or (M3 34 1) (fs_shl 1 h))) (hw9) (by first | exact f3 | exact fun r q1 q2 q3 => by rw [fs_up_other q2]; exact f3 r q1 q2 q3) (by first | exact p3 | (rw [fs_up_other (by decide)]; exact p3)) (by rw [ec_nf_s i0.1]; first | (rw [if_neg (by omega)]; exact e3) | (rw [if_pos (by omega), fs_up_at, if_pos rfl, e3])) (by first | exact z3 | exact fun q q0 q1 => by rw [fs_up_other (by decide)]; exact z3 q q0 q1)
  exact loop22 (((M 20 1 - (0)) : Int) + 1).toNat (0) (none) (fs_up (fs_cl M1 35 4) 34 1 ((fs_cl M1 35 4) 20 2)) (by omega) (fun r q1 q2 q3 => by rw [fs_up_other q2, fs_cl_o q3]; exact f1 r q1) (by rw [fs_up_other (by decide), fs_cl_o (by decide)]) (by rw [fs_up_at, if_pos rfl]; show M1 20 2 = M 20 2; rw [f1 20 (by decide)]) (fun q q0 q1 => by rw [fs_up_other (by decide), fs_cl_i q0 q1]; split <;> rfl) (by omega)

theorem fs_c_toLeast {d : Nat} {M : fs_M} {Q : Option fs_V → fs_M → Prop}   (hM : mk_b M) (hq0 : ∀ (M2 : fs_M), (mk_f M M2) → (sst M2 32 = ec_fix (mk M) (ec_calm (mk M))) → (sb M2 32) → Q (some (.inl ((ec_k (mk M) (ec_calm (mk M)) : Nat) : Int))) M2) : fs_W (d + 4) 43 0 [some (.inr (.ref 20)), some (.inr (.ref 32)), some (.inr (.ref 34)), none] [] M Q := by
  refine fs_r_call (sta := false) (idx := 141) (as := [.inr (.ref 20), .inr (.ref 32)]) (rest := []) (L1 := [some (.inr (.ref 20)), some (.inr (.ref 32)), some (.inr (.ref 34)), none]) (st1 := [.inr (.ref 32), .inr (.ref 20)]) (M1 := M) (ob := []) rfl rfl rfl trivial rfl rfl (Nat.le_of_ble_eq_true rfl) ⟨Or.inr (Nat.le_of_ble_eq_true rfl), Or.inr fs_ob20⟩ (by decide) ?_
  refine fs_c_calm (by assumption) (fun (V1 : fs_M) (c1 : ∀ r, r ≠ 32 → r ≠ 33 → V1 r = M r) (g1 : sst V1 32 = ec_calm (mk M)) (g2 : sb V1 32) => ?_)
  have g0 : mk_f M V1 := fun r q1 q2 => c1 r (by omega) (by omega)
  have hk := ec_k_spec (ec_okc hM.bd)
  refine fs_r_nop (L1 := [some (.inr (.ref 20)), some (.inr (.ref 32)), some (.inr (.ref 34)), some (.inl 0)]) (st1 := []) (M1 := V1) (ob := [3 < 4]) rfl rfl (fs_oc (by decide) trivial) ?_
  have loop7 : ∀ (n7 : Nat) (k : Int) (M3 : fs_M) (j : Nat), (j ≤ ec_k (mk M) (ec_calm (mk M))) → (k = (j : Int)) → (mk_f M M3) → (sst M3 32 = ec_it (mk M) (ec_calm (mk M)) j) → (sb M3 32) → ((ec_k (mk M) (ec_calm (mk M)) : Nat) : Int) - (j : Int) < (n7 : Int) → fs_W (d + 4) 43 7 [some (.inr (.ref 20)), some (.inr (.ref 32)), some (.inr (.ref 34)), some (.inl k)] [] M3 Q := by
    intro n7
    induction n7 with
    | zero =>
      intro k M3 j i0 k0 f3 s3 b3 hm7
      exfalso
      omega
    | succ n7 ih7 =>
      intro k M3 j i0 k0 f3 s3 b3 hm7
      have hM3 := f3.b hM
      refine fs_r_icmp (a := k) (y := 2000) (L1 := [some (.inr (.ref 20)), some (.inr (.ref 32)), some (.inr (.ref 34)), some (.inl k)]) (st1 := []) (M1 := M3) (ob := []) rfl rfl trivial (fun (h1 : 2000 ≤ k) => ?_) (fun (h1 : ¬ (2000 ≤ k)) => ?_)
      · refine fs_r_iret (a := k) (L1 := [some (.inr (.ref 20)), some (.inr (.ref 32)), some (.inr (.ref 34)), some (.inl k)]) (M1 := M3) (ob := []) rfl rfl trivial (Or.inl rfl) ?_
        first
          | (have je : j = ec_k (mk M) (ec_calm (mk M)) := by omega
             exact fs_qi (by rw [k0, je]) (hq0 _ f3 (by rw [s3, je]; rfl) b3))
          | (have je2 : j = ec_k (mk M) (ec_calm (mk M)) := je
             exact fs_qi (by rw [k0, je2]) (hq0 _ (f3.tr d1) (by rw [d4, s3, je2]; rfl) d3))
      refine fs_r_call (sta := false) (idx := 144) (as := [.inr (.ref 20), .inr (.ref 32), .inr (.ref 34)]) (rest := []) (L1 := [some (.inr (.ref 20)), some (.inr (.ref 32)), some (.inr (.ref 34)), some (.inl k)]) (st1 := [.inr (.ref 34), .inr (.ref 32), .inr (.ref 20)]) (M1 := M3) (ob := []) rfl rfl rfl trivial rfl rfl (Nat.le_of_ble_eq_true rfl) ⟨Or.inr (Nat.le_of_ble_eq_true rfl), Or.inr fs_ob20⟩ (by decide) ?_
      refine fs_c_advance (hM3) (b3) (fun (V2 : fs_M) (d1 : mk_f M3 V2) (d2 : sst V2 32 = ec_next (mk M3) (sst M3 32)) (d3 : sb V2 32) (d4 : ¬ sst V2 32 = sst M3 32) => ?_) (fun (V2 : fs_M) (d1 : mk_f M3 V2) (d2 : sst V2 32 = ec_next (mk M3) (sst M3 32)) (d3 : sb V2 32) (d4 : sst V2 32 = sst M3 32) => ?_)
      · first
          | (have jl : j < ec_k (mk M) (ec_calm (mk M)) := by
              rcases Nat.lt_or_ge j (ec_k (mk M) (ec_calm (mk M))) with q | q
              · exact q
              · exfalso
                apply d4
                rw [d2, f3.E, s3, show j = ec_k (mk M) (ec_calm (mk M)) by omega]
                exact hk.2.2)
          | (have je : j = ec_k (mk M) (ec_calm (mk M)) := by
              rcases Nat.lt_or_ge j (ec_k (mk M) (ec_calm (mk M))) with q | q
              · rw [d2, f3.E, s3] at d4
                exact absurd d4 (hk.2.1 j q)
              · omega)
        refine fs_r_if (a := 1) (L1 := [some (.inr (.ref 20)), some (.inr (.ref 32)), some (.inr (.ref 34)), some (.inl k)]) (st1 := []) (M1 := V2) (ob := []) rfl rfl trivial (fun h => absurd h (by decide : ¬ ((1 : Int) = 0))) (fun _ => ?_)
        refine fs_r_goto (L1 := [some (.inr (.ref 20)), some (.inr (.ref 32)), some (.inr (.ref 34)), some (.inl (k + 1))]) (st1 := []) (M1 := V2) (ob := [fs_rg (k + 1)]) rfl rfl (fs_oc ⟨by omega, by omega⟩ trivial) ?_
        exact ih7 ((k + 1)) V2 ((j + 1)) (by omega) (by omega) (f3.tr d1) (by rw [d2, f3.E, s3]; rfl) (d3) (by omega)
      first
        | (have jl : j < ec_k (mk M) (ec_calm (mk M)) := by
            rcases Nat.lt_or_ge j (ec_k (mk M) (ec_calm (mk M))) with q | q
            · exact q
            · exfalso
              apply d4
              rw [d2, f3.E, s3, show j = ec_k (mk M) (ec_calm (mk M)) by omega]
              exact hk.2.2)
        | (have je : j = ec_k (mk M) (ec_calm (mk M)) := by
            rcases Nat.lt_or_ge j (ec_k (mk M) (ec_calm (mk M))) with q | q
            · rw [d2, f3.E, s3] at d4
              exact absurd d4 (hk.2.1 j q)
            · omega)
      refine fs_r_if (a := 0) (L1 := [some (.inr (.ref 20)), some (.inr (.ref 32)), some (.inr (.ref 34)), some (.inl k)]) (st1 := []) (M1 := V2) (ob := []) rfl rfl trivial (fun _ => ?_) (fun h => absurd (by decide : (0 : Int) = 0) h)
      refine fs_r_iret (a := k) (L1 := [some (.inr (.ref 20)), some (.inr (.ref 32)), some (.inr (.ref 34)), some (.inl k)]) (M1 := V2) (ob := []) rfl rfl trivial (Or.inl rfl) ?_
      first
        | (have je : j = ec_k (mk M) (ec_calm (mk M)) := by omega
           exact fs_qi (by rw [k0, je]) (hq0 _ f3 (by rw [s3, je]; rfl) b3))
        | (have je2 : j = ec_k (mk M) (ec_calm (mk M)) := je
           exact fs_qi (by rw [k0, je2]) (hq0 _ (f3.tr d1) (by rw [d4, s3, je2]; rfl) d3))
  exact loop7 (((((ec_k (mk M) (ec_calm (mk M)) : Nat) : Int) - ((0) : Int)) : Int) + 1).toNat (0) V1 (0) (Nat.zero_le _) (rfl) (g0) (g1) (g2) (by omega)

theorem fs_c_toGreatest {d : Nat} {M : fs_M} {Q : Option fs_V → fs_M → Prop}   (hM : mk_b M) (hd : ec_hd (mk M)) (hq0 : ∀ (M2 : fs_M), (mk_f M M2) → (sst M2 32 = ec_fix (mk M) (ec_panic (mk M))) → (sb M2 32) → Q (some (.inl ((ec_k (mk M) (ec_panic (mk M)) : Nat) : Int))) M2) : fs_W (d + 4) 44 0 [some (.inr (.ref 20)), some (.inr (.ref 32)), some (.inr (.ref 34)), none] [] M Q := by
  refine fs_r_call (sta := false) (idx := 148) (as := [.inr (.ref 20), .inr (.ref 32)]) (rest := []) (L1 := [some (.inr (.ref 20)), some (.inr (.ref 32)), some (.inr (.ref 34)), none]) (st1 := [.inr (.ref 32), .inr (.ref 20)]) (M1 := M) (ob := []) rfl rfl rfl trivial rfl rfl (Nat.le_of_ble_eq_true rfl) ⟨Or.inr (Nat.le_of_ble_eq_true rfl), Or.inr fs_ob20⟩ (by decide) ?_
  refine fs_c_panic (by assumption) (fun (V1 : fs_M) (c1 : ∀ r, r ≠ 32 → r ≠ 33 → V1 r = M r) (g1 : sst V1 32 = ec_panic (mk M)) (g2 : sb V1 32) => ?_)
  have g0 : mk_f M V1 := fun r q1 q2 => c1 r (by omega) (by omega)
  have hk := ec_k_spec (ec_okp hM.bd hd)
  refine fs_r_nop (L1 := [some (.inr (.ref 20)), some (.inr (.ref 32)), some (.inr (.ref 34)), some (.inl 0)]) (st1 := []) (M1 := V1) (ob := [3 < 4]) rfl rfl (fs_oc (by decide) trivial) ?_
  have loop7 : ∀ (n7 : Nat) (k : Int) (M3 : fs_M) (j : Nat), (j ≤ ec_k (mk M) (ec_panic (mk M))) → (k = (j : Int)) → (mk_f M M3) → (sst M3 32 = ec_it (mk M) (ec_panic (mk M)) j) → (sb M3 32) → ((ec_k (mk M) (ec_panic (mk M)) : Nat) : Int) - (j : Int) < (n7 : Int) → fs_W (d + 4) 44 7 [some (.inr (.ref 20)), some (.inr (.ref 32)), some (.inr (.ref 34)), some (.inl k)] [] M3 Q := by
    intro n7
    induction n7 with
    | zero =>
      intro k M3 j i0 k0 f3 s3 b3 hm7
      exfalso
      omega
    | succ n7 ih7 =>
      intro k M3 j i0 k0 f3 s3 b3 hm7
      have hM3 := f3.b hM
      refine fs_r_icmp (a := k) (y := 2000) (L1 := [some (.inr (.ref 20)), some (.inr (.ref 32)), some (.inr (.ref 34)), some (.inl k)]) (st1 := []) (M1 := M3) (ob := []) rfl rfl trivial (fun (h1 : 2000 ≤ k) => ?_) (fun (h1 : ¬ (2000 ≤ k)) => ?_)
      · refine fs_r_iret (a := k) (L1 := [some (.inr (.ref 20)), some (.inr (.ref 32)), some (.inr (.ref 34)), some (.inl k)]) (M1 := M3) (ob := []) rfl rfl trivial (Or.inl rfl) ?_
        first
          | (have je : j = ec_k (mk M) (ec_panic (mk M)) := by omega
             exact fs_qi (by rw [k0, je]) (hq0 _ f3 (by rw [s3, je]; rfl) b3))
          | (have je2 : j = ec_k (mk M) (ec_panic (mk M)) := je
             exact fs_qi (by rw [k0, je2]) (hq0 _ (f3.tr d1) (by rw [d4, s3, je2]; rfl) d3))
      refine fs_r_call (sta := false) (idx := 144) (as := [.inr (.ref 20), .inr (.ref 32), .inr (.ref 34)]) (rest := []) (L1 := [some (.inr (.ref 20)), some (.inr (.ref 32)), some (.inr (.ref 34)), some (.inl k)]) (st1 := [.inr (.ref 34), .inr (.ref 32), .inr (.ref 20)]) (M1 := M3) (ob := []) rfl rfl rfl trivial rfl rfl (Nat.le_of_ble_eq_true rfl) ⟨Or.inr (Nat.le_of_ble_eq_true rfl), Or.inr fs_ob20⟩ (by decide) ?_
      refine fs_c_advance (hM3) (b3) (fun (V2 : fs_M) (d1 : mk_f M3 V2) (d2 : sst V2 32 = ec_next (mk M3) (sst M3 32)) (d3 : sb V2 32) (d4 : ¬ sst V2 32 = sst M3 32) => ?_) (fun (V2 : fs_M) (d1 : mk_f M3 V2) (d2 : sst V2 32 = ec_next (mk M3) (sst M3 32)) (d3 : sb V2 32) (d4 : sst V2 32 = sst M3 32) => ?_)
      · first
          | (have jl : j < ec_k (mk M) (ec_panic (mk M)) := by
              rcases Nat.lt_or_ge j (ec_k (mk M) (ec_panic (mk M))) with q | q
              · exact q
              · exfalso
                apply d4
                rw [d2, f3.E, s3, show j = ec_k (mk M) (ec_panic (mk M)) by omega]
                exact hk.2.2)
          | (have je : j = ec_k (mk M) (ec_panic (mk M)) := by
              rcases Nat.lt_or_ge j (ec_k (mk M) (ec_panic (mk M))) with q | q
              · rw [d2, f3.E, s3] at d4
                exact absurd d4 (hk.2.1 j q)
              · omega)
        refine fs_r_if (a := 1) (L1 := [some (.inr (.ref 20)), some (.inr (.ref 32)), some (.inr (.ref 34)), some (.inl k)]) (st1 := []) (M1 := V2) (ob := []) rfl rfl trivial (fun h => absurd h (by decide : ¬ ((1 : Int) = 0))) (fun _ => ?_)
        refine fs_r_goto (L1 := [some (.inr (.ref 20)), some (.inr (.ref 32)), some (.inr (.ref 34)), some (.inl (k + 1))]) (st1 := []) (M1 := V2) (ob := [fs_rg (k + 1)]) rfl rfl (fs_oc ⟨by omega, by omega⟩ trivial) ?_
        exact ih7 ((k + 1)) V2 ((j + 1)) (by omega) (by omega) (f3.tr d1) (by rw [d2, f3.E, s3]; rfl) (d3) (by omega)
      first
        | (have jl : j < ec_k (mk M) (ec_panic (mk M)) := by
            rcases Nat.lt_or_ge j (ec_k (mk M) (ec_panic (mk M))) with q | q
            · exact q
            · exfalso
              apply d4
              rw [d2, f3.E, s3, show j = ec_k (mk M) (ec_panic (mk M)) by omega]
              exact hk.2.2)
        | (have je : j = ec_k (mk M) (ec_panic (mk M)) := by
            rcases Nat.lt_or_ge j (ec_k (mk M) (ec_panic (mk M))) with q | q
            · rw [d2, f3.E, s3] at d4
              exact absurd d4 (hk.2.1 j q)
            · omega)
      refine fs_r_if (a := 0) (L1 := [some (.inr (.ref 20)), some (.inr (.ref 32)), some (.inr (.ref 34)), some (.inl k)]) (st1 := []) (M1 := V2) (ob := []) rfl rfl trivial (fun _ => ?_) (fun h => absurd (by decide : (0 : Int) = 0) h)
      refine fs_r_iret (a := k) (L1 := [some (.inr (.ref 20)), some (.inr (.ref 32)), some (.inr (.ref 34)), some (.inl k)]) (M1 := V2) (ob := []) rfl rfl trivial (Or.inl rfl) ?_
      first
        | (have je : j = ec_k (mk M) (ec_panic (mk M)) := by omega
           exact fs_qi (by rw [k0, je]) (hq0 _ f3 (by rw [s3, je]; rfl) b3))
        | (have je2 : j = ec_k (mk M) (ec_panic (mk M)) := je
           exact fs_qi (by rw [k0, je2]) (hq0 _ (f3.tr d1) (by rw [d4, s3, je2]; rfl) d3))
  exact loop7 (((((ec_k (mk M) (ec_panic (mk M)) : Nat) : Int) - ((0) : Int)) : Int) + 1).toNat (0) V1 (0) (Nat.zero_le _) (rfl) (g0) (g1) (g2) (by omega)

theorem mk_lost1 {M : fs_M} {a n : Int} (hM : mk_b M) (ha : 0 ≤ a ∧ a < M 20 0) (hn : 0 ≤ n) : 0 ≤ mk M 5 a * (ec_price (mk M) a 0 - ec_price (mk M) a n) ∧ mk M 5 a * (ec_price (mk M) a 0 - ec_price (mk M) a n) ≤ 72000 := by
  obtain ⟨x1, x2, x3, x4, x5⟩ := hM.2.2.2.1 a ha.1 ha.2
  have b0 := mk_price_b (n := 0) hM ha (by omega)
  have b1 := mk_price_b hM ha hn
  have y5 : 0 ≤ mk M 5 a ∧ mk M 5 a ≤ 360 := x5
  have le : ec_price (mk M) a n ≤ ec_price (mk M) a 0 := by
    have : M 22 a * max 0 (0 - M 24 a) ≤ M 22 a * max 0 (n - M 24 a) := Int.mul_le_mul_of_nonneg_left (by omega) x2.1
    show max 0 (M 21 a - M 22 a * max 0 (n - M 24 a)) ≤ max 0 (M 21 a - M 22 a * max 0 (0 - M 24 a))
    omega
  exact ⟨Int.mul_nonneg y5.1 (by omega), Int.mul_le_mul y5.2 (show ec_price (mk M) a 0 - ec_price (mk M) a n ≤ 200 by omega) (by omega) (by omega)⟩
theorem mk_lost_b {M : fs_M} {S : Int → Int} {n : Nat} (hM : mk_b M) (hS : ∀ a, 0 ≤ a → a < 4 → 0 ≤ S a) (hn : (n : Int) ≤ M 20 0) : 0 ≤ fs_sum n (fun a => mk M 5 a * (ec_price (mk M) a 0 - ec_price (mk M) a (S a))) ∧ fs_sum n (fun a => mk M 5 a * (ec_price (mk M) a 0 - ec_price (mk M) a (S a))) ≤ 72000 * n := fs_sum_b (fun a a0 a1 => mk_lost1 hM ⟨a0, by omega⟩ (hS a a0 (by have := hM.1; omega)))
theorem fs_c_lostIn {d : Nat} {M : fs_M} {Q : Option fs_V → fs_M → Prop}   (hM : mk_b M) (hS : sb M 32) (hq0 : Q (some (.inl (ec_lost (mk M) (sst M 32)))) M) : fs_W (d + 2) 45 0 [some (.inr (.ref 20)), some (.inr (.ref 32)), none, none, none] [] M Q := by
  obtain ⟨⟨hA0, hA1⟩, ⟨hH0, hH1⟩, ⟨hf0, hf1⟩, hma, hmh, hmo, hml⟩ := id hM
  obtain ⟨⟨hs0, hs1⟩, hsd⟩ := sb32 hS
  have hSn : ∀ a, 0 ≤ a → a < 4 → 0 ≤ sst M 32 a := fun a a0 a1 => by rw [sst_at ⟨a0, a1⟩]; exact (hsd a a0 a1).1
  refine fs_r_nop (L1 := [some (.inr (.ref 20)), some (.inr (.ref 32)), some (.inl 0), some (.inl 0), none]) (st1 := []) (M1 := M) (ob := [2 < 5, 3 < 5]) rfl rfl (fs_oc (by decide) (fs_oc (by decide) trivial)) ?_
  have loop4 : ∀ (n4 : Nat) (n : Int) (i : Int) (zl4 : Option fs_V), (0 ≤ i ∧ i ≤ M 20 0) → (n = fs_sum i.toNat (fun a => mk M 5 a * (ec_price (mk M) a 0 - ec_price (mk M) a (sst M 32 a)))) → M 20 0 - i < (n4 : Int) → fs_W (d + 2) 45 4 [some (.inr (.ref 20)), some (.inr (.ref 32)), some (.inl n), some (.inl i), zl4] [] M Q := by
    intro n4
    induction n4 with
    | zero =>
      intro n i zl4 i0 n0 hm4
      exfalso
      omega
    | succ n4 ih4 =>
      intro n i zl4 i0 n0 hm4
      have nb := mk_lost_b (S := sst M 32) (n := i.toNat) hM hSn (by omega)
      rw [← n0] at nb
      refine fs_r_icmp (a := i) (y := (M 20 0)) (L1 := [some (.inr (.ref 20)), some (.inr (.ref 32)), some (.inl n), some (.inl i), zl4]) (st1 := []) (M1 := M) (ob := [20 < fs_N ∧ fs_kd 20 = 1]) rfl rfl (fs_oc fs_ob20 trivial) (fun (h1 : (M 20 0) ≤ i) => ?_) (fun (h1 : ¬ ((M 20 0) ≤ i)) => ?_)
      · refine fs_r_iret (a := n) (L1 := [some (.inr (.ref 20)), some (.inr (.ref 32)), some (.inl n), some (.inl i), zl4]) (M1 := M) (ob := []) rfl rfl trivial (Or.inl rfl) ?_
        exact fs_qi (by rw [n0, show i = M 20 0 by omega]; rfl) hq0
      have q := hsd i (by omega) (by omega)
      have q1 := mk_price_b (a := i) (n := 0) hM (by omega) (by omega)
      have q2 := mk_price_b (a := i) (n := M 33 i) hM (by omega) q.1
      have q3 := mk_lost1 (a := i) (n := M 33 i) hM (by omega) q.1
      have q4 : mk M 5 i = M 25 i := rfl
      rw [q4] at q3
      have q6 : sst M 32 i = M 33 i := sst_at ⟨by omega, by omega⟩
      refine fs_r_call (sta := false) (idx := 112) (as := [.inr (.ref 20), .inl i, .inl 0]) (rest := []) (L1 := [some (.inr (.ref 20)), some (.inr (.ref 32)), some (.inl n), some (.inl i), zl4]) (st1 := [.inl 0, .inl i, .inr (.ref 20)]) (M1 := M) (ob := []) rfl rfl rfl trivial rfl rfl (Nat.le_of_ble_eq_true rfl) ⟨Or.inr (Nat.le_of_ble_eq_true rfl), Or.inr fs_ob20⟩ (by decide) ?_
      refine fs_c_priceAt (by assumption) (by omega) (by omega) ?_
      refine fs_r_call (sta := false) (idx := 112) (as := [.inr (.ref 20), .inl i, .inl (M 33 i)]) (rest := [.inl (ec_price (mk M) i 0)]) (L1 := [some (.inr (.ref 20)), some (.inr (.ref 32)), some (.inl n), some (.inl i), zl4]) (st1 := [.inl (M 33 i), .inl i, .inr (.ref 20), .inl (ec_price (mk M) i 0)]) (M1 := M) (ob := [32 < fs_N ∧ fs_kd 32 = 3, (33 < fs_N ∧ fs_kd 33 = 100) ∧ (0 : Int) ≤ i ∧ i < fs_ln 33]) rfl rfl rfl (fs_oc fs_ob32 (fs_oc (fs_ar33 (by omega) (by omega)) trivial)) rfl rfl (Nat.le_of_ble_eq_true rfl) ⟨Or.inr (Nat.le_of_ble_eq_true rfl), Or.inr fs_ob20⟩ (by decide) ?_
      refine fs_c_priceAt (by assumption) (by omega) (by omega) ?_
      refine fs_r_goto (L1 := [some (.inr (.ref 20)), some (.inr (.ref 32)), some (.inl (n + ((M 25 i) * ((ec_price (mk M) i 0) - (ec_price (mk M) i (M 33 i)))))), some (.inl (i + 1)), some (.inl ((ec_price (mk M) i 0) - (ec_price (mk M) i (M 33 i))))]) (st1 := []) (M1 := M) (ob := [fs_rg ((ec_price (mk M) i 0) - (ec_price (mk M) i (M 33 i))), 4 < 5, 20 < fs_N ∧ fs_kd 20 = 1, (25 < fs_N ∧ fs_kd 25 = 100) ∧ (0 : Int) ≤ i ∧ i < fs_ln 25, fs_rg ((M 25 i) * ((ec_price (mk M) i 0) - (ec_price (mk M) i (M 33 i)))), fs_rg (n + ((M 25 i) * ((ec_price (mk M) i 0) - (ec_price (mk M) i (M 33 i))))), 2 < 5, fs_rg (i + 1)]) rfl (fs_exA 6 (o1 := [fs_rg ((ec_price (mk M) i 0) - (ec_price (mk M) i (M 33 i))), 4 < 5, 20 < fs_N ∧ fs_kd 20 = 1]) (L1 := [some (.inr (.ref 20)), some (.inr (.ref 32)), some (.inl n), some (.inl i), some (.inl ((ec_price (mk M) i 0) - (ec_price (mk M) i (M 33 i))))]) (st1 := [.inl i, .inr (.ref 25), .inl n]) (M1 := M) (o2 := [(25 < fs_N ∧ fs_kd 25 = 100) ∧ (0 : Int) ≤ i ∧ i < fs_ln 25, fs_rg ((M 25 i) * ((ec_price (mk M) i 0) - (ec_price (mk M) i (M 33 i)))), fs_rg (n + ((M 25 i) * ((ec_price (mk M) i 0) - (ec_price (mk M) i (M 33 i))))), 2 < 5, fs_rg (i + 1)]) rfl rfl) (fs_oc ⟨by omega, by omega⟩ (fs_oc (by decide) (fs_oc fs_ob20 (fs_oc (fs_ar25 (by omega) (by omega)) (fs_oc ⟨by omega, by omega⟩ (fs_oc ⟨by omega, by omega⟩ (fs_oc (by decide) (fs_oc ⟨by omega, by omega⟩ trivial)))))))) ?_
      exact ih4 ((n + ((M 25 i) * ((ec_price (mk M) i 0) - (ec_price (mk M) i (M 33 i)))))) ((i + 1)) (some (.inl ((ec_price (mk M) i 0) - (ec_price (mk M) i (M 33 i))))) (by omega) (by rw [fs_sum_s i0.1, n0, q6]; rfl) (by omega)
  exact loop4 (((M 20 0 - (0)) : Int) + 1).toNat (0) (0) (none) (by omega) (rfl) (by omega)

theorem fs_c_tell {d : Nat} {M : fs_M} {Q : Option fs_V → fs_M → Prop} {w : Int}  (hM : mk_b M) (hS : sb M 32) (hw : (4 ≤ w ∧ w ≤ 7) ∨ (0 ≤ w ∧ w < M 20 0)) (hq0 : Q (some (.inl (ec_tell (mk M) (sst M 32) w))) M) : fs_W (d + 3) 46 0 [some (.inr (.ref 20)), some (.inr (.ref 32)), some (.inl w)] [] M Q := by
  obtain ⟨⟨hA0, hA1⟩, ⟨hH0, hH1⟩, ⟨hf0, hf1⟩, hma, hmh, hmo, hml⟩ := id hM
  obtain ⟨⟨hs0, hs1⟩, hsd⟩ := sb32 hS
  refine fs_r_sw (a := w) (L1 := [some (.inr (.ref 20)), some (.inr (.ref 32)), some (.inl w)]) (st1 := []) (M1 := M) (ob := []) rfl rfl trivial ?_
  by_cases h1 : w = 4
  · have eh1 : ((1 : Nat) + fs_sw 55 4 7 #[31, 36, 42, 50] w : Int).toNat = 32 := by rw [h1]; decide
    rw [eh1]
    refine fs_r_iret (a := (M 32 1)) (L1 := [some (.inr (.ref 20)), some (.inr (.ref 32)), some (.inl w)]) (M1 := M) (ob := [32 < fs_N ∧ fs_kd 32 = 3]) rfl rfl (fs_oc fs_ob32 trivial) (Or.inl rfl) ?_
    exact fs_qi (by rw [show w = 4 by assumption]; exact sst_4.symm) hq0
  by_cases h2 : w = 5
  · have eh2 : ((1 : Nat) + fs_sw 55 4 7 #[31, 36, 42, 50] w : Int).toNat = 37 := by rw [h2]; decide
    rw [eh2]
    refine fs_r_call (sta := false) (idx := 151) (as := [.inr (.ref 20), .inr (.ref 32)]) (rest := []) (L1 := [some (.inr (.ref 20)), some (.inr (.ref 32)), some (.inl w)]) (st1 := [.inr (.ref 32), .inr (.ref 20)]) (M1 := M) (ob := []) rfl rfl rfl trivial rfl rfl (Nat.le_of_ble_eq_true rfl) ⟨Or.inr (Nat.le_of_ble_eq_true rfl), Or.inr fs_ob20⟩ (by decide) ?_
    refine fs_c_lostIn (by assumption) (by assumption) ?_
    refine fs_r_iret (a := (ec_lost (mk M) (sst M 32))) (L1 := [some (.inr (.ref 20)), some (.inr (.ref 32)), some (.inl w)]) (M1 := M) (ob := []) rfl rfl trivial (Or.inl rfl) ?_
    exact fs_qi (by rw [show w = 5 by assumption]; rfl) hq0
  by_cases h3 : w = 6
  · have eh3 : ((1 : Nat) + fs_sw 55 4 7 #[31, 36, 42, 50] w : Int).toNat = 43 := by rw [h3]; decide
    rw [eh3]
    refine fs_r_call (sta := true) (idx := 155) (as := [.inl (M 32 1)]) (rest := []) (L1 := [some (.inr (.ref 20)), some (.inr (.ref 32)), some (.inl w)]) (st1 := [.inl (M 32 1)]) (M1 := M) (ob := [32 < fs_N ∧ fs_kd 32 = 3]) rfl rfl rfl (fs_oc fs_ob32 trivial) rfl rfl (Nat.le_of_ble_eq_true rfl) ⟨Or.inr (Nat.le_of_ble_eq_true rfl), trivial⟩ (by decide) ?_
    refine fs_c_bitCount (by omega) ?_
    refine fs_r_iret (a := (fs_pop (M 32 1))) (L1 := [some (.inr (.ref 20)), some (.inr (.ref 32)), some (.inl w)]) (M1 := M) (ob := []) rfl rfl trivial (Or.inl rfl) ?_
    exact fs_qi (by rw [show w = 6 by assumption]; show _ = fs_pop (sst M 32 4); rw [sst_4]) hq0
  by_cases h4 : w = 7
  · have eh4 : ((1 : Nat) + fs_sw 55 4 7 #[31, 36, 42, 50] w : Int).toNat = 51 := by rw [h4]; decide
    rw [eh4]
    refine fs_r_call (sta := false) (idx := 160) (as := [.inr (.ref 32)]) (rest := []) (L1 := [some (.inr (.ref 20)), some (.inr (.ref 32)), some (.inl w)]) (st1 := [.inr (.ref 32)]) (M1 := M) (ob := []) rfl rfl rfl trivial rfl rfl (Nat.le_of_ble_eq_true rfl) ⟨Or.inr (Nat.le_of_ble_eq_true rfl), Or.inr fs_ob32⟩ (by decide) ?_
    refine fs_c_allSold (by assumption) ?_
    refine fs_r_iret (a := (M 33 0 + M 33 1 + M 33 2 + M 33 3)) (L1 := [some (.inr (.ref 20)), some (.inr (.ref 32)), some (.inl w)]) (M1 := M) (ob := []) rfl rfl trivial (Or.inl rfl) ?_
    exact fs_qi (by rw [show w = 7 by assumption]; show _ = sst M 32 0 + sst M 32 1 + sst M 32 2 + sst M 32 3; rw [sst_at (by omega), sst_at (by omega), sst_at (by omega), sst_at (by omega)]) hq0
  have h5 : ((1 : Nat) + fs_sw 55 4 7 #[31, 36, 42, 50] w : Int).toNat = 56 := by unfold fs_sw; rw [if_pos (by omega)]; rfl
  rw [h5]
  refine fs_r_if (a := w) (L1 := [some (.inr (.ref 20)), some (.inr (.ref 32)), some (.inl w)]) (st1 := []) (M1 := M) (ob := []) rfl rfl trivial (fun (h6 : w < 0) => ?_) (fun (h6 : ¬ (w < 0)) => ?_)
  · refine fs_r_nop (L1 := [some (.inr (.ref 20)), some (.inr (.ref 32)), some (.inl w)]) (st1 := [.inl (-1)]) (M1 := M) (ob := []) rfl rfl trivial ?_
    refine fs_r_iret (a := (-1)) (L1 := [some (.inr (.ref 20)), some (.inr (.ref 32)), some (.inl w)]) (M1 := M) (ob := []) rfl rfl trivial (Or.inl rfl) ?_
    first
      | (exfalso; omega)
      | exact fs_qi (by unfold ec_tell; rw [if_pos (by omega), sst_at (by omega)]) hq0
  refine fs_r_icmp (a := w) (y := (M 20 0)) (L1 := [some (.inr (.ref 20)), some (.inr (.ref 32)), some (.inl w)]) (st1 := []) (M1 := M) (ob := [20 < fs_N ∧ fs_kd 20 = 1]) rfl rfl (fs_oc fs_ob20 trivial) (fun (h7 : (M 20 0) ≤ w) => ?_) (fun (h7 : ¬ ((M 20 0) ≤ w)) => ?_)
  · refine fs_r_nop (L1 := [some (.inr (.ref 20)), some (.inr (.ref 32)), some (.inl w)]) (st1 := [.inl (-1)]) (M1 := M) (ob := []) rfl rfl trivial ?_
    refine fs_r_iret (a := (-1)) (L1 := [some (.inr (.ref 20)), some (.inr (.ref 32)), some (.inl w)]) (M1 := M) (ob := []) rfl rfl trivial (Or.inl rfl) ?_
    first
      | (exfalso; omega)
      | exact fs_qi (by unfold ec_tell; rw [if_pos (by omega), sst_at (by omega)]) hq0
  refine fs_r_goto (L1 := [some (.inr (.ref 20)), some (.inr (.ref 32)), some (.inl w)]) (st1 := [.inl (M 33 w)]) (M1 := M) (ob := [32 < fs_N ∧ fs_kd 32 = 3, (33 < fs_N ∧ fs_kd 33 = 100) ∧ (0 : Int) ≤ w ∧ w < fs_ln 33]) rfl rfl (fs_oc fs_ob32 (fs_oc (fs_ar33 (by omega) (by omega)) trivial)) ?_
  refine fs_r_iret (a := (M 33 w)) (L1 := [some (.inr (.ref 20)), some (.inr (.ref 32)), some (.inl w)]) (M1 := M) (ob := []) rfl rfl trivial (Or.inl rfl) ?_
  first
    | (exfalso; omega)
    | exact fs_qi (by unfold ec_tell; rw [if_pos (by omega), sst_at (by omega)]) hq0

theorem fs_c_give {d : Nat} {M : fs_M} {Q : Option fs_V → fs_M → Prop} {h : Int} {v : Int}  (hh : 0 ≤ h ∧ h < 6) (hv : -60000 ≤ M 27 h + v ∧ M 27 h + v ≤ 60000) (hq0 : Q none (fs_up M 27 h ((M 27 h) + v))) : fs_W (d) 33 0 [some (.inr (.ref 20)), some (.inl h), some (.inl v)] [] M Q := by
  refine fs_r_ret (L1 := [some (.inr (.ref 20)), some (.inl h), some (.inl v)]) (M1 := (fs_up M 27 h ((M 27 h) + v))) (ob := [20 < fs_N ∧ fs_kd 20 = 1, (27 < fs_N ∧ fs_kd 27 = 100) ∧ (0 : Int) ≤ h ∧ h < fs_ln 27, fs_rg ((M 27 h) + v), (27 < fs_N ∧ fs_kd 27 = 100) ∧ (0 : Int) ≤ h ∧ h < fs_ln 27]) rfl (fs_exA 6 (o1 := [20 < fs_N ∧ fs_kd 20 = 1, (27 < fs_N ∧ fs_kd 27 = 100) ∧ (0 : Int) ≤ h ∧ h < fs_ln 27]) (L1 := [some (.inr (.ref 20)), some (.inl h), some (.inl v)]) (st1 := [.inl v, .inl (M 27 h), .inl h, .inr (.ref 27)]) (M1 := M) (o2 := [fs_rg ((M 27 h) + v), (27 < fs_N ∧ fs_kd 27 = 100) ∧ (0 : Int) ≤ h ∧ h < fs_ln 27]) rfl rfl) (fs_oc fs_ob20 (fs_oc (fs_ar27 (by omega) (by omega)) (fs_oc ⟨by omega, by omega⟩ (fs_oc (fs_ar27 (by omega) (by omega)) trivial)))) ?_
  exact hq0
