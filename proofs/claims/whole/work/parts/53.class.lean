theorem ec_ord_inv {E : Nat → Int → Int} {h k : Int} : ec_ord E h (ec_ord E h k) = k := by
  unfold ec_ord
  by_cases z : E 9 (5 * h + 4) = 0
  · rw [if_pos z, if_pos z]
  · rw [if_neg z, if_neg z]
    omega
theorem ed_left_s {E : Nat → Int → Int} {h due i : Int} (hi : 0 ≤ i) (hp : 0 ≤ E 10 (4 * h + ec_ord E h i)) : ec_left E h due (i + 1) = ec_left E h due i - min (ec_left E h due i) (E 10 (4 * h + ec_ord E h i)) := by
  unfold ec_left
  rw [fs_sum_s hi]
  omega
theorem ec_left_n {E : Nat → Int → Int} {h due i : Int} (hi : 0 ≤ i) (hp : ∀ k, 0 ≤ k → k < E 0 0 → 0 ≤ E 10 (4 * h + k)) : ∀ n : Nat, i + n ≤ E 0 0 → 0 ≤ ec_left E h due (i + n) ∧ ec_left E h due (i + n) ≤ ec_left E h due i
  | 0, _ => by
    have : 0 ≤ ec_left E h due i := by unfold ec_left; omega
    rw [show i + ((0 : Nat) : Int) = i by omega]
    omega
  | n + 1, hn => by
    have ih := ec_left_n (due := due) hi hp n (by omega)
    have ho := ec_ord_in (E := E) (h := h) (k := i + n) ⟨by omega, by omega⟩
    have h0 := hp _ ho.1 ho.2
    have es := ed_left_s (E := E) (h := h) (due := due) (i := i + n) (by omega) h0
    rw [show i + ((n + 1 : Nat) : Int) = i + n + 1 by omega]
    omega
theorem ec_left_z {E : Nat → Int → Int} {h due i j : Int} (hi : 0 ≤ i) (hj : i ≤ j) (hA : j ≤ E 0 0) (hp : ∀ k, 0 ≤ k → k < E 0 0 → 0 ≤ E 10 (4 * h + k)) (z : ec_left E h due i ≤ 0) : ec_left E h due j = 0 := by
  have := ec_left_n (due := due) hi hp (j - i).toNat (by omega)
  rw [show i + (((j - i).toNat : Nat) : Int) = j by omega] at this
  omega
theorem fs_c_addSales35 {d : Nat} {M : fs_M} {Q : Option fs_V → fs_M → Prop} {h : Int} {due : Int}  (hM : mk_b M) (hh : 0 ≤ h ∧ h < M 20 1) (hd : 0 ≤ due ∧ due ≤ 240) (hR : ∀ q, 0 ≤ q → q < 4 → 0 ≤ M 35 q ∧ M 35 q ≤ 2000) (hq0 : ∀ (M2 : fs_M), (∀ r, r ≠ 35 → M2 r = M r) → (∀ q, 0 ≤ q → q < 4 → M2 35 q = M 35 q + (if q < M 20 0 then ec_part (mk M) h due q else 0)) → Q none M2) : fs_W (d + 1) 41 0 [some (.inr (.ref 20)), some (.inl h), some (.inl due), some (.inr (.ref 35)), none, none, none, none, none] [] M Q := by
  obtain ⟨⟨hA0, hA1⟩, ⟨hH0, hH1⟩, ⟨hf0, hf1⟩, hma, hmh, hmo, hml⟩ := id hM
  obtain ⟨x1, x2, x3, x4, x5⟩ := hmh h hh.1 hh.2
  have y4 : M 29 ((h * 5) + 4) = M 29 (5 * h + 4) := congrArg (M 29) (by omega)
  have hp0 : ∀ k, 0 ≤ k → k < mk M 0 0 → 0 ≤ mk M 10 (4 * h + k) := fun k k0 k1 => (hmo h k hh.1 hh.2 k0 k1).1
  have eo : ∀ k, ec_ord (mk M) h k = if M 29 (5 * h + 4) = 0 then k else M 20 0 - 1 - k := fun _ => rfl
  have join19 : ∀ (fa : Int), (fa = if M 29 (5 * h + 4) = 0 then 0 else 1) → fs_W (d + 1) 41 19 [some (.inr (.ref 20)), some (.inl h), some (.inl due), some (.inr (.ref 35)), none, none, none, none, none] [.inl fa] M Q := by
    intro fa fa0
    refine fs_r_nop (L1 := [some (.inr (.ref 20)), some (.inl h), some (.inl due), some (.inr (.ref 35)), some (.inl fa), some (.inl due), some (.inl 0), none, none]) (st1 := []) (M1 := M) (ob := [4 < 9, 5 < 9, 6 < 9]) rfl rfl (fs_oc (by decide) (fs_oc (by decide) (fs_oc (by decide) trivial))) ?_
    have loop27 : ∀ (n27 : Nat) (left : Int) (i : Int) (zl7 : Option fs_V) (zl8 : Option fs_V) (M2 : fs_M), (0 ≤ i ∧ i ≤ M 20 0) → (left = ec_left (mk M) h due i) → (∀ r, r ≠ 35 → M2 r = M r) → (∀ q, 0 ≤ q → q < 4 → M2 35 q = M 35 q + (if q < M 20 0 ∧ ec_ord (mk M) h q < i then ec_part (mk M) h due q else 0)) → M 20 0 - i < (n27 : Int) → fs_W (d + 1) 41 27 [some (.inr (.ref 20)), some (.inl h), some (.inl due), some (.inr (.ref 35)), some (.inl fa), some (.inl left), some (.inl i), zl7, zl8] [] M2 Q := by
      intro n27
      induction n27 with
      | zero =>
        intro left i zl7 zl8 M2 i0 l0 f0 p0 hm27
        exfalso
        omega
      | succ n27 ih27 =>
        intro left i zl7 zl8 M2 i0 l0 f0 p0 hm27
        have e20 := congrFun (f0 20 (by decide)) 0
        have e30 := f0 30 (by decide)
        have lb2 : left ≤ 240 ∧ 0 ≤ left := by { rw [l0]; have w := ec_left_n (E := mk M) (h := h) (due := due) (i := 0) (by omega) hp0 i.toNat (by show 0 + ((i.toNat : Nat) : Int) ≤ M 20 0; omega); rw [show 0 + ((i.toNat : Nat) : Int) = i by omega] at w; have w2 : ec_left (mk M) h due 0 = max 0 (due - 0) := rfl; omega }
        refine fs_r_icmp (a := i) (y := (M2 20 0)) (L1 := [some (.inr (.ref 20)), some (.inl h), some (.inl due), some (.inr (.ref 35)), some (.inl fa), some (.inl left), some (.inl i), zl7, zl8]) (st1 := []) (M1 := M2) (ob := [20 < fs_N ∧ fs_kd 20 = 1]) rfl rfl (fs_oc fs_ob20 trivial) (fun (h1 : (M2 20 0) ≤ i) => ?_) (fun (h1 : ¬ ((M2 20 0) ≤ i)) => ?_)
        · refine fs_r_ret (L1 := [some (.inr (.ref 20)), some (.inl h), some (.inl due), some (.inr (.ref 35)), some (.inl fa), some (.inl left), some (.inl i), zl7, zl8]) (M1 := M2) (ob := []) rfl rfl trivial ?_
          refine hq0 _ f0 (fun q q0 q1 => ?_)
          rw [p0 q q0 q1]
          by_cases z : q < M 20 0
          · have w := ec_ord_in (E := mk M) (h := h) (k := q) ⟨q0, z⟩
            rw [if_pos z]
            by_cases y : ec_ord (mk M) h q < i
            · rw [if_pos ⟨z, y⟩]
            · rw [if_neg (fun w => y w.2)]
              have w2 : ec_ord (mk M) h q < M 20 0 := w.2
              have w3 : ec_left (mk M) h due (ec_ord (mk M) h q) = 0 := ec_left_z i0.1 (by omega) (by show _ ≤ M 20 0; omega) hp0 (by omega)
              have w4 : 0 ≤ mk M 10 (4 * h + q) := hp0 q q0 z
              unfold ec_part
              rw [w3]
              omega
          · rw [if_neg z, if_neg (fun w => z w.1)]
        refine fs_r_if (a := left) (L1 := [some (.inr (.ref 20)), some (.inl h), some (.inl due), some (.inr (.ref 35)), some (.inl fa), some (.inl left), some (.inl i), zl7, zl8]) (st1 := []) (M1 := M2) (ob := []) rfl rfl trivial (fun (h2 : left ≤ 0) => ?_) (fun (h2 : ¬ (left ≤ 0)) => ?_)
        · refine fs_r_ret (L1 := [some (.inr (.ref 20)), some (.inl h), some (.inl due), some (.inr (.ref 35)), some (.inl fa), some (.inl left), some (.inl i), zl7, zl8]) (M1 := M2) (ob := []) rfl rfl trivial ?_
          refine hq0 _ f0 (fun q q0 q1 => ?_)
          rw [p0 q q0 q1]
          by_cases z : q < M 20 0
          · have w := ec_ord_in (E := mk M) (h := h) (k := q) ⟨q0, z⟩
            rw [if_pos z]
            by_cases y : ec_ord (mk M) h q < i
            · rw [if_pos ⟨z, y⟩]
            · rw [if_neg (fun w => y w.2)]
              have w2 : ec_ord (mk M) h q < M 20 0 := w.2
              have w3 : ec_left (mk M) h due (ec_ord (mk M) h q) = 0 := ec_left_z i0.1 (by omega) (by show _ ≤ M 20 0; omega) hp0 (by omega)
              have w4 : 0 ≤ mk M 10 (4 * h + q) := hp0 q q0 z
              unfold ec_part
              rw [w3]
              omega
          · rw [if_neg z, if_neg (fun w => z w.1)]
        have join60 : ∀ (a : Int), (a = ec_ord (mk M) h i) → fs_W (d + 1) 41 60 [some (.inr (.ref 20)), some (.inl h), some (.inl due), some (.inr (.ref 35)), some (.inl fa), some (.inl left), some (.inl i), zl7, zl8] [.inl a] M2 Q := by
          intro a a0
          have ob := ec_ord_in (E := mk M) (h := h) (k := i) ⟨i0.1, by show i < M 20 0; omega⟩
          rw [← a0] at ob
          have ob2 : a < M 20 0 := ob.2
          have oi : ec_ord (mk M) h a = i := by rw [a0]; exact ec_ord_inv
          have q1 := hmo h a hh.1 hh.2 ob.1 ob2
          have q4 : M 30 ((h * 4) + a) = M 30 (4 * h + a) := congrArg (M 30) (by omega)
          have q5 : M2 30 ((h * 4) + a) = M 30 (4 * h + a) := by rw [e30]; exact q4
          have q6 := p0 a ob.1 (by omega)
          rw [if_neg (fun z => by rw [oi] at z; omega), Int.add_zero] at q6
          have q7 := hR a ob.1 (by omega)
          have lb : 0 ≤ left := by omega
          have es := ed_left_s (E := mk M) (h := h) (due := due) (i := i) i0.1 (by rw [← a0]; exact q1.1)
          rw [← a0, ← l0] at es
          have es2 : ec_left (mk M) h due (i + 1) = left - min left (M 30 (4 * h + a)) := es
          have ep : ec_part (mk M) h due a = min (M 30 (4 * h + a)) left := by unfold ec_part; rw [oi, l0]; rfl
          refine fs_r_nat (v := .inl (min left (M2 30 ((h * 4) + a)))) (sta := true) (idx := 104) (as := [.inl left, .inl (M2 30 ((h * 4) + a))]) (rest := []) (L1 := [some (.inr (.ref 20)), some (.inl h), some (.inl due), some (.inr (.ref 35)), some (.inl fa), some (.inl left), some (.inl i), some (.inl a), zl8]) (st1 := [.inl (M2 30 ((h * 4) + a)), .inl left]) (M1 := M2) (ob := [7 < 9, 20 < fs_N ∧ fs_kd 20 = 1, fs_rg (h * 4), fs_rg ((h * 4) + a), (30 < fs_N ∧ fs_kd 30 = 100) ∧ (0 : Int) ≤ ((h * 4) + a) ∧ ((h * 4) + a) < fs_ln 30]) rfl rfl (fs_exA 6 (o1 := [7 < 9, 20 < fs_N ∧ fs_kd 20 = 1]) (L1 := [some (.inr (.ref 20)), some (.inl h), some (.inl due), some (.inr (.ref 35)), some (.inl fa), some (.inl left), some (.inl i), some (.inl a), zl8]) (st1 := [.inl 4, .inl h, .inr (.ref 30), .inl left]) (M1 := M2) (o2 := [fs_rg (h * 4), fs_rg ((h * 4) + a), (30 < fs_N ∧ fs_kd 30 = 100) ∧ (0 : Int) ≤ ((h * 4) + a) ∧ ((h * 4) + a) < fs_ln 30]) rfl rfl) (fs_oc (by decide) (fs_oc fs_ob20 (fs_oc ⟨by omega, by omega⟩ (fs_oc ⟨by omega, by omega⟩ (fs_oc (fs_ar30 (by omega) (by omega)) trivial))))) rfl rfl (Nat.le_of_ble_eq_true rfl) ⟨Or.inl (by decide), trivial⟩ (by decide) (rfl) ?_
          refine fs_r_goto (L1 := [some (.inr (.ref 20)), some (.inl h), some (.inl due), some (.inr (.ref 35)), some (.inl fa), some (.inl (left - (min left (M2 30 ((h * 4) + a))))), some (.inl (i + 1)), some (.inl a), some (.inl (min left (M2 30 ((h * 4) + a))))]) (st1 := []) (M1 := (fs_up M2 35 a ((M2 35 a) + (min left (M2 30 ((h * 4) + a)))))) (ob := [8 < 9, (35 < fs_N ∧ fs_kd 35 = 100) ∧ (0 : Int) ≤ a ∧ a < fs_ln 35, fs_rg ((M2 35 a) + (min left (M2 30 ((h * 4) + a)))), (35 < fs_N ∧ fs_kd 35 = 100) ∧ (0 : Int) ≤ a ∧ a < fs_ln 35, fs_rg (left - (min left (M2 30 ((h * 4) + a)))), 5 < 9, fs_rg (i + 1)]) rfl (fs_exA 6 (o1 := [8 < 9, (35 < fs_N ∧ fs_kd 35 = 100) ∧ (0 : Int) ≤ a ∧ a < fs_ln 35]) (L1 := [some (.inr (.ref 20)), some (.inl h), some (.inl due), some (.inr (.ref 35)), some (.inl fa), some (.inl left), some (.inl i), some (.inl a), some (.inl (min left (M2 30 ((h * 4) + a))))]) (st1 := [.inl (min left (M2 30 ((h * 4) + a))), .inl (M2 35 a), .inl a, .inr (.ref 35)]) (M1 := M2) (o2 := [fs_rg ((M2 35 a) + (min left (M2 30 ((h * 4) + a)))), (35 < fs_N ∧ fs_kd 35 = 100) ∧ (0 : Int) ≤ a ∧ a < fs_ln 35, fs_rg (left - (min left (M2 30 ((h * 4) + a)))), 5 < 9, fs_rg (i + 1)]) rfl rfl) (fs_oc (by decide) (fs_oc (fs_ar35 (by omega) (by omega)) (fs_oc ⟨by omega, by omega⟩ (fs_oc (fs_ar35 (by omega) (by omega)) (fs_oc ⟨by omega, by omega⟩ (fs_oc (by decide) (fs_oc ⟨by omega, by omega⟩ trivial))))))) ?_
          exact ih27 ((left - (min left (M2 30 ((h * 4) + a))))) ((i + 1)) (some (.inl a)) (some (.inl (min left (M2 30 ((h * 4) + a))))) (fs_up M2 35 a ((M2 35 a) + (min left (M2 30 ((h * 4) + a))))) (by omega) (by rw [es2, ← q5]) (fun r q => by rw [fs_up_other q]; exact f0 r q) (fun q q0 q1 => by
                   rw [fs_up_at]
                   by_cases z : q = a
                   · rw [if_pos z, z, if_pos ⟨ob2, by rw [oi]; omega⟩, ep, q5, q6]
                     omega
                   · rw [if_neg z, p0 q q0 q1]
                     have ne : q < M 20 0 → ec_ord (mk M) h q ≠ i := fun w1 w2 => z (by rw [a0, ← w2]; exact ec_ord_inv.symm)
                     by_cases y : q < M 20 0 ∧ ec_ord (mk M) h q < i
                     · rw [if_pos y, if_pos ⟨y.1, by omega⟩]
                     · rw [if_neg y, if_neg (fun w => y ⟨w.1, by have := ne w.1; omega⟩)]) (by omega)
        refine fs_r_if (a := fa) (L1 := [some (.inr (.ref 20)), some (.inl h), some (.inl due), some (.inr (.ref 35)), some (.inl fa), some (.inl left), some (.inl i), zl7, zl8]) (st1 := []) (M1 := M2) (ob := []) rfl rfl trivial (fun (h3 : fa = 0) => ?_) (fun (h3 : ¬ (fa = 0)) => ?_)
        · refine fs_r_nop (L1 := [some (.inr (.ref 20)), some (.inl h), some (.inl due), some (.inr (.ref 35)), some (.inl fa), some (.inl left), some (.inl i), zl7, zl8]) (st1 := [.inl i]) (M1 := M2) (ob := []) rfl rfl trivial ?_
          exact join60 (i) (by rw [eo]; split <;> split at fa0 <;> omega)
        refine fs_r_goto (L1 := [some (.inr (.ref 20)), some (.inl h), some (.inl due), some (.inr (.ref 35)), some (.inl fa), some (.inl left), some (.inl i), zl7, zl8]) (st1 := [.inl (((M2 20 0) - 1) - i)]) (M1 := M2) (ob := [20 < fs_N ∧ fs_kd 20 = 1, fs_rg ((M2 20 0) - 1), fs_rg (((M2 20 0) - 1) - i)]) rfl rfl (fs_oc fs_ob20 (fs_oc ⟨by omega, by omega⟩ (fs_oc ⟨by omega, by omega⟩ trivial))) ?_
        exact join60 ((((M2 20 0) - 1) - i)) (by rw [eo]; split <;> split at fa0 <;> omega)
    exact loop27 (((M 20 0 - (0)) : Int) + 1).toNat (due) (0) (none) (none) M (by omega) (by show due = max 0 (due - 0); omega) (fun r _ => rfl) (fun q q0 q1 => by
             have w := fun (z : q < M 20 0) => ec_ord_in (E := mk M) (h := h) (k := q) ⟨q0, z⟩
             rw [if_neg (fun z => by have := w z.1; omega)]
             omega) (by omega)
  refine fs_r_icmp (a := (M 29 ((h * 5) + 4))) (y := 1) (L1 := [some (.inr (.ref 20)), some (.inl h), some (.inl due), some (.inr (.ref 35)), none, none, none, none, none]) (st1 := []) (M1 := M) (ob := [20 < fs_N ∧ fs_kd 20 = 1, fs_rg (h * 5), fs_rg ((h * 5) + 4), (29 < fs_N ∧ fs_kd 29 = 100) ∧ (0 : Int) ≤ ((h * 5) + 4) ∧ ((h * 5) + 4) < fs_ln 29]) rfl (fs_exA 6 (o1 := [20 < fs_N ∧ fs_kd 20 = 1, fs_rg (h * 5)]) (L1 := [some (.inr (.ref 20)), some (.inl h), some (.inl due), some (.inr (.ref 35)), none, none, none, none, none]) (st1 := [.inl 4, .inl (h * 5), .inr (.ref 29)]) (M1 := M) (o2 := [fs_rg ((h * 5) + 4), (29 < fs_N ∧ fs_kd 29 = 100) ∧ (0 : Int) ≤ ((h * 5) + 4) ∧ ((h * 5) + 4) < fs_ln 29]) rfl rfl) (fs_oc fs_ob20 (fs_oc ⟨by omega, by omega⟩ (fs_oc ⟨by omega, by omega⟩ (fs_oc (fs_ar29 (by omega) (by omega)) trivial)))) (fun (h4 : ¬ (M 29 ((h * 5) + 4)) = 1) => ?_) (fun (h4 : ¬ (¬ (M 29 ((h * 5) + 4)) = 1)) => ?_)
  · refine fs_r_nop (L1 := [some (.inr (.ref 20)), some (.inl h), some (.inl due), some (.inr (.ref 35)), none, none, none, none, none]) (st1 := [.inl 0]) (M1 := M) (ob := []) rfl rfl trivial ?_
    exact join19 (0) (by first | (rw [if_pos (by omega)]) | (rw [if_neg (by omega)]))
  refine fs_r_goto (L1 := [some (.inr (.ref 20)), some (.inl h), some (.inl due), some (.inr (.ref 35)), none, none, none, none, none]) (st1 := [.inl 1]) (M1 := M) (ob := []) rfl rfl trivial ?_
  exact join19 (1) (by first | (rw [if_pos (by omega)]) | (rw [if_neg (by omega)]))

theorem fs_c_addSales37 {d : Nat} {M : fs_M} {Q : Option fs_V → fs_M → Prop} {h : Int} {due : Int}  (hM : mk_b M) (hh : 0 ≤ h ∧ h < M 20 1) (hd : 0 ≤ due ∧ due ≤ 240) (hR : ∀ q, 0 ≤ q → q < 4 → 0 ≤ M 37 q ∧ M 37 q ≤ 2000) (hq0 : ∀ (M2 : fs_M), (∀ r, r ≠ 37 → M2 r = M r) → (∀ q, 0 ≤ q → q < 4 → M2 37 q = M 37 q + (if q < M 20 0 then ec_part (mk M) h due q else 0)) → Q none M2) : fs_W (d + 1) 41 0 [some (.inr (.ref 20)), some (.inl h), some (.inl due), some (.inr (.ref 37)), none, none, none, none, none] [] M Q := by
  obtain ⟨⟨hA0, hA1⟩, ⟨hH0, hH1⟩, ⟨hf0, hf1⟩, hma, hmh, hmo, hml⟩ := id hM
  obtain ⟨x1, x2, x3, x4, x5⟩ := hmh h hh.1 hh.2
  have y4 : M 29 ((h * 5) + 4) = M 29 (5 * h + 4) := congrArg (M 29) (by omega)
  have hp0 : ∀ k, 0 ≤ k → k < mk M 0 0 → 0 ≤ mk M 10 (4 * h + k) := fun k k0 k1 => (hmo h k hh.1 hh.2 k0 k1).1
  have eo : ∀ k, ec_ord (mk M) h k = if M 29 (5 * h + 4) = 0 then k else M 20 0 - 1 - k := fun _ => rfl
  have join19 : ∀ (fa : Int), (fa = if M 29 (5 * h + 4) = 0 then 0 else 1) → fs_W (d + 1) 41 19 [some (.inr (.ref 20)), some (.inl h), some (.inl due), some (.inr (.ref 37)), none, none, none, none, none] [.inl fa] M Q := by
    intro fa fa0
    refine fs_r_nop (L1 := [some (.inr (.ref 20)), some (.inl h), some (.inl due), some (.inr (.ref 37)), some (.inl fa), some (.inl due), some (.inl 0), none, none]) (st1 := []) (M1 := M) (ob := [4 < 9, 5 < 9, 6 < 9]) rfl rfl (fs_oc (by decide) (fs_oc (by decide) (fs_oc (by decide) trivial))) ?_
    have loop27 : ∀ (n27 : Nat) (left : Int) (i : Int) (zl7 : Option fs_V) (zl8 : Option fs_V) (M2 : fs_M), (0 ≤ i ∧ i ≤ M 20 0) → (left = ec_left (mk M) h due i) → (∀ r, r ≠ 37 → M2 r = M r) → (∀ q, 0 ≤ q → q < 4 → M2 37 q = M 37 q + (if q < M 20 0 ∧ ec_ord (mk M) h q < i then ec_part (mk M) h due q else 0)) → M 20 0 - i < (n27 : Int) → fs_W (d + 1) 41 27 [some (.inr (.ref 20)), some (.inl h), some (.inl due), some (.inr (.ref 37)), some (.inl fa), some (.inl left), some (.inl i), zl7, zl8] [] M2 Q := by
      intro n27
      induction n27 with
      | zero =>
        intro left i zl7 zl8 M2 i0 l0 f0 p0 hm27
        exfalso
        omega
      | succ n27 ih27 =>
        intro left i zl7 zl8 M2 i0 l0 f0 p0 hm27
        have e20 := congrFun (f0 20 (by decide)) 0
        have e30 := f0 30 (by decide)
        have lb2 : left ≤ 240 ∧ 0 ≤ left := by { rw [l0]; have w := ec_left_n (E := mk M) (h := h) (due := due) (i := 0) (by omega) hp0 i.toNat (by show 0 + ((i.toNat : Nat) : Int) ≤ M 20 0; omega); rw [show 0 + ((i.toNat : Nat) : Int) = i by omega] at w; have w2 : ec_left (mk M) h due 0 = max 0 (due - 0) := rfl; omega }
        refine fs_r_icmp (a := i) (y := (M2 20 0)) (L1 := [some (.inr (.ref 20)), some (.inl h), some (.inl due), some (.inr (.ref 37)), some (.inl fa), some (.inl left), some (.inl i), zl7, zl8]) (st1 := []) (M1 := M2) (ob := [20 < fs_N ∧ fs_kd 20 = 1]) rfl rfl (fs_oc fs_ob20 trivial) (fun (h1 : (M2 20 0) ≤ i) => ?_) (fun (h1 : ¬ ((M2 20 0) ≤ i)) => ?_)
        · refine fs_r_ret (L1 := [some (.inr (.ref 20)), some (.inl h), some (.inl due), some (.inr (.ref 37)), some (.inl fa), some (.inl left), some (.inl i), zl7, zl8]) (M1 := M2) (ob := []) rfl rfl trivial ?_
          refine hq0 _ f0 (fun q q0 q1 => ?_)
          rw [p0 q q0 q1]
          by_cases z : q < M 20 0
          · have w := ec_ord_in (E := mk M) (h := h) (k := q) ⟨q0, z⟩
            rw [if_pos z]
            by_cases y : ec_ord (mk M) h q < i
            · rw [if_pos ⟨z, y⟩]
            · rw [if_neg (fun w => y w.2)]
              have w2 : ec_ord (mk M) h q < M 20 0 := w.2
              have w3 : ec_left (mk M) h due (ec_ord (mk M) h q) = 0 := ec_left_z i0.1 (by omega) (by show _ ≤ M 20 0; omega) hp0 (by omega)
              have w4 : 0 ≤ mk M 10 (4 * h + q) := hp0 q q0 z
              unfold ec_part
              rw [w3]
              omega
          · rw [if_neg z, if_neg (fun w => z w.1)]
        refine fs_r_if (a := left) (L1 := [some (.inr (.ref 20)), some (.inl h), some (.inl due), some (.inr (.ref 37)), some (.inl fa), some (.inl left), some (.inl i), zl7, zl8]) (st1 := []) (M1 := M2) (ob := []) rfl rfl trivial (fun (h2 : left ≤ 0) => ?_) (fun (h2 : ¬ (left ≤ 0)) => ?_)
        · refine fs_r_ret (L1 := [some (.inr (.ref 20)), some (.inl h), some (.inl due), some (.inr (.ref 37)), some (.inl fa), some (.inl left), some (.inl i), zl7, zl8]) (M1 := M2) (ob := []) rfl rfl trivial ?_
          refine hq0 _ f0 (fun q q0 q1 => ?_)
          rw [p0 q q0 q1]
          by_cases z : q < M 20 0
          · have w := ec_ord_in (E := mk M) (h := h) (k := q) ⟨q0, z⟩
            rw [if_pos z]
            by_cases y : ec_ord (mk M) h q < i
            · rw [if_pos ⟨z, y⟩]
            · rw [if_neg (fun w => y w.2)]
              have w2 : ec_ord (mk M) h q < M 20 0 := w.2
              have w3 : ec_left (mk M) h due (ec_ord (mk M) h q) = 0 := ec_left_z i0.1 (by omega) (by show _ ≤ M 20 0; omega) hp0 (by omega)
              have w4 : 0 ≤ mk M 10 (4 * h + q) := hp0 q q0 z
              unfold ec_part
              rw [w3]
              omega
          · rw [if_neg z, if_neg (fun w => z w.1)]
        have join60 : ∀ (a : Int), (a = ec_ord (mk M) h i) → fs_W (d + 1) 41 60 [some (.inr (.ref 20)), some (.inl h), some (.inl due), some (.inr (.ref 37)), some (.inl fa), some (.inl left), some (.inl i), zl7, zl8] [.inl a] M2 Q := by
          intro a a0
          have ob := ec_ord_in (E := mk M) (h := h) (k := i) ⟨i0.1, by show i < M 20 0; omega⟩
          rw [← a0] at ob
          have ob2 : a < M 20 0 := ob.2
          have oi : ec_ord (mk M) h a = i := by rw [a0]; exact ec_ord_inv
          have q1 := hmo h a hh.1 hh.2 ob.1 ob2
          have q4 : M 30 ((h * 4) + a) = M 30 (4 * h + a) := congrArg (M 30) (by omega)
          have q5 : M2 30 ((h * 4) + a) = M 30 (4 * h + a) := by rw [e30]; exact q4
          have q6 := p0 a ob.1 (by omega)
          rw [if_neg (fun z => by rw [oi] at z; omega), Int.add_zero] at q6
          have q7 := hR a ob.1 (by omega)
          have lb : 0 ≤ left := by omega
          have es := ed_left_s (E := mk M) (h := h) (due := due) (i := i) i0.1 (by rw [← a0]; exact q1.1)
          rw [← a0, ← l0] at es
          have es2 : ec_left (mk M) h due (i + 1) = left - min left (M 30 (4 * h + a)) := es
          have ep : ec_part (mk M) h due a = min (M 30 (4 * h + a)) left := by unfold ec_part; rw [oi, l0]; rfl
          refine fs_r_nat (v := .inl (min left (M2 30 ((h * 4) + a)))) (sta := true) (idx := 104) (as := [.inl left, .inl (M2 30 ((h * 4) + a))]) (rest := []) (L1 := [some (.inr (.ref 20)), some (.inl h), some (.inl due), some (.inr (.ref 37)), some (.inl fa), some (.inl left), some (.inl i), some (.inl a), zl8]) (st1 := [.inl (M2 30 ((h * 4) + a)), .inl left]) (M1 := M2) (ob := [7 < 9, 20 < fs_N ∧ fs_kd 20 = 1, fs_rg (h * 4), fs_rg ((h * 4) + a), (30 < fs_N ∧ fs_kd 30 = 100) ∧ (0 : Int) ≤ ((h * 4) + a) ∧ ((h * 4) + a) < fs_ln 30]) rfl rfl (fs_exA 6 (o1 := [7 < 9, 20 < fs_N ∧ fs_kd 20 = 1]) (L1 := [some (.inr (.ref 20)), some (.inl h), some (.inl due), some (.inr (.ref 37)), some (.inl fa), some (.inl left), some (.inl i), some (.inl a), zl8]) (st1 := [.inl 4, .inl h, .inr (.ref 30), .inl left]) (M1 := M2) (o2 := [fs_rg (h * 4), fs_rg ((h * 4) + a), (30 < fs_N ∧ fs_kd 30 = 100) ∧ (0 : Int) ≤ ((h * 4) + a) ∧ ((h * 4) + a) < fs_ln 30]) rfl rfl) (fs_oc (by decide) (fs_oc fs_ob20 (fs_oc ⟨by omega, by omega⟩ (fs_oc ⟨by omega, by omega⟩ (fs_oc (fs_ar30 (by omega) (by omega)) trivial))))) rfl rfl (Nat.le_of_ble_eq_true rfl) ⟨Or.inl (by decide), trivial⟩ (by decide) (rfl) ?_
          refine fs_r_goto (L1 := [some (.inr (.ref 20)), some (.inl h), some (.inl due), some (.inr (.ref 37)), some (.inl fa), some (.inl (left - (min left (M2 30 ((h * 4) + a))))), some (.inl (i + 1)), some (.inl a), some (.inl (min left (M2 30 ((h * 4) + a))))]) (st1 := []) (M1 := (fs_up M2 37 a ((M2 37 a) + (min left (M2 30 ((h * 4) + a)))))) (ob := [8 < 9, (37 < fs_N ∧ fs_kd 37 = 100) ∧ (0 : Int) ≤ a ∧ a < fs_ln 37, fs_rg ((M2 37 a) + (min left (M2 30 ((h * 4) + a)))), (37 < fs_N ∧ fs_kd 37 = 100) ∧ (0 : Int) ≤ a ∧ a < fs_ln 37, fs_rg (left - (min left (M2 30 ((h * 4) + a)))), 5 < 9, fs_rg (i + 1)]) rfl (fs_exA 6 (o1 := [8 < 9, (37 < fs_N ∧ fs_kd 37 = 100) ∧ (0 : Int) ≤ a ∧ a < fs_ln 37]) (L1 := [some (.inr (.ref 20)), some (.inl h), some (.inl due), some (.inr (.ref 37)), some (.inl fa), some (.inl left), some (.inl i), some (.inl a), some (.inl (min left (M2 30 ((h * 4) + a))))]) (st1 := [.inl (min left (M2 30 ((h * 4) + a))), .inl (M2 37 a), .inl a, .inr (.ref 37)]) (M1 := M2) (o2 := [fs_rg ((M2 37 a) + (min left (M2 30 ((h * 4) + a)))), (37 < fs_N ∧ fs_kd 37 = 100) ∧ (0 : Int) ≤ a ∧ a < fs_ln 37, fs_rg (left - (min left (M2 30 ((h * 4) + a)))), 5 < 9, fs_rg (i + 1)]) rfl rfl) (fs_oc (by decide) (fs_oc (fs_ar37 (by omega) (by omega)) (fs_oc ⟨by omega, by omega⟩ (fs_oc (fs_ar37 (by omega) (by omega)) (fs_oc ⟨by omega, by omega⟩ (fs_oc (by decide) (fs_oc ⟨by omega, by omega⟩ trivial))))))) ?_
          exact ih27 ((left - (min left (M2 30 ((h * 4) + a))))) ((i + 1)) (some (.inl a)) (some (.inl (min left (M2 30 ((h * 4) + a))))) (fs_up M2 37 a ((M2 37 a) + (min left (M2 30 ((h * 4) + a))))) (by omega) (by rw [es2, ← q5]) (fun r q => by rw [fs_up_other q]; exact f0 r q) (fun q q0 q1 => by
                   rw [fs_up_at]
                   by_cases z : q = a
                   · rw [if_pos z, z, if_pos ⟨ob2, by rw [oi]; omega⟩, ep, q5, q6]
                     omega
                   · rw [if_neg z, p0 q q0 q1]
                     have ne : q < M 20 0 → ec_ord (mk M) h q ≠ i := fun w1 w2 => z (by rw [a0, ← w2]; exact ec_ord_inv.symm)
                     by_cases y : q < M 20 0 ∧ ec_ord (mk M) h q < i
                     · rw [if_pos y, if_pos ⟨y.1, by omega⟩]
                     · rw [if_neg y, if_neg (fun w => y ⟨w.1, by have := ne w.1; omega⟩)]) (by omega)
        refine fs_r_if (a := fa) (L1 := [some (.inr (.ref 20)), some (.inl h), some (.inl due), some (.inr (.ref 37)), some (.inl fa), some (.inl left), some (.inl i), zl7, zl8]) (st1 := []) (M1 := M2) (ob := []) rfl rfl trivial (fun (h3 : fa = 0) => ?_) (fun (h3 : ¬ (fa = 0)) => ?_)
        · refine fs_r_nop (L1 := [some (.inr (.ref 20)), some (.inl h), some (.inl due), some (.inr (.ref 37)), some (.inl fa), some (.inl left), some (.inl i), zl7, zl8]) (st1 := [.inl i]) (M1 := M2) (ob := []) rfl rfl trivial ?_
          exact join60 (i) (by rw [eo]; split <;> split at fa0 <;> omega)
        refine fs_r_goto (L1 := [some (.inr (.ref 20)), some (.inl h), some (.inl due), some (.inr (.ref 37)), some (.inl fa), some (.inl left), some (.inl i), zl7, zl8]) (st1 := [.inl (((M2 20 0) - 1) - i)]) (M1 := M2) (ob := [20 < fs_N ∧ fs_kd 20 = 1, fs_rg ((M2 20 0) - 1), fs_rg (((M2 20 0) - 1) - i)]) rfl rfl (fs_oc fs_ob20 (fs_oc ⟨by omega, by omega⟩ (fs_oc ⟨by omega, by omega⟩ trivial))) ?_
        exact join60 ((((M2 20 0) - 1) - i)) (by rw [eo]; split <;> split at fa0 <;> omega)
    exact loop27 (((M 20 0 - (0)) : Int) + 1).toNat (due) (0) (none) (none) M (by omega) (by show due = max 0 (due - 0); omega) (fun r _ => rfl) (fun q q0 q1 => by
             have w := fun (z : q < M 20 0) => ec_ord_in (E := mk M) (h := h) (k := q) ⟨q0, z⟩
             rw [if_neg (fun z => by have := w z.1; omega)]
             omega) (by omega)
  refine fs_r_icmp (a := (M 29 ((h * 5) + 4))) (y := 1) (L1 := [some (.inr (.ref 20)), some (.inl h), some (.inl due), some (.inr (.ref 37)), none, none, none, none, none]) (st1 := []) (M1 := M) (ob := [20 < fs_N ∧ fs_kd 20 = 1, fs_rg (h * 5), fs_rg ((h * 5) + 4), (29 < fs_N ∧ fs_kd 29 = 100) ∧ (0 : Int) ≤ ((h * 5) + 4) ∧ ((h * 5) + 4) < fs_ln 29]) rfl (fs_exA 6 (o1 := [20 < fs_N ∧ fs_kd 20 = 1, fs_rg (h * 5)]) (L1 := [some (.inr (.ref 20)), some (.inl h), some (.inl due), some (.inr (.ref 37)), none, none, none, none, none]) (st1 := [.inl 4, .inl (h * 5), .inr (.ref 29)]) (M1 := M) (o2 := [fs_rg ((h * 5) + 4), (29 < fs_N ∧ fs_kd 29 = 100) ∧ (0 : Int) ≤ ((h * 5) + 4) ∧ ((h * 5) + 4) < fs_ln 29]) rfl rfl) (fs_oc fs_ob20 (fs_oc ⟨by omega, by omega⟩ (fs_oc ⟨by omega, by omega⟩ (fs_oc (fs_ar29 (by omega) (by omega)) trivial)))) (fun (h4 : ¬ (M 29 ((h * 5) + 4)) = 1) => ?_) (fun (h4 : ¬ (¬ (M 29 ((h * 5) + 4)) = 1)) => ?_)
  · refine fs_r_nop (L1 := [some (.inr (.ref 20)), some (.inl h), some (.inl due), some (.inr (.ref 37)), none, none, none, none, none]) (st1 := [.inl 0]) (M1 := M) (ob := []) rfl rfl trivial ?_
    exact join19 (0) (by first | (rw [if_pos (by omega)]) | (rw [if_neg (by omega)]))
  refine fs_r_goto (L1 := [some (.inr (.ref 20)), some (.inl h), some (.inl due), some (.inr (.ref 37)), none, none, none, none, none]) (st1 := [.inl 1]) (M1 := M) (ob := []) rfl rfl trivial ?_
  exact join19 (1) (by first | (rw [if_pos (by omega)]) | (rw [if_neg (by omega)]))

theorem fs_c_calm {d : Nat} {M : fs_M} {Q : Option fs_V → fs_M → Prop}   (hM : mk_b M) (hq0 : ∀ (M2 : fs_M), (∀ r, r ≠ 32 → r ≠ 33 → M2 r = M r) → (sst M2 32 = ec_calm (mk M)) → (sb M2 32) → Q none M2) : fs_W (d + 1) 35 0 [some (.inr (.ref 20)), some (.inr (.ref 32))] [] M Q := by
  obtain ⟨⟨hA0, hA1⟩, ⟨hH0, hH1⟩, ⟨hf0, hf1⟩, hma, hmh, hmo, hml⟩ := id hM
  refine fs_r_call (sta := true) (idx := 59) (as := [.inr (.ref 33)]) (rest := []) (L1 := [some (.inr (.ref 20)), some (.inr (.ref 32))]) (st1 := [.inr (.ref 33)]) (M1 := M) (ob := [32 < fs_N ∧ fs_kd 32 = 3]) rfl rfl rfl (fs_oc fs_ob32 trivial) rfl rfl (Nat.le_of_ble_eq_true rfl) ⟨Or.inr (Nat.le_of_ble_eq_true rfl), trivial⟩ (by decide) ?_
  refine fs_c_clear (n := 4) (by first | assumption | exact ⟨by decide, by decide, by decide⟩) (by omega) ?_
  refine fs_r_ret (L1 := [some (.inr (.ref 20)), some (.inr (.ref 32))]) (M1 := (fs_up (fs_cl M 33 4) 32 1 ((fs_cl M 33 4) 20 2))) (ob := [20 < fs_N ∧ fs_kd 20 = 1, 32 < fs_N ∧ fs_kd 32 = 3]) rfl rfl (fs_oc fs_ob20 (fs_oc fs_ob32 trivial)) ?_
  refine hq0 _ (fun r q1 q2 => ?_) ?_ ⟨?_, fun a a0 a1 => ?_⟩
  · rw [fs_up_other q1, fs_cl_o q2]
  · funext i
    unfold sst ec_calm
    by_cases z : i = 4
    · rw [if_pos z, if_pos z]
      rfl
    · rw [if_neg z, if_neg z]
      by_cases y : 0 ≤ i ∧ i < 4
      · rw [if_pos y]
        show fs_up _ 32 1 _ 33 i = 0
        rw [fs_up_other (by decide), fs_cl_i y.1 y.2]
      · rw [if_neg y]
  · exact ⟨hf0, hf1⟩
  · show 0 ≤ fs_up _ 32 1 _ 33 a ∧ fs_up _ 32 1 _ 33 a ≤ 360
    rw [fs_up_other (by decide), fs_cl_i a0 a1]
    omega

theorem fs_shl_b {h : Int} (h0 : 0 ≤ h) (h1 : h ≤ 6) : 1 ≤ fs_shl 1 h ∧ fs_shl 1 h ≤ 64 := by
  have key : ∀ h : Fin 7, 1 ≤ fs_shl 1 (h.val : Int) ∧ fs_shl 1 (h.val : Int) ≤ 64 := by decide +kernel
  have := key ⟨h.toNat, by omega⟩
  simp only [Int.toNat_of_nonneg h0] at this
  exact this
theorem fs_c_panic {d : Nat} {M : fs_M} {Q : Option fs_V → fs_M → Prop}   (hM : mk_b M) (hq0 : ∀ (M2 : fs_M), (∀ r, r ≠ 32 → r ≠ 33 → M2 r = M r) → (sst M2 32 = ec_panic (mk M)) → (sb M2 32) → Q none M2) : fs_W (d + 1) 36 0 [some (.inr (.ref 20)), some (.inr (.ref 32)), none] [] M Q := by
  obtain ⟨⟨hA0, hA1⟩, ⟨hH0, hH1⟩, ⟨hf0, hf1⟩, hma, hmh, hmo, hml⟩ := id hM
  refine fs_r_call (sta := true) (idx := 59) (as := [.inr (.ref 33)]) (rest := []) (L1 := [some (.inr (.ref 20)), some (.inr (.ref 32)), none]) (st1 := [.inr (.ref 33)]) (M1 := M) (ob := [32 < fs_N ∧ fs_kd 32 = 3]) rfl rfl rfl (fs_oc fs_ob32 trivial) rfl rfl (Nat.le_of_ble_eq_true rfl) ⟨Or.inr (Nat.le_of_ble_eq_true rfl), trivial⟩ (by decide) ?_
  refine fs_c_clear (n := 4) (by first | assumption | exact ⟨by decide, by decide, by decide⟩) (by omega) ?_
  refine fs_r_nop (L1 := [some (.inr (.ref 20)), some (.inr (.ref 32)), some (.inl 0)]) (st1 := []) (M1 := (fs_cl M 33 4)) (ob := [2 < 3]) rfl rfl (fs_oc (by decide) trivial) ?_
  have loop9 : ∀ (n9 : Nat) (i : Int) (M2 : fs_M), (0 ≤ i ∧ i ≤ M 20 0) → (∀ r, r ≠ 33 → M2 r = M r) → (∀ q, 0 ≤ q → q < 4 → M2 33 q = if q < i then min (M 25 q) (M 23 q) else 0) → M 20 0 - i < (n9 : Int) → fs_W (d + 1) 36 9 [some (.inr (.ref 20)), some (.inr (.ref 32)), some (.inl i)] [] M2 Q := by
    intro n9
    induction n9 with
    | zero =>
      intro i M2 i0 f0 p0 hm9
      exfalso
      omega
    | succ n9 ih9 =>
      intro i M2 i0 f0 p0 hm9
      have e20 := congrFun (f0 20 (by decide)) 0
      have e21 := congrFun (f0 20 (by decide)) 1
      have e25 := f0 25 (by decide)
      have e23 := f0 23 (by decide)
      refine fs_r_icmp (a := i) (y := (M2 20 0)) (L1 := [some (.inr (.ref 20)), some (.inr (.ref 32)), some (.inl i)]) (st1 := []) (M1 := M2) (ob := [20 < fs_N ∧ fs_kd 20 = 1]) rfl rfl (fs_oc fs_ob20 trivial) (fun (h1 : (M2 20 0) ≤ i) => ?_) (fun (h1 : ¬ ((M2 20 0) ≤ i)) => ?_)
      · have sh := fs_shl_b (h := M 20 1) (by omega) (by omega)
        have sh2 := fs_shl_b (h := M2 20 1) (by omega) (by omega)
        refine fs_r_ret (L1 := [some (.inr (.ref 20)), some (.inr (.ref 32)), some (.inl i)]) (M1 := (fs_up M2 32 1 ((fs_shl 1 (M2 20 1)) - 1))) (ob := [20 < fs_N ∧ fs_kd 20 = 1, fs_rg ((fs_shl 1 (M2 20 1)) - 1), 32 < fs_N ∧ fs_kd 32 = 3]) rfl (fs_exA 6 (o1 := [20 < fs_N ∧ fs_kd 20 = 1]) (L1 := [some (.inr (.ref 20)), some (.inr (.ref 32)), some (.inl i)]) (st1 := [.inl 1, .inl (fs_shl 1 (M2 20 1)), .inr (.ref 32)]) (M1 := M2) (o2 := [fs_rg ((fs_shl 1 (M2 20 1)) - 1), 32 < fs_N ∧ fs_kd 32 = 3]) rfl rfl) (fs_oc fs_ob20 (fs_oc ⟨by omega, by omega⟩ (fs_oc fs_ob32 trivial))) ?_
        refine hq0 _ (fun r q1 q2 => ?_) ?_ ⟨?_, fun a a0 a1 => ?_⟩
        · rw [fs_up_other q1]
          exact f0 r q2
        · funext j
          unfold sst ec_panic
          by_cases z : j = 4
          · rw [if_pos z, if_pos z]
            show fs_shl 1 (M2 20 1) - 1 = fs_shl 1 (M 20 1) - 1
            rw [e21]
          · rw [if_neg z, if_neg z]
            have k0 : mk M 0 0 = M 20 0 := rfl
            by_cases y : 0 ≤ j ∧ j < 4
            · rw [if_pos y]
              show fs_up _ 32 1 _ 33 j = _
              rw [fs_up_other (by decide), p0 j y.1 y.2]
              split <;> split <;> first | rfl | (exfalso; omega)
            · rw [if_neg y, if_neg (by omega)]
        · show 0 ≤ fs_shl 1 (M2 20 1) - 1 ∧ fs_shl 1 (M2 20 1) - 1 < 64
          rw [e21]
          omega
        · show 0 ≤ fs_up _ 32 1 _ 33 a ∧ fs_up _ 32 1 _ 33 a ≤ 360
          rw [fs_up_other (by decide), p0 a a0 a1]
          split
          · have x := hma a a0 (by omega)
            omega
          · omega
      have x := hma i (by omega) (by omega)
      refine fs_r_nat (v := .inl (min (M2 25 i) (M2 23 i))) (sta := true) (idx := 104) (as := [.inl (M2 25 i), .inl (M2 23 i)]) (rest := [.inl i, .inr (.ref 33)]) (L1 := [some (.inr (.ref 20)), some (.inr (.ref 32)), some (.inl i)]) (st1 := [.inl (M2 23 i), .inl (M2 25 i), .inl i, .inr (.ref 33)]) (M1 := M2) (ob := [32 < fs_N ∧ fs_kd 32 = 3, 20 < fs_N ∧ fs_kd 20 = 1, (25 < fs_N ∧ fs_kd 25 = 100) ∧ (0 : Int) ≤ i ∧ i < fs_ln 25, 20 < fs_N ∧ fs_kd 20 = 1, (23 < fs_N ∧ fs_kd 23 = 100) ∧ (0 : Int) ≤ i ∧ i < fs_ln 23]) rfl rfl (fs_exA 6 (o1 := [32 < fs_N ∧ fs_kd 32 = 3, 20 < fs_N ∧ fs_kd 20 = 1]) (L1 := [some (.inr (.ref 20)), some (.inr (.ref 32)), some (.inl i)]) (st1 := [.inl i, .inr (.ref 25), .inl i, .inr (.ref 33)]) (M1 := M2) (o2 := [(25 < fs_N ∧ fs_kd 25 = 100) ∧ (0 : Int) ≤ i ∧ i < fs_ln 25, 20 < fs_N ∧ fs_kd 20 = 1, (23 < fs_N ∧ fs_kd 23 = 100) ∧ (0 : Int) ≤ i ∧ i < fs_ln 23]) rfl rfl) (fs_oc fs_ob32 (fs_oc fs_ob20 (fs_oc (fs_ar25 (by omega) (by omega)) (fs_oc fs_ob20 (fs_oc (fs_ar23 (by omega) (by omega)) trivial))))) rfl rfl (Nat.le_of_ble_eq_true rfl) ⟨Or.inl (by decide), trivial⟩ (by decide) (rfl) ?_
      refine fs_r_goto (L1 := [some (.inr (.ref 20)), some (.inr (.ref 32)), some (.inl (i + 1))]) (st1 := []) (M1 := (fs_up M2 33 i (min (M2 25 i) (M2 23 i)))) (ob := [(33 < fs_N ∧ fs_kd 33 = 100) ∧ (0 : Int) ≤ i ∧ i < fs_ln 33, fs_rg (i + 1)]) rfl rfl (fs_oc (fs_ar33 (by omega) (by omega)) (fs_oc ⟨by omega, by omega⟩ trivial)) ?_
      exact ih9 ((i + 1)) (fs_up M2 33 i (min (M2 25 i) (M2 23 i))) (by omega) (fun r q => by rw [fs_up_other q]; exact f0 r q) (fun q q0 q1 => by rw [fs_up_at]; by_cases z : q = i; (rw [if_pos z, z, if_pos (by omega), e25, e23]); (rw [if_neg z, p0 q q0 q1]; split <;> split <;> first | rfl | (exfalso; omega))) (by omega)
  exact loop9 (((M 20 0 - (0)) : Int) + 1).toNat (0) (fs_cl M 33 4) (by omega) (fun r q => fs_cl_o q) (fun q q0 q1 => by rw [fs_cl_i q0 q1, if_neg (by omega)]) (by omega)
