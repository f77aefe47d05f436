/-! the tape -/
theorem fs_sh8 (x : Int) : fs_and (fs_ushr x 24) 255 = fs_and (fs_shr x 24) 255 ∧ fs_and (fs_ushr x 16) 255 = fs_and (fs_shr x 16) 255 ∧ fs_and (fs_ushr x 8) 255 = fs_and (fs_shr x 8) 255 ∧ fs_and (fs_ushr x 0) 255 = fs_and (fs_shr x 0) 255 := by
  have key : ∀ (y : BitVec 32) (s : Nat), s ≤ 24 → (y >>> s) &&& 255#32 = (y.sshiftRight s) &&& 255#32 := by
    intro y s hs
    apply BitVec.eq_of_getLsbD_eq
    intro i hi
    rw [BitVec.getLsbD_and, BitVec.getLsbD_and, BitVec.getLsbD_ushiftRight, BitVec.getLsbD_sshiftRight]
    by_cases h8 : i < 8
    · have h1 : ¬ (32 ≤ i) := by omega
      have h2 : s + i < 32 := by omega
      have hd : decide (32 ≤ i) = false := decide_eq_false h1
      simp [h2, hd]
    · have h3 : (255#32).getLsbD i = false := by
        have k : ∀ j : Fin 32, ¬ j.val < 8 → (255#32).getLsbD j.val = false := by decide
        exact k ⟨i, hi⟩ h8
      rw [h3, Bool.and_false, Bool.and_false]
  have conv : ∀ (s : Nat) (a b : Int32), a.toBitVec = (Int32.ofInt x).toBitVec >>> s → b.toBitVec = (Int32.ofInt x).toBitVec.sshiftRight s → s ≤ 24 → (Int32.ofInt a.toInt &&& Int32.ofInt 255).toInt = (Int32.ofInt b.toInt &&& Int32.ofInt 255).toInt := by
    intro s a b ha hb hs
    rw [Int32.ofInt_toInt, Int32.ofInt_toInt]
    congr 1
    apply Int32.toBitVec_inj.mp
    rw [Int32.toBitVec_and, Int32.toBitVec_and, ha, hb]
    exact key _ s hs
  refine ⟨?_, ?_, ?_, ?_⟩
  · exact conv 24 _ _ rfl rfl (by omega)
  · exact conv 16 _ _ rfl rfl (by omega)
  · exact conv 8 _ _ rfl rfl (by omega)
  · exact conv 0 _ _ rfl rfl (by omega)
theorem fs_c_addFour {d : Nat} {M : fs_M} {Q : Option fs_V → fs_M → Prop} {x : Int}  (h : 0 ≤ M 1 1 ∧ M 1 1 + 4 ≤ 800) (hq0 : ∀ (M2 : fs_M), (∀ r, r ≠ 1 → r ≠ 2 → M2 r = M r) → (∀ i, i ≠ 1 → M2 1 i = M 1 i) → (M2 1 1 = M 1 1 + 4) → (∀ q, (q < M 1 1 ∨ M 1 1 + 4 ≤ q) → M2 2 q = M 2 q) → (∀ k, 0 ≤ k → k < 4 → M2 2 (M 1 1 + k) = fs_and (fs_shr x (24 - 8 * k)) 255) → Q none M2) : fs_W (d) 60 0 [some (.inr (.ref 1)), some (.inl x), none] [] M Q := by
  refine fs_r_nop (L1 := [some (.inr (.ref 1)), some (.inl x), some (.inl 24)]) (st1 := []) (M1 := M) (ob := [2 < 3]) rfl rfl (fs_oc (by decide) trivial) ?_
  have loop3 : ∀ (n3 : Nat) (sh : Int) (M3 : fs_M) (k : Int), (0 ≤ k ∧ k ≤ 4 ∧ sh = 24 - 8 * k) → (∀ r, r ≠ 1 → r ≠ 2 → M3 r = M r) → (∀ i, i ≠ 1 → M3 1 i = M 1 i) → (M3 1 1 = M 1 1 + k) → (∀ q, (q < M 1 1 ∨ M 1 1 + k ≤ q) → M3 2 q = M 2 q) → (∀ j, 0 ≤ j → j < k → M3 2 (M 1 1 + j) = fs_and (fs_shr x (24 - 8 * j)) 255) → 4 - k < (n3 : Int) → fs_W (d) 60 3 [some (.inr (.ref 1)), some (.inl x), some (.inl sh)] [] M3 Q := by
    intro n3
    induction n3 with
    | zero =>
      intro sh M3 k i0 f3 g3 s3 o3 n3 hm3
      exfalso
      omega
    | succ n3 ih3 =>
      intro sh M3 k i0 f3 g3 s3 o3 n3 hm3
      refine fs_r_if (a := sh) (L1 := [some (.inr (.ref 1)), some (.inl x), some (.inl sh)]) (st1 := []) (M1 := M3) (ob := []) rfl rfl trivial (fun (h1 : sh < 0) => ?_) (fun (h1 : ¬ (sh < 0)) => ?_)
      · refine fs_r_ret (L1 := [some (.inr (.ref 1)), some (.inl x), some (.inl sh)]) (M1 := M3) (ob := []) rfl rfl trivial ?_
        have k4 : k = 4 := by omega
        subst k4
        exact hq0 _ f3 g3 s3 o3 n3
      refine fs_r_icmp (a := (M3 1 1)) (y := 800) (L1 := [some (.inr (.ref 1)), some (.inl x), some (.inl sh)]) (st1 := []) (M1 := M3) (ob := [1 < fs_N ∧ fs_kd 1 = 4]) rfl rfl (fs_oc fs_ob1 trivial) (fun (h2 : 800 ≤ (M3 1 1)) => absurd h2 (by omega)) (fun (h2 : ¬ (800 ≤ (M3 1 1))) => ?_)
      refine fs_r_nop (L1 := [some (.inr (.ref 1)), some (.inl x), some (.inl sh)]) (st1 := []) (M1 := (fs_up (fs_up M3 2 (M3 1 1) (fs_and (fs_ushr x sh) 255)) 1 1 ((M3 1 1) + 1))) (ob := [1 < fs_N ∧ fs_kd 1 = 4, 1 < fs_N ∧ fs_kd 1 = 4, (2 < fs_N ∧ fs_kd 2 = 100) ∧ (0 : Int) ≤ (M3 1 1) ∧ (M3 1 1) < fs_ln 2, 1 < fs_N ∧ fs_kd 1 = 4, fs_rg ((M3 1 1) + 1), 1 < fs_N ∧ fs_kd 1 = 4]) rfl (fs_exA 6 (o1 := [1 < fs_N ∧ fs_kd 1 = 4, 1 < fs_N ∧ fs_kd 1 = 4]) (L1 := [some (.inr (.ref 1)), some (.inl x), some (.inl sh)]) (st1 := [.inl sh, .inl x, .inl (M3 1 1), .inr (.ref 2)]) (M1 := M3) (o2 := [(2 < fs_N ∧ fs_kd 2 = 100) ∧ (0 : Int) ≤ (M3 1 1) ∧ (M3 1 1) < fs_ln 2, 1 < fs_N ∧ fs_kd 1 = 4, fs_rg ((M3 1 1) + 1), 1 < fs_N ∧ fs_kd 1 = 4]) rfl (fs_exA 6 (o1 := [(2 < fs_N ∧ fs_kd 2 = 100) ∧ (0 : Int) ≤ (M3 1 1) ∧ (M3 1 1) < fs_ln 2]) (L1 := [some (.inr (.ref 1)), some (.inl x), some (.inl sh)]) (st1 := [.inr (.ref 1), .inr (.ref 1)]) (M1 := (fs_up M3 2 (M3 1 1) (fs_and (fs_ushr x sh) 255))) (o2 := [1 < fs_N ∧ fs_kd 1 = 4, fs_rg ((M3 1 1) + 1), 1 < fs_N ∧ fs_kd 1 = 4]) rfl rfl)) (fs_oc fs_ob1 (fs_oc fs_ob1 (fs_oc (fs_ar2 (by omega) (by omega)) (fs_oc fs_ob1 (fs_oc ⟨by omega, by omega⟩ (fs_oc fs_ob1 trivial)))))) ?_
      refine fs_r_goto (L1 := [some (.inr (.ref 1)), some (.inl x), some (.inl (sh + (-8)))]) (st1 := []) (M1 := (fs_up (fs_up M3 2 (M3 1 1) (fs_and (fs_ushr x sh) 255)) 1 1 ((M3 1 1) + 1))) (ob := [fs_rg (sh + (-8))]) rfl rfl (fs_oc ⟨by omega, by omega⟩ trivial) ?_
      exact ih3 ((sh + (-8))) (fs_up (fs_up M3 2 (M3 1 1) (fs_and (fs_ushr x sh) 255)) 1 1 ((M3 1 1) + 1)) ((k + 1)) (by omega) (fun r q1 q2 => by rw [fs_up_other q1, fs_up_other q2]; exact f3 r q1 q2) (fun i q => by rw [fs_up_at, if_neg q]; exact g3 i q) (by rw [fs_up_at, if_pos rfl]; show M3 1 1 + 1 = _; omega) (fun q z => by rw [fs_up_other (by decide), fs_up_at, if_neg (by omega)]; exact o3 q (by omega)) (fun j j0 j1 => by
           rw [fs_up_other (by decide), fs_up_at]
           by_cases z : j = k
           · rw [if_pos (by omega), z, ← i0.2.2]
             have e := fs_sh8 x
             rcases (show k = 0 ∨ k = 1 ∨ k = 2 ∨ k = 3 by omega) with w | w | w | w <;> subst w
             · rw [show sh = 24 by omega]; exact e.1
             · rw [show sh = 16 by omega]; exact e.2.1
             · rw [show sh = 8 by omega]; exact e.2.2.1
             · rw [show sh = 0 by omega]; exact e.2.2.2
           · rw [if_neg (by omega)]
             exact n3 j j0 (by omega)) (by omega)
  exact loop3 (((4 - (0)) : Int) + 1).toNat (24) M (0) (by omega) (fun r _ _ => rfl) (fun i _ => rfl) (by omega) (fun q _ => rfl) (fun j _ _ => by omega) (by omega)

/-- the byte k of the twenty fed lies behind the class's tape -/
def cfed (M M2 : fs_M) (a b c d e : Int) : Prop := (∀ r, r ≠ 1 → r ≠ 2 → M2 r = M r) ∧ M2 1 1 = M 1 1 + 20 ∧ (∀ q, (q < M 1 1 ∨ M 1 1 + 20 ≤ q) → M2 2 q = M 2 q) ∧ (∀ k, 0 ≤ k → k < 20 → M2 2 (M 1 1 + k) = fd_b a b c d e k)
theorem fs_c_feed {d : Nat} {M : fs_M} {Q : Option fs_V → fs_M → Prop} {va : Int} {vb : Int} {vc : Int} {vd : Int} {ve : Int}  (ht : 0 ≤ M 1 1 ∧ M 1 1 ≤ 800) (hq0 : ∀ (M2 : fs_M), (M 1 1 + 20 ≤ 800) → (cfed M M2 va vb vc vd ve) → Q (some (.inl (M 1 1 + 20))) M2) (hq1 : (¬ (M 1 1 + 20 ≤ 800)) → Q (some (.inl (-1))) M) : fs_W (d + 1) 75 0 [some (.inr (.ref 0)), some (.inl va), some (.inl vb), some (.inl vc), some (.inl vd), some (.inl ve)] [] M Q := by
  refine fs_r_icmp (a := ((M 1 1) + 20)) (y := 800) (L1 := [some (.inr (.ref 0)), some (.inl va), some (.inl vb), some (.inl vc), some (.inl vd), some (.inl ve)]) (st1 := []) (M1 := M) (ob := [0 < fs_N ∧ fs_kd 0 = 5, 1 < fs_N ∧ fs_kd 1 = 4, fs_rg ((M 1 1) + 20)]) rfl rfl (fs_oc fs_ob0 (fs_oc fs_ob1 (fs_oc ⟨by omega, by omega⟩ trivial))) (fun (h1 : ((M 1 1) + 20) ≤ 800) => ?_) (fun (h1 : ¬ (((M 1 1) + 20) ≤ 800)) => ?_)
  · refine fs_r_call (sta := false) (idx := 77) (as := [.inr (.ref 1), .inl va]) (rest := []) (L1 := [some (.inr (.ref 0)), some (.inl va), some (.inl vb), some (.inl vc), some (.inl vd), some (.inl ve)]) (st1 := [.inl va, .inr (.ref 1)]) (M1 := M) (ob := [0 < fs_N ∧ fs_kd 0 = 5]) rfl rfl rfl (fs_oc fs_ob0 trivial) rfl rfl (Nat.le_of_ble_eq_true rfl) ⟨Or.inr (Nat.le_of_ble_eq_true rfl), Or.inr fs_ob1⟩ (by decide) ?_
    refine fs_c_addFour (by omega) (fun (A1 : fs_M) (f1_ : ∀ r, r ≠ 1 → r ≠ 2 → A1 r = M r) (g1_ : ∀ i, i ≠ 1 → A1 1 i = M 1 i) (s1_ : A1 1 1 = M 1 1 + 4) (o1_ : ∀ q, (q < M 1 1 ∨ M 1 1 + 4 ≤ q) → A1 2 q = M 2 q) (n1_ : ∀ k, 0 ≤ k → k < 4 → A1 2 (M 1 1 + k) = fs_and (fs_shr va (24 - 8 * k)) 255) => ?_)
    refine fs_r_call (sta := false) (idx := 77) (as := [.inr (.ref 1), .inl vb]) (rest := []) (L1 := [some (.inr (.ref 0)), some (.inl va), some (.inl vb), some (.inl vc), some (.inl vd), some (.inl ve)]) (st1 := [.inl vb, .inr (.ref 1)]) (M1 := A1) (ob := [0 < fs_N ∧ fs_kd 0 = 5]) rfl rfl rfl (fs_oc fs_ob0 trivial) rfl rfl (Nat.le_of_ble_eq_true rfl) ⟨Or.inr (Nat.le_of_ble_eq_true rfl), Or.inr fs_ob1⟩ (by decide) ?_
    refine fs_c_addFour (by omega) (fun (A2 : fs_M) (f2_ : ∀ r, r ≠ 1 → r ≠ 2 → A2 r = A1 r) (g2_ : ∀ i, i ≠ 1 → A2 1 i = A1 1 i) (s2_ : A2 1 1 = A1 1 1 + 4) (o2_ : ∀ q, (q < A1 1 1 ∨ A1 1 1 + 4 ≤ q) → A2 2 q = A1 2 q) (n2_ : ∀ k, 0 ≤ k → k < 4 → A2 2 (A1 1 1 + k) = fs_and (fs_shr vb (24 - 8 * k)) 255) => ?_)
    refine fs_r_call (sta := false) (idx := 77) (as := [.inr (.ref 1), .inl vc]) (rest := []) (L1 := [some (.inr (.ref 0)), some (.inl va), some (.inl vb), some (.inl vc), some (.inl vd), some (.inl ve)]) (st1 := [.inl vc, .inr (.ref 1)]) (M1 := A2) (ob := [0 < fs_N ∧ fs_kd 0 = 5]) rfl rfl rfl (fs_oc fs_ob0 trivial) rfl rfl (Nat.le_of_ble_eq_true rfl) ⟨Or.inr (Nat.le_of_ble_eq_true rfl), Or.inr fs_ob1⟩ (by decide) ?_
    refine fs_c_addFour (by omega) (fun (A3 : fs_M) (f3_ : ∀ r, r ≠ 1 → r ≠ 2 → A3 r = A2 r) (g3_ : ∀ i, i ≠ 1 → A3 1 i = A2 1 i) (s3_ : A3 1 1 = A2 1 1 + 4) (o3_ : ∀ q, (q < A2 1 1 ∨ A2 1 1 + 4 ≤ q) → A3 2 q = A2 2 q) (n3_ : ∀ k, 0 ≤ k → k < 4 → A3 2 (A2 1 1 + k) = fs_and (fs_shr vc (24 - 8 * k)) 255) => ?_)
    refine fs_r_call (sta := false) (idx := 77) (as := [.inr (.ref 1), .inl vd]) (rest := []) (L1 := [some (.inr (.ref 0)), some (.inl va), some (.inl vb), some (.inl vc), some (.inl vd), some (.inl ve)]) (st1 := [.inl vd, .inr (.ref 1)]) (M1 := A3) (ob := [0 < fs_N ∧ fs_kd 0 = 5]) rfl rfl rfl (fs_oc fs_ob0 trivial) rfl rfl (Nat.le_of_ble_eq_true rfl) ⟨Or.inr (Nat.le_of_ble_eq_true rfl), Or.inr fs_ob1⟩ (by decide) ?_
    refine fs_c_addFour (by omega) (fun (A4 : fs_M) (f4_ : ∀ r, r ≠ 1 → r ≠ 2 → A4 r = A3 r) (g4_ : ∀ i, i ≠ 1 → A4 1 i = A3 1 i) (s4_ : A4 1 1 = A3 1 1 + 4) (o4_ : ∀ q, (q < A3 1 1 ∨ A3 1 1 + 4 ≤ q) → A4 2 q = A3 2 q) (n4_ : ∀ k, 0 ≤ k → k < 4 → A4 2 (A3 1 1 + k) = fs_and (fs_shr vd (24 - 8 * k)) 255) => ?_)
    refine fs_r_call (sta := false) (idx := 77) (as := [.inr (.ref 1), .inl ve]) (rest := []) (L1 := [some (.inr (.ref 0)), some (.inl va), some (.inl vb), some (.inl vc), some (.inl vd), some (.inl ve)]) (st1 := [.inl ve, .inr (.ref 1)]) (M1 := A4) (ob := [0 < fs_N ∧ fs_kd 0 = 5]) rfl rfl rfl (fs_oc fs_ob0 trivial) rfl rfl (Nat.le_of_ble_eq_true rfl) ⟨Or.inr (Nat.le_of_ble_eq_true rfl), Or.inr fs_ob1⟩ (by decide) ?_
    refine fs_c_addFour (by omega) (fun (A5 : fs_M) (f5_ : ∀ r, r ≠ 1 → r ≠ 2 → A5 r = A4 r) (g5_ : ∀ i, i ≠ 1 → A5 1 i = A4 1 i) (s5_ : A5 1 1 = A4 1 1 + 4) (o5_ : ∀ q, (q < A4 1 1 ∨ A4 1 1 + 4 ≤ q) → A5 2 q = A4 2 q) (n5_ : ∀ k, 0 ≤ k → k < 4 → A5 2 (A4 1 1 + k) = fs_and (fs_shr ve (24 - 8 * k)) 255) => ?_)
    refine fs_r_iret (a := (A5 1 1)) (L1 := [some (.inr (.ref 0)), some (.inl va), some (.inl vb), some (.inl vc), some (.inl vd), some (.inl ve)]) (M1 := A5) (ob := [0 < fs_N ∧ fs_kd 0 = 5, 1 < fs_N ∧ fs_kd 1 = 4]) rfl rfl (fs_oc fs_ob0 (fs_oc fs_ob1 trivial)) (Or.inl rfl) ?_
    refine fs_qi (by omega) (hq0 _ (by omega) ⟨fun r q1 q2 => by rw [f5_ r q1 q2, f4_ r q1 q2, f3_ r q1 q2, f2_ r q1 q2, f1_ r q1 q2], by omega, fun q z => by rw [o5_ q (by omega), o4_ q (by omega), o3_ q (by omega), o2_ q (by omega), o1_ q (by omega)], fun k k0 k1 => ?_⟩)
    unfold fd_b
    by_cases z1 : k < 4
    · rw [if_pos z1, o5_ _ (by omega), o4_ _ (by omega), o3_ _ (by omega), o2_ _ (by omega), n1_ k k0 z1, show k % 4 = k by omega]
    rw [if_neg z1]
    by_cases z2 : k < 8
    · have w := n2_ (k - 4) (by omega) (by omega)
      rw [show A1 1 1 + (k - 4) = M 1 1 + k by omega] at w
      rw [if_pos z2, o5_ _ (by omega), o4_ _ (by omega), o3_ _ (by omega), w, show k % 4 = k - 4 by omega]
    rw [if_neg z2]
    by_cases z3 : k < 12
    · have w := n3_ (k - 8) (by omega) (by omega)
      rw [show A2 1 1 + (k - 8) = M 1 1 + k by omega] at w
      rw [if_pos z3, o5_ _ (by omega), o4_ _ (by omega), w, show k % 4 = k - 8 by omega]
    rw [if_neg z3]
    by_cases z4 : k < 16
    · have w := n4_ (k - 12) (by omega) (by omega)
      rw [show A3 1 1 + (k - 12) = M 1 1 + k by omega] at w
      rw [if_pos z4, o5_ _ (by omega), w, show k % 4 = k - 12 by omega]
    · have w := n5_ (k - 16) (by omega) (by omega)
      rw [show A4 1 1 + (k - 16) = M 1 1 + k by omega] at w
      rw [if_neg z4, w, show k % 4 = k - 16 by omega]
  refine fs_r_iret (a := (-1)) (L1 := [some (.inr (.ref 0)), some (.inl va), some (.inl vb), some (.inl vc), some (.inl vd), some (.inl ve)]) (M1 := M) (ob := []) rfl rfl trivial (Or.inl rfl) ?_
  exact hq1 (by omega)

theorem fs_c_back {d : Nat} {M : fs_M} {Q : Option fs_V → fs_M → Prop} {n : Int}  (ht : 0 ≤ M 1 1 ∧ M 1 1 ≤ 800) (hq0 : (0 ≤ n ∧ n ≤ M 1 1) → Q (some (.inl (M 1 1 - n))) (fs_up M 1 1 ((M 1 1) - n))) (hq1 : (¬ (0 ≤ n ∧ n ≤ M 1 1)) → Q (some (.inl (-1))) M) : fs_W (d) 76 0 [some (.inr (.ref 0)), some (.inl n)] [] M Q := by
  refine fs_r_if (a := n) (L1 := [some (.inr (.ref 0)), some (.inl n)]) (st1 := []) (M1 := M) (ob := []) rfl rfl trivial (fun (h1 : n < 0) => ?_) (fun (h1 : ¬ (n < 0)) => ?_)
  · refine fs_r_iret (a := (-1)) (L1 := [some (.inr (.ref 0)), some (.inl n)]) (M1 := M) (ob := []) rfl rfl trivial (Or.inl rfl) ?_
    exact hq1 (by omega)
  refine fs_r_icmp (a := n) (y := (M 1 1)) (L1 := [some (.inr (.ref 0)), some (.inl n)]) (st1 := []) (M1 := M) (ob := [0 < fs_N ∧ fs_kd 0 = 5, 1 < fs_N ∧ fs_kd 1 = 4]) rfl rfl (fs_oc fs_ob0 (fs_oc fs_ob1 trivial)) (fun (h2 : n ≤ (M 1 1)) => ?_) (fun (h2 : ¬ (n ≤ (M 1 1))) => ?_)
  · refine fs_r_iret (a := ((M 1 1) - n)) (L1 := [some (.inr (.ref 0)), some (.inl n)]) (M1 := (fs_up M 1 1 ((M 1 1) - n))) (ob := [0 < fs_N ∧ fs_kd 0 = 5, 1 < fs_N ∧ fs_kd 1 = 4, fs_rg ((M 1 1) - n), 1 < fs_N ∧ fs_kd 1 = 4, 0 < fs_N ∧ fs_kd 0 = 5, 1 < fs_N ∧ fs_kd 1 = 4]) rfl (fs_exA 6 (o1 := [0 < fs_N ∧ fs_kd 0 = 5, 1 < fs_N ∧ fs_kd 1 = 4, fs_rg ((M 1 1) - n)]) (L1 := [some (.inr (.ref 0)), some (.inl n)]) (st1 := [.inl ((M 1 1) - n), .inr (.ref 1)]) (M1 := M) (o2 := [1 < fs_N ∧ fs_kd 1 = 4, 0 < fs_N ∧ fs_kd 0 = 5, 1 < fs_N ∧ fs_kd 1 = 4]) rfl rfl) (fs_oc fs_ob0 (fs_oc fs_ob1 (fs_oc ⟨by omega, by omega⟩ (fs_oc fs_ob1 (fs_oc fs_ob0 (fs_oc fs_ob1 trivial)))))) (Or.inl rfl) ?_
    exact hq0 (by omega)
  refine fs_r_iret (a := (-1)) (L1 := [some (.inr (.ref 0)), some (.inl n)]) (M1 := M) (ob := []) rfl rfl trivial (Or.inl rfl) ?_
  exact hq1 (by omega)
