/-! the whole text -/
theorem KP_zero : fs_KP (fun _ => 0) := by
  have z : ∀ m : Int, 0 ≤ m → (0 : Int) ≤ 0 ∧ (0 : Int) ≤ m := fun m h => ⟨Int.le_refl 0, h⟩
  refine ⟨⟨by decide, by decide, fun _ _ _ => ⟨z 200 (by decide), z 9 (by decide)⟩, fun _ _ _ _ _ _ => z 9999 (by decide), fun _ _ _ _ _ _ => z 60 (by decide), fun _ _ _ _ _ _ => z 999 (by decide), fun _ _ _ => z 4 (by decide), fun _ _ _ _ _ _ _ _ _ => z 360 (by decide), fun h h0 h1 => ?_⟩,
    ⟨fun _ _ _ _ _ _ => rfl, fun _ _ _ _ _ _ _ => rfl, fun _ _ _ _ _ _ _ => rfl, fun _ _ _ => ⟨rfl, rfl⟩⟩, fun _ _ _ _ _ _ => (by decide : (0 : Int) < 10)⟩
  have w : h < 0 := h1
  omega
theorem st_ok {T : Int → Int} {n : Int} {N : Int → Int} {p : Int} (hK : fs_KP N) (hp : 0 ≤ p ∧ p ≤ n) (h : stF T n N p = -1) : (p < stP T n N p ∧ stP T n N p ≤ n) ∧ fs_KP (stN T n N p) := by
  have eb := eL_b T n p
  have e0 : 0 ≤ eL T n p ∧ eL T n p ≤ n := ⟨by omega, eb.2.1 hp.2⟩
  have e1 := nE_b (T := T) e0
  have e2 := nE_b (T := T) (n := n) (p := nE T n (eL T n p)) ⟨by omega, e1.2.1⟩
  have e3 := nE_b (T := T) (n := n) (p := nE T n (nE T n (eL T n p))) ⟨by omega, e2.2.1⟩
  have q2 := qB_b T n (nE T n (nE T n (eL T n p)))
  have q3 := qB_b T n (nE T n (nE T n (nE T n (eL T n p))))
  obtain ⟨hN, hZ, hX⟩ := id hK
  have hA := hN.1
  have hH := hN.2.1
  have i0 : ∀ c : Prop, [Decidable c] → (if c then p else -1) = -1 → ¬ c := fun c _ z => by
    by_cases y : c
    · rw [if_pos y] at z; omega
    · exact y
  have item : ∀ k, (k = 0 ∨ k = 1) → iF T n N k p (eL T n p) = -1 → (p < aP T n (eL T n p) ∧ aP T n (eL T n p) ≤ n) ∧ fs_KP (iN T n N k (eL T n p)) := fun k kk z => by
    obtain ⟨z1, z2, z3⟩ := eF_ok z (by omega)
    obtain ⟨y1, y2⟩ := nF_ok z1 (by omega)
    obtain ⟨x1, x2⟩ := nF_ok y1 (by omega)
    have x3 := i0 _ x1
    have b1 := x2.2.2.2
    have b2 := y2.2.2.2
    have b3 : iM k ≤ 360 := by unfold iM; split <;> omega
    refine ⟨⟨by unfold aP; omega, by unfold aP; omega⟩, ?_⟩
    exact KP_lay hK (by omega) x3 (by omega) (by omega) (by omega)
  unfold stF at h
  by_cases w0 : tx_w T p (eL T n p) = 0
  · rw [if_pos w0] at h
    obtain ⟨z1, z2, z3⟩ := eF_ok h (by omega)
    obtain ⟨y1, y2⟩ := nF_ok z1 (by omega)
    obtain ⟨x1, x2⟩ := nF_ok y1 (by omega)
    have x3 := i0 _ x1
    unfold stP stN
    rw [if_pos w0, if_neg (by omega), if_neg (by omega)]
    refine ⟨⟨by unfold aP; omega, by unfold aP; omega⟩, ?_⟩
    exact KP_asset hK x3 x2.2.2.2 y2.2.2.2
  rw [if_neg w0] at h
  by_cases w1 : tx_w T p (eL T n p) = 1
  · rw [if_pos w1] at h
    have eE := tx_E_b (T := T) e0 (5 + tx_C T n N (eL T n p)).toNat
    have qE := qB_b T n (tx_E T n (5 + tx_C T n N (eL T n p)).toNat (eL T n p))
    obtain ⟨z1, z2, z3⟩ := eF_ok h (by omega)
    have cb := tx_C_b (T := T) (n := n) (e := eL T n p) hA.1
    have f0 := tx_F_m (T := T) (N := N) (q := p) e0 (k := 0) (5 + tx_C T n N (eL T n p)).toNat (by rw [Nat.zero_add]; exact z1)
    unfold stP stN
    rw [if_neg w0, if_pos w1, if_pos w1]
    refine ⟨⟨by unfold tx_P; omega, by unfold tx_P; omega⟩, ?_⟩
    exact KP_house hK (i0 _ f0) e0 z1
  rw [if_neg w1] at h
  by_cases w2 : tx_w T p (eL T n p) = 2
  · rw [if_pos w2] at h
    obtain ⟨z1, z2, z3⟩ := eF_ok h (by omega)
    obtain ⟨y1, y2⟩ := nF_ok z1 (by omega)
    have j2 := j2F_ok y1 e0
    obtain ⟨x1, x2⟩ := nF_ok j2 (by omega)
    obtain ⟨u1, u2⟩ := nF_ok x1 (by omega)
    have qq := qB_b T n (nE T n (eL T n p))
    have ne : nV T n (eL T n p) ≠ nV T n (nE T n (eL T n p)) := fun z => by
      unfold j2F at y1
      rw [if_pos ⟨j2, z⟩] at y1
      omega
    unfold stP stN
    rw [if_neg w0, if_neg w1, if_pos w2, if_neg w1, if_pos w2]
    refine ⟨⟨by unfold jP; omega, by unfold jP; omega⟩, ?_⟩
    have b1 := u2.2.2.2
    have b2 := x2.2.2.2
    exact KP_loan hK (by omega) (by omega) ne y2.2.2.2
  rw [if_neg w2] at h
  unfold stP stN
  rw [if_neg w0, if_neg w1, if_neg w2, if_neg w1, if_neg w2]
  by_cases w3 : tx_w T p (eL T n p) = 3
  · rw [if_pos w3] at h
    rw [if_pos w3]
    exact item 0 (Or.inl rfl) h
  rw [if_neg w3] at h
  rw [if_neg w3]
  by_cases w4 : tx_w T p (eL T n p) = 4
  · rw [if_pos w4] at h
    exact item 1 (Or.inr rfl) h
  rw [if_neg w4] at h
  omega
noncomputable def tx_go (T : Int → Int) (n : Int) : Nat → (Int → Int) → Int → Int × (Int → Int)
  | 0, N, _ => (-1, N)
  | k + 1, N, p => if p < n then (if stF T n N p = -1 then tx_go T n k (stN T n N p) (qB T n (stP T n N p)) else (stF T n N p, N)) else (-1, N)
theorem tx_go_ok {T : Int → Int} {n : Int} : ∀ (k : Nat) (N : Int → Int) (p : Int), fs_KP N → 0 ≤ p ∧ p ≤ n → ((tx_go T n k N p).1 = -1 ∨ (0 ≤ (tx_go T n k N p).1 ∧ (tx_go T n k N p).1 ≤ n)) ∧ fs_KP (tx_go T n k N p).2 := by
  intro k
  induction k with
  | zero => exact fun N p hK hp => ⟨Or.inl rfl, hK⟩
  | succ k ih =>
    intro N p hK hp
    unfold tx_go
    by_cases z : p < n
    · rw [if_pos z]
      by_cases y : stF T n N p = -1
      · rw [if_pos y]
        have w := st_ok hK hp y
        have b := qB_b T n (stP T n N p)
        exact ih _ _ w.2 ⟨by omega, b.2.1 w.1.2⟩
      · rw [if_neg y]
        exact ⟨stF_r hp, hK⟩
    · rw [if_neg z]
      exact ⟨Or.inl rfl, hK⟩
noncomputable def tx_T (T : Int → Int) (n : Int) : Int × (Int → Int) := tx_go T n 800 (fun _ => 0) (qB T n 0)
theorem tx_T_ok {T : Int → Int} {n : Int} (hn : 0 ≤ n) : ((tx_T T n).1 = -1 ∨ (0 ≤ (tx_T T n).1 ∧ (tx_T T n).1 ≤ n)) ∧ fs_KP (tx_T T n).2 := by
  have b := qB_b T n 0
  exact tx_go_ok 800 _ _ KP_zero ⟨b.1, b.2.1 hn⟩
theorem fs_c_empty12 {d : Nat} {M : fs_M} {Q : Option fs_V → fs_M → Prop}    (hq0 : ∀ (M2 : fs_M), (∀ r, (r < 12 ∨ 18 < r) → M2 r = M r) → (vw 12 M2 (fun _ => 0)) → Q none M2) : fs_W (d + 1) 2 0 [some (.inr (.ref 12))] [] M Q := by
  refine fs_r_call (sta := true) (idx := 41) (as := [.inr (.ref 13)]) (rest := []) (L1 := [some (.inr (.ref 12))]) (st1 := [.inr (.ref 13)]) (M1 := (fs_up (fs_up M 12 0 0) 12 1 0)) (ob := [12 < fs_N ∧ fs_kd 12 = 0, 12 < fs_N ∧ fs_kd 12 = 0, 12 < fs_N ∧ fs_kd 12 = 0]) rfl rfl (fs_exA 6 (o1 := [12 < fs_N ∧ fs_kd 12 = 0, 12 < fs_N ∧ fs_kd 12 = 0]) (L1 := [some (.inr (.ref 12))]) (st1 := []) (M1 := (fs_up (fs_up M 12 0 0) 12 1 0)) (o2 := [12 < fs_N ∧ fs_kd 12 = 0]) rfl rfl) (fs_oc fs_ob12 (fs_oc fs_ob12 (fs_oc fs_ob12 trivial))) rfl rfl (Nat.le_of_ble_eq_true rfl) ⟨Or.inr (Nat.le_of_ble_eq_true rfl), trivial⟩ (by decide) ?_
  refine fs_c_clear (n := 8) (⟨by decide, by decide, by decide⟩) (by omega) ?_
  refine fs_r_call (sta := true) (idx := 41) (as := [.inr (.ref 14)]) (rest := []) (L1 := [some (.inr (.ref 12))]) (st1 := [.inr (.ref 14)]) (M1 := (fs_cl (fs_up (fs_up M 12 0 0) 12 1 0) 13 8)) (ob := [12 < fs_N ∧ fs_kd 12 = 0]) rfl rfl rfl (fs_oc fs_ob12 trivial) rfl rfl (Nat.le_of_ble_eq_true rfl) ⟨Or.inr (Nat.le_of_ble_eq_true rfl), trivial⟩ (by decide) ?_
  refine fs_c_clear (n := 30) (⟨by decide, by decide, by decide⟩) (by omega) ?_
  refine fs_r_call (sta := true) (idx := 41) (as := [.inr (.ref 15)]) (rest := []) (L1 := [some (.inr (.ref 12))]) (st1 := [.inr (.ref 15)]) (M1 := (fs_cl (fs_cl (fs_up (fs_up M 12 0 0) 12 1 0) 13 8) 14 30)) (ob := [12 < fs_N ∧ fs_kd 12 = 0]) rfl rfl rfl (fs_oc fs_ob12 trivial) rfl rfl (Nat.le_of_ble_eq_true rfl) ⟨Or.inr (Nat.le_of_ble_eq_true rfl), trivial⟩ (by decide) ?_
  refine fs_c_clear (n := 24) (⟨by decide, by decide, by decide⟩) (by omega) ?_
  refine fs_r_call (sta := true) (idx := 41) (as := [.inr (.ref 16)]) (rest := []) (L1 := [some (.inr (.ref 12))]) (st1 := [.inr (.ref 16)]) (M1 := (fs_cl (fs_cl (fs_cl (fs_up (fs_up M 12 0 0) 12 1 0) 13 8) 14 30) 15 24)) (ob := [12 < fs_N ∧ fs_kd 12 = 0]) rfl rfl rfl (fs_oc fs_ob12 trivial) rfl rfl (Nat.le_of_ble_eq_true rfl) ⟨Or.inr (Nat.le_of_ble_eq_true rfl), trivial⟩ (by decide) ?_
  refine fs_c_clear (n := 36) (⟨by decide, by decide, by decide⟩) (by omega) ?_
  refine fs_r_call (sta := true) (idx := 41) (as := [.inr (.ref 17)]) (rest := []) (L1 := [some (.inr (.ref 12))]) (st1 := [.inr (.ref 17)]) (M1 := (fs_cl (fs_cl (fs_cl (fs_cl (fs_up (fs_up M 12 0 0) 12 1 0) 13 8) 14 30) 15 24) 16 36)) (ob := [12 < fs_N ∧ fs_kd 12 = 0]) rfl rfl rfl (fs_oc fs_ob12 trivial) rfl rfl (Nat.le_of_ble_eq_true rfl) ⟨Or.inr (Nat.le_of_ble_eq_true rfl), trivial⟩ (by decide) ?_
  refine fs_c_clear (n := 3) (⟨by decide, by decide, by decide⟩) (by omega) ?_
  refine fs_r_call (sta := true) (idx := 41) (as := [.inr (.ref 18)]) (rest := []) (L1 := [some (.inr (.ref 12))]) (st1 := [.inr (.ref 18)]) (M1 := (fs_cl (fs_cl (fs_cl (fs_cl (fs_cl (fs_up (fs_up M 12 0 0) 12 1 0) 13 8) 14 30) 15 24) 16 36) 17 3)) (ob := [12 < fs_N ∧ fs_kd 12 = 0]) rfl rfl rfl (fs_oc fs_ob12 trivial) rfl rfl (Nat.le_of_ble_eq_true rfl) ⟨Or.inr (Nat.le_of_ble_eq_true rfl), trivial⟩ (by decide) ?_
  refine fs_c_clear (n := 36) (⟨by decide, by decide, by decide⟩) (by omega) ?_
  refine fs_r_ret (L1 := [some (.inr (.ref 12))]) (M1 := (fs_cl (fs_cl (fs_cl (fs_cl (fs_cl (fs_cl (fs_up (fs_up M 12 0 0) 12 1 0) 13 8) 14 30) 15 24) 16 36) 17 3) 18 36)) (ob := []) rfl rfl trivial ?_
  refine hq0 _ (fun r z => ?_) ⟨?_, ?_, fun a a0 a1 => ⟨?_, ?_⟩, fun h k h0 h1 k0 k1 _ => ?_, fun h a h0 h1 a0 a1 => ?_, fun h o h0 h1 o0 o1 => ?_, fun s s0 s1 => ?_, fun s p w s0 s1 p0 p1 w0 w1 => ?_⟩
  · funext i
    unfold fs_cl fs_up
    rw [if_neg (by omega), if_neg (by omega), if_neg (by omega), if_neg (by omega), if_neg (by omega), if_neg (by omega), if_neg (by omega), if_neg (by omega)]
  · rfl
  · rfl
  · show fs_cl _ 18 36 13 _ = 0
    unfold fs_cl
    rw [if_neg (by omega), if_neg (by omega), if_neg (by omega), if_neg (by omega), if_neg (by omega), if_pos (by omega)]
  · show fs_cl _ 18 36 13 _ = 0
    unfold fs_cl
    rw [if_neg (by omega), if_neg (by omega), if_neg (by omega), if_neg (by omega), if_neg (by omega), if_pos (by omega)]
  · show fs_cl _ 18 36 14 _ = 0
    unfold fs_cl
    rw [if_neg (by omega), if_neg (by omega), if_neg (by omega), if_neg (by omega), if_pos (by omega)]
  · show fs_cl _ 18 36 15 _ = 0
    unfold fs_cl
    rw [if_neg (by omega), if_neg (by omega), if_neg (by omega), if_pos (by omega)]
  · show fs_cl _ 18 36 16 _ = 0
    unfold fs_cl
    rw [if_neg (by omega), if_neg (by omega), if_pos (by omega)]
  · show fs_cl _ 18 36 17 _ = 0
    unfold fs_cl
    rw [if_neg (by omega), if_pos (by omega)]
  · have z : p < 0 := p1
    omega

theorem fs_c_read {d : Nat} {M : fs_M} {Q : Option fs_V → fs_M → Prop}   (ht : 0 ≤ M 1 1 ∧ M 1 1 ≤ 800) (hq0 : ∀ (x : Int) (M2 : fs_M), (x = (tx_T (M 2) (M 1 1)).1) → (x = -1 → vw 12 M2 (tx_T (M 2) (M 1 1)).2) → (∀ r, r ≠ 1 → (r < 12 ∨ 18 < r) → M2 r = M r) → (M2 1 1 = M 1 1) → Q (some (.inl x)) M2) : fs_W (d + 6) 61 0 [some (.inr (.ref 1)), some (.inr (.ref 12)), none] [] M Q := by
  refine fs_r_call (sta := false) (idx := 34) (as := [.inr (.ref 12)]) (rest := []) (L1 := [some (.inr (.ref 1)), some (.inr (.ref 12)), none]) (st1 := [.inr (.ref 12)]) (M1 := M) (ob := []) rfl rfl rfl trivial rfl rfl (Nat.le_of_ble_eq_true rfl) ⟨Or.inr (Nat.le_of_ble_eq_true rfl), Or.inr fs_ob12⟩ (by decide) ?_
  refine fs_c_empty12 (fun (A1 : fs_M) (ef : ∀ r, (r < 12 ∨ 18 < r) → A1 r = M r) (ev : vw 12 A1 (fun _ => 0)) => ?_)
  have s1 : (fs_up (fs_up A1 1 2 0) 1 3 (-1)) 1 1 = M 1 1 := by rw [fs_up_at, if_neg (by omega), fs_up_at, if_neg (by omega), ef 1 (by decide)]
  have s2 : (fs_up (fs_up A1 1 2 0) 1 3 (-1)) 1 2 = 0 := by rw [fs_up_at, if_neg (by omega), fs_up_at, if_pos rfl]
  have s3 : (fs_up (fs_up A1 1 2 0) 1 3 (-1)) 1 3 = -1 := by rw [fs_up_at, if_pos rfl]
  have st : (fs_up (fs_up A1 1 2 0) 1 3 (-1)) 2 = M 2 := by rw [fs_up_other (by decide), fs_up_other (by decide), ef 2 (by decide)]
  have sf : ∀ r, r ≠ 1 → (fs_up (fs_up A1 1 2 0) 1 3 (-1)) r = A1 r := fun r z => by rw [fs_up_other z, fs_up_other z]
  have qb := qB_b (M 2) (M 1 1) 0
  have qn := qb.2.1 ht.1
  refine fs_r_call (sta := false) (idx := 39) (as := [.inr (.ref 1)]) (rest := []) (L1 := [some (.inr (.ref 1)), some (.inr (.ref 12)), none]) (st1 := [.inr (.ref 1)]) (M1 := (fs_up (fs_up A1 1 2 0) 1 3 (-1))) (ob := [1 < fs_N ∧ fs_kd 1 = 4, 1 < fs_N ∧ fs_kd 1 = 4]) rfl rfl rfl (fs_oc fs_ob1 (fs_oc fs_ob1 trivial)) rfl rfl (Nat.le_of_ble_eq_true rfl) ⟨Or.inr (Nat.le_of_ble_eq_true rfl), Or.inr fs_ob1⟩ (by decide) ?_
  refine fs_c_skipBlanks (by rw [s1, s2]; omega) ?_
  refine fs_r_nop (L1 := [some (.inr (.ref 1)), some (.inr (.ref 12)), some (.inl 0)]) (st1 := []) (M1 := (fs_up (fs_up (fs_up A1 1 2 0) 1 3 (-1)) 1 2 (qB ((fs_up (fs_up A1 1 2 0) 1 3 (-1)) 2) ((fs_up (fs_up A1 1 2 0) 1 3 (-1)) 1 1) ((fs_up (fs_up A1 1 2 0) 1 3 (-1)) 1 2)))) (ob := [2 < 3]) rfl rfl (fs_oc (by decide) trivial) ?_
  have loop20 : ∀ (n20 : Nat) (i : Int) (M3 : fs_M) (N3 : Int → Int), (0 ≤ i ∧ i ≤ 800) → (∀ r, r ≠ 1 → (r < 12 ∨ 18 < r) → M3 r = M r) → (M3 1 1 = M 1 1) → (0 ≤ M3 1 2 ∧ M3 1 2 ≤ M 1 1) → (M3 1 3 = -1 → vw 12 M3 N3 ∧ fs_KP N3 ∧ tx_go (M 2) (M 1 1) (800 - i).toNat N3 (M3 1 2) = tx_T (M 2) (M 1 1)) → (M3 1 3 ≠ -1 → M3 1 3 = (tx_T (M 2) (M 1 1)).1) → 800 - i < (n20 : Int) → fs_W (d + 6) 61 20 [some (.inr (.ref 1)), some (.inr (.ref 12)), some (.inl i)] [] M3 Q := by
    intro n20
    induction n20 with
    | zero =>
      intro i M3 N3 i0 f3 g3 b3 v3 w3 hm20
      exfalso
      omega
    | succ n20 ih20 =>
      intro i M3 N3 i0 f3 g3 b3 v3 w3 hm20
      refine fs_r_icmp (a := i) (y := 800) (L1 := [some (.inr (.ref 1)), some (.inr (.ref 12)), some (.inl i)]) (st1 := []) (M1 := M3) (ob := []) rfl rfl trivial (fun (h1 : 800 ≤ i) => ?_) (fun (h1 : ¬ (800 ≤ i)) => ?_)
      · refine fs_r_iret (a := (M3 1 3)) (L1 := [some (.inr (.ref 1)), some (.inr (.ref 12)), some (.inl i)]) (M1 := M3) (ob := [1 < fs_N ∧ fs_kd 1 = 4]) rfl rfl (fs_oc fs_ob1 trivial) (Or.inl rfl) ?_
        by_cases z3 : M3 1 3 = -1
        · obtain ⟨vv, kk, gg⟩ := v3 z3
          have fin : tx_T (M 2) (M 1 1) = (-1, N3) := by
            rw [← gg]
            rcases (show i = 800 ∨ (i < 800 ∧ M 1 1 ≤ M3 1 2) by omega) with y | ⟨y, y2⟩
            · rw [y]
              rfl
            · rw [show (800 - i).toNat = (800 - (i + 1)).toNat + 1 by omega, tx_go, if_neg (by omega)]
          exact hq0 _ _ (by rw [z3, fin]) (fun _ => by rw [fin]; exact vv) f3 g3
        · exact hq0 _ _ (w3 z3) (fun z => absurd z z3) f3 g3
      refine fs_r_icmp (a := (M3 1 2)) (y := (M3 1 1)) (L1 := [some (.inr (.ref 1)), some (.inr (.ref 12)), some (.inl i)]) (st1 := []) (M1 := M3) (ob := [1 < fs_N ∧ fs_kd 1 = 4, 1 < fs_N ∧ fs_kd 1 = 4]) rfl rfl (fs_oc fs_ob1 (fs_oc fs_ob1 trivial)) (fun (h2 : (M3 1 1) ≤ (M3 1 2)) => ?_) (fun (h2 : ¬ ((M3 1 1) ≤ (M3 1 2))) => ?_)
      · refine fs_r_iret (a := (M3 1 3)) (L1 := [some (.inr (.ref 1)), some (.inr (.ref 12)), some (.inl i)]) (M1 := M3) (ob := [1 < fs_N ∧ fs_kd 1 = 4]) rfl rfl (fs_oc fs_ob1 trivial) (Or.inl rfl) ?_
        by_cases z3 : M3 1 3 = -1
        · obtain ⟨vv, kk, gg⟩ := v3 z3
          have fin : tx_T (M 2) (M 1 1) = (-1, N3) := by
            rw [← gg]
            rcases (show i = 800 ∨ (i < 800 ∧ M 1 1 ≤ M3 1 2) by omega) with y | ⟨y, y2⟩
            · rw [y]
              rfl
            · rw [show (800 - i).toNat = (800 - (i + 1)).toNat + 1 by omega, tx_go, if_neg (by omega)]
          exact hq0 _ _ (by rw [z3, fin]) (fun _ => by rw [fin]; exact vv) f3 g3
        · exact hq0 _ _ (w3 z3) (fun z => absurd z z3) f3 g3
      refine fs_r_icmp (a := (M3 1 3)) (y := (-1)) (L1 := [some (.inr (.ref 1)), some (.inr (.ref 12)), some (.inl i)]) (st1 := []) (M1 := M3) (ob := [1 < fs_N ∧ fs_kd 1 = 4]) rfl rfl (fs_oc fs_ob1 trivial) (fun (h3 : ¬ (M3 1 3) = (-1)) => ?_) (fun (h3 : ¬ (¬ (M3 1 3) = (-1))) => ?_)
      · refine fs_r_iret (a := (M3 1 3)) (L1 := [some (.inr (.ref 1)), some (.inr (.ref 12)), some (.inl i)]) (M1 := M3) (ob := [1 < fs_N ∧ fs_kd 1 = 4]) rfl rfl (fs_oc fs_ob1 trivial) (Or.inl rfl) ?_
        by_cases z3 : M3 1 3 = -1
        · obtain ⟨vv, kk, gg⟩ := v3 z3
          have fin : tx_T (M 2) (M 1 1) = (-1, N3) := by
            rw [← gg]
            rcases (show i = 800 ∨ (i < 800 ∧ M 1 1 ≤ M3 1 2) by omega) with y | ⟨y, y2⟩
            · rw [y]
              rfl
            · rw [show (800 - i).toNat = (800 - (i + 1)).toNat + 1 by omega, tx_go, if_neg (by omega)]
          exact hq0 _ _ (by rw [z3, fin]) (fun _ => by rw [fin]; exact vv) f3 g3
        · exact hq0 _ _ (w3 z3) (fun z => absurd z z3) f3 g3
      have T3 : M3 2 = M 2 := f3 2 (by decide) (by decide)
      have z3 : M3 1 3 = -1 := by omega
      obtain ⟨vv, kk, gg⟩ := v3 z3
      refine fs_r_call (sta := false) (idx := 42) (as := [.inr (.ref 1), .inr (.ref 12)]) (rest := []) (L1 := [some (.inr (.ref 1)), some (.inr (.ref 12)), some (.inl i)]) (st1 := [.inr (.ref 12), .inr (.ref 1)]) (M1 := M3) (ob := []) rfl rfl rfl trivial rfl rfl (Nat.le_of_ble_eq_true rfl) ⟨Or.inr (Nat.le_of_ble_eq_true rfl), Or.inr fs_ob1⟩ (by decide) ?_
      refine fs_c_readSentence (N := N3) (vv) (kk.1) (z3) (by omega) (fun (B : fs_M) (bf : ∀ r, r ≠ 1 → (r < 12 ∨ 18 < r) → B r = M3 r) (bg : B 1 1 = M3 1 1) (be : B 1 3 = stF (M3 2) (M3 1 1) N3 (M3 1 2)) (bk : B 1 3 = -1 → B 1 2 = stP (M3 2) (M3 1 1) N3 (M3 1 2) ∧ vw 12 B (stN (M3 2) (M3 1 1) N3 (M3 1 2))) (bb : 0 ≤ B 1 2 ∧ B 1 2 ≤ M3 1 1) => ?_)
      rw [T3, g3] at be bk
      have bt : B 2 = M 2 := (bf 2 (by decide) (by decide)).trans T3
      have bn : B 1 1 = M 1 1 := bg.trans g3
      have bq := qB_b (M 2) (M 1 1) (B 1 2)
      have bq2 := bq.2.1 (by omega)
      rw [show (800 - i).toNat = (800 - (i + 1)).toNat + 1 by omega, tx_go, if_pos (by omega)] at gg
      refine fs_r_call (sta := false) (idx := 39) (as := [.inr (.ref 1)]) (rest := []) (L1 := [some (.inr (.ref 1)), some (.inr (.ref 12)), some (.inl i)]) (st1 := [.inr (.ref 1)]) (M1 := B) (ob := []) rfl rfl rfl trivial rfl rfl (Nat.le_of_ble_eq_true rfl) ⟨Or.inr (Nat.le_of_ble_eq_true rfl), Or.inr fs_ob1⟩ (by decide) ?_
      refine fs_c_skipBlanks (by omega) ?_
      refine fs_r_goto (L1 := [some (.inr (.ref 1)), some (.inr (.ref 12)), some (.inl (i + 1))]) (st1 := []) (M1 := (fs_up B 1 2 (qB (B 2) (B 1 1) (B 1 2)))) (ob := [fs_rg (i + 1)]) rfl rfl (fs_oc ⟨by omega, by omega⟩ trivial) ?_
      exact ih20 ((i + 1)) (fs_up B 1 2 (qB (B 2) (B 1 1) (B 1 2))) ((stN (M 2) (M 1 1) N3 (M3 1 2))) (by omega) (fun r a b => by rw [fs_up_other a]; exact (bf r a b).trans (f3 r a b)) (by rw [fs_up_at, if_neg (by omega)]; exact bn) (by rw [fs_up_at, if_pos rfl, bt, bn]; omega) (fun z => by
         rw [fs_up_at, if_neg (by omega)] at z
         have sz := be.symm.trans z
         have bz := bk z
         have ok := st_ok kk (by omega) sz
         rw [if_pos sz] at gg
         refine ⟨bz.2.fr (fun r q1 q2 => fs_up_other (by omega)), ok.2, ?_⟩
         rw [fs_up_at, if_pos rfl, bt, bn, bz.1]
         exact gg) (fun z => by
         rw [fs_up_at, if_neg (by omega)] at z ⊢
         rw [if_neg (fun y => z (be.trans y))] at gg
         rw [← gg]
         exact be) (by omega)
  exact loop20 (((800 - (0)) : Int) + 1).toNat (0) (fs_up (fs_up (fs_up A1 1 2 0) 1 3 (-1)) 1 2 (qB ((fs_up (fs_up A1 1 2 0) 1 3 (-1)) 2) ((fs_up (fs_up A1 1 2 0) 1 3 (-1)) 1 1) ((fs_up (fs_up A1 1 2 0) 1 3 (-1)) 1 2))) ((fun _ => 0)) (by omega) (fun r a b => by rw [fs_up_other a, sf r a]; exact ef r b) (by rw [fs_up_at, if_neg (by omega)]; exact s1) (by rw [fs_up_at, if_pos rfl, st, s1, s2]; omega) (fun _ => ⟨ev.fr (fun r q1 q2 => by rw [fs_up_other (by omega), sf r (by omega)]), KP_zero, by rw [fs_up_at, if_pos rfl, st, s1, s2]; rfl⟩) (fun z => by rw [fs_up_at, if_neg (by omega)] at z; exact absurd s3 z) (by omega)

theorem fs_c_text {d : Nat} {M : fs_M} {Q : Option fs_V → fs_M → Prop}   (ht : 0 ≤ M 1 1 ∧ M 1 1 ≤ 800) (hq0 : ∀ (M2 : fs_M), ((tx_T (M 2) (M 1 1)).1 ≠ -1) → (∀ r, r ≠ 1 → (r < 12 ∨ 18 < r) → M2 r = M r) → (M2 1 1 = 0) → Q (some (.inl ((-4) - (tx_T (M 2) (M 1 1)).1))) M2) (hq1 : ∀ (M2 : fs_M), ((tx_T (M 2) (M 1 1)).1 = -1) → (vw 5 M2 (tx_T (M 2) (M 1 1)).2) → (∀ r, r ≠ 1 → r ≠ 0 → (r < 5 ∨ 18 < r) → M2 r = M r) → (M2 1 1 = 0) → (M2 0 6 = 0 ∧ M2 0 5 = M 0 5) → Q (some (.inl ((tx_T (M 2) (M 1 1)).2 1))) M2) : fs_W (d + 7) 77 0 [some (.inr (.ref 0)), none] [] M Q := by
  have tok := tx_T_ok (T := M 2) (n := M 1 1) ht.1
  refine fs_r_call (sta := false) (idx := 81) (as := [.inr (.ref 1), .inr (.ref 12)]) (rest := []) (L1 := [some (.inr (.ref 0)), none]) (st1 := [.inr (.ref 12), .inr (.ref 1)]) (M1 := M) (ob := [0 < fs_N ∧ fs_kd 0 = 5, 0 < fs_N ∧ fs_kd 0 = 5]) rfl rfl rfl (fs_oc fs_ob0 (fs_oc fs_ob0 trivial)) rfl rfl (Nat.le_of_ble_eq_true rfl) ⟨Or.inr (Nat.le_of_ble_eq_true rfl), Or.inr fs_ob1⟩ (by decide) ?_
  refine fs_c_read (by omega) (fun (x1 : Int) (A1 : fs_M) (re : x1 = (tx_T (M 2) (M 1 1)).1) (rv : x1 = -1 → vw 12 A1 (tx_T (M 2) (M 1 1)).2) (rf : ∀ r, r ≠ 1 → (r < 12 ∨ 18 < r) → A1 r = M r) (rg : A1 1 1 = M 1 1) => ?_)
  refine fs_r_if (a := x1) (L1 := [some (.inr (.ref 0)), some (.inl x1)]) (st1 := []) (M1 := (fs_up A1 1 1 0)) (ob := [1 < 2, 0 < fs_N ∧ fs_kd 0 = 5, 1 < fs_N ∧ fs_kd 1 = 4]) rfl rfl (fs_oc (by decide) (fs_oc fs_ob0 (fs_oc fs_ob1 trivial))) (fun (h1 : x1 < 0) => ?_) (fun (h1 : ¬ (x1 < 0)) => ?_)
  · refine fs_r_call (sta := false) (idx := 85) (as := [.inr (.ref 5), .inr (.ref 12)]) (rest := []) (L1 := [some (.inr (.ref 0)), some (.inl x1)]) (st1 := [.inr (.ref 12), .inr (.ref 5)]) (M1 := (fs_up A1 1 1 0)) (ob := [0 < fs_N ∧ fs_kd 0 = 5, 0 < fs_N ∧ fs_kd 0 = 5]) rfl rfl rfl (fs_oc fs_ob0 (fs_oc fs_ob0 trivial)) rfl rfl (Nat.le_of_ble_eq_true rfl) ⟨Or.inr (Nat.le_of_ble_eq_true rfl), Or.inr fs_ob5⟩ (by decide) ?_
    refine fs_c_bcopy (by first | exact Or.inl rfl | exact Or.inr (Or.inl rfl) | assumption) (by first | exact Or.inl rfl | exact Or.inr (Or.inl rfl) | assumption) (by omega) (fun (A2 : fs_M) (cf : ∀ r, (r < 5 ∨ 5 + 6 < r) → A2 r = (fs_up A1 1 1 0) r) (cv : ∀ N, fs_NI N → vw 12 (fs_up A1 1 1 0) N → vw 5 A2 N) => ?_)
    refine fs_r_iret (a := (A2 5 1)) (L1 := [some (.inr (.ref 0)), some (.inl x1)]) (M1 := (fs_up A2 0 6 0)) (ob := [0 < fs_N ∧ fs_kd 0 = 5, 0 < fs_N ∧ fs_kd 0 = 5, 5 < fs_N ∧ fs_kd 5 = 0]) rfl rfl (fs_oc fs_ob0 (fs_oc fs_ob0 (fs_oc fs_ob5 trivial))) (Or.inl rfl) ?_
    have z1 : x1 = -1 := by omega
    have w := cv _ tok.2.1 ((rv z1).fr (fun r q1 q2 => fs_up_other (by omega)))
    have c0 : A2 0 = M 0 := by rw [cf 0 (by omega), fs_up_other (by decide), rf 0 (by decide) (by decide)]
    have e : A2 5 1 = (tx_T (M 2) (M 1 1)).2 1 := w.2.1
    refine fs_qi e (hq1 _ (by omega) (w.fr (fun r q1 q2 => fs_up_other (by omega))) (fun r a b c => ?_) ?_ ⟨?_, ?_⟩)
    · rw [fs_up_other b, cf r (by omega), fs_up_other a, rf r a (by omega)]
    · rw [fs_up_other (by decide), cf 1 (by omega), fs_up_at, if_pos rfl]
    · rw [fs_up_at, if_pos rfl]
    · rw [fs_up_at, if_neg (by omega), c0]
  refine fs_r_iret (a := ((-4) - x1)) (L1 := [some (.inr (.ref 0)), some (.inl x1)]) (M1 := (fs_up A1 1 1 0)) (ob := [fs_rg ((-4) - x1)]) rfl rfl (fs_oc ⟨by omega, by omega⟩ trivial) (Or.inl rfl) ?_
  rw [re]
  exact hq0 _ (by omega) (fun r a b => by rw [fs_up_other a]; exact rf r a b) (by rw [fs_up_at, if_pos rfl])
