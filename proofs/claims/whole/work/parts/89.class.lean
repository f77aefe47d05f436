/-! shelf and loan sentences -/
theorem j2F_ok {T : Int → Int} {n : Int} {N : Int → Int} {e : Int} (h : j2F T n N e = -1) (he : 0 ≤ e ∧ e ≤ n) : nF T n 0 (N 1 - 1) (nF T n 0 (N 1 - 1) (-1) e) (nE T n e) = -1 := by
  unfold j2F at h
  have b1 := nE_b (T := T) (n := n) (p := e) he
  have b2 := qB_b T n (nE T n e)
  split at h
  · omega
  · exact h
theorem fs_c_readItem0 {d : Nat} {M : fs_M} {Q : Option fs_V → fs_M → Prop}  {N : Int → Int} (hV : vw 12 M N) (hN : fs_NI N) (hs : wst M) (hq0 : ∀ (M2 : fs_M), (∀ r, r ≠ 1 → (r < 12 ∨ 18 < r) → M2 r = M r) → (M2 1 1 = M 1 1) → (M2 1 3 = iF (M 2) (M 1 1) N 0 (M 1 4) (M 1 2)) → (M2 1 3 = -1 → M2 1 2 = aP (M 2) (M 1 1) (M 1 2) ∧ vw 12 M2 (iN (M 2) (M 1 1) N 0 (M 1 2))) → (0 ≤ M2 1 2 ∧ M2 1 2 ≤ M 1 1) → Q none M2) : fs_W (d + 3) 74 0 [some (.inr (.ref 1)), some (.inr (.ref 12)), some (.inl 0), none, none] [] M Q := by
  obtain ⟨s3, ⟨s40, s45, s52⟩, ⟨s2n, sn8⟩, sx⟩ := id hs
  obtain ⟨v0, v1, -, -, -, -, vlc, -⟩ := id hV
  obtain ⟨hA, hH, -, -, -, -, hsh, -⟩ := id hN
  have hat : 0 ≤ M 1 2 ∧ M 1 2 ≤ M 1 1 ∧ M 1 1 ≤ 800 := ⟨by omega, s2n, sn8⟩
  have hw0 : M 1 3 = -1 → (M 1 5 = M 1 2 ∧ 0 < M 1 2 ∧ xL (M 2) (M 1 1) (M 1 2 - 1)) ∨ (M 1 5 < M 1 2 ∧ (gl (M 2) (M 1 1) (M 1 2) → ¬ xD (M 2) (M 1 1) (M 1 2))) := fun _ => Or.inl ⟨s52, by omega, sx⟩
  have b1 := nE_b (T := M 2) (n := M 1 1) (p := M 1 2) ⟨hat.1, hat.2.1⟩
  have b2 := nE_b (T := M 2) (n := M 1 1) (p := nE (M 2) (M 1 1) (M 1 2)) ⟨by omega, b1.2.1⟩
  have b3 := nE_b (T := M 2) (n := M 1 1) (p := nE (M 2) (M 1 1) (nE (M 2) (M 1 1) (M 1 2))) ⟨by omega, b2.2.1⟩
  have vk := vlc 0 (by omega) (by omega)
  have sk := hsh 0 (by omega) (by omega)
  simp only [show (12 + 5 : Nat) = 17 from rfl] at vk
  refine fs_r_icmp (a := (M 17 0)) (y := 4) (L1 := [some (.inr (.ref 1)), some (.inr (.ref 12)), some (.inl 0), none, none]) (st1 := []) (M1 := M) (ob := [12 < fs_N ∧ fs_kd 12 = 0, (17 < fs_N ∧ fs_kd 17 = 100) ∧ (0 : Int) ≤ 0 ∧ 0 < fs_ln 17]) rfl rfl (fs_oc fs_ob12 (fs_oc (fs_ar17 (by omega) (by omega)) trivial)) (fun (h1 : (M 17 0) < 4) => ?_) (fun (h1 : ¬ ((M 17 0) < 4)) => ?_)
  · refine fs_r_call (sta := false) (idx := 101) (as := [.inr (.ref 1), .inl 0, .inl ((M 12 0) - 1)]) (rest := []) (L1 := [some (.inr (.ref 1)), some (.inr (.ref 12)), some (.inl 0), none, none]) (st1 := [.inl ((M 12 0) - 1), .inl 0, .inr (.ref 1)]) (M1 := M) (ob := [12 < fs_N ∧ fs_kd 12 = 0, fs_rg ((M 12 0) - 1)]) rfl rfl rfl (fs_oc fs_ob12 (fs_oc ⟨by omega, by omega⟩ trivial)) rfl rfl (Nat.le_of_ble_eq_true rfl) ⟨Or.inr (Nat.le_of_ble_eq_true rfl), Or.inr fs_ob1⟩ (by decide) ?_
    refine fs_c_readNumber (hat) (hw0) (fun (x1 : Int) (A1 : fs_M) (f1_ : ∀ r, r ≠ 1 → A1 r = M r) (g1_ : A1 1 1 = M 1 1 ∧ A1 1 4 = M 1 4 ∧ A1 1 5 = M 1 5 ∧ A1 1 6 = qB (M 2) (M 1 1) (M 1 2)) (t1_ : A1 1 2 = nE (M 2) (M 1 1) (M 1 2)) (e1_ : A1 1 3 = nF (M 2) (M 1 1) 0 ((M 12 0) - 1) (M 1 3) (M 1 2)) (w1_ : (A1 1 3 = -1 → x1 = nV (M 2) (M 1 1) (M 1 2)) ∧ 0 ≤ x1 ∧ x1 ≤ 99999) => ?_)
    have a1t : A1 2 = M 2 := f1_ 2 (by decide)
    have k1 : A1 1 3 = -1 → nOk (M 2) (M 1 1) 0 (M 12 0 - 1) (M 1 2) := fun z => (nF_ok (e1_.symm.trans z) hat.1).2
    have hw1 := num_hw (A := A1) ⟨hat.1, hat.2.1⟩ (by omega) ⟨g1_.1, g1_.2.2.1⟩ a1t t1_ k1
    have hat1 : 0 ≤ A1 1 2 ∧ A1 1 2 ≤ A1 1 1 ∧ A1 1 1 ≤ 800 := by rw [t1_, g1_.1]; omega
    refine fs_r_if (a := 0) (L1 := [some (.inr (.ref 1)), some (.inr (.ref 12)), some (.inl 0), some (.inl x1), none]) (st1 := [.inl 0, .inr (.ref 1)]) (M1 := A1) (ob := [3 < 5]) rfl rfl (fs_oc (by decide) trivial) (fun h => absurd h (by decide : ¬ (¬ (0 : Int) = 0))) (fun _ => ?_)
    refine fs_r_goto (L1 := [some (.inr (.ref 1)), some (.inr (.ref 12)), some (.inl 0), some (.inl x1), none]) (st1 := [.inl 360, .inl 0, .inr (.ref 1)]) (M1 := A1) (ob := []) rfl rfl trivial ?_
    refine fs_r_call (sta := false) (idx := 101) (as := [.inr (.ref 1), .inl 0, .inl 360]) (rest := []) (L1 := [some (.inr (.ref 1)), some (.inr (.ref 12)), some (.inl 0), some (.inl x1), none]) (st1 := [.inl 360, .inl 0, .inr (.ref 1)]) (M1 := A1) (ob := []) rfl rfl rfl trivial rfl rfl (Nat.le_of_ble_eq_true rfl) ⟨Or.inr (Nat.le_of_ble_eq_true rfl), Or.inr fs_ob1⟩ (by decide) ?_
    refine fs_c_readNumber (hat1) (hw1) (fun (x2 : Int) (A2 : fs_M) (f2_ : ∀ r, r ≠ 1 → A2 r = A1 r) (g2_ : A2 1 1 = A1 1 1 ∧ A2 1 4 = A1 1 4 ∧ A2 1 5 = A1 1 5 ∧ A2 1 6 = qB (A1 2) (A1 1 1) (A1 1 2)) (t2_ : A2 1 2 = nE (A1 2) (A1 1 1) (A1 1 2)) (e2_ : A2 1 3 = nF (A1 2) (A1 1 1) 0 360 (A1 1 3) (A1 1 2)) (w2_ : (A2 1 3 = -1 → x2 = nV (A1 2) (A1 1 1) (A1 1 2)) ∧ 0 ≤ x2 ∧ x2 ≤ 99999) => ?_)
    have a2t : A2 2 = M 2 := (f2_ 2 (by decide)).trans a1t
    have g2n : A2 1 1 = M 1 1 := g2_.1.trans g1_.1
    rw [a1t, g1_.1, t1_] at t2_ e2_ w2_
    have hat2 : 0 ≤ A2 1 2 ∧ A2 1 2 ≤ A2 1 1 ∧ A2 1 1 ≤ 800 := by rw [t2_, g2n]; omega
    refine fs_r_call (sta := false) (idx := 105) (as := [.inr (.ref 1)]) (rest := []) (L1 := [some (.inr (.ref 1)), some (.inr (.ref 12)), some (.inl 0), some (.inl x1), some (.inl x2)]) (st1 := [.inr (.ref 1)]) (M1 := A2) (ob := [4 < 5]) rfl rfl rfl (fs_oc (by decide) trivial) rfl rfl (Nat.le_of_ble_eq_true rfl) ⟨Or.inr (Nat.le_of_ble_eq_true rfl), Or.inr fs_ob1⟩ (by decide) ?_
    refine fs_c_readEnd (hat2) (fun (E : fs_M) (ef : ∀ r, r ≠ 1 → E r = A2 r) (eg : E 1 1 = A2 1 1 ∧ E 1 4 = A2 1 4 ∧ E 1 5 = A2 1 5) (ee : E 1 3 = eF (A2 2) (A2 1 1) (A2 1 3) (A2 1 2)) (et : (E 1 3 = -1 → E 1 2 = qB (A2 2) (A2 1 1) (A2 1 2) + 1) ∧ 0 ≤ E 1 2 ∧ E 1 2 ≤ A2 1 1) => ?_)
    have g3n : E 1 1 = M 1 1 := eg.1.trans g2n
    rw [a2t, g2n, t2_] at ee et
    have et2 : E 2 = M 2 := (ef 2 (by decide)).trans a2t
    have x12 : E 12 = M 12 := by rw [ef 12 (by decide), f2_ 12 (by decide), f1_ 12 (by decide)]
    have x17 : E 17 = M 17 := by rw [ef 17 (by decide), f2_ 17 (by decide), f1_ 17 (by decide)]
    have eF9 : E 1 3 = iF (M 2) (M 1 1) N 0 (M 1 4) (M 1 2) := by
      rw [ee, e2_, e1_, s3, v0]
      unfold iF
      rw [if_neg (by omega : ¬ N (100 + 13 * 0) = 4)]
      rfl
    refine fs_r_icmp (a := (E 1 3)) (y := (-1)) (L1 := [some (.inr (.ref 1)), some (.inr (.ref 12)), some (.inl 0), some (.inl x1), some (.inl x2)]) (st1 := []) (M1 := E) (ob := [1 < fs_N ∧ fs_kd 1 = 4]) rfl rfl (fs_oc fs_ob1 trivial) (fun (h2 : ¬ (E 1 3) = (-1)) => ?_) (fun (h2 : ¬ (¬ (E 1 3) = (-1))) => ?_)
    · refine fs_r_ret (L1 := [some (.inr (.ref 1)), some (.inr (.ref 12)), some (.inl 0), some (.inl x1), some (.inl x2)]) (M1 := E) (ob := []) rfl rfl trivial ?_
      have ff : ∀ r, r ≠ 1 → E r = M r := fun r z => by rw [ef r z, f2_ r z, f1_ r z]
      first
        | (have z3 : E 1 3 = -1 := by omega
           have o3 := eF_ok (ee.symm.trans z3) (by omega)
           have o2 := nF_ok (e2_.symm.trans o3.1) (by omega)
           have y1 := w1_.1 o2.1
           have y2 := w2_.1 o3.1
           refine hq0 _ (fun r q1 q2 => by rw [fs_up_other (by omega), fs_up_other (by omega), fs_up_other (by omega), fs_up_other (by omega)]; exact ff r q1) g3n eF9 (fun _ => ⟨et.1 z3, ?_⟩) et.2
           have vE : vw 12 E N := hV.fr (fun r q1 q2 => ff r (by omega))
           have e0 : E 17 0 = N (100 + 13 * 0) := by rw [x17]; exact vk
           unfold iN
           rw [← y1, ← y2]
           simp only [e0]
           exact vw_put12 (s := 0) (k := 0) vE hsh (by omega) (by omega))
        | exact hq0 _ (fun r q1 q2 => ff r q1) g3n eF9 (fun z => by omega) et.2
    refine fs_r_call (sta := false) (idx := 136) (as := [.inr (.ref 12), .inl 0, .inl 0, .inl x1, .inl x2]) (rest := []) (L1 := [some (.inr (.ref 1)), some (.inr (.ref 12)), some (.inl 0), some (.inl x1), some (.inl x2)]) (st1 := [.inl x2, .inl x1, .inl 0, .inl 0, .inr (.ref 12)]) (M1 := E) (ob := []) rfl rfl rfl trivial rfl rfl (Nat.le_of_ble_eq_true rfl) ⟨Or.inr (Nat.le_of_ble_eq_true rfl), Or.inr fs_ob12⟩ (by decide) ?_
    refine fs_c_put12 (by omega) (by rw [x17]; omega) ?_
    refine fs_r_nop (L1 := [some (.inr (.ref 1)), some (.inr (.ref 12)), some (.inl 0), some (.inl x1), some (.inl x2)]) (st1 := []) (M1 := (fs_up (fs_up (fs_up (fs_up E 18 (((0 * 4) + (E 17 0)) * 3) 0) 18 ((((0 * 4) + (E 17 0)) * 3) + 1) x1) 18 ((((0 * 4) + (E 17 0)) * 3) + 2) x2) 17 0 ((E 17 0) + 1))) (ob := []) rfl rfl trivial ?_
    refine fs_r_ret (L1 := [some (.inr (.ref 1)), some (.inr (.ref 12)), some (.inl 0), some (.inl x1), some (.inl x2)]) (M1 := (fs_up (fs_up (fs_up (fs_up E 18 (((0 * 4) + (E 17 0)) * 3) 0) 18 ((((0 * 4) + (E 17 0)) * 3) + 1) x1) 18 ((((0 * 4) + (E 17 0)) * 3) + 2) x2) 17 0 ((E 17 0) + 1))) (ob := []) rfl rfl trivial ?_
    have ff : ∀ r, r ≠ 1 → E r = M r := fun r z => by rw [ef r z, f2_ r z, f1_ r z]
    first
      | (have z3 : E 1 3 = -1 := by omega
         have o3 := eF_ok (ee.symm.trans z3) (by omega)
         have o2 := nF_ok (e2_.symm.trans o3.1) (by omega)
         have y1 := w1_.1 o2.1
         have y2 := w2_.1 o3.1
         refine hq0 _ (fun r q1 q2 => by rw [fs_up_other (by omega), fs_up_other (by omega), fs_up_other (by omega), fs_up_other (by omega)]; exact ff r q1) g3n eF9 (fun _ => ⟨et.1 z3, ?_⟩) et.2
         have vE : vw 12 E N := hV.fr (fun r q1 q2 => ff r (by omega))
         have e0 : E 17 0 = N (100 + 13 * 0) := by rw [x17]; exact vk
         unfold iN
         rw [← y1, ← y2]
         simp only [e0]
         exact vw_put12 (s := 0) (k := 0) vE hsh (by omega) (by omega))
      | exact hq0 _ (fun r q1 q2 => ff r q1) g3n eF9 (fun z => by omega) et.2
  refine fs_r_call (sta := false) (idx := 91) (as := [.inr (.ref 1), .inl (M 1 4)]) (rest := []) (L1 := [some (.inr (.ref 1)), some (.inr (.ref 12)), some (.inl 0), none, none]) (st1 := [.inl (M 1 4), .inr (.ref 1)]) (M1 := M) (ob := [1 < fs_N ∧ fs_kd 1 = 4]) rfl rfl rfl (fs_oc fs_ob1 trivial) rfl rfl (Nat.le_of_ble_eq_true rfl) ⟨Or.inr (Nat.le_of_ble_eq_true rfl), Or.inr fs_ob1⟩ (by decide) ?_
  refine fs_c_failAt ?_
  refine fs_r_ret (L1 := [some (.inr (.ref 1)), some (.inr (.ref 12)), some (.inl 0), none, none]) (M1 := (fs_up M 1 3 (if M 1 3 = -1 then (M 1 4) else M 1 3))) (ob := []) rfl rfl trivial ?_
  have f9 : (fs_up M 1 3 (if M 1 3 = -1 then (M 1 4) else M 1 3)) 1 3 = M 1 4 := by rw [fs_up_at, if_pos rfl, if_pos s3]
  have fF : iF (M 2) (M 1 1) N 0 (M 1 4) (M 1 2) = M 1 4 := by
    unfold iF
    rw [if_pos (by omega), nF_ne (f := M 1 4) (by omega), nF_ne (by omega)]
    unfold eF
    exact if_neg (by omega)
  exact hq0 _ (fun r z _ => fs_up_other z) (by rw [fs_up_at, if_neg (by omega)]) (f9.trans fF.symm) (fun z => by rw [f9] at z; omega) (by rw [fs_up_at, if_neg (by omega)]; omega)

theorem fs_c_readItem1 {d : Nat} {M : fs_M} {Q : Option fs_V → fs_M → Prop}  {N : Int → Int} (hV : vw 12 M N) (hN : fs_NI N) (hs : wst M) (hq0 : ∀ (M2 : fs_M), (∀ r, r ≠ 1 → (r < 12 ∨ 18 < r) → M2 r = M r) → (M2 1 1 = M 1 1) → (M2 1 3 = iF (M 2) (M 1 1) N 1 (M 1 4) (M 1 2)) → (M2 1 3 = -1 → M2 1 2 = aP (M 2) (M 1 1) (M 1 2) ∧ vw 12 M2 (iN (M 2) (M 1 1) N 1 (M 1 2))) → (0 ≤ M2 1 2 ∧ M2 1 2 ≤ M 1 1) → Q none M2) : fs_W (d + 3) 74 0 [some (.inr (.ref 1)), some (.inr (.ref 12)), some (.inl 1), none, none] [] M Q := by
  obtain ⟨s3, ⟨s40, s45, s52⟩, ⟨s2n, sn8⟩, sx⟩ := id hs
  obtain ⟨v0, v1, -, -, -, -, vlc, -⟩ := id hV
  obtain ⟨hA, hH, -, -, -, -, hsh, -⟩ := id hN
  have hat : 0 ≤ M 1 2 ∧ M 1 2 ≤ M 1 1 ∧ M 1 1 ≤ 800 := ⟨by omega, s2n, sn8⟩
  have hw0 : M 1 3 = -1 → (M 1 5 = M 1 2 ∧ 0 < M 1 2 ∧ xL (M 2) (M 1 1) (M 1 2 - 1)) ∨ (M 1 5 < M 1 2 ∧ (gl (M 2) (M 1 1) (M 1 2) → ¬ xD (M 2) (M 1 1) (M 1 2))) := fun _ => Or.inl ⟨s52, by omega, sx⟩
  have b1 := nE_b (T := M 2) (n := M 1 1) (p := M 1 2) ⟨hat.1, hat.2.1⟩
  have b2 := nE_b (T := M 2) (n := M 1 1) (p := nE (M 2) (M 1 1) (M 1 2)) ⟨by omega, b1.2.1⟩
  have b3 := nE_b (T := M 2) (n := M 1 1) (p := nE (M 2) (M 1 1) (nE (M 2) (M 1 1) (M 1 2))) ⟨by omega, b2.2.1⟩
  have vk := vlc 1 (by omega) (by omega)
  have sk := hsh 1 (by omega) (by omega)
  simp only [show (12 + 5 : Nat) = 17 from rfl] at vk
  refine fs_r_icmp (a := (M 17 1)) (y := 4) (L1 := [some (.inr (.ref 1)), some (.inr (.ref 12)), some (.inl 1), none, none]) (st1 := []) (M1 := M) (ob := [12 < fs_N ∧ fs_kd 12 = 0, (17 < fs_N ∧ fs_kd 17 = 100) ∧ (0 : Int) ≤ 1 ∧ 1 < fs_ln 17]) rfl rfl (fs_oc fs_ob12 (fs_oc (fs_ar17 (by omega) (by omega)) trivial)) (fun (h1 : (M 17 1) < 4) => ?_) (fun (h1 : ¬ ((M 17 1) < 4)) => ?_)
  · refine fs_r_call (sta := false) (idx := 101) (as := [.inr (.ref 1), .inl 0, .inl ((M 12 0) - 1)]) (rest := []) (L1 := [some (.inr (.ref 1)), some (.inr (.ref 12)), some (.inl 1), none, none]) (st1 := [.inl ((M 12 0) - 1), .inl 0, .inr (.ref 1)]) (M1 := M) (ob := [12 < fs_N ∧ fs_kd 12 = 0, fs_rg ((M 12 0) - 1)]) rfl rfl rfl (fs_oc fs_ob12 (fs_oc ⟨by omega, by omega⟩ trivial)) rfl rfl (Nat.le_of_ble_eq_true rfl) ⟨Or.inr (Nat.le_of_ble_eq_true rfl), Or.inr fs_ob1⟩ (by decide) ?_
    refine fs_c_readNumber (hat) (hw0) (fun (x1 : Int) (A1 : fs_M) (f1_ : ∀ r, r ≠ 1 → A1 r = M r) (g1_ : A1 1 1 = M 1 1 ∧ A1 1 4 = M 1 4 ∧ A1 1 5 = M 1 5 ∧ A1 1 6 = qB (M 2) (M 1 1) (M 1 2)) (t1_ : A1 1 2 = nE (M 2) (M 1 1) (M 1 2)) (e1_ : A1 1 3 = nF (M 2) (M 1 1) 0 ((M 12 0) - 1) (M 1 3) (M 1 2)) (w1_ : (A1 1 3 = -1 → x1 = nV (M 2) (M 1 1) (M 1 2)) ∧ 0 ≤ x1 ∧ x1 ≤ 99999) => ?_)
    have a1t : A1 2 = M 2 := f1_ 2 (by decide)
    have k1 : A1 1 3 = -1 → nOk (M 2) (M 1 1) 0 (M 12 0 - 1) (M 1 2) := fun z => (nF_ok (e1_.symm.trans z) hat.1).2
    have hw1 := num_hw (A := A1) ⟨hat.1, hat.2.1⟩ (by omega) ⟨g1_.1, g1_.2.2.1⟩ a1t t1_ k1
    have hat1 : 0 ≤ A1 1 2 ∧ A1 1 2 ≤ A1 1 1 ∧ A1 1 1 ≤ 800 := by rw [t1_, g1_.1]; omega
    refine fs_r_if (a := 1) (L1 := [some (.inr (.ref 1)), some (.inr (.ref 12)), some (.inl 1), some (.inl x1), none]) (st1 := [.inl 0, .inr (.ref 1)]) (M1 := A1) (ob := [3 < 5]) rfl rfl (fs_oc (by decide) trivial) (fun _ => ?_) (fun h => absurd (by decide : ¬ (1 : Int) = 0) h)
    refine fs_r_nop (L1 := [some (.inr (.ref 1)), some (.inr (.ref 12)), some (.inl 1), some (.inl x1), none]) (st1 := [.inl 200, .inl 0, .inr (.ref 1)]) (M1 := A1) (ob := []) rfl rfl trivial ?_
    refine fs_r_call (sta := false) (idx := 101) (as := [.inr (.ref 1), .inl 0, .inl 200]) (rest := []) (L1 := [some (.inr (.ref 1)), some (.inr (.ref 12)), some (.inl 1), some (.inl x1), none]) (st1 := [.inl 200, .inl 0, .inr (.ref 1)]) (M1 := A1) (ob := []) rfl rfl rfl trivial rfl rfl (Nat.le_of_ble_eq_true rfl) ⟨Or.inr (Nat.le_of_ble_eq_true rfl), Or.inr fs_ob1⟩ (by decide) ?_
    refine fs_c_readNumber (hat1) (hw1) (fun (x2 : Int) (A2 : fs_M) (f2_ : ∀ r, r ≠ 1 → A2 r = A1 r) (g2_ : A2 1 1 = A1 1 1 ∧ A2 1 4 = A1 1 4 ∧ A2 1 5 = A1 1 5 ∧ A2 1 6 = qB (A1 2) (A1 1 1) (A1 1 2)) (t2_ : A2 1 2 = nE (A1 2) (A1 1 1) (A1 1 2)) (e2_ : A2 1 3 = nF (A1 2) (A1 1 1) 0 200 (A1 1 3) (A1 1 2)) (w2_ : (A2 1 3 = -1 → x2 = nV (A1 2) (A1 1 1) (A1 1 2)) ∧ 0 ≤ x2 ∧ x2 ≤ 99999) => ?_)
    have a2t : A2 2 = M 2 := (f2_ 2 (by decide)).trans a1t
    have g2n : A2 1 1 = M 1 1 := g2_.1.trans g1_.1
    rw [a1t, g1_.1, t1_] at t2_ e2_ w2_
    have hat2 : 0 ≤ A2 1 2 ∧ A2 1 2 ≤ A2 1 1 ∧ A2 1 1 ≤ 800 := by rw [t2_, g2n]; omega
    refine fs_r_call (sta := false) (idx := 105) (as := [.inr (.ref 1)]) (rest := []) (L1 := [some (.inr (.ref 1)), some (.inr (.ref 12)), some (.inl 1), some (.inl x1), some (.inl x2)]) (st1 := [.inr (.ref 1)]) (M1 := A2) (ob := [4 < 5]) rfl rfl rfl (fs_oc (by decide) trivial) rfl rfl (Nat.le_of_ble_eq_true rfl) ⟨Or.inr (Nat.le_of_ble_eq_true rfl), Or.inr fs_ob1⟩ (by decide) ?_
    refine fs_c_readEnd (hat2) (fun (E : fs_M) (ef : ∀ r, r ≠ 1 → E r = A2 r) (eg : E 1 1 = A2 1 1 ∧ E 1 4 = A2 1 4 ∧ E 1 5 = A2 1 5) (ee : E 1 3 = eF (A2 2) (A2 1 1) (A2 1 3) (A2 1 2)) (et : (E 1 3 = -1 → E 1 2 = qB (A2 2) (A2 1 1) (A2 1 2) + 1) ∧ 0 ≤ E 1 2 ∧ E 1 2 ≤ A2 1 1) => ?_)
    have g3n : E 1 1 = M 1 1 := eg.1.trans g2n
    rw [a2t, g2n, t2_] at ee et
    have et2 : E 2 = M 2 := (ef 2 (by decide)).trans a2t
    have x12 : E 12 = M 12 := by rw [ef 12 (by decide), f2_ 12 (by decide), f1_ 12 (by decide)]
    have x17 : E 17 = M 17 := by rw [ef 17 (by decide), f2_ 17 (by decide), f1_ 17 (by decide)]
    have eF9 : E 1 3 = iF (M 2) (M 1 1) N 1 (M 1 4) (M 1 2) := by
      rw [ee, e2_, e1_, s3, v0]
      unfold iF
      rw [if_neg (by omega : ¬ N (100 + 13 * 1) = 4)]
      rfl
    refine fs_r_icmp (a := (E 1 3)) (y := (-1)) (L1 := [some (.inr (.ref 1)), some (.inr (.ref 12)), some (.inl 1), some (.inl x1), some (.inl x2)]) (st1 := []) (M1 := E) (ob := [1 < fs_N ∧ fs_kd 1 = 4]) rfl rfl (fs_oc fs_ob1 trivial) (fun (h2 : ¬ (E 1 3) = (-1)) => ?_) (fun (h2 : ¬ (¬ (E 1 3) = (-1))) => ?_)
    · refine fs_r_ret (L1 := [some (.inr (.ref 1)), some (.inr (.ref 12)), some (.inl 1), some (.inl x1), some (.inl x2)]) (M1 := E) (ob := []) rfl rfl trivial ?_
      have ff : ∀ r, r ≠ 1 → E r = M r := fun r z => by rw [ef r z, f2_ r z, f1_ r z]
      first
        | (have z3 : E 1 3 = -1 := by omega
           have o3 := eF_ok (ee.symm.trans z3) (by omega)
           have o2 := nF_ok (e2_.symm.trans o3.1) (by omega)
           have y1 := w1_.1 o2.1
           have y2 := w2_.1 o3.1
           refine hq0 _ (fun r q1 q2 => by rw [fs_up_other (by omega), fs_up_other (by omega), fs_up_other (by omega), fs_up_other (by omega)]; exact ff r q1) g3n eF9 (fun _ => ⟨et.1 z3, ?_⟩) et.2
           have vE : vw 12 E N := hV.fr (fun r q1 q2 => ff r (by omega))
           have e0 : E 17 1 = N (100 + 13 * 1) := by rw [x17]; exact vk
           unfold iN
           rw [← y1, ← y2]
           simp only [e0]
           exact vw_put12 (s := 1) (k := 1) vE hsh (by omega) (by omega))
        | exact hq0 _ (fun r q1 q2 => ff r q1) g3n eF9 (fun z => by omega) et.2
    refine fs_r_call (sta := false) (idx := 136) (as := [.inr (.ref 12), .inl 1, .inl 1, .inl x1, .inl x2]) (rest := []) (L1 := [some (.inr (.ref 1)), some (.inr (.ref 12)), some (.inl 1), some (.inl x1), some (.inl x2)]) (st1 := [.inl x2, .inl x1, .inl 1, .inl 1, .inr (.ref 12)]) (M1 := E) (ob := []) rfl rfl rfl trivial rfl rfl (Nat.le_of_ble_eq_true rfl) ⟨Or.inr (Nat.le_of_ble_eq_true rfl), Or.inr fs_ob12⟩ (by decide) ?_
    refine fs_c_put12 (by omega) (by rw [x17]; omega) ?_
    refine fs_r_nop (L1 := [some (.inr (.ref 1)), some (.inr (.ref 12)), some (.inl 1), some (.inl x1), some (.inl x2)]) (st1 := []) (M1 := (fs_up (fs_up (fs_up (fs_up E 18 (((1 * 4) + (E 17 1)) * 3) 1) 18 ((((1 * 4) + (E 17 1)) * 3) + 1) x1) 18 ((((1 * 4) + (E 17 1)) * 3) + 2) x2) 17 1 ((E 17 1) + 1))) (ob := []) rfl rfl trivial ?_
    refine fs_r_ret (L1 := [some (.inr (.ref 1)), some (.inr (.ref 12)), some (.inl 1), some (.inl x1), some (.inl x2)]) (M1 := (fs_up (fs_up (fs_up (fs_up E 18 (((1 * 4) + (E 17 1)) * 3) 1) 18 ((((1 * 4) + (E 17 1)) * 3) + 1) x1) 18 ((((1 * 4) + (E 17 1)) * 3) + 2) x2) 17 1 ((E 17 1) + 1))) (ob := []) rfl rfl trivial ?_
    have ff : ∀ r, r ≠ 1 → E r = M r := fun r z => by rw [ef r z, f2_ r z, f1_ r z]
    first
      | (have z3 : E 1 3 = -1 := by omega
         have o3 := eF_ok (ee.symm.trans z3) (by omega)
         have o2 := nF_ok (e2_.symm.trans o3.1) (by omega)
         have y1 := w1_.1 o2.1
         have y2 := w2_.1 o3.1
         refine hq0 _ (fun r q1 q2 => by rw [fs_up_other (by omega), fs_up_other (by omega), fs_up_other (by omega), fs_up_other (by omega)]; exact ff r q1) g3n eF9 (fun _ => ⟨et.1 z3, ?_⟩) et.2
         have vE : vw 12 E N := hV.fr (fun r q1 q2 => ff r (by omega))
         have e0 : E 17 1 = N (100 + 13 * 1) := by rw [x17]; exact vk
         unfold iN
         rw [← y1, ← y2]
         simp only [e0]
         exact vw_put12 (s := 1) (k := 1) vE hsh (by omega) (by omega))
      | exact hq0 _ (fun r q1 q2 => ff r q1) g3n eF9 (fun z => by omega) et.2
  refine fs_r_call (sta := false) (idx := 91) (as := [.inr (.ref 1), .inl (M 1 4)]) (rest := []) (L1 := [some (.inr (.ref 1)), some (.inr (.ref 12)), some (.inl 1), none, none]) (st1 := [.inl (M 1 4), .inr (.ref 1)]) (M1 := M) (ob := [1 < fs_N ∧ fs_kd 1 = 4]) rfl rfl rfl (fs_oc fs_ob1 trivial) rfl rfl (Nat.le_of_ble_eq_true rfl) ⟨Or.inr (Nat.le_of_ble_eq_true rfl), Or.inr fs_ob1⟩ (by decide) ?_
  refine fs_c_failAt ?_
  refine fs_r_ret (L1 := [some (.inr (.ref 1)), some (.inr (.ref 12)), some (.inl 1), none, none]) (M1 := (fs_up M 1 3 (if M 1 3 = -1 then (M 1 4) else M 1 3))) (ob := []) rfl rfl trivial ?_
  have f9 : (fs_up M 1 3 (if M 1 3 = -1 then (M 1 4) else M 1 3)) 1 3 = M 1 4 := by rw [fs_up_at, if_pos rfl, if_pos s3]
  have fF : iF (M 2) (M 1 1) N 1 (M 1 4) (M 1 2) = M 1 4 := by
    unfold iF
    rw [if_pos (by omega), nF_ne (f := M 1 4) (by omega), nF_ne (by omega)]
    unfold eF
    exact if_neg (by omega)
  exact hq0 _ (fun r z _ => fs_up_other z) (by rw [fs_up_at, if_neg (by omega)]) (f9.trans fF.symm) (fun z => by rw [f9] at z; omega) (by rw [fs_up_at, if_neg (by omega)]; omega)

theorem fs_c_readLoan {d : Nat} {M : fs_M} {Q : Option fs_V → fs_M → Prop}  {N : Int → Int} (hV : vw 12 M N) (hN : fs_NI N) (hs : wst M) (hq0 : ∀ (M2 : fs_M), (∀ r, r ≠ 1 → (r < 12 ∨ 18 < r) → M2 r = M r) → (M2 1 1 = M 1 1) → (M2 1 3 = jF (M 2) (M 1 1) N (M 1 2)) → (M2 1 3 = -1 → M2 1 2 = jP (M 2) (M 1 1) (M 1 2) ∧ vw 12 M2 (jN (M 2) (M 1 1) N (M 1 2))) → (0 ≤ M2 1 2 ∧ M2 1 2 ≤ M 1 1) → Q none M2) : fs_W (d + 3) 73 0 [some (.inr (.ref 1)), some (.inr (.ref 12)), none, none, none] [] M Q := by
  obtain ⟨s3, ⟨s40, s45, s52⟩, ⟨s2n, sn8⟩, sx⟩ := id hs
  obtain ⟨v0, v1, -, -, -, -, vlc, -⟩ := id hV
  obtain ⟨hA, hH, -, -, -, -, hsh, -⟩ := id hN
  have hat : 0 ≤ M 1 2 ∧ M 1 2 ≤ M 1 1 ∧ M 1 1 ≤ 800 := ⟨by omega, s2n, sn8⟩
  have hw0 : M 1 3 = -1 → (M 1 5 = M 1 2 ∧ 0 < M 1 2 ∧ xL (M 2) (M 1 1) (M 1 2 - 1)) ∨ (M 1 5 < M 1 2 ∧ (gl (M 2) (M 1 1) (M 1 2) → ¬ xD (M 2) (M 1 1) (M 1 2))) := fun _ => Or.inl ⟨s52, by omega, sx⟩
  have b1 := nE_b (T := M 2) (n := M 1 1) (p := M 1 2) ⟨hat.1, hat.2.1⟩
  have b2 := nE_b (T := M 2) (n := M 1 1) (p := nE (M 2) (M 1 1) (M 1 2)) ⟨by omega, b1.2.1⟩
  have b3 := nE_b (T := M 2) (n := M 1 1) (p := nE (M 2) (M 1 1) (nE (M 2) (M 1 1) (M 1 2))) ⟨by omega, b2.2.1⟩
  have b4 := nE_b (T := M 2) (n := M 1 1) (p := nE (M 2) (M 1 1) (nE (M 2) (M 1 1) (nE (M 2) (M 1 1) (M 1 2)))) ⟨by omega, b3.2.1⟩
  refine fs_r_call (sta := false) (idx := 101) (as := [.inr (.ref 1), .inl 0, .inl ((M 12 1) - 1)]) (rest := []) (L1 := [some (.inr (.ref 1)), some (.inr (.ref 12)), none, none, none]) (st1 := [.inl ((M 12 1) - 1), .inl 0, .inr (.ref 1)]) (M1 := M) (ob := [12 < fs_N ∧ fs_kd 12 = 0, fs_rg ((M 12 1) - 1)]) rfl rfl rfl (fs_oc fs_ob12 (fs_oc ⟨by omega, by omega⟩ trivial)) rfl rfl (Nat.le_of_ble_eq_true rfl) ⟨Or.inr (Nat.le_of_ble_eq_true rfl), Or.inr fs_ob1⟩ (by decide) ?_
  refine fs_c_readNumber (hat) (hw0) (fun (x1 : Int) (A1 : fs_M) (f1_ : ∀ r, r ≠ 1 → A1 r = M r) (g1_ : A1 1 1 = M 1 1 ∧ A1 1 4 = M 1 4 ∧ A1 1 5 = M 1 5 ∧ A1 1 6 = qB (M 2) (M 1 1) (M 1 2)) (t1_ : A1 1 2 = nE (M 2) (M 1 1) (M 1 2)) (e1_ : A1 1 3 = nF (M 2) (M 1 1) 0 ((M 12 1) - 1) (M 1 3) (M 1 2)) (w1_ : (A1 1 3 = -1 → x1 = nV (M 2) (M 1 1) (M 1 2)) ∧ 0 ≤ x1 ∧ x1 ≤ 99999) => ?_)
  have a1t : A1 2 = M 2 := f1_ 2 (by decide)
  have k1 : A1 1 3 = -1 → nOk (M 2) (M 1 1) 0 (M 12 1 - 1) (M 1 2) := fun z => (nF_ok (e1_.symm.trans z) hat.1).2
  have hw1 := num_hw (A := A1) ⟨hat.1, hat.2.1⟩ (by omega) ⟨g1_.1, g1_.2.2.1⟩ a1t t1_ k1
  have hat1 : 0 ≤ A1 1 2 ∧ A1 1 2 ≤ A1 1 1 ∧ A1 1 1 ≤ 800 := by rw [t1_, g1_.1]; omega
  have x1_12 : A1 12 = M 12 := f1_ 12 (by decide)
  have a121 : A1 12 1 = N 1 := by rw [x1_12]; exact v1
  refine fs_r_call (sta := false) (idx := 101) (as := [.inr (.ref 1), .inl 0, .inl ((A1 12 1) - 1)]) (rest := []) (L1 := [some (.inr (.ref 1)), some (.inr (.ref 12)), some (.inl x1), none, none]) (st1 := [.inl ((A1 12 1) - 1), .inl 0, .inr (.ref 1)]) (M1 := A1) (ob := [2 < 5, 12 < fs_N ∧ fs_kd 12 = 0, fs_rg ((A1 12 1) - 1)]) rfl rfl rfl (fs_oc (by decide) (fs_oc fs_ob12 (fs_oc ⟨by omega, by omega⟩ trivial))) rfl rfl (Nat.le_of_ble_eq_true rfl) ⟨Or.inr (Nat.le_of_ble_eq_true rfl), Or.inr fs_ob1⟩ (by decide) ?_
  refine fs_c_readNumber (hat1) (hw1) (fun (x2 : Int) (A2 : fs_M) (f2_ : ∀ r, r ≠ 1 → A2 r = A1 r) (g2_ : A2 1 1 = A1 1 1 ∧ A2 1 4 = A1 1 4 ∧ A2 1 5 = A1 1 5 ∧ A2 1 6 = qB (A1 2) (A1 1 1) (A1 1 2)) (t2_ : A2 1 2 = nE (A1 2) (A1 1 1) (A1 1 2)) (e2_ : A2 1 3 = nF (A1 2) (A1 1 1) 0 ((A1 12 1) - 1) (A1 1 3) (A1 1 2)) (w2_ : (A2 1 3 = -1 → x2 = nV (A1 2) (A1 1 1) (A1 1 2)) ∧ 0 ≤ x2 ∧ x2 ≤ 99999) => ?_)
  have a2t : A2 2 = M 2 := (f2_ 2 (by decide)).trans a1t
  have g2n : A2 1 1 = M 1 1 := g2_.1.trans g1_.1
  have g26 : A2 1 6 = qB (M 2) (M 1 1) (nE (M 2) (M 1 1) (M 1 2)) := by
    have w := g2_.2.2.2
    rw [a1t, g1_.1, t1_] at w
    exact w
  rw [a1t, g1_.1, t1_] at t2_ e2_ w2_
  rw [x1_12, v1] at e2_
  rw [v1] at e1_
  rw [e1_, s3] at e2_
  have q2 := qB_b (M 2) (M 1 1) (nE (M 2) (M 1 1) (M 1 2))
  have J2 : j2F (M 2) (M 1 1) N (M 1 2) = if A2 1 3 = -1 ∧ x1 = x2 then qB (M 2) (M 1 1) (nE (M 2) (M 1 1) (M 1 2)) else A2 1 3 := by
    unfold j2F
    rw [← e2_]
    by_cases z : A2 1 3 = -1
    · have o2 := nF_ok (e2_.symm.trans z) (by omega)
      have y1 := w1_.1 (e1_.trans (by rw [s3]; exact o2.1))
      have y2 := w2_.1 z
      rw [y1, y2]
    · rw [if_neg (fun w => z w.1), if_neg (fun w => z w.1)]
  have join37 : ∀  (A4 : fs_M), (∀ r, r ≠ 1 → A4 r = A2 r) → (A4 1 1 = A2 1 1 ∧ A4 1 5 = A2 1 5) → (A4 1 2 = A2 1 2) → (A4 1 3 = j2F (M 2) (M 1 1) N (M 1 2)) → fs_W (d + 3) 73 37 [some (.inr (.ref 1)), some (.inr (.ref 12)), some (.inl x1), some (.inl x2), none] [] A4 Q := by
    intro A4 jf jg jt je
    have a4t : A4 2 = M 2 := (jf 2 (by decide)).trans a2t
    have k4 : A4 1 3 = -1 → nOk (M 2) (M 1 1) 0 (N 1 - 1) (nE (M 2) (M 1 1) (M 1 2)) := fun z => (nF_ok (j2F_ok (je.symm.trans z) ⟨hat.1, hat.2.1⟩) (by omega)).2
    have g4n : A4 1 1 = M 1 1 := jg.1.trans g2n
    have hw4 := num_hw (M := M) (A := A4) (p := nE (M 2) (M 1 1) (M 1 2)) ⟨by omega, b1.2.1⟩ (by omega) ⟨g4n, by rw [jg.2, g2_.2.2.1, g1_.2.2.1]⟩ a4t (jt.trans t2_) k4
    have hat4 : 0 ≤ A4 1 2 ∧ A4 1 2 ≤ A4 1 1 ∧ A4 1 1 ≤ 800 := by rw [jt, t2_, g4n]; omega
    refine fs_r_call (sta := false) (idx := 101) (as := [.inr (.ref 1), .inl 0, .inl 999]) (rest := []) (L1 := [some (.inr (.ref 1)), some (.inr (.ref 12)), some (.inl x1), some (.inl x2), none]) (st1 := [.inl 999, .inl 0, .inr (.ref 1)]) (M1 := A4) (ob := []) rfl rfl rfl trivial rfl rfl (Nat.le_of_ble_eq_true rfl) ⟨Or.inr (Nat.le_of_ble_eq_true rfl), Or.inr fs_ob1⟩ (by decide) ?_
    refine fs_c_readNumber (hat4) (hw4) (fun (x5 : Int) (A5 : fs_M) (f5_ : ∀ r, r ≠ 1 → A5 r = A4 r) (g5_ : A5 1 1 = A4 1 1 ∧ A5 1 4 = A4 1 4 ∧ A5 1 5 = A4 1 5 ∧ A5 1 6 = qB (A4 2) (A4 1 1) (A4 1 2)) (t5_ : A5 1 2 = nE (A4 2) (A4 1 1) (A4 1 2)) (e5_ : A5 1 3 = nF (A4 2) (A4 1 1) 0 999 (A4 1 3) (A4 1 2)) (w5_ : (A5 1 3 = -1 → x5 = nV (A4 2) (A4 1 1) (A4 1 2)) ∧ 0 ≤ x5 ∧ x5 ≤ 99999) => ?_)
    have a5t : A5 2 = M 2 := (f5_ 2 (by decide)).trans a4t
    have g5n : A5 1 1 = M 1 1 := g5_.1.trans g4n
    rw [a4t, g4n, jt, t2_] at t5_ e5_ w5_
    rw [je] at e5_
    have hat5 : 0 ≤ A5 1 2 ∧ A5 1 2 ≤ A5 1 1 ∧ A5 1 1 ≤ 800 := by rw [t5_, g5n]; omega
    refine fs_r_call (sta := false) (idx := 105) (as := [.inr (.ref 1)]) (rest := []) (L1 := [some (.inr (.ref 1)), some (.inr (.ref 12)), some (.inl x1), some (.inl x2), some (.inl x5)]) (st1 := [.inr (.ref 1)]) (M1 := A5) (ob := [4 < 5]) rfl rfl rfl (fs_oc (by decide) trivial) rfl rfl (Nat.le_of_ble_eq_true rfl) ⟨Or.inr (Nat.le_of_ble_eq_true rfl), Or.inr fs_ob1⟩ (by decide) ?_
    refine fs_c_readEnd (hat5) (fun (E : fs_M) (ef : ∀ r, r ≠ 1 → E r = A5 r) (eg : E 1 1 = A5 1 1 ∧ E 1 4 = A5 1 4 ∧ E 1 5 = A5 1 5) (ee : E 1 3 = eF (A5 2) (A5 1 1) (A5 1 3) (A5 1 2)) (et : (E 1 3 = -1 → E 1 2 = qB (A5 2) (A5 1 1) (A5 1 2) + 1) ∧ 0 ≤ E 1 2 ∧ E 1 2 ≤ A5 1 1) => ?_)
    have g6n : E 1 1 = M 1 1 := eg.1.trans g5n
    rw [a5t, g5n, t5_] at ee et
    have eF9 : E 1 3 = jF (M 2) (M 1 1) N (M 1 2) := by
      rw [ee, e5_]
      rfl
    have ff : ∀ r, r ≠ 1 → E r = M r := fun r z => by rw [ef r z, f5_ r z, jf r z, f2_ r z, f1_ r z]
    refine fs_r_icmp (a := (E 1 3)) (y := (-1)) (L1 := [some (.inr (.ref 1)), some (.inr (.ref 12)), some (.inl x1), some (.inl x2), some (.inl x5)]) (st1 := []) (M1 := E) (ob := [1 < fs_N ∧ fs_kd 1 = 4]) rfl rfl (fs_oc fs_ob1 trivial) (fun (h1 : ¬ (E 1 3) = (-1)) => ?_) (fun (h1 : ¬ (¬ (E 1 3) = (-1))) => ?_)
    · refine fs_r_ret (L1 := [some (.inr (.ref 1)), some (.inr (.ref 12)), some (.inl x1), some (.inl x2), some (.inl x5)]) (M1 := E) (ob := []) rfl rfl trivial ?_
      first
        | (refine hq0 _ (fun r q1 q2 => by rw [fs_up_other (by omega)]; exact ff r q1) g6n eF9 (fun _ => ⟨et.1 z3, ?_⟩) et.2
           have vE : vw 12 E N := hV.fr (fun r q1 q2 => ff r (by omega))
           unfold jN
           rw [← y1, ← y2, ← y5]
           exact vw12_loan vE hsh (by omega) (by omega))
        | exact hq0 _ (fun r q1 q2 => ff r q1) g6n eF9 (fun z => by omega) et.2
    have z3 : E 1 3 = -1 := by omega
    have o5 := eF_ok (ee.symm.trans z3) (by omega)
    have o4 := nF_ok (e5_.symm.trans o5.1) (by omega)
    have o3 := j2F_ok o4.1 ⟨hat.1, hat.2.1⟩
    have o2 := nF_ok o3 (by omega)
    have o1 := nF_ok o2.1 (by omega)
    have y1 := w1_.1 (e1_.trans (by rw [s3]; exact o2.1))
    have y2 := w2_.1 (e2_.trans o3)
    have y5 := w5_.1 o5.1
    have r1 := o1.2.2.2.2
    have r2 := o2.2.2.2.2
    refine fs_r_call (sta := false) (idx := 130) (as := [.inr (.ref 12), .inl x1, .inl x2, .inl x5]) (rest := []) (L1 := [some (.inr (.ref 1)), some (.inr (.ref 12)), some (.inl x1), some (.inl x2), some (.inl x5)]) (st1 := [.inl x5, .inl x2, .inl x1, .inr (.ref 12)]) (M1 := E) (ob := []) rfl rfl rfl trivial rfl rfl (Nat.le_of_ble_eq_true rfl) ⟨Or.inr (Nat.le_of_ble_eq_true rfl), Or.inr fs_ob12⟩ (by decide) ?_
    refine fs_c_setLoan (Or.inr (Or.inl rfl)) (by omega) (by omega) ?_
    refine fs_r_ret (L1 := [some (.inr (.ref 1)), some (.inr (.ref 12)), some (.inl x1), some (.inl x2), some (.inl x5)]) (M1 := (fs_up E 16 ((x1 * 6) + x2) x5)) (ob := []) rfl rfl trivial ?_
    first
      | (refine hq0 _ (fun r q1 q2 => by rw [fs_up_other (by omega)]; exact ff r q1) g6n eF9 (fun _ => ⟨et.1 z3, ?_⟩) et.2
         have vE : vw 12 E N := hV.fr (fun r q1 q2 => ff r (by omega))
         unfold jN
         rw [← y1, ← y2, ← y5]
         exact vw12_loan vE hsh (by omega) (by omega))
      | exact hq0 _ (fun r q1 q2 => ff r q1) g6n eF9 (fun z => by omega) et.2
  refine fs_r_icmp (a := x1) (y := x2) (L1 := [some (.inr (.ref 1)), some (.inr (.ref 12)), some (.inl x1), some (.inl x2), none]) (st1 := []) (M1 := A2) (ob := [3 < 5]) rfl rfl (fs_oc (by decide) trivial) (fun (h2 : ¬ x1 = x2) => ?_) (fun (h2 : ¬ (¬ x1 = x2)) => ?_)
  · exact join37 A2 (by first | exact fun r z => fs_up_other z | exact fun r z => rfl) (by first | exact ⟨rfl, rfl⟩ | exact ⟨by rw [fs_up_at, if_neg (by omega)], by rw [fs_up_at, if_neg (by omega)]⟩) (by first | rfl | rw [fs_up_at, if_neg (by omega)]) (by first | (rw [J2, if_neg (by omega)]; done) | (rw [fs_up_at, if_pos rfl, J2, g26]; by_cases z : A2 1 3 = -1; (rw [if_pos z, if_pos ⟨z, by omega⟩]); (rw [if_neg z, if_neg (fun w => z w.1)])))
  refine fs_r_call (sta := false) (idx := 91) (as := [.inr (.ref 1), .inl (A2 1 6)]) (rest := []) (L1 := [some (.inr (.ref 1)), some (.inr (.ref 12)), some (.inl x1), some (.inl x2), none]) (st1 := [.inl (A2 1 6), .inr (.ref 1)]) (M1 := A2) (ob := [1 < fs_N ∧ fs_kd 1 = 4]) rfl rfl rfl (fs_oc fs_ob1 trivial) rfl rfl (Nat.le_of_ble_eq_true rfl) ⟨Or.inr (Nat.le_of_ble_eq_true rfl), Or.inr fs_ob1⟩ (by decide) ?_
  refine fs_c_failAt ?_
  exact join37 (fs_up A2 1 3 (if A2 1 3 = -1 then (A2 1 6) else A2 1 3)) (by first | exact fun r z => fs_up_other z | exact fun r z => rfl) (by first | exact ⟨rfl, rfl⟩ | exact ⟨by rw [fs_up_at, if_neg (by omega)], by rw [fs_up_at, if_neg (by omega)]⟩) (by first | rfl | rw [fs_up_at, if_neg (by omega)]) (by first | (rw [J2, if_neg (by omega)]; done) | (rw [fs_up_at, if_pos rfl, J2, g26]; by_cases z : A2 1 3 = -1; (rw [if_pos z, if_pos ⟨z, by omega⟩]); (rw [if_neg z, if_neg (fun w => z w.1)])))
