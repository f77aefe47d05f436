/-! sentences -/
def wdP (T : Int → Int) (q e : Int) (i : Nat) : Prop := e - q = ((wdL i).length : Int) ∧ ∀ j : Nat, j < (wdL i).length → T (q + j) = (wdL i).getD j 0
noncomputable def aF (T : Int → Int) (n : Int) (N : Int → Int) (q e : Int) : Int := eF T n (nF T n 0 9 (nF T n 1 200 (if N 0 = 4 then q else -1) e) (nE T n e)) (nE T n (nE T n e))
noncomputable def aP (T : Int → Int) (n e : Int) : Int := qB T n (nE T n (nE T n e)) + 1
noncomputable def aN (T : Int → Int) (n : Int) (N : Int → Int) (e : Int) : Int → Int := up1 (up1 (up1 N (2 + N 0) (nV T n e)) (6 + N 0) (nV T n (nE T n e))) 0 (N 0 + 1)
def iM (k : Int) : Int := if k = 0 then 360 else 200
noncomputable def iF (T : Int → Int) (n : Int) (N : Int → Int) (k q e : Int) : Int := eF T n (nF T n 0 (iM k) (nF T n 0 (N 0 - 1) (if N (100 + 13 * k) = 4 then q else -1) e) (nE T n e)) (nE T n (nE T n e))
noncomputable def iN (T : Int → Int) (n : Int) (N : Int → Int) (k e : Int) : Int → Int := up1 (up1 (up1 (up1 N (100 + 13 * k + 1 + 3 * N (100 + 13 * k)) k) (100 + 13 * k + 1 + 3 * N (100 + 13 * k) + 1) (nV T n e)) (100 + 13 * k + 1 + 3 * N (100 + 13 * k) + 2) (nV T n (nE T n e))) (100 + 13 * k) (N (100 + 13 * k) + 1)
noncomputable def j2F (T : Int → Int) (n : Int) (N : Int → Int) (e : Int) : Int := if nF T n 0 (N 1 - 1) (nF T n 0 (N 1 - 1) (-1) e) (nE T n e) = -1 ∧ nV T n e = nV T n (nE T n e) then qB T n (nE T n e) else nF T n 0 (N 1 - 1) (nF T n 0 (N 1 - 1) (-1) e) (nE T n e)
noncomputable def jF (T : Int → Int) (n : Int) (N : Int → Int) (e : Int) : Int := eF T n (nF T n 0 999 (j2F T n N e) (nE T n (nE T n e))) (nE T n (nE T n (nE T n e)))
noncomputable def jP (T : Int → Int) (n e : Int) : Int := qB T n (nE T n (nE T n (nE T n e))) + 1
noncomputable def jN (T : Int → Int) (n : Int) (N : Int → Int) (e : Int) : Int → Int := up1 N (64 + 6 * nV T n e + nV T n (nE T n e)) (nV T n (nE T n (nE T n e)))
theorem eF_ok {T : Int → Int} {n f p : Int} (h : eF T n f p = -1) (hp : 0 ≤ p) : f = -1 ∧ qB T n p < n ∧ T (qB T n p) = 59 := by
  unfold eF at h
  by_cases z : f = -1
  · rw [if_pos z] at h
    by_cases w : qB T n p < n ∧ T (qB T n p) = 59
    · exact ⟨z, w⟩
    · rw [if_neg w] at h
      have := (qB_b T n p).1
      omega
  · rw [if_neg z] at h
    exact absurd h z
theorem fs_c_readEnd {d : Nat} {M : fs_M} {Q : Option fs_V → fs_M → Prop}   (ha : 0 ≤ M 1 2 ∧ M 1 2 ≤ M 1 1 ∧ M 1 1 ≤ 800) (hq0 : ∀ (M2 : fs_M), (∀ r, r ≠ 1 → M2 r = M r) → (M2 1 1 = M 1 1 ∧ M2 1 4 = M 1 4 ∧ M2 1 5 = M 1 5) → (M2 1 3 = eF (M 2) (M 1 1) (M 1 3) (M 1 2)) → ((M2 1 3 = -1 → M2 1 2 = qB (M 2) (M 1 1) (M 1 2) + 1) ∧ 0 ≤ M2 1 2 ∧ M2 1 2 ≤ M 1 1) → Q none M2) : fs_W (d + 2) 70 0 [some (.inr (.ref 1))] [] M Q := by
  have qb := qB_b (M 2) (M 1 1) (M 1 2)
  have qn := qb.2.1 ha.2.1
  refine fs_r_call (sta := false) (idx := 39) (as := [.inr (.ref 1)]) (rest := []) (L1 := [some (.inr (.ref 1))]) (st1 := [.inr (.ref 1)]) (M1 := M) (ob := []) rfl rfl rfl trivial rfl rfl (Nat.le_of_ble_eq_true rfl) ⟨Or.inr (Nat.le_of_ble_eq_true rfl), Or.inr fs_ob1⟩ (by decide) ?_
  refine fs_c_skipBlanks (by omega) ?_
  have s1 : (fs_up M 1 2 (qB (M 2) (M 1 1) (M 1 2))) 1 1 = M 1 1 := by rw [fs_up_at, if_neg (by omega)]
  have s2 : (fs_up M 1 2 (qB (M 2) (M 1 1) (M 1 2))) 1 2 = qB (M 2) (M 1 1) (M 1 2) := by rw [fs_up_at, if_pos rfl]
  have s3 : (fs_up M 1 2 (qB (M 2) (M 1 1) (M 1 2))) 1 3 = M 1 3 := by rw [fs_up_at, if_neg (by omega)]
  have st : (fs_up M 1 2 (qB (M 2) (M 1 1) (M 1 2))) 2 = M 2 := fs_up_other (by decide)
  refine fs_r_call (sta := false) (idx := 46) (as := [.inr (.ref 1), .inl ((fs_up M 1 2 (qB (M 2) (M 1 1) (M 1 2))) 1 2)]) (rest := []) (L1 := [some (.inr (.ref 1))]) (st1 := [.inl ((fs_up M 1 2 (qB (M 2) (M 1 1) (M 1 2))) 1 2), .inr (.ref 1)]) (M1 := (fs_up M 1 2 (qB (M 2) (M 1 1) (M 1 2)))) (ob := [1 < fs_N ∧ fs_kd 1 = 4]) rfl rfl rfl (fs_oc fs_ob1 trivial) rfl rfl (Nat.le_of_ble_eq_true rfl) ⟨Or.inr (Nat.le_of_ble_eq_true rfl), Or.inr fs_ob1⟩ (by decide) ?_
  refine fs_c_byteAt (by omega) (fun (bx : Int) (be : (0 ≤ ((fs_up M 1 2 (qB (M 2) (M 1 1) (M 1 2))) 1 2) ∧ ((fs_up M 1 2 (qB (M 2) (M 1 1) (M 1 2))) 1 2) < (fs_up M 1 2 (qB (M 2) (M 1 1) (M 1 2))) 1 1 → bx = (fs_up M 1 2 (qB (M 2) (M 1 1) (M 1 2))) 2 ((fs_up M 1 2 (qB (M 2) (M 1 1) (M 1 2))) 1 2)) ∧ (¬ (0 ≤ ((fs_up M 1 2 (qB (M 2) (M 1 1) (M 1 2))) 1 2) ∧ ((fs_up M 1 2 (qB (M 2) (M 1 1) (M 1 2))) 1 2) < (fs_up M 1 2 (qB (M 2) (M 1 1) (M 1 2))) 1 1) → bx = 0)) => ?_)
  rw [s1, s2, st] at be
  refine fs_r_icmp (a := bx) (y := 59) (L1 := [some (.inr (.ref 1))]) (st1 := []) (M1 := (fs_up M 1 2 (qB (M 2) (M 1 1) (M 1 2)))) (ob := []) rfl rfl trivial (fun (h1 : ¬ bx = 59) => ?_) (fun (h1 : ¬ (¬ bx = 59)) => ?_)
  · refine fs_r_call (sta := false) (idx := 91) (as := [.inr (.ref 1), .inl ((fs_up M 1 2 (qB (M 2) (M 1 1) (M 1 2))) 1 2)]) (rest := []) (L1 := [some (.inr (.ref 1))]) (st1 := [.inl ((fs_up M 1 2 (qB (M 2) (M 1 1) (M 1 2))) 1 2), .inr (.ref 1)]) (M1 := (fs_up M 1 2 (qB (M 2) (M 1 1) (M 1 2)))) (ob := [1 < fs_N ∧ fs_kd 1 = 4]) rfl rfl rfl (fs_oc fs_ob1 trivial) rfl rfl (Nat.le_of_ble_eq_true rfl) ⟨Or.inr (Nat.le_of_ble_eq_true rfl), Or.inr fs_ob1⟩ (by decide) ?_
    refine fs_c_failAt ?_
    refine fs_r_ret (L1 := [some (.inr (.ref 1))]) (M1 := (fs_up (fs_up M 1 2 (qB (M 2) (M 1 1) (M 1 2))) 1 3 (if (fs_up M 1 2 (qB (M 2) (M 1 1) (M 1 2))) 1 3 = -1 then ((fs_up M 1 2 (qB (M 2) (M 1 1) (M 1 2))) 1 2) else (fs_up M 1 2 (qB (M 2) (M 1 1) (M 1 2))) 1 3))) (ob := []) rfl rfl trivial ?_
    first
      | (have ok : qB (M 2) (M 1 1) (M 1 2) < M 1 1 ∧ M 2 (qB (M 2) (M 1 1) (M 1 2)) = 59 := by omega
         refine hq0 _ (fun r z => by rw [fs_up_other z, fs_up_other z]) ⟨?_, ?_, ?_⟩ ?_ ⟨fun _ => ?_, ?_, ?_⟩
         · rw [fs_up_at, if_neg (by omega), fs_up_at, if_neg (by omega)]
         · rw [fs_up_at, if_neg (by omega), fs_up_at, if_neg (by omega)]
         · rw [fs_up_at, if_neg (by omega), fs_up_at, if_neg (by omega)]
         · rw [fs_up_at, if_neg (by omega), fs_up_at, if_neg (by omega)]
           unfold eF
           by_cases f0 : M 1 3 = -1
           · rw [if_pos f0, if_pos ok, f0]
           · rw [if_neg f0]
         · rw [fs_up_at, if_pos rfl, s2]
         · rw [fs_up_at, if_pos rfl, s2]
           omega
         · rw [fs_up_at, if_pos rfl, s2]
           omega)
      | (have no : ¬ (qB (M 2) (M 1 1) (M 1 2) < M 1 1 ∧ M 2 (qB (M 2) (M 1 1) (M 1 2)) = 59) := by omega
         have e9 : fs_up (fs_up M 1 2 (qB (M 2) (M 1 1) (M 1 2))) 1 3 (if (fs_up M 1 2 (qB (M 2) (M 1 1) (M 1 2))) 1 3 = -1 then ((fs_up M 1 2 (qB (M 2) (M 1 1) (M 1 2))) 1 2) else (fs_up M 1 2 (qB (M 2) (M 1 1) (M 1 2))) 1 3) 1 3 = eF (M 2) (M 1 1) (M 1 3) (M 1 2) := by
           rw [fs_up_at, if_pos rfl, s2, s3]
           unfold eF
           by_cases f0 : M 1 3 = -1
           · rw [if_pos f0, if_pos f0, if_neg no]
           · rw [if_neg f0, if_neg f0]
         refine hq0 _ (fun r z => by rw [fs_up_other z, fs_up_other z]) ⟨?_, ?_, ?_⟩ e9 ⟨fun z => ?_, ?_, ?_⟩
         · rw [fs_up_at, if_neg (by omega)]
           exact s1
         · rw [fs_up_at, if_neg (by omega), fs_up_at, if_neg (by omega)]
         · rw [fs_up_at, if_neg (by omega), fs_up_at, if_neg (by omega)]
         · exact absurd (eF_ok (e9.symm.trans z) ha.1).2 no
         · rw [fs_up_at, if_neg (by omega), s2]
           omega
         · rw [fs_up_at, if_neg (by omega), s2]
           omega)
  refine fs_r_goto (L1 := [some (.inr (.ref 1))]) (st1 := []) (M1 := (fs_up (fs_up M 1 2 (qB (M 2) (M 1 1) (M 1 2))) 1 2 (((fs_up M 1 2 (qB (M 2) (M 1 1) (M 1 2))) 1 2) + 1))) (ob := [1 < fs_N ∧ fs_kd 1 = 4, fs_rg (((fs_up M 1 2 (qB (M 2) (M 1 1) (M 1 2))) 1 2) + 1), 1 < fs_N ∧ fs_kd 1 = 4]) rfl rfl (fs_oc fs_ob1 (fs_oc ⟨by omega, by omega⟩ (fs_oc fs_ob1 trivial))) ?_
  refine fs_r_ret (L1 := [some (.inr (.ref 1))]) (M1 := (fs_up (fs_up M 1 2 (qB (M 2) (M 1 1) (M 1 2))) 1 2 (((fs_up M 1 2 (qB (M 2) (M 1 1) (M 1 2))) 1 2) + 1))) (ob := []) rfl rfl trivial ?_
  first
    | (have ok : qB (M 2) (M 1 1) (M 1 2) < M 1 1 ∧ M 2 (qB (M 2) (M 1 1) (M 1 2)) = 59 := by omega
       refine hq0 _ (fun r z => by rw [fs_up_other z, fs_up_other z]) ⟨?_, ?_, ?_⟩ ?_ ⟨fun _ => ?_, ?_, ?_⟩
       · rw [fs_up_at, if_neg (by omega), fs_up_at, if_neg (by omega)]
       · rw [fs_up_at, if_neg (by omega), fs_up_at, if_neg (by omega)]
       · rw [fs_up_at, if_neg (by omega), fs_up_at, if_neg (by omega)]
       · rw [fs_up_at, if_neg (by omega), fs_up_at, if_neg (by omega)]
         unfold eF
         by_cases f0 : M 1 3 = -1
         · rw [if_pos f0, if_pos ok, f0]
         · rw [if_neg f0]
       · rw [fs_up_at, if_pos rfl, s2]
       · rw [fs_up_at, if_pos rfl, s2]
         omega
       · rw [fs_up_at, if_pos rfl, s2]
         omega)
    | (have no : ¬ (qB (M 2) (M 1 1) (M 1 2) < M 1 1 ∧ M 2 (qB (M 2) (M 1 1) (M 1 2)) = 59) := by omega
       have e9 : fs_up (fs_up M 1 2 (qB (M 2) (M 1 1) (M 1 2))) 1 3 (if (fs_up M 1 2 (qB (M 2) (M 1 1) (M 1 2))) 1 3 = -1 then ((fs_up M 1 2 (qB (M 2) (M 1 1) (M 1 2))) 1 2) else (fs_up M 1 2 (qB (M 2) (M 1 1) (M 1 2))) 1 3) 1 3 = eF (M 2) (M 1 1) (M 1 3) (M 1 2) := by
         rw [fs_up_at, if_pos rfl, s2, s3]
         unfold eF
         by_cases f0 : M 1 3 = -1
         · rw [if_pos f0, if_pos f0, if_neg no]
         · rw [if_neg f0, if_neg f0]
       refine hq0 _ (fun r z => by rw [fs_up_other z, fs_up_other z]) ⟨?_, ?_, ?_⟩ e9 ⟨fun z => ?_, ?_, ?_⟩
       · rw [fs_up_at, if_neg (by omega)]
         exact s1
       · rw [fs_up_at, if_neg (by omega), fs_up_at, if_neg (by omega)]
       · rw [fs_up_at, if_neg (by omega), fs_up_at, if_neg (by omega)]
       · exact absurd (eF_ok (e9.symm.trans z) ha.1).2 no
       · rw [fs_up_at, if_neg (by omega), s2]
         omega
       · rw [fs_up_at, if_neg (by omega), s2]
         omega)

theorem fs_c_isWord0 {d : Nat} {M : fs_M} {Q : Option fs_V → fs_M → Prop}   (ht : 0 ≤ M 1 4 ∧ M 1 4 ≤ M 1 5 ∧ M 1 5 ≤ M 1 1 ∧ M 1 1 ≤ 800) (hq0 : (wdP (M 2) (M 1 4) (M 1 5) 0) → Q (some (.inl 1)) M) (hq1 : (¬ (wdP (M 2) (M 1 4) (M 1 5) 0)) → Q (some (.inl 0)) M) : fs_W (d + 4) 67 0 [some (.inr (.ref 1)), some (.inr (.ref 1000)), none] [] M Q := by
  have ln : ((fs_slen.getD (1000 - 1000) 0 : Nat) : Int) = 5 := rfl
  have wl : (wdL 0).length = 5 := by decide
  have ck : ∀ k : Fin 5, ((fs_bytes.getD (1000 - 1000) []).getD ((k.val : Nat) : Int).toNat 0).toInt = (wdL 0).getD k.val 0 := by decide
  refine fs_r_nat (v := .inl ((fs_slen.getD (1000 - 1000) 0 : Nat) : Int)) (sta := false) (idx := 50) (as := [.inr (.ref 1000)]) (rest := [.inl ((M 1 5) - (M 1 4))]) (L1 := [some (.inr (.ref 1)), some (.inr (.ref 1000)), none]) (st1 := [.inr (.ref 1000), .inl ((M 1 5) - (M 1 4))]) (M1 := M) (ob := [1 < fs_N ∧ fs_kd 1 = 4, 1 < fs_N ∧ fs_kd 1 = 4, fs_rg ((M 1 5) - (M 1 4))]) rfl rfl rfl (fs_oc fs_ob1 (fs_oc fs_ob1 (fs_oc ⟨by omega, by omega⟩ trivial))) rfl rfl (Nat.le_of_ble_eq_true rfl) ⟨Or.inl (by decide), Or.inl (by decide)⟩ (by decide) (rfl) ?_
  refine fs_r_icmp (a := ((M 1 5) - (M 1 4))) (y := ((fs_slen.getD (1000 - 1000) 0 : Nat) : Int)) (L1 := [some (.inr (.ref 1)), some (.inr (.ref 1000)), none]) (st1 := []) (M1 := M) (ob := []) rfl rfl trivial (fun (h1 : ((M 1 5) - (M 1 4)) = ((fs_slen.getD (1000 - 1000) 0 : Nat) : Int)) => ?_) (fun (h1 : ¬ (((M 1 5) - (M 1 4)) = ((fs_slen.getD (1000 - 1000) 0 : Nat) : Int))) => ?_)
  · refine fs_r_nop (L1 := [some (.inr (.ref 1)), some (.inr (.ref 1000)), some (.inl 0)]) (st1 := []) (M1 := M) (ob := [2 < 3]) rfl rfl (fs_oc (by decide) trivial) ?_
    have loop20 : ∀ (n20 : Nat) (i : Int), (0 ≤ i ∧ i ≤ 5) → (∀ j : Nat, (j : Int) < i → M 2 (M 1 4 + j) = (wdL 0).getD j 0) → 5 - i < (n20 : Int) → fs_W (d + 4) 67 20 [some (.inr (.ref 1)), some (.inr (.ref 1000)), some (.inl i)] [] M Q := by
      intro n20
      induction n20 with
      | zero =>
        intro i i0 w0 hm20
        exfalso
        omega
      | succ n20 ih20 =>
        intro i i0 w0 hm20
        refine fs_r_nat (v := .inl ((fs_slen.getD (1000 - 1000) 0 : Nat) : Int)) (sta := false) (idx := 50) (as := [.inr (.ref 1000)]) (rest := [.inl i]) (L1 := [some (.inr (.ref 1)), some (.inr (.ref 1000)), some (.inl i)]) (st1 := [.inr (.ref 1000), .inl i]) (M1 := M) (ob := []) rfl rfl rfl trivial rfl rfl (Nat.le_of_ble_eq_true rfl) ⟨Or.inl (by decide), Or.inl (by decide)⟩ (by decide) (rfl) ?_
        refine fs_r_icmp (a := i) (y := ((fs_slen.getD (1000 - 1000) 0 : Nat) : Int)) (L1 := [some (.inr (.ref 1)), some (.inr (.ref 1000)), some (.inl i)]) (st1 := []) (M1 := M) (ob := []) rfl rfl trivial (fun (h2 : ((fs_slen.getD (1000 - 1000) 0 : Nat) : Int) ≤ i) => ?_) (fun (h2 : ¬ (((fs_slen.getD (1000 - 1000) 0 : Nat) : Int) ≤ i)) => ?_)
        · refine fs_r_iret (a := 1) (L1 := [some (.inr (.ref 1)), some (.inr (.ref 1000)), some (.inl i)]) (M1 := M) (ob := []) rfl rfl trivial (Or.inr (Or.inr rfl)) ?_
          exact hq0 ⟨by rw [wl]; omega, fun j hj => w0 j (by rw [wl] at hj; omega)⟩
        have ck2 := ck ⟨i.toNat, by omega⟩
        have i9 : ((i.toNat : Nat) : Int) = i := by omega
        simp only [i9] at ck2
        refine fs_r_call (sta := false) (idx := 46) (as := [.inr (.ref 1), .inl ((M 1 4) + i)]) (rest := []) (L1 := [some (.inr (.ref 1)), some (.inr (.ref 1000)), some (.inl i)]) (st1 := [.inl ((M 1 4) + i), .inr (.ref 1)]) (M1 := M) (ob := [1 < fs_N ∧ fs_kd 1 = 4, fs_rg ((M 1 4) + i)]) rfl rfl rfl (fs_oc fs_ob1 (fs_oc ⟨by omega, by omega⟩ trivial)) rfl rfl (Nat.le_of_ble_eq_true rfl) ⟨Or.inr (Nat.le_of_ble_eq_true rfl), Or.inr fs_ob1⟩ (by decide) ?_
        refine fs_c_byteAt (by omega) (fun (bx : Int) (be : (0 ≤ ((M 1 4) + i) ∧ ((M 1 4) + i) < M 1 1 → bx = M 2 ((M 1 4) + i)) ∧ (¬ (0 ≤ ((M 1 4) + i) ∧ ((M 1 4) + i) < M 1 1) → bx = 0)) => ?_)
        refine fs_r_nat (v := .inl ((fs_bytes.getD (1000 - 1000) []).getD i.toNat 0).toInt) (sta := false) (idx := 56) (as := [.inr (.ref 1000), .inl i]) (rest := [.inl bx]) (L1 := [some (.inr (.ref 1)), some (.inr (.ref 1000)), some (.inl i)]) (st1 := [.inl i, .inr (.ref 1000), .inl bx]) (M1 := M) (ob := []) rfl rfl rfl trivial rfl rfl (Nat.le_of_ble_eq_true rfl) ⟨Or.inl (by decide), Or.inl (by decide)⟩ (by decide) (if_pos ⟨by decide, by omega, by omega⟩) ?_
        refine fs_r_icmp (a := bx) (y := ((fs_bytes.getD (1000 - 1000) []).getD i.toNat 0).toInt) (L1 := [some (.inr (.ref 1)), some (.inr (.ref 1000)), some (.inl i)]) (st1 := []) (M1 := M) (ob := []) rfl rfl trivial (fun (h3 : bx = ((fs_bytes.getD (1000 - 1000) []).getD i.toNat 0).toInt) => ?_) (fun (h3 : ¬ (bx = ((fs_bytes.getD (1000 - 1000) []).getD i.toNat 0).toInt)) => ?_)
        · refine fs_r_goto (L1 := [some (.inr (.ref 1)), some (.inr (.ref 1000)), some (.inl (i + 1))]) (st1 := []) (M1 := M) (ob := [fs_rg (i + 1)]) rfl rfl (fs_oc ⟨by omega, by omega⟩ trivial) ?_
          exact ih20 ((i + 1)) (by omega) (fun j hj => by
                   rcases (show (j : Int) < i ∨ (j : Int) = i by omega) with z | z
                   · exact w0 j z
                   · have jj : j = i.toNat := by omega
                     have b1 := be.1 (by omega)
                     rw [z, jj, ← ck2, ← b1]
                     omega) (by omega)
        refine fs_r_iret (a := 0) (L1 := [some (.inr (.ref 1)), some (.inr (.ref 1000)), some (.inl i)]) (M1 := M) (ob := []) rfl rfl trivial (Or.inr (Or.inl rfl)) ?_
        exact hq1 (fun z => by
          have w := z.2 i.toNat (by rw [wl]; omega)
          have b1 := be.1 (by omega)
          rw [i9, ← ck2, ← b1] at w
          omega)
    exact loop20 (((5 - (0)) : Int) + 1).toNat (0) (by omega) (fun j hj => by omega) (by omega)
  refine fs_r_iret (a := 0) (L1 := [some (.inr (.ref 1)), some (.inr (.ref 1000)), none]) (M1 := M) (ob := []) rfl rfl trivial (Or.inr (Or.inl rfl)) ?_
  exact hq1 (fun z => by have w := z.1; rw [wl] at w; omega)

theorem fs_c_isWord1 {d : Nat} {M : fs_M} {Q : Option fs_V → fs_M → Prop}   (ht : 0 ≤ M 1 4 ∧ M 1 4 ≤ M 1 5 ∧ M 1 5 ≤ M 1 1 ∧ M 1 1 ≤ 800) (hq0 : (wdP (M 2) (M 1 4) (M 1 5) 1) → Q (some (.inl 1)) M) (hq1 : (¬ (wdP (M 2) (M 1 4) (M 1 5) 1)) → Q (some (.inl 0)) M) : fs_W (d + 4) 67 0 [some (.inr (.ref 1)), some (.inr (.ref 1001)), none] [] M Q := by
  have ln : ((fs_slen.getD (1001 - 1000) 0 : Nat) : Int) = 5 := rfl
  have wl : (wdL 1).length = 5 := by decide
  have ck : ∀ k : Fin 5, ((fs_bytes.getD (1001 - 1000) []).getD ((k.val : Nat) : Int).toNat 0).toInt = (wdL 1).getD k.val 0 := by decide
  refine fs_r_nat (v := .inl ((fs_slen.getD (1001 - 1000) 0 : Nat) : Int)) (sta := false) (idx := 50) (as := [.inr (.ref 1001)]) (rest := [.inl ((M 1 5) - (M 1 4))]) (L1 := [some (.inr (.ref 1)), some (.inr (.ref 1001)), none]) (st1 := [.inr (.ref 1001), .inl ((M 1 5) - (M 1 4))]) (M1 := M) (ob := [1 < fs_N ∧ fs_kd 1 = 4, 1 < fs_N ∧ fs_kd 1 = 4, fs_rg ((M 1 5) - (M 1 4))]) rfl rfl rfl (fs_oc fs_ob1 (fs_oc fs_ob1 (fs_oc ⟨by omega, by omega⟩ trivial))) rfl rfl (Nat.le_of_ble_eq_true rfl) ⟨Or.inl (by decide), Or.inl (by decide)⟩ (by decide) (rfl) ?_
  refine fs_r_icmp (a := ((M 1 5) - (M 1 4))) (y := ((fs_slen.getD (1001 - 1000) 0 : Nat) : Int)) (L1 := [some (.inr (.ref 1)), some (.inr (.ref 1001)), none]) (st1 := []) (M1 := M) (ob := []) rfl rfl trivial (fun (h1 : ((M 1 5) - (M 1 4)) = ((fs_slen.getD (1001 - 1000) 0 : Nat) : Int)) => ?_) (fun (h1 : ¬ (((M 1 5) - (M 1 4)) = ((fs_slen.getD (1001 - 1000) 0 : Nat) : Int))) => ?_)
  · refine fs_r_nop (L1 := [some (.inr (.ref 1)), some (.inr (.ref 1001)), some (.inl 0)]) (st1 := []) (M1 := M) (ob := [2 < 3]) rfl rfl (fs_oc (by decide) trivial) ?_
    have loop20 : ∀ (n20 : Nat) (i : Int), (0 ≤ i ∧ i ≤ 5) → (∀ j : Nat, (j : Int) < i → M 2 (M 1 4 + j) = (wdL 1).getD j 0) → 5 - i < (n20 : Int) → fs_W (d + 4) 67 20 [some (.inr (.ref 1)), some (.inr (.ref 1001)), some (.inl i)] [] M Q := by
      intro n20
      induction n20 with
      | zero =>
        intro i i0 w0 hm20
        exfalso
        omega
      | succ n20 ih20 =>
        intro i i0 w0 hm20
        refine fs_r_nat (v := .inl ((fs_slen.getD (1001 - 1000) 0 : Nat) : Int)) (sta := false) (idx := 50) (as := [.inr (.ref 1001)]) (rest := [.inl i]) (L1 := [some (.inr (.ref 1)), some (.inr (.ref 1001)), some (.inl i)]) (st1 := [.inr (.ref 1001), .inl i]) (M1 := M) (ob := []) rfl rfl rfl trivial rfl rfl (Nat.le_of_ble_eq_true rfl) ⟨Or.inl (by decide), Or.inl (by decide)⟩ (by decide) (rfl) ?_
        refine fs_r_icmp (a := i) (y := ((fs_slen.getD (1001 - 1000) 0 : Nat) : Int)) (L1 := [some (.inr (.ref 1)), some (.inr (.ref 1001)), some (.inl i)]) (st1 := []) (M1 := M) (ob := []) rfl rfl trivial (fun (h2 : ((fs_slen.getD (1001 - 1000) 0 : Nat) : Int) ≤ i) => ?_) (fun (h2 : ¬ (((fs_slen.getD (1001 - 1000) 0 : Nat) : Int) ≤ i)) => ?_)
        · refine fs_r_iret (a := 1) (L1 := [some (.inr (.ref 1)), some (.inr (.ref 1001)), some (.inl i)]) (M1 := M) (ob := []) rfl rfl trivial (Or.inr (Or.inr rfl)) ?_
          exact hq0 ⟨by rw [wl]; omega, fun j hj => w0 j (by rw [wl] at hj; omega)⟩
        have ck2 := ck ⟨i.toNat, by omega⟩
        have i9 : ((i.toNat : Nat) : Int) = i := by omega
        simp only [i9] at ck2
        refine fs_r_call (sta := false) (idx := 46) (as := [.inr (.ref 1), .inl ((M 1 4) + i)]) (rest := []) (L1 := [some (.inr (.ref 1)), some (.inr (.ref 1001)), some (.inl i)]) (st1 := [.inl ((M 1 4) + i), .inr (.ref 1)]) (M1 := M) (ob := [1 < fs_N ∧ fs_kd 1 = 4, fs_rg ((M 1 4) + i)]) rfl rfl rfl (fs_oc fs_ob1 (fs_oc ⟨by omega, by omega⟩ trivial)) rfl rfl (Nat.le_of_ble_eq_true rfl) ⟨Or.inr (Nat.le_of_ble_eq_true rfl), Or.inr fs_ob1⟩ (by decide) ?_
        refine fs_c_byteAt (by omega) (fun (bx : Int) (be : (0 ≤ ((M 1 4) + i) ∧ ((M 1 4) + i) < M 1 1 → bx = M 2 ((M 1 4) + i)) ∧ (¬ (0 ≤ ((M 1 4) + i) ∧ ((M 1 4) + i) < M 1 1) → bx = 0)) => ?_)
        refine fs_r_nat (v := .inl ((fs_bytes.getD (1001 - 1000) []).getD i.toNat 0).toInt) (sta := false) (idx := 56) (as := [.inr (.ref 1001), .inl i]) (rest := [.inl bx]) (L1 := [some (.inr (.ref 1)), some (.inr (.ref 1001)), some (.inl i)]) (st1 := [.inl i, .inr (.ref 1001), .inl bx]) (M1 := M) (ob := []) rfl rfl rfl trivial rfl rfl (Nat.le_of_ble_eq_true rfl) ⟨Or.inl (by decide), Or.inl (by decide)⟩ (by decide) (if_pos ⟨by decide, by omega, by omega⟩) ?_
        refine fs_r_icmp (a := bx) (y := ((fs_bytes.getD (1001 - 1000) []).getD i.toNat 0).toInt) (L1 := [some (.inr (.ref 1)), some (.inr (.ref 1001)), some (.inl i)]) (st1 := []) (M1 := M) (ob := []) rfl rfl trivial (fun (h3 : bx = ((fs_bytes.getD (1001 - 1000) []).getD i.toNat 0).toInt) => ?_) (fun (h3 : ¬ (bx = ((fs_bytes.getD (1001 - 1000) []).getD i.toNat 0).toInt)) => ?_)
        · refine fs_r_goto (L1 := [some (.inr (.ref 1)), some (.inr (.ref 1001)), some (.inl (i + 1))]) (st1 := []) (M1 := M) (ob := [fs_rg (i + 1)]) rfl rfl (fs_oc ⟨by omega, by omega⟩ trivial) ?_
          exact ih20 ((i + 1)) (by omega) (fun j hj => by
                   rcases (show (j : Int) < i ∨ (j : Int) = i by omega) with z | z
                   · exact w0 j z
                   · have jj : j = i.toNat := by omega
                     have b1 := be.1 (by omega)
                     rw [z, jj, ← ck2, ← b1]
                     omega) (by omega)
        refine fs_r_iret (a := 0) (L1 := [some (.inr (.ref 1)), some (.inr (.ref 1001)), some (.inl i)]) (M1 := M) (ob := []) rfl rfl trivial (Or.inr (Or.inl rfl)) ?_
        exact hq1 (fun z => by
          have w := z.2 i.toNat (by rw [wl]; omega)
          have b1 := be.1 (by omega)
          rw [i9, ← ck2, ← b1] at w
          omega)
    exact loop20 (((5 - (0)) : Int) + 1).toNat (0) (by omega) (fun j hj => by omega) (by omega)
  refine fs_r_iret (a := 0) (L1 := [some (.inr (.ref 1)), some (.inr (.ref 1001)), none]) (M1 := M) (ob := []) rfl rfl trivial (Or.inr (Or.inl rfl)) ?_
  exact hq1 (fun z => by have w := z.1; rw [wl] at w; omega)

theorem fs_c_isWord2 {d : Nat} {M : fs_M} {Q : Option fs_V → fs_M → Prop}   (ht : 0 ≤ M 1 4 ∧ M 1 4 ≤ M 1 5 ∧ M 1 5 ≤ M 1 1 ∧ M 1 1 ≤ 800) (hq0 : (wdP (M 2) (M 1 4) (M 1 5) 2) → Q (some (.inl 1)) M) (hq1 : (¬ (wdP (M 2) (M 1 4) (M 1 5) 2)) → Q (some (.inl 0)) M) : fs_W (d + 4) 67 0 [some (.inr (.ref 1)), some (.inr (.ref 1002)), none] [] M Q := by
  have ln : ((fs_slen.getD (1002 - 1000) 0 : Nat) : Int) = 4 := rfl
  have wl : (wdL 2).length = 4 := by decide
  have ck : ∀ k : Fin 4, ((fs_bytes.getD (1002 - 1000) []).getD ((k.val : Nat) : Int).toNat 0).toInt = (wdL 2).getD k.val 0 := by decide
  refine fs_r_nat (v := .inl ((fs_slen.getD (1002 - 1000) 0 : Nat) : Int)) (sta := false) (idx := 50) (as := [.inr (.ref 1002)]) (rest := [.inl ((M 1 5) - (M 1 4))]) (L1 := [some (.inr (.ref 1)), some (.inr (.ref 1002)), none]) (st1 := [.inr (.ref 1002), .inl ((M 1 5) - (M 1 4))]) (M1 := M) (ob := [1 < fs_N ∧ fs_kd 1 = 4, 1 < fs_N ∧ fs_kd 1 = 4, fs_rg ((M 1 5) - (M 1 4))]) rfl rfl rfl (fs_oc fs_ob1 (fs_oc fs_ob1 (fs_oc ⟨by omega, by omega⟩ trivial))) rfl rfl (Nat.le_of_ble_eq_true rfl) ⟨Or.inl (by decide), Or.inl (by decide)⟩ (by decide) (rfl) ?_
  refine fs_r_icmp (a := ((M 1 5) - (M 1 4))) (y := ((fs_slen.getD (1002 - 1000) 0 : Nat) : Int)) (L1 := [some (.inr (.ref 1)), some (.inr (.ref 1002)), none]) (st1 := []) (M1 := M) (ob := []) rfl rfl trivial (fun (h1 : ((M 1 5) - (M 1 4)) = ((fs_slen.getD (1002 - 1000) 0 : Nat) : Int)) => ?_) (fun (h1 : ¬ (((M 1 5) - (M 1 4)) = ((fs_slen.getD (1002 - 1000) 0 : Nat) : Int))) => ?_)
  · refine fs_r_nop (L1 := [some (.inr (.ref 1)), some (.inr (.ref 1002)), some (.inl 0)]) (st1 := []) (M1 := M) (ob := [2 < 3]) rfl rfl (fs_oc (by decide) trivial) ?_
    have loop20 : ∀ (n20 : Nat) (i : Int), (0 ≤ i ∧ i ≤ 4) → (∀ j : Nat, (j : Int) < i → M 2 (M 1 4 + j) = (wdL 2).getD j 0) → 4 - i < (n20 : Int) → fs_W (d + 4) 67 20 [some (.inr (.ref 1)), some (.inr (.ref 1002)), some (.inl i)] [] M Q := by
      intro n20
      induction n20 with
      | zero =>
        intro i i0 w0 hm20
        exfalso
        omega
      | succ n20 ih20 =>
        intro i i0 w0 hm20
        refine fs_r_nat (v := .inl ((fs_slen.getD (1002 - 1000) 0 : Nat) : Int)) (sta := false) (idx := 50) (as := [.inr (.ref 1002)]) (rest := [.inl i]) (L1 := [some (.inr (.ref 1)), some (.inr (.ref 1002)), some (.inl i)]) (st1 := [.inr (.ref 1002), .inl i]) (M1 := M) (ob := []) rfl rfl rfl trivial rfl rfl (Nat.le_of_ble_eq_true rfl) ⟨Or.inl (by decide), Or.inl (by decide)⟩ (by decide) (rfl) ?_
        refine fs_r_icmp (a := i) (y := ((fs_slen.getD (1002 - 1000) 0 : Nat) : Int)) (L1 := [some (.inr (.ref 1)), some (.inr (.ref 1002)), some (.inl i)]) (st1 := []) (M1 := M) (ob := []) rfl rfl trivial (fun (h2 : ((fs_slen.getD (1002 - 1000) 0 : Nat) : Int) ≤ i) => ?_) (fun (h2 : ¬ (((fs_slen.getD (1002 - 1000) 0 : Nat) : Int) ≤ i)) => ?_)
        · refine fs_r_iret (a := 1) (L1 := [some (.inr (.ref 1)), some (.inr (.ref 1002)), some (.inl i)]) (M1 := M) (ob := []) rfl rfl trivial (Or.inr (Or.inr rfl)) ?_
          exact hq0 ⟨by rw [wl]; omega, fun j hj => w0 j (by rw [wl] at hj; omega)⟩
        have ck2 := ck ⟨i.toNat, by omega⟩
        have i9 : ((i.toNat : Nat) : Int) = i := by omega
        simp only [i9] at ck2
        refine fs_r_call (sta := false) (idx := 46) (as := [.inr (.ref 1), .inl ((M 1 4) + i)]) (rest := []) (L1 := [some (.inr (.ref 1)), some (.inr (.ref 1002)), some (.inl i)]) (st1 := [.inl ((M 1 4) + i), .inr (.ref 1)]) (M1 := M) (ob := [1 < fs_N ∧ fs_kd 1 = 4, fs_rg ((M 1 4) + i)]) rfl rfl rfl (fs_oc fs_ob1 (fs_oc ⟨by omega, by omega⟩ trivial)) rfl rfl (Nat.le_of_ble_eq_true rfl) ⟨Or.inr (Nat.le_of_ble_eq_true rfl), Or.inr fs_ob1⟩ (by decide) ?_
        refine fs_c_byteAt (by omega) (fun (bx : Int) (be : (0 ≤ ((M 1 4) + i) ∧ ((M 1 4) + i) < M 1 1 → bx = M 2 ((M 1 4) + i)) ∧ (¬ (0 ≤ ((M 1 4) + i) ∧ ((M 1 4) + i) < M 1 1) → bx = 0)) => ?_)
        refine fs_r_nat (v := .inl ((fs_bytes.getD (1002 - 1000) []).getD i.toNat 0).toInt) (sta := false) (idx := 56) (as := [.inr (.ref 1002), .inl i]) (rest := [.inl bx]) (L1 := [some (.inr (.ref 1)), some (.inr (.ref 1002)), some (.inl i)]) (st1 := [.inl i, .inr (.ref 1002), .inl bx]) (M1 := M) (ob := []) rfl rfl rfl trivial rfl rfl (Nat.le_of_ble_eq_true rfl) ⟨Or.inl (by decide), Or.inl (by decide)⟩ (by decide) (if_pos ⟨by decide, by omega, by omega⟩) ?_
        refine fs_r_icmp (a := bx) (y := ((fs_bytes.getD (1002 - 1000) []).getD i.toNat 0).toInt) (L1 := [some (.inr (.ref 1)), some (.inr (.ref 1002)), some (.inl i)]) (st1 := []) (M1 := M) (ob := []) rfl rfl trivial (fun (h3 : bx = ((fs_bytes.getD (1002 - 1000) []).getD i.toNat 0).toInt) => ?_) (fun (h3 : ¬ (bx = ((fs_bytes.getD (1002 - 1000) []).getD i.toNat 0).toInt)) => ?_)
        · refine fs_r_goto (L1 := [some (.inr (.ref 1)), some (.inr (.ref 1002)), some (.inl (i + 1))]) (st1 := []) (M1 := M) (ob := [fs_rg (i + 1)]) rfl rfl (fs_oc ⟨by omega, by omega⟩ trivial) ?_
          exact ih20 ((i + 1)) (by omega) (fun j hj => by
                   rcases (show (j : Int) < i ∨ (j : Int) = i by omega) with z | z
                   · exact w0 j z
                   · have jj : j = i.toNat := by omega
                     have b1 := be.1 (by omega)
                     rw [z, jj, ← ck2, ← b1]
                     omega) (by omega)
        refine fs_r_iret (a := 0) (L1 := [some (.inr (.ref 1)), some (.inr (.ref 1002)), some (.inl i)]) (M1 := M) (ob := []) rfl rfl trivial (Or.inr (Or.inl rfl)) ?_
        exact hq1 (fun z => by
          have w := z.2 i.toNat (by rw [wl]; omega)
          have b1 := be.1 (by omega)
          rw [i9, ← ck2, ← b1] at w
          omega)
    exact loop20 (((4 - (0)) : Int) + 1).toNat (0) (by omega) (fun j hj => by omega) (by omega)
  refine fs_r_iret (a := 0) (L1 := [some (.inr (.ref 1)), some (.inr (.ref 1002)), none]) (M1 := M) (ob := []) rfl rfl trivial (Or.inr (Or.inl rfl)) ?_
  exact hq1 (fun z => by have w := z.1; rw [wl] at w; omega)

theorem fs_c_isWord3 {d : Nat} {M : fs_M} {Q : Option fs_V → fs_M → Prop}   (ht : 0 ≤ M 1 4 ∧ M 1 4 ≤ M 1 5 ∧ M 1 5 ≤ M 1 1 ∧ M 1 1 ≤ 800) (hq0 : (wdP (M 2) (M 1 4) (M 1 5) 3) → Q (some (.inl 1)) M) (hq1 : (¬ (wdP (M 2) (M 1 4) (M 1 5) 3)) → Q (some (.inl 0)) M) : fs_W (d + 4) 67 0 [some (.inr (.ref 1)), some (.inr (.ref 1003)), none] [] M Q := by
  have ln : ((fs_slen.getD (1003 - 1000) 0 : Nat) : Int) = 3 := rfl
  have wl : (wdL 3).length = 3 := by decide
  have ck : ∀ k : Fin 3, ((fs_bytes.getD (1003 - 1000) []).getD ((k.val : Nat) : Int).toNat 0).toInt = (wdL 3).getD k.val 0 := by decide
  refine fs_r_nat (v := .inl ((fs_slen.getD (1003 - 1000) 0 : Nat) : Int)) (sta := false) (idx := 50) (as := [.inr (.ref 1003)]) (rest := [.inl ((M 1 5) - (M 1 4))]) (L1 := [some (.inr (.ref 1)), some (.inr (.ref 1003)), none]) (st1 := [.inr (.ref 1003), .inl ((M 1 5) - (M 1 4))]) (M1 := M) (ob := [1 < fs_N ∧ fs_kd 1 = 4, 1 < fs_N ∧ fs_kd 1 = 4, fs_rg ((M 1 5) - (M 1 4))]) rfl rfl rfl (fs_oc fs_ob1 (fs_oc fs_ob1 (fs_oc ⟨by omega, by omega⟩ trivial))) rfl rfl (Nat.le_of_ble_eq_true rfl) ⟨Or.inl (by decide), Or.inl (by decide)⟩ (by decide) (rfl) ?_
  refine fs_r_icmp (a := ((M 1 5) - (M 1 4))) (y := ((fs_slen.getD (1003 - 1000) 0 : Nat) : Int)) (L1 := [some (.inr (.ref 1)), some (.inr (.ref 1003)), none]) (st1 := []) (M1 := M) (ob := []) rfl rfl trivial (fun (h1 : ((M 1 5) - (M 1 4)) = ((fs_slen.getD (1003 - 1000) 0 : Nat) : Int)) => ?_) (fun (h1 : ¬ (((M 1 5) - (M 1 4)) = ((fs_slen.getD (1003 - 1000) 0 : Nat) : Int))) => ?_)
  · refine fs_r_nop (L1 := [some (.inr (.ref 1)), some (.inr (.ref 1003)), some (.inl 0)]) (st1 := []) (M1 := M) (ob := [2 < 3]) rfl rfl (fs_oc (by decide) trivial) ?_
    have loop20 : ∀ (n20 : Nat) (i : Int), (0 ≤ i ∧ i ≤ 3) → (∀ j : Nat, (j : Int) < i → M 2 (M 1 4 + j) = (wdL 3).getD j 0) → 3 - i < (n20 : Int) → fs_W (d + 4) 67 20 [some (.inr (.ref 1)), some (.inr (.ref 1003)), some (.inl i)] [] M Q := by
      intro n20
      induction n20 with
      | zero =>
        intro i i0 w0 hm20
        exfalso
        omega
      | succ n20 ih20 =>
        intro i i0 w0 hm20
        refine fs_r_nat (v := .inl ((fs_slen.getD (1003 - 1000) 0 : Nat) : Int)) (sta := false) (idx := 50) (as := [.inr (.ref 1003)]) (rest := [.inl i]) (L1 := [some (.inr (.ref 1)), some (.inr (.ref 1003)), some (.inl i)]) (st1 := [.inr (.ref 1003), .inl i]) (M1 := M) (ob := []) rfl rfl rfl trivial rfl rfl (Nat.le_of_ble_eq_true rfl) ⟨Or.inl (by decide), Or.inl (by decide)⟩ (by decide) (rfl) ?_
        refine fs_r_icmp (a := i) (y := ((fs_slen.getD (1003 - 1000) 0 : Nat) : Int)) (L1 := [some (.inr (.ref 1)), some (.inr (.ref 1003)), some (.inl i)]) (st1 := []) (M1 := M) (ob := []) rfl rfl trivial (fun (h2 : ((fs_slen.getD (1003 - 1000) 0 : Nat) : Int) ≤ i) => ?_) (fun (h2 : ¬ (((fs_slen.getD (1003 - 1000) 0 : Nat) : Int) ≤ i)) => ?_)
        · refine fs_r_iret (a := 1) (L1 := [some (.inr (.ref 1)), some (.inr (.ref 1003)), some (.inl i)]) (M1 := M) (ob := []) rfl rfl trivial (Or.inr (Or.inr rfl)) ?_
          exact hq0 ⟨by rw [wl]; omega, fun j hj => w0 j (by rw [wl] at hj; omega)⟩
        have ck2 := ck ⟨i.toNat, by omega⟩
        have i9 : ((i.toNat : Nat) : Int) = i := by omega
        simp only [i9] at ck2
        refine fs_r_call (sta := false) (idx := 46) (as := [.inr (.ref 1), .inl ((M 1 4) + i)]) (rest := []) (L1 := [some (.inr (.ref 1)), some (.inr (.ref 1003)), some (.inl i)]) (st1 := [.inl ((M 1 4) + i), .inr (.ref 1)]) (M1 := M) (ob := [1 < fs_N ∧ fs_kd 1 = 4, fs_rg ((M 1 4) + i)]) rfl rfl rfl (fs_oc fs_ob1 (fs_oc ⟨by omega, by omega⟩ trivial)) rfl rfl (Nat.le_of_ble_eq_true rfl) ⟨Or.inr (Nat.le_of_ble_eq_true rfl), Or.inr fs_ob1⟩ (by decide) ?_
        refine fs_c_byteAt (by omega) (fun (bx : Int) (be : (0 ≤ ((M 1 4) + i) ∧ ((M 1 4) + i) < M 1 1 → bx = M 2 ((M 1 4) + i)) ∧ (¬ (0 ≤ ((M 1 4) + i) ∧ ((M 1 4) + i) < M 1 1) → bx = 0)) => ?_)
        refine fs_r_nat (v := .inl ((fs_bytes.getD (1003 - 1000) []).getD i.toNat 0).toInt) (sta := false) (idx := 56) (as := [.inr (.ref 1003), .inl i]) (rest := [.inl bx]) (L1 := [some (.inr (.ref 1)), some (.inr (.ref 1003)), some (.inl i)]) (st1 := [.inl i, .inr (.ref 1003), .inl bx]) (M1 := M) (ob := []) rfl rfl rfl trivial rfl rfl (Nat.le_of_ble_eq_true rfl) ⟨Or.inl (by decide), Or.inl (by decide)⟩ (by decide) (if_pos ⟨by decide, by omega, by omega⟩) ?_
        refine fs_r_icmp (a := bx) (y := ((fs_bytes.getD (1003 - 1000) []).getD i.toNat 0).toInt) (L1 := [some (.inr (.ref 1)), some (.inr (.ref 1003)), some (.inl i)]) (st1 := []) (M1 := M) (ob := []) rfl rfl trivial (fun (h3 : bx = ((fs_bytes.getD (1003 - 1000) []).getD i.toNat 0).toInt) => ?_) (fun (h3 : ¬ (bx = ((fs_bytes.getD (1003 - 1000) []).getD i.toNat 0).toInt)) => ?_)
        · refine fs_r_goto (L1 := [some (.inr (.ref 1)), some (.inr (.ref 1003)), some (.inl (i + 1))]) (st1 := []) (M1 := M) (ob := [fs_rg (i + 1)]) rfl rfl (fs_oc ⟨by omega, by omega⟩ trivial) ?_
          exact ih20 ((i + 1)) (by omega) (fun j hj => by
                   rcases (show (j : Int) < i ∨ (j : Int) = i by omega) with z | z
                   · exact w0 j z
                   · have jj : j = i.toNat := by omega
                     have b1 := be.1 (by omega)
                     rw [z, jj, ← ck2, ← b1]
                     omega) (by omega)
        refine fs_r_iret (a := 0) (L1 := [some (.inr (.ref 1)), some (.inr (.ref 1003)), some (.inl i)]) (M1 := M) (ob := []) rfl rfl trivial (Or.inr (Or.inl rfl)) ?_
        exact hq1 (fun z => by
          have w := z.2 i.toNat (by rw [wl]; omega)
          have b1 := be.1 (by omega)
          rw [i9, ← ck2, ← b1] at w
          omega)
    exact loop20 (((3 - (0)) : Int) + 1).toNat (0) (by omega) (fun j hj => by omega) (by omega)
  refine fs_r_iret (a := 0) (L1 := [some (.inr (.ref 1)), some (.inr (.ref 1003)), none]) (M1 := M) (ob := []) rfl rfl trivial (Or.inr (Or.inl rfl)) ?_
  exact hq1 (fun z => by have w := z.1; rw [wl] at w; omega)

theorem fs_c_isWord4 {d : Nat} {M : fs_M} {Q : Option fs_V → fs_M → Prop}   (ht : 0 ≤ M 1 4 ∧ M 1 4 ≤ M 1 5 ∧ M 1 5 ≤ M 1 1 ∧ M 1 1 ≤ 800) (hq0 : (wdP (M 2) (M 1 4) (M 1 5) 4) → Q (some (.inl 1)) M) (hq1 : (¬ (wdP (M 2) (M 1 4) (M 1 5) 4)) → Q (some (.inl 0)) M) : fs_W (d + 4) 67 0 [some (.inr (.ref 1)), some (.inr (.ref 1004)), none] [] M Q := by
  have ln : ((fs_slen.getD (1004 - 1000) 0 : Nat) : Int) = 5 := rfl
  have wl : (wdL 4).length = 5 := by decide
  have ck : ∀ k : Fin 5, ((fs_bytes.getD (1004 - 1000) []).getD ((k.val : Nat) : Int).toNat 0).toInt = (wdL 4).getD k.val 0 := by decide
  refine fs_r_nat (v := .inl ((fs_slen.getD (1004 - 1000) 0 : Nat) : Int)) (sta := false) (idx := 50) (as := [.inr (.ref 1004)]) (rest := [.inl ((M 1 5) - (M 1 4))]) (L1 := [some (.inr (.ref 1)), some (.inr (.ref 1004)), none]) (st1 := [.inr (.ref 1004), .inl ((M 1 5) - (M 1 4))]) (M1 := M) (ob := [1 < fs_N ∧ fs_kd 1 = 4, 1 < fs_N ∧ fs_kd 1 = 4, fs_rg ((M 1 5) - (M 1 4))]) rfl rfl rfl (fs_oc fs_ob1 (fs_oc fs_ob1 (fs_oc ⟨by omega, by omega⟩ trivial))) rfl rfl (Nat.le_of_ble_eq_true rfl) ⟨Or.inl (by decide), Or.inl (by decide)⟩ (by decide) (rfl) ?_
  refine fs_r_icmp (a := ((M 1 5) - (M 1 4))) (y := ((fs_slen.getD (1004 - 1000) 0 : Nat) : Int)) (L1 := [some (.inr (.ref 1)), some (.inr (.ref 1004)), none]) (st1 := []) (M1 := M) (ob := []) rfl rfl trivial (fun (h1 : ((M 1 5) - (M 1 4)) = ((fs_slen.getD (1004 - 1000) 0 : Nat) : Int)) => ?_) (fun (h1 : ¬ (((M 1 5) - (M 1 4)) = ((fs_slen.getD (1004 - 1000) 0 : Nat) : Int))) => ?_)
  · refine fs_r_nop (L1 := [some (.inr (.ref 1)), some (.inr (.ref 1004)), some (.inl 0)]) (st1 := []) (M1 := M) (ob := [2 < 3]) rfl rfl (fs_oc (by decide) trivial) ?_
    have loop20 : ∀ (n20 : Nat) (i : Int), (0 ≤ i ∧ i ≤ 5) → (∀ j : Nat, (j : Int) < i → M 2 (M 1 4 + j) = (wdL 4).getD j 0) → 5 - i < (n20 : Int) → fs_W (d + 4) 67 20 [some (.inr (.ref 1)), some (.inr (.ref 1004)), some (.inl i)] [] M Q := by
      intro n20
      induction n20 with
      | zero =>
        intro i i0 w0 hm20
        exfalso
        omega
      | succ n20 ih20 =>
        intro i i0 w0 hm20
        refine fs_r_nat (v := .inl ((fs_slen.getD (1004 - 1000) 0 : Nat) : Int)) (sta := false) (idx := 50) (as := [.inr (.ref 1004)]) (rest := [.inl i]) (L1 := [some (.inr (.ref 1)), some (.inr (.ref 1004)), some (.inl i)]) (st1 := [.inr (.ref 1004), .inl i]) (M1 := M) (ob := []) rfl rfl rfl trivial rfl rfl (Nat.le_of_ble_eq_true rfl) ⟨Or.inl (by decide), Or.inl (by decide)⟩ (by decide) (rfl) ?_
        refine fs_r_icmp (a := i) (y := ((fs_slen.getD (1004 - 1000) 0 : Nat) : Int)) (L1 := [some (.inr (.ref 1)), some (.inr (.ref 1004)), some (.inl i)]) (st1 := []) (M1 := M) (ob := []) rfl rfl trivial (fun (h2 : ((fs_slen.getD (1004 - 1000) 0 : Nat) : Int) ≤ i) => ?_) (fun (h2 : ¬ (((fs_slen.getD (1004 - 1000) 0 : Nat) : Int) ≤ i)) => ?_)
        · refine fs_r_iret (a := 1) (L1 := [some (.inr (.ref 1)), some (.inr (.ref 1004)), some (.inl i)]) (M1 := M) (ob := []) rfl rfl trivial (Or.inr (Or.inr rfl)) ?_
          exact hq0 ⟨by rw [wl]; omega, fun j hj => w0 j (by rw [wl] at hj; omega)⟩
        have ck2 := ck ⟨i.toNat, by omega⟩
        have i9 : ((i.toNat : Nat) : Int) = i := by omega
        simp only [i9] at ck2
        refine fs_r_call (sta := false) (idx := 46) (as := [.inr (.ref 1), .inl ((M 1 4) + i)]) (rest := []) (L1 := [some (.inr (.ref 1)), some (.inr (.ref 1004)), some (.inl i)]) (st1 := [.inl ((M 1 4) + i), .inr (.ref 1)]) (M1 := M) (ob := [1 < fs_N ∧ fs_kd 1 = 4, fs_rg ((M 1 4) + i)]) rfl rfl rfl (fs_oc fs_ob1 (fs_oc ⟨by omega, by omega⟩ trivial)) rfl rfl (Nat.le_of_ble_eq_true rfl) ⟨Or.inr (Nat.le_of_ble_eq_true rfl), Or.inr fs_ob1⟩ (by decide) ?_
        refine fs_c_byteAt (by omega) (fun (bx : Int) (be : (0 ≤ ((M 1 4) + i) ∧ ((M 1 4) + i) < M 1 1 → bx = M 2 ((M 1 4) + i)) ∧ (¬ (0 ≤ ((M 1 4) + i) ∧ ((M 1 4) + i) < M 1 1) → bx = 0)) => ?_)
        refine fs_r_nat (v := .inl ((fs_bytes.getD (1004 - 1000) []).getD i.toNat 0).toInt) (sta := false) (idx := 56) (as := [.inr (.ref 1004), .inl i]) (rest := [.inl bx]) (L1 := [some (.inr (.ref 1)), some (.inr (.ref 1004)), some (.inl i)]) (st1 := [.inl i, .inr (.ref 1004), .inl bx]) (M1 := M) (ob := []) rfl rfl rfl trivial rfl rfl (Nat.le_of_ble_eq_true rfl) ⟨Or.inl (by decide), Or.inl (by decide)⟩ (by decide) (if_pos ⟨by decide, by omega, by omega⟩) ?_
        refine fs_r_icmp (a := bx) (y := ((fs_bytes.getD (1004 - 1000) []).getD i.toNat 0).toInt) (L1 := [some (.inr (.ref 1)), some (.inr (.ref 1004)), some (.inl i)]) (st1 := []) (M1 := M) (ob := []) rfl rfl trivial (fun (h3 : bx = ((fs_bytes.getD (1004 - 1000) []).getD i.toNat 0).toInt) => ?_) (fun (h3 : ¬ (bx = ((fs_bytes.getD (1004 - 1000) []).getD i.toNat 0).toInt)) => ?_)
        · refine fs_r_goto (L1 := [some (.inr (.ref 1)), some (.inr (.ref 1004)), some (.inl (i + 1))]) (st1 := []) (M1 := M) (ob := [fs_rg (i + 1)]) rfl rfl (fs_oc ⟨by omega, by omega⟩ trivial) ?_
          exact ih20 ((i + 1)) (by omega) (fun j hj => by
                   rcases (show (j : Int) < i ∨ (j : Int) = i by omega) with z | z
                   · exact w0 j z
                   · have jj : j = i.toNat := by omega
                     have b1 := be.1 (by omega)
                     rw [z, jj, ← ck2, ← b1]
                     omega) (by omega)
        refine fs_r_iret (a := 0) (L1 := [some (.inr (.ref 1)), some (.inr (.ref 1004)), some (.inl i)]) (M1 := M) (ob := []) rfl rfl trivial (Or.inr (Or.inl rfl)) ?_
        exact hq1 (fun z => by
          have w := z.2 i.toNat (by rw [wl]; omega)
          have b1 := be.1 (by omega)
          rw [i9, ← ck2, ← b1] at w
          omega)
    exact loop20 (((5 - (0)) : Int) + 1).toNat (0) (by omega) (fun j hj => by omega) (by omega)
  refine fs_r_iret (a := 0) (L1 := [some (.inr (.ref 1)), some (.inr (.ref 1004)), none]) (M1 := M) (ob := []) rfl rfl trivial (Or.inr (Or.inl rfl)) ?_
  exact hq1 (fun z => by have w := z.1; rw [wl] at w; omega)
