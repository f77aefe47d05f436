/-! the draft: as the Book, seven regions on -/
def S7 (M : fs_M) : fs_M := fun r => M (r + 7)
theorem S7_up {M : fs_M} {r : Nat} {i v : Int} : S7 (fs_up M (r + 7) i v) = fs_up (S7 M) r i v := by
  funext q j
  unfold S7 fs_up
  by_cases z : q = r ∧ j = i
  · rw [if_pos z, if_pos ⟨by omega, z.2⟩]
  · rw [if_neg z, if_neg (fun w => z ⟨by omega, w.2⟩)]
theorem vw12 {M : fs_M} {N : Int → Int} : vw 12 M N ↔ vw 5 (S7 M) N := Iff.rfl
theorem vw12_base {M : fs_M} {N : Int → Int} {a v : Int} (hV : vw 12 M N) (hS : ∀ s, 0 ≤ s → s < 3 → 0 ≤ N (100 + 13 * s) ∧ N (100 + 13 * s) ≤ 4) (ha : 0 ≤ a ∧ a < 4) : vw 12 (fs_up M 13 (a * 2 + 0) v) (up1 N (2 + a) v) := by
  have w := vw_base (v := v) (vw12.mp hV) hS ha
  rw [← S7_up] at w
  exact w
theorem vw12_slope {M : fs_M} {N : Int → Int} {a v : Int} (hV : vw 12 M N) (hS : ∀ s, 0 ≤ s → s < 3 → 0 ≤ N (100 + 13 * s) ∧ N (100 + 13 * s) ≤ 4) (ha : 0 ≤ a ∧ a < 4) : vw 12 (fs_up M 13 (a * 2 + 1) v) (up1 N (6 + a) v) := by
  have w := vw_slope (v := v) (vw12.mp hV) hS ha
  rw [← S7_up] at w
  exact w
theorem vw12_assets {M : fs_M} {N : Int → Int} {v : Int} (hV : vw 12 M N) : vw 12 (fs_up M 12 0 v) (up1 N 0 v) := by
  have w := vw_assets (v := v) (vw12.mp hV)
  rw [← S7_up] at w
  exact w
theorem vw12_fact {M : fs_M} {N : Int → Int} {h k v : Int} (hV : vw 12 M N) (hS : ∀ s, 0 ≤ s → s < 3 → 0 ≤ N (100 + 13 * s) ∧ N (100 + 13 * s) ≤ 4) (hh : 0 ≤ h ∧ h < 6) (hk : 0 ≤ k ∧ k < 5) : vw 12 (fs_up M 14 (h * 5 + k) v) (up1 N (10 + 5 * h + k) v) := by
  have w := vw_fact (v := v) (vw12.mp hV) hS hh hk
  rw [← S7_up] at w
  exact w
theorem vw12_hold {M : fs_M} {N : Int → Int} {h k v : Int} (hV : vw 12 M N) (hS : ∀ s, 0 ≤ s → s < 3 → 0 ≤ N (100 + 13 * s) ∧ N (100 + 13 * s) ≤ 4) (hh : 0 ≤ h ∧ h < 6) (hk : 0 ≤ k ∧ k < 4) : vw 12 (fs_up M 15 (h * 4 + k) v) (up1 N (40 + 4 * h + k) v) := by
  have w := vw_hold (v := v) (vw12.mp hV) hS hh hk
  rw [← S7_up] at w
  exact w
theorem vw12_loan {M : fs_M} {N : Int → Int} {h k v : Int} (hV : vw 12 M N) (hS : ∀ s, 0 ≤ s → s < 3 → 0 ≤ N (100 + 13 * s) ∧ N (100 + 13 * s) ≤ 4) (hh : 0 ≤ h ∧ h < 6) (hk : 0 ≤ k ∧ k < 6) : vw 12 (fs_up M 16 (h * 6 + k) v) (up1 N (64 + 6 * h + k) v) := by
  have w := vw_loan (v := v) (vw12.mp hV) hS hh hk
  rw [← S7_up] at w
  exact w
/-- behind a word -/
def wst (M : fs_M) : Prop := M 1 3 = -1 ∧ (0 ≤ M 1 4 ∧ M 1 4 < M 1 5 ∧ M 1 5 = M 1 2) ∧ (M 1 2 ≤ M 1 1 ∧ M 1 1 ≤ 800) ∧ xL (M 2) (M 1 1) (M 1 2 - 1)
theorem num_hw {M A : fs_M} {lo hi p : Int} (hp : 0 ≤ p ∧ p ≤ M 1 1) (hw5 : M 1 5 ≤ p) (g : A 1 1 = M 1 1 ∧ A 1 5 = M 1 5) (t : A 2 = M 2) (e : A 1 2 = nE (M 2) (M 1 1) p) (k : A 1 3 = -1 → nOk (M 2) (M 1 1) lo hi p) :
    A 1 3 = -1 → (A 1 5 = A 1 2 ∧ 0 < A 1 2 ∧ xL (A 2) (A 1 1) (A 1 2 - 1)) ∨ (A 1 5 < A 1 2 ∧ (gl (A 2) (A 1 1) (A 1 2) → ¬ xD (A 2) (A 1 1) (A 1 2))) := fun z => by
  have b := nE_b (T := M 2) (n := M 1 1) hp
  have l := nE_lt (k z)
  refine Or.inr ⟨by rw [g.2, e]; omega, fun _ => ?_⟩
  rw [t, g.1, e]
  exact b.2.2
theorem fs_c_addAsset12 {d : Nat} {M : fs_M} {Q : Option fs_V → fs_M → Prop} {x : Int} {y : Int}  (ha : 0 ≤ M 12 0 ∧ M 12 0 < 4) (hq0 : Q (some (.inl (M 12 0))) (fs_up (fs_up (fs_up M 12 0 ((M 12 0) + 1)) 13 (((M 12 0) * 2) + 0) x) 13 (((M 12 0) * 2) + 1) y)) : fs_W (d) 25 0 [some (.inr (.ref 12)), some (.inl x), some (.inl y), none] [] M Q := by
  refine fs_r_iret (a := (M 12 0)) (L1 := [some (.inr (.ref 12)), some (.inl x), some (.inl y), some (.inl (M 12 0))]) (M1 := (fs_up (fs_up (fs_up M 12 0 ((M 12 0) + 1)) 13 (((M 12 0) * 2) + 0) x) 13 (((M 12 0) * 2) + 1) y)) (ob := [12 < fs_N ∧ fs_kd 12 = 0, 3 < 4, 12 < fs_N ∧ fs_kd 12 = 0, fs_rg ((M 12 0) + 1), 12 < fs_N ∧ fs_kd 12 = 0, 12 < fs_N ∧ fs_kd 12 = 0, fs_rg ((M 12 0) * 2), fs_rg (((M 12 0) * 2) + 0), (13 < fs_N ∧ fs_kd 13 = 100) ∧ (0 : Int) ≤ (((M 12 0) * 2) + 0) ∧ (((M 12 0) * 2) + 0) < fs_ln 13, 12 < fs_N ∧ fs_kd 12 = 0, fs_rg ((M 12 0) * 2), fs_rg (((M 12 0) * 2) + 1), (13 < fs_N ∧ fs_kd 13 = 100) ∧ (0 : Int) ≤ (((M 12 0) * 2) + 1) ∧ (((M 12 0) * 2) + 1) < fs_ln 13]) rfl (fs_exA 6 (o1 := [12 < fs_N ∧ fs_kd 12 = 0, 3 < 4, 12 < fs_N ∧ fs_kd 12 = 0]) (L1 := [some (.inr (.ref 12)), some (.inl x), some (.inl y), some (.inl (M 12 0))]) (st1 := [.inl (M 12 0), .inr (.ref 12)]) (M1 := M) (o2 := [fs_rg ((M 12 0) + 1), 12 < fs_N ∧ fs_kd 12 = 0, 12 < fs_N ∧ fs_kd 12 = 0, fs_rg ((M 12 0) * 2), fs_rg (((M 12 0) * 2) + 0), (13 < fs_N ∧ fs_kd 13 = 100) ∧ (0 : Int) ≤ (((M 12 0) * 2) + 0) ∧ (((M 12 0) * 2) + 0) < fs_ln 13, 12 < fs_N ∧ fs_kd 12 = 0, fs_rg ((M 12 0) * 2), fs_rg (((M 12 0) * 2) + 1), (13 < fs_N ∧ fs_kd 13 = 100) ∧ (0 : Int) ≤ (((M 12 0) * 2) + 1) ∧ (((M 12 0) * 2) + 1) < fs_ln 13]) rfl (fs_exA 6 (o1 := [fs_rg ((M 12 0) + 1), 12 < fs_N ∧ fs_kd 12 = 0, 12 < fs_N ∧ fs_kd 12 = 0]) (L1 := [some (.inr (.ref 12)), some (.inl x), some (.inl y), some (.inl (M 12 0))]) (st1 := [.inl (M 12 0), .inr (.ref 13)]) (M1 := (fs_up M 12 0 ((M 12 0) + 1))) (o2 := [fs_rg ((M 12 0) * 2), fs_rg (((M 12 0) * 2) + 0), (13 < fs_N ∧ fs_kd 13 = 100) ∧ (0 : Int) ≤ (((M 12 0) * 2) + 0) ∧ (((M 12 0) * 2) + 0) < fs_ln 13, 12 < fs_N ∧ fs_kd 12 = 0, fs_rg ((M 12 0) * 2), fs_rg (((M 12 0) * 2) + 1), (13 < fs_N ∧ fs_kd 13 = 100) ∧ (0 : Int) ≤ (((M 12 0) * 2) + 1) ∧ (((M 12 0) * 2) + 1) < fs_ln 13]) rfl (fs_exA 6 (o1 := [fs_rg ((M 12 0) * 2), fs_rg (((M 12 0) * 2) + 0), (13 < fs_N ∧ fs_kd 13 = 100) ∧ (0 : Int) ≤ (((M 12 0) * 2) + 0) ∧ (((M 12 0) * 2) + 0) < fs_ln 13]) (L1 := [some (.inr (.ref 12)), some (.inl x), some (.inl y), some (.inl (M 12 0))]) (st1 := []) (M1 := (fs_up (fs_up M 12 0 ((M 12 0) + 1)) 13 (((M 12 0) * 2) + 0) x)) (o2 := [12 < fs_N ∧ fs_kd 12 = 0, fs_rg ((M 12 0) * 2), fs_rg (((M 12 0) * 2) + 1), (13 < fs_N ∧ fs_kd 13 = 100) ∧ (0 : Int) ≤ (((M 12 0) * 2) + 1) ∧ (((M 12 0) * 2) + 1) < fs_ln 13]) rfl (fs_exA 6 (o1 := [12 < fs_N ∧ fs_kd 12 = 0, fs_rg ((M 12 0) * 2)]) (L1 := [some (.inr (.ref 12)), some (.inl x), some (.inl y), some (.inl (M 12 0))]) (st1 := [.inl 1, .inl ((M 12 0) * 2), .inr (.ref 13)]) (M1 := (fs_up (fs_up M 12 0 ((M 12 0) + 1)) 13 (((M 12 0) * 2) + 0) x)) (o2 := [fs_rg (((M 12 0) * 2) + 1), (13 < fs_N ∧ fs_kd 13 = 100) ∧ (0 : Int) ≤ (((M 12 0) * 2) + 1) ∧ (((M 12 0) * 2) + 1) < fs_ln 13]) rfl rfl)))) (fs_oc fs_ob12 (fs_oc (by decide) (fs_oc fs_ob12 (fs_oc ⟨by omega, by omega⟩ (fs_oc fs_ob12 (fs_oc fs_ob12 (fs_oc ⟨by omega, by omega⟩ (fs_oc ⟨by omega, by omega⟩ (fs_oc (fs_ar13 (by omega) (by omega)) (fs_oc fs_ob12 (fs_oc ⟨by omega, by omega⟩ (fs_oc ⟨by omega, by omega⟩ (fs_oc (fs_ar13 (by omega) (by omega)) trivial))))))))))))) (Or.inl rfl) ?_
  exact fs_qi (rfl) hq0

theorem fs_c_readAsset {d : Nat} {M : fs_M} {Q : Option fs_V → fs_M → Prop}  {N : Int → Int} (hV : vw 12 M N) (hN : fs_NI N) (hs : wst M) (hq0 : ∀ (M2 : fs_M), (∀ r, r ≠ 1 → (r < 12 ∨ 18 < r) → M2 r = M r) → (M2 1 1 = M 1 1) → (M2 1 3 = aF (M 2) (M 1 1) N (M 1 4) (M 1 2)) → (M2 1 3 = -1 → M2 1 2 = aP (M 2) (M 1 1) (M 1 2) ∧ vw 12 M2 (aN (M 2) (M 1 1) N (M 1 2))) → (0 ≤ M2 1 2 ∧ M2 1 2 ≤ M 1 1) → Q none M2) : fs_W (d + 3) 71 0 [some (.inr (.ref 1)), some (.inr (.ref 12)), none, none] [] M Q := by
  obtain ⟨s3, ⟨s40, s45, s52⟩, ⟨s2n, sn8⟩, sx⟩ := id hs
  obtain ⟨v0, v1, -, -, -, -, vlc, -⟩ := id hV
  obtain ⟨hA, hH, -, -, -, -, hsh, -⟩ := id hN
  have hat : 0 ≤ M 1 2 ∧ M 1 2 ≤ M 1 1 ∧ M 1 1 ≤ 800 := ⟨by omega, s2n, sn8⟩
  have hw0 : M 1 3 = -1 → (M 1 5 = M 1 2 ∧ 0 < M 1 2 ∧ xL (M 2) (M 1 1) (M 1 2 - 1)) ∨ (M 1 5 < M 1 2 ∧ (gl (M 2) (M 1 1) (M 1 2) → ¬ xD (M 2) (M 1 1) (M 1 2))) := fun _ => Or.inl ⟨s52, by omega, sx⟩
  have b1 := nE_b (T := M 2) (n := M 1 1) (p := M 1 2) ⟨hat.1, hat.2.1⟩
  have b2 := nE_b (T := M 2) (n := M 1 1) (p := nE (M 2) (M 1 1) (M 1 2)) ⟨by omega, b1.2.1⟩
  have b3 := nE_b (T := M 2) (n := M 1 1) (p := nE (M 2) (M 1 1) (nE (M 2) (M 1 1) (M 1 2))) ⟨by omega, b2.2.1⟩
  refine fs_r_icmp (a := (M 12 0)) (y := 4) (L1 := [some (.inr (.ref 1)), some (.inr (.ref 12)), none, none]) (st1 := []) (M1 := M) (ob := [12 < fs_N ∧ fs_kd 12 = 0]) rfl rfl (fs_oc fs_ob12 trivial) (fun (h1 : (M 12 0) < 4) => ?_) (fun (h1 : ¬ ((M 12 0) < 4)) => ?_)
  · refine fs_r_call (sta := false) (idx := 101) (as := [.inr (.ref 1), .inl 1, .inl 200]) (rest := []) (L1 := [some (.inr (.ref 1)), some (.inr (.ref 12)), none, none]) (st1 := [.inl 200, .inl 1, .inr (.ref 1)]) (M1 := M) (ob := []) rfl rfl rfl trivial rfl rfl (Nat.le_of_ble_eq_true rfl) ⟨Or.inr (Nat.le_of_ble_eq_true rfl), Or.inr fs_ob1⟩ (by decide) ?_
    refine fs_c_readNumber (hat) (hw0) (fun (x1 : Int) (A1 : fs_M) (f1_ : ∀ r, r ≠ 1 → A1 r = M r) (g1_ : A1 1 1 = M 1 1 ∧ A1 1 4 = M 1 4 ∧ A1 1 5 = M 1 5 ∧ A1 1 6 = qB (M 2) (M 1 1) (M 1 2)) (t1_ : A1 1 2 = nE (M 2) (M 1 1) (M 1 2)) (e1_ : A1 1 3 = nF (M 2) (M 1 1) 1 200 (M 1 3) (M 1 2)) (w1_ : (A1 1 3 = -1 → x1 = nV (M 2) (M 1 1) (M 1 2)) ∧ 0 ≤ x1 ∧ x1 ≤ 99999) => ?_)
    have a1t : A1 2 = M 2 := f1_ 2 (by decide)
    have k1 : A1 1 3 = -1 → nOk (M 2) (M 1 1) 1 200 (M 1 2) := fun z => (nF_ok (e1_.symm.trans z) hat.1).2
    have hw1 := num_hw (A := A1) ⟨hat.1, hat.2.1⟩ (by omega) ⟨g1_.1, g1_.2.2.1⟩ a1t t1_ k1
    have hat1 : 0 ≤ A1 1 2 ∧ A1 1 2 ≤ A1 1 1 ∧ A1 1 1 ≤ 800 := by rw [t1_, g1_.1]; omega
    refine fs_r_call (sta := false) (idx := 101) (as := [.inr (.ref 1), .inl 0, .inl 9]) (rest := []) (L1 := [some (.inr (.ref 1)), some (.inr (.ref 12)), some (.inl x1), none]) (st1 := [.inl 9, .inl 0, .inr (.ref 1)]) (M1 := A1) (ob := [2 < 4]) rfl rfl rfl (fs_oc (by decide) trivial) rfl rfl (Nat.le_of_ble_eq_true rfl) ⟨Or.inr (Nat.le_of_ble_eq_true rfl), Or.inr fs_ob1⟩ (by decide) ?_
    refine fs_c_readNumber (hat1) (hw1) (fun (x2 : Int) (A2 : fs_M) (f2_ : ∀ r, r ≠ 1 → A2 r = A1 r) (g2_ : A2 1 1 = A1 1 1 ∧ A2 1 4 = A1 1 4 ∧ A2 1 5 = A1 1 5 ∧ A2 1 6 = qB (A1 2) (A1 1 1) (A1 1 2)) (t2_ : A2 1 2 = nE (A1 2) (A1 1 1) (A1 1 2)) (e2_ : A2 1 3 = nF (A1 2) (A1 1 1) 0 9 (A1 1 3) (A1 1 2)) (w2_ : (A2 1 3 = -1 → x2 = nV (A1 2) (A1 1 1) (A1 1 2)) ∧ 0 ≤ x2 ∧ x2 ≤ 99999) => ?_)
    have a2t : A2 2 = M 2 := (f2_ 2 (by decide)).trans a1t
    have g2n : A2 1 1 = M 1 1 := g2_.1.trans g1_.1
    rw [a1t, g1_.1, t1_] at t2_ e2_ w2_
    have hat2 : 0 ≤ A2 1 2 ∧ A2 1 2 ≤ A2 1 1 ∧ A2 1 1 ≤ 800 := by rw [t2_, g2n]; omega
    refine fs_r_call (sta := false) (idx := 105) (as := [.inr (.ref 1)]) (rest := []) (L1 := [some (.inr (.ref 1)), some (.inr (.ref 12)), some (.inl x1), some (.inl x2)]) (st1 := [.inr (.ref 1)]) (M1 := A2) (ob := [3 < 4]) rfl rfl rfl (fs_oc (by decide) trivial) rfl rfl (Nat.le_of_ble_eq_true rfl) ⟨Or.inr (Nat.le_of_ble_eq_true rfl), Or.inr fs_ob1⟩ (by decide) ?_
    refine fs_c_readEnd (hat2) (fun (E : fs_M) (ef : ∀ r, r ≠ 1 → E r = A2 r) (eg : E 1 1 = A2 1 1 ∧ E 1 4 = A2 1 4 ∧ E 1 5 = A2 1 5) (ee : E 1 3 = eF (A2 2) (A2 1 1) (A2 1 3) (A2 1 2)) (et : (E 1 3 = -1 → E 1 2 = qB (A2 2) (A2 1 1) (A2 1 2) + 1) ∧ 0 ≤ E 1 2 ∧ E 1 2 ≤ A2 1 1) => ?_)
    have g3n : E 1 1 = M 1 1 := eg.1.trans g2n
    rw [a2t, g2n, t2_] at ee et
    have et2 : E 2 = M 2 := (ef 2 (by decide)).trans a2t
    have x12 : E 12 = M 12 := by rw [ef 12 (by decide), f2_ 12 (by decide), f1_ 12 (by decide)]
    have eF9 : E 1 3 = aF (M 2) (M 1 1) N (M 1 4) (M 1 2) := by
      rw [ee, e2_, e1_, s3]
      unfold aF
      rw [if_neg (by omega : ¬ N 0 = 4)]
    refine fs_r_icmp (a := (E 1 3)) (y := (-1)) (L1 := [some (.inr (.ref 1)), some (.inr (.ref 12)), some (.inl x1), some (.inl x2)]) (st1 := []) (M1 := E) (ob := [1 < fs_N ∧ fs_kd 1 = 4]) rfl rfl (fs_oc fs_ob1 trivial) (fun (h2 : ¬ (E 1 3) = (-1)) => ?_) (fun (h2 : ¬ (¬ (E 1 3) = (-1))) => ?_)
    · refine fs_r_ret (L1 := [some (.inr (.ref 1)), some (.inr (.ref 12)), some (.inl x1), some (.inl x2)]) (M1 := E) (ob := []) rfl rfl trivial ?_
      have ff : ∀ r, r ≠ 1 → E r = M r := fun r z => by rw [ef r z, f2_ r z, f1_ r z]
      first
        | (have z3 : E 1 3 = -1 := by omega
           have o3 := eF_ok (ee.symm.trans z3) (by omega)
           have o2 := nF_ok (e2_.symm.trans o3.1) (by omega)
           have y1 := w1_.1 o2.1
           have y2 := w2_.1 o3.1
           refine hq0 _ (fun r q1 q2 => by rw [fs_up_other (by omega), fs_up_other (by omega), fs_up_other (by omega)]; exact ff r q1) g3n eF9 (fun _ => ⟨et.1 z3, ?_⟩) et.2
           have vE : vw 12 E N := hV.fr (fun r q1 q2 => ff r (by omega))
           have e0 : E 12 0 = N 0 := by rw [x12]; exact v0
           unfold aN
           rw [up1_comm (i := 6 + N 0) (j := 0) (by omega), up1_comm (i := 2 + N 0) (j := 0) (by omega), ← y1, ← y2]
           simp only [e0]
           have s1 : ∀ v s, 0 ≤ s → s < 3 → 0 ≤ up1 N 0 v (100 + 13 * s) ∧ up1 N 0 v (100 + 13 * s) ≤ 4 := fun v s s0 s1 => by unfold up1; rw [if_neg (by omega)]; exact hsh s s0 s1
           have s2 : ∀ v w s, 0 ≤ s → s < 3 → 0 ≤ up1 (up1 N 0 v) (2 + N 0) w (100 + 13 * s) ∧ up1 (up1 N 0 v) (2 + N 0) w (100 + 13 * s) ≤ 4 := fun v w s s0 q => by unfold up1; rw [if_neg (by omega)]; exact s1 v s s0 q
           exact vw12_slope (a := N 0) (vw12_base (a := N 0) (vw12_assets vE) (s1 _) (by omega)) (s2 _ _) (by omega))
        | exact hq0 _ (fun r q1 q2 => ff r q1) g3n eF9 (fun z => by omega) et.2
    refine fs_r_call (sta := false) (idx := 108) (as := [.inr (.ref 12), .inl x1, .inl x2]) (rest := []) (L1 := [some (.inr (.ref 1)), some (.inr (.ref 12)), some (.inl x1), some (.inl x2)]) (st1 := [.inl x2, .inl x1, .inr (.ref 12)]) (M1 := E) (ob := []) rfl rfl rfl trivial rfl rfl (Nat.le_of_ble_eq_true rfl) ⟨Or.inr (Nat.le_of_ble_eq_true rfl), Or.inr fs_ob12⟩ (by decide) ?_
    refine fs_c_addAsset12 (by rw [x12]; omega) ?_
    refine fs_r_nop (L1 := [some (.inr (.ref 1)), some (.inr (.ref 12)), some (.inl x1), some (.inl x2)]) (st1 := []) (M1 := (fs_up (fs_up (fs_up E 12 0 ((E 12 0) + 1)) 13 (((E 12 0) * 2) + 0) x1) 13 (((E 12 0) * 2) + 1) x2)) (ob := []) rfl rfl trivial ?_
    refine fs_r_ret (L1 := [some (.inr (.ref 1)), some (.inr (.ref 12)), some (.inl x1), some (.inl x2)]) (M1 := (fs_up (fs_up (fs_up E 12 0 ((E 12 0) + 1)) 13 (((E 12 0) * 2) + 0) x1) 13 (((E 12 0) * 2) + 1) x2)) (ob := []) rfl rfl trivial ?_
    have ff : ∀ r, r ≠ 1 → E r = M r := fun r z => by rw [ef r z, f2_ r z, f1_ r z]
    first
      | (have z3 : E 1 3 = -1 := by omega
         have o3 := eF_ok (ee.symm.trans z3) (by omega)
         have o2 := nF_ok (e2_.symm.trans o3.1) (by omega)
         have y1 := w1_.1 o2.1
         have y2 := w2_.1 o3.1
         refine hq0 _ (fun r q1 q2 => by rw [fs_up_other (by omega), fs_up_other (by omega), fs_up_other (by omega)]; exact ff r q1) g3n eF9 (fun _ => ⟨et.1 z3, ?_⟩) et.2
         have vE : vw 12 E N := hV.fr (fun r q1 q2 => ff r (by omega))
         have e0 : E 12 0 = N 0 := by rw [x12]; exact v0
         unfold aN
         rw [up1_comm (i := 6 + N 0) (j := 0) (by omega), up1_comm (i := 2 + N 0) (j := 0) (by omega), ← y1, ← y2]
         simp only [e0]
         have s1 : ∀ v s, 0 ≤ s → s < 3 → 0 ≤ up1 N 0 v (100 + 13 * s) ∧ up1 N 0 v (100 + 13 * s) ≤ 4 := fun v s s0 s1 => by unfold up1; rw [if_neg (by omega)]; exact hsh s s0 s1
         have s2 : ∀ v w s, 0 ≤ s → s < 3 → 0 ≤ up1 (up1 N 0 v) (2 + N 0) w (100 + 13 * s) ∧ up1 (up1 N 0 v) (2 + N 0) w (100 + 13 * s) ≤ 4 := fun v w s s0 q => by unfold up1; rw [if_neg (by omega)]; exact s1 v s s0 q
         exact vw12_slope (a := N 0) (vw12_base (a := N 0) (vw12_assets vE) (s1 _) (by omega)) (s2 _ _) (by omega))
      | exact hq0 _ (fun r q1 q2 => ff r q1) g3n eF9 (fun z => by omega) et.2
  refine fs_r_call (sta := false) (idx := 91) (as := [.inr (.ref 1), .inl (M 1 4)]) (rest := []) (L1 := [some (.inr (.ref 1)), some (.inr (.ref 12)), none, none]) (st1 := [.inl (M 1 4), .inr (.ref 1)]) (M1 := M) (ob := [1 < fs_N ∧ fs_kd 1 = 4]) rfl rfl rfl (fs_oc fs_ob1 trivial) rfl rfl (Nat.le_of_ble_eq_true rfl) ⟨Or.inr (Nat.le_of_ble_eq_true rfl), Or.inr fs_ob1⟩ (by decide) ?_
  refine fs_c_failAt ?_
  refine fs_r_ret (L1 := [some (.inr (.ref 1)), some (.inr (.ref 12)), none, none]) (M1 := (fs_up M 1 3 (if M 1 3 = -1 then (M 1 4) else M 1 3))) (ob := []) rfl rfl trivial ?_
  have f9 : (fs_up M 1 3 (if M 1 3 = -1 then (M 1 4) else M 1 3)) 1 3 = M 1 4 := by rw [fs_up_at, if_pos rfl, if_pos s3]
  have fF : aF (M 2) (M 1 1) N (M 1 4) (M 1 2) = M 1 4 := by
    unfold aF
    rw [if_pos (by omega), nF_ne (f := M 1 4) (by omega), nF_ne (by omega)]
    unfold eF
    exact if_neg (by omega)
  exact hq0 _ (fun r z _ => fs_up_other z) (by rw [fs_up_at, if_neg (by omega)]) (f9.trans fF.symm) (fun z => by rw [f9] at z; omega) (by rw [fs_up_at, if_neg (by omega)]; omega)
