theorem vw_fact {M : fs_M} {N : Int → Int} {v : Int} {h k : Int} (hV : vw 5 M N) (hS : ∀ s, 0 ≤ s → s < 3 → 0 ≤ N (100 + 13 * s) ∧ N (100 + 13 * s) ≤ 4) (hh : 0 ≤ h ∧ h < 6) (hk : 0 ≤ k ∧ k < 5) : vw 5 (fs_up M 7 (h * 5 + k) v) (up1 N (10 + 5 * h + k) v) := by
  obtain ⟨v0, v1, vcv, vfc, vhd, vln, vlc, vit⟩ := vw5 hV
  have e1 : up1 N (10 + 5 * h + k) v 1 = N 1 := if_neg (by omega)
  have e2 : ∀ s, 0 ≤ s → s < 3 → up1 N (10 + 5 * h + k) v (100 + 13 * s) = N (100 + 13 * s) := fun s s0 s1 => if_neg (by omega)
  refine vw5.of ⟨?_, ?_, fun q q0 q1 => ⟨?_, ?_⟩, fun x w x0 x1 w0 w1 z => ?_, fun x w x0 x1 w0 w1 => ?_, fun x w x0 x1 w0 w1 => ?_, fun x x0 x1 => ?_, fun x p w x0 x1 p0 p1 w0 w1 => ?_⟩
  · show fs_up M 7 _ v 5 _ = up1 N _ v _; rw [fs_up_other (by decide)]; unfold up1; rw [if_neg (by omega)]; exact v0
  · show fs_up M 7 _ v 5 _ = up1 N _ v _; rw [fs_up_other (by decide)]; unfold up1; rw [if_neg (by omega)]; exact v1
  · show fs_up M 7 _ v 6 _ = up1 N _ v _; rw [fs_up_other (by decide)]; unfold up1; rw [if_neg (by omega)]; exact (vcv q q0 q1).1
  · show fs_up M 7 _ v 6 _ = up1 N _ v _; rw [fs_up_other (by decide)]; unfold up1; rw [if_neg (by omega)]; exact (vcv q q0 q1).2
  · show fs_up M 7 _ v 7 _ = up1 N _ v _; rw [fs_up_at]; unfold up1; by_cases y : x * 5 + w = h * 5 + k; (rw [if_pos y, if_pos (by omega)]); (rw [if_neg y, if_neg (by omega)]; exact vfc x w x0 x1 w0 w1 (by rw [e1] at z; exact z))
  · show fs_up M 7 _ v 8 _ = up1 N _ v _; rw [fs_up_other (by decide)]; unfold up1; rw [if_neg (by omega)]; exact vhd x w x0 x1 w0 w1
  · show fs_up M 7 _ v 9 _ = up1 N _ v _; rw [fs_up_other (by decide)]; unfold up1; rw [if_neg (by omega)]; exact vln x w x0 x1 w0 w1
  · show fs_up M 7 _ v 10 _ = up1 N _ v _; rw [fs_up_other (by decide)]; unfold up1; rw [if_neg (by omega)]; exact vlc x x0 x1
  · have p2 := p1
    rw [e2 x x0 x1] at p2
    have sh := hS x x0 x1
    show fs_up M 7 _ v 11 _ = up1 N _ v _; rw [fs_up_other (by decide)]; unfold up1; rw [if_neg (by omega)]; exact vit x p w x0 x1 p0 (by rw [e2 x x0 x1] at p1; exact p1) w0 w1

theorem vw_hold {M : fs_M} {N : Int → Int} {v : Int} {h a : Int} (hV : vw 5 M N) (hS : ∀ s, 0 ≤ s → s < 3 → 0 ≤ N (100 + 13 * s) ∧ N (100 + 13 * s) ≤ 4) (hh : 0 ≤ h ∧ h < 6) (ha : 0 ≤ a ∧ a < 4) : vw 5 (fs_up M 8 (h * 4 + a) v) (up1 N (40 + 4 * h + a) v) := by
  obtain ⟨v0, v1, vcv, vfc, vhd, vln, vlc, vit⟩ := vw5 hV
  have e1 : up1 N (40 + 4 * h + a) v 1 = N 1 := if_neg (by omega)
  have e2 : ∀ s, 0 ≤ s → s < 3 → up1 N (40 + 4 * h + a) v (100 + 13 * s) = N (100 + 13 * s) := fun s s0 s1 => if_neg (by omega)
  refine vw5.of ⟨?_, ?_, fun q q0 q1 => ⟨?_, ?_⟩, fun x w x0 x1 w0 w1 z => ?_, fun x w x0 x1 w0 w1 => ?_, fun x w x0 x1 w0 w1 => ?_, fun x x0 x1 => ?_, fun x p w x0 x1 p0 p1 w0 w1 => ?_⟩
  · show fs_up M 8 _ v 5 _ = up1 N _ v _; rw [fs_up_other (by decide)]; unfold up1; rw [if_neg (by omega)]; exact v0
  · show fs_up M 8 _ v 5 _ = up1 N _ v _; rw [fs_up_other (by decide)]; unfold up1; rw [if_neg (by omega)]; exact v1
  · show fs_up M 8 _ v 6 _ = up1 N _ v _; rw [fs_up_other (by decide)]; unfold up1; rw [if_neg (by omega)]; exact (vcv q q0 q1).1
  · show fs_up M 8 _ v 6 _ = up1 N _ v _; rw [fs_up_other (by decide)]; unfold up1; rw [if_neg (by omega)]; exact (vcv q q0 q1).2
  · show fs_up M 8 _ v 7 _ = up1 N _ v _; rw [fs_up_other (by decide)]; unfold up1; rw [if_neg (by omega)]; exact vfc x w x0 x1 w0 w1 (by rw [e1] at z; exact z)
  · show fs_up M 8 _ v 8 _ = up1 N _ v _; rw [fs_up_at]; unfold up1; by_cases y : x * 4 + w = h * 4 + a; (rw [if_pos y, if_pos (by omega)]); (rw [if_neg y, if_neg (by omega)]; exact vhd x w x0 x1 w0 w1)
  · show fs_up M 8 _ v 9 _ = up1 N _ v _; rw [fs_up_other (by decide)]; unfold up1; rw [if_neg (by omega)]; exact vln x w x0 x1 w0 w1
  · show fs_up M 8 _ v 10 _ = up1 N _ v _; rw [fs_up_other (by decide)]; unfold up1; rw [if_neg (by omega)]; exact vlc x x0 x1
  · have p2 := p1
    rw [e2 x x0 x1] at p2
    have sh := hS x x0 x1
    show fs_up M 8 _ v 11 _ = up1 N _ v _; rw [fs_up_other (by decide)]; unfold up1; rw [if_neg (by omega)]; exact vit x p w x0 x1 p0 (by rw [e2 x x0 x1] at p1; exact p1) w0 w1

theorem vw_loan {M : fs_M} {N : Int → Int} {v : Int} {h o : Int} (hV : vw 5 M N) (hS : ∀ s, 0 ≤ s → s < 3 → 0 ≤ N (100 + 13 * s) ∧ N (100 + 13 * s) ≤ 4) (hh : 0 ≤ h ∧ h < 6) (ho : 0 ≤ o ∧ o < 6) : vw 5 (fs_up M 9 (h * 6 + o) v) (up1 N (64 + 6 * h + o) v) := by
  obtain ⟨v0, v1, vcv, vfc, vhd, vln, vlc, vit⟩ := vw5 hV
  have e1 : up1 N (64 + 6 * h + o) v 1 = N 1 := if_neg (by omega)
  have e2 : ∀ s, 0 ≤ s → s < 3 → up1 N (64 + 6 * h + o) v (100 + 13 * s) = N (100 + 13 * s) := fun s s0 s1 => if_neg (by omega)
  refine vw5.of ⟨?_, ?_, fun q q0 q1 => ⟨?_, ?_⟩, fun x w x0 x1 w0 w1 z => ?_, fun x w x0 x1 w0 w1 => ?_, fun x w x0 x1 w0 w1 => ?_, fun x x0 x1 => ?_, fun x p w x0 x1 p0 p1 w0 w1 => ?_⟩
  · show fs_up M 9 _ v 5 _ = up1 N _ v _; rw [fs_up_other (by decide)]; unfold up1; rw [if_neg (by omega)]; exact v0
  · show fs_up M 9 _ v 5 _ = up1 N _ v _; rw [fs_up_other (by decide)]; unfold up1; rw [if_neg (by omega)]; exact v1
  · show fs_up M 9 _ v 6 _ = up1 N _ v _; rw [fs_up_other (by decide)]; unfold up1; rw [if_neg (by omega)]; exact (vcv q q0 q1).1
  · show fs_up M 9 _ v 6 _ = up1 N _ v _; rw [fs_up_other (by decide)]; unfold up1; rw [if_neg (by omega)]; exact (vcv q q0 q1).2
  · show fs_up M 9 _ v 7 _ = up1 N _ v _; rw [fs_up_other (by decide)]; unfold up1; rw [if_neg (by omega)]; exact vfc x w x0 x1 w0 w1 (by rw [e1] at z; exact z)
  · show fs_up M 9 _ v 8 _ = up1 N _ v _; rw [fs_up_other (by decide)]; unfold up1; rw [if_neg (by omega)]; exact vhd x w x0 x1 w0 w1
  · show fs_up M 9 _ v 9 _ = up1 N _ v _; rw [fs_up_at]; unfold up1; by_cases y : x * 6 + w = h * 6 + o; (rw [if_pos y, if_pos (by omega)]); (rw [if_neg y, if_neg (by omega)]; exact vln x w x0 x1 w0 w1)
  · show fs_up M 9 _ v 10 _ = up1 N _ v _; rw [fs_up_other (by decide)]; unfold up1; rw [if_neg (by omega)]; exact vlc x x0 x1
  · have p2 := p1
    rw [e2 x x0 x1] at p2
    have sh := hS x x0 x1
    show fs_up M 9 _ v 11 _ = up1 N _ v _; rw [fs_up_other (by decide)]; unfold up1; rw [if_neg (by omega)]; exact vit x p w x0 x1 p0 (by rw [e2 x x0 x1] at p1; exact p1) w0 w1

theorem vw_base {M : fs_M} {N : Int → Int} {v : Int} {a : Int} (hV : vw 5 M N) (hS : ∀ s, 0 ≤ s → s < 3 → 0 ≤ N (100 + 13 * s) ∧ N (100 + 13 * s) ≤ 4) (ha : 0 ≤ a ∧ a < 4) : vw 5 (fs_up M 6 (a * 2 + 0) v) (up1 N (2 + a) v) := by
  obtain ⟨v0, v1, vcv, vfc, vhd, vln, vlc, vit⟩ := vw5 hV
  have e1 : up1 N (2 + a) v 1 = N 1 := if_neg (by omega)
  have e2 : ∀ s, 0 ≤ s → s < 3 → up1 N (2 + a) v (100 + 13 * s) = N (100 + 13 * s) := fun s s0 s1 => if_neg (by omega)
  refine vw5.of ⟨?_, ?_, fun q q0 q1 => ⟨?_, ?_⟩, fun x w x0 x1 w0 w1 z => ?_, fun x w x0 x1 w0 w1 => ?_, fun x w x0 x1 w0 w1 => ?_, fun x x0 x1 => ?_, fun x p w x0 x1 p0 p1 w0 w1 => ?_⟩
  · show fs_up M 6 _ v 5 _ = up1 N _ v _; rw [fs_up_other (by decide)]; unfold up1; rw [if_neg (by omega)]; exact v0
  · show fs_up M 6 _ v 5 _ = up1 N _ v _; rw [fs_up_other (by decide)]; unfold up1; rw [if_neg (by omega)]; exact v1
  · show fs_up M 6 _ v 6 _ = up1 N _ v _; rw [fs_up_at]; unfold up1; by_cases y : q * 2 + 0 = a * 2 + 0; (rw [if_pos y, if_pos (by omega)]); (rw [if_neg y, if_neg (by omega)]; exact (vcv q q0 q1).1)
  · show fs_up M 6 _ v 6 _ = up1 N _ v _; rw [fs_up_at]; unfold up1; by_cases y : q * 2 + 1 = a * 2 + 0; (rw [if_pos y, if_pos (by omega)]); (rw [if_neg y, if_neg (by omega)]; exact (vcv q q0 q1).2)
  · show fs_up M 6 _ v 7 _ = up1 N _ v _; rw [fs_up_other (by decide)]; unfold up1; rw [if_neg (by omega)]; exact vfc x w x0 x1 w0 w1 (by rw [e1] at z; exact z)
  · show fs_up M 6 _ v 8 _ = up1 N _ v _; rw [fs_up_other (by decide)]; unfold up1; rw [if_neg (by omega)]; exact vhd x w x0 x1 w0 w1
  · show fs_up M 6 _ v 9 _ = up1 N _ v _; rw [fs_up_other (by decide)]; unfold up1; rw [if_neg (by omega)]; exact vln x w x0 x1 w0 w1
  · show fs_up M 6 _ v 10 _ = up1 N _ v _; rw [fs_up_other (by decide)]; unfold up1; rw [if_neg (by omega)]; exact vlc x x0 x1
  · have p2 := p1
    rw [e2 x x0 x1] at p2
    have sh := hS x x0 x1
    show fs_up M 6 _ v 11 _ = up1 N _ v _; rw [fs_up_other (by decide)]; unfold up1; rw [if_neg (by omega)]; exact vit x p w x0 x1 p0 (by rw [e2 x x0 x1] at p1; exact p1) w0 w1

theorem vw_slope {M : fs_M} {N : Int → Int} {v : Int} {a : Int} (hV : vw 5 M N) (hS : ∀ s, 0 ≤ s → s < 3 → 0 ≤ N (100 + 13 * s) ∧ N (100 + 13 * s) ≤ 4) (ha : 0 ≤ a ∧ a < 4) : vw 5 (fs_up M 6 (a * 2 + 1) v) (up1 N (6 + a) v) := by
  obtain ⟨v0, v1, vcv, vfc, vhd, vln, vlc, vit⟩ := vw5 hV
  have e1 : up1 N (6 + a) v 1 = N 1 := if_neg (by omega)
  have e2 : ∀ s, 0 ≤ s → s < 3 → up1 N (6 + a) v (100 + 13 * s) = N (100 + 13 * s) := fun s s0 s1 => if_neg (by omega)
  refine vw5.of ⟨?_, ?_, fun q q0 q1 => ⟨?_, ?_⟩, fun x w x0 x1 w0 w1 z => ?_, fun x w x0 x1 w0 w1 => ?_, fun x w x0 x1 w0 w1 => ?_, fun x x0 x1 => ?_, fun x p w x0 x1 p0 p1 w0 w1 => ?_⟩
  · show fs_up M 6 _ v 5 _ = up1 N _ v _; rw [fs_up_other (by decide)]; unfold up1; rw [if_neg (by omega)]; exact v0
  · show fs_up M 6 _ v 5 _ = up1 N _ v _; rw [fs_up_other (by decide)]; unfold up1; rw [if_neg (by omega)]; exact v1
  · show fs_up M 6 _ v 6 _ = up1 N _ v _; rw [fs_up_at]; unfold up1; by_cases y : q * 2 + 0 = a * 2 + 1; (rw [if_pos y, if_pos (by omega)]); (rw [if_neg y, if_neg (by omega)]; exact (vcv q q0 q1).1)
  · show fs_up M 6 _ v 6 _ = up1 N _ v _; rw [fs_up_at]; unfold up1; by_cases y : q * 2 + 1 = a * 2 + 1; (rw [if_pos y, if_pos (by omega)]); (rw [if_neg y, if_neg (by omega)]; exact (vcv q q0 q1).2)
  · show fs_up M 6 _ v 7 _ = up1 N _ v _; rw [fs_up_other (by decide)]; unfold up1; rw [if_neg (by omega)]; exact vfc x w x0 x1 w0 w1 (by rw [e1] at z; exact z)
  · show fs_up M 6 _ v 8 _ = up1 N _ v _; rw [fs_up_other (by decide)]; unfold up1; rw [if_neg (by omega)]; exact vhd x w x0 x1 w0 w1
  · show fs_up M 6 _ v 9 _ = up1 N _ v _; rw [fs_up_other (by decide)]; unfold up1; rw [if_neg (by omega)]; exact vln x w x0 x1 w0 w1
  · show fs_up M 6 _ v 10 _ = up1 N _ v _; rw [fs_up_other (by decide)]; unfold up1; rw [if_neg (by omega)]; exact vlc x x0 x1
  · have p2 := p1
    rw [e2 x x0 x1] at p2
    have sh := hS x x0 x1
    show fs_up M 6 _ v 11 _ = up1 N _ v _; rw [fs_up_other (by decide)]; unfold up1; rw [if_neg (by omega)]; exact vit x p w x0 x1 p0 (by rw [e2 x x0 x1] at p1; exact p1) w0 w1

theorem vw_assets {M : fs_M} {N : Int → Int} {v : Int} (hV : vw 5 M N) : vw 5 (fs_up M 5 0 v) (up1 N 0 v) := by
  obtain ⟨v0, v1, vcv, vfc, vhd, vln, vlc, vit⟩ := vw5 hV
  have e : ∀ i, i ≠ 0 → up1 N 0 v i = N i := fun i q => if_neg q
  refine vw5.of ⟨?_, ?_, fun q q0 q1 => ⟨?_, ?_⟩, fun x w x0 x1 w0 w1 z => ?_, fun x w x0 x1 w0 w1 => ?_, fun x w x0 x1 w0 w1 => ?_, fun x x0 x1 => ?_, fun x p w x0 x1 p0 p1 w0 w1 => ?_⟩
  · rw [fs_up_at, if_pos rfl]
    rfl
  · rw [fs_up_at, if_neg (by omega), e 1 (by omega)]
    exact v1
  · rw [fs_up_other (by decide), e _ (by omega)]
    exact (vcv q q0 q1).1
  · rw [fs_up_other (by decide), e _ (by omega)]
    exact (vcv q q0 q1).2
  · rw [fs_up_other (by decide), e _ (by omega)]
    exact vfc x w x0 x1 w0 w1 (by rw [e 1 (by omega)] at z; exact z)
  · rw [fs_up_other (by decide), e _ (by omega)]
    exact vhd x w x0 x1 w0 w1
  · rw [fs_up_other (by decide), e _ (by omega)]
    exact vln x w x0 x1 w0 w1
  · rw [fs_up_other (by decide), e _ (by omega)]
    exact vlc x x0 x1
  · rw [e _ (by omega)] at p1
    rw [fs_up_other (by decide), e _ (by omega)]
    exact vit x p w x0 x1 p0 p1 w0 w1
theorem up1_comm {N : Int → Int} {i j v w : Int} (h : i ≠ j) : up1 (up1 N i v) j w = up1 (up1 N j w) i v := by
  funext q
  unfold up1
  split <;> split <;> first | rfl | (exfalso; omega)
theorem ca.of {M V1 M2 : fs_M} {N N2 : Int → Int} {n : Int} {U : Int → Int → Int} (f : ∀ r, r ≠ 0 → (r < 40 ∨ 123 < r) → V1 r = M r) (u : us V1 (us_n n) (us_u n U N)) (v : vw 5 M2 N2) (g : ∀ r, (r < 3 ∨ 39 < r) → M2 r = V1 r) : ca M M2 N2 n U N :=
  ⟨v, u.fr ⟨by rw [g 0 (by omega)], by rw [g 0 (by omega)]⟩ (fun r q1 q2 => g r (by omega)), fun r q => (g r (by omega)).trans (f r (by omega) (by omega))⟩
theorem fs_c_change6 {d : Nat} {M : fs_M} {Q : Option fs_V → fs_M → Prop} {ax : Int} {v : Int} {N : Int → Int} {n : Int} {U : Int → Int → Int} (hV : vw 5 M N) (hN : fs_NI N) (hU : us M n U) (ha : 0 ≤ ax ∧ ax < 8) (hq0 : ∀ (V1 : fs_M), (¬ M 6 ax = v) → (∀ r, r ≠ 0 → (r < 40 ∨ 123 < r) → V1 r = M r) → (us V1 (us_n n) (us_u n U N)) → Q (some (.inl (M 6 ax))) (fs_up V1 6 ax v)) (hq1 : (M 6 ax = v) → Q (some (.inl (-1))) M) : fs_W (d + 4) 140 0 [some (.inr (.ref 0)), some (.inr (.ref 6)), some (.inl ax), some (.inl v), none] [] M Q := by
  have el : fs_ln 6 = 8 := rfl
  refine fs_r_if (a := ax) (L1 := [some (.inr (.ref 0)), some (.inr (.ref 6)), some (.inl ax), some (.inl v), none]) (st1 := []) (M1 := M) (ob := []) rfl rfl trivial (fun (h1 : ax < 0) => ?_) (fun (h1 : ¬ (ax < 0)) => ?_)
  · refine fs_r_iret (a := (-1)) (L1 := [some (.inr (.ref 0)), some (.inr (.ref 6)), some (.inl ax), some (.inl v), none]) (M1 := M) (ob := []) rfl rfl trivial (Or.inl rfl) ?_
    first
      | (exfalso; omega)
      | exact hq1 (by omega)
  refine fs_r_icmp (a := ax) (y := (fs_ln 6)) (L1 := [some (.inr (.ref 0)), some (.inr (.ref 6)), some (.inl ax), some (.inl v), none]) (st1 := []) (M1 := M) (ob := [6 < fs_N ∧ fs_kd 6 = 100]) rfl rfl (fs_oc ⟨by decide, rfl⟩ trivial) (fun (h2 : (fs_ln 6) ≤ ax) => ?_) (fun (h2 : ¬ ((fs_ln 6) ≤ ax)) => ?_)
  · refine fs_r_iret (a := (-1)) (L1 := [some (.inr (.ref 0)), some (.inr (.ref 6)), some (.inl ax), some (.inl v), none]) (M1 := M) (ob := []) rfl rfl trivial (Or.inl rfl) ?_
    first
      | (exfalso; omega)
      | exact hq1 (by omega)
  refine fs_r_icmp (a := (M 6 ax)) (y := v) (L1 := [some (.inr (.ref 0)), some (.inr (.ref 6)), some (.inl ax), some (.inl v), none]) (st1 := []) (M1 := M) (ob := [(6 < fs_N ∧ fs_kd 6 = 100) ∧ (0 : Int) ≤ ax ∧ ax < fs_ln 6]) rfl rfl (fs_oc (fs_ar6 (by omega) (by omega)) trivial) (fun (h3 : ¬ (M 6 ax) = v) => ?_) (fun (h3 : ¬ (¬ (M 6 ax) = v)) => ?_)
  · refine fs_r_call (sta := false) (idx := 99) (as := [.inr (.ref 0)]) (rest := []) (L1 := [some (.inr (.ref 0)), some (.inr (.ref 6)), some (.inl ax), some (.inl v), some (.inl (M 6 ax))]) (st1 := [.inr (.ref 0)]) (M1 := M) (ob := [(6 < fs_N ∧ fs_kd 6 = 100) ∧ (0 : Int) ≤ ax ∧ ax < fs_ln 6, 4 < 5]) rfl rfl rfl (fs_oc (fs_ar6 (by omega) (by omega)) (fs_oc (by decide) trivial)) rfl rfl (Nat.le_of_ble_eq_true rfl) ⟨Or.inr (Nat.le_of_ble_eq_true rfl), Or.inr fs_ob0⟩ (by decide) ?_
    refine fs_c_remember (N := N) (n := n) (U := U) (by assumption) (by assumption) (by assumption) (fun (V1 : fs_M) (rf : ∀ r, r ≠ 0 → (r < 40 ∨ 123 < r) → V1 r = M r) (ru : us V1 (us_n n) (us_u n U N)) => ?_)
    refine fs_r_iret (a := (M 6 ax)) (L1 := [some (.inr (.ref 0)), some (.inr (.ref 6)), some (.inl ax), some (.inl v), some (.inl (M 6 ax))]) (M1 := (fs_up V1 6 ax v)) (ob := [(6 < fs_N ∧ fs_kd 6 = 100) ∧ (0 : Int) ≤ ax ∧ ax < fs_ln 6]) rfl rfl (fs_oc (fs_ar6 (by omega) (by omega)) trivial) (Or.inl rfl) ?_
    exact hq0 V1 (by omega) rf ru
  refine fs_r_iret (a := (-1)) (L1 := [some (.inr (.ref 0)), some (.inr (.ref 6)), some (.inl ax), some (.inl v), none]) (M1 := M) (ob := []) rfl rfl trivial (Or.inl rfl) ?_
  first
    | (exfalso; omega)
    | exact hq1 (by omega)

theorem fs_c_change7 {d : Nat} {M : fs_M} {Q : Option fs_V → fs_M → Prop} {ax : Int} {v : Int} {N : Int → Int} {n : Int} {U : Int → Int → Int} (hV : vw 5 M N) (hN : fs_NI N) (hU : us M n U) (ha : 0 ≤ ax ∧ ax < 30) (hq0 : ∀ (V1 : fs_M), (¬ M 7 ax = v) → (∀ r, r ≠ 0 → (r < 40 ∨ 123 < r) → V1 r = M r) → (us V1 (us_n n) (us_u n U N)) → Q (some (.inl (M 7 ax))) (fs_up V1 7 ax v)) (hq1 : (M 7 ax = v) → Q (some (.inl (-1))) M) : fs_W (d + 4) 140 0 [some (.inr (.ref 0)), some (.inr (.ref 7)), some (.inl ax), some (.inl v), none] [] M Q := by
  have el : fs_ln 7 = 30 := rfl
  refine fs_r_if (a := ax) (L1 := [some (.inr (.ref 0)), some (.inr (.ref 7)), some (.inl ax), some (.inl v), none]) (st1 := []) (M1 := M) (ob := []) rfl rfl trivial (fun (h1 : ax < 0) => ?_) (fun (h1 : ¬ (ax < 0)) => ?_)
  · refine fs_r_iret (a := (-1)) (L1 := [some (.inr (.ref 0)), some (.inr (.ref 7)), some (.inl ax), some (.inl v), none]) (M1 := M) (ob := []) rfl rfl trivial (Or.inl rfl) ?_
    first
      | (exfalso; omega)
      | exact hq1 (by omega)
  refine fs_r_icmp (a := ax) (y := (fs_ln 7)) (L1 := [some (.inr (.ref 0)), some (.inr (.ref 7)), some (.inl ax), some (.inl v), none]) (st1 := []) (M1 := M) (ob := [7 < fs_N ∧ fs_kd 7 = 100]) rfl rfl (fs_oc ⟨by decide, rfl⟩ trivial) (fun (h2 : (fs_ln 7) ≤ ax) => ?_) (fun (h2 : ¬ ((fs_ln 7) ≤ ax)) => ?_)
  · refine fs_r_iret (a := (-1)) (L1 := [some (.inr (.ref 0)), some (.inr (.ref 7)), some (.inl ax), some (.inl v), none]) (M1 := M) (ob := []) rfl rfl trivial (Or.inl rfl) ?_
    first
      | (exfalso; omega)
      | exact hq1 (by omega)
  refine fs_r_icmp (a := (M 7 ax)) (y := v) (L1 := [some (.inr (.ref 0)), some (.inr (.ref 7)), some (.inl ax), some (.inl v), none]) (st1 := []) (M1 := M) (ob := [(7 < fs_N ∧ fs_kd 7 = 100) ∧ (0 : Int) ≤ ax ∧ ax < fs_ln 7]) rfl rfl (fs_oc (fs_ar7 (by omega) (by omega)) trivial) (fun (h3 : ¬ (M 7 ax) = v) => ?_) (fun (h3 : ¬ (¬ (M 7 ax) = v)) => ?_)
  · refine fs_r_call (sta := false) (idx := 99) (as := [.inr (.ref 0)]) (rest := []) (L1 := [some (.inr (.ref 0)), some (.inr (.ref 7)), some (.inl ax), some (.inl v), some (.inl (M 7 ax))]) (st1 := [.inr (.ref 0)]) (M1 := M) (ob := [(7 < fs_N ∧ fs_kd 7 = 100) ∧ (0 : Int) ≤ ax ∧ ax < fs_ln 7, 4 < 5]) rfl rfl rfl (fs_oc (fs_ar7 (by omega) (by omega)) (fs_oc (by decide) trivial)) rfl rfl (Nat.le_of_ble_eq_true rfl) ⟨Or.inr (Nat.le_of_ble_eq_true rfl), Or.inr fs_ob0⟩ (by decide) ?_
    refine fs_c_remember (N := N) (n := n) (U := U) (by assumption) (by assumption) (by assumption) (fun (V1 : fs_M) (rf : ∀ r, r ≠ 0 → (r < 40 ∨ 123 < r) → V1 r = M r) (ru : us V1 (us_n n) (us_u n U N)) => ?_)
    refine fs_r_iret (a := (M 7 ax)) (L1 := [some (.inr (.ref 0)), some (.inr (.ref 7)), some (.inl ax), some (.inl v), some (.inl (M 7 ax))]) (M1 := (fs_up V1 7 ax v)) (ob := [(7 < fs_N ∧ fs_kd 7 = 100) ∧ (0 : Int) ≤ ax ∧ ax < fs_ln 7]) rfl rfl (fs_oc (fs_ar7 (by omega) (by omega)) trivial) (Or.inl rfl) ?_
    exact hq0 V1 (by omega) rf ru
  refine fs_r_iret (a := (-1)) (L1 := [some (.inr (.ref 0)), some (.inr (.ref 7)), some (.inl ax), some (.inl v), none]) (M1 := M) (ob := []) rfl rfl trivial (Or.inl rfl) ?_
  first
    | (exfalso; omega)
    | exact hq1 (by omega)

theorem fs_c_change8 {d : Nat} {M : fs_M} {Q : Option fs_V → fs_M → Prop} {ax : Int} {v : Int} {N : Int → Int} {n : Int} {U : Int → Int → Int} (hV : vw 5 M N) (hN : fs_NI N) (hU : us M n U) (ha : 0 ≤ ax ∧ ax < 24) (hq0 : ∀ (V1 : fs_M), (¬ M 8 ax = v) → (∀ r, r ≠ 0 → (r < 40 ∨ 123 < r) → V1 r = M r) → (us V1 (us_n n) (us_u n U N)) → Q (some (.inl (M 8 ax))) (fs_up V1 8 ax v)) (hq1 : (M 8 ax = v) → Q (some (.inl (-1))) M) : fs_W (d + 4) 140 0 [some (.inr (.ref 0)), some (.inr (.ref 8)), some (.inl ax), some (.inl v), none] [] M Q := by
  have el : fs_ln 8 = 24 := rfl
  refine fs_r_if (a := ax) (L1 := [some (.inr (.ref 0)), some (.inr (.ref 8)), some (.inl ax), some (.inl v), none]) (st1 := []) (M1 := M) (ob := []) rfl rfl trivial (fun (h1 : ax < 0) => ?_) (fun (h1 : ¬ (ax < 0)) => ?_)
  · refine fs_r_iret (a := (-1)) (L1 := [some (.inr (.ref 0)), some (.inr (.ref 8)), some (.inl ax), some (.inl v), none]) (M1 := M) (ob := []) rfl rfl trivial (Or.inl rfl) ?_
    first
      | (exfalso; omega)
      | exact hq1 (by omega)
  refine fs_r_icmp (a := ax) (y := (fs_ln 8)) (L1 := [some (.inr (.ref 0)), some (.inr (.ref 8)), some (.inl ax), some (.inl v), none]) (st1 := []) (M1 := M) (ob := [8 < fs_N ∧ fs_kd 8 = 100]) rfl rfl (fs_oc ⟨by decide, rfl⟩ trivial) (fun (h2 : (fs_ln 8) ≤ ax) => ?_) (fun (h2 : ¬ ((fs_ln 8) ≤ ax)) => ?_)
  · refine fs_r_iret (a := (-1)) (L1 := [some (.inr (.ref 0)), some (.inr (.ref 8)), some (.inl ax), some (.inl v), none]) (M1 := M) (ob := []) rfl rfl trivial (Or.inl rfl) ?_
    first
      | (exfalso; omega)
      | exact hq1 (by omega)
  refine fs_r_icmp (a := (M 8 ax)) (y := v) (L1 := [some (.inr (.ref 0)), some (.inr (.ref 8)), some (.inl ax), some (.inl v), none]) (st1 := []) (M1 := M) (ob := [(8 < fs_N ∧ fs_kd 8 = 100) ∧ (0 : Int) ≤ ax ∧ ax < fs_ln 8]) rfl rfl (fs_oc (fs_ar8 (by omega) (by omega)) trivial) (fun (h3 : ¬ (M 8 ax) = v) => ?_) (fun (h3 : ¬ (¬ (M 8 ax) = v)) => ?_)
  · refine fs_r_call (sta := false) (idx := 99) (as := [.inr (.ref 0)]) (rest := []) (L1 := [some (.inr (.ref 0)), some (.inr (.ref 8)), some (.inl ax), some (.inl v), some (.inl (M 8 ax))]) (st1 := [.inr (.ref 0)]) (M1 := M) (ob := [(8 < fs_N ∧ fs_kd 8 = 100) ∧ (0 : Int) ≤ ax ∧ ax < fs_ln 8, 4 < 5]) rfl rfl rfl (fs_oc (fs_ar8 (by omega) (by omega)) (fs_oc (by decide) trivial)) rfl rfl (Nat.le_of_ble_eq_true rfl) ⟨Or.inr (Nat.le_of_ble_eq_true rfl), Or.inr fs_ob0⟩ (by decide) ?_
    refine fs_c_remember (N := N) (n := n) (U := U) (by assumption) (by assumption) (by assumption) (fun (V1 : fs_M) (rf : ∀ r, r ≠ 0 → (r < 40 ∨ 123 < r) → V1 r = M r) (ru : us V1 (us_n n) (us_u n U N)) => ?_)
    refine fs_r_iret (a := (M 8 ax)) (L1 := [some (.inr (.ref 0)), some (.inr (.ref 8)), some (.inl ax), some (.inl v), some (.inl (M 8 ax))]) (M1 := (fs_up V1 8 ax v)) (ob := [(8 < fs_N ∧ fs_kd 8 = 100) ∧ (0 : Int) ≤ ax ∧ ax < fs_ln 8]) rfl rfl (fs_oc (fs_ar8 (by omega) (by omega)) trivial) (Or.inl rfl) ?_
    exact hq0 V1 (by omega) rf ru
  refine fs_r_iret (a := (-1)) (L1 := [some (.inr (.ref 0)), some (.inr (.ref 8)), some (.inl ax), some (.inl v), none]) (M1 := M) (ob := []) rfl rfl trivial (Or.inl rfl) ?_
  first
    | (exfalso; omega)
    | exact hq1 (by omega)

theorem fs_c_change9 {d : Nat} {M : fs_M} {Q : Option fs_V → fs_M → Prop} {ax : Int} {v : Int} {N : Int → Int} {n : Int} {U : Int → Int → Int} (hV : vw 5 M N) (hN : fs_NI N) (hU : us M n U) (ha : 0 ≤ ax ∧ ax < 36) (hq0 : ∀ (V1 : fs_M), (¬ M 9 ax = v) → (∀ r, r ≠ 0 → (r < 40 ∨ 123 < r) → V1 r = M r) → (us V1 (us_n n) (us_u n U N)) → Q (some (.inl (M 9 ax))) (fs_up V1 9 ax v)) (hq1 : (M 9 ax = v) → Q (some (.inl (-1))) M) : fs_W (d + 4) 140 0 [some (.inr (.ref 0)), some (.inr (.ref 9)), some (.inl ax), some (.inl v), none] [] M Q := by
  have el : fs_ln 9 = 36 := rfl
  refine fs_r_if (a := ax) (L1 := [some (.inr (.ref 0)), some (.inr (.ref 9)), some (.inl ax), some (.inl v), none]) (st1 := []) (M1 := M) (ob := []) rfl rfl trivial (fun (h1 : ax < 0) => ?_) (fun (h1 : ¬ (ax < 0)) => ?_)
  · refine fs_r_iret (a := (-1)) (L1 := [some (.inr (.ref 0)), some (.inr (.ref 9)), some (.inl ax), some (.inl v), none]) (M1 := M) (ob := []) rfl rfl trivial (Or.inl rfl) ?_
    first
      | (exfalso; omega)
      | exact hq1 (by omega)
  refine fs_r_icmp (a := ax) (y := (fs_ln 9)) (L1 := [some (.inr (.ref 0)), some (.inr (.ref 9)), some (.inl ax), some (.inl v), none]) (st1 := []) (M1 := M) (ob := [9 < fs_N ∧ fs_kd 9 = 100]) rfl rfl (fs_oc ⟨by decide, rfl⟩ trivial) (fun (h2 : (fs_ln 9) ≤ ax) => ?_) (fun (h2 : ¬ ((fs_ln 9) ≤ ax)) => ?_)
  · refine fs_r_iret (a := (-1)) (L1 := [some (.inr (.ref 0)), some (.inr (.ref 9)), some (.inl ax), some (.inl v), none]) (M1 := M) (ob := []) rfl rfl trivial (Or.inl rfl) ?_
    first
      | (exfalso; omega)
      | exact hq1 (by omega)
  refine fs_r_icmp (a := (M 9 ax)) (y := v) (L1 := [some (.inr (.ref 0)), some (.inr (.ref 9)), some (.inl ax), some (.inl v), none]) (st1 := []) (M1 := M) (ob := [(9 < fs_N ∧ fs_kd 9 = 100) ∧ (0 : Int) ≤ ax ∧ ax < fs_ln 9]) rfl rfl (fs_oc (fs_ar9 (by omega) (by omega)) trivial) (fun (h3 : ¬ (M 9 ax) = v) => ?_) (fun (h3 : ¬ (¬ (M 9 ax) = v)) => ?_)
  · refine fs_r_call (sta := false) (idx := 99) (as := [.inr (.ref 0)]) (rest := []) (L1 := [some (.inr (.ref 0)), some (.inr (.ref 9)), some (.inl ax), some (.inl v), some (.inl (M 9 ax))]) (st1 := [.inr (.ref 0)]) (M1 := M) (ob := [(9 < fs_N ∧ fs_kd 9 = 100) ∧ (0 : Int) ≤ ax ∧ ax < fs_ln 9, 4 < 5]) rfl rfl rfl (fs_oc (fs_ar9 (by omega) (by omega)) (fs_oc (by decide) trivial)) rfl rfl (Nat.le_of_ble_eq_true rfl) ⟨Or.inr (Nat.le_of_ble_eq_true rfl), Or.inr fs_ob0⟩ (by decide) ?_
    refine fs_c_remember (N := N) (n := n) (U := U) (by assumption) (by assumption) (by assumption) (fun (V1 : fs_M) (rf : ∀ r, r ≠ 0 → (r < 40 ∨ 123 < r) → V1 r = M r) (ru : us V1 (us_n n) (us_u n U N)) => ?_)
    refine fs_r_iret (a := (M 9 ax)) (L1 := [some (.inr (.ref 0)), some (.inr (.ref 9)), some (.inl ax), some (.inl v), some (.inl (M 9 ax))]) (M1 := (fs_up V1 9 ax v)) (ob := [(9 < fs_N ∧ fs_kd 9 = 100) ∧ (0 : Int) ≤ ax ∧ ax < fs_ln 9]) rfl rfl (fs_oc (fs_ar9 (by omega) (by omega)) trivial) (Or.inl rfl) ?_
    exact hq0 V1 (by omega) rf ru
  refine fs_r_iret (a := (-1)) (L1 := [some (.inr (.ref 0)), some (.inr (.ref 9)), some (.inl ax), some (.inl v), none]) (M1 := M) (ob := []) rfl rfl trivial (Or.inl rfl) ?_
  first
    | (exfalso; omega)
    | exact hq1 (by omega)

theorem fs_c_set {d : Nat} {M : fs_M} {Q : Option fs_V → fs_M → Prop} {h : Int} {w : Int} {v : Int} {N : Int → Int} {n : Int} {U : Int → Int → Int} (hV : vw 5 M N) (hN : fs_NI N) (hU : us M n U) (hq0 : ∀ (M2 : fs_M), ((0 ≤ h ∧ h < N 1) ∧ (0 ≤ w ∧ w ≤ 4) ∧ ((w = 3 → 1 ≤ v ∧ v ≤ 99) ∧ (w = 4 → 0 ≤ v ∧ v ≤ 1) ∧ (w ≤ 2 → 0 ≤ v ∧ v ≤ 9999)) ∧ N (10 + 5 * h + w) ≠ v) → (ca M M2 (up1 N (10 + 5 * h + w) v) n U N) → Q (some (.inl (N (10 + 5 * h + w)))) M2) (hq1 : (¬ ((0 ≤ h ∧ h < N 1) ∧ (0 ≤ w ∧ w ≤ 4) ∧ ((w = 3 → 1 ≤ v ∧ v ≤ 99) ∧ (w = 4 → 0 ≤ v ∧ v ≤ 1) ∧ (w ≤ 2 → 0 ≤ v ∧ v ≤ 9999)) ∧ N (10 + 5 * h + w) ≠ v)) → Q (some (.inl (-1))) M) : fs_W (d + 5) 80 0 [some (.inr (.ref 0)), some (.inl h), some (.inl w), some (.inl v)] [] M Q := by
  obtain ⟨v0, v1, vcv, vfc, vhd, vln, vlc, vit⟩ := vw5 hV
  obtain ⟨⟨hA0, hA1⟩, ⟨hH0, hH1⟩, hcv, hfc, hhd, hln, hsh, hit, hst⟩ := id hN
  refine fs_r_call (sta := false) (idx := 117) (as := [.inr (.ref 5), .inl h]) (rest := []) (L1 := [some (.inr (.ref 0)), some (.inl h), some (.inl w), some (.inl v)]) (st1 := [.inl h, .inr (.ref 5)]) (M1 := M) (ob := [0 < fs_N ∧ fs_kd 0 = 5]) rfl rfl rfl (fs_oc fs_ob0 trivial) rfl rfl (Nat.le_of_ble_eq_true rfl) ⟨Or.inr (Nat.le_of_ble_eq_true rfl), Or.inr fs_ob5⟩ (by decide) ?_
  refine fs_c_isHouse (fun (f1 : 0 ≤ h ∧ h < M 5 1) => ?_) (fun (f2 : ¬ (0 ≤ h ∧ h < M 5 1)) => ?_)
  · refine fs_r_if (a := 1) (L1 := [some (.inr (.ref 0)), some (.inl h), some (.inl w), some (.inl v)]) (st1 := []) (M1 := M) (ob := []) rfl rfl trivial (fun h => absurd h (by decide : ¬ ((1 : Int) = 0))) (fun _ => ?_)
    refine fs_r_call (sta := true) (idx := 106) (as := [.inl w, .inl v]) (rest := []) (L1 := [some (.inr (.ref 0)), some (.inl h), some (.inl w), some (.inl v)]) (st1 := [.inl v, .inl w]) (M1 := M) (ob := []) rfl rfl rfl trivial rfl rfl (Nat.le_of_ble_eq_true rfl) ⟨Or.inr (Nat.le_of_ble_eq_true rfl), trivial⟩ (by decide) ?_
    refine fs_c_factFits (fun (f3 : (0 ≤ w ∧ w ≤ 4) ∧ ((w = 3 → 1 ≤ v ∧ v ≤ 99) ∧ (w = 4 → 0 ≤ v ∧ v ≤ 1) ∧ (w ≤ 2 → 0 ≤ v ∧ v ≤ 9999))) => ?_) (fun (f4 : ¬ ((0 ≤ w ∧ w ≤ 4) ∧ ((w = 3 → 1 ≤ v ∧ v ≤ 99) ∧ (w = 4 → 0 ≤ v ∧ v ≤ 1) ∧ (w ≤ 2 → 0 ≤ v ∧ v ≤ 9999)))) => ?_)
    · refine fs_r_if (a := 1) (L1 := [some (.inr (.ref 0)), some (.inl h), some (.inl w), some (.inl v)]) (st1 := []) (M1 := M) (ob := []) rfl rfl trivial (fun _ => ?_) (fun h => absurd (by decide : ¬ (1 : Int) = 0) h)
      have q := vfc h w (by omega) (by omega) (by omega) (by omega) (Or.inl (by omega))
      refine fs_r_call (sta := false) (idx := 124) (as := [.inr (.ref 0), .inr (.ref 7), .inl ((h * 5) + w), .inl v]) (rest := []) (L1 := [some (.inr (.ref 0)), some (.inl h), some (.inl w), some (.inl v)]) (st1 := [.inl v, .inl ((h * 5) + w), .inr (.ref 7), .inr (.ref 0)]) (M1 := M) (ob := [0 < fs_N ∧ fs_kd 0 = 5, 5 < fs_N ∧ fs_kd 5 = 0, fs_rg (h * 5), fs_rg ((h * 5) + w)]) rfl rfl (fs_exA 6 (o1 := [0 < fs_N ∧ fs_kd 0 = 5, 5 < fs_N ∧ fs_kd 5 = 0]) (L1 := [some (.inr (.ref 0)), some (.inl h), some (.inl w), some (.inl v)]) (st1 := [.inl 5, .inl h, .inr (.ref 7), .inr (.ref 0)]) (M1 := M) (o2 := [fs_rg (h * 5), fs_rg ((h * 5) + w)]) rfl rfl) (fs_oc fs_ob0 (fs_oc fs_ob5 (fs_oc ⟨by omega, by omega⟩ (fs_oc ⟨by omega, by omega⟩ trivial)))) rfl rfl (Nat.le_of_ble_eq_true rfl) ⟨Or.inr (Nat.le_of_ble_eq_true rfl), Or.inr fs_ob0⟩ (by decide) ?_
      refine fs_c_change7 (N := N) (n := n) (U := U) (by assumption) (by assumption) (by assumption) (by omega) (fun (V1 : fs_M) (cc : ¬ M 7 ((h * 5) + w) = v) (rf : ∀ r, r ≠ 0 → (r < 40 ∨ 123 < r) → V1 r = M r) (ru : us V1 (us_n n) (us_u n U N)) => ?_) (fun (cc : M 7 ((h * 5) + w) = v) => ?_)
      · refine fs_r_iret (a := (M 7 ((h * 5) + w))) (L1 := [some (.inr (.ref 0)), some (.inl h), some (.inl w), some (.inl v)]) (M1 := (fs_up V1 7 ((h * 5) + w) v)) (ob := []) rfl rfl trivial (Or.inl rfl) ?_
        first
          | exact hq1 (fun z => by omega)
          | exact fs_qi (by omega) (hq0 _ (by omega) (ca.of rf ru (vw_fact (hV.fr (fun r q1 q2 => rf r (by omega) (by omega))) hsh (by omega) (by omega)) (fun r q => fs_up_other (by omega))))
      refine fs_r_iret (a := (-1)) (L1 := [some (.inr (.ref 0)), some (.inl h), some (.inl w), some (.inl v)]) (M1 := M) (ob := []) rfl rfl trivial (Or.inl rfl) ?_
      first
        | exact hq1 (fun z => by omega)
        | exact fs_qi (by omega) (hq0 _ (by omega) (ca.of rf ru (vw_fact (hV.fr (fun r q1 q2 => rf r (by omega) (by omega))) hsh (by omega) (by omega)) (fun r q => fs_up_other (by omega))))
    refine fs_r_if (a := 0) (L1 := [some (.inr (.ref 0)), some (.inl h), some (.inl w), some (.inl v)]) (st1 := []) (M1 := M) (ob := []) rfl rfl trivial (fun h => absurd h (by decide : ¬ (¬ (0 : Int) = 0))) (fun _ => ?_)
    refine fs_r_iret (a := (-1)) (L1 := [some (.inr (.ref 0)), some (.inl h), some (.inl w), some (.inl v)]) (M1 := M) (ob := []) rfl rfl trivial (Or.inl rfl) ?_
    exact hq1 (fun z => by omega)
  refine fs_r_if (a := 0) (L1 := [some (.inr (.ref 0)), some (.inl h), some (.inl w), some (.inl v)]) (st1 := []) (M1 := M) (ob := []) rfl rfl trivial (fun _ => ?_) (fun h => absurd (by decide : (0 : Int) = 0) h)
  refine fs_r_iret (a := (-1)) (L1 := [some (.inr (.ref 0)), some (.inl h), some (.inl w), some (.inl v)]) (M1 := M) (ob := []) rfl rfl trivial (Or.inl rfl) ?_
  exact hq1 (fun z => by omega)

theorem fs_c_hold {d : Nat} {M : fs_M} {Q : Option fs_V → fs_M → Prop} {h : Int} {a : Int} {v : Int} {N : Int → Int} {n : Int} {U : Int → Int → Int} (hV : vw 5 M N) (hN : fs_NI N) (hU : us M n U) (hq0 : ∀ (M2 : fs_M), ((0 ≤ h ∧ h < N 1) ∧ (0 ≤ a ∧ a < N 0) ∧ (0 ≤ v ∧ v ≤ 60) ∧ N (40 + 4 * h + a) ≠ v) → (ca M M2 (up1 N (40 + 4 * h + a) v) n U N) → Q (some (.inl (N (40 + 4 * h + a)))) M2) (hq1 : (¬ ((0 ≤ h ∧ h < N 1) ∧ (0 ≤ a ∧ a < N 0) ∧ (0 ≤ v ∧ v ≤ 60) ∧ N (40 + 4 * h + a) ≠ v)) → Q (some (.inl (-1))) M) : fs_W (d + 5) 81 0 [some (.inr (.ref 0)), some (.inl h), some (.inl a), some (.inl v)] [] M Q := by
  obtain ⟨v0, v1, vcv, vfc, vhd, vln, vlc, vit⟩ := vw5 hV
  obtain ⟨⟨hA0, hA1⟩, ⟨hH0, hH1⟩, hcv, hfc, hhd, hln, hsh, hit, hst⟩ := id hN
  refine fs_r_call (sta := false) (idx := 117) (as := [.inr (.ref 5), .inl h]) (rest := []) (L1 := [some (.inr (.ref 0)), some (.inl h), some (.inl a), some (.inl v)]) (st1 := [.inl h, .inr (.ref 5)]) (M1 := M) (ob := [0 < fs_N ∧ fs_kd 0 = 5]) rfl rfl rfl (fs_oc fs_ob0 trivial) rfl rfl (Nat.le_of_ble_eq_true rfl) ⟨Or.inr (Nat.le_of_ble_eq_true rfl), Or.inr fs_ob5⟩ (by decide) ?_
  refine fs_c_isHouse (fun (f1 : 0 ≤ h ∧ h < M 5 1) => ?_) (fun (f2 : ¬ (0 ≤ h ∧ h < M 5 1)) => ?_)
  · refine fs_r_if (a := 1) (L1 := [some (.inr (.ref 0)), some (.inl h), some (.inl a), some (.inl v)]) (st1 := []) (M1 := M) (ob := []) rfl rfl trivial (fun h => absurd h (by decide : ¬ ((1 : Int) = 0))) (fun _ => ?_)
    refine fs_r_call (sta := false) (idx := 128) (as := [.inr (.ref 5), .inl a]) (rest := []) (L1 := [some (.inr (.ref 0)), some (.inl h), some (.inl a), some (.inl v)]) (st1 := [.inl a, .inr (.ref 5)]) (M1 := M) (ob := [0 < fs_N ∧ fs_kd 0 = 5]) rfl rfl rfl (fs_oc fs_ob0 trivial) rfl rfl (Nat.le_of_ble_eq_true rfl) ⟨Or.inr (Nat.le_of_ble_eq_true rfl), Or.inr fs_ob5⟩ (by decide) ?_
    refine fs_c_isAsset (fun (f3 : 0 ≤ a ∧ a < M 5 0) => ?_) (fun (f4 : ¬ (0 ≤ a ∧ a < M 5 0)) => ?_)
    · refine fs_r_if (a := 1) (L1 := [some (.inr (.ref 0)), some (.inl h), some (.inl a), some (.inl v)]) (st1 := []) (M1 := M) (ob := []) rfl rfl trivial (fun h => absurd h (by decide : ¬ ((1 : Int) = 0))) (fun _ => ?_)
      refine fs_r_call (sta := true) (idx := 131) (as := [.inl v, .inl 0, .inl 60]) (rest := []) (L1 := [some (.inr (.ref 0)), some (.inl h), some (.inl a), some (.inl v)]) (st1 := [.inl 60, .inl 0, .inl v]) (M1 := M) (ob := []) rfl rfl rfl trivial rfl rfl (Nat.le_of_ble_eq_true rfl) ⟨Or.inr (Nat.le_of_ble_eq_true rfl), trivial⟩ (by decide) ?_
      refine fs_c_isWithin (fun (f5 : 0 ≤ v ∧ v ≤ 60) => ?_) (fun (f6 : ¬ (0 ≤ v ∧ v ≤ 60)) => ?_)
      · refine fs_r_if (a := 1) (L1 := [some (.inr (.ref 0)), some (.inl h), some (.inl a), some (.inl v)]) (st1 := []) (M1 := M) (ob := []) rfl rfl trivial (fun _ => ?_) (fun h => absurd (by decide : ¬ (1 : Int) = 0) h)
        have q := vhd h a (by omega) (by omega) (by omega) (by omega)
        refine fs_r_call (sta := false) (idx := 124) (as := [.inr (.ref 0), .inr (.ref 8), .inl ((h * 4) + a), .inl v]) (rest := []) (L1 := [some (.inr (.ref 0)), some (.inl h), some (.inl a), some (.inl v)]) (st1 := [.inl v, .inl ((h * 4) + a), .inr (.ref 8), .inr (.ref 0)]) (M1 := M) (ob := [0 < fs_N ∧ fs_kd 0 = 5, 5 < fs_N ∧ fs_kd 5 = 0, fs_rg (h * 4), fs_rg ((h * 4) + a)]) rfl rfl (fs_exA 6 (o1 := [0 < fs_N ∧ fs_kd 0 = 5, 5 < fs_N ∧ fs_kd 5 = 0]) (L1 := [some (.inr (.ref 0)), some (.inl h), some (.inl a), some (.inl v)]) (st1 := [.inl 4, .inl h, .inr (.ref 8), .inr (.ref 0)]) (M1 := M) (o2 := [fs_rg (h * 4), fs_rg ((h * 4) + a)]) rfl rfl) (fs_oc fs_ob0 (fs_oc fs_ob5 (fs_oc ⟨by omega, by omega⟩ (fs_oc ⟨by omega, by omega⟩ trivial)))) rfl rfl (Nat.le_of_ble_eq_true rfl) ⟨Or.inr (Nat.le_of_ble_eq_true rfl), Or.inr fs_ob0⟩ (by decide) ?_
        refine fs_c_change8 (N := N) (n := n) (U := U) (by assumption) (by assumption) (by assumption) (by omega) (fun (V1 : fs_M) (cc : ¬ M 8 ((h * 4) + a) = v) (rf : ∀ r, r ≠ 0 → (r < 40 ∨ 123 < r) → V1 r = M r) (ru : us V1 (us_n n) (us_u n U N)) => ?_) (fun (cc : M 8 ((h * 4) + a) = v) => ?_)
        · refine fs_r_iret (a := (M 8 ((h * 4) + a))) (L1 := [some (.inr (.ref 0)), some (.inl h), some (.inl a), some (.inl v)]) (M1 := (fs_up V1 8 ((h * 4) + a) v)) (ob := []) rfl rfl trivial (Or.inl rfl) ?_
          first
            | exact hq1 (fun z => by omega)
            | exact fs_qi (by omega) (hq0 _ (by omega) (ca.of rf ru (vw_hold (hV.fr (fun r q1 q2 => rf r (by omega) (by omega))) hsh (by omega) (by omega)) (fun r q => fs_up_other (by omega))))
        refine fs_r_iret (a := (-1)) (L1 := [some (.inr (.ref 0)), some (.inl h), some (.inl a), some (.inl v)]) (M1 := M) (ob := []) rfl rfl trivial (Or.inl rfl) ?_
        first
          | exact hq1 (fun z => by omega)
          | exact fs_qi (by omega) (hq0 _ (by omega) (ca.of rf ru (vw_hold (hV.fr (fun r q1 q2 => rf r (by omega) (by omega))) hsh (by omega) (by omega)) (fun r q => fs_up_other (by omega))))
      refine fs_r_if (a := 0) (L1 := [some (.inr (.ref 0)), some (.inl h), some (.inl a), some (.inl v)]) (st1 := []) (M1 := M) (ob := []) rfl rfl trivial (fun h => absurd h (by decide : ¬ (¬ (0 : Int) = 0))) (fun _ => ?_)
      refine fs_r_iret (a := (-1)) (L1 := [some (.inr (.ref 0)), some (.inl h), some (.inl a), some (.inl v)]) (M1 := M) (ob := []) rfl rfl trivial (Or.inl rfl) ?_
      exact hq1 (fun z => by omega)
    refine fs_r_if (a := 0) (L1 := [some (.inr (.ref 0)), some (.inl h), some (.inl a), some (.inl v)]) (st1 := []) (M1 := M) (ob := []) rfl rfl trivial (fun _ => ?_) (fun h => absurd (by decide : (0 : Int) = 0) h)
    refine fs_r_iret (a := (-1)) (L1 := [some (.inr (.ref 0)), some (.inl h), some (.inl a), some (.inl v)]) (M1 := M) (ob := []) rfl rfl trivial (Or.inl rfl) ?_
    exact hq1 (fun z => by omega)
  refine fs_r_if (a := 0) (L1 := [some (.inr (.ref 0)), some (.inl h), some (.inl a), some (.inl v)]) (st1 := []) (M1 := M) (ob := []) rfl rfl trivial (fun _ => ?_) (fun h => absurd (by decide : (0 : Int) = 0) h)
  refine fs_r_iret (a := (-1)) (L1 := [some (.inr (.ref 0)), some (.inl h), some (.inl a), some (.inl v)]) (M1 := M) (ob := []) rfl rfl trivial (Or.inl rfl) ?_
  exact hq1 (fun z => by omega)

theorem fs_c_loan {d : Nat} {M : fs_M} {Q : Option fs_V → fs_M → Prop} {h : Int} {o : Int} {v : Int} {N : Int → Int} {n : Int} {U : Int → Int → Int} (hV : vw 5 M N) (hN : fs_NI N) (hU : us M n U) (hq0 : ∀ (M2 : fs_M), ((0 ≤ h ∧ h < N 1) ∧ (0 ≤ o ∧ o < N 1) ∧ h ≠ o ∧ (0 ≤ v ∧ v ≤ 999) ∧ N (64 + 6 * h + o) ≠ v) → (ca M M2 (up1 N (64 + 6 * h + o) v) n U N) → Q (some (.inl (N (64 + 6 * h + o)))) M2) (hq1 : (¬ ((0 ≤ h ∧ h < N 1) ∧ (0 ≤ o ∧ o < N 1) ∧ h ≠ o ∧ (0 ≤ v ∧ v ≤ 999) ∧ N (64 + 6 * h + o) ≠ v)) → Q (some (.inl (-1))) M) : fs_W (d + 5) 82 0 [some (.inr (.ref 0)), some (.inl h), some (.inl o), some (.inl v)] [] M Q := by
  obtain ⟨v0, v1, vcv, vfc, vhd, vln, vlc, vit⟩ := vw5 hV
  obtain ⟨⟨hA0, hA1⟩, ⟨hH0, hH1⟩, hcv, hfc, hhd, hln, hsh, hit, hst⟩ := id hN
  refine fs_r_call (sta := false) (idx := 138) (as := [.inr (.ref 5), .inl h, .inl o]) (rest := []) (L1 := [some (.inr (.ref 0)), some (.inl h), some (.inl o), some (.inl v)]) (st1 := [.inl o, .inl h, .inr (.ref 5)]) (M1 := M) (ob := [0 < fs_N ∧ fs_kd 0 = 5]) rfl rfl rfl (fs_oc fs_ob0 trivial) rfl rfl (Nat.le_of_ble_eq_true rfl) ⟨Or.inr (Nat.le_of_ble_eq_true rfl), Or.inr fs_ob5⟩ (by decide) ?_
  refine fs_c_areTwoHouses (fun (f1 : (0 ≤ h ∧ h < M 5 1) ∧ (0 ≤ o ∧ o < M 5 1) ∧ h ≠ o) => ?_) (fun (f2 : ¬ ((0 ≤ h ∧ h < M 5 1) ∧ (0 ≤ o ∧ o < M 5 1) ∧ h ≠ o)) => ?_)
  · refine fs_r_if (a := 1) (L1 := [some (.inr (.ref 0)), some (.inl h), some (.inl o), some (.inl v)]) (st1 := []) (M1 := M) (ob := []) rfl rfl trivial (fun h => absurd h (by decide : ¬ ((1 : Int) = 0))) (fun _ => ?_)
    refine fs_r_call (sta := true) (idx := 131) (as := [.inl v, .inl 0, .inl 999]) (rest := []) (L1 := [some (.inr (.ref 0)), some (.inl h), some (.inl o), some (.inl v)]) (st1 := [.inl 999, .inl 0, .inl v]) (M1 := M) (ob := []) rfl rfl rfl trivial rfl rfl (Nat.le_of_ble_eq_true rfl) ⟨Or.inr (Nat.le_of_ble_eq_true rfl), trivial⟩ (by decide) ?_
    refine fs_c_isWithin (fun (f3 : 0 ≤ v ∧ v ≤ 999) => ?_) (fun (f4 : ¬ (0 ≤ v ∧ v ≤ 999)) => ?_)
    · refine fs_r_if (a := 1) (L1 := [some (.inr (.ref 0)), some (.inl h), some (.inl o), some (.inl v)]) (st1 := []) (M1 := M) (ob := []) rfl rfl trivial (fun _ => ?_) (fun h => absurd (by decide : ¬ (1 : Int) = 0) h)
      have q := vln h o (by omega) (by omega) (by omega) (by omega)
      refine fs_r_call (sta := false) (idx := 124) (as := [.inr (.ref 0), .inr (.ref 9), .inl ((h * 6) + o), .inl v]) (rest := []) (L1 := [some (.inr (.ref 0)), some (.inl h), some (.inl o), some (.inl v)]) (st1 := [.inl v, .inl ((h * 6) + o), .inr (.ref 9), .inr (.ref 0)]) (M1 := M) (ob := [0 < fs_N ∧ fs_kd 0 = 5, 5 < fs_N ∧ fs_kd 5 = 0, fs_rg (h * 6), fs_rg ((h * 6) + o)]) rfl rfl (fs_exA 6 (o1 := [0 < fs_N ∧ fs_kd 0 = 5, 5 < fs_N ∧ fs_kd 5 = 0]) (L1 := [some (.inr (.ref 0)), some (.inl h), some (.inl o), some (.inl v)]) (st1 := [.inl 6, .inl h, .inr (.ref 9), .inr (.ref 0)]) (M1 := M) (o2 := [fs_rg (h * 6), fs_rg ((h * 6) + o)]) rfl rfl) (fs_oc fs_ob0 (fs_oc fs_ob5 (fs_oc ⟨by omega, by omega⟩ (fs_oc ⟨by omega, by omega⟩ trivial)))) rfl rfl (Nat.le_of_ble_eq_true rfl) ⟨Or.inr (Nat.le_of_ble_eq_true rfl), Or.inr fs_ob0⟩ (by decide) ?_
      refine fs_c_change9 (N := N) (n := n) (U := U) (by assumption) (by assumption) (by assumption) (by omega) (fun (V1 : fs_M) (cc : ¬ M 9 ((h * 6) + o) = v) (rf : ∀ r, r ≠ 0 → (r < 40 ∨ 123 < r) → V1 r = M r) (ru : us V1 (us_n n) (us_u n U N)) => ?_) (fun (cc : M 9 ((h * 6) + o) = v) => ?_)
      · refine fs_r_iret (a := (M 9 ((h * 6) + o))) (L1 := [some (.inr (.ref 0)), some (.inl h), some (.inl o), some (.inl v)]) (M1 := (fs_up V1 9 ((h * 6) + o) v)) (ob := []) rfl rfl trivial (Or.inl rfl) ?_
        first
          | exact hq1 (fun z => by omega)
          | exact fs_qi (by omega) (hq0 _ (by omega) (ca.of rf ru (vw_loan (hV.fr (fun r q1 q2 => rf r (by omega) (by omega))) hsh (by omega) (by omega)) (fun r q => fs_up_other (by omega))))
      refine fs_r_iret (a := (-1)) (L1 := [some (.inr (.ref 0)), some (.inl h), some (.inl o), some (.inl v)]) (M1 := M) (ob := []) rfl rfl trivial (Or.inl rfl) ?_
      first
        | exact hq1 (fun z => by omega)
        | exact fs_qi (by omega) (hq0 _ (by omega) (ca.of rf ru (vw_loan (hV.fr (fun r q1 q2 => rf r (by omega) (by omega))) hsh (by omega) (by omega)) (fun r q => fs_up_other (by omega))))
    refine fs_r_if (a := 0) (L1 := [some (.inr (.ref 0)), some (.inl h), some (.inl o), some (.inl v)]) (st1 := []) (M1 := M) (ob := []) rfl rfl trivial (fun h => absurd h (by decide : ¬ (¬ (0 : Int) = 0))) (fun _ => ?_)
    refine fs_r_iret (a := (-1)) (L1 := [some (.inr (.ref 0)), some (.inl h), some (.inl o), some (.inl v)]) (M1 := M) (ob := []) rfl rfl trivial (Or.inl rfl) ?_
    exact hq1 (fun z => by omega)
  refine fs_r_if (a := 0) (L1 := [some (.inr (.ref 0)), some (.inl h), some (.inl o), some (.inl v)]) (st1 := []) (M1 := M) (ob := []) rfl rfl trivial (fun _ => ?_) (fun h => absurd (by decide : (0 : Int) = 0) h)
  refine fs_r_iret (a := (-1)) (L1 := [some (.inr (.ref 0)), some (.inl h), some (.inl o), some (.inl v)]) (M1 := M) (ob := []) rfl rfl trivial (Or.inl rfl) ?_
  exact hq1 (fun z => by omega)

theorem fs_c_curve {d : Nat} {M : fs_M} {Q : Option fs_V → fs_M → Prop} {a : Int} {w : Int} {v : Int} {N : Int → Int} {n : Int} {U : Int → Int → Int} (hV : vw 5 M N) (hN : fs_NI N) (hU : us M n U) (hq0 : ∀ (M2 : fs_M), ((0 ≤ a ∧ a < N 0) ∧ (0 ≤ w ∧ w ≤ 1) ∧ ((w = 0 → 1 ≤ v ∧ v ≤ 200) ∧ (w = 1 → 0 ≤ v ∧ v ≤ 9)) ∧ N ((if w = 0 then 2 else 6) + a) ≠ v) → (ca M M2 (up1 N ((if w = 0 then 2 else 6) + a) v) n U N) → Q (some (.inl (N ((if w = 0 then 2 else 6) + a)))) M2) (hq1 : (¬ ((0 ≤ a ∧ a < N 0) ∧ (0 ≤ w ∧ w ≤ 1) ∧ ((w = 0 → 1 ≤ v ∧ v ≤ 200) ∧ (w = 1 → 0 ≤ v ∧ v ≤ 9)) ∧ N ((if w = 0 then 2 else 6) + a) ≠ v)) → Q (some (.inl (-1))) M) : fs_W (d + 5) 83 0 [some (.inr (.ref 0)), some (.inl a), some (.inl w), some (.inl v)] [] M Q := by
  obtain ⟨v0, v1, vcv, vfc, vhd, vln, vlc, vit⟩ := vw5 hV
  obtain ⟨⟨hA0, hA1⟩, ⟨hH0, hH1⟩, hcv, hfc, hhd, hln, hsh, hit, hst⟩ := id hN
  refine fs_r_call (sta := false) (idx := 128) (as := [.inr (.ref 5), .inl a]) (rest := []) (L1 := [some (.inr (.ref 0)), some (.inl a), some (.inl w), some (.inl v)]) (st1 := [.inl a, .inr (.ref 5)]) (M1 := M) (ob := [0 < fs_N ∧ fs_kd 0 = 5]) rfl rfl rfl (fs_oc fs_ob0 trivial) rfl rfl (Nat.le_of_ble_eq_true rfl) ⟨Or.inr (Nat.le_of_ble_eq_true rfl), Or.inr fs_ob5⟩ (by decide) ?_
  refine fs_c_isAsset (fun (f1 : 0 ≤ a ∧ a < M 5 0) => ?_) (fun (f2 : ¬ (0 ≤ a ∧ a < M 5 0)) => ?_)
  · refine fs_r_if (a := 1) (L1 := [some (.inr (.ref 0)), some (.inl a), some (.inl w), some (.inl v)]) (st1 := []) (M1 := M) (ob := []) rfl rfl trivial (fun h => absurd h (by decide : ¬ ((1 : Int) = 0))) (fun _ => ?_)
    refine fs_r_call (sta := true) (idx := 95) (as := [.inl w, .inl v]) (rest := []) (L1 := [some (.inr (.ref 0)), some (.inl a), some (.inl w), some (.inl v)]) (st1 := [.inl v, .inl w]) (M1 := M) (ob := []) rfl rfl rfl trivial rfl rfl (Nat.le_of_ble_eq_true rfl) ⟨Or.inr (Nat.le_of_ble_eq_true rfl), trivial⟩ (by decide) ?_
    refine fs_c_curveFits (fun (f3 : (w = 0 ∧ 1 ≤ v ∧ v ≤ 200) ∨ (w = 1 ∧ 0 ≤ v ∧ v ≤ 9)) => ?_) (fun (f4 : ¬ ((w = 0 ∧ 1 ≤ v ∧ v ≤ 200) ∨ (w = 1 ∧ 0 ≤ v ∧ v ≤ 9))) => ?_)
    · refine fs_r_if (a := 1) (L1 := [some (.inr (.ref 0)), some (.inl a), some (.inl w), some (.inl v)]) (st1 := []) (M1 := M) (ob := []) rfl rfl trivial (fun _ => ?_) (fun h => absurd (by decide : ¬ (1 : Int) = 0) h)
      have q := vcv a (by omega) (by omega)
      refine fs_r_call (sta := false) (idx := 124) (as := [.inr (.ref 0), .inr (.ref 6), .inl ((a * 2) + w), .inl v]) (rest := []) (L1 := [some (.inr (.ref 0)), some (.inl a), some (.inl w), some (.inl v)]) (st1 := [.inl v, .inl ((a * 2) + w), .inr (.ref 6), .inr (.ref 0)]) (M1 := M) (ob := [0 < fs_N ∧ fs_kd 0 = 5, 5 < fs_N ∧ fs_kd 5 = 0, fs_rg (a * 2), fs_rg ((a * 2) + w)]) rfl rfl (fs_exA 6 (o1 := [0 < fs_N ∧ fs_kd 0 = 5, 5 < fs_N ∧ fs_kd 5 = 0]) (L1 := [some (.inr (.ref 0)), some (.inl a), some (.inl w), some (.inl v)]) (st1 := [.inl 2, .inl a, .inr (.ref 6), .inr (.ref 0)]) (M1 := M) (o2 := [fs_rg (a * 2), fs_rg ((a * 2) + w)]) rfl rfl) (fs_oc fs_ob0 (fs_oc fs_ob5 (fs_oc ⟨by omega, by omega⟩ (fs_oc ⟨by omega, by omega⟩ trivial)))) rfl rfl (Nat.le_of_ble_eq_true rfl) ⟨Or.inr (Nat.le_of_ble_eq_true rfl), Or.inr fs_ob0⟩ (by decide) ?_
      refine fs_c_change6 (N := N) (n := n) (U := U) (by assumption) (by assumption) (by assumption) (by omega) (fun (V1 : fs_M) (cc : ¬ M 6 ((a * 2) + w) = v) (rf : ∀ r, r ≠ 0 → (r < 40 ∨ 123 < r) → V1 r = M r) (ru : us V1 (us_n n) (us_u n U N)) => ?_) (fun (cc : M 6 ((a * 2) + w) = v) => ?_)
      · refine fs_r_iret (a := (M 6 ((a * 2) + w))) (L1 := [some (.inr (.ref 0)), some (.inl a), some (.inl w), some (.inl v)]) (M1 := (fs_up V1 6 ((a * 2) + w) v)) (ob := []) rfl rfl trivial (Or.inl rfl) ?_
        rcases (show w = 0 ∨ w = 1 by omega) with z | z <;> subst z
        · first
            | exact hq1 (fun z => by have e : (if (0 : Int) = 0 then (2 : Int) else 6) = 2 := rfl; rw [e] at z; omega)
            | (have e : (if (0 : Int) = 0 then (2 : Int) else 6) = 2 := rfl
               rw [e] at hq0
               exact fs_qi q.1 (hq0 _ (by omega) (ca.of rf ru (vw_base (hV.fr (fun r q1 q2 => rf r (by omega) (by omega))) hsh (by omega)) (fun r q => fs_up_other (by omega)))))
        · first
            | exact hq1 (fun z => by have e : (if (1 : Int) = 0 then (2 : Int) else 6) = 6 := rfl; rw [e] at z; omega)
            | (have e : (if (1 : Int) = 0 then (2 : Int) else 6) = 6 := rfl
               rw [e] at hq0
               exact fs_qi q.2 (hq0 _ (by omega) (ca.of rf ru (vw_slope (hV.fr (fun r q1 q2 => rf r (by omega) (by omega))) hsh (by omega)) (fun r q => fs_up_other (by omega)))))
      refine fs_r_iret (a := (-1)) (L1 := [some (.inr (.ref 0)), some (.inl a), some (.inl w), some (.inl v)]) (M1 := M) (ob := []) rfl rfl trivial (Or.inl rfl) ?_
      rcases (show w = 0 ∨ w = 1 by omega) with z | z <;> subst z
      · first
          | exact hq1 (fun z => by have e : (if (0 : Int) = 0 then (2 : Int) else 6) = 2 := rfl; rw [e] at z; omega)
          | (have e : (if (0 : Int) = 0 then (2 : Int) else 6) = 2 := rfl
             rw [e] at hq0
             exact fs_qi q.1 (hq0 _ (by omega) (ca.of rf ru (vw_base (hV.fr (fun r q1 q2 => rf r (by omega) (by omega))) hsh (by omega)) (fun r q => fs_up_other (by omega)))))
      · first
          | exact hq1 (fun z => by have e : (if (1 : Int) = 0 then (2 : Int) else 6) = 6 := rfl; rw [e] at z; omega)
          | (have e : (if (1 : Int) = 0 then (2 : Int) else 6) = 6 := rfl
             rw [e] at hq0
             exact fs_qi q.2 (hq0 _ (by omega) (ca.of rf ru (vw_slope (hV.fr (fun r q1 q2 => rf r (by omega) (by omega))) hsh (by omega)) (fun r q => fs_up_other (by omega)))))
    refine fs_r_if (a := 0) (L1 := [some (.inr (.ref 0)), some (.inl a), some (.inl w), some (.inl v)]) (st1 := []) (M1 := M) (ob := []) rfl rfl trivial (fun h => absurd h (by decide : ¬ (¬ (0 : Int) = 0))) (fun _ => ?_)
    refine fs_r_iret (a := (-1)) (L1 := [some (.inr (.ref 0)), some (.inl a), some (.inl w), some (.inl v)]) (M1 := M) (ob := []) rfl rfl trivial (Or.inl rfl) ?_
    exact hq1 (fun z => by omega)
  refine fs_r_if (a := 0) (L1 := [some (.inr (.ref 0)), some (.inl a), some (.inl w), some (.inl v)]) (st1 := []) (M1 := M) (ob := []) rfl rfl trivial (fun _ => ?_) (fun h => absurd (by decide : (0 : Int) = 0) h)
  refine fs_r_iret (a := (-1)) (L1 := [some (.inr (.ref 0)), some (.inl a), some (.inl w), some (.inl v)]) (M1 := M) (ob := []) rfl rfl trivial (Or.inl rfl) ?_
  exact hq1 (fun z => by omega)
