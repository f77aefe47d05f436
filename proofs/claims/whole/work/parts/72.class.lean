theorem fs_c_takeAway {d : Nat} {M : fs_M} {Q : Option fs_V → fs_M → Prop} {s : Int} {p : Int}  (hs : 0 ≤ s ∧ s < 3) (hp : 0 ≤ p ∧ p < M 10 s ∧ M 10 s ≤ 4) (hq0 : ∀ (M2 : fs_M), (∀ r, r ≠ 10 → r ≠ 11 → M2 r = M r) → (∀ t, M2 10 t = if t = s then M 10 s - 1 else M 10 t) → (∀ q, M2 11 q = if (s * 4 + p) * 3 ≤ q ∧ q < (s * 4 + (M 10 s - 1)) * 3 then M 11 (q + 3) else M 11 q) → Q (some (.inl ((M 10 s) - 1))) M2) : fs_W (d) 28 0 [some (.inr (.ref 5)), some (.inl s), some (.inl p), none, none, none] [] M Q := by
  refine fs_r_nop (L1 := [some (.inr (.ref 5)), some (.inl s), some (.inl p), some (.inl ((M 10 s) - 1)), some (.inl (((s * 4) + ((M 10 s) - 1)) * 3)), some (.inl (((s * 4) + p) * 3))]) (st1 := []) (M1 := M) (ob := [5 < fs_N ∧ fs_kd 5 = 0, (10 < fs_N ∧ fs_kd 10 = 100) ∧ (0 : Int) ≤ s ∧ s < fs_ln 10, fs_rg ((M 10 s) - 1), 3 < 6, fs_rg (s * 4), fs_rg ((s * 4) + ((M 10 s) - 1)), fs_rg (((s * 4) + ((M 10 s) - 1)) * 3), 4 < 6, fs_rg (s * 4), fs_rg ((s * 4) + p), fs_rg (((s * 4) + p) * 3), 5 < 6]) rfl (fs_exA 6 (o1 := [5 < fs_N ∧ fs_kd 5 = 0, (10 < fs_N ∧ fs_kd 10 = 100) ∧ (0 : Int) ≤ s ∧ s < fs_ln 10, fs_rg ((M 10 s) - 1)]) (L1 := [some (.inr (.ref 5)), some (.inl s), some (.inl p), none, none, none]) (st1 := [.inl ((M 10 s) - 1)]) (M1 := M) (o2 := [3 < 6, fs_rg (s * 4), fs_rg ((s * 4) + ((M 10 s) - 1)), fs_rg (((s * 4) + ((M 10 s) - 1)) * 3), 4 < 6, fs_rg (s * 4), fs_rg ((s * 4) + p), fs_rg (((s * 4) + p) * 3), 5 < 6]) rfl (fs_exA 6 (o1 := [3 < 6, fs_rg (s * 4), fs_rg ((s * 4) + ((M 10 s) - 1))]) (L1 := [some (.inr (.ref 5)), some (.inl s), some (.inl p), some (.inl ((M 10 s) - 1)), none, none]) (st1 := [.inl ((s * 4) + ((M 10 s) - 1))]) (M1 := M) (o2 := [fs_rg (((s * 4) + ((M 10 s) - 1)) * 3), 4 < 6, fs_rg (s * 4), fs_rg ((s * 4) + p), fs_rg (((s * 4) + p) * 3), 5 < 6]) rfl (fs_exA 6 (o1 := [fs_rg (((s * 4) + ((M 10 s) - 1)) * 3), 4 < 6, fs_rg (s * 4)]) (L1 := [some (.inr (.ref 5)), some (.inl s), some (.inl p), some (.inl ((M 10 s) - 1)), some (.inl (((s * 4) + ((M 10 s) - 1)) * 3)), none]) (st1 := [.inl (s * 4)]) (M1 := M) (o2 := [fs_rg ((s * 4) + p), fs_rg (((s * 4) + p) * 3), 5 < 6]) rfl rfl))) (fs_oc fs_ob5 (fs_oc (fs_ar10 (by omega) (by omega)) (fs_oc ⟨by omega, by omega⟩ (fs_oc (by decide) (fs_oc ⟨by omega, by omega⟩ (fs_oc ⟨by omega, by omega⟩ (fs_oc ⟨by omega, by omega⟩ (fs_oc (by decide) (fs_oc ⟨by omega, by omega⟩ (fs_oc ⟨by omega, by omega⟩ (fs_oc ⟨by omega, by omega⟩ (fs_oc (by decide) trivial)))))))))))) ?_
  have loop27 : ∀ (n27 : Nat) (x : Int) (M3 : fs_M), ((s * 4 + p) * 3 ≤ x ∧ x ≤ (s * 4 + (M 10 s - 1)) * 3) → (∀ r, r ≠ 11 → M3 r = M r) → (∀ q, M3 11 q = if (s * 4 + p) * 3 ≤ q ∧ q < x then M 11 (q + 3) else M 11 q) → (s * 4 + (M 10 s - 1)) * 3 - x < (n27 : Int) → fs_W (d) 28 27 [some (.inr (.ref 5)), some (.inl s), some (.inl p), some (.inl ((M 10 s) - 1)), some (.inl (((s * 4) + ((M 10 s) - 1)) * 3)), some (.inl x)] [] M3 Q := by
    intro n27
    induction n27 with
    | zero =>
      intro x M3 i0 f3 n3 hm27
      exfalso
      omega
    | succ n27 ih27 =>
      intro x M3 i0 f3 n3 hm27
      refine fs_r_icmp (a := x) (y := (((s * 4) + ((M 10 s) - 1)) * 3)) (L1 := [some (.inr (.ref 5)), some (.inl s), some (.inl p), some (.inl ((M 10 s) - 1)), some (.inl (((s * 4) + ((M 10 s) - 1)) * 3)), some (.inl x)]) (st1 := []) (M1 := M3) (ob := []) rfl rfl trivial (fun (h1 : (((s * 4) + ((M 10 s) - 1)) * 3) ≤ x) => ?_) (fun (h1 : ¬ ((((s * 4) + ((M 10 s) - 1)) * 3) ≤ x)) => ?_)
      · refine fs_r_iret (a := ((M 10 s) - 1)) (L1 := [some (.inr (.ref 5)), some (.inl s), some (.inl p), some (.inl ((M 10 s) - 1)), some (.inl (((s * 4) + ((M 10 s) - 1)) * 3)), some (.inl x)]) (M1 := (fs_up M3 10 s ((M 10 s) - 1))) (ob := [5 < fs_N ∧ fs_kd 5 = 0, (10 < fs_N ∧ fs_kd 10 = 100) ∧ (0 : Int) ≤ s ∧ s < fs_ln 10]) rfl rfl (fs_oc fs_ob5 (fs_oc (fs_ar10 (by omega) (by omega)) trivial)) (Or.inl rfl) ?_
        refine hq0 _ (fun r q1 q2 => by rw [fs_up_other q1]; exact f3 r q2) (fun t => by rw [fs_up_at, f3 10 (by decide)]) (fun q => ?_)
        rw [fs_up_other (by decide), n3 q]
        by_cases w : (s * 4 + p) * 3 ≤ q ∧ q < x
        · rw [if_pos w, if_pos (by omega)]
        · rw [if_neg w, if_neg (by omega)]
      refine fs_r_goto (L1 := [some (.inr (.ref 5)), some (.inl s), some (.inl p), some (.inl ((M 10 s) - 1)), some (.inl (((s * 4) + ((M 10 s) - 1)) * 3)), some (.inl (x + 1))]) (st1 := []) (M1 := (fs_up M3 11 x (M3 11 (x + 3)))) (ob := [5 < fs_N ∧ fs_kd 5 = 0, 5 < fs_N ∧ fs_kd 5 = 0, fs_rg (x + 3), (11 < fs_N ∧ fs_kd 11 = 100) ∧ (0 : Int) ≤ (x + 3) ∧ (x + 3) < fs_ln 11, (11 < fs_N ∧ fs_kd 11 = 100) ∧ (0 : Int) ≤ x ∧ x < fs_ln 11, fs_rg (x + 1)]) rfl (fs_exA 6 (o1 := [5 < fs_N ∧ fs_kd 5 = 0, 5 < fs_N ∧ fs_kd 5 = 0]) (L1 := [some (.inr (.ref 5)), some (.inl s), some (.inl p), some (.inl ((M 10 s) - 1)), some (.inl (((s * 4) + ((M 10 s) - 1)) * 3)), some (.inl x)]) (st1 := [.inl x, .inr (.ref 11), .inl x, .inr (.ref 11)]) (M1 := M3) (o2 := [fs_rg (x + 3), (11 < fs_N ∧ fs_kd 11 = 100) ∧ (0 : Int) ≤ (x + 3) ∧ (x + 3) < fs_ln 11, (11 < fs_N ∧ fs_kd 11 = 100) ∧ (0 : Int) ≤ x ∧ x < fs_ln 11, fs_rg (x + 1)]) rfl rfl) (fs_oc fs_ob5 (fs_oc fs_ob5 (fs_oc ⟨by omega, by omega⟩ (fs_oc (fs_ar11 (by omega) (by omega)) (fs_oc (fs_ar11 (by omega) (by omega)) (fs_oc ⟨by omega, by omega⟩ trivial)))))) ?_
      exact ih27 ((x + 1)) (fs_up M3 11 x (M3 11 (x + 3))) (by omega) (fun r q => by rw [fs_up_other q]; exact f3 r q) (fun q => by rw [fs_up_at]; by_cases z : q = x; (rw [if_pos z, if_pos (by omega), z, n3, if_neg (by omega)]); (rw [if_neg z, n3 q]; by_cases w : (s * 4 + p) * 3 ≤ q ∧ q < x; (rw [if_pos w, if_pos (by omega)]); (rw [if_neg w, if_neg (by omega)]))) (by omega)
  exact loop27 ((((s * 4 + (M 10 s - 1)) * 3 - ((((s * 4) + p) * 3))) : Int) + 1).toNat ((((s * 4) + p) * 3)) M (by omega) (fun r _ => rfl) (fun q => by rw [if_neg (by omega)]) (by omega)

theorem vw_lift {M M2 : fs_M} {N : Int → Int} {s p : Int} (hV : vw 5 M N) (hsh : ∀ s, 0 ≤ s → s < 3 → 0 ≤ N (100 + 13 * s) ∧ N (100 + 13 * s) ≤ 4) (hs : 0 ≤ s ∧ s < 3) (hp : 0 ≤ p ∧ p < N (100 + 13 * s)) (f : ∀ r, r ≠ 10 → r ≠ 11 → M2 r = M r) (l : ∀ t, M2 10 t = if t = s then M 10 s - 1 else M 10 t)
    (k : ∀ q, M2 11 q = if (s * 4 + p) * 3 ≤ q ∧ q < (s * 4 + (M 10 s - 1)) * 3 then M 11 (q + 3) else M 11 q) : vw 5 M2 (li_row N s p) := by
  obtain ⟨v0, v1, vcv, vfc, vhd, vln, vlc, vit⟩ := vw5 hV
  have e : ∀ i, i < 100 → li_row N s p i = N i := fun i q => by
    unfold li_row
    rw [if_neg (by omega), if_neg (by omega)]
  have es : ∀ t, 0 ≤ t → t < 3 → li_row N s p (100 + 13 * t) = if t = s then N (100 + 13 * s) - 1 else N (100 + 13 * t) := fun t t0 t1 => by
    unfold li_row
    by_cases z : t = s
    · rw [if_pos (by omega), if_pos z, z]
    · rw [if_neg (by omega), if_neg (by omega), if_neg z]
  have q5 := hsh s hs.1 hs.2
  have e10 := vlc s hs.1 hs.2
  refine vw5.of ⟨?_, ?_, fun q q0 q1 => ⟨?_, ?_⟩, fun h w x0 x1 w0 w1 z => ?_, fun h w x0 x1 w0 w1 => ?_, fun h w x0 x1 w0 w1 => ?_, fun t x0 x1 => ?_, fun t a w x0 x1 p0 p1 w0 w1 => ?_⟩
  · rw [f 5 (by decide) (by decide), e 0 (by omega)]
    exact v0
  · rw [f 5 (by decide) (by decide), e 1 (by omega)]
    exact v1
  · rw [f 6 (by decide) (by decide), e _ (by omega)]
    exact (vcv q q0 q1).1
  · rw [f 6 (by decide) (by decide), e _ (by omega)]
    exact (vcv q q0 q1).2
  · rw [e 1 (by omega)] at z
    rw [f 7 (by decide) (by decide), e _ (by omega)]
    exact vfc h w x0 x1 w0 w1 z
  · rw [f 8 (by decide) (by decide), e _ (by omega)]
    exact vhd h w x0 x1 w0 w1
  · rw [f 9 (by decide) (by decide), e _ (by omega)]
    exact vln h w x0 x1 w0 w1
  · rw [l t, es t x0 x1]
    by_cases z : t = s
    · rw [if_pos z, if_pos z, e10]
    · rw [if_neg z, if_neg z]
      exact vlc t x0 x1
  · rw [es t x0 x1] at p1
    have ht := hsh t x0 x1
    rw [k]
    by_cases z : t = s
    · subst z
      rw [if_pos rfl] at p1
      by_cases y : p ≤ a
      · rw [if_pos (by omega)]
        unfold li_row
        rw [if_neg (by omega), if_pos (by omega)]
        have w2 := vit t (a + 1) w x0 x1 (by omega) (by omega) w0 w1
        rw [show (t * 4 + a) * 3 + w + 3 = (t * 4 + (a + 1)) * 3 + w by omega, w2]
        congr 1
        omega
      · rw [if_neg (by omega)]
        unfold li_row
        rw [if_neg (by omega), if_neg (by omega)]
        exact vit t a w x0 x1 p0 (by omega) w0 w1
    · rw [if_neg z] at p1
      rw [if_neg (by omega)]
      unfold li_row
      rw [if_neg (by omega), if_neg (by omega)]
      exact vit t a w x0 x1 p0 p1 w0 w1
theorem fs_c_lift {d : Nat} {M : fs_M} {Q : Option fs_V → fs_M → Prop} {s : Int} {p : Int} {N : Int → Int} {n : Int} {U : Int → Int → Int} (hV : vw 5 M N) (hN : fs_NI N) (hU : us M n U) (hq0 : ∀ (M2 : fs_M), ((0 ≤ s ∧ s ≤ 2) ∧ (0 ≤ p ∧ p < N (100 + 13 * s))) → (ca M M2 (li_row N s p) n U N) → Q (some (.inl (N (100 + 13 * s) - 1))) M2) (hq1 : (¬ ((0 ≤ s ∧ s ≤ 2) ∧ (0 ≤ p ∧ p < N (100 + 13 * s)))) → Q (some (.inl (-1))) M) : fs_W (d + 4) 85 0 [some (.inr (.ref 0)), some (.inl s), some (.inl p)] [] M Q := by
  obtain ⟨v0, v1, vcv, vfc, vhd, vln, vlc, vit⟩ := vw5 hV
  obtain ⟨⟨hA0, hA1⟩, ⟨hH0, hH1⟩, hcv, hfc, hhd, hln, hsh, hit, hst⟩ := id hN
  have vs : 0 ≤ s ∧ s ≤ 2 → M 10 s = N (100 + 13 * s) ∧ N (100 + 13 * s) ≤ 4 := fun z => ⟨vlc s z.1 (by omega), (hsh s z.1 (by omega)).2⟩
  refine fs_r_call (sta := false) (idx := 157) (as := [.inr (.ref 5), .inl s, .inl p]) (rest := []) (L1 := [some (.inr (.ref 0)), some (.inl s), some (.inl p)]) (st1 := [.inl p, .inl s, .inr (.ref 5)]) (M1 := M) (ob := [0 < fs_N ∧ fs_kd 0 = 5]) rfl rfl rfl (fs_oc fs_ob0 trivial) rfl rfl (Nat.le_of_ble_eq_true rfl) ⟨Or.inr (Nat.le_of_ble_eq_true rfl), Or.inr fs_ob5⟩ (by decide) ?_
  refine fs_c_isPlace (fun (f1 : (0 ≤ s ∧ s ≤ 2) ∧ (0 ≤ p ∧ p < M 10 s)) => ?_) (fun (f2 : ¬ ((0 ≤ s ∧ s ≤ 2) ∧ (0 ≤ p ∧ p < M 10 s))) => ?_)
  · refine fs_r_if (a := 1) (L1 := [some (.inr (.ref 0)), some (.inl s), some (.inl p)]) (st1 := []) (M1 := M) (ob := []) rfl rfl trivial (fun _ => ?_) (fun h => absurd (by decide : ¬ (1 : Int) = 0) h)
    have vt := vs (by omega)
    refine fs_r_call (sta := false) (idx := 99) (as := [.inr (.ref 0)]) (rest := []) (L1 := [some (.inr (.ref 0)), some (.inl s), some (.inl p)]) (st1 := [.inr (.ref 0)]) (M1 := M) (ob := []) rfl rfl rfl trivial rfl rfl (Nat.le_of_ble_eq_true rfl) ⟨Or.inr (Nat.le_of_ble_eq_true rfl), Or.inr fs_ob0⟩ (by decide) ?_
    refine fs_c_remember (N := N) (n := n) (U := U) (by assumption) (by assumption) (by assumption) (fun (V1 : fs_M) (rf : ∀ r, r ≠ 0 → (r < 40 ∨ 123 < r) → V1 r = M r) (ru : us V1 (us_n n) (us_u n U N)) => ?_)
    have w := congrFun (rf 10 (by decide) (by decide)) s
    refine fs_r_call (sta := false) (idx := 160) (as := [.inr (.ref 5), .inl s, .inl p]) (rest := []) (L1 := [some (.inr (.ref 0)), some (.inl s), some (.inl p)]) (st1 := [.inl p, .inl s, .inr (.ref 5)]) (M1 := V1) (ob := [0 < fs_N ∧ fs_kd 0 = 5]) rfl rfl rfl (fs_oc fs_ob0 trivial) rfl rfl (Nat.le_of_ble_eq_true rfl) ⟨Or.inr (Nat.le_of_ble_eq_true rfl), Or.inr fs_ob5⟩ (by decide) ?_
    refine fs_c_takeAway (by omega) (by omega) (fun (W : fs_M) (wf : ∀ r, r ≠ 10 → r ≠ 11 → W r = V1 r) (wl : ∀ t, W 10 t = if t = s then V1 10 s - 1 else V1 10 t) (wi : ∀ q, W 11 q = if (s * 4 + p) * 3 ≤ q ∧ q < (s * 4 + (V1 10 s - 1)) * 3 then V1 11 (q + 3) else V1 11 q) => ?_)
    refine fs_r_iret (a := ((V1 10 s) - 1)) (L1 := [some (.inr (.ref 0)), some (.inl s), some (.inl p)]) (M1 := W) (ob := []) rfl rfl trivial (Or.inl rfl) ?_
    exact fs_qi (by omega) (hq0 _ (by omega) (ca.of rf ru (vw_lift (hV.fr (fun r q1 q2 => rf r (by omega) (by omega))) hsh (by omega) (by omega) wf wl wi) (fun r q => wf r (by omega) (by omega))))
  refine fs_r_if (a := 0) (L1 := [some (.inr (.ref 0)), some (.inl s), some (.inl p)]) (st1 := []) (M1 := M) (ob := []) rfl rfl trivial (fun h => absurd h (by decide : ¬ (¬ (0 : Int) = 0))) (fun _ => ?_)
  refine fs_r_iret (a := (-1)) (L1 := [some (.inr (.ref 0)), some (.inl s), some (.inl p)]) (M1 := M) (ob := []) rfl rfl trivial (Or.inl rfl) ?_
  exact hq1 (fun z => by omega)

theorem fs_c_net {d : Nat} {M : fs_M} {Q : Option fs_V → fs_M → Prop} {h : Int} {o : Int} {N : Int → Int} {n : Int} {U : Int → Int → Int} (hV : vw 5 M N) (hN : fs_NI N) (hU : us M n U) (hq0 : ∀ (M2 : fs_M), ((0 ≤ h ∧ h < N 1) ∧ (0 ≤ o ∧ o < N 1) ∧ h ≠ o ∧ min (N (64 + 6 * h + o)) (N (64 + 6 * o + h)) ≠ 0) → (ca M M2 (up1 (up1 N (64 + 6 * h + o) (N (64 + 6 * h + o) - min (N (64 + 6 * h + o)) (N (64 + 6 * o + h)))) (64 + 6 * o + h) (N (64 + 6 * o + h) - min (N (64 + 6 * h + o)) (N (64 + 6 * o + h)))) n U N) → Q (some (.inl (min (N (64 + 6 * h + o)) (N (64 + 6 * o + h))))) M2) (hq1 : (¬ ((0 ≤ h ∧ h < N 1) ∧ (0 ≤ o ∧ o < N 1) ∧ h ≠ o ∧ min (N (64 + 6 * h + o)) (N (64 + 6 * o + h)) ≠ 0)) → Q (some (.inl (-1))) M) : fs_W (d + 4) 86 0 [some (.inr (.ref 0)), some (.inl h), some (.inl o), none, none, none] [] M Q := by
  obtain ⟨v0, v1, vcv, vfc, vhd, vln, vlc, vit⟩ := vw5 hV
  obtain ⟨⟨hA0, hA1⟩, ⟨hH0, hH1⟩, hcv, hfc, hhd, hln, hsh, hit, hst⟩ := id hN
  refine fs_r_call (sta := false) (idx := 138) (as := [.inr (.ref 5), .inl h, .inl o]) (rest := []) (L1 := [some (.inr (.ref 0)), some (.inl h), some (.inl o), none, none, none]) (st1 := [.inl o, .inl h, .inr (.ref 5)]) (M1 := M) (ob := [0 < fs_N ∧ fs_kd 0 = 5]) rfl rfl rfl (fs_oc fs_ob0 trivial) rfl rfl (Nat.le_of_ble_eq_true rfl) ⟨Or.inr (Nat.le_of_ble_eq_true rfl), Or.inr fs_ob5⟩ (by decide) ?_
  refine fs_c_areTwoHouses (fun (f1 : (0 ≤ h ∧ h < M 5 1) ∧ (0 ≤ o ∧ o < M 5 1) ∧ h ≠ o) => ?_) (fun (f2 : ¬ ((0 ≤ h ∧ h < M 5 1) ∧ (0 ≤ o ∧ o < M 5 1) ∧ h ≠ o)) => ?_)
  · refine fs_r_if (a := 1) (L1 := [some (.inr (.ref 0)), some (.inl h), some (.inl o), none, none, none]) (st1 := []) (M1 := M) (ob := []) rfl rfl trivial (fun _ => ?_) (fun h => absurd (by decide : ¬ (1 : Int) = 0) h)
    have q1 := vln h o (by omega) (by omega) (by omega) (by omega)
    have q2 := vln o h (by omega) (by omega) (by omega) (by omega)
    have b1 := hln h o (by omega) (by omega) (by omega) (by omega)
    have b2 := hln o h (by omega) (by omega) (by omega) (by omega)
    refine fs_r_call (sta := false) (idx := 163) (as := [.inr (.ref 5), .inl h, .inl o]) (rest := []) (L1 := [some (.inr (.ref 0)), some (.inl h), some (.inl o), none, none, none]) (st1 := [.inl o, .inl h, .inr (.ref 5)]) (M1 := M) (ob := [0 < fs_N ∧ fs_kd 0 = 5]) rfl rfl rfl (fs_oc fs_ob0 trivial) rfl rfl (Nat.le_of_ble_eq_true rfl) ⟨Or.inr (Nat.le_of_ble_eq_true rfl), Or.inr fs_ob5⟩ (by decide) ?_
    refine fs_c_loanOf (by first | exact Or.inl rfl | exact Or.inr (Or.inl rfl) | assumption) (by omega) (by omega) ?_
    refine fs_r_call (sta := false) (idx := 163) (as := [.inr (.ref 5), .inl o, .inl h]) (rest := []) (L1 := [some (.inr (.ref 0)), some (.inl h), some (.inl o), some (.inl (M 9 ((h * 6) + o))), none, none]) (st1 := [.inl h, .inl o, .inr (.ref 5)]) (M1 := M) (ob := [3 < 6, 0 < fs_N ∧ fs_kd 0 = 5]) rfl rfl rfl (fs_oc (by decide) (fs_oc fs_ob0 trivial)) rfl rfl (Nat.le_of_ble_eq_true rfl) ⟨Or.inr (Nat.le_of_ble_eq_true rfl), Or.inr fs_ob5⟩ (by decide) ?_
    refine fs_c_loanOf (by first | exact Or.inl rfl | exact Or.inr (Or.inl rfl) | assumption) (by omega) (by omega) ?_
    refine fs_r_nat (v := .inl (min (M 9 ((h * 6) + o)) (M 9 ((o * 6) + h)))) (sta := true) (idx := 166) (as := [.inl (M 9 ((h * 6) + o)), .inl (M 9 ((o * 6) + h))]) (rest := []) (L1 := [some (.inr (.ref 0)), some (.inl h), some (.inl o), some (.inl (M 9 ((h * 6) + o))), some (.inl (M 9 ((o * 6) + h))), none]) (st1 := [.inl (M 9 ((o * 6) + h)), .inl (M 9 ((h * 6) + o))]) (M1 := M) (ob := [4 < 6]) rfl rfl rfl (fs_oc (by decide) trivial) rfl rfl (Nat.le_of_ble_eq_true rfl) ⟨Or.inl (by decide), trivial⟩ (by decide) (rfl) ?_
    refine fs_r_if (a := (min (M 9 ((h * 6) + o)) (M 9 ((o * 6) + h)))) (L1 := [some (.inr (.ref 0)), some (.inl h), some (.inl o), some (.inl (M 9 ((h * 6) + o))), some (.inl (M 9 ((o * 6) + h))), some (.inl (min (M 9 ((h * 6) + o)) (M 9 ((o * 6) + h))))]) (st1 := []) (M1 := M) (ob := [5 < 6]) rfl rfl (fs_oc (by decide) trivial) (fun (h3 : ¬ (min (M 9 ((h * 6) + o)) (M 9 ((o * 6) + h))) = 0) => ?_) (fun (h3 : ¬ (¬ (min (M 9 ((h * 6) + o)) (M 9 ((o * 6) + h))) = 0)) => ?_)
    · refine fs_r_call (sta := false) (idx := 99) (as := [.inr (.ref 0)]) (rest := []) (L1 := [some (.inr (.ref 0)), some (.inl h), some (.inl o), some (.inl (M 9 ((h * 6) + o))), some (.inl (M 9 ((o * 6) + h))), some (.inl (min (M 9 ((h * 6) + o)) (M 9 ((o * 6) + h))))]) (st1 := [.inr (.ref 0)]) (M1 := M) (ob := []) rfl rfl rfl trivial rfl rfl (Nat.le_of_ble_eq_true rfl) ⟨Or.inr (Nat.le_of_ble_eq_true rfl), Or.inr fs_ob0⟩ (by decide) ?_
      refine fs_c_remember (N := N) (n := n) (U := U) (by assumption) (by assumption) (by assumption) (fun (V1 : fs_M) (rf : ∀ r, r ≠ 0 → (r < 40 ∨ 123 < r) → V1 r = M r) (ru : us V1 (us_n n) (us_u n U N)) => ?_)
      refine fs_r_call (sta := false) (idx := 171) (as := [.inr (.ref 5), .inl h, .inl o, .inl ((M 9 ((h * 6) + o)) - (min (M 9 ((h * 6) + o)) (M 9 ((o * 6) + h))))]) (rest := []) (L1 := [some (.inr (.ref 0)), some (.inl h), some (.inl o), some (.inl (M 9 ((h * 6) + o))), some (.inl (M 9 ((o * 6) + h))), some (.inl (min (M 9 ((h * 6) + o)) (M 9 ((o * 6) + h))))]) (st1 := [.inl ((M 9 ((h * 6) + o)) - (min (M 9 ((h * 6) + o)) (M 9 ((o * 6) + h)))), .inl o, .inl h, .inr (.ref 5)]) (M1 := V1) (ob := [0 < fs_N ∧ fs_kd 0 = 5, fs_rg ((M 9 ((h * 6) + o)) - (min (M 9 ((h * 6) + o)) (M 9 ((o * 6) + h))))]) rfl rfl rfl (fs_oc fs_ob0 (fs_oc ⟨by omega, by omega⟩ trivial)) rfl rfl (Nat.le_of_ble_eq_true rfl) ⟨Or.inr (Nat.le_of_ble_eq_true rfl), Or.inr fs_ob5⟩ (by decide) ?_
      refine fs_c_setLoan (by first | exact Or.inl rfl | exact Or.inr (Or.inl rfl) | assumption) (by omega) (by omega) ?_
      refine fs_r_call (sta := false) (idx := 171) (as := [.inr (.ref 5), .inl o, .inl h, .inl ((M 9 ((o * 6) + h)) - (min (M 9 ((h * 6) + o)) (M 9 ((o * 6) + h))))]) (rest := []) (L1 := [some (.inr (.ref 0)), some (.inl h), some (.inl o), some (.inl (M 9 ((h * 6) + o))), some (.inl (M 9 ((o * 6) + h))), some (.inl (min (M 9 ((h * 6) + o)) (M 9 ((o * 6) + h))))]) (st1 := [.inl ((M 9 ((o * 6) + h)) - (min (M 9 ((h * 6) + o)) (M 9 ((o * 6) + h)))), .inl h, .inl o, .inr (.ref 5)]) (M1 := (fs_up V1 9 ((h * 6) + o) ((M 9 ((h * 6) + o)) - (min (M 9 ((h * 6) + o)) (M 9 ((o * 6) + h)))))) (ob := [0 < fs_N ∧ fs_kd 0 = 5, fs_rg ((M 9 ((o * 6) + h)) - (min (M 9 ((h * 6) + o)) (M 9 ((o * 6) + h))))]) rfl rfl rfl (fs_oc fs_ob0 (fs_oc ⟨by omega, by omega⟩ trivial)) rfl rfl (Nat.le_of_ble_eq_true rfl) ⟨Or.inr (Nat.le_of_ble_eq_true rfl), Or.inr fs_ob5⟩ (by decide) ?_
      refine fs_c_setLoan (by first | exact Or.inl rfl | exact Or.inr (Or.inl rfl) | assumption) (by omega) (by omega) ?_
      refine fs_r_iret (a := (min (M 9 ((h * 6) + o)) (M 9 ((o * 6) + h)))) (L1 := [some (.inr (.ref 0)), some (.inl h), some (.inl o), some (.inl (M 9 ((h * 6) + o))), some (.inl (M 9 ((o * 6) + h))), some (.inl (min (M 9 ((h * 6) + o)) (M 9 ((o * 6) + h))))]) (M1 := (fs_up (fs_up V1 9 ((h * 6) + o) ((M 9 ((h * 6) + o)) - (min (M 9 ((h * 6) + o)) (M 9 ((o * 6) + h))))) 9 ((o * 6) + h) ((M 9 ((o * 6) + h)) - (min (M 9 ((h * 6) + o)) (M 9 ((o * 6) + h)))))) (ob := []) rfl rfl trivial (Or.inl rfl) ?_
      refine fs_qi (by omega) (hq0 _ (by omega) (ca.of rf ru ?_ (fun r q => by rw [fs_up_other (by omega), fs_up_other (by omega)])))
      rw [q1, q2]
      have s1 : ∀ v s, 0 ≤ s → s < 3 → 0 ≤ up1 N (64 + 6 * h + o) v (100 + 13 * s) ∧ up1 N (64 + 6 * h + o) v (100 + 13 * s) ≤ 4 := fun v s s0 s1 => by unfold up1; rw [if_neg (by omega)]; exact hsh s s0 s1
      exact vw_loan (vw_loan (hV.fr (fun r q1 q2 => rf r (by omega) (by omega))) hsh (by omega) (by omega)) (s1 _) (by omega) (by omega)
    refine fs_r_iret (a := (-1)) (L1 := [some (.inr (.ref 0)), some (.inl h), some (.inl o), some (.inl (M 9 ((h * 6) + o))), some (.inl (M 9 ((o * 6) + h))), some (.inl (min (M 9 ((h * 6) + o)) (M 9 ((o * 6) + h))))]) (M1 := M) (ob := []) rfl rfl trivial (Or.inl rfl) ?_
    exact hq1 (fun z => by omega)
  refine fs_r_if (a := 0) (L1 := [some (.inr (.ref 0)), some (.inl h), some (.inl o), none, none, none]) (st1 := []) (M1 := M) (ob := []) rfl rfl trivial (fun h => absurd h (by decide : ¬ (¬ (0 : Int) = 0))) (fun _ => ?_)
  refine fs_r_iret (a := (-1)) (L1 := [some (.inr (.ref 0)), some (.inl h), some (.inl o), none, none, none]) (M1 := M) (ob := []) rfl rfl trivial (Or.inl rfl) ?_
  exact hq1 (fun z => by omega)

theorem fs_c_undo {d : Nat} {M : fs_M} {Q : Option fs_V → fs_M → Prop}  {n : Int} {U : Int → Int → Int} (hU : us M n U) (hq0 : ∀ (M2 : fs_M), (0 < n) → (vw 5 M2 (U (n - 1))) → (us M2 (n - 1) U) → (∀ r, (r = 1 ∨ r = 2 ∨ 123 < r) → M2 r = M r) → Q (some (.inl (n - 1))) M2) (hq1 : (¬ 0 < n) → Q (some (.inl (-1))) M) : fs_W (d + 3) 90 0 [some (.inr (.ref 0))] [] M Q := by
  obtain ⟨u1, u2, u3, u4⟩ := id hU
  refine fs_r_if (a := (M 0 6)) (L1 := [some (.inr (.ref 0))]) (st1 := []) (M1 := M) (ob := [0 < fs_N ∧ fs_kd 0 = 5]) rfl rfl (fs_oc fs_ob0 trivial) (fun (h1 : ¬ (M 0 6) = 0) => ?_) (fun (h1 : ¬ (¬ (M 0 6) = 0)) => ?_)
  · have hbk : fs_bk (40 + 7 * ((((M 0 5) + 12) - 1) % 12).toNat) := fs_bk_i (by omega)
    refine fs_r_call (sta := false) (idx := 85) (as := [.inr (.ref 5), .inr (.ref (40 + 7 * ((((M 0 5) + 12) - 1) % 12).toNat))]) (rest := []) (L1 := [some (.inr (.ref 0))]) (st1 := [.inr (.ref (40 + 7 * ((((M 0 5) + 12) - 1) % 12).toNat)), .inr (.ref 5)]) (M1 := (fs_up (fs_up M 0 5 ((((M 0 5) + 12) - 1) % 12)) 0 6 ((M 0 6) - 1))) (ob := [0 < fs_N ∧ fs_kd 0 = 5, fs_rg ((M 0 5) + 12), fs_rg (((M 0 5) + 12) - 1), (0 : Int) ≤ (((M 0 5) + 12) - 1), (0 : Int) < 12, 0 < fs_N ∧ fs_kd 0 = 5, 0 < fs_N ∧ fs_kd 0 = 5, fs_rg ((M 0 6) - 1), 0 < fs_N ∧ fs_kd 0 = 5, 0 < fs_N ∧ fs_kd 0 = 5, 0 < fs_N ∧ fs_kd 0 = 5, 0 < fs_N ∧ fs_kd 0 = 5, 19 = 19 ∧ (0 : Int) ≤ ((((M 0 5) + 12) - 1) % 12) ∧ ((((M 0 5) + 12) - 1) % 12) < 12]) rfl rfl (fs_exA 6 (o1 := [0 < fs_N ∧ fs_kd 0 = 5, fs_rg ((M 0 5) + 12)]) (L1 := [some (.inr (.ref 0))]) (st1 := [.inl 1, .inl ((M 0 5) + 12), .inr (.ref 0)]) (M1 := M) (o2 := [fs_rg (((M 0 5) + 12) - 1), (0 : Int) ≤ (((M 0 5) + 12) - 1), (0 : Int) < 12, 0 < fs_N ∧ fs_kd 0 = 5, 0 < fs_N ∧ fs_kd 0 = 5, fs_rg ((M 0 6) - 1), 0 < fs_N ∧ fs_kd 0 = 5, 0 < fs_N ∧ fs_kd 0 = 5, 0 < fs_N ∧ fs_kd 0 = 5, 0 < fs_N ∧ fs_kd 0 = 5, 19 = 19 ∧ (0 : Int) ≤ ((((M 0 5) + 12) - 1) % 12) ∧ ((((M 0 5) + 12) - 1) % 12) < 12]) rfl (fs_exA 6 (o1 := [fs_rg (((M 0 5) + 12) - 1), (0 : Int) ≤ (((M 0 5) + 12) - 1), (0 : Int) < 12, 0 < fs_N ∧ fs_kd 0 = 5]) (L1 := [some (.inr (.ref 0))]) (st1 := [.inr (.ref 0), .inr (.ref 0)]) (M1 := (fs_up M 0 5 ((((M 0 5) + 12) - 1) % 12))) (o2 := [0 < fs_N ∧ fs_kd 0 = 5, fs_rg ((M 0 6) - 1), 0 < fs_N ∧ fs_kd 0 = 5, 0 < fs_N ∧ fs_kd 0 = 5, 0 < fs_N ∧ fs_kd 0 = 5, 0 < fs_N ∧ fs_kd 0 = 5, 19 = 19 ∧ (0 : Int) ≤ ((((M 0 5) + 12) - 1) % 12) ∧ ((((M 0 5) + 12) - 1) % 12) < 12]) rfl (fs_exA 6 (o1 := [0 < fs_N ∧ fs_kd 0 = 5, fs_rg ((M 0 6) - 1), 0 < fs_N ∧ fs_kd 0 = 5, 0 < fs_N ∧ fs_kd 0 = 5]) (L1 := [some (.inr (.ref 0))]) (st1 := [.inr (.ref 5)]) (M1 := (fs_up (fs_up M 0 5 ((((M 0 5) + 12) - 1) % 12)) 0 6 ((M 0 6) - 1))) (o2 := [0 < fs_N ∧ fs_kd 0 = 5, 0 < fs_N ∧ fs_kd 0 = 5, 19 = 19 ∧ (0 : Int) ≤ ((((M 0 5) + 12) - 1) % 12) ∧ ((((M 0 5) + 12) - 1) % 12) < 12]) rfl rfl))) (fs_oc fs_ob0 (fs_oc ⟨by omega, by omega⟩ (fs_oc ⟨by omega, by omega⟩ (fs_oc (by omega) (fs_oc (by omega) (fs_oc fs_ob0 (fs_oc fs_ob0 (fs_oc ⟨by omega, by omega⟩ (fs_oc fs_ob0 (fs_oc fs_ob0 (fs_oc fs_ob0 (fs_oc fs_ob0 (fs_oc ⟨rfl, by omega, by omega⟩ trivial))))))))))))) rfl rfl (Nat.le_of_ble_eq_true rfl) ⟨Or.inr (Nat.le_of_ble_eq_true rfl), Or.inr fs_ob5⟩ (by decide) ?_
    refine fs_c_bcopy (by first | exact Or.inl rfl | exact Or.inr (Or.inl rfl) | assumption) (by first | exact Or.inl rfl | exact Or.inr (Or.inl rfl) | assumption) (by omega) (fun (V : fs_M) (cf : ∀ r, (r < 5 ∨ 5 + 6 < r) → V r = (fs_up (fs_up M 0 5 ((((M 0 5) + 12) - 1) % 12)) 0 6 ((M 0 6) - 1)) r) (cv : ∀ N, fs_NI N → vw (40 + 7 * ((((M 0 5) + 12) - 1) % 12).toNat) (fs_up (fs_up M 0 5 ((((M 0 5) + 12) - 1) % 12)) 0 6 ((M 0 6) - 1)) N → vw 5 V N) => ?_)
    have k0 : V 0 = (fs_up (fs_up M 0 5 ((((M 0 5) + 12) - 1) % 12)) 0 6 ((M 0 6) - 1)) 0 := cf 0 (by omega)
    have k6 := congrFun k0 6
    rw [fs_up_at, if_pos rfl] at k6
    refine fs_r_iret (a := (V 0 6)) (L1 := [some (.inr (.ref 0))]) (M1 := V) (ob := [0 < fs_N ∧ fs_kd 0 = 5]) rfl rfl (fs_oc fs_ob0 trivial) (Or.inl rfl) ?_
    have w := u4 (n - 1) (by omega) (by omega)
    have ix : (M 0 5 + 12 - n + (n - 1)) % 12 = (((M 0 5) + 12) - 1) % 12 := by omega
    rw [ix] at w
    have vr : ∀ (b : Nat) (K : Int → Int), vw b M K → 12 < b → vw b (fs_up (fs_up M 0 5 ((((M 0 5) + 12) - 1) % 12)) 0 6 ((M 0 6) - 1)) K := fun b K h hb => h.fr (fun r q1 q2 => by rw [fs_up_other (by omega), fs_up_other (by omega)])
    refine fs_qi (by omega) (hq0 _ (by omega) (cv _ w.1 (vr _ _ w.2 (by omega))) ⟨by rw [k6]; omega, by omega, ?_, fun j j0 j1 => ?_⟩ (fun r q => by rw [cf r (by omega), fs_up_other (by omega), fs_up_other (by omega)]))
    · rw [k0, fs_up_at, if_neg (by omega), fs_up_at, if_pos rfl]
      omega
    · have w2 := u4 j j0 (by omega)
      rw [k0, fs_up_at, if_neg (by omega), fs_up_at, if_pos rfl]
      have ix2 : ((((M 0 5) + 12) - 1) % 12 + 12 - (n - 1) + j) % 12 = (M 0 5 + 12 - n + j) % 12 := by omega
      rw [ix2]
      exact ⟨w2.1, (vr _ _ w2.2 (by omega)).fr (fun r q1 q2 => cf r (by omega))⟩
  refine fs_r_iret (a := (-1)) (L1 := [some (.inr (.ref 0))]) (M1 := M) (ob := []) rfl rfl trivial (Or.inl rfl) ?_
  exact hq1 (by omega)

theorem held_nz {N : Int → Int} {a : Int} (hN : fs_NI N) (hZ : fs_NZ N) (ha : N 0 ≤ a ∧ 0 ≤ a ∧ a < 4) : mm_held N a = 0 := by
  have hH := hN.2.1
  unfold mm_held
  have : ∀ n : Nat, (n : Int) ≤ 6 → fs_sum n (fun h => N (40 + 4 * h + a)) = 0 := by
    intro n
    induction n with
    | zero => intro _; rfl
    | succ n ih =>
      intro hn
      show fs_sum n _ + N (40 + 4 * (n : Int) + a) = 0
      rw [ih (by omega), hZ.2.1 n a (by omega) (by omega) (by omega) (by omega) (Or.inr ha.1)]
      rfl
  exact this _ (by omega)
theorem held_all {N : Int → Int} (hN : fs_NI N) (hZ : fs_NZ N) : fs_sum (N 0).toNat (fun q => mm_held N q) = mm_held N 0 + mm_held N 1 + mm_held N 2 + mm_held N 3 := by
  have hA := hN.1
  have z : ∀ a, N 0 ≤ a → 0 ≤ a → a < 4 → mm_held N a = 0 := fun a a0 a1 a2 => held_nz hN hZ ⟨a0, a1, a2⟩
  rcases (show N 0 = 0 ∨ N 0 = 1 ∨ N 0 = 2 ∨ N 0 = 3 ∨ N 0 = 4 by omega) with h | h | h | h | h
  · rw [z 0 (by omega) (by omega) (by omega), z 1 (by omega) (by omega) (by omega), z 2 (by omega) (by omega) (by omega), z 3 (by omega) (by omega) (by omega), h]
    rfl
  · rw [z 1 (by omega) (by omega) (by omega), z 2 (by omega) (by omega) (by omega), z 3 (by omega) (by omega) (by omega), h]
    show 0 + mm_held N 0 = _
    omega
  · rw [z 2 (by omega) (by omega) (by omega), z 3 (by omega) (by omega) (by omega), h]
    show 0 + mm_held N 0 + mm_held N 1 = _
    omega
  · rw [z 3 (by omega) (by omega) (by omega), h]
    show 0 + mm_held N 0 + mm_held N 1 + mm_held N 2 = _
    omega
  · rw [h]
    show 0 + mm_held N 0 + mm_held N 1 + mm_held N 2 + mm_held N 3 = _
    omega
theorem fs_c_count {d : Nat} {M : fs_M} {Q : Option fs_V → fs_M → Prop} {w : Int} {N : Int → Int} (hV : vw 5 M N) (hN : fs_NI N) (hZ : fs_NZ N) (hq0 : Q (some (.inl (rq_count N (M 0 6) (M 1 1) w))) M) : fs_W (d + 3) 129 0 [some (.inr (.ref 0)), some (.inl w)] [] M Q := by
  obtain ⟨v0, v1, vcv, vfc, vhd, vln, vlc, vit⟩ := vw5 hV
  obtain ⟨⟨hA0, hA1⟩, ⟨hH0, hH1⟩, hcv, hfc, hhd, hln, hsh, hit, hst⟩ := id hN
  refine fs_r_sw (a := w) (L1 := [some (.inr (.ref 0)), some (.inl w)]) (st1 := []) (M1 := M) (ob := []) rfl rfl trivial ?_
  by_cases h1 : w = 0
  · have eh1 : ((1 : Nat) + fs_sw 108 0 8 #[51, 59, 67, 72, 80, 80, 80, 92, 100] w : Int).toNat = 52 := by rw [h1]; decide
    rw [eh1]
    refine fs_r_iret (a := (M 5 0)) (L1 := [some (.inr (.ref 0)), some (.inl w)]) (M1 := M) (ob := [0 < fs_N ∧ fs_kd 0 = 5, 5 < fs_N ∧ fs_kd 5 = 0]) rfl rfl (fs_oc fs_ob0 (fs_oc fs_ob5 trivial)) (Or.inl rfl) ?_
    exact fs_qi (by unfold rq_count; rw [if_pos (by omega)]; omega) hq0
  by_cases h2 : w = 1
  · have eh2 : ((1 : Nat) + fs_sw 108 0 8 #[51, 59, 67, 72, 80, 80, 80, 92, 100] w : Int).toNat = 60 := by rw [h2]; decide
    rw [eh2]
    refine fs_r_iret (a := (M 5 1)) (L1 := [some (.inr (.ref 0)), some (.inl w)]) (M1 := M) (ob := [0 < fs_N ∧ fs_kd 0 = 5, 5 < fs_N ∧ fs_kd 5 = 0]) rfl rfl (fs_oc fs_ob0 (fs_oc fs_ob5 trivial)) (Or.inl rfl) ?_
    exact fs_qi (by unfold rq_count; rw [if_neg (by omega)]; rw [if_pos (by omega)]; omega) hq0
  by_cases h3 : w = 2
  · have eh3 : ((1 : Nat) + fs_sw 108 0 8 #[51, 59, 67, 72, 80, 80, 80, 92, 100] w : Int).toNat = 68 := by rw [h3]; decide
    rw [eh3]
    refine fs_r_iret (a := (M 0 6)) (L1 := [some (.inr (.ref 0)), some (.inl w)]) (M1 := M) (ob := [0 < fs_N ∧ fs_kd 0 = 5]) rfl rfl (fs_oc fs_ob0 trivial) (Or.inl rfl) ?_
    exact fs_qi (by unfold rq_count; rw [if_neg (by omega), if_neg (by omega), if_pos (by omega)]) hq0
  by_cases h4 : w = 3
  · have eh4 : ((1 : Nat) + fs_sw 108 0 8 #[51, 59, 67, 72, 80, 80, 80, 92, 100] w : Int).toNat = 73 := by rw [h4]; decide
    rw [eh4]
    refine fs_r_iret (a := (M 1 1)) (L1 := [some (.inr (.ref 0)), some (.inl w)]) (M1 := M) (ob := [0 < fs_N ∧ fs_kd 0 = 5, 1 < fs_N ∧ fs_kd 1 = 4]) rfl rfl (fs_oc fs_ob0 (fs_oc fs_ob1 trivial)) (Or.inl rfl) ?_
    exact fs_qi (by unfold rq_count; rw [if_neg (by omega), if_neg (by omega), if_neg (by omega), if_pos (by omega)]) hq0
  by_cases h5 : w = 4
  · have eh5 : ((1 : Nat) + fs_sw 108 0 8 #[51, 59, 67, 72, 80, 80, 80, 92, 100] w : Int).toNat = 81 := by rw [h5]; decide
    rw [eh5]
    have q0 := vlc 0 (by omega) (by omega)
    have q1 := vlc 1 (by omega) (by omega)
    have q2 := vlc 2 (by omega) (by omega)
    refine fs_r_iret (a := (M 10 (w - 4))) (L1 := [some (.inr (.ref 0)), some (.inl w)]) (M1 := M) (ob := [0 < fs_N ∧ fs_kd 0 = 5, 5 < fs_N ∧ fs_kd 5 = 0, fs_rg (w - 4), (10 < fs_N ∧ fs_kd 10 = 100) ∧ (0 : Int) ≤ (w - 4) ∧ (w - 4) < fs_ln 10]) rfl rfl (fs_oc fs_ob0 (fs_oc fs_ob5 (fs_oc ⟨by omega, by omega⟩ (fs_oc (fs_ar10 (by omega) (by omega)) trivial)))) (Or.inl rfl) ?_
    first
      | (have e : w = 4 := by assumption
         subst e
         exact fs_qi q0 hq0)
      | (have e : w = 5 := by assumption
         subst e
         exact fs_qi q1 hq0)
      | (have e : w = 6 := by assumption
         subst e
         exact fs_qi q2 hq0)
  by_cases h6 : w = 5
  · have eh6 : ((1 : Nat) + fs_sw 108 0 8 #[51, 59, 67, 72, 80, 80, 80, 92, 100] w : Int).toNat = 81 := by rw [h6]; decide
    rw [eh6]
    have q0 := vlc 0 (by omega) (by omega)
    have q1 := vlc 1 (by omega) (by omega)
    have q2 := vlc 2 (by omega) (by omega)
    refine fs_r_iret (a := (M 10 (w - 4))) (L1 := [some (.inr (.ref 0)), some (.inl w)]) (M1 := M) (ob := [0 < fs_N ∧ fs_kd 0 = 5, 5 < fs_N ∧ fs_kd 5 = 0, fs_rg (w - 4), (10 < fs_N ∧ fs_kd 10 = 100) ∧ (0 : Int) ≤ (w - 4) ∧ (w - 4) < fs_ln 10]) rfl rfl (fs_oc fs_ob0 (fs_oc fs_ob5 (fs_oc ⟨by omega, by omega⟩ (fs_oc (fs_ar10 (by omega) (by omega)) trivial)))) (Or.inl rfl) ?_
    first
      | (have e : w = 4 := by assumption
         subst e
         exact fs_qi q0 hq0)
      | (have e : w = 5 := by assumption
         subst e
         exact fs_qi q1 hq0)
      | (have e : w = 6 := by assumption
         subst e
         exact fs_qi q2 hq0)
  by_cases h7 : w = 6
  · have eh7 : ((1 : Nat) + fs_sw 108 0 8 #[51, 59, 67, 72, 80, 80, 80, 92, 100] w : Int).toNat = 81 := by rw [h7]; decide
    rw [eh7]
    have q0 := vlc 0 (by omega) (by omega)
    have q1 := vlc 1 (by omega) (by omega)
    have q2 := vlc 2 (by omega) (by omega)
    refine fs_r_iret (a := (M 10 (w - 4))) (L1 := [some (.inr (.ref 0)), some (.inl w)]) (M1 := M) (ob := [0 < fs_N ∧ fs_kd 0 = 5, 5 < fs_N ∧ fs_kd 5 = 0, fs_rg (w - 4), (10 < fs_N ∧ fs_kd 10 = 100) ∧ (0 : Int) ≤ (w - 4) ∧ (w - 4) < fs_ln 10]) rfl rfl (fs_oc fs_ob0 (fs_oc fs_ob5 (fs_oc ⟨by omega, by omega⟩ (fs_oc (fs_ar10 (by omega) (by omega)) trivial)))) (Or.inl rfl) ?_
    first
      | (have e : w = 4 := by assumption
         subst e
         exact fs_qi q0 hq0)
      | (have e : w = 5 := by assumption
         subst e
         exact fs_qi q1 hq0)
      | (have e : w = 6 := by assumption
         subst e
         exact fs_qi q2 hq0)
  by_cases h8 : w = 7
  · have eh8 : ((1 : Nat) + fs_sw 108 0 8 #[51, 59, 67, 72, 80, 80, 80, 92, 100] w : Int).toNat = 93 := by rw [h8]; decide
    rw [eh8]
    refine fs_r_call (sta := false) (idx := 368) (as := [.inr (.ref 5)]) (rest := []) (L1 := [some (.inr (.ref 0)), some (.inl w)]) (st1 := [.inr (.ref 5)]) (M1 := M) (ob := [0 < fs_N ∧ fs_kd 0 = 5]) rfl rfl rfl (fs_oc fs_ob0 trivial) rfl rfl (Nat.le_of_ble_eq_true rfl) ⟨Or.inr (Nat.le_of_ble_eq_true rfl), Or.inr fs_ob5⟩ (by decide) ?_
    refine fs_c_loanCount (N := N) (by assumption) (by assumption) ?_
    refine fs_r_iret (a := (mm_loans N)) (L1 := [some (.inr (.ref 0)), some (.inl w)]) (M1 := M) (ob := []) rfl rfl trivial (Or.inl rfl) ?_
    exact fs_qi (by unfold rq_count; rw [if_neg (by omega), if_neg (by omega), if_neg (by omega), if_neg (by omega), if_neg (by omega), if_neg (by omega), if_neg (by omega), if_pos (by omega)]) hq0
  by_cases h9 : w = 8
  · have eh9 : ((1 : Nat) + fs_sw 108 0 8 #[51, 59, 67, 72, 80, 80, 80, 92, 100] w : Int).toNat = 101 := by rw [h9]; decide
    rw [eh9]
    refine fs_r_call (sta := false) (idx := 371) (as := [.inr (.ref 5)]) (rest := []) (L1 := [some (.inr (.ref 0)), some (.inl w)]) (st1 := [.inr (.ref 5)]) (M1 := M) (ob := [0 < fs_N ∧ fs_kd 0 = 5]) rfl rfl rfl (fs_oc fs_ob0 trivial) rfl rfl (Nat.le_of_ble_eq_true rfl) ⟨Or.inr (Nat.le_of_ble_eq_true rfl), Or.inr fs_ob5⟩ (by decide) ?_
    refine fs_c_heldOfAll (N := N) (by assumption) (by assumption) ?_
    refine fs_r_iret (a := (fs_sum (N 0).toNat (fun q => mm_held N q))) (L1 := [some (.inr (.ref 0)), some (.inl w)]) (M1 := M) (ob := []) rfl rfl trivial (Or.inl rfl) ?_
    exact fs_qi (by unfold rq_count; rw [if_neg (by omega), if_neg (by omega), if_neg (by omega), if_neg (by omega), if_neg (by omega), if_neg (by omega), if_neg (by omega), if_neg (by omega), if_pos (by omega)]; exact held_all hN hZ) hq0
  have h10 : ((1 : Nat) + fs_sw 108 0 8 #[51, 59, 67, 72, 80, 80, 80, 92, 100] w : Int).toNat = 109 := by unfold fs_sw; rw [if_pos (by omega)]; rfl
  rw [h10]
  skip
  refine fs_r_iret (a := (-1)) (L1 := [some (.inr (.ref 0)), some (.inl w)]) (M1 := M) (ob := []) rfl rfl trivial (Or.inl rfl) ?_
  exact fs_qi (by unfold rq_count; rw [if_neg (by omega), if_neg (by omega), if_neg (by omega), if_neg (by omega), if_neg (by omega), if_neg (by omega), if_neg (by omega), if_neg (by omega), if_neg (by omega)]) hq0
