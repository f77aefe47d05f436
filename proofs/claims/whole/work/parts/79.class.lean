theorem lvA_f {N : Int → Int} {H x k : Int} (hx : 0 ≤ x ∧ x < 6) (hk : 0 ≤ k ∧ k < 5) : lvA N H (10 + 5 * x + k) = if k = 0 ∧ x < H then min (N (10 + 5 * x + 0) + lv_m N x (N 0).toNat) 9999 else N (10 + 5 * x + k) := by
  unfold lvA
  by_cases z : k = 0 ∧ x < H
  · rw [if_pos z, if_pos (by omega), z.1, show (10 + 5 * x + 0 - 10) / 5 = x by omega]
  · rw [if_neg z, if_neg (by omega), if_neg (by omega)]
theorem lvA_d {N : Int → Int} {H x k : Int} (hx : 0 ≤ x ∧ x < 6) (hk : 0 ≤ k ∧ k < 4) : lvA N H (40 + 4 * x + k) = if x < H ∧ k < N 0 then N (40 + 4 * x + k) - lv_n N x k else N (40 + 4 * x + k) := by
  unfold lvA
  rw [if_neg (show ¬ (10 ≤ 40 + 4 * x + k ∧ 40 + 4 * x + k < 40 ∧ (40 + 4 * x + k - 10) % 5 = 0 ∧ (40 + 4 * x + k - 10) / 5 < H) by omega), show (40 + 4 * x + k - 40) / 4 = x by omega, show (40 + 4 * x + k - 40) % 4 = k by omega]
  by_cases z : x < H ∧ k < N 0
  · rw [if_pos z, if_pos (by omega)]
  · rw [if_neg z, if_neg (by omega)]
theorem vw_sell {R M6 : fs_M} {N : Int → Int} {h : Int} (hV : vw 5 R (lvA N h)) (hh : 0 ≤ h ∧ h < 6) (f : ∀ r, r ≠ 7 → r ≠ 8 → 5 ≤ r → r ≤ 11 → M6 r = R r) (c7 : ∀ x k, 0 ≤ x → x < 6 → 0 ≤ k → k < 5 → M6 7 (x * 5 + k) = if x = h ∧ k = 0 then min (N (10 + 5 * h + 0) + lv_m N h (N 0).toNat) 9999 else R 7 (x * 5 + k))
    (c8 : ∀ x k, 0 ≤ x → x < 6 → 0 ≤ k → k < 4 → M6 8 (x * 4 + k) = if x = h ∧ k < N 0 then R 8 (x * 4 + k) - lv_n N h k else R 8 (x * 4 + k)) : vw 5 M6 (lvA N (h + 1)) := by
  obtain ⟨v0, v1, vcv, vfc, vhd, vln, vlc, vit⟩ := vw5 hV
  have e : ∀ q, (q < 10 ∨ 64 ≤ q) → lvA N (h + 1) q = lvA N h q := fun q z => by rw [lvA_at (by omega) (by omega), lvA_at (by omega) (by omega)]
  refine vw5.of ⟨?_, ?_, fun q q0 q1 => ⟨?_, ?_⟩, fun x k x0 x1 w0 w1 z => ?_, fun x k x0 x1 w0 w1 => ?_, fun x k x0 x1 w0 w1 => ?_, fun s x0 x1 => ?_, fun s p k x0 x1 p0 p1 w0 w1 => ?_⟩
  · rw [f 5 (by decide) (by decide) (by decide) (by decide), e 0 (by omega)]
    exact v0
  · rw [f 5 (by decide) (by decide) (by decide) (by decide), e 1 (by omega)]
    exact v1
  · rw [f 6 (by decide) (by decide) (by decide) (by decide), e _ (by omega)]
    exact (vcv q q0 q1).1
  · rw [f 6 (by decide) (by decide) (by decide) (by decide), e _ (by omega)]
    exact (vcv q q0 q1).2
  · rw [e 1 (by omega)] at z
    rw [c7 x k x0 x1 w0 w1, lvA_f ⟨x0, x1⟩ ⟨w0, w1⟩]
    by_cases y : x = h ∧ k = 0
    · rw [if_pos y, if_pos (by omega), y.1]
    · rw [if_neg y, vfc x k x0 x1 w0 w1 z, lvA_f ⟨x0, x1⟩ ⟨w0, w1⟩]
      by_cases y2 : k = 0 ∧ x < h
      · rw [if_pos y2, if_pos (by omega)]
      · rw [if_neg y2, if_neg (by omega)]
  · rw [c8 x k x0 x1 w0 w1, lvA_d ⟨x0, x1⟩ ⟨w0, w1⟩, vhd x k x0 x1 w0 w1, lvA_d ⟨x0, x1⟩ ⟨w0, w1⟩]
    by_cases y : x = h ∧ k < N 0
    · rw [if_pos y, if_pos (show x < h + 1 ∧ k < N 0 by omega), if_neg (by omega), y.1]
    · rw [if_neg y]
      by_cases y2 : x < h ∧ k < N 0
      · rw [if_pos y2, if_pos (by omega)]
      · rw [if_neg y2, if_neg (by omega)]
  · rw [f 9 (by decide) (by decide) (by decide) (by decide), e _ (by omega)]
    exact vln x k x0 x1 w0 w1
  · rw [f 10 (by decide) (by decide) (by decide) (by decide), e _ (by omega)]
    exact vlc s x0 x1
  · rw [e _ (by omega)] at p1
    rw [f 11 (by decide) (by decide) (by decide) (by decide), e _ (by omega)]
    exact vit s p k x0 x1 p0 p1 w0 w1
theorem vw_empty {M W : fs_M} {K : Int → Int} {h : Int} (hV : vw 5 M K) (hh : 0 ≤ h ∧ h < 6) (f : ∀ r, r ≠ 7 → r ≠ 8 → r ≠ 9 → W r = M r) (c7 : ∀ q, W 7 q = if h * 5 ≤ q ∧ q < h * 5 + 3 then 0 else M 7 q) (c8 : ∀ q, W 8 q = if h * 4 ≤ q ∧ q < h * 4 + 4 then 0 else M 8 q)
    (c9 : ∀ a o, 0 ≤ a → a < 6 → 0 ≤ o → o < 6 → W 9 (a * 6 + o) = if a = h ∨ o = h then 0 else M 9 (a * 6 + o)) : vw 5 W (fun q => if (10 + 5 * h ≤ q ∧ q < 10 + 5 * h + 3) ∨ (40 + 4 * h ≤ q ∧ q < 40 + 4 * h + 4) ∨ (64 ≤ q ∧ q < 100 ∧ ((q - 64) / 6 = h ∨ (q - 64) % 6 = h)) then 0 else K q) := by
  obtain ⟨v0, v1, vcv, vfc, vhd, vln, vlc, vit⟩ := vw5 hV
  refine vw5.of ⟨?_, ?_, fun q q0 q1 => ⟨?_, ?_⟩, fun x k x0 x1 w0 w1 z => ?_, fun x k x0 x1 w0 w1 => ?_, fun x k x0 x1 w0 w1 => ?_, fun s x0 x1 => ?_, fun s p k x0 x1 p0 p1 w0 w1 => ?_⟩
  · rw [f 5 (by decide) (by decide) (by decide)]
    show _ = if _ then _ else _
    rw [if_neg (by omega)]
    exact v0
  · rw [f 5 (by decide) (by decide) (by decide)]
    show _ = if _ then _ else _
    rw [if_neg (by omega)]
    exact v1
  · rw [f 6 (by decide) (by decide) (by decide)]
    show _ = if _ then _ else _
    rw [if_neg (by omega)]
    exact (vcv q q0 q1).1
  · rw [f 6 (by decide) (by decide) (by decide)]
    show _ = if _ then _ else _
    rw [if_neg (by omega)]
    exact (vcv q q0 q1).2
  · rw [c7]
    show _ = if (10 + 5 * h ≤ 10 + 5 * x + k ∧ 10 + 5 * x + k < 10 + 5 * h + 3) ∨ _ then _ else _
    have z2 : x < K 1 ∨ k < 3 := by
      rcases z with z | z
      · left
        have e : (if (10 + 5 * h ≤ (1 : Int) ∧ (1 : Int) < 10 + 5 * h + 3) ∨ (40 + 4 * h ≤ (1 : Int) ∧ (1 : Int) < 40 + 4 * h + 4) ∨ (64 ≤ (1 : Int) ∧ (1 : Int) < 100 ∧ (((1 : Int) - 64) / 6 = h ∨ ((1 : Int) - 64) % 6 = h)) then 0 else K 1) = K 1 := if_neg (by omega)
        have z : x < (if (10 + 5 * h ≤ (1 : Int) ∧ (1 : Int) < 10 + 5 * h + 3) ∨ (40 + 4 * h ≤ (1 : Int) ∧ (1 : Int) < 40 + 4 * h + 4) ∨ (64 ≤ (1 : Int) ∧ (1 : Int) < 100 ∧ (((1 : Int) - 64) / 6 = h ∨ ((1 : Int) - 64) % 6 = h)) then 0 else K 1) := z
        rw [e] at z
        exact z
      · exact Or.inr z
    by_cases y : h * 5 ≤ x * 5 + k ∧ x * 5 + k < h * 5 + 3
    · rw [if_pos y, if_pos (by omega)]
    · rw [if_neg y, if_neg (by omega)]
      exact vfc x k x0 x1 w0 w1 z2
  · rw [c8]
    show _ = if _ then _ else _
    by_cases y : h * 4 ≤ x * 4 + k ∧ x * 4 + k < h * 4 + 4
    · rw [if_pos y, if_pos (by omega)]
    · rw [if_neg y, if_neg (by omega)]
      exact vhd x k x0 x1 w0 w1
  · rw [c9 x k x0 x1 w0 w1]
    show _ = if _ then _ else _
    by_cases y : x = h ∨ k = h
    · rw [if_pos y, if_pos (by omega)]
    · rw [if_neg y, if_neg (by omega)]
      exact vln x k x0 x1 w0 w1
  · rw [f 10 (by decide) (by decide) (by decide)]
    show _ = if _ then _ else _
    rw [if_neg (by omega)]
    exact vlc s x0 x1
  · have p2 : p < K (100 + 13 * s) := by
      have e : (if (10 + 5 * h ≤ 100 + 13 * s ∧ 100 + 13 * s < 10 + 5 * h + 3) ∨ (40 + 4 * h ≤ 100 + 13 * s ∧ 100 + 13 * s < 40 + 4 * h + 4) ∨ (64 ≤ 100 + 13 * s ∧ 100 + 13 * s < 100 ∧ ((100 + 13 * s - 64) / 6 = h ∨ (100 + 13 * s - 64) % 6 = h)) then 0 else K (100 + 13 * s)) = K (100 + 13 * s) := if_neg (by omega)
      have p1 : p < (if (10 + 5 * h ≤ 100 + 13 * s ∧ 100 + 13 * s < 10 + 5 * h + 3) ∨ (40 + 4 * h ≤ 100 + 13 * s ∧ 100 + 13 * s < 40 + 4 * h + 4) ∨ (64 ≤ 100 + 13 * s ∧ 100 + 13 * s < 100 ∧ ((100 + 13 * s - 64) / 6 = h ∨ (100 + 13 * s - 64) % 6 = h)) then 0 else K (100 + 13 * s)) := p1
      rw [e] at p1
      exact p1
    rw [f 11 (by decide) (by decide) (by decide)]
    show _ = if _ then _ else _
    rw [if_neg (by omega)]
    exact vit s p k x0 x1 p0 p2 w0 w1
theorem fs_c_sellAsFound {d : Nat} {M : fs_M} {Q : Option fs_V → fs_M → Prop}  {N : Int → Int} (hV : vw 5 M N) (hN : fs_NI N) (hd : fdE M (ec_pl N) (lv_S N)) (hq0 : ∀ (M2 : fs_M), (∀ r, r ≠ 7 → r ≠ 8 → r ≠ 26 → r ≠ 34 → r ≠ 35 → r ≠ 37 → M2 r = M r) → (vw 5 M2 (lvA N (N 1))) → Q none M2) : fs_W (d + 3) 141 0 [some (.inr (.ref 0)), none, none, none, none] [] M Q := by
  obtain ⟨v0, v1, vcv, vfc, vhd, vln, vlc, vit⟩ := vw5 hV
  obtain ⟨⟨hA0, hA1⟩, ⟨hH0, hH1⟩, hcv, hfc, hhd, hln, hsh, hit, hst⟩ := id hN
  refine fs_r_call (sta := false) (idx := 257) (as := [.inr (.ref 20), .inr (.ref 32)]) (rest := []) (L1 := [some (.inr (.ref 0)), none, none, none, none]) (st1 := [.inr (.ref 32), .inr (.ref 20)]) (M1 := M) (ob := [0 < fs_N ∧ fs_kd 0 = 5, 0 < fs_N ∧ fs_kd 0 = 5]) rfl rfl rfl (fs_oc fs_ob0 (fs_oc fs_ob0 trivial)) rfl rfl (Nat.le_of_ble_eq_true rfl) ⟨Or.inr (Nat.le_of_ble_eq_true rfl), Or.inr fs_ob20⟩ (by decide) ?_
  refine fs_c_priceBy (hd.b) (hd.S) (fun (P : fs_M) (pf : ∀ r, r ≠ 26 → P r = M r) (pp : ∀ q, 0 ≤ q → q < M 20 0 → P 26 q = ec_price (mk M) q (M 33 q)) => ?_)
  refine fs_r_call (sta := false) (idx := 380) (as := [.inr (.ref 34), .inr (.ref 32)]) (rest := []) (L1 := [some (.inr (.ref 0)), none, none, none, none]) (st1 := [.inr (.ref 32), .inr (.ref 34)]) (M1 := P) (ob := [0 < fs_N ∧ fs_kd 0 = 5, 0 < fs_N ∧ fs_kd 0 = 5]) rfl rfl rfl (fs_oc fs_ob0 (fs_oc fs_ob0 trivial)) rfl rfl (Nat.le_of_ble_eq_true rfl) ⟨Or.inr (Nat.le_of_ble_eq_true rfl), Or.inr fs_ob34⟩ (by decide) ?_
  refine fs_c_copy34 ?_
  refine fs_r_nop (L1 := [some (.inr (.ref 0)), some (.inl 0), none, none, none]) (st1 := []) (M1 := (fs_up (fs_cp P 33 35 4) 34 1 (P 32 1))) (ob := [1 < 5]) rfl rfl (fs_oc (by decide) trivial) ?_
  have loop24 : ∀ (n24 : Nat) (h : Int) (zl2 : Option fs_V) (zl3 : Option fs_V) (zl4 : Option fs_V) (M3 : fs_M), (0 ≤ h ∧ h ≤ N 1) → (∀ r, r ≠ 7 → r ≠ 8 → r ≠ 26 → r ≠ 34 → r ≠ 35 → r ≠ 37 → M3 r = M r) → (∀ q, 0 ≤ q → q < N 0 → M3 26 q = lv_c N q) → (∀ q, 0 ≤ q → q < N 0 → M3 35 q = lv_l N q h.toNat) → (vw 5 M3 (lvA N h)) → N 1 - h < (n24 : Int) → fs_W (d + 3) 141 24 [some (.inr (.ref 0)), some (.inl h), zl2, zl3, zl4] [] M3 Q := by
    intro n24
    induction n24 with
    | zero =>
      intro h zl2 zl3 zl4 M3 i3 f3 p3 l3 v3 hm24
      exfalso
      omega
    | succ n24 ih24 =>
      intro h zl2 zl3 zl4 M3 i3 f3 p3 l3 v3 hm24
      have g51 : M3 5 1 = M 5 1 := by rw [f3 5 (by decide) (by decide) (by decide) (by decide) (by decide) (by decide)]
      refine fs_r_icmp (a := h) (y := (M3 5 1)) (L1 := [some (.inr (.ref 0)), some (.inl h), zl2, zl3, zl4]) (st1 := []) (M1 := M3) (ob := [0 < fs_N ∧ fs_kd 0 = 5, 5 < fs_N ∧ fs_kd 5 = 0]) rfl rfl (fs_oc fs_ob0 (fs_oc fs_ob5 trivial)) (fun (h1 : (M3 5 1) ≤ h) => ?_) (fun (h1 : ¬ ((M3 5 1) ≤ h)) => ?_)
      · refine fs_r_ret (L1 := [some (.inr (.ref 0)), some (.inl h), zl2, zl3, zl4]) (M1 := M3) (ob := []) rfl rfl trivial ?_
        exact hq0 _ f3 (by rw [show N 1 = h by omega]; exact v3)
      have d3 : fdE M3 (ec_pl N) (lv_S N) := hd.fr (fun r q1 q2 q3 => f3 r (by omega) (by omega) (by omega) (by omega) (by omega) (by omega))
      have c3 : ∀ r, r ≠ 37 → fs_cl M3 37 4 r = M3 r := fun r q => fs_cl_o q
      have d4 : fdE (fs_cl M3 37 4) (ec_pl N) (lv_S N) := d3.fr (fun r q1 q2 q3 => c3 r (by omega))
      have n0 : M3 20 0 = N 0 := d3.n0
      have n1 : M3 20 1 = N 1 := d3.n1
      have k0 : fs_cl M3 37 4 20 = M3 20 := c3 20 (by decide)
      have k00 := congrFun k0 0
      have k01 := congrFun k0 1
      have sd : ∀ q, 0 ≤ q → q < 4 → M3 33 q = lv_S N q := fun q q0 q1 => by rw [← d3.2.2.1, sst_at ⟨q0, q1⟩]
      have p4 : ∀ q, 0 ≤ q → q < fs_cl M3 37 4 20 0 → fs_cl M3 37 4 26 q = ec_price (mk (fs_cl M3 37 4)) q (fs_cl M3 37 4 33 q) := fun q q0 q1 => by
        rw [c3 26 (by decide), c3 33 (by decide), p3 q q0 (by omega), sd q q0 (by omega), d4.2.1.price q0 (by show q < fs_cl M3 37 4 20 0; exact q1)]
        rfl
      have we : ec_worth (mk (fs_cl M3 37 4)) (sst (fs_cl M3 37 4) 32) h = ec_worth (ec_pl N) (lv_S N) h := d4.worth (by omega) (by omega)
      have wb := mk_worth_b (S := sst (fs_cl M3 37 4) 32) (h := h) d4.b (by omega) (fun q q0 q1 => by rw [d4.2.2.1]; exact ((lv_S_b hN).1 q q0 q1).1)
      have de : ec_due (mk (fs_cl M3 37 4)) h (ec_worth (mk (fs_cl M3 37 4)) (sst (fs_cl M3 37 4) 32) h) = ec_due (ec_pl N) h (ec_worth (ec_pl N) (lv_S N) h) := by rw [we, d4.2.1.due (by omega) (by show h < fs_cl M3 37 4 20 1; omega)]
      have db := mk_due_b (h := h) (w := ec_worth (mk (fs_cl M3 37 4)) (sst (fs_cl M3 37 4) 32) h) d4.b (by omega)
      refine fs_r_call (sta := true) (idx := 268) (as := [.inr (.ref 37)]) (rest := []) (L1 := [some (.inr (.ref 0)), some (.inl h), zl2, zl3, zl4]) (st1 := [.inr (.ref 37)]) (M1 := M3) (ob := [0 < fs_N ∧ fs_kd 0 = 5]) rfl rfl rfl (fs_oc fs_ob0 trivial) rfl rfl (Nat.le_of_ble_eq_true rfl) ⟨Or.inr (Nat.le_of_ble_eq_true rfl), trivial⟩ (by decide) ?_
      refine fs_c_clear (n := 4) (by first | assumption | exact ⟨by decide, by decide, by decide⟩) (by omega) ?_
      refine fs_r_call (sta := false) (idx := 261) (as := [.inr (.ref 20), .inl h, .inr (.ref 32)]) (rest := [.inl h, .inr (.ref 20), .inl h, .inr (.ref 20)]) (L1 := [some (.inr (.ref 0)), some (.inl h), zl2, zl3, zl4]) (st1 := [.inr (.ref 32), .inl h, .inr (.ref 20), .inl h, .inr (.ref 20), .inl h, .inr (.ref 20)]) (M1 := (fs_cl M3 37 4)) (ob := [0 < fs_N ∧ fs_kd 0 = 5, 0 < fs_N ∧ fs_kd 0 = 5, 0 < fs_N ∧ fs_kd 0 = 5, 0 < fs_N ∧ fs_kd 0 = 5]) rfl rfl (fs_exA 6 (o1 := [0 < fs_N ∧ fs_kd 0 = 5, 0 < fs_N ∧ fs_kd 0 = 5]) (L1 := [some (.inr (.ref 0)), some (.inl h), zl2, zl3, zl4]) (st1 := [.inl h, .inr (.ref 20), .inl h, .inr (.ref 20)]) (M1 := (fs_cl M3 37 4)) (o2 := [0 < fs_N ∧ fs_kd 0 = 5, 0 < fs_N ∧ fs_kd 0 = 5]) rfl rfl) (fs_oc fs_ob0 (fs_oc fs_ob0 (fs_oc fs_ob0 (fs_oc fs_ob0 trivial)))) rfl rfl (Nat.le_of_ble_eq_true rfl) ⟨Or.inr (Nat.le_of_ble_eq_true rfl), Or.inr fs_ob20⟩ (by decide) ?_
      refine fs_c_worthOf (d4.b) (d4.S) (by omega) (p4) ?_
      refine fs_r_call (sta := false) (idx := 265) (as := [.inr (.ref 20), .inl h, .inl (ec_worth (mk (fs_cl M3 37 4)) (sst (fs_cl M3 37 4) 32) h)]) (rest := [.inl h, .inr (.ref 20)]) (L1 := [some (.inr (.ref 0)), some (.inl h), zl2, zl3, zl4]) (st1 := [.inl (ec_worth (mk (fs_cl M3 37 4)) (sst (fs_cl M3 37 4) 32) h), .inl h, .inr (.ref 20), .inl h, .inr (.ref 20)]) (M1 := (fs_cl M3 37 4)) (ob := []) rfl rfl rfl trivial rfl rfl (Nat.le_of_ble_eq_true rfl) ⟨Or.inr (Nat.le_of_ble_eq_true rfl), Or.inr fs_ob20⟩ (by decide) ?_
      refine fs_c_dueOf (d4.b) (by omega) (wb) ?_
      refine fs_r_call (sta := false) (idx := 272) (as := [.inr (.ref 20), .inl h, .inl (ec_due (mk (fs_cl M3 37 4)) h (ec_worth (mk (fs_cl M3 37 4)) (sst (fs_cl M3 37 4) 32) h)), .inr (.ref 37)]) (rest := []) (L1 := [some (.inr (.ref 0)), some (.inl h), zl2, zl3, zl4]) (st1 := [.inr (.ref 37), .inl (ec_due (mk (fs_cl M3 37 4)) h (ec_worth (mk (fs_cl M3 37 4)) (sst (fs_cl M3 37 4) 32) h)), .inl h, .inr (.ref 20)]) (M1 := (fs_cl M3 37 4)) (ob := [0 < fs_N ∧ fs_kd 0 = 5]) rfl rfl rfl (fs_oc fs_ob0 trivial) rfl rfl (Nat.le_of_ble_eq_true rfl) ⟨Or.inr (Nat.le_of_ble_eq_true rfl), Or.inr fs_ob20⟩ (by decide) ?_
      refine fs_c_addSales37 (d4.b) (by omega) (by omega) (fun q q0 q1 => by rw [fs_cl_i q0 q1]; omega) (fun (R : fs_M) (rf : ∀ r, r ≠ 37 → R r = (fs_cl M3 37 4) r) (rp : ∀ q, 0 ≤ q → q < 4 → R 37 q = (fs_cl M3 37 4) 37 q + (if q < (fs_cl M3 37 4) 20 0 then ec_part (mk (fs_cl M3 37 4)) h (ec_due (mk (fs_cl M3 37 4)) h (ec_worth (mk (fs_cl M3 37 4)) (sst (fs_cl M3 37 4) 32) h)) q else 0)) => ?_)
      have pq : ∀ q, 0 ≤ q → q < N 0 → R 37 q = lv_p N h q := fun q q0 q1 => by
        rw [rp q q0 (by omega), fs_cl_i q0 (by omega), if_pos (by omega), de, d4.2.1.part (by omega) (by show h < fs_cl M3 37 4 20 1; omega) q0 (by show q < fs_cl M3 37 4 20 0; omega)]
        show 0 + lv_p N h q = _
        omega
      have vR : vw 5 R (lvA N h) := v3.fr (fun r q1 q2 => (rf r (by omega)).trans (c3 r (by omega)))
      obtain ⟨w0, w1, wcv, wfc, whd, -⟩ := vw5 vR
      have c70 : R 7 ((h * 5) + 0) = N (10 + 5 * h + 0) := by
        rw [wfc h 0 (by omega) (by omega) (by omega) (by omega) (Or.inr (by omega)), lvA_f (by omega) (by omega), if_neg (by omega)]
      have r35 : ∀ q, 0 ≤ q → q < N 0 → R 35 q = lv_l N q h.toNat := fun q q0 q1 => by rw [rf 35 (by decide), c3 35 (by decide)]; exact l3 q q0 q1
      have r26 : ∀ q, 0 ≤ q → q < N 0 → R 26 q = lv_c N q := fun q q0 q1 => by rw [rf 26 (by decide), c3 26 (by decide)]; exact p3 q q0 q1
      have r50 : R 5 0 = N 0 := by rw [rf 5 (by decide), c3 5 (by decide), f3 5 (by decide) (by decide) (by decide) (by decide) (by decide) (by decide)]; exact v0
      refine fs_r_call (sta := false) (idx := 224) (as := [.inr (.ref 5), .inl h, .inl 0]) (rest := []) (L1 := [some (.inr (.ref 0)), some (.inl h), zl2, zl3, zl4]) (st1 := [.inl 0, .inl h, .inr (.ref 5)]) (M1 := R) (ob := [0 < fs_N ∧ fs_kd 0 = 5]) rfl rfl rfl (fs_oc fs_ob0 trivial) rfl rfl (Nat.le_of_ble_eq_true rfl) ⟨Or.inr (Nat.le_of_ble_eq_true rfl), Or.inr fs_ob5⟩ (by decide) ?_
      refine fs_c_fact (by first | exact Or.inl rfl | exact Or.inr (Or.inl rfl) | assumption) (by omega) (by omega) ?_
      refine fs_r_nop (L1 := [some (.inr (.ref 0)), some (.inl h), some (.inl (R 7 ((h * 5) + 0))), some (.inl 0), zl4]) (st1 := []) (M1 := R) (ob := [2 < 5, 3 < 5]) rfl rfl (fs_oc (by decide) (fs_oc (by decide) trivial)) ?_
      have loop86 : ∀ (n86 : Nat) (c : Int) (a : Int) (zl4 : Option fs_V) (M5 : fs_M), (0 ≤ a ∧ a ≤ N 0) → (c = N (10 + 5 * h + 0) + lv_m N h a.toNat) → (0 ≤ lv_m N h a.toNat ∧ lv_m N h a.toNat ≤ 12000 * a) → (∀ r, r ≠ 8 → r ≠ 35 → M5 r = R r) → (∀ q, 0 ≤ q → q < N 0 → M5 35 q = if q < a then lv_l N q (h + 1).toNat else lv_l N q h.toNat) → (∀ x y, 0 ≤ x → x < 6 → 0 ≤ y → y < 4 → M5 8 (x * 4 + y) = if x = h ∧ y < a then R 8 (x * 4 + y) - lv_n N h y else R 8 (x * 4 + y)) → N 0 - a < (n86 : Int) → fs_W (d + 3) 141 86 [some (.inr (.ref 0)), some (.inl h), some (.inl c), some (.inl a), zl4] [] M5 Q := by
        intro n86
        induction n86 with
        | zero =>
          intro c a zl4 M5 i5 c0 c1 f5 l5 h5 hm86
          exfalso
          omega
        | succ n86 ih86 =>
          intro c a zl4 M5 i5 c0 c1 f5 l5 h5 hm86
          have g50 : M5 5 0 = N 0 := by rw [f5 5 (by decide) (by decide)]; exact r50
          have fcb := hfc h 0 (by omega) (by omega) (by omega) (by omega)
          refine fs_r_icmp (a := a) (y := (M5 5 0)) (L1 := [some (.inr (.ref 0)), some (.inl h), some (.inl c), some (.inl a), zl4]) (st1 := []) (M1 := M5) (ob := [0 < fs_N ∧ fs_kd 0 = 5, 5 < fs_N ∧ fs_kd 5 = 0]) rfl rfl (fs_oc fs_ob0 (fs_oc fs_ob5 trivial)) (fun (h2 : (M5 5 0) ≤ a) => ?_) (fun (h2 : ¬ ((M5 5 0) ≤ a)) => ?_)
          · refine fs_r_nat (v := .inl (min 9999 c)) (sta := true) (idx := 166) (as := [.inl 9999, .inl c]) (rest := [.inl 0, .inl h, .inr (.ref 5)]) (L1 := [some (.inr (.ref 0)), some (.inl h), some (.inl c), some (.inl a), zl4]) (st1 := [.inl c, .inl 9999, .inl 0, .inl h, .inr (.ref 5)]) (M1 := M5) (ob := [0 < fs_N ∧ fs_kd 0 = 5]) rfl rfl rfl (fs_oc fs_ob0 trivial) rfl rfl (Nat.le_of_ble_eq_true rfl) ⟨Or.inl (by decide), trivial⟩ (by decide) (rfl) ?_
            refine fs_r_call (sta := false) (idx := 113) (as := [.inr (.ref 5), .inl h, .inl 0, .inl (min 9999 c)]) (rest := []) (L1 := [some (.inr (.ref 0)), some (.inl h), some (.inl c), some (.inl a), zl4]) (st1 := [.inl (min 9999 c), .inl 0, .inl h, .inr (.ref 5)]) (M1 := M5) (ob := []) rfl rfl rfl trivial rfl rfl (Nat.le_of_ble_eq_true rfl) ⟨Or.inr (Nat.le_of_ble_eq_true rfl), Or.inr fs_ob5⟩ (by decide) ?_
            refine fs_c_setFact (by first | exact Or.inl rfl | exact Or.inr (Or.inl rfl) | assumption) (by omega) (by omega) ?_
            refine fs_r_goto (L1 := [some (.inr (.ref 0)), some (.inl (h + 1)), some (.inl c), some (.inl a), zl4]) (st1 := []) (M1 := (fs_up M5 7 ((h * 5) + 0) (min 9999 c))) (ob := [fs_rg (h + 1)]) rfl rfl (fs_oc ⟨by omega, by omega⟩ trivial) ?_
            exact ih24 ((h + 1)) (some (.inl c)) (some (.inl a)) (zl4) (fs_up M5 7 ((h * 5) + 0) (min 9999 c)) (by omega) (fun r q1 q2 q3 q4 q5 q6 => by rw [fs_up_other q1, f5 r q2 q5, rf r q6, c3 r q6]; exact f3 r q1 q2 q3 q4 q5 q6) (fun q q0 q1 => by rw [fs_up_other (by decide), f5 26 (by decide) (by decide)]; exact r26 q q0 q1) (fun q q0 q1 => by rw [fs_up_other (by decide), l5 q q0 q1, if_pos (by omega)]) (vw_sell vR (by omega) (fun r q1 q2 q3 q4 => by rw [fs_up_other q1]; exact f5 r q2 (by omega)) (fun x k x0 x1 k0 k1 => by
                   rw [fs_up_at]
                   by_cases z : x = h ∧ k = 0
                   · rw [if_pos (by omega), if_pos z, c0, show a = N 0 by omega, Int.min_comm]
                   · rw [if_neg (by omega), if_neg z, f5 7 (by decide) (by decide)]) (fun x k x0 x1 k0 k1 => by
                   rw [fs_up_other (by decide), h5 x k x0 x1 k0 k1]
                   by_cases z : x = h ∧ k < a
                   · rw [if_pos z, if_pos (by omega)]
                   · rw [if_neg z, if_neg (by omega)])) (by omega)
          have lx : M5 35 a = lv_l N a h.toNat := by rw [l5 a (by omega) (by omega), if_neg (by omega)]
          have px : M5 37 a = lv_p N h a := by rw [f5 37 (by decide) (by decide)]; exact pq a (by omega) (by omega)
          have nx : min (M5 37 a) (M5 35 a) = lv_n N h a := by rw [lx, px]; rfl
          have nb := lv_n_b (h := h) (a := a) hN (by omega) (by omega)
          have lb := lv_l_b (a := a) hN (by omega) h.toNat (by omega)
          have cb := lv_c_b (a := a) hN (by omega)
          have mb : 0 ≤ lv_n N h a * lv_c N a ∧ lv_n N h a * lv_c N a ≤ 60 * 200 := ⟨Int.mul_nonneg nb.1 cb.1, Int.mul_le_mul nb.2 cb.2 cb.1 (by omega)⟩
          have ms : lv_m N h (a + 1).toNat = lv_m N h a.toNat + lv_n N h a * lv_c N a := fs_sum_s i5.1
          have hx : M5 8 ((h * 4) + a) = N (40 + 4 * h + a) := by rw [h5 h a (by omega) (by omega) (by omega) (by omega), if_neg (by omega), whd h a (by omega) (by omega) (by omega) (by omega), lvA_d (by omega) (by omega), if_neg (by omega)]
          have hxb := hhd h a (by omega) (by omega) (by omega) (by omega)
          refine fs_r_nat (v := .inl (min (M5 37 a) (M5 35 a))) (sta := true) (idx := 166) (as := [.inl (M5 37 a), .inl (M5 35 a)]) (rest := []) (L1 := [some (.inr (.ref 0)), some (.inl h), some (.inl c), some (.inl a), zl4]) (st1 := [.inl (M5 35 a), .inl (M5 37 a)]) (M1 := M5) (ob := [0 < fs_N ∧ fs_kd 0 = 5, (37 < fs_N ∧ fs_kd 37 = 100) ∧ (0 : Int) ≤ a ∧ a < fs_ln 37, 0 < fs_N ∧ fs_kd 0 = 5, 34 < fs_N ∧ fs_kd 34 = 3, (35 < fs_N ∧ fs_kd 35 = 100) ∧ (0 : Int) ≤ a ∧ a < fs_ln 35]) rfl rfl (fs_exA 6 (o1 := [0 < fs_N ∧ fs_kd 0 = 5, (37 < fs_N ∧ fs_kd 37 = 100) ∧ (0 : Int) ≤ a ∧ a < fs_ln 37, 0 < fs_N ∧ fs_kd 0 = 5]) (L1 := [some (.inr (.ref 0)), some (.inl h), some (.inl c), some (.inl a), zl4]) (st1 := [.inr (.ref 34), .inl (M5 37 a)]) (M1 := M5) (o2 := [34 < fs_N ∧ fs_kd 34 = 3, (35 < fs_N ∧ fs_kd 35 = 100) ∧ (0 : Int) ≤ a ∧ a < fs_ln 35]) rfl rfl) (fs_oc fs_ob0 (fs_oc (fs_ar37 (by omega) (by omega)) (fs_oc fs_ob0 (fs_oc fs_ob34 (fs_oc (fs_ar35 (by omega) (by omega)) trivial))))) rfl rfl (Nat.le_of_ble_eq_true rfl) ⟨Or.inl (by decide), trivial⟩ (by decide) (rfl) ?_
          have p9 : fs_up M5 35 a ((M5 35 a) - (min (M5 37 a) (M5 35 a))) 26 a = lv_c N a := by rw [fs_up_other (by decide), f5 26 (by decide) (by decide)]; exact r26 a (by omega) (by omega)
          have p8 : (M5 26 a) = lv_c N a := by rw [f5 26 (by decide) (by decide)]; exact r26 a (by omega) (by omega)
          have m9 : (min (M5 37 a) (M5 35 a)) * (M5 26 a) = lv_n N h a * lv_c N a := by rw [nx, p8]
          refine fs_r_call (sta := false) (idx := 227) (as := [.inr (.ref 5), .inl h, .inl a]) (rest := [.inl a, .inl h, .inr (.ref 5)]) (L1 := [some (.inr (.ref 0)), some (.inl h), some (.inl (c + ((min (M5 37 a) (M5 35 a)) * (M5 26 a)))), some (.inl a), some (.inl (min (M5 37 a) (M5 35 a)))]) (st1 := [.inl a, .inl h, .inr (.ref 5), .inl a, .inl h, .inr (.ref 5)]) (M1 := (fs_up M5 35 a ((M5 35 a) - (min (M5 37 a) (M5 35 a))))) (ob := [4 < 5, 0 < fs_N ∧ fs_kd 0 = 5, 34 < fs_N ∧ fs_kd 34 = 3, (35 < fs_N ∧ fs_kd 35 = 100) ∧ (0 : Int) ≤ a ∧ a < fs_ln 35, fs_rg ((M5 35 a) - (min (M5 37 a) (M5 35 a))), (35 < fs_N ∧ fs_kd 35 = 100) ∧ (0 : Int) ≤ a ∧ a < fs_ln 35, 0 < fs_N ∧ fs_kd 0 = 5, 20 < fs_N ∧ fs_kd 20 = 1, (26 < fs_N ∧ fs_kd 26 = 100) ∧ (0 : Int) ≤ a ∧ a < fs_ln 26, fs_rg ((min (M5 37 a) (M5 35 a)) * (M5 26 a)), fs_rg (c + ((min (M5 37 a) (M5 35 a)) * (M5 26 a))), 2 < 5, 0 < fs_N ∧ fs_kd 0 = 5, 0 < fs_N ∧ fs_kd 0 = 5]) rfl rfl (fs_exA 6 (o1 := [4 < 5, 0 < fs_N ∧ fs_kd 0 = 5, 34 < fs_N ∧ fs_kd 34 = 3]) (L1 := [some (.inr (.ref 0)), some (.inl h), some (.inl c), some (.inl a), some (.inl (min (M5 37 a) (M5 35 a)))]) (st1 := [.inl a, .inr (.ref 35), .inl a, .inr (.ref 35)]) (M1 := M5) (o2 := [(35 < fs_N ∧ fs_kd 35 = 100) ∧ (0 : Int) ≤ a ∧ a < fs_ln 35, fs_rg ((M5 35 a) - (min (M5 37 a) (M5 35 a))), (35 < fs_N ∧ fs_kd 35 = 100) ∧ (0 : Int) ≤ a ∧ a < fs_ln 35, 0 < fs_N ∧ fs_kd 0 = 5, 20 < fs_N ∧ fs_kd 20 = 1, (26 < fs_N ∧ fs_kd 26 = 100) ∧ (0 : Int) ≤ a ∧ a < fs_ln 26, fs_rg ((min (M5 37 a) (M5 35 a)) * (M5 26 a)), fs_rg (c + ((min (M5 37 a) (M5 35 a)) * (M5 26 a))), 2 < 5, 0 < fs_N ∧ fs_kd 0 = 5, 0 < fs_N ∧ fs_kd 0 = 5]) rfl (fs_exA 6 (o1 := [(35 < fs_N ∧ fs_kd 35 = 100) ∧ (0 : Int) ≤ a ∧ a < fs_ln 35, fs_rg ((M5 35 a) - (min (M5 37 a) (M5 35 a))), (35 < fs_N ∧ fs_kd 35 = 100) ∧ (0 : Int) ≤ a ∧ a < fs_ln 35]) (L1 := [some (.inr (.ref 0)), some (.inl h), some (.inl c), some (.inl a), some (.inl (min (M5 37 a) (M5 35 a)))]) (st1 := [.inl (min (M5 37 a) (M5 35 a)), .inl c]) (M1 := (fs_up M5 35 a ((M5 35 a) - (min (M5 37 a) (M5 35 a))))) (o2 := [0 < fs_N ∧ fs_kd 0 = 5, 20 < fs_N ∧ fs_kd 20 = 1, (26 < fs_N ∧ fs_kd 26 = 100) ∧ (0 : Int) ≤ a ∧ a < fs_ln 26, fs_rg ((min (M5 37 a) (M5 35 a)) * (M5 26 a)), fs_rg (c + ((min (M5 37 a) (M5 35 a)) * (M5 26 a))), 2 < 5, 0 < fs_N ∧ fs_kd 0 = 5, 0 < fs_N ∧ fs_kd 0 = 5]) rfl (fs_exA 6 (o1 := [0 < fs_N ∧ fs_kd 0 = 5, 20 < fs_N ∧ fs_kd 20 = 1, (26 < fs_N ∧ fs_kd 26 = 100) ∧ (0 : Int) ≤ a ∧ a < fs_ln 26, fs_rg ((min (M5 37 a) (M5 35 a)) * (M5 26 a))]) (L1 := [some (.inr (.ref 0)), some (.inl h), some (.inl c), some (.inl a), some (.inl (min (M5 37 a) (M5 35 a)))]) (st1 := [.inl ((min (M5 37 a) (M5 35 a)) * (M5 26 a)), .inl c]) (M1 := (fs_up M5 35 a ((M5 35 a) - (min (M5 37 a) (M5 35 a))))) (o2 := [fs_rg (c + ((min (M5 37 a) (M5 35 a)) * (M5 26 a))), 2 < 5, 0 < fs_N ∧ fs_kd 0 = 5, 0 < fs_N ∧ fs_kd 0 = 5]) rfl (fs_exA 6 (o1 := [fs_rg (c + ((min (M5 37 a) (M5 35 a)) * (M5 26 a))), 2 < 5, 0 < fs_N ∧ fs_kd 0 = 5]) (L1 := [some (.inr (.ref 0)), some (.inl h), some (.inl (c + ((min (M5 37 a) (M5 35 a)) * (M5 26 a)))), some (.inl a), some (.inl (min (M5 37 a) (M5 35 a)))]) (st1 := [.inl a, .inl h, .inr (.ref 5)]) (M1 := (fs_up M5 35 a ((M5 35 a) - (min (M5 37 a) (M5 35 a))))) (o2 := [0 < fs_N ∧ fs_kd 0 = 5]) rfl rfl)))) (fs_oc (by decide) (fs_oc fs_ob0 (fs_oc fs_ob34 (fs_oc (fs_ar35 (by omega) (by omega)) (fs_oc ⟨by omega, by omega⟩ (fs_oc (fs_ar35 (by omega) (by omega)) (fs_oc fs_ob0 (fs_oc fs_ob20 (fs_oc (fs_ar26 (by omega) (by omega)) (fs_oc ⟨by omega, by omega⟩ (fs_oc ⟨by omega, by omega⟩ (fs_oc (by decide) (fs_oc fs_ob0 (fs_oc fs_ob0 trivial)))))))))))))) rfl rfl (Nat.le_of_ble_eq_true rfl) ⟨Or.inr (Nat.le_of_ble_eq_true rfl), Or.inr fs_ob5⟩ (by decide) ?_
          refine fs_c_holdingOf (by first | exact Or.inl rfl | exact Or.inr (Or.inl rfl) | assumption) (by omega) (by omega) ?_
          refine fs_r_call (sta := false) (idx := 385) (as := [.inr (.ref 5), .inl h, .inl a, .inl ((M5 8 ((h * 4) + a)) - (min (M5 37 a) (M5 35 a)))]) (rest := []) (L1 := [some (.inr (.ref 0)), some (.inl h), some (.inl (c + ((min (M5 37 a) (M5 35 a)) * (M5 26 a)))), some (.inl a), some (.inl (min (M5 37 a) (M5 35 a)))]) (st1 := [.inl ((M5 8 ((h * 4) + a)) - (min (M5 37 a) (M5 35 a))), .inl a, .inl h, .inr (.ref 5)]) (M1 := (fs_up M5 35 a ((M5 35 a) - (min (M5 37 a) (M5 35 a))))) (ob := [fs_rg ((M5 8 ((h * 4) + a)) - (min (M5 37 a) (M5 35 a)))]) rfl rfl rfl (fs_oc ⟨by omega, by omega⟩ trivial) rfl rfl (Nat.le_of_ble_eq_true rfl) ⟨Or.inr (Nat.le_of_ble_eq_true rfl), Or.inr fs_ob5⟩ (by decide) ?_
          refine fs_c_setHolding (by first | exact Or.inl rfl | exact Or.inr (Or.inl rfl) | assumption) (by omega) (by omega) ?_
          refine fs_r_goto (L1 := [some (.inr (.ref 0)), some (.inl h), some (.inl (c + ((min (M5 37 a) (M5 35 a)) * (M5 26 a)))), some (.inl (a + 1)), some (.inl (min (M5 37 a) (M5 35 a)))]) (st1 := []) (M1 := (fs_up (fs_up M5 35 a ((M5 35 a) - (min (M5 37 a) (M5 35 a)))) 8 ((h * 4) + a) ((M5 8 ((h * 4) + a)) - (min (M5 37 a) (M5 35 a))))) (ob := [fs_rg (a + 1)]) rfl rfl (fs_oc ⟨by omega, by omega⟩ trivial) ?_
          exact ih86 ((c + ((min (M5 37 a) (M5 35 a)) * (M5 26 a)))) ((a + 1)) (some (.inl (min (M5 37 a) (M5 35 a)))) (fs_up (fs_up M5 35 a ((M5 35 a) - (min (M5 37 a) (M5 35 a)))) 8 ((h * 4) + a) ((M5 8 ((h * 4) + a)) - (min (M5 37 a) (M5 35 a)))) (by omega) (by rw [ms, m9, c0]; omega) (by rw [ms]; omega) (fun r q1 q2 => by rw [fs_up_other q1, fs_up_other q2]; exact f5 r q1 q2) (fun q q0 q1 => by rw [fs_up_other (by decide), fs_up_at]; by_cases z : q = a; (rw [if_pos z, if_pos (by omega), nx, lx, z, lv_l_s (by omega)]); (rw [if_neg z, l5 q q0 q1]; by_cases w : q < a; (rw [if_pos w, if_pos (by omega)]); (rw [if_neg w, if_neg (by omega)]))) (fun x y x0 x1 y0 y1 => by
                 rw [fs_up_at]
                 by_cases z : x * 4 + y = h * 4 + a
                 · have zx : x = h := by omega
                   have zy : y = a := by omega
                   have h9 := h5 h a (by omega) (by omega) (by omega) (by omega)
                   rw [if_neg (by omega)] at h9
                   rw [if_pos z, if_pos (by omega), nx, zx, zy, ← h9]
                 · rw [if_neg z, fs_up_other (by decide), h5 x y x0 x1 y0 y1]
                   by_cases w : x = h ∧ y < a
                   · rw [if_pos w, if_pos (by omega)]
                   · rw [if_neg w, if_neg (by omega)]) (by omega)
      exact loop86 (((N 0 - (0)) : Int) + 1).toNat ((R 7 ((h * 5) + 0))) (0) (zl4) R (by omega) (by rw [c70]; show _ = _ + 0; omega) (⟨by show (0 : Int) ≤ 0; omega, by show (0 : Int) ≤ 12000 * 0; omega⟩) (fun r _ _ => rfl) (fun q q0 q1 => by rw [if_neg (by omega)]; exact r35 q q0 q1) (fun x y _ _ _ _ => by rw [if_neg (by omega)]) (by omega)
  exact loop24 (((N 1 - (0)) : Int) + 1).toNat (0) (none) (none) (none) (fs_up (fs_cp P 33 35 4) 34 1 (P 32 1)) (by omega) (fun r q1 q2 q3 q4 q5 q6 => by rw [fs_up_other q4, fs_cp_o q5]; exact pf r q3) (fun q q0 q1 => by rw [fs_up_other (by decide), fs_cp_o (by decide), pp q q0 (by have w := hd.n0; have w2 : ec_pl N 0 0 = N 0 := rfl; omega), hd.2.1.price q0 (by have w := hd.n0; have w2 : ec_pl N 0 0 = N 0 := rfl; show q < M 20 0; omega)]; unfold lv_c; rw [← hd.2.2.1, sst_at ⟨q0, by omega⟩]) (fun q q0 q1 => by rw [fs_up_other (by decide), fs_cp_i q0 (by omega), pf 33 (by decide)]; show M 33 q = lv_S N q; rw [← hd.2.2.1, sst_at ⟨q0, by omega⟩]) (by rw [lvA_0]; exact hV.fr (fun r q1 q2 => by rw [fs_up_other (by omega), fs_cp_o (by omega)]; exact pf r (by omega))) (by omega)

theorem fs_c_live {d : Nat} {M : fs_M} {Q : Option fs_V → fs_M → Prop}  {N : Int → Int} {n : Int} {U : Int → Int → Int} (hV : vw 5 M N) (hN : fs_NI N) (hU : us M n U) (hq0 : ∀ (M2 : fs_M), (lv_is N) → (ca M M2 (lv_row N) n U N) → Q (some (.inl (lv_S N 0 + lv_S N 1 + lv_S N 2 + lv_S N 3))) M2) (hq1 : ∀ (M2 : fs_M), (¬ lv_is N) → (cq M M2) → Q (some (.inl (-1))) M2) : fs_W (d + 6) 89 0 [some (.inr (.ref 0)), none, none] [] M Q := by
  obtain ⟨v0, v1, vcv, vfc, vhd, vln, vlc, vit⟩ := vw5 hV
  obtain ⟨⟨hA0, hA1⟩, ⟨hH0, hH1⟩, hcv, hfc, hhd, hln, hsh, hit, hst⟩ := id hN
  refine fs_r_call (sta := false) (idx := 181) (as := [.inr (.ref 0), .inl 1]) (rest := []) (L1 := [some (.inr (.ref 0)), none, none]) (st1 := [.inl 1, .inr (.ref 0)]) (M1 := M) (ob := []) rfl rfl rfl trivial rfl rfl (Nat.le_of_ble_eq_true rfl) ⟨Or.inr (Nat.le_of_ble_eq_true rfl), Or.inr fs_ob0⟩ (by decide) ?_
  refine fs_c_find (N := N) (by assumption) (by assumption) (by omega) (fun (x : Int) (V : fs_M) (q1 : cq M V) (d1 : fdE V (ec_pl N) (ec_std (ec_pl N) 1)) (k1 : (1 = 1 → x = (ec_k (ec_pl N) (ec_calm (ec_pl N)) : Nat)) ∧ (1 = 2 → x = (ec_k (ec_pl N) (ec_panic (ec_pl N)) : Nat))) => ?_)
  have d9 : fdE V (ec_pl N) (lv_S N) := d1
  have sv : ∀ q, 0 ≤ q → q < 4 → V 33 q = lv_S N q := fun q q0 q1 => by rw [← d9.2.2.1, sst_at ⟨q0, q1⟩]
  have s0 := sv 0 (by omega) (by omega)
  have s1 := sv 1 (by omega) (by omega)
  have s2 := sv 2 (by omega) (by omega)
  have s3 := sv 3 (by omega) (by omega)
  have s4 : V 32 1 = lv_S N 4 := d9.fa
  have hV2 : vw 5 V N := q1.vw hV
  have hU2 : us V n U := hU.fr ⟨by rw [q1 0 (by decide)], by rw [q1 0 (by decide)]⟩ (fun r z1 z2 => q1 r (by omega))
  refine fs_r_call (sta := false) (idx := 185) (as := [.inr (.ref 32)]) (rest := []) (L1 := [some (.inr (.ref 0)), none, none]) (st1 := [.inr (.ref 32)]) (M1 := V) (ob := [0 < fs_N ∧ fs_kd 0 = 5]) rfl rfl rfl (fs_oc fs_ob0 trivial) rfl rfl (Nat.le_of_ble_eq_true rfl) ⟨Or.inr (Nat.le_of_ble_eq_true rfl), Or.inr fs_ob32⟩ (by decide) ?_
  refine fs_c_allSold (d9.S) ?_
  refine fs_r_if (a := (V 33 0 + V 33 1 + V 33 2 + V 33 3)) (L1 := [some (.inr (.ref 0)), none, none]) (st1 := []) (M1 := V) (ob := []) rfl rfl trivial (fun (h1 : ¬ (V 33 0 + V 33 1 + V 33 2 + V 33 3) = 0) => ?_) (fun (h1 : ¬ (¬ (V 33 0 + V 33 1 + V 33 2 + V 33 3) = 0)) => ?_)
  · refine fs_r_call (sta := false) (idx := 99) (as := [.inr (.ref 0)]) (rest := []) (L1 := [some (.inr (.ref 0)), none, none]) (st1 := [.inr (.ref 0)]) (M1 := V) (ob := []) rfl rfl rfl trivial rfl rfl (Nat.le_of_ble_eq_true rfl) ⟨Or.inr (Nat.le_of_ble_eq_true rfl), Or.inr fs_ob0⟩ (by decide) ?_
    refine fs_c_remember (N := N) (n := n) (U := U) (hV2) (by assumption) (hU2) (fun (V1 : fs_M) (rf : ∀ r, r ≠ 0 → (r < 40 ∨ 123 < r) → V1 r = V r) (ru : us V1 (us_n n) (us_u n U N)) => ?_)
    have d2 : fdE V1 (ec_pl N) (lv_S N) := d9.fr (fun r z1 z2 z3 => rf r (by omega) (by omega))
    refine fs_r_call (sta := false) (idx := 191) (as := [.inr (.ref 0)]) (rest := []) (L1 := [some (.inr (.ref 0)), none, none]) (st1 := [.inr (.ref 0)]) (M1 := V1) (ob := []) rfl rfl rfl trivial rfl rfl (Nat.le_of_ble_eq_true rfl) ⟨Or.inr (Nat.le_of_ble_eq_true rfl), Or.inr fs_ob0⟩ (by decide) ?_
    refine fs_c_sellAsFound (N := N) (hV2.fr (fun r z1 z2 => rf r (by omega) (by omega))) (by assumption) (d2) (fun (T : fs_M) (tf : ∀ r, r ≠ 7 → r ≠ 8 → r ≠ 26 → r ≠ 34 → r ≠ 35 → r ≠ 37 → T r = V1 r) (tv : vw 5 T (lvA N (N 1))) => ?_)
    have t51 : T 5 1 = N 1 := by { rw [tf 5 (by decide) (by decide) (by decide) (by decide) (by decide) (by decide), rf 5 (by decide) (by decide)]; exact (vw5 hV2).2.1 }
    have t50 : T 5 0 = N 0 := by { rw [tf 5 (by decide) (by decide) (by decide) (by decide) (by decide) (by decide), rf 5 (by decide) (by decide)]; exact (vw5 hV2).1 }
    have t32 : T 32 = V 32 := (tf 32 (by decide) (by decide) (by decide) (by decide) (by decide) (by decide)).trans (rf 32 (by decide) (by decide))
    have t33 : T 33 = V 33 := (tf 33 (by decide) (by decide) (by decide) (by decide) (by decide) (by decide)).trans (rf 33 (by decide) (by decide))
    refine fs_r_nop (L1 := [some (.inr (.ref 0)), some (.inl 0), none]) (st1 := []) (M1 := T) (ob := [1 < 3]) rfl rfl (fs_oc (by decide) trivial) ?_
    have loop38 : ∀ (n38 : Nat) (h : Int) (zl2 : Option fs_V) (M4 : fs_M), (0 ≤ h ∧ h ≤ N 1) → (∀ r, r ≠ 7 → r ≠ 8 → r ≠ 9 → M4 r = T r) → (vw 5 M4 (lvB N h)) → N 1 - h < (n38 : Int) → fs_W (d + 6) 89 38 [some (.inr (.ref 0)), some (.inl h), zl2] [] M4 Q := by
      intro n38
      induction n38 with
      | zero =>
        intro h zl2 M4 i4 f4 v4 hm38
        exfalso
        omega
      | succ n38 ih38 =>
        intro h zl2 M4 i4 f4 v4 hm38
        have g51 : M4 5 1 = T 5 1 := by rw [f4 5 (by decide) (by decide) (by decide)]
        have x4 : M4 32 1 = lv_S N 4 := by rw [f4 32 (by decide) (by decide) (by decide), t32]; exact s4
        have lf : lv_f N h ↔ fs_bt (M4 32 1) h = 1 := by rw [x4]; exact Iff.rfl
        refine fs_r_icmp (a := h) (y := (M4 5 1)) (L1 := [some (.inr (.ref 0)), some (.inl h), zl2]) (st1 := []) (M1 := M4) (ob := [0 < fs_N ∧ fs_kd 0 = 5, 5 < fs_N ∧ fs_kd 5 = 0]) rfl rfl (fs_oc fs_ob0 (fs_oc fs_ob5 trivial)) (fun (h2 : (M4 5 1) ≤ h) => ?_) (fun (h2 : ¬ ((M4 5 1) ≤ h)) => ?_)
        · refine fs_r_nop (L1 := [some (.inr (.ref 0)), some (.inl 0), zl2]) (st1 := []) (M1 := M4) (ob := [1 < 3]) rfl rfl (fs_oc (by decide) trivial) ?_
          have loop76 : ∀ (n76 : Nat) (a : Int) (zl2 : Option fs_V) (M6 : fs_M), (0 ≤ a ∧ a ≤ N 0) → (∀ r, r ≠ 6 → M6 r = M4 r) → (vw 5 M6 (lvC N a)) → N 0 - a < (n76 : Int) → fs_W (d + 6) 89 76 [some (.inr (.ref 0)), some (.inl a), zl2] [] M6 Q := by
            intro n76
            induction n76 with
            | zero =>
              intro a zl2 M6 i6 f6 v6 hm76
              exfalso
              omega
            | succ n76 ih76 =>
              intro a zl2 M6 i6 f6 v6 hm76
              have g50 : M6 5 0 = T 5 0 := by rw [f6 5 (by decide), f4 5 (by decide) (by decide) (by decide)]
              refine fs_r_icmp (a := a) (y := (M6 5 0)) (L1 := [some (.inr (.ref 0)), some (.inl a), zl2]) (st1 := []) (M1 := M6) (ob := [0 < fs_N ∧ fs_kd 0 = 5, 5 < fs_N ∧ fs_kd 5 = 0]) rfl rfl (fs_oc fs_ob0 (fs_oc fs_ob5 trivial)) (fun (h3 : (M6 5 0) ≤ a) => ?_) (fun (h3 : ¬ ((M6 5 0) ≤ a)) => ?_)
              · refine fs_r_call (sta := false) (idx := 185) (as := [.inr (.ref 32)]) (rest := []) (L1 := [some (.inr (.ref 0)), some (.inl a), zl2]) (st1 := [.inr (.ref 32)]) (M1 := M6) (ob := [0 < fs_N ∧ fs_kd 0 = 5]) rfl rfl rfl (fs_oc fs_ob0 trivial) rfl rfl (Nat.le_of_ble_eq_true rfl) ⟨Or.inr (Nat.le_of_ble_eq_true rfl), Or.inr fs_ob32⟩ (by decide) ?_
                refine fs_c_allSold (by have z := d9.S; unfold sb at *; rw [f6 32 (by decide), f6 (32 + 1) (by decide), f4 32 (by decide) (by decide) (by decide), f4 (32 + 1) (by decide) (by decide) (by decide), t32, show (32 + 1 : Nat) = 33 from rfl, t33]; exact z) ?_
                refine fs_r_iret (a := (M6 33 0 + M6 33 1 + M6 33 2 + M6 33 3)) (L1 := [some (.inr (.ref 0)), some (.inl a), zl2]) (M1 := M6) (ob := []) rfl rfl trivial (Or.inl rfl) ?_
                have e33 : ∀ q, M6 33 q = V 33 q := fun q => by rw [f6 33 (by decide), f4 33 (by decide) (by decide) (by decide), t33]
                refine fs_qi (by rw [e33, e33, e33, e33]; omega) (hq0 _ (fun z => by omega) ⟨by unfold lv_row; rw [show N 0 = a by omega]; exact v6, ru.fr ⟨?_, ?_⟩ (fun r z1 z2 => ?_), fun r z => ?_⟩)
                · rw [f6 0 (by decide), f4 0 (by decide) (by decide) (by decide), tf 0 (by decide) (by decide) (by decide) (by decide) (by decide) (by decide)]
                · rw [f6 0 (by decide), f4 0 (by decide) (by decide) (by decide), tf 0 (by decide) (by decide) (by decide) (by decide) (by decide) (by decide)]
                · rw [f6 r (by omega), f4 r (by omega) (by omega) (by omega), tf r (by omega) (by omega) (by omega) (by omega) (by omega) (by omega)]
                · rw [f6 r (by omega), f4 r (by omega) (by omega) (by omega), tf r (by omega) (by omega) (by omega) (by omega) (by omega) (by omega), rf r (by omega) (by omega)]
                  exact q1 r (by omega)
              obtain ⟨u0, u1, ucv, -⟩ := vw5 v6
              have cv := ucv a (by omega) (by omega)
              have l2 : lvC N a (2 + a) = N (2 + a) := by unfold lvC; rw [if_neg (by omega)]; exact lvB_at (by omega)
              have l6 : lvC N a (6 + a) = N (6 + a) := by unfold lvC; rw [if_neg (by omega)]; exact lvB_at (by omega)
              have e33 : M6 33 a = lv_S N a := by rw [f6 33 (by decide), f4 33 (by decide) (by decide) (by decide), t33]; exact sv a (by omega) (by omega)
              have cb := hcv a (by omega) (by omega)
              have sbb := (lv_S_b hN).1 a (by omega) (by omega)
              have y6 : M6 6 ((a * 2) + 1) = N (6 + a) := by rw [cv.2, l6]
              have y2 : M6 6 ((a * 2) + 0) = N (2 + a) := by rw [cv.1, l2]
              have mu : 0 ≤ (M6 6 ((a * 2) + 1)) * (M6 33 a) ∧ (M6 6 ((a * 2) + 1)) * (M6 33 a) ≤ 9 * 360 := by rw [y6, e33]; exact ⟨Int.mul_nonneg cb.2.1 sbb.1, Int.mul_le_mul cb.2.2 sbb.2 sbb.1 (by omega)⟩
              refine fs_r_call (sta := false) (idx := 200) (as := [.inr (.ref 5), .inl a]) (rest := []) (L1 := [some (.inr (.ref 0)), some (.inl a), zl2]) (st1 := [.inl a, .inr (.ref 5)]) (M1 := M6) (ob := [0 < fs_N ∧ fs_kd 0 = 5]) rfl rfl rfl (fs_oc fs_ob0 trivial) rfl rfl (Nat.le_of_ble_eq_true rfl) ⟨Or.inr (Nat.le_of_ble_eq_true rfl), Or.inr fs_ob5⟩ (by decide) ?_
              refine fs_c_slopeOf (by first | exact Or.inl rfl | exact Or.inr (Or.inl rfl) | assumption) (by omega) ?_
              refine fs_r_call (sta := false) (idx := 206) (as := [.inr (.ref 5), .inl a]) (rest := [.inl 1, .inl a, .inr (.ref 5)]) (L1 := [some (.inr (.ref 0)), some (.inl a), some (.inl ((M6 6 ((a * 2) + 1)) * (M6 33 a)))]) (st1 := [.inl a, .inr (.ref 5), .inl 1, .inl a, .inr (.ref 5)]) (M1 := M6) (ob := [0 < fs_N ∧ fs_kd 0 = 5, 32 < fs_N ∧ fs_kd 32 = 3, (33 < fs_N ∧ fs_kd 33 = 100) ∧ (0 : Int) ≤ a ∧ a < fs_ln 33, fs_rg ((M6 6 ((a * 2) + 1)) * (M6 33 a)), 2 < 3, 0 < fs_N ∧ fs_kd 0 = 5, 0 < fs_N ∧ fs_kd 0 = 5]) rfl rfl (fs_exA 6 (o1 := [0 < fs_N ∧ fs_kd 0 = 5, 32 < fs_N ∧ fs_kd 32 = 3, (33 < fs_N ∧ fs_kd 33 = 100) ∧ (0 : Int) ≤ a ∧ a < fs_ln 33, fs_rg ((M6 6 ((a * 2) + 1)) * (M6 33 a))]) (L1 := [some (.inr (.ref 0)), some (.inl a), zl2]) (st1 := [.inl ((M6 6 ((a * 2) + 1)) * (M6 33 a))]) (M1 := M6) (o2 := [2 < 3, 0 < fs_N ∧ fs_kd 0 = 5, 0 < fs_N ∧ fs_kd 0 = 5]) rfl (fs_exA 6 (o1 := [2 < 3, 0 < fs_N ∧ fs_kd 0 = 5]) (L1 := [some (.inr (.ref 0)), some (.inl a), some (.inl ((M6 6 ((a * 2) + 1)) * (M6 33 a)))]) (st1 := [.inr (.ref 0), .inl 1, .inl a, .inr (.ref 5)]) (M1 := M6) (o2 := [0 < fs_N ∧ fs_kd 0 = 5]) rfl rfl)) (fs_oc fs_ob0 (fs_oc fs_ob32 (fs_oc (fs_ar33 (by omega) (by omega)) (fs_oc ⟨by omega, by omega⟩ (fs_oc (by decide) (fs_oc fs_ob0 (fs_oc fs_ob0 trivial))))))) rfl rfl (Nat.le_of_ble_eq_true rfl) ⟨Or.inr (Nat.le_of_ble_eq_true rfl), Or.inr fs_ob5⟩ (by decide) ?_
              refine fs_c_baseOf (by first | exact Or.inl rfl | exact Or.inr (Or.inl rfl) | assumption) (by omega) ?_
              refine fs_r_nat (v := .inl (max 1 ((M6 6 ((a * 2) + 0)) - ((M6 6 ((a * 2) + 1)) * (M6 33 a))))) (sta := true) (idx := 209) (as := [.inl 1, .inl ((M6 6 ((a * 2) + 0)) - ((M6 6 ((a * 2) + 1)) * (M6 33 a)))]) (rest := [.inl a, .inr (.ref 5)]) (L1 := [some (.inr (.ref 0)), some (.inl a), some (.inl ((M6 6 ((a * 2) + 1)) * (M6 33 a)))]) (st1 := [.inl ((M6 6 ((a * 2) + 0)) - ((M6 6 ((a * 2) + 1)) * (M6 33 a))), .inl 1, .inl a, .inr (.ref 5)]) (M1 := M6) (ob := [fs_rg ((M6 6 ((a * 2) + 0)) - ((M6 6 ((a * 2) + 1)) * (M6 33 a)))]) rfl rfl rfl (fs_oc ⟨by omega, by omega⟩ trivial) rfl rfl (Nat.le_of_ble_eq_true rfl) ⟨Or.inl (by decide), trivial⟩ (by decide) (rfl) ?_
              refine fs_r_call (sta := false) (idx := 212) (as := [.inr (.ref 5), .inl a, .inl (max 1 ((M6 6 ((a * 2) + 0)) - ((M6 6 ((a * 2) + 1)) * (M6 33 a))))]) (rest := []) (L1 := [some (.inr (.ref 0)), some (.inl a), some (.inl ((M6 6 ((a * 2) + 1)) * (M6 33 a)))]) (st1 := [.inl (max 1 ((M6 6 ((a * 2) + 0)) - ((M6 6 ((a * 2) + 1)) * (M6 33 a)))), .inl a, .inr (.ref 5)]) (M1 := M6) (ob := []) rfl rfl rfl trivial rfl rfl (Nat.le_of_ble_eq_true rfl) ⟨Or.inr (Nat.le_of_ble_eq_true rfl), Or.inr fs_ob5⟩ (by decide) ?_
              refine fs_c_setBase (by first | exact Or.inl rfl | exact Or.inr (Or.inl rfl) | assumption) (by omega) ?_
              refine fs_r_goto (L1 := [some (.inr (.ref 0)), some (.inl (a + 1)), some (.inl ((M6 6 ((a * 2) + 1)) * (M6 33 a)))]) (st1 := []) (M1 := (fs_up M6 6 ((a * 2) + 0) (max 1 ((M6 6 ((a * 2) + 0)) - ((M6 6 ((a * 2) + 1)) * (M6 33 a)))))) (ob := [fs_rg (a + 1)]) rfl rfl (fs_oc ⟨by omega, by omega⟩ trivial) ?_
              exact ih76 ((a + 1)) (some (.inl ((M6 6 ((a * 2) + 1)) * (M6 33 a)))) (fs_up M6 6 ((a * 2) + 0) (max 1 ((M6 6 ((a * 2) + 0)) - ((M6 6 ((a * 2) + 1)) * (M6 33 a))))) (by omega) (fun r q => by rw [fs_up_other q]; exact f6 r q) (by
                     have ev : up1 (lvC N a) (2 + a) (max 1 (M6 6 ((a * 2) + 0) - (M6 6 ((a * 2) + 1)) * (M6 33 a))) = lvC N (a + 1) := lvC_s (by omega) (fun q => by
                       unfold up1
                       rw [y2, y6, e33])
                     rw [← ev]
                     exact vw_base v6 (fun s z0 z1 => by have e : lvC N a (100 + 13 * s) = N (100 + 13 * s) := by { unfold lvC; rw [if_neg (by omega)]; exact lvB_at (by omega) }
                                                         rw [e]; exact hsh s z0 z1) (by omega)) (by omega)
          exact loop76 (((N 0 - (0)) : Int) + 1).toNat (0) (zl2) M4 (by omega) (fun r _ => rfl) (by rw [lvC_0, show N 1 = h by omega]; exact v4) (by omega)
        refine fs_r_call (sta := false) (idx := 194) (as := [.inr (.ref 32), .inl h]) (rest := []) (L1 := [some (.inr (.ref 0)), some (.inl h), zl2]) (st1 := [.inl h, .inr (.ref 32)]) (M1 := M4) (ob := [0 < fs_N ∧ fs_kd 0 = 5]) rfl rfl rfl (fs_oc fs_ob0 trivial) rfl rfl (Nat.le_of_ble_eq_true rfl) ⟨Or.inr (Nat.le_of_ble_eq_true rfl), Or.inr fs_ob32⟩ (by decide) ?_
        refine fs_c_isFallen (fun (bt : fs_bt (M4 32 1) h = 1) => ?_) (fun (bt : ¬ (fs_bt (M4 32 1) h = 1)) => ?_)
        · refine fs_r_if (a := 1) (L1 := [some (.inr (.ref 0)), some (.inl h), zl2]) (st1 := []) (M1 := M4) (ob := []) rfl rfl trivial (fun h => absurd h (by decide : ¬ ((1 : Int) = 0))) (fun _ => ?_)
          refine fs_r_call (sta := false) (idx := 197) (as := [.inr (.ref 5), .inl h]) (rest := []) (L1 := [some (.inr (.ref 0)), some (.inl h), zl2]) (st1 := [.inl h, .inr (.ref 5)]) (M1 := M4) (ob := [0 < fs_N ∧ fs_kd 0 = 5]) rfl rfl rfl (fs_oc fs_ob0 trivial) rfl rfl (Nat.le_of_ble_eq_true rfl) ⟨Or.inr (Nat.le_of_ble_eq_true rfl), Or.inr fs_ob5⟩ (by decide) ?_
          refine fs_c_emptyHouse (by omega) (fun (W : fs_M) (wf : ∀ r, r ≠ 7 → r ≠ 8 → r ≠ 9 → W r = M4 r) (w7 : ∀ q, W 7 q = if h * 5 ≤ q ∧ q < h * 5 + 3 then 0 else M4 7 q) (w8 : ∀ q, W 8 q = if h * 4 ≤ q ∧ q < h * 4 + 4 then 0 else M4 8 q) (w9 : ∀ a o, 0 ≤ a → a < 6 → 0 ≤ o → o < 6 → W 9 (a * 6 + o) = if a = h ∨ o = h then 0 else M4 9 (a * 6 + o)) => ?_)
          refine fs_r_goto (L1 := [some (.inr (.ref 0)), some (.inl (h + 1)), zl2]) (st1 := []) (M1 := W) (ob := [fs_rg (h + 1)]) rfl rfl (fs_oc ⟨by omega, by omega⟩ trivial) ?_
          exact ih38 ((h + 1)) (zl2) W (by omega) (fun r z1 z2 z3 => by first | exact f4 r z1 z2 z3 | (rw [wf r z1 z2 z3]; exact f4 r z1 z2 z3)) (by first | (rw [← lvB_f (by omega) (fun z => bt (lf.mp z))]; exact v4) | (rw [← lvB_t (by omega) (lf.mpr bt) (fun q => rfl)]; exact vw_empty v4 (by omega) wf w7 w8 w9)) (by omega)
        refine fs_r_if (a := 0) (L1 := [some (.inr (.ref 0)), some (.inl h), zl2]) (st1 := []) (M1 := M4) (ob := []) rfl rfl trivial (fun _ => ?_) (fun h => absurd (by decide : (0 : Int) = 0) h)
        refine fs_r_goto (L1 := [some (.inr (.ref 0)), some (.inl (h + 1)), zl2]) (st1 := []) (M1 := M4) (ob := [fs_rg (h + 1)]) rfl rfl (fs_oc ⟨by omega, by omega⟩ trivial) ?_
        exact ih38 ((h + 1)) (zl2) M4 (by omega) (fun r z1 z2 z3 => by first | exact f4 r z1 z2 z3 | (rw [wf r z1 z2 z3]; exact f4 r z1 z2 z3)) (by first | (rw [← lvB_f (by omega) (fun z => bt (lf.mp z))]; exact v4) | (rw [← lvB_t (by omega) (lf.mpr bt) (fun q => rfl)]; exact vw_empty v4 (by omega) wf w7 w8 w9)) (by omega)
    exact loop38 (((N 1 - (0)) : Int) + 1).toNat (0) (none) T (by omega) (fun r _ _ _ => rfl) (by rw [lvB_0]; exact tv) (by omega)
  refine fs_r_if (a := (V 32 1)) (L1 := [some (.inr (.ref 0)), none, none]) (st1 := []) (M1 := V) (ob := [0 < fs_N ∧ fs_kd 0 = 5, 32 < fs_N ∧ fs_kd 32 = 3]) rfl rfl (fs_oc fs_ob0 (fs_oc fs_ob32 trivial)) (fun (h4 : ¬ (V 32 1) = 0) => ?_) (fun (h4 : ¬ (¬ (V 32 1) = 0)) => ?_)
  · refine fs_r_call (sta := false) (idx := 99) (as := [.inr (.ref 0)]) (rest := []) (L1 := [some (.inr (.ref 0)), none, none]) (st1 := [.inr (.ref 0)]) (M1 := V) (ob := []) rfl rfl rfl trivial rfl rfl (Nat.le_of_ble_eq_true rfl) ⟨Or.inr (Nat.le_of_ble_eq_true rfl), Or.inr fs_ob0⟩ (by decide) ?_
    refine fs_c_remember (N := N) (n := n) (U := U) (hV2) (by assumption) (hU2) (fun (V1 : fs_M) (rf : ∀ r, r ≠ 0 → (r < 40 ∨ 123 < r) → V1 r = V r) (ru : us V1 (us_n n) (us_u n U N)) => ?_)
    have d2 : fdE V1 (ec_pl N) (lv_S N) := d9.fr (fun r z1 z2 z3 => rf r (by omega) (by omega))
    refine fs_r_call (sta := false) (idx := 191) (as := [.inr (.ref 0)]) (rest := []) (L1 := [some (.inr (.ref 0)), none, none]) (st1 := [.inr (.ref 0)]) (M1 := V1) (ob := []) rfl rfl rfl trivial rfl rfl (Nat.le_of_ble_eq_true rfl) ⟨Or.inr (Nat.le_of_ble_eq_true rfl), Or.inr fs_ob0⟩ (by decide) ?_
    refine fs_c_sellAsFound (N := N) (hV2.fr (fun r z1 z2 => rf r (by omega) (by omega))) (by assumption) (d2) (fun (T : fs_M) (tf : ∀ r, r ≠ 7 → r ≠ 8 → r ≠ 26 → r ≠ 34 → r ≠ 35 → r ≠ 37 → T r = V1 r) (tv : vw 5 T (lvA N (N 1))) => ?_)
    have t51 : T 5 1 = N 1 := by { rw [tf 5 (by decide) (by decide) (by decide) (by decide) (by decide) (by decide), rf 5 (by decide) (by decide)]; exact (vw5 hV2).2.1 }
    have t50 : T 5 0 = N 0 := by { rw [tf 5 (by decide) (by decide) (by decide) (by decide) (by decide) (by decide), rf 5 (by decide) (by decide)]; exact (vw5 hV2).1 }
    have t32 : T 32 = V 32 := (tf 32 (by decide) (by decide) (by decide) (by decide) (by decide) (by decide)).trans (rf 32 (by decide) (by decide))
    have t33 : T 33 = V 33 := (tf 33 (by decide) (by decide) (by decide) (by decide) (by decide) (by decide)).trans (rf 33 (by decide) (by decide))
    refine fs_r_nop (L1 := [some (.inr (.ref 0)), some (.inl 0), none]) (st1 := []) (M1 := T) (ob := [1 < 3]) rfl rfl (fs_oc (by decide) trivial) ?_
    have loop38 : ∀ (n38 : Nat) (h : Int) (zl2 : Option fs_V) (M4 : fs_M), (0 ≤ h ∧ h ≤ N 1) → (∀ r, r ≠ 7 → r ≠ 8 → r ≠ 9 → M4 r = T r) → (vw 5 M4 (lvB N h)) → N 1 - h < (n38 : Int) → fs_W (d + 6) 89 38 [some (.inr (.ref 0)), some (.inl h), zl2] [] M4 Q := by
      intro n38
      induction n38 with
      | zero =>
        intro h zl2 M4 i4 f4 v4 hm38
        exfalso
        omega
      | succ n38 ih38 =>
        intro h zl2 M4 i4 f4 v4 hm38
        have g51 : M4 5 1 = T 5 1 := by rw [f4 5 (by decide) (by decide) (by decide)]
        have x4 : M4 32 1 = lv_S N 4 := by rw [f4 32 (by decide) (by decide) (by decide), t32]; exact s4
        have lf : lv_f N h ↔ fs_bt (M4 32 1) h = 1 := by rw [x4]; exact Iff.rfl
        refine fs_r_icmp (a := h) (y := (M4 5 1)) (L1 := [some (.inr (.ref 0)), some (.inl h), zl2]) (st1 := []) (M1 := M4) (ob := [0 < fs_N ∧ fs_kd 0 = 5, 5 < fs_N ∧ fs_kd 5 = 0]) rfl rfl (fs_oc fs_ob0 (fs_oc fs_ob5 trivial)) (fun (h5 : (M4 5 1) ≤ h) => ?_) (fun (h5 : ¬ ((M4 5 1) ≤ h)) => ?_)
        · refine fs_r_nop (L1 := [some (.inr (.ref 0)), some (.inl 0), zl2]) (st1 := []) (M1 := M4) (ob := [1 < 3]) rfl rfl (fs_oc (by decide) trivial) ?_
          have loop76 : ∀ (n76 : Nat) (a : Int) (zl2 : Option fs_V) (M6 : fs_M), (0 ≤ a ∧ a ≤ N 0) → (∀ r, r ≠ 6 → M6 r = M4 r) → (vw 5 M6 (lvC N a)) → N 0 - a < (n76 : Int) → fs_W (d + 6) 89 76 [some (.inr (.ref 0)), some (.inl a), zl2] [] M6 Q := by
            intro n76
            induction n76 with
            | zero =>
              intro a zl2 M6 i6 f6 v6 hm76
              exfalso
              omega
            | succ n76 ih76 =>
              intro a zl2 M6 i6 f6 v6 hm76
              have g50 : M6 5 0 = T 5 0 := by rw [f6 5 (by decide), f4 5 (by decide) (by decide) (by decide)]
              refine fs_r_icmp (a := a) (y := (M6 5 0)) (L1 := [some (.inr (.ref 0)), some (.inl a), zl2]) (st1 := []) (M1 := M6) (ob := [0 < fs_N ∧ fs_kd 0 = 5, 5 < fs_N ∧ fs_kd 5 = 0]) rfl rfl (fs_oc fs_ob0 (fs_oc fs_ob5 trivial)) (fun (h6 : (M6 5 0) ≤ a) => ?_) (fun (h6 : ¬ ((M6 5 0) ≤ a)) => ?_)
              · refine fs_r_call (sta := false) (idx := 185) (as := [.inr (.ref 32)]) (rest := []) (L1 := [some (.inr (.ref 0)), some (.inl a), zl2]) (st1 := [.inr (.ref 32)]) (M1 := M6) (ob := [0 < fs_N ∧ fs_kd 0 = 5]) rfl rfl rfl (fs_oc fs_ob0 trivial) rfl rfl (Nat.le_of_ble_eq_true rfl) ⟨Or.inr (Nat.le_of_ble_eq_true rfl), Or.inr fs_ob32⟩ (by decide) ?_
                refine fs_c_allSold (by have z := d9.S; unfold sb at *; rw [f6 32 (by decide), f6 (32 + 1) (by decide), f4 32 (by decide) (by decide) (by decide), f4 (32 + 1) (by decide) (by decide) (by decide), t32, show (32 + 1 : Nat) = 33 from rfl, t33]; exact z) ?_
                refine fs_r_iret (a := (M6 33 0 + M6 33 1 + M6 33 2 + M6 33 3)) (L1 := [some (.inr (.ref 0)), some (.inl a), zl2]) (M1 := M6) (ob := []) rfl rfl trivial (Or.inl rfl) ?_
                have e33 : ∀ q, M6 33 q = V 33 q := fun q => by rw [f6 33 (by decide), f4 33 (by decide) (by decide) (by decide), t33]
                refine fs_qi (by rw [e33, e33, e33, e33]; omega) (hq0 _ (fun z => by omega) ⟨by unfold lv_row; rw [show N 0 = a by omega]; exact v6, ru.fr ⟨?_, ?_⟩ (fun r z1 z2 => ?_), fun r z => ?_⟩)
                · rw [f6 0 (by decide), f4 0 (by decide) (by decide) (by decide), tf 0 (by decide) (by decide) (by decide) (by decide) (by decide) (by decide)]
                · rw [f6 0 (by decide), f4 0 (by decide) (by decide) (by decide), tf 0 (by decide) (by decide) (by decide) (by decide) (by decide) (by decide)]
                · rw [f6 r (by omega), f4 r (by omega) (by omega) (by omega), tf r (by omega) (by omega) (by omega) (by omega) (by omega) (by omega)]
                · rw [f6 r (by omega), f4 r (by omega) (by omega) (by omega), tf r (by omega) (by omega) (by omega) (by omega) (by omega) (by omega), rf r (by omega) (by omega)]
                  exact q1 r (by omega)
              obtain ⟨u0, u1, ucv, -⟩ := vw5 v6
              have cv := ucv a (by omega) (by omega)
              have l2 : lvC N a (2 + a) = N (2 + a) := by unfold lvC; rw [if_neg (by omega)]; exact lvB_at (by omega)
              have l6 : lvC N a (6 + a) = N (6 + a) := by unfold lvC; rw [if_neg (by omega)]; exact lvB_at (by omega)
              have e33 : M6 33 a = lv_S N a := by rw [f6 33 (by decide), f4 33 (by decide) (by decide) (by decide), t33]; exact sv a (by omega) (by omega)
              have cb := hcv a (by omega) (by omega)
              have sbb := (lv_S_b hN).1 a (by omega) (by omega)
              have y6 : M6 6 ((a * 2) + 1) = N (6 + a) := by rw [cv.2, l6]
              have y2 : M6 6 ((a * 2) + 0) = N (2 + a) := by rw [cv.1, l2]
              have mu : 0 ≤ (M6 6 ((a * 2) + 1)) * (M6 33 a) ∧ (M6 6 ((a * 2) + 1)) * (M6 33 a) ≤ 9 * 360 := by rw [y6, e33]; exact ⟨Int.mul_nonneg cb.2.1 sbb.1, Int.mul_le_mul cb.2.2 sbb.2 sbb.1 (by omega)⟩
              refine fs_r_call (sta := false) (idx := 200) (as := [.inr (.ref 5), .inl a]) (rest := []) (L1 := [some (.inr (.ref 0)), some (.inl a), zl2]) (st1 := [.inl a, .inr (.ref 5)]) (M1 := M6) (ob := [0 < fs_N ∧ fs_kd 0 = 5]) rfl rfl rfl (fs_oc fs_ob0 trivial) rfl rfl (Nat.le_of_ble_eq_true rfl) ⟨Or.inr (Nat.le_of_ble_eq_true rfl), Or.inr fs_ob5⟩ (by decide) ?_
              refine fs_c_slopeOf (by first | exact Or.inl rfl | exact Or.inr (Or.inl rfl) | assumption) (by omega) ?_
              refine fs_r_call (sta := false) (idx := 206) (as := [.inr (.ref 5), .inl a]) (rest := [.inl 1, .inl a, .inr (.ref 5)]) (L1 := [some (.inr (.ref 0)), some (.inl a), some (.inl ((M6 6 ((a * 2) + 1)) * (M6 33 a)))]) (st1 := [.inl a, .inr (.ref 5), .inl 1, .inl a, .inr (.ref 5)]) (M1 := M6) (ob := [0 < fs_N ∧ fs_kd 0 = 5, 32 < fs_N ∧ fs_kd 32 = 3, (33 < fs_N ∧ fs_kd 33 = 100) ∧ (0 : Int) ≤ a ∧ a < fs_ln 33, fs_rg ((M6 6 ((a * 2) + 1)) * (M6 33 a)), 2 < 3, 0 < fs_N ∧ fs_kd 0 = 5, 0 < fs_N ∧ fs_kd 0 = 5]) rfl rfl (fs_exA 6 (o1 := [0 < fs_N ∧ fs_kd 0 = 5, 32 < fs_N ∧ fs_kd 32 = 3, (33 < fs_N ∧ fs_kd 33 = 100) ∧ (0 : Int) ≤ a ∧ a < fs_ln 33, fs_rg ((M6 6 ((a * 2) + 1)) * (M6 33 a))]) (L1 := [some (.inr (.ref 0)), some (.inl a), zl2]) (st1 := [.inl ((M6 6 ((a * 2) + 1)) * (M6 33 a))]) (M1 := M6) (o2 := [2 < 3, 0 < fs_N ∧ fs_kd 0 = 5, 0 < fs_N ∧ fs_kd 0 = 5]) rfl (fs_exA 6 (o1 := [2 < 3, 0 < fs_N ∧ fs_kd 0 = 5]) (L1 := [some (.inr (.ref 0)), some (.inl a), some (.inl ((M6 6 ((a * 2) + 1)) * (M6 33 a)))]) (st1 := [.inr (.ref 0), .inl 1, .inl a, .inr (.ref 5)]) (M1 := M6) (o2 := [0 < fs_N ∧ fs_kd 0 = 5]) rfl rfl)) (fs_oc fs_ob0 (fs_oc fs_ob32 (fs_oc (fs_ar33 (by omega) (by omega)) (fs_oc ⟨by omega, by omega⟩ (fs_oc (by decide) (fs_oc fs_ob0 (fs_oc fs_ob0 trivial))))))) rfl rfl (Nat.le_of_ble_eq_true rfl) ⟨Or.inr (Nat.le_of_ble_eq_true rfl), Or.inr fs_ob5⟩ (by decide) ?_
              refine fs_c_baseOf (by first | exact Or.inl rfl | exact Or.inr (Or.inl rfl) | assumption) (by omega) ?_
              refine fs_r_nat (v := .inl (max 1 ((M6 6 ((a * 2) + 0)) - ((M6 6 ((a * 2) + 1)) * (M6 33 a))))) (sta := true) (idx := 209) (as := [.inl 1, .inl ((M6 6 ((a * 2) + 0)) - ((M6 6 ((a * 2) + 1)) * (M6 33 a)))]) (rest := [.inl a, .inr (.ref 5)]) (L1 := [some (.inr (.ref 0)), some (.inl a), some (.inl ((M6 6 ((a * 2) + 1)) * (M6 33 a)))]) (st1 := [.inl ((M6 6 ((a * 2) + 0)) - ((M6 6 ((a * 2) + 1)) * (M6 33 a))), .inl 1, .inl a, .inr (.ref 5)]) (M1 := M6) (ob := [fs_rg ((M6 6 ((a * 2) + 0)) - ((M6 6 ((a * 2) + 1)) * (M6 33 a)))]) rfl rfl rfl (fs_oc ⟨by omega, by omega⟩ trivial) rfl rfl (Nat.le_of_ble_eq_true rfl) ⟨Or.inl (by decide), trivial⟩ (by decide) (rfl) ?_
              refine fs_r_call (sta := false) (idx := 212) (as := [.inr (.ref 5), .inl a, .inl (max 1 ((M6 6 ((a * 2) + 0)) - ((M6 6 ((a * 2) + 1)) * (M6 33 a))))]) (rest := []) (L1 := [some (.inr (.ref 0)), some (.inl a), some (.inl ((M6 6 ((a * 2) + 1)) * (M6 33 a)))]) (st1 := [.inl (max 1 ((M6 6 ((a * 2) + 0)) - ((M6 6 ((a * 2) + 1)) * (M6 33 a)))), .inl a, .inr (.ref 5)]) (M1 := M6) (ob := []) rfl rfl rfl trivial rfl rfl (Nat.le_of_ble_eq_true rfl) ⟨Or.inr (Nat.le_of_ble_eq_true rfl), Or.inr fs_ob5⟩ (by decide) ?_
              refine fs_c_setBase (by first | exact Or.inl rfl | exact Or.inr (Or.inl rfl) | assumption) (by omega) ?_
              refine fs_r_goto (L1 := [some (.inr (.ref 0)), some (.inl (a + 1)), some (.inl ((M6 6 ((a * 2) + 1)) * (M6 33 a)))]) (st1 := []) (M1 := (fs_up M6 6 ((a * 2) + 0) (max 1 ((M6 6 ((a * 2) + 0)) - ((M6 6 ((a * 2) + 1)) * (M6 33 a)))))) (ob := [fs_rg (a + 1)]) rfl rfl (fs_oc ⟨by omega, by omega⟩ trivial) ?_
              exact ih76 ((a + 1)) (some (.inl ((M6 6 ((a * 2) + 1)) * (M6 33 a)))) (fs_up M6 6 ((a * 2) + 0) (max 1 ((M6 6 ((a * 2) + 0)) - ((M6 6 ((a * 2) + 1)) * (M6 33 a))))) (by omega) (fun r q => by rw [fs_up_other q]; exact f6 r q) (by
                     have ev : up1 (lvC N a) (2 + a) (max 1 (M6 6 ((a * 2) + 0) - (M6 6 ((a * 2) + 1)) * (M6 33 a))) = lvC N (a + 1) := lvC_s (by omega) (fun q => by
                       unfold up1
                       rw [y2, y6, e33])
                     rw [← ev]
                     exact vw_base v6 (fun s z0 z1 => by have e : lvC N a (100 + 13 * s) = N (100 + 13 * s) := by { unfold lvC; rw [if_neg (by omega)]; exact lvB_at (by omega) }
                                                         rw [e]; exact hsh s z0 z1) (by omega)) (by omega)
          exact loop76 (((N 0 - (0)) : Int) + 1).toNat (0) (zl2) M4 (by omega) (fun r _ => rfl) (by rw [lvC_0, show N 1 = h by omega]; exact v4) (by omega)
        refine fs_r_call (sta := false) (idx := 194) (as := [.inr (.ref 32), .inl h]) (rest := []) (L1 := [some (.inr (.ref 0)), some (.inl h), zl2]) (st1 := [.inl h, .inr (.ref 32)]) (M1 := M4) (ob := [0 < fs_N ∧ fs_kd 0 = 5]) rfl rfl rfl (fs_oc fs_ob0 trivial) rfl rfl (Nat.le_of_ble_eq_true rfl) ⟨Or.inr (Nat.le_of_ble_eq_true rfl), Or.inr fs_ob32⟩ (by decide) ?_
        refine fs_c_isFallen (fun (bt : fs_bt (M4 32 1) h = 1) => ?_) (fun (bt : ¬ (fs_bt (M4 32 1) h = 1)) => ?_)
        · refine fs_r_if (a := 1) (L1 := [some (.inr (.ref 0)), some (.inl h), zl2]) (st1 := []) (M1 := M4) (ob := []) rfl rfl trivial (fun h => absurd h (by decide : ¬ ((1 : Int) = 0))) (fun _ => ?_)
          refine fs_r_call (sta := false) (idx := 197) (as := [.inr (.ref 5), .inl h]) (rest := []) (L1 := [some (.inr (.ref 0)), some (.inl h), zl2]) (st1 := [.inl h, .inr (.ref 5)]) (M1 := M4) (ob := [0 < fs_N ∧ fs_kd 0 = 5]) rfl rfl rfl (fs_oc fs_ob0 trivial) rfl rfl (Nat.le_of_ble_eq_true rfl) ⟨Or.inr (Nat.le_of_ble_eq_true rfl), Or.inr fs_ob5⟩ (by decide) ?_
          refine fs_c_emptyHouse (by omega) (fun (W : fs_M) (wf : ∀ r, r ≠ 7 → r ≠ 8 → r ≠ 9 → W r = M4 r) (w7 : ∀ q, W 7 q = if h * 5 ≤ q ∧ q < h * 5 + 3 then 0 else M4 7 q) (w8 : ∀ q, W 8 q = if h * 4 ≤ q ∧ q < h * 4 + 4 then 0 else M4 8 q) (w9 : ∀ a o, 0 ≤ a → a < 6 → 0 ≤ o → o < 6 → W 9 (a * 6 + o) = if a = h ∨ o = h then 0 else M4 9 (a * 6 + o)) => ?_)
          refine fs_r_goto (L1 := [some (.inr (.ref 0)), some (.inl (h + 1)), zl2]) (st1 := []) (M1 := W) (ob := [fs_rg (h + 1)]) rfl rfl (fs_oc ⟨by omega, by omega⟩ trivial) ?_
          exact ih38 ((h + 1)) (zl2) W (by omega) (fun r z1 z2 z3 => by first | exact f4 r z1 z2 z3 | (rw [wf r z1 z2 z3]; exact f4 r z1 z2 z3)) (by first | (rw [← lvB_f (by omega) (fun z => bt (lf.mp z))]; exact v4) | (rw [← lvB_t (by omega) (lf.mpr bt) (fun q => rfl)]; exact vw_empty v4 (by omega) wf w7 w8 w9)) (by omega)
        refine fs_r_if (a := 0) (L1 := [some (.inr (.ref 0)), some (.inl h), zl2]) (st1 := []) (M1 := M4) (ob := []) rfl rfl trivial (fun _ => ?_) (fun h => absurd (by decide : (0 : Int) = 0) h)
        refine fs_r_goto (L1 := [some (.inr (.ref 0)), some (.inl (h + 1)), zl2]) (st1 := []) (M1 := M4) (ob := [fs_rg (h + 1)]) rfl rfl (fs_oc ⟨by omega, by omega⟩ trivial) ?_
        exact ih38 ((h + 1)) (zl2) M4 (by omega) (fun r z1 z2 z3 => by first | exact f4 r z1 z2 z3 | (rw [wf r z1 z2 z3]; exact f4 r z1 z2 z3)) (by first | (rw [← lvB_f (by omega) (fun z => bt (lf.mp z))]; exact v4) | (rw [← lvB_t (by omega) (lf.mpr bt) (fun q => rfl)]; exact vw_empty v4 (by omega) wf w7 w8 w9)) (by omega)
    exact loop38 (((N 1 - (0)) : Int) + 1).toNat (0) (none) T (by omega) (fun r _ _ _ => rfl) (by rw [lvB_0]; exact tv) (by omega)
  refine fs_r_iret (a := (-1)) (L1 := [some (.inr (.ref 0)), none, none]) (M1 := V) (ob := []) rfl rfl trivial (Or.inl rfl) ?_
  exact hq1 _ (fun z => z ⟨by omega, by omega⟩) q1
